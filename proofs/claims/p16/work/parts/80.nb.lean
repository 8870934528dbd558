/-! laysOut: what a node's DEEDS weigh; its first WORD -/
theorem nd_ag {F F2 : Nat → Nat → Int32} {fo Wn : Nat} {v a : Int} (hag : agF F F2 fo) (hWn : Wn ≤ 40) (q : ndA F fo Wn v a) : ndA F2 fo Wn v a ∧ szN F2 fo Wn 0 v = szN F fo Wn 0 v ∧ vsN F2 fo Wn 0 v = vsN F fo Wn 0 v := by
  refine ⟨⟨q.1, ?_⟩, szN_ag hag hWn (nd_lt q)⟩
  rcases q.2 with e | ⟨j, e, h1, h2⟩
  · exact Or.inl e
  · exact Or.inr ⟨j, e, h1, by rw [arF_ag hag (show j < 40 by omega)]; exact h2⟩
/-- a node with DEEDS stands for a WORD; its DEEDS may be laid, and weigh less -/
theorem lay_ch {F : Nat → Nat → Int32} {fo Wn : Nat} {v a : Int} (hWn : Wn ≤ 40) (hw : ∀ k, k < Wn → wOK F fo Wn k) (hS : SHp F fo Wn 0 (-1)) (nd : ndA F fo Wn v a) (hk : 2 ≤ (F 76 v.toNat).toInt) :
    ∃ j : Nat, v = j ∧ j < Wn ∧ F 76 v.toNat = F 7 (40 * fo + j) ∧ (F 80 v.toNat).toInt = 40 * fo + j
      ∧ (ndA F fo Wn (F 78 v.toNat).toInt (a + 1) ∧ szN F fo Wn 0 (F 78 v.toNat).toInt + 1 ≤ szN F fo Wn 0 v ∧ vsN F fo Wn 0 (F 78 v.toNat).toInt + owK F fo j ≤ vsN F fo Wn 0 v)
      ∧ ((F 76 v.toNat).toInt ≠ 2 → (F 76 v.toNat).toInt ≤ 5 → ndA F fo Wn (F 79 v.toNat).toInt (a + 1) ∧ szN F fo Wn 0 (F 78 v.toNat).toInt + szN F fo Wn 0 (F 79 v.toNat).toInt + 1 ≤ szN F fo Wn 0 v ∧ vsN F fo Wn 0 (F 78 v.toNat).toInt + vsN F fo Wn 0 (F 79 v.toNat).toInt + owK F fo j ≤ vsN F fo Wn 0 v) := by
  rcases nd.2 with e | ⟨j, e, hj, ha⟩
  · exfalso
    have z := hS.1
    rw [show v.toNat = 0 + 40 by omega] at hk
    omega
  · have et : v.toNat = 0 + j := by omega
    obtain ⟨⟨n1, n2, n3, n4, n5⟩, _⟩ := hS.2 j (by omega) hj
    have ez : szN F fo Wn 0 v = eN F fo Wn j - j := by rw [show v = ((0 : Nat) : Int) + j by omega]; exact szN_j (by omega)
    have ez2 : vsN F fo Wn 0 v = vsF F fo j (eN F fo Wn j - j) := by rw [show v = ((0 : Nat) : Int) + j by omega]; exact vsN_j (by omega)
    rw [et] at hk ⊢
    rw [ez, ez2]
    have hk2 : 2 ≤ (F 7 (40 * fo + j)).toInt := by rw [← n2]; exact hk
    refine ⟨j, e, hj, n2, n1, ⟨nd_child hw hj ha hk2 n3, n4 hk2⟩, fun y1 y2 => ?_⟩
    rw [n2] at y1 y2
    have z := n5 ⟨by omega, y2⟩
    exact ⟨nd_child hw hj ha hk2 z.1, z.2⟩
theorem lay0_leaf {F : Nat → Nat → Int32} {f fo Wn : Nat} (e10 : (F 10 (40 * f + 0)).toInt = -1) (e9 : arF F f 0 = 0)
    (ev : (F 13 (40 * f + 0)).toInt ≤ (F 14 (40 * f + 0)).toInt ∧ (F 14 (40 * f + 0)).toInt ≤ (F 15 (40 * f + 0)).toInt) (e7 : 0 ≤ (F 7 (40 * f + 0)).toInt ∧ (F 7 (40 * f + 0)).toInt ≤ 1) (eo : owK F f 0 = 0) : LYp F f fo Wn 1 0 := by
  have hv : vsF F f 0 1 = 0 + owK F f 0 := vsF_one 0
  refine ⟨fun k hk => ?_, fun i hi => by omega, by show 1 + 0 ≤ 40; omega, ?_⟩
  · have e : k = 0 := by omega
    subst e
    exact wP_new ⟨e7.1, by omega⟩ (by omega) (Or.inl ⟨e10, rfl, e9⟩) (fun y => by omega) (fun y => by unfold prK at y; omega) ev
  · show vsF F f 0 1 + 0 ≤ 40
    omega
theorem lay0_one {F : Nat → Nat → Int32} {f fo Wn : Nat} (e10 : (F 10 (40 * f + 0)).toInt = -1) (e9 : arF F f 0 = 0)
    (ev : (F 13 (40 * f + 0)).toInt ≤ (F 14 (40 * f + 0)).toInt ∧ (F 14 (40 * f + 0)).toInt ≤ (F 15 (40 * f + 0)).toInt) (e7 : 2 ≤ (F 7 (40 * f + 0)).toInt ∧ (F 7 (40 * f + 0)).toInt ≤ 10) (hnp : ¬ prK F f 0)
    (t85 : (F 85 0).toInt = 40 * f + (0 : Nat)) (t86 : twB F 0 = false) (hn : ndA F fo Wn (F 84 0).toInt (arF F f 0 + 1))
    (hz : szN F fo Wn 0 (F 84 0).toInt + 1 ≤ 40) (hvz : vsN F fo Wn 0 (F 84 0).toInt + owK F f 0 ≤ 40) : LYp F f fo Wn 1 1 := by
  have hv : vsF F f 0 1 = 0 + owK F f 0 := vsF_one 0
  refine ⟨fun k hk => ?_, fun i hi => ?_, ?_, ?_⟩
  · have e : k = 0 := by omega
    subst e
    exact wP_new ⟨by omega, e7.2⟩ (by omega) (Or.inl ⟨e10, rfl, e9⟩) (fun y => ⟨0, by omega, t85, t86⟩) (fun y => absurd y hnp) ev
  · have e : i = 0 := by omega
    subst e
    refine tk_new t85 e7.1 (fun y => by rw [t86] at y; exact absurd y (by decide)) (fun _ y => absurd y hnp) hn (fun j s hj hs => ?_)
    have e2 : j = 0 := by omega
    subst e2
    have e3 : s = 0 := by omega
    rw [e3]; exact Int.le_refl _
  · show 1 + (0 + szN F fo Wn 0 (F 84 0).toInt) ≤ 40
    omega
  · show vsF F f 0 1 + (0 + vsN F fo Wn 0 (F 84 0).toInt) ≤ 40
    omega
theorem lay0_pair {F : Nat → Nat → Int32} {f fo Wn : Nat} (e10 : (F 10 (40 * f + 0)).toInt = -1) (e9 : arF F f 0 = 0)
    (ev : (F 13 (40 * f + 0)).toInt ≤ (F 14 (40 * f + 0)).toInt ∧ (F 14 (40 * f + 0)).toInt ≤ (F 15 (40 * f + 0)).toInt) (e7 : 2 ≤ (F 7 (40 * f + 0)).toInt ∧ (F 7 (40 * f + 0)).toInt ≤ 10) (hpr : prK F f 0)
    (t85 : (F 85 0).toInt = 40 * f + (0 : Nat)) (t86 : twB F 0 = true) (u85 : (F 85 1).toInt = 40 * f + (0 : Nat)) (u86 : twB F 1 = false)
    (hn : ndA F fo Wn (F 84 0).toInt (arF F f 0 + 1)) (hn2 : ndA F fo Wn (F 84 1).toInt (arF F f 0 + 1))
    (hz : szN F fo Wn 0 (F 84 0).toInt + szN F fo Wn 0 (F 84 1).toInt + 1 ≤ 40) (hvz : vsN F fo Wn 0 (F 84 0).toInt + vsN F fo Wn 0 (F 84 1).toInt + owK F f 0 ≤ 40) : LYp F f fo Wn 1 2 := by
  have hv : vsF F f 0 1 = 0 + owK F f 0 := vsF_one 0
  have ord : ∀ j s : Nat, j ≤ 1 → (F 85 j).toInt = 40 * f + s → arF F f s ≤ arF F f 0 := by
    intro j s hj hs
    have e3 : s = 0 := by
      rcases Nat.lt_or_ge 0 j with y | y
      · have e2 : j = 1 := by omega
        rw [e2] at hs; omega
      · have e2 : j = 0 := by omega
        rw [e2] at hs; omega
    rw [e3]; exact Int.le_refl _
  refine ⟨fun k hk => ?_, fun i hi => ?_, ?_, ?_⟩
  · have e : k = 0 := by omega
    subst e
    exact wP_new ⟨by omega, e7.2⟩ (by omega) (Or.inl ⟨e10, rfl, e9⟩) (fun y => ⟨1, by omega, u85, u86⟩) (fun y => ⟨0, by omega, t85, t86⟩) ev
  · rcases Nat.lt_or_ge 0 i with y | y
    · have e : i = 1 := by omega
      subst e
      exact tk_new u85 e7.1 (fun y => by rw [u86] at y; exact absurd y (by decide)) (fun _ _ => ⟨0, by omega, t85, t86⟩) hn2 ord
    · have e : i = 0 := by omega
      subst e
      exact tk_new t85 e7.1 (fun _ => ⟨hpr, 1, by omega, by omega, u85, u86⟩) (fun y => by rw [t86] at y; exact absurd y (by decide)) hn (fun j s hj hs => ord j s (by omega) hs)
  · show 1 + (0 + szN F fo Wn 0 (F 84 0).toInt + szN F fo Wn 0 (F 84 1).toInt) ≤ 40
    omega
  · show vsF F f 0 1 + (0 + vsN F fo Wn 0 (F 84 0).toInt + vsN F fo Wn 0 (F 84 1).toInt) ≤ 40
    omega