/-! laysOut's step: a WORD with DEEDS -/
theorem lay_core {F F2 : Nat → Nat → Int32} {f fo Wn W T T2 p : Nat} (hT2 : T ≤ T2) (hWn : Wn ≤ 40) (hag : agF F F2 fo) (q : LYp F f fo Wn W (T + 1)) (hp : p < W) (ep : (F 85 T).toInt = 40 * f + p)
    (h : ∀ j, j < W → arF F2 f j = arF F f j) (hw : arF F2 f W = arF F2 f p + 1)
    (ho : ∀ r, r ∈ [7, 10, 13, 14, 15] → ∀ k, k < W → F2 r (40 * f + k) = F r (40 * f + k))
    (h11 : ∀ k, k < W → if k = p ∧ twB F T = false then (F2 11 (40 * f + k)).toInt = 40 * f + W else F2 11 (40 * f + k) = F 11 (40 * f + k))
    (h12 : ∀ k, k < W → if k = p ∧ twB F T = true then (F2 12 (40 * f + k)).toInt = 40 * f + W else F2 12 (40 * f + k) = F 12 (40 * f + k))
    (h84 : ∀ j, j < T → F2 84 j = F 84 j) (h85 : ∀ j, j < T → F2 85 j = F 85 j) (h86 : ∀ j, j < T → F2 86 j = F 86 j) :
    (∀ k, k < W → wP F2 (pdT F2 f T2) f (W + 1) k) ∧ (∀ i, i < T → tkOK F2 f fo Wn (W + 1) T2 i) ∧ (0 ≤ arF F2 f W ∧ arF F2 f W ≤ 11)
    ∧ (∀ j s : Nat, j < T → (F2 85 j).toInt = 40 * f + s → arF F2 f s ≤ arF F2 f W)
    ∧ W + smK (fun i => szN F2 fo Wn 0 (F2 84 i).toInt) T + szN F fo Wn 0 (F 84 T).toInt ≤ 40 ∧ vsF F2 f 0 W + smK (fun i => vsN F2 fo Wn 0 (F2 84 i).toInt) T + vsN F fo Wn 0 (F 84 T).toInt ≤ 40 := by
  obtain ⟨q1, q2, q3, q4⟩ := q
  have hT := q2 T (by omega)
  have hpp := h p hp
  have har : (0 ≤ arF F f p ∧ arF F f p + 1 ≤ 11) ∧ ∀ j s : Nat, j ≤ T → (F 85 j).toInt = 40 * f + s → arF F f s ≤ arF F f p := by
    obtain ⟨p', c1, c2, c3, c4, c5, c6, c7, c8⟩ := hT
    have e : p' = p := by omega
    subst e
    exact ⟨⟨(q1 p' c1).2.1.1, c7.1⟩, c8⟩
  have hs := lay_sum hWn hag q2 h84
  have hfo : ∀ j, j < Wn → arF F2 fo j = arF F fo j := fun j hj => arF_ag hag (by omega)
  have hv := vsF_old (F := F) (F2 := F2) (f := f) W 0 (fun r hr k hk => ho r (by simp only [List.mem_cons, List.not_mem_nil, or_false] at hr ⊢; omega) k (by omega))
  refine ⟨fun k hk => lay_wP hT hp ep h hw ho h11 h12 (lay_pd hT2 h85 h86) q1 k hk, fun i hi => tk_keep hi hT2 q2 ep h hw (ho 7 (by decide)) h11 h84 h85 h86 hfo, by omega, fun j s hj hs2 => ?_, ?_, ?_⟩
  · rw [h85 j hj] at hs2
    obtain ⟨pj, g1, g2, _⟩ := q2 j (by omega)
    have e3 : s = pj := by omega
    have z := har.2 j s (by omega) hs2
    have z2 := h s (by omega)
    omega
  · unfold smK at q3
    rw [hs.1]; omega
  · unfold smK at q4
    rw [hs.2, hv]; omega
/-- a WORD with one DEED -/
theorem lay_one {F F2 : Nat → Nat → Int32} {f fo Wn W T p : Nat} (hWn : Wn ≤ 40) (hag : agF F F2 fo) (q : LYp F f fo Wn W (T + 1)) (hp : p < W) (ep : (F 85 T).toInt = 40 * f + p)
    (h : ∀ j, j < W → arF F2 f j = arF F f j) (hw : arF F2 f W = arF F2 f p + 1)
    (ho : ∀ r, r ∈ [7, 10, 13, 14, 15] → ∀ k, k < W → F2 r (40 * f + k) = F r (40 * f + k))
    (h11 : ∀ k, k < W → if k = p ∧ twB F T = false then (F2 11 (40 * f + k)).toInt = 40 * f + W else F2 11 (40 * f + k) = F 11 (40 * f + k))
    (h12 : ∀ k, k < W → if k = p ∧ twB F T = true then (F2 12 (40 * f + k)).toInt = 40 * f + W else F2 12 (40 * f + k) = F 12 (40 * f + k))
    (h84 : ∀ j, j < T → F2 84 j = F 84 j) (h85 : ∀ j, j < T → F2 85 j = F 85 j) (h86 : ∀ j, j < T → F2 86 j = F 86 j)
    (e7 : 2 ≤ (F2 7 (40 * f + W)).toInt ∧ (F2 7 (40 * f + W)).toInt ≤ 10) (e10 : (F2 10 (40 * f + W)).toInt = 40 * f + p)
    (ev : (F2 13 (40 * f + W)).toInt ≤ (F2 14 (40 * f + W)).toInt ∧ (F2 14 (40 * f + W)).toInt ≤ (F2 15 (40 * f + W)).toInt) (hnp : ¬ prK F2 f W)
    (t85 : (F2 85 T).toInt = 40 * f + W) (t86 : twB F2 T = false) (hn : ndA F2 fo Wn (F2 84 T).toInt (arF F2 f W + 1))
    (hz : szN F2 fo Wn 0 (F2 84 T).toInt + 1 ≤ szN F fo Wn 0 (F 84 T).toInt) (hvz : vsN F2 fo Wn 0 (F2 84 T).toInt + owK F2 f W ≤ vsN F fo Wn 0 (F 84 T).toInt) : LYp F2 f fo Wn (W + 1) (T + 1) := by
  obtain ⟨k1, k2, k3, k4, k5, k6⟩ := lay_core (T2 := T + 1) (by omega) hWn hag q hp ep h hw ho h11 h12 h84 h85 h86
  refine ⟨fun k hk => ?_, fun i hi => ?_, ?_, ?_⟩
  · rcases Nat.lt_or_ge k W with z | z
    · exact k1 k z
    · have e : k = W := by omega
      subst e
      exact wP_new ⟨by omega, e7.2⟩ k3 (Or.inr ⟨p, hp, e10, hw⟩) (fun y => ⟨T, by omega, t85, t86⟩) (fun y => absurd y hnp) ev
  · rcases Nat.lt_or_ge i T with z | z
    · exact k2 i z
    · have e : i = T := by omega
      subst e
      refine tk_new t85 e7.1 (fun y => by rw [t86] at y; exact absurd y (by decide)) (fun _ y => absurd y hnp) hn (fun j s hj hs => ?_)
      rcases Nat.lt_or_ge j i with x | x
      · exact k4 j s x hs
      · have e2 : j = i := by omega
        subst e2
        have e3 : s = W := by omega
        rw [e3]; exact Int.le_refl _
  · unfold smK; omega
  · unfold smK; rw [vsF_one]; omega
/-- a pair: its second DEED's task below its first one's -/
theorem lay_pair {F F2 : Nat → Nat → Int32} {f fo Wn W T p : Nat} (hWn : Wn ≤ 40) (hag : agF F F2 fo) (q : LYp F f fo Wn W (T + 1)) (hp : p < W) (ep : (F 85 T).toInt = 40 * f + p)
    (h : ∀ j, j < W → arF F2 f j = arF F f j) (hw : arF F2 f W = arF F2 f p + 1)
    (ho : ∀ r, r ∈ [7, 10, 13, 14, 15] → ∀ k, k < W → F2 r (40 * f + k) = F r (40 * f + k))
    (h11 : ∀ k, k < W → if k = p ∧ twB F T = false then (F2 11 (40 * f + k)).toInt = 40 * f + W else F2 11 (40 * f + k) = F 11 (40 * f + k))
    (h12 : ∀ k, k < W → if k = p ∧ twB F T = true then (F2 12 (40 * f + k)).toInt = 40 * f + W else F2 12 (40 * f + k) = F 12 (40 * f + k))
    (h84 : ∀ j, j < T → F2 84 j = F 84 j) (h85 : ∀ j, j < T → F2 85 j = F 85 j) (h86 : ∀ j, j < T → F2 86 j = F 86 j)
    (e7 : 2 ≤ (F2 7 (40 * f + W)).toInt ∧ (F2 7 (40 * f + W)).toInt ≤ 10) (e10 : (F2 10 (40 * f + W)).toInt = 40 * f + p)
    (ev : (F2 13 (40 * f + W)).toInt ≤ (F2 14 (40 * f + W)).toInt ∧ (F2 14 (40 * f + W)).toInt ≤ (F2 15 (40 * f + W)).toInt) (hpr : prK F2 f W)
    (t85 : (F2 85 T).toInt = 40 * f + W) (t86 : twB F2 T = true) (u85 : (F2 85 (T + 1)).toInt = 40 * f + W) (u86 : twB F2 (T + 1) = false)
    (hn : ndA F2 fo Wn (F2 84 T).toInt (arF F2 f W + 1)) (hn2 : ndA F2 fo Wn (F2 84 (T + 1)).toInt (arF F2 f W + 1))
    (hz : szN F2 fo Wn 0 (F2 84 T).toInt + szN F2 fo Wn 0 (F2 84 (T + 1)).toInt + 1 ≤ szN F fo Wn 0 (F 84 T).toInt)
    (hvz : vsN F2 fo Wn 0 (F2 84 T).toInt + vsN F2 fo Wn 0 (F2 84 (T + 1)).toInt + owK F2 f W ≤ vsN F fo Wn 0 (F 84 T).toInt) : LYp F2 f fo Wn (W + 1) (T + 2) := by
  obtain ⟨k1, k2, k3, k4, k5, k6⟩ := lay_core (T2 := T + 2) (by omega) hWn hag q hp ep h hw ho h11 h12 h84 h85 h86
  have ord : ∀ j s : Nat, j ≤ T + 1 → (F2 85 j).toInt = 40 * f + s → arF F2 f s ≤ arF F2 f W := by
    intro j s hj hs
    rcases Nat.lt_or_ge j T with x | x
    · exact k4 j s x hs
    · have e3 : s = W := by
        rcases Nat.lt_or_ge T j with y | y
        · have e2 : j = T + 1 := by omega
          rw [e2] at hs; omega
        · have e2 : j = T := by omega
          rw [e2] at hs; omega
      rw [e3]; exact Int.le_refl _
  refine ⟨fun k hk => ?_, fun i hi => ?_, ?_, ?_⟩
  · rcases Nat.lt_or_ge k W with z | z
    · exact k1 k z
    · have e : k = W := by omega
      subst e
      exact wP_new ⟨by omega, e7.2⟩ k3 (Or.inr ⟨p, hp, e10, hw⟩) (fun y => ⟨T + 1, by omega, u85, u86⟩) (fun y => ⟨T, by omega, t85, t86⟩) ev
  · rcases Nat.lt_or_ge i T with z | z
    · exact k2 i z
    · rcases Nat.lt_or_ge T i with y | y
      · have e : i = T + 1 := by omega
        subst e
        exact tk_new u85 e7.1 (fun y => by rw [u86] at y; exact absurd y (by decide)) (fun _ _ => ⟨T, by omega, t85, t86⟩) hn2 ord
      · have e : i = T := by omega
        subst e
        exact tk_new t85 e7.1 (fun _ => ⟨hpr, i + 1, by omega, by omega, u85, u86⟩) (fun y => by rw [t86] at y; exact absurd y (by decide)) hn (fun j s hj hs => ord j s (by omega) hs)
  · show W + 1 + (smK (fun i => szN F2 fo Wn 0 (F2 84 i).toInt) T + szN F2 fo Wn 0 (F2 84 T).toInt + szN F2 fo Wn 0 (F2 84 (T + 1)).toInt) ≤ 40
    omega
  · rw [vsF_one]
    show vsF F2 f 0 W + owK F2 f W + (smK (fun i => vsN F2 fo Wn 0 (F2 84 i).toInt) T + vsN F2 fo Wn 0 (F2 84 T).toInt + vsN F2 fo Wn 0 (F2 84 (T + 1)).toInt) ≤ 40
    omega