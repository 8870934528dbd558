/-! laysOut's step as a whole -/
def LYp (F : Nat → Nat → Int32) (f fo Wn W T : Nat) : Prop := (∀ k, k < W → wP F (pdT F f T) f W k) ∧ (∀ i, i < T → tkOK F f fo Wn W T i)
  ∧ W + smK (fun i => szN F fo Wn 0 (F 84 i).toInt) T ≤ 40 ∧ vsF F f 0 W + smK (fun i => vsN F fo Wn 0 (F 84 i).toInt) T ≤ 40
theorem nd_lt {F : Nat → Nat → Int32} {fo Wn : Nat} {v a : Int} (h : ndA F fo Wn v a) : v = ((0 : Nat) : Int) + 40 ∨ ∃ j : Nat, v = ((0 : Nat) : Int) + j ∧ j < Wn := by
  rcases h.2 with e | ⟨j, e, h1, h2⟩
  · exact Or.inl (by omega)
  · exact Or.inr ⟨j, by omega, h1⟩
theorem sz_pos {F : Nat → Nat → Int32} {fo Wn : Nat} {v : Int} (hW : Wn ≤ 40) (h : v = ((0 : Nat) : Int) + 40 ∨ ∃ j : Nat, v = ((0 : Nat) : Int) + j ∧ j < Wn) : 1 ≤ szN F fo Wn 0 v := by
  rcases h with e | ⟨j, e, hj⟩
  · subst e; rw [szN_0.1]; omega
  · subst e; rw [szN_j (by omega)]; have := eN_gt (F := F) (f := fo) hj; omega
theorem lay_pd {F F2 : Nat → Nat → Int32} {f T T2 : Nat} (hT : T ≤ T2) (h85 : ∀ j, j < T → F2 85 j = F 85 j) (h86 : ∀ j, j < T → F2 86 j = F 86 j) : ∀ k c, pdT F f T k c → pdT F2 f T2 k c := by
  intro k c y
  obtain ⟨i, i1, i2, i3⟩ := y
  exact ⟨i, by omega, by rw [h85 i i1]; exact i2, by unfold twB at *; rw [h86 i i1]; exact i3⟩
/-- what the tasks below the top one weigh does not change -/
theorem lay_sum {F F2 : Nat → Nat → Int32} {f fo Wn W T : Nat} (hWn : Wn ≤ 40) (hag : agF F F2 fo) (qa : ∀ i, i < T + 1 → tkOK F f fo Wn W (T + 1) i) (h84 : ∀ j, j < T → F2 84 j = F 84 j) :
    smK (fun i => szN F2 fo Wn 0 (F2 84 i).toInt) T = smK (fun i => szN F fo Wn 0 (F 84 i).toInt) T ∧ smK (fun i => vsN F2 fo Wn 0 (F2 84 i).toInt) T = smK (fun i => vsN F fo Wn 0 (F 84 i).toInt) T := by
  have key : ∀ i, i < T → szN F2 fo Wn 0 (F2 84 i).toInt = szN F fo Wn 0 (F 84 i).toInt ∧ vsN F2 fo Wn 0 (F2 84 i).toInt = vsN F fo Wn 0 (F 84 i).toInt := by
    intro i hi
    obtain ⟨p, _, _, _, _, _, _, c7, _⟩ := qa i (by omega)
    rw [h84 i hi]
    exact szN_ag hag hWn (nd_lt c7)
  exact ⟨smK_cg T (fun i hi => (key i hi).1), smK_cg T (fun i hi => (key i hi).2)⟩
theorem vsF_old {F F2 : Nat → Nat → Int32} {f : Nat} : ∀ n i, (∀ r, r ∈ [13, 15] → ∀ k, k < i + n → F2 r (40 * f + k) = F r (40 * f + k)) → vsF F2 f i n = vsF F f i n := by
  intro n
  induction n with
  | zero => intro i _; rfl
  | succ n ih => intro i h; unfold vsF; rw [h 13 (by decide) i (by omega), h 15 (by decide) i (by omega), ih (i + 1) (fun r hr k hk => h r hr k (by omega))]
/-- a WORD with no DEED -/
theorem lay_leaf {F F2 : Nat → Nat → Int32} {f fo Wn W T p : Nat} (hWn : Wn ≤ 40) (hag : agF F F2 fo) (q : LYp F f fo Wn W (T + 1)) (hp : p < W) (ep : (F 85 T).toInt = 40 * f + p)
    (h : ∀ j, j < W → arF F2 f j = arF F f j) (hw : arF F2 f W = arF F2 f p + 1)
    (ho : ∀ r, r ∈ [7, 10, 13, 14, 15] → ∀ k, k < W → F2 r (40 * f + k) = F r (40 * f + k))
    (h11 : ∀ k, k < W → if k = p ∧ twB F T = false then (F2 11 (40 * f + k)).toInt = 40 * f + W else F2 11 (40 * f + k) = F 11 (40 * f + k))
    (h12 : ∀ k, k < W → if k = p ∧ twB F T = true then (F2 12 (40 * f + k)).toInt = 40 * f + W else F2 12 (40 * f + k) = F 12 (40 * f + k))
    (h84 : ∀ j, j < T → F2 84 j = F 84 j) (h85 : ∀ j, j < T → F2 85 j = F 85 j) (h86 : ∀ j, j < T → F2 86 j = F 86 j)
    (e7 : 0 ≤ (F2 7 (40 * f + W)).toInt ∧ (F2 7 (40 * f + W)).toInt ≤ 1) (e10 : (F2 10 (40 * f + W)).toInt = 40 * f + p)
    (ev : (F2 13 (40 * f + W)).toInt ≤ (F2 14 (40 * f + W)).toInt ∧ (F2 14 (40 * f + W)).toInt ≤ (F2 15 (40 * f + W)).toInt) (eo : owK F2 f W = 0) : LYp F2 f fo Wn (W + 1) T := by
  obtain ⟨q1, q2, q3, q4⟩ := q
  have hT := q2 T (by omega)
  have har : 0 ≤ arF F f p ∧ arF F f p + 1 ≤ 11 := by
    obtain ⟨p', c1, c2, c3, c4, c5, c6, c7, c8⟩ := hT
    have e : p' = p := by omega
    subst e
    exact ⟨(q1 p' c1).2.1.1, c7.1⟩
  have hpos : 1 ≤ szN F fo Wn 0 (F 84 T).toInt := by
    obtain ⟨p', c1, c2, c3, c4, c5, c6, c7, c8⟩ := hT
    exact sz_pos hWn (nd_lt c7)
  have hs := lay_sum hWn hag q2 h84
  have hfo : ∀ j, j < Wn → arF F2 fo j = arF F fo j := fun j hj => arF_ag hag (by omega)
  have hv := vsF_old (F := F) (F2 := F2) (f := f) W 0 (fun r hr k hk => ho r (by simp only [List.mem_cons, List.not_mem_nil, or_false] at hr ⊢; omega) k (by omega))
  have hpp := h p hp
  refine ⟨fun k hk => ?_, fun i hi => ?_, ?_, ?_⟩
  · rcases Nat.lt_or_ge k W with z | z
    · exact lay_wP hT hp ep h hw ho h11 h12 (lay_pd (Nat.le_refl T) h85 h86) q1 k z
    · have e : k = W := by omega
      subst e
      exact wP_new ⟨e7.1, by omega⟩ (by omega) (Or.inr ⟨p, hp, e10, hw⟩) (fun y => by omega) (fun y => by unfold prK at y; omega) ev
  · exact tk_keep hi (Nat.le_refl T) q2 ep h hw (ho 7 (by decide)) h11 h84 h85 h86 hfo
  · unfold smK at q3
    rw [hs.1]; omega
  · unfold smK at q4
    rw [hs.2, vsF_one, eo, hv]; omega