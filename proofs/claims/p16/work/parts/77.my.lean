/-! one step of laysOut -/
/-- a task below the top one stays a task -/
theorem tk_keep {F F2 : Nat → Nat → Int32} {f fo Wn W T T2 p i : Nat} (hi : i < T) (hT2 : T ≤ T2) (qa : ∀ j, j < T + 1 → tkOK F f fo Wn W (T + 1) j) (ep : (F 85 T).toInt = 40 * f + p)
    (h : ∀ j, j < W → arF F2 f j = arF F f j) (hw : arF F2 f W = arF F2 f p + 1) (h7 : ∀ k, k < W → F2 7 (40 * f + k) = F 7 (40 * f + k))
    (h11 : ∀ k, k < W → if k = p ∧ twB F T = false then (F2 11 (40 * f + k)).toInt = 40 * f + W else F2 11 (40 * f + k) = F 11 (40 * f + k))
    (h84 : ∀ j, j < T → F2 84 j = F 84 j) (h85 : ∀ j, j < T → F2 85 j = F 85 j) (h86 : ∀ j, j < T → F2 86 j = F 86 j)
    (hfo : ∀ j, j < Wn → arF F2 fo j = arF F fo j) : tkOK F2 f fo Wn (W + 1) T2 i := by
  obtain ⟨p', c1, c2, c3, c4, c5, c6, c7, c8⟩ := qa T (by omega)
  have e : p' = p := by omega
  subst e
  obtain ⟨r, d1, d2, d3, d4, d5, d6, d7, d8⟩ := qa i (by omega)
  have tb : ∀ j, j < T → twB F2 j = twB F j := fun j hj => by unfold twB; rw [h86 j hj]
  have hin : inn F2 f p' (W + 1) := inn_one (inn_up h c1 c4) (by omega)
  have one0 : twB F T = false → oneA F2 f (W + 1) p' W := by
    intro y
    have z := h11 p' c1
    rw [if_pos ⟨rfl, y⟩] at z
    exact ⟨z, c1, by omega, hw, hin⟩
  have keep : ∀ t, oneA F f W r t → ∃ t2, oneA F2 f (W + 1) r t2 := by
    intro t ht
    by_cases y : r = p' ∧ twB F T = false
    · rw [y.1]; exact ⟨W, one0 y.2⟩
    · have z := h11 r d1
      rw [if_neg y] at z
      exact ⟨t, oneA_up h z ht⟩
  refine ⟨r, by omega, by rw [h85 i hi]; exact d2, by rw [h7 r d1]; exact d3, ?_, ?_, ?_, ?_, ?_⟩
  · have y := c8 i r (by omega) d2
    refine inn_one (inn_up h d1 d4) ?_
    rw [hw, h r d1, h p' c1]; omega
  · rw [tb i hi]
    intro y
    obtain ⟨y1, y2⟩ := d5 y
    refine ⟨by unfold prK at *; rw [h7 r d1]; exact y1, ?_⟩
    rcases y2 with ⟨t, ht⟩ | ⟨j, j1, j2, j3, j4⟩
    · exact Or.inl (keep t ht)
    · by_cases x : j = T
      · rw [x] at j3 j4
        have e2 : r = p' := by omega
        rw [e2]; exact Or.inl ⟨W, one0 j4⟩
      · exact Or.inr ⟨j, j1, by omega, by rw [h85 j (by omega)]; exact j3, by rw [tb j (by omega)]; exact j4⟩
  · rw [tb i hi]
    intro y1 y2
    obtain ⟨j, j1, j2, j3⟩ := d6 y1 (by unfold prK at *; rw [h7 r d1] at y2; exact y2)
    exact ⟨j, j1, by rw [h85 j (by omega)]; exact j2, by rw [tb j (by omega)]; exact j3⟩
  · rw [h84 i hi, h r d1]
    obtain ⟨x1, x2⟩ := d7
    refine ⟨x1, ?_⟩
    rcases x2 with x | ⟨j, x3, x4, x5⟩
    · exact Or.inl x
    · exact Or.inr ⟨j, x3, x4, by rw [hfo j x4]; exact x5⟩
  · intro j s hj hs
    rw [h85 j (by omega)] at hs
    obtain ⟨pj, g1, g2, _⟩ := qa j (by omega)
    have e3 : s = pj := by omega
    rw [h s (by omega), h r d1]; exact d8 j s hj hs
/-- a task that is put on top -/
theorem tk_new {F : Nat → Nat → Int32} {f fo Wn W T i : Nat} (e85 : (F 85 i).toInt = 40 * f + W) (hk : 2 ≤ (F 7 (40 * f + W)).toInt)
    (ht : twB F i = true → prK F f W ∧ ∃ j, i < j ∧ j < T ∧ (F 85 j).toInt = 40 * f + W ∧ twB F j = false)
    (hf : twB F i = false → prK F f W → ∃ j, j < i ∧ (F 85 j).toInt = 40 * f + W ∧ twB F j = true)
    (hn : ndA F fo Wn (F 84 i).toInt (arF F f W + 1)) (ho : ∀ j q : Nat, j ≤ i → (F 85 j).toInt = 40 * f + q → arF F f q ≤ arF F f W) : tkOK F f fo Wn (W + 1) T i :=
  ⟨W, by omega, e85, hk, fun j h1 h2 => by omega, fun y => ⟨(ht y).1, Or.inr (ht y).2⟩, hf, hn, ho⟩
/-- the DEED of a node that may be laid may be laid, one deeper -/
theorem nd_child {F : Nat → Nat → Int32} {fo Wn j : Nat} {v2 a : Int} (hw : ∀ k, k < Wn → wOK F fo Wn k) (hj : j < Wn) (ha : a ≤ arF F fo j) (hk : 2 ≤ (F 7 (40 * fo + j)).toInt) (hu : uN F fo Wn 0 j v2) : ndA F fo Wn v2 (a + 1) := by
  have g := (eN_gt (F := F) (f := fo) hj).2
  obtain ⟨t, _, t2, t3, _⟩ := (hw j hj).2.2.2.1 hk
  have y := eN_in t2 t3
  have y2 := (hw t (by omega)).2.1.2
  refine ⟨by omega, ?_⟩
  rcases hu with e | ⟨i, e, h1, h2⟩
  · exact Or.inl (by omega)
  · exact Or.inr ⟨i, by omega, by omega, by have := eN_in h1 h2; omega⟩
/-- no task is left: the WORDS are a FORM's -/
theorem lay_done {F : Nat → Nat → Int32} {f W : Nat} (q : ∀ k, k < W → wP F (pdT F f 0) f W k) : ∀ k, k < W → wOK F f W k :=
  fun k hk => wP_done (fun k b y => by obtain ⟨i, hi, _⟩ := y; omega) (q k hk)
/-- the WORD that has just been laid -/
theorem wP_new {F : Nat → Nat → Int32} {f T W : Nat} (h7 : 0 ≤ (F 7 (40 * f + W)).toInt ∧ (F 7 (40 * f + W)).toInt ≤ 10) (ha : 0 ≤ arF F f W ∧ arF F f W ≤ 11)
    (hp : ((F 10 (40 * f + W)).toInt = -1 ∧ W = 0 ∧ arF F f W = 0) ∨ ∃ p : Nat, p < W ∧ (F 10 (40 * f + W)).toInt = 40 * f + p ∧ arF F f W = arF F f p + 1)
    (h1 : 2 ≤ (F 7 (40 * f + W)).toInt → pdT F f T W false) (h2 : prK F f W → pdT F f T W true)
    (hv : (F 13 (40 * f + W)).toInt ≤ (F 14 (40 * f + W)).toInt ∧ (F 14 (40 * f + W)).toInt ≤ (F 15 (40 * f + W)).toInt) : wP F (pdT F f T) f (W + 1) W :=
  ⟨h7, ha, hp, fun z => Or.inl (h1 z), fun z => Or.inl (h2 z), hv⟩
theorem vsF_one {F : Nat → Nat → Int32} {f : Nat} (W : Nat) : vsF F f 0 (W + 1) = vsF F f 0 W + owK F f W := by
  rw [vsF_add W 0 1, Nat.zero_add]
  unfold owK
  show _ + (_ + 0) = _
  rw [Nat.add_zero]