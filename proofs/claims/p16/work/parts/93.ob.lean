/-! a text of L bytes -/
def tLn (T : Nat → Int) (L : Nat) : Prop := L ≤ 400 ∧ ∀ q, L ≤ q → T q = -1
/-- the TAPE as a text -/
def tR (g : Nat → Int32) (L : Int) (k : Nat) : Int := if (k : Int) < L then (g k).toInt % 256 else -1
theorem tR_ln {g : Nat → Int32} {L : Nat} (h : L ≤ 400) : tLn (tR g L) L := ⟨h, fun q hq => by unfold tR; rw [if_neg (by omega)]⟩
theorem tR_in {g : Nat → Int32} {L k : Nat} (h : k < L) : tR g L k = (g k).toInt % 256 := by unfold tR; rw [if_pos (by omega)]
theorem skB_fu {T : Nat → Int} {L : Nat} (h : tLn T L) : ∀ k1 k2 p, L ≤ p + k1 → L ≤ p + k2 → skB T k1 p = skB T k2 p := by
  intro k1
  induction k1 with
  | zero =>
    intro k2 p h1 h2
    cases k2 with
    | zero => rfl
    | succ k2 => unfold skB; rw [if_neg (by rw [h.2 p (by omega)]; omega)]
  | succ k1 ih =>
    intro k2 p h1 h2
    by_cases c : T p = 32
    · cases k2 with
      | zero => rw [h.2 p (by omega)] at c; omega
      | succ k2 =>
        unfold skB
        rw [if_pos c, if_pos c, ih k2 (p + 1) (by omega) (by omega)]
    · cases k2 with
      | zero => unfold skB; rw [if_neg c]
      | succ k2 => unfold skB; rw [if_neg c, if_neg c]
theorem skR_st {T : Nat → Int} {L p : Nat} (h : tLn T L) (c : T p = 32) : skR T p = skR T (p + 1) := by
  have h4 := h.1
  show skB T (400 + 1) p = _
  unfold skB
  rw [if_pos c, skB_fu h 400 401 (p + 1) (by omega) (by omega)]
  rfl
theorem skR_no {T : Nat → Int} {p : Nat} (c : T p ≠ 32) : skR T p = p := by
  show skB T (400 + 1) p = p
  unfold skB
  rw [if_neg c]
theorem skB_le {T : Nat → Int} {L : Nat} (h : tLn T L) : ∀ k p, p ≤ skB T k p ∧ (p ≤ L → skB T k p ≤ L) := by
  intro k
  induction k with
  | zero => intro p; unfold skB; omega
  | succ k ih =>
    intro p
    unfold skB
    by_cases c : T p = 32
    · rw [if_pos c]
      have hl : p < L := by
        rcases Nat.lt_or_ge p L with q | q
        · exact q
        · rw [h.2 p q] at c; omega
      have := ih (p + 1)
      omega
    · rw [if_neg c]; omega
theorem skB_at {T : Nat → Int} {L : Nat} (h : tLn T L) : ∀ k p, L ≤ p + k → T (skB T k p) ≠ 32 := by
  intro k
  induction k with
  | zero => intro p hp; unfold skB; rw [h.2 p (by omega)]; omega
  | succ k ih =>
    intro p hp
    unfold skB
    by_cases c : T p = 32
    · rw [if_pos c]; exact ih (p + 1) (by omega)
    · rw [if_neg c]; exact c
theorem skR_le {T : Nat → Int} {L p : Nat} (h : tLn T L) (hp : p ≤ L) : p ≤ skR T p ∧ skR T p ≤ L ∧ T (skR T p) ≠ 32 := ⟨(skB_le h 401 p).1, (skB_le h 401 p).2 hp, skB_at h 401 p (by have := h.1; omega)⟩
theorem skR_id {T : Nat → Int} {L p : Nat} (h : tLn T L) (hp : p ≤ L) : skR T (skR T p) = skR T p := skR_no (skR_le h hp).2.2
theorem dgB_fu {T : Nat → Int} {L : Nat} (h : tLn T L) : ∀ k1 k2 p, L ≤ p + k1 → L ≤ p + k2 → dgB T k1 p = dgB T k2 p := by
  intro k1
  induction k1 with
  | zero =>
    intro k2 p h1 h2
    cases k2 with
    | zero => rfl
    | succ k2 => unfold dgB; rw [if_neg (by rw [h.2 p (by omega)]; omega)]
  | succ k1 ih =>
    intro k2 p h1 h2
    by_cases c : 48 ≤ T p ∧ T p ≤ 57
    · cases k2 with
      | zero => rw [h.2 p (by omega)] at c; omega
      | succ k2 =>
        unfold dgB
        rw [if_pos c, if_pos c, ih k2 (p + 1) (by omega) (by omega)]
    · cases k2 with
      | zero => unfold dgB; rw [if_neg c]
      | succ k2 => unfold dgB; rw [if_neg c, if_neg c]
theorem dgR_st {T : Nat → Int} {L p : Nat} (h : tLn T L) (c : 48 ≤ T p ∧ T p ≤ 57) : dgR T p = dgR T (p + 1) + 1 := by
  have h4 := h.1
  show dgB T (400 + 1) p = _
  unfold dgB
  rw [if_pos c, dgB_fu h 400 401 (p + 1) (by omega) (by omega)]
  rfl
theorem dgR_no {T : Nat → Int} {p : Nat} (c : ¬ (48 ≤ T p ∧ T p ≤ 57)) : dgR T p = 0 := by
  show dgB T (400 + 1) p = 0
  unfold dgB
  rw [if_neg c]
theorem dgB_le {T : Nat → Int} {L : Nat} (h : tLn T L) : ∀ k p, p ≤ L → p + dgB T k p ≤ L := by
  intro k
  induction k with
  | zero => intro p hp; unfold dgB; omega
  | succ k ih =>
    intro p hp
    unfold dgB
    by_cases c : 48 ≤ T p ∧ T p ≤ 57
    · rw [if_pos c]
      have hl : p < L := by
        rcases Nat.lt_or_ge p L with q | q
        · exact q
        · rw [h.2 p q] at c; omega
      have := ih (p + 1) (by omega)
      omega
    · rw [if_neg c]; omega
theorem dgB_at {T : Nat → Int} : ∀ k p i, i < dgB T k p → 48 ≤ T (p + i) ∧ T (p + i) ≤ 57 := by
  intro k
  induction k with
  | zero => intro p i hi; unfold dgB at hi; omega
  | succ k ih =>
    intro p i hi
    unfold dgB at hi
    by_cases c : 48 ≤ T p ∧ T p ≤ 57
    · rw [if_pos c] at hi
      cases i with
      | zero => exact c
      | succ i =>
        have q := ih (p + 1) i (by omega)
        rw [show p + 1 + i = p + (i + 1) by omega] at q
        exact q
    · rw [if_neg c] at hi; omega
theorem ltB_fu {T : Nat → Int} {L : Nat} (h : tLn T L) : ∀ k1 k2 p, L ≤ p + k1 → L ≤ p + k2 → ltB T k1 p = ltB T k2 p := by
  intro k1
  induction k1 with
  | zero =>
    intro k2 p h1 h2
    cases k2 with
    | zero => rfl
    | succ k2 => unfold ltB; rw [if_neg (by rw [h.2 p (by omega)]; omega)]
  | succ k1 ih =>
    intro k2 p h1 h2
    by_cases c : 97 ≤ T p ∧ T p ≤ 122
    · cases k2 with
      | zero => rw [h.2 p (by omega)] at c; omega
      | succ k2 =>
        unfold ltB
        rw [if_pos c, if_pos c, ih k2 (p + 1) (by omega) (by omega)]
    · cases k2 with
      | zero => unfold ltB; rw [if_neg c]
      | succ k2 => unfold ltB; rw [if_neg c, if_neg c]
theorem ltR_st {T : Nat → Int} {L p : Nat} (h : tLn T L) (c : 97 ≤ T p ∧ T p ≤ 122) : ltR T p = ltR T (p + 1) + 1 := by
  have h4 := h.1
  show ltB T (400 + 1) p = _
  unfold ltB
  rw [if_pos c, ltB_fu h 400 401 (p + 1) (by omega) (by omega)]
  rfl
theorem ltR_no {T : Nat → Int} {p : Nat} (c : ¬ (97 ≤ T p ∧ T p ≤ 122)) : ltR T p = 0 := by
  show ltB T (400 + 1) p = 0
  unfold ltB
  rw [if_neg c]
theorem ltB_le {T : Nat → Int} {L : Nat} (h : tLn T L) : ∀ k p, p ≤ L → p + ltB T k p ≤ L := by
  intro k
  induction k with
  | zero => intro p hp; unfold ltB; omega
  | succ k ih =>
    intro p hp
    unfold ltB
    by_cases c : 97 ≤ T p ∧ T p ≤ 122
    · rw [if_pos c]
      have hl : p < L := by
        rcases Nat.lt_or_ge p L with q | q
        · exact q
        · rw [h.2 p q] at c; omega
      have := ih (p + 1) (by omega)
      omega
    · rw [if_neg c]; omega
theorem ltB_at {T : Nat → Int} : ∀ k p i, i < ltB T k p → 97 ≤ T (p + i) ∧ T (p + i) ≤ 122 := by
  intro k
  induction k with
  | zero => intro p i hi; unfold ltB at hi; omega
  | succ k ih =>
    intro p i hi
    unfold ltB at hi
    by_cases c : 97 ≤ T p ∧ T p ≤ 122
    · rw [if_pos c] at hi
      cases i with
      | zero => exact c
      | succ i =>
        have q := ih (p + 1) i (by omega)
        rw [show p + 1 + i = p + (i + 1) by omega] at q
        exact q
    · rw [if_neg c] at hi; omega