/-! letters and NUMBERS of the class, in the words of the text -/
theorem letF_b {x : Int32} : letF x = 0 ↔ ¬ (97 ≤ x.toInt ∧ x.toInt ≤ 122) := by
  have e1 : (97 : Int32).toInt = 97 := rfl
  have e2 : (122 : Int32).toInt = 122 := rfl
  unfold letF
  by_cases c1 : x < 97
  · rw [if_pos c1]
    rw [fl_lt, e1] at c1
    exact ⟨fun _ => by omega, fun _ => rfl⟩
  · rw [if_neg c1]
    rw [fl_lt, e1] at c1
    by_cases c2 : 122 < x
    · rw [if_pos c2]
      rw [fl_lt, e2] at c2
      exact ⟨fun _ => by omega, fun _ => rfl⟩
    · rw [if_neg c2]
      rw [fl_lt, e2] at c2
      exact ⟨fun h => absurd h (by decide), fun h => absurd (by omega) h⟩
theorem digF_b {x : Int32} : digF x = 0 ↔ ¬ (48 ≤ x.toInt ∧ x.toInt ≤ 57) := by
  have e1 : (48 : Int32).toInt = 48 := rfl
  have e2 : (57 : Int32).toInt = 57 := rfl
  unfold digF
  by_cases c1 : x < 48
  · rw [if_pos c1]
    rw [fl_lt, e1] at c1
    exact ⟨fun _ => by omega, fun _ => rfl⟩
  · rw [if_neg c1]
    rw [fl_lt, e1] at c1
    by_cases c2 : 57 < x
    · rw [if_pos c2]
      rw [fl_lt, e2] at c2
      exact ⟨fun _ => by omega, fun _ => rfl⟩
    · rw [if_neg c2]
      rw [fl_lt, e2] at c2
      exact ⟨fun h => absurd h (by decide), fun h => absurd (by omega) h⟩
theorem ltrL_lt {len : Int32} {tg : Nat → Int32} {x : Int32} {p : Nat} (hl : 0 ≤ len.toInt ∧ len.toInt ≤ 400) (hx : x.toInt = p) (h8 : p ≤ 400) : ∀ (k : Nat) (i : Int32) (j : Nat), i.toInt = j → j ≤ 400 → (j : Int) + (k : Int) = 401 → (ltrL len 400 tg x k i).toInt = (j : Int) + (ltR (tX tg len) (p + j) : Int) := by
  have e4 : (400 : Int32).toInt = 400 := rfl
  have hln := tX_ln (g := tg) hl
  intro k
  induction k with
  | zero => intro i j h1 h2 h3; exfalso; omega
  | succ k ih =>
    intro i j h1 h2 h3
    have q := T_add hx h1 (by omega)
    have ht := tAt_tX (tg := tg) (k := p + j) hl (i := x + i) (by omega)
    unfold ltrL
    by_cases c1 : 400 ≤ i
    · rw [if_pos c1]
      rw [fl_le, e4] at c1
      rw [ltR_no (by rw [tX_out (by omega)]; omega)]
      omega
    · rw [if_neg c1]
      rw [fl_le, e4] at c1
      by_cases c2 : letF (tAt len 400 tg (x + i)) = 0
      · rw [if_pos c2]
        rw [letF_b, ht] at c2
        rw [ltR_no c2]
        omega
      · rw [if_neg c2]
        rw [letF_b, ht] at c2
        have c3 := Classical.not_not.mp c2
        rw [ltR_st hln c3]
        have q2 := T_add h1 (show (1 : Int32).toInt = 1 from rfl) (by omega)
        have r := ih (i + 1) (j + 1) (by omega) (by omega) (by omega)
        rw [show p + j + 1 = p + (j + 1) by omega]
        omega
theorem ltrF_lt {len : Int32} {tg : Nat → Int32} {x : Int32} {p : Nat} (hl : 0 ≤ len.toInt ∧ len.toInt ≤ 400) (hx : x.toInt = p) (h8 : p ≤ 400) : (ltrF len 400 tg x).toInt = (ltR (tX tg len) p : Int) := by
  have r := ltrL_lt (tg := tg) hl hx h8 401 0 0 rfl (by omega) (by omega)
  rw [show p + 0 = p from rfl] at r
  show (ltrL len 400 tg x 401 0).toInt = _
  omega
/-- a NUMBER: r the answer (-1: none), q the place, fa the FAULT -/
def exN (t : Sum Nat Nat) (r q fa : Int32) : Prop := match t with
  | .inl c => r = -1 ∧ fa.toInt = c
  | .inr p => 0 ≤ r.toInt ∧ q.toInt = p ∧ fa = 0
def nuB (j : Nat) (nu : Int) : Prop := 0 ≤ nu ∧ nu ≤ 99999 ∧ (j ≤ 4 → nu ≤ 9999) ∧ (j ≤ 3 → nu ≤ 999) ∧ (j ≤ 2 → nu ≤ 99) ∧ (j ≤ 1 → nu ≤ 9) ∧ (j ≤ 0 → nu ≤ 0)
theorem rnu_end {st i nu : Int32} {p j : Nat} (hs : st.toInt = p) (h8 : p ≤ 400) (h1 : i.toInt = j) (h2 : j ≤ 400) (hn : 0 ≤ nu.toInt) :
    exN (if j = 0 then .inl (1 + 8 * p) else if 5 < j then .inl (1 + 8 * p + 1) else .inr (p + j)) (if i = 0 then (lett (faiF 0 st (if i = 0 then 0 else 1)) fun x1 => ((-1 : Int32), st, x1.2)) else (if i ≤ 5 then (nu, (st + i), (0 : Int32)) else (lett (faiF 0 st (if i = 0 then 0 else 1)) fun x3 => ((-1 : Int32), st, x3.2)))).1
      (if i = 0 then (lett (faiF 0 st (if i = 0 then 0 else 1)) fun x1 => ((-1 : Int32), st, x1.2)) else (if i ≤ 5 then (nu, (st + i), (0 : Int32)) else (lett (faiF 0 st (if i = 0 then 0 else 1)) fun x3 => ((-1 : Int32), st, x3.2)))).2.1
      (if i = 0 then (lett (faiF 0 st (if i = 0 then 0 else 1)) fun x1 => ((-1 : Int32), st, x1.2)) else (if i ≤ 5 then (nu, (st + i), (0 : Int32)) else (lett (faiF 0 st (if i = 0 then 0 else 1)) fun x3 => ((-1 : Int32), st, x3.2)))).2.2 := by
  have e5 : (5 : Int32).toInt = 5 := rfl
  have e0 : (0 : Int32).toInt = 0 := rfl
  by_cases c1 : i = 0
  · rw [if_pos c1, if_pos (show j = 0 by rw [c1, e0] at h1; omega), if_pos c1]
    refine ⟨rfl, ?_⟩
    have q := fai_0 (k := 0) (c := 0) hs (by omega) rfl (by omega)
    show (faiF 0 st 0).2.toInt = _
    rw [q]; omega
  · have hj : j ≠ 0 := fun e => c1 (Int32.toInt_inj.mp (by rw [h1, e0]; omega))
    rw [if_neg c1, if_neg hj, if_neg c1]
    by_cases c2 : i ≤ 5
    · rw [if_pos c2]
      rw [fl_le, e5] at c2
      rw [if_neg (by omega)]
      have q := T_add hs h1 (by omega)
      exact ⟨hn, by show (st + i).toInt = _; omega, rfl⟩
    · rw [if_neg c2]
      rw [fl_le, e5] at c2
      rw [if_pos (by omega)]
      refine ⟨rfl, ?_⟩
      have q := fai_0 (k := 1) (c := 1) hs (by omega) rfl (by omega)
      show (faiF 0 st 1).2.toInt = _
      rw [q]; omega
theorem rnuL_nu {len : Int32} {tg : Nat → Int32} {st : Int32} {p : Nat} (hl : 0 ≤ len.toInt ∧ len.toInt ≤ 400) (hs : st.toInt = p) (h8 : p ≤ 400) : ∀ (k : Nat) (i nu : Int32) (j : Nat), i.toInt = j → j ≤ 400 → (j : Int) + (k : Int) = 401 → nuB j nu.toInt →
    exN (if j + dgR (tX tg len) (p + j) = 0 then .inl (1 + 8 * p) else if 5 < j + dgR (tX tg len) (p + j) then .inl (1 + 8 * p + 1) else .inr (p + (j + dgR (tX tg len) (p + j)))) (rnuL len 400 tg st k i nu st 0).1 (rnuL len 400 tg st k i nu st 0).2.1 (rnuL len 400 tg st k i nu st 0).2.2 := by
  have e4 : (400 : Int32).toInt = 400 := rfl
  have e5 : (5 : Int32).toInt = 5 := rfl
  have hln := tX_ln (g := tg) hl
  intro k
  induction k with
  | zero => intro i nu j h1 h2 h3; exfalso; omega
  | succ k ih =>
    intro i nu j h1 h2 h3 hn
    have q := T_add hs h1 (by omega)
    have ht := tAt_tX (tg := tg) (k := p + j) hl (i := st + i) (by omega)
    unfold rnuL
    by_cases c1 : 400 ≤ i
    · rw [if_pos c1]
      rw [fl_le, e4] at c1
      rw [dgR_no (by rw [tX_out (by omega)]; omega)]
      exact rnu_end hs h8 h1 h2 hn.1
    · rw [if_neg c1]
      rw [fl_le, e4] at c1
      by_cases c2 : digF (tAt len 400 tg (st + i)) = 0
      · rw [if_pos c2]
        rw [digF_b, ht] at c2
        rw [dgR_no c2]
        exact rnu_end hs h8 h1 h2 hn.1
      · rw [if_neg c2]
        rw [digF_b, ht] at c2
        have c3 := Classical.not_not.mp c2
        rw [dgR_st hln c3, show j + (dgR (tX tg len) (p + j + 1) + 1) = (j + 1) + dgR (tX tg len) (p + (j + 1)) by rw [show p + j + 1 = p + (j + 1) by omega]; omega]
        have q2 := T_add h1 (show (1 : Int32).toInt = 1 from rfl) (by omega)
        refine ih (i + 1) _ (j + 1) (by omega) (by omega) (by omega) ?_
        unfold nuB at hn ⊢
        by_cases c4 : 5 ≤ i
        · rw [if_pos c4]
          rw [fl_le, e5] at c4
          omega
        · rw [if_neg c4]
          rw [fl_le, e5] at c4
          have r1 := T_mul (rfl : nu.toInt = nu.toInt) (show (10 : Int32).toInt = 10 from rfl) (by omega)
          have r2 := T_add r1 ht (by omega)
          have r3 := T_sub r2 (show (48 : Int32).toInt = 48 from rfl) (by omega)
          omega
theorem rnuF_nu {len : Int32} {tg : Nat → Int32} {st : Int32} {p : Nat} (hl : 0 ≤ len.toInt ∧ len.toInt ≤ 400) (hs : st.toInt = p) (h8 : p ≤ 400) : exN (nuR (tX tg len) p) (rnuF len 400 tg st 0).1 (rnuF len 400 tg st 0).2.1 (rnuF len 400 tg st 0).2.2 := by
  have r := rnuL_nu (tg := tg) hl hs h8 401 0 0 0 rfl (by omega) (by omega) ⟨by decide, by decide, fun _ => by decide, fun _ => by decide, fun _ => by decide, fun _ => by decide, fun _ => by decide⟩
  rw [Nat.zero_add] at r
  exact r