/-! see's answer and the DAY, told alike -/
theorem wrt_fst {tg t : Nat → Int32} {da x y u : Int32} (hd : 0 ≤ da.toInt ∧ da.toInt ≤ 399) : (wrtF tg t da x y u).1 = (if (0 ≤ x.toInt ∧ x.toInt ≤ 5) ∧ (0 ≤ y.toInt ∧ y.toInt ≤ da.toInt) ∧ (-9999 ≤ u.toInt ∧ u.toInt ≤ 9999) then 1 else 0) := by
  have m9 : (-9999 : Int32).toInt = -9999 := rfl
  have m0 : (0 : Int32).toInt = 0 := rfl
  have m6 : (6 : Int32).toInt = 6 := rfl
  have m4 : (400 : Int32).toInt = 400 := rfl
  have p9 : (9999 : Int32).toInt = 9999 := rfl
  unfold wrtF
  by_cases c1 : x < 0
  · rw [if_pos c1, if_neg (by rw [fl_lt, m0] at c1; omega)]
  rw [if_neg c1]
  by_cases c2 : 6 ≤ x
  · rw [if_pos c2, if_neg (by rw [fl_le, m6] at c2; omega)]
  rw [if_neg c2]
  by_cases c3 : y < 0
  · rw [if_pos c3, if_neg (by rw [fl_lt, m0] at c3; omega)]
  rw [if_neg c3]
  by_cases c4 : 400 ≤ y
  · rw [if_pos c4, if_neg (by rw [fl_le, m4] at c4; omega)]
  rw [if_neg c4]
  by_cases c5 : y ≤ da
  · rw [if_pos c5]
    by_cases c6 : u < (-9999)
    · rw [if_pos c6, if_neg (by rw [fl_lt, m9] at c6; omega)]
    rw [if_neg c6]
    by_cases c7 : u ≤ 9999
    · rw [fl_lt, m0] at c1 c3
      rw [fl_le, m6] at c2
      rw [fl_le] at c5
      rw [fl_lt, m9] at c6
      rw [if_pos c7]
      rw [fl_le, p9] at c7
      rw [if_pos (by omega)]
    · rw [if_neg c7, if_neg (by rw [fl_le, p9] at c7; omega)]
  · rw [if_neg c5, if_neg (by rw [fl_le] at c5; omega)]
theorem xsee_fst {tg t : Nat → Int32} {da x y u : Int32} (hd : 0 ≤ da.toInt ∧ da.toInt ≤ 399) : (xseeF tg t da x y u).1 = (if (0 ≤ x.toInt ∧ x.toInt ≤ 5) ∧ (0 ≤ y.toInt ∧ y.toInt ≤ da.toInt) ∧ (-9999 ≤ u.toInt ∧ u.toInt ≤ 9999) then 1 else 0) := wrt_fst hd
theorem trn_snd {da : Int32} (hd : 0 ≤ da.toInt ∧ da.toInt ≤ 399) : (trnF da).2 = (if da.toInt = 399 then da else da + 1) := by
  have m : (399 : Int32).toInt = 399 := rfl
  unfold trnF
  by_cases c : da < 399
  · rw [if_pos c, if_neg (by rw [fl_lt, m] at c; omega)]
  · rw [if_neg c, if_pos (by rw [fl_lt, m] at c; omega)]