/-! what was told of a thing: the last that was told on a DAY or ahead of it -/
def thN (g : Nat → Int32) (x : Nat) : Nat → Int32
  | 0 => 0
  | d + 1 => if -10000 < (g (400 * x + d)).toInt then g (400 * x + d) else thN g x d
def tdC (tg g : Nat → Int32) : Prop := ∀ i, i < 2400 → (tg i).toInt = (g i).toInt + 10000 ∧ -10000 ≤ (g i).toInt ∧ (g i).toInt ≤ 9999
theorem T_dec10k {i : Int32} (h : -2147473648 ≤ i.toInt) : (i + (-10000)).toInt = i.toInt - 10000 := by
  have e1 : (10000 : Int32).toInt = 10000 := rfl
  have b1 := i32_hi i
  have hx := T_sub (rfl : i.toInt = i.toInt) e1 (by omega)
  rw [← hx, Int32.sub_eq_add_neg]
theorem T_sub10k {i : Int32} (h : i.toInt ≤ 2147473647 ∧ -2147483648 ≤ i.toInt) : (i - (-10000)).toInt = i.toInt + 10000 := by
  have e1 : (10000 : Int32).toInt = 10000 := rfl
  have hx := T_add (rfl : i.toInt = i.toInt) e1 (by omega)
  rw [← hx, Int32.sub_eq_add_neg]
  rfl
theorem red_th {tg g : Nat → Int32} {x : Int32} {X : Nat} (h : tdC tg g) (hX : x.toInt = X ∧ X ≤ 5) : ∀ (k : Nat) (i : Int32), -1 ≤ i.toInt ∧ i.toInt ≤ 399 → i.toInt + 2 = (k : Int) → redL tg x k i = thN g X (i.toInt + 1).toNat := by
  have e0 : (0 : Int32).toInt = 0 := rfl
  intro k
  induction k with
  | zero => intro i h1 h2; exfalso; omega
  | succ k ih =>
    intro i h1 h2
    unfold redL
    by_cases c1 : i < 0
    · rw [if_pos c1]
      rw [fl_lt, e0] at c1
      rw [show (i.toInt + 1).toNat = 0 by omega]
      rfl
    · rw [if_neg c1]
      rw [fl_lt, e0] at c1
      obtain ⟨I, hI⟩ : ∃ I : Nat, i.toInt = I := ⟨i.toInt.toNat, by omega⟩
      have q := T_add (T_mul hX.1 (show (400 : Int32).toInt = 400 from rfl) (by omega)) (rfl : i.toInt = i.toInt) (by omega)
      have ec : Int32.toNatClampNeg ((x * 400) + i) = 400 * X + I := by rw [clN]; omega
      rw [ec]
      obtain ⟨d1, d2, d3⟩ := h (400 * X + I) (by omega)
      rw [show (i.toInt + 1).toNat = I + 1 by omega]
      show _ = if -10000 < (g (400 * X + I)).toInt then g (400 * X + I) else thN g X I
      by_cases c2 : tg (400 * X + I) ≤ 0
      · rw [if_pos c2]
        rw [fl_le, e0] at c2
        rw [if_neg (by omega)]
        have hd : (i + (-1)).toInt = i.toInt - 1 := T_dec (by omega) (by omega)
        generalize i + (-1) = i2 at hd ⊢
        rw [ih i2 (by omega) (by omega), show (i2.toInt + 1).toNat = I by omega]
      · rw [if_neg c2]
        rw [fl_le, e0] at c2
        rw [if_pos (by omega)]
        have q2 : (tg (400 * X + I) + (-10000)).toInt = (tg (400 * X + I)).toInt - 10000 := T_dec10k (by omega)
        generalize tg (400 * X + I) + (-10000) = w9 at q2 ⊢
        exact Int32.toInt_inj.mp (by omega)
theorem xsen_th {tg g : Nat → Int32} {x y : Int32} (h : tdC tg g) : xsenF tg x y = (if (0 ≤ x.toInt ∧ x.toInt ≤ 5) ∧ (0 ≤ y.toInt ∧ y.toInt ≤ 399) then thN g x.toInt.toNat (y.toInt + 1).toNat else -10000) := by
  have e0 : (0 : Int32).toInt = 0 := rfl
  have e6 : (6 : Int32).toInt = 6 := rfl
  have e4 : (400 : Int32).toInt = 400 := rfl
  unfold xsenF redF
  by_cases c1 : x < 0
  · rw [if_pos c1, if_neg (by rw [fl_lt, e0] at c1; omega)]
  rw [if_neg c1]
  by_cases c2 : 6 ≤ x
  · rw [if_pos c2, if_neg (by rw [fl_le, e6] at c2; omega)]
  rw [if_neg c2]
  by_cases c3 : y < 0
  · rw [if_pos c3, if_neg (by rw [fl_lt, e0] at c3; omega)]
  rw [if_neg c3]
  by_cases c4 : y < 400
  · rw [if_pos c4]
    rw [fl_lt, e0] at c1 c3
    rw [fl_le, e6] at c2
    rw [fl_lt, e4] at c4
    rw [if_pos (by omega)]
    exact red_th h (X := x.toInt.toNat) (by omega) _ y (by omega) (by omega)
  · rw [if_neg c4, if_neg (by rw [fl_lt, e4] at c4; omega)]
theorem wrt_tg {tg t : Nat → Int32} {da x y u : Int32} (hd : 0 ≤ da.toInt ∧ da.toInt ≤ 399) : (xseeF tg t da x y u).2.1 = (if (0 ≤ x.toInt ∧ x.toInt ≤ 5) ∧ (0 ≤ y.toInt ∧ y.toInt ≤ da.toInt) ∧ (-9999 ≤ u.toInt ∧ u.toInt ≤ 9999) then upd tg (Int32.toNatClampNeg ((x * 400) + y)) (u - (-10000)) else tg) := by
  show (wrtF tg t da x y u).2.1 = _
  have m9 : (-9999 : Int32).toInt = -9999 := rfl
  have m0 : (0 : Int32).toInt = 0 := rfl
  have m6 : (6 : Int32).toInt = 6 := rfl
  have m4 : (400 : Int32).toInt = 400 := rfl
  have p9 : (9999 : Int32).toInt = 9999 := rfl
  unfold wrtF
  by_cases c1 : x < 0
  · rw [if_pos c1, if_neg (by rw [fl_lt, m0] at c1; omega)]
  rw [if_neg c1]
  by_cases c2 : 6 ≤ x
  · rw [if_pos c2, if_neg (by rw [fl_le, m6] at c2; omega)]
  rw [if_neg c2]
  by_cases c3 : y < 0
  · rw [if_pos c3, if_neg (by rw [fl_lt, m0] at c3; omega)]
  rw [if_neg c3]
  by_cases c4 : 400 ≤ y
  · rw [if_pos c4, if_neg (by rw [fl_le, m4] at c4; omega)]
  rw [if_neg c4]
  by_cases c5 : y ≤ da
  · rw [if_pos c5]
    by_cases c6 : u < (-9999)
    · rw [if_pos c6, if_neg (by rw [fl_lt, m9] at c6; omega)]
    rw [if_neg c6]
    by_cases c7 : u ≤ 9999
    · rw [fl_lt, m0] at c1 c3
      rw [fl_le, m6] at c2
      rw [fl_le] at c5
      rw [fl_lt, m9] at c6
      rw [if_pos c7]
      rw [fl_le, p9] at c7
      rw [if_pos (by omega)]
    · rw [if_neg c7, if_neg (by rw [fl_le, p9] at c7; omega)]
  · rw [if_neg c5, if_neg (by rw [fl_le] at c5; omega)]
theorem td_see {tg t g : Nat → Int32} {da x y u : Int32} (h : tdC tg g) (hd : 0 ≤ da.toInt ∧ da.toInt ≤ 399) : tdC (xseeF tg t da x y u).2.1 (if (0 ≤ x.toInt ∧ x.toInt ≤ 5) ∧ (0 ≤ y.toInt ∧ y.toInt ≤ da.toInt) ∧ (-9999 ≤ u.toInt ∧ u.toInt ≤ 9999) then upd g (Int32.toNatClampNeg ((400 * x) + y)) u else g) := by
  rw [wrt_tg hd]
  by_cases V : (0 ≤ x.toInt ∧ x.toInt ≤ 5) ∧ (0 ≤ y.toInt ∧ y.toInt ≤ da.toInt) ∧ (-9999 ≤ u.toInt ∧ u.toInt ≤ 9999)
  · rw [if_pos V, if_pos V]
    have q1 := T_add (T_mul (rfl : x.toInt = x.toInt) (show (400 : Int32).toInt = 400 from rfl) (by omega)) (rfl : y.toInt = y.toInt) (by omega)
    have q2 := T_add (T_mul (show (400 : Int32).toInt = 400 from rfl) (rfl : x.toInt = x.toInt) (by omega)) (rfl : y.toInt = y.toInt) (by omega)
    have ec : Int32.toNatClampNeg ((x * 400) + y) = Int32.toNatClampNeg ((400 * x) + y) := by rw [clN, clN]; omega
    rw [ec]
    have q3 : (u - (-10000)).toInt = u.toInt + 10000 := T_sub10k (by omega)
    generalize u - (-10000) = w9 at q3 ⊢
    intro i hi
    rw [updE, updE]
    by_cases e : i = Int32.toNatClampNeg ((400 * x) + y)
    · rw [if_pos e, if_pos e]; omega
    · rw [if_neg e, if_neg e]; exact h i hi
  · rw [if_neg V, if_neg V]; exact h
set_option maxHeartbeats 4000000 in
set_option maxRecDepth 100000 in
theorem k_X12_seeT {l : Launch} {D : va_G} {cy : Nat → ClassId} {b : Nat} {f : gMem} {m : Nat} {a : Nat → Nat} {f0 : gMem} {n : Nat → Int32} {z : Nat → Int64} {F : Nat → Nat → Int32} {G : Nat → Nat → Int64}  {x y u : Int32} (hS : mS cy m a f0 n z F G f) (hn : 0 ≤ (n 0).toInt ∧ (n 0).toInt ≤ 399) : gC l D cy b yX12_see cX12_see 4 (some .boolean) 1 0 0 [.ref m, .int x, .int y, .int u] f (pI fun r f2 => ∃ (n2 : Nat → Int32) (z2 : Nat → Int64) (F2 : Nat → Nat → Int32) (G2 : Nat → Nat → Int64), mS cy m a f0 n2 z2 F2 G2 f2 ∧ fx [] [] [2] [] n z F G n2 z2 F2 G2 ∧ r = (if (0 ≤ x.toInt ∧ x.toInt ≤ 5) ∧ (0 ≤ y.toInt ∧ y.toInt ≤ (n 0).toInt) ∧ (-9999 ≤ u.toInt ∧ u.toInt ≤ 9999) then 1 else 0) ∧ F2 2 = (if (0 ≤ x.toInt ∧ x.toInt ≤ 5) ∧ (0 ≤ y.toInt ∧ y.toInt ≤ (n 0).toInt) ∧ (-9999 ≤ u.toInt ∧ u.toInt ≤ 9999) then upd (F 2) (Int32.toNatClampNeg ((400 * x) + y)) u else F 2)) := by
  refine gC_of (by decide) (Nat.le_of_ble_eq_true rfl) ?_
  show gG l _ _ _ D cy b cX12_see 4 _ RX12 "see" 0 0 f 0 [(0, .ref m), (1, .int x), (2, .int y), (3, .int u)] []
  refine gz_iload_n dX12_see_0 rfl rfl ?_
  refine gz_i2l dX12_see_1 ?_
  refine gz_lconst (v := 0) dX12_see_2 (by decide) ?_
  refine gz_ldc2 (v := (5)) wd_778 dX12_see_3 ?_
  refine scX12_245 (k_X12_in (x := x.toInt64) (y := 0) (w := (5))) ⟨(Nat.le_of_ble_eq_true rfl), (Nat.le_of_ble_eq_true rfl)⟩ ⟨(Nat.le_of_ble_eq_true rfl), (Nat.le_of_ble_eq_true rfl)⟩ rfl rfl (Nat.le_of_ble_eq_true rfl) dX12_see_6 ?_
  intro v9 f9 z9; rw [z9.1, z9.2]
  refine gz_if_eq (tgt := 40) dX12_see_9 (by decide) (fun c_9 => ?_) (fun c_9 => ?_)
  ·
    try simp only [mIn_0, lgc_lt, lgc_gt, lgc_le, lgc_ge, lgc_eq] at c_9
    try simp only [fl_lt, fl_le, fl_eq, fL_w, fL_lt, fL_le, tm1, tm10k, tm9, tm99, Int32.reduceToInt, Int64.reduceToInt, Int.not_lt, Int.not_le] at c_9
    refine gz_iconst (v := 0) dX12_see_40 (by decide) ?_
    exact gz_zret rfl (by first | decide | exact nrb (by assumption) | exact nrb (Or.inl rfl) | exact nrb (Or.inr rfl)) dX12_see_41 (Nat.le_of_ble_eq_true rfl) (Nat.le_of_ble_eq_true rfl) (⟨_, rfl, _, _, _, _, hS, fx_rf, by rw [if_neg (by omega)], by rw [if_neg (by omega)]⟩)
  ·
    try simp only [mIn_0, lgc_lt, lgc_gt, lgc_le, lgc_ge, lgc_eq] at c_9
    try simp only [fl_lt, fl_le, fl_eq, fL_w, fL_lt, fL_le, tm1, tm10k, tm9, tm99, Int32.reduceToInt, Int64.reduceToInt, Int.not_lt, Int.not_le] at c_9
    refine gz_iload_n dX12_see_12 rfl rfl ?_
    refine gz_i2l dX12_see_13 ?_
    refine gz_lconst (v := 0) dX12_see_14 (by decide) ?_
    refine gz_aload_n dX12_see_15 rfl rfl ?_
    refine mg_249 hS dX12_see_16 ?_
    refine gz_i2l dX12_see_19 ?_
    refine scX12_245 (k_X12_in (x := y.toInt64) (y := 0) (w := (n 0).toInt64)) ⟨(Nat.le_of_ble_eq_true rfl), (Nat.le_of_ble_eq_true rfl)⟩ ⟨(Nat.le_of_ble_eq_true rfl), (Nat.le_of_ble_eq_true rfl)⟩ rfl rfl (Nat.le_of_ble_eq_true rfl) dX12_see_20 ?_
    intro v9 f9 z9; rw [z9.1, z9.2]
    refine gz_if_eq (tgt := 40) dX12_see_23 (by decide) (fun c_23 => ?_) (fun c_23 => ?_)
    ·
      try simp only [mIn_0, lgc_lt, lgc_gt, lgc_le, lgc_ge, lgc_eq] at c_23
      try simp only [fl_lt, fl_le, fl_eq, fL_w, fL_lt, fL_le, tm1, tm10k, tm9, tm99, Int32.reduceToInt, Int64.reduceToInt, Int.not_lt, Int.not_le] at c_23
      refine gz_iconst (v := 0) dX12_see_40 (by decide) ?_
      exact gz_zret rfl (by first | decide | exact nrb (by assumption) | exact nrb (Or.inl rfl) | exact nrb (Or.inr rfl)) dX12_see_41 (Nat.le_of_ble_eq_true rfl) (Nat.le_of_ble_eq_true rfl) (⟨_, rfl, _, _, _, _, hS, fx_rf, by rw [if_neg (by omega)], by rw [if_neg (by omega)]⟩)
    ·
      try simp only [mIn_0, lgc_lt, lgc_gt, lgc_le, lgc_ge, lgc_eq] at c_23
      try simp only [fl_lt, fl_le, fl_eq, fL_w, fL_lt, fL_le, tm1, tm10k, tm9, tm99, Int32.reduceToInt, Int64.reduceToInt, Int.not_lt, Int.not_le] at c_23
      refine gz_iload_n dX12_see_26 rfl rfl ?_
      refine gz_i2l dX12_see_27 ?_
      refine gz_ldc2 (v := (-9999)) wd_784 dX12_see_28 ?_
      refine gz_ldc2 (v := (9999)) wd_785 dX12_see_31 ?_
      refine scX12_245 (k_X12_in (x := u.toInt64) (y := (-9999)) (w := (9999))) ⟨(Nat.le_of_ble_eq_true rfl), (Nat.le_of_ble_eq_true rfl)⟩ ⟨(Nat.le_of_ble_eq_true rfl), (Nat.le_of_ble_eq_true rfl)⟩ rfl rfl (Nat.le_of_ble_eq_true rfl) dX12_see_34 ?_
      intro v9 f9 z9; rw [z9.1, z9.2]
      refine gz_if_ne (tgt := 42) dX12_see_37 (by decide) (fun c_37 => ?_) (fun c_37 => ?_)
      ·
        try simp only [mIn_0, lgc_lt, lgc_gt, lgc_le, lgc_ge, lgc_eq] at c_37
        try simp only [fl_lt, fl_le, fl_eq, fL_w, fL_lt, fL_le, tm1, tm10k, tm9, tm99, Int32.reduceToInt, Int64.reduceToInt, Int.not_lt, Int.not_le] at c_37
        refine gz_aload_n dX12_see_42 rfl rfl ?_
        refine mg_7 hS dX12_see_43 ?_
        refine gz_sipush (v := 400) dX12_see_46 (by decide) ?_
        refine gz_iload_n dX12_see_49 rfl rfl ?_
        refine gz_imul dX12_see_50 ?_
        refine gz_iload_n dX12_see_51 rfl rfl ?_
        refine gz_iadd dX12_see_52 ?_
        refine gz_iload_n dX12_see_53 rfl rfl ?_
        refine m_iast 2 hS rfl (N := 2400) rfl ((by exact vin_T (idx1 (t := x) (x := y) (by omega) (by omega)) (by omega) (by omega))) dX12_see_54 (fun f_1 hS_1q => ?_)
        have hS_1 : mS cy m a f0 n z (va_up F 2 (upd (F 2) (Int32.toNatClampNeg ((400 * x) + y)) u)) G f_1 := hS_1q
        refine gz_iconst (v := 1) dX12_see_55 (by decide) ?_
        exact gz_zret rfl (by first | decide | exact nrb (by assumption) | exact nrb (Or.inl rfl) | exact nrb (Or.inr rfl)) dX12_see_56 (Nat.le_of_ble_eq_true rfl) (Nat.le_of_ble_eq_true rfl) (⟨_, rfl, _, _, _, _, hS_1, (fx_F fx_rf (by decide)), by rw [if_pos (by omega)], by rw [if_pos (by omega)]; rfl⟩)
      ·
        try simp only [mIn_0, lgc_lt, lgc_gt, lgc_le, lgc_ge, lgc_eq] at c_37
        try simp only [fl_lt, fl_le, fl_eq, fL_w, fL_lt, fL_le, tm1, tm10k, tm9, tm99, Int32.reduceToInt, Int64.reduceToInt, Int.not_lt, Int.not_le] at c_37
        refine gz_iconst (v := 0) dX12_see_40 (by decide) ?_
        exact gz_zret rfl (by first | decide | exact nrb (by assumption) | exact nrb (Or.inl rfl) | exact nrb (Or.inr rfl)) dX12_see_41 (Nat.le_of_ble_eq_true rfl) (Nat.le_of_ble_eq_true rfl) (⟨_, rfl, _, _, _, _, hS, fx_rf, by rw [if_neg (by omega)], by rw [if_neg (by omega)]⟩)

set_option maxHeartbeats 4000000 in
set_option maxRecDepth 100000 in
theorem l_X12_thingOnT {l : Launch} {D : va_G} {cy : Nat → ClassId} {b : Nat} {m : Nat} {a : Nat → Nat} {f0 : gMem} {n0 : Nat → Int32} {z0 : Nat → Int64} {F0 : Nat → Nat → Int32} {G0 : Nat → Nat → Int64}  {x y : Int32} {f : gMem} (ht : 0 ≤ x.toInt ∧ x.toInt ≤ 5) (hd : 0 ≤ y.toInt ∧ y.toInt ≤ 399) : ∀ (k : Nat) (i : Int32) (n : Nat → Int32) (z : Nat → Int64) (F : Nat → Nat → Int32) (G : Nat → Nat → Int64) (fm : gMem), mS cy m a f0 n z F G fm → fx [] [] [] [] n0 z0 F0 G0 n z F G → (-1 ≤ i.toInt ∧ i.toInt ≤ 399 ∧ i.toInt + 2 ≤ (k : Int)) → (fm = f) → (thN (F0 2) x.toInt.toNat (i.toInt + 1).toNat = thN (F0 2) x.toInt.toNat (y.toInt + 1).toNat) → gG l (gRm 0 0 0) (gQf D b (pI fun r f2 => r = thN (F0 2) x.toInt.toNat (y.toInt + 1).toNat ∧ f2 = f) 0 0) gTt D cy b cX12_thingOn 4 (some .int) RX12 "thingOn" 0 0 fm 2 [(3, .int i), (0, .ref m), (1, .int x), (2, .int y)] [] := by
  intro k
  induction k with
  | zero =>
    intro i n z F G fm hS hx hk hf hE
    exfalso; omega
  | succ k ih =>
    intro i n z F G fm hS hx hk hf hE
    refine gz_iload_n dX12_thingOn_2 rfl rfl ?_
    refine gz_if_lt (tgt := 43) dX12_thingOn_3 (by decide) (fun c_3 => ?_) (fun c_3 => ?_)
    ·
      try simp only [mIn_0, lgc_lt, lgc_gt, lgc_le, lgc_ge, lgc_eq] at c_3
      try simp only [fl_lt, fl_le, fl_eq, fL_w, fL_lt, fL_le, tm1, tm10k, tm9, tm99, Int32.reduceToInt, Int64.reduceToInt, Int.not_lt, Int.not_le] at c_3
      refine gz_iconst (v := 0) dX12_thingOn_43 (by decide) ?_
      exact gz_iret rfl dX12_thingOn_44 (Nat.le_of_ble_eq_true rfl) (Nat.le_of_ble_eq_true rfl) (⟨_, rfl, (by rw [← hE, show (i.toInt + 1).toNat = 0 by omega]; rfl), hf⟩)
    ·
      try simp only [mIn_0, lgc_lt, lgc_gt, lgc_le, lgc_ge, lgc_eq] at c_3
      try simp only [fl_lt, fl_le, fl_eq, fL_w, fL_lt, fL_le, tm1, tm10k, tm9, tm99, Int32.reduceToInt, Int64.reduceToInt, Int.not_lt, Int.not_le] at c_3
      obtain ⟨I, hI⟩ : ∃ I : Nat, i.toInt = I := ⟨i.toInt.toNat, by omega⟩
      have ec : Int32.toNatClampNeg ((400 * x) + i) = 400 * x.toInt.toNat + I := by rw [clN]; have q := idx1 (t := x) (x := i) (by omega) (by omega); omega
      have e2 : F 2 = F0 2 := hx.2.2.1 2 (by decide)
      have eS : thN (F0 2) x.toInt.toNat (I + 1) = if -10000 < (F0 2 (400 * x.toInt.toNat + I)).toInt then F0 2 (400 * x.toInt.toNat + I) else thN (F0 2) x.toInt.toNat I := rfl
      have hE1 : thN (F0 2) x.toInt.toNat (I + 1) = thN (F0 2) x.toInt.toNat (y.toInt + 1).toNat := by rw [← hE, show (i.toInt + 1).toNat = I + 1 by omega]
      refine gz_aload_n dX12_thingOn_6 rfl rfl ?_
      refine mg_7 hS dX12_thingOn_7 ?_
      refine gz_sipush (v := 400) dX12_thingOn_10 (by decide) ?_
      refine gz_iload_n dX12_thingOn_13 rfl rfl ?_
      refine gz_imul dX12_thingOn_14 ?_
      refine gz_iload_n dX12_thingOn_15 rfl rfl ?_
      refine gz_iadd dX12_thingOn_16 ?_
      refine m_iald 2 hS rfl (N := 2400) rfl ((by exact vin_T (idx1 (t := x) (x := i) (by omega) (by omega)) (by omega) (by omega))) dX12_thingOn_17 ?_
      refine gz_sipush (v := (-10000)) dX12_thingOn_18 (by decide) ?_
      refine gz_icmp_le (tgt := 37) dX12_thingOn_21 (by decide) (fun c_21 => ?_) (fun c_21 => ?_)
      ·
        try simp only [mIn_0, lgc_lt, lgc_gt, lgc_le, lgc_ge, lgc_eq] at c_21
        try simp only [fl_lt, fl_le, fl_eq, fL_w, fL_lt, fL_le, tm1, tm10k, tm9, tm99, Int32.reduceToInt, Int64.reduceToInt, Int.not_lt, Int.not_le] at c_21
        refine gz_iinc (v := (i + (-1))) (lv' := [(3, .int (i + (-1))), (0, .ref m), (1, .int x), (2, .int y)]) dX12_thingOn_37 rfl (congrArg (fun z => i + z) oi_m1) (by decide) rfl ?_
        refine gz_goto (tgt := 2) dX12_thingOn_40 (by decide) ?_
        refine gz_sub (lv' := [(3, .int (i + (-1))), (0, .ref m), (1, .int x), (2, .int y)]) (by simp [List.lookup]) ?_
        have hE0 : thN (F0 2) x.toInt.toNat I = thN (F0 2) x.toInt.toNat (y.toInt + 1).toNat := by rw [← hE1, eS, if_neg (by rw [← ec, ← e2]; omega)]
        clear eS hE1 ec
        have hdc : (i + (-1)).toInt = i.toInt - 1 := T_dec (by omega) (by omega)
        generalize i + (-1) = i2 at hdc ⊢
        have hE2 : thN (F0 2) x.toInt.toNat (i2.toInt + 1).toNat = thN (F0 2) x.toInt.toNat (y.toInt + 1).toNat := by rw [show (i2.toInt + 1).toNat = I by omega]; exact hE0
        exact ih i2 _ _ _ _ _ hS hx (by omega) (hf) (hE2)
      ·
        try simp only [mIn_0, lgc_lt, lgc_gt, lgc_le, lgc_ge, lgc_eq] at c_21
        try simp only [fl_lt, fl_le, fl_eq, fL_w, fL_lt, fL_le, tm1, tm10k, tm9, tm99, Int32.reduceToInt, Int64.reduceToInt, Int.not_lt, Int.not_le] at c_21
        refine gz_aload_n dX12_thingOn_24 rfl rfl ?_
        refine mg_7 hS dX12_thingOn_25 ?_
        refine gz_sipush (v := 400) dX12_thingOn_28 (by decide) ?_
        refine gz_iload_n dX12_thingOn_31 rfl rfl ?_
        refine gz_imul dX12_thingOn_32 ?_
        refine gz_iload_n dX12_thingOn_33 rfl rfl ?_
        refine gz_iadd dX12_thingOn_34 ?_
        refine m_iald 2 hS rfl (N := 2400) rfl ((by exact vin_T (idx1 (t := x) (x := i) (by omega) (by omega)) (by omega) (by omega))) dX12_thingOn_35 ?_
        exact gz_iret rfl dX12_thingOn_36 (Nat.le_of_ble_eq_true rfl) (Nat.le_of_ble_eq_true rfl) (⟨_, rfl, (by rw [← hE1, eS, if_pos (by rw [← ec, ← e2]; omega), ← ec, ← e2]), hf⟩)

set_option maxHeartbeats 4000000 in
set_option maxRecDepth 100000 in
theorem k_X12_thingOnT {l : Launch} {D : va_G} {cy : Nat → ClassId} {b : Nat} {f : gMem} {m : Nat} {a : Nat → Nat} {f0 : gMem} {n : Nat → Int32} {z : Nat → Int64} {F : Nat → Nat → Int32} {G : Nat → Nat → Int64}  {x y : Int32} (hS : mS cy m a f0 n z F G f) (ht : 0 ≤ x.toInt ∧ x.toInt ≤ 5) (hd : 0 ≤ y.toInt ∧ y.toInt ≤ 399) : gC l D cy b yX12_thingOn cX12_thingOn 4 (some .int) 0 0 0 [.ref m, .int x, .int y] f (pI fun r f2 => r = thN (F 2) x.toInt.toNat (y.toInt + 1).toNat ∧ f2 = f) := by
  refine gC_of (by decide) (Nat.le_of_ble_eq_true rfl) ?_
  show gG l _ _ _ D cy b cX12_thingOn 4 _ RX12 "thingOn" 0 0 f 0 [(0, .ref m), (1, .int x), (2, .int y)] []
  refine gz_iload_n dX12_thingOn_0 rfl rfl ?_
  refine gz_istore_n (lv' := [(3, .int y), (0, .ref m), (1, .int x), (2, .int y)]) dX12_thingOn_1 rfl (by decide) rfl ?_
  refine gz_sub (lv' := [(3, .int y), (0, .ref m), (1, .int x), (2, .int y)]) (by simp [List.lookup]) ?_
  exact l_X12_thingOnT ht hd 402 y _ _ _ _ _ hS fx_rf (by omega) (rfl) (rfl)

set_option maxHeartbeats 4000000 in
set_option maxRecDepth 100000 in
theorem k_X12_seenT {l : Launch} {D : va_G} {cy : Nat → ClassId} {b : Nat} {f : gMem} {m : Nat} {a : Nat → Nat} {f0 : gMem} {n : Nat → Int32} {z : Nat → Int64} {F : Nat → Nat → Int32} {G : Nat → Nat → Int64}  {x y : Int32} (hS : mS cy m a f0 n z F G f)  : gC l D cy b yX12_seen cX12_seen 3 (some .int) 1 0 0 [.ref m, .int x, .int y] f (pI fun r f2 => r = (if (0 ≤ x.toInt ∧ x.toInt ≤ 5) ∧ (0 ≤ y.toInt ∧ y.toInt ≤ 399) then thN (F 2) x.toInt.toNat (y.toInt + 1).toNat else -10000) ∧ f2 = f) := by
  refine gC_of (by decide) (Nat.le_of_ble_eq_true rfl) ?_
  show gG l _ _ _ D cy b cX12_seen 3 _ RX12 "seen" 0 0 f 0 [(0, .ref m), (1, .int x), (2, .int y)] []
  refine gz_iload_n dX12_seen_0 rfl rfl ?_
  refine gz_i2l dX12_seen_1 ?_
  refine gz_lconst (v := 0) dX12_seen_2 (by decide) ?_
  refine gz_ldc2 (v := (5)) wd_778 dX12_seen_3 ?_
  refine scX12_245 (k_X12_in (x := x.toInt64) (y := 0) (w := (5))) ⟨(Nat.le_of_ble_eq_true rfl), (Nat.le_of_ble_eq_true rfl)⟩ ⟨(Nat.le_of_ble_eq_true rfl), (Nat.le_of_ble_eq_true rfl)⟩ rfl rfl (Nat.le_of_ble_eq_true rfl) dX12_seen_6 ?_
  intro v9 f9 z9; rw [z9.1, z9.2]
  refine gz_if_eq (tgt := 33) dX12_seen_9 (by decide) (fun c_9 => ?_) (fun c_9 => ?_)
  ·
    try simp only [mIn_0, lgc_lt, lgc_gt, lgc_le, lgc_ge, lgc_eq] at c_9
    try simp only [fl_lt, fl_le, fl_eq, fL_w, fL_lt, fL_le, tm1, tm10k, tm9, tm99, Int32.reduceToInt, Int64.reduceToInt, Int.not_lt, Int.not_le] at c_9
    refine gz_sipush (v := (-10000)) dX12_seen_33 (by decide) ?_
    exact gz_iret rfl dX12_seen_36 (Nat.le_of_ble_eq_true rfl) (Nat.le_of_ble_eq_true rfl) (⟨_, rfl, (by rw [if_neg (by omega)]), rfl⟩)
  ·
    try simp only [mIn_0, lgc_lt, lgc_gt, lgc_le, lgc_ge, lgc_eq] at c_9
    try simp only [fl_lt, fl_le, fl_eq, fL_w, fL_lt, fL_le, tm1, tm10k, tm9, tm99, Int32.reduceToInt, Int64.reduceToInt, Int.not_lt, Int.not_le] at c_9
    refine gz_iload_n dX12_seen_12 rfl rfl ?_
    refine gz_i2l dX12_seen_13 ?_
    refine gz_lconst (v := 0) dX12_seen_14 (by decide) ?_
    refine gz_ldc2 (v := (399)) wd_786 dX12_seen_15 ?_
    refine scX12_245 (k_X12_in (x := y.toInt64) (y := 0) (w := (399))) ⟨(Nat.le_of_ble_eq_true rfl), (Nat.le_of_ble_eq_true rfl)⟩ ⟨(Nat.le_of_ble_eq_true rfl), (Nat.le_of_ble_eq_true rfl)⟩ rfl rfl (Nat.le_of_ble_eq_true rfl) dX12_seen_18 ?_
    intro v9 f9 z9; rw [z9.1, z9.2]
    refine gz_if_eq (tgt := 33) dX12_seen_21 (by decide) (fun c_21 => ?_) (fun c_21 => ?_)
    ·
      try simp only [mIn_0, lgc_lt, lgc_gt, lgc_le, lgc_ge, lgc_eq] at c_21
      try simp only [fl_lt, fl_le, fl_eq, fL_w, fL_lt, fL_le, tm1, tm10k, tm9, tm99, Int32.reduceToInt, Int64.reduceToInt, Int.not_lt, Int.not_le] at c_21
      refine gz_sipush (v := (-10000)) dX12_seen_33 (by decide) ?_
      exact gz_iret rfl dX12_seen_36 (Nat.le_of_ble_eq_true rfl) (Nat.le_of_ble_eq_true rfl) (⟨_, rfl, (by rw [if_neg (by omega)]), rfl⟩)
    ·
      try simp only [mIn_0, lgc_lt, lgc_gt, lgc_le, lgc_ge, lgc_eq] at c_21
      try simp only [fl_lt, fl_le, fl_eq, fL_w, fL_lt, fL_le, tm1, tm10k, tm9, tm99, Int32.reduceToInt, Int64.reduceToInt, Int.not_lt, Int.not_le] at c_21
      refine gz_aload_n dX12_seen_24 rfl rfl ?_
      refine gz_iload_n dX12_seen_25 rfl rfl ?_
      refine gz_iload_n dX12_seen_26 rfl rfl ?_
      refine scX12_258 (k_X12_thingOnT (x := x) (y := y) hS (by omega) (by omega)) hS.1 ⟨(Nat.le_of_ble_eq_true rfl), (Nat.le_of_ble_eq_true rfl)⟩ ⟨(Nat.le_of_ble_eq_true rfl), (Nat.le_of_ble_eq_true rfl)⟩ rfl rfl (Nat.le_of_ble_eq_true rfl) dX12_seen_27 ?_
      rintro r_1 f9 ⟨hb_1, y9⟩; rw [y9]
      refine gz_goto (tgt := 36) dX12_seen_30 (by decide) ?_
      exact gz_iret rfl dX12_seen_36 (Nat.le_of_ble_eq_true rfl) (Nat.le_of_ble_eq_true rfl) (⟨_, rfl, (by rw [if_pos (by omega)]; exact hb_1), rfl⟩)
