theorem T_div {x y : Int32} {a b : Int} (hx : x.toInt = a) (hy : y.toInt = b) (h0 : 0 ≤ a) (h1 : 0 < b) : (x / y).toInt = a / b := by
  rw [Int32.toInt_div_of_ne_right x y (by intro e; rw [e] at hy; have e1 : (-1 : Int32).toInt = -1 := rfl; omega), hx, hy]
  exact Int.tdiv_eq_ediv_of_nonneg h0
theorem clI {i : Int32} (h : 0 ≤ i.toInt) : ((Int32.toNatClampNeg i : Nat) : Int) = i.toInt := by
  unfold Int32.toNatClampNeg; omega

set_option maxHeartbeats 4000000 in
set_option maxRecDepth 100000 in
theorem k_X12_isForm {l : Launch} {D : va_G} {cy : Nat → ClassId} {b : Nat} {f : gMem} {m : Nat} {a : Nat → Nat} {f0 : gMem} {n : Nat → Int32} {z : Nat → Int64} {F : Nat → Nat → Int32} {G : Nat → Nat → Int64}  {x1 : Int32} (hS : mS cy m a f0 n z F G f)  : gC l D cy b yX12_isForm cX12_isForm 2 (some .boolean) 0 0 0 [.ref m, .int x1] f (pI fun r f2 => (r = 0 ∨ (r = 1 ∧ 0 ≤ x1.toInt ∧ x1.toInt < (n 5).toInt)) ∧ f2 = f) := by
  refine gC_of (by decide) (Nat.le_of_ble_eq_true rfl) ?_
  show gG l _ _ _ D cy b cX12_isForm 2 _ RX12 "isForm" 0 0 f 0 [(0, .ref m), (1, .int x1)] []
  refine gz_iload_n dX12_isForm_0 rfl rfl ?_
  refine gz_if_lt (tgt := 16) dX12_isForm_1 (by decide) (fun c_1 => ?_) (fun c_1 => ?_)
  ·
    try simp only [mIn_0, lgc_lt, lgc_gt, lgc_le, lgc_ge, lgc_eq] at c_1
    try simp only [fl_lt, fl_le, fl_eq, fL_w, fL_lt, fL_le, tm1, tm10k, tm9, tm99, Int32.reduceToInt, Int64.reduceToInt, Int.not_lt, Int.not_le] at c_1
    refine gz_iconst (v := 0) dX12_isForm_16 (by decide) ?_
    exact gz_zret rfl (by first | decide | exact nrb (by assumption) | exact nrb (Or.inl rfl) | exact nrb (Or.inr rfl)) dX12_isForm_17 (Nat.le_of_ble_eq_true rfl) (Nat.le_of_ble_eq_true rfl) (⟨_, rfl, (by first | exact Or.inl rfl | exact Or.inr ⟨rfl, by omega⟩), rfl⟩)
  ·
    try simp only [mIn_0, lgc_lt, lgc_gt, lgc_le, lgc_ge, lgc_eq] at c_1
    try simp only [fl_lt, fl_le, fl_eq, fL_w, fL_lt, fL_le, tm1, tm10k, tm9, tm99, Int32.reduceToInt, Int64.reduceToInt, Int.not_lt, Int.not_le] at c_1
    refine gz_iload_n dX12_isForm_4 rfl rfl ?_
    refine gz_aload_n dX12_isForm_5 rfl rfl ?_
    refine mg_307 hS dX12_isForm_6 ?_
    refine gz_icmp_ge (tgt := 16) dX12_isForm_9 (by decide) (fun c_9 => ?_) (fun c_9 => ?_)
    ·
      try simp only [mIn_0, lgc_lt, lgc_gt, lgc_le, lgc_ge, lgc_eq] at c_9
      try simp only [fl_lt, fl_le, fl_eq, fL_w, fL_lt, fL_le, tm1, tm10k, tm9, tm99, Int32.reduceToInt, Int64.reduceToInt, Int.not_lt, Int.not_le] at c_9
      refine gz_iconst (v := 0) dX12_isForm_16 (by decide) ?_
      exact gz_zret rfl (by first | decide | exact nrb (by assumption) | exact nrb (Or.inl rfl) | exact nrb (Or.inr rfl)) dX12_isForm_17 (Nat.le_of_ble_eq_true rfl) (Nat.le_of_ble_eq_true rfl) (⟨_, rfl, (by first | exact Or.inl rfl | exact Or.inr ⟨rfl, by omega⟩), rfl⟩)
    ·
      try simp only [mIn_0, lgc_lt, lgc_gt, lgc_le, lgc_ge, lgc_eq] at c_9
      try simp only [fl_lt, fl_le, fl_eq, fL_w, fL_lt, fL_le, tm1, tm10k, tm9, tm99, Int32.reduceToInt, Int64.reduceToInt, Int.not_lt, Int.not_le] at c_9
      refine gz_iconst (v := 1) dX12_isForm_12 (by decide) ?_
      refine gz_goto (tgt := 17) dX12_isForm_13 (by decide) ?_
      exact gz_zret rfl (by first | decide | exact nrb (by assumption) | exact nrb (Or.inl rfl) | exact nrb (Or.inr rfl)) dX12_isForm_17 (Nat.le_of_ble_eq_true rfl) (Nat.le_of_ble_eq_true rfl) (⟨_, rfl, (by first | exact Or.inl rfl | exact Or.inr ⟨rfl, by omega⟩), rfl⟩)

set_option maxHeartbeats 4000000 in
set_option maxRecDepth 100000 in
theorem k_X12_isLife {l : Launch} {D : va_G} {cy : Nat → ClassId} {b : Nat} {f : gMem} {m : Nat} {a : Nat → Nat} {f0 : gMem} {n : Nat → Int32} {z : Nat → Int64} {F : Nat → Nat → Int32} {G : Nat → Nat → Int64}  {x1 : Int32} (hS : mS cy m a f0 n z F G f)  : gC l D cy b yX12_isLife cX12_isLife 2 (some .boolean) 0 0 0 [.ref m, .int x1] f (pI fun r f2 => (r = 0 ∨ (r = 1 ∧ 0 ≤ x1.toInt ∧ x1.toInt < (n 30).toInt)) ∧ f2 = f) := by
  refine gC_of (by decide) (Nat.le_of_ble_eq_true rfl) ?_
  show gG l _ _ _ D cy b cX12_isLife 2 _ RX12 "isLife" 0 0 f 0 [(0, .ref m), (1, .int x1)] []
  refine gz_iload_n dX12_isLife_0 rfl rfl ?_
  refine gz_if_lt (tgt := 16) dX12_isLife_1 (by decide) (fun c_1 => ?_) (fun c_1 => ?_)
  ·
    try simp only [mIn_0, lgc_lt, lgc_gt, lgc_le, lgc_ge, lgc_eq] at c_1
    try simp only [fl_lt, fl_le, fl_eq, fL_w, fL_lt, fL_le, tm1, tm10k, tm9, tm99, Int32.reduceToInt, Int64.reduceToInt, Int.not_lt, Int.not_le] at c_1
    refine gz_iconst (v := 0) dX12_isLife_16 (by decide) ?_
    exact gz_zret rfl (by first | decide | exact nrb (by assumption) | exact nrb (Or.inl rfl) | exact nrb (Or.inr rfl)) dX12_isLife_17 (Nat.le_of_ble_eq_true rfl) (Nat.le_of_ble_eq_true rfl) (⟨_, rfl, (by first | exact Or.inl rfl | exact Or.inr ⟨rfl, by omega⟩), rfl⟩)
  ·
    try simp only [mIn_0, lgc_lt, lgc_gt, lgc_le, lgc_ge, lgc_eq] at c_1
    try simp only [fl_lt, fl_le, fl_eq, fL_w, fL_lt, fL_le, tm1, tm10k, tm9, tm99, Int32.reduceToInt, Int64.reduceToInt, Int.not_lt, Int.not_le] at c_1
    refine gz_iload_n dX12_isLife_4 rfl rfl ?_
    refine gz_aload_n dX12_isLife_5 rfl rfl ?_
    refine mg_394 hS dX12_isLife_6 ?_
    refine gz_icmp_ge (tgt := 16) dX12_isLife_9 (by decide) (fun c_9 => ?_) (fun c_9 => ?_)
    ·
      try simp only [mIn_0, lgc_lt, lgc_gt, lgc_le, lgc_ge, lgc_eq] at c_9
      try simp only [fl_lt, fl_le, fl_eq, fL_w, fL_lt, fL_le, tm1, tm10k, tm9, tm99, Int32.reduceToInt, Int64.reduceToInt, Int.not_lt, Int.not_le] at c_9
      refine gz_iconst (v := 0) dX12_isLife_16 (by decide) ?_
      exact gz_zret rfl (by first | decide | exact nrb (by assumption) | exact nrb (Or.inl rfl) | exact nrb (Or.inr rfl)) dX12_isLife_17 (Nat.le_of_ble_eq_true rfl) (Nat.le_of_ble_eq_true rfl) (⟨_, rfl, (by first | exact Or.inl rfl | exact Or.inr ⟨rfl, by omega⟩), rfl⟩)
    ·
      try simp only [mIn_0, lgc_lt, lgc_gt, lgc_le, lgc_ge, lgc_eq] at c_9
      try simp only [fl_lt, fl_le, fl_eq, fL_w, fL_lt, fL_le, tm1, tm10k, tm9, tm99, Int32.reduceToInt, Int64.reduceToInt, Int.not_lt, Int.not_le] at c_9
      refine gz_iconst (v := 1) dX12_isLife_12 (by decide) ?_
      refine gz_goto (tgt := 17) dX12_isLife_13 (by decide) ?_
      exact gz_zret rfl (by first | decide | exact nrb (by assumption) | exact nrb (Or.inl rfl) | exact nrb (Or.inr rfl)) dX12_isLife_17 (Nat.le_of_ble_eq_true rfl) (Nat.le_of_ble_eq_true rfl) (⟨_, rfl, (by first | exact Or.inl rfl | exact Or.inr ⟨rfl, by omega⟩), rfl⟩)

set_option maxHeartbeats 4000000 in
set_option maxRecDepth 100000 in
theorem k_X12_isHouse {l : Launch} {D : va_G} {cy : Nat → ClassId} {b : Nat} {f : gMem} {m : Nat} {a : Nat → Nat} {f0 : gMem} {n : Nat → Int32} {z : Nat → Int64} {F : Nat → Nat → Int32} {G : Nat → Nat → Int64}  {x1 : Int32} (hS : mS cy m a f0 n z F G f)  : gC l D cy b yX12_isHouse cX12_isHouse 2 (some .boolean) 0 0 0 [.ref m, .int x1] f (pI fun r f2 => (r = 0 ∨ (r = 1 ∧ 0 ≤ x1.toInt ∧ x1.toInt ≤ 7)) ∧ f2 = f) := by
  refine gC_of (by decide) (Nat.le_of_ble_eq_true rfl) ?_
  show gG l _ _ _ D cy b cX12_isHouse 2 _ RX12 "isHouse" 0 0 f 0 [(0, .ref m), (1, .int x1)] []
  refine gz_iload_n dX12_isHouse_0 rfl rfl ?_
  refine gz_if_lt (tgt := 14) dX12_isHouse_1 (by decide) (fun c_1 => ?_) (fun c_1 => ?_)
  ·
    try simp only [mIn_0, lgc_lt, lgc_gt, lgc_le, lgc_ge, lgc_eq] at c_1
    try simp only [fl_lt, fl_le, fl_eq, fL_w, fL_lt, fL_le, tm1, tm10k, tm9, tm99, Int32.reduceToInt, Int64.reduceToInt, Int.not_lt, Int.not_le] at c_1
    refine gz_iconst (v := 0) dX12_isHouse_14 (by decide) ?_
    exact gz_zret rfl (by first | decide | exact nrb (by assumption) | exact nrb (Or.inl rfl) | exact nrb (Or.inr rfl)) dX12_isHouse_15 (Nat.le_of_ble_eq_true rfl) (Nat.le_of_ble_eq_true rfl) (⟨_, rfl, (by first | exact Or.inl rfl | exact Or.inr ⟨rfl, by omega⟩), rfl⟩)
  ·
    try simp only [mIn_0, lgc_lt, lgc_gt, lgc_le, lgc_ge, lgc_eq] at c_1
    try simp only [fl_lt, fl_le, fl_eq, fL_w, fL_lt, fL_le, tm1, tm10k, tm9, tm99, Int32.reduceToInt, Int64.reduceToInt, Int.not_lt, Int.not_le] at c_1
    refine gz_iload_n dX12_isHouse_4 rfl rfl ?_
    refine gz_bipush (v := 8) dX12_isHouse_5 (by decide) ?_
    refine gz_icmp_ge (tgt := 14) dX12_isHouse_7 (by decide) (fun c_7 => ?_) (fun c_7 => ?_)
    ·
      try simp only [mIn_0, lgc_lt, lgc_gt, lgc_le, lgc_ge, lgc_eq] at c_7
      try simp only [fl_lt, fl_le, fl_eq, fL_w, fL_lt, fL_le, tm1, tm10k, tm9, tm99, Int32.reduceToInt, Int64.reduceToInt, Int.not_lt, Int.not_le] at c_7
      refine gz_iconst (v := 0) dX12_isHouse_14 (by decide) ?_
      exact gz_zret rfl (by first | decide | exact nrb (by assumption) | exact nrb (Or.inl rfl) | exact nrb (Or.inr rfl)) dX12_isHouse_15 (Nat.le_of_ble_eq_true rfl) (Nat.le_of_ble_eq_true rfl) (⟨_, rfl, (by first | exact Or.inl rfl | exact Or.inr ⟨rfl, by omega⟩), rfl⟩)
    ·
      try simp only [mIn_0, lgc_lt, lgc_gt, lgc_le, lgc_ge, lgc_eq] at c_7
      try simp only [fl_lt, fl_le, fl_eq, fL_w, fL_lt, fL_le, tm1, tm10k, tm9, tm99, Int32.reduceToInt, Int64.reduceToInt, Int.not_lt, Int.not_le] at c_7
      refine gz_iconst (v := 1) dX12_isHouse_10 (by decide) ?_
      refine gz_goto (tgt := 15) dX12_isHouse_11 (by decide) ?_
      exact gz_zret rfl (by first | decide | exact nrb (by assumption) | exact nrb (Or.inl rfl) | exact nrb (Or.inr rfl)) dX12_isHouse_15 (Nat.le_of_ble_eq_true rfl) (Nat.le_of_ble_eq_true rfl) (⟨_, rfl, (by first | exact Or.inl rfl | exact Or.inr ⟨rfl, by omega⟩), rfl⟩)

set_option maxHeartbeats 4000000 in
set_option maxRecDepth 100000 in
theorem k_X12_isStanding {l : Launch} {D : va_G} {cy : Nat → ClassId} {b : Nat} {f : gMem} {m : Nat} {a : Nat → Nat} {f0 : gMem} {n : Nat → Int32} {z : Nat → Int64} {F : Nat → Nat → Int32} {G : Nat → Nat → Int64}  {x1 x2 : Int32} (hS : mS cy m a f0 n z F G f) (a30 : (n 30).toInt ≤ 40) (bL : rL F (n 5).toInt (n 30).toInt) : gC l D cy b yX12_isStanding cX12_isStanding 3 (some .boolean) 1 0 0 [.ref m, .int x1, .int x2] f (pI fun r f2 => (r = 0 ∨ (r = 1 ∧ 0 ≤ x1.toInt ∧ x1.toInt < (n 30).toInt ∧ 0 ≤ x2.toInt ∧ x2.toInt < (F 35 (Int32.toNatClampNeg x1)).toInt)) ∧ f2 = f) := by
  refine gC_of (by decide) (Nat.le_of_ble_eq_true rfl) ?_
  show gG l _ _ _ D cy b cX12_isStanding 3 _ RX12 "isStanding" 0 0 f 0 [(0, .ref m), (1, .int x1), (2, .int x2)] []
  refine gz_aload_n dX12_isStanding_0 rfl rfl ?_
  refine gz_iload_n dX12_isStanding_1 rfl rfl ?_
  refine scX12_410 (k_X12_isLife (x1 := x1) hS ) hS.1 ⟨(Nat.le_of_ble_eq_true rfl), (Nat.le_of_ble_eq_true rfl)⟩ ⟨(Nat.le_of_ble_eq_true rfl), (Nat.le_of_ble_eq_true rfl)⟩ rfl rfl (Nat.le_of_ble_eq_true rfl) dX12_isStanding_2 ?_
  rintro r_1 f9 ⟨hb_1, y9⟩; rw [y9]
  try rw [(show n 30 = (n 30) from rfl)] at hb_1
  have hbb_1 : r_1 = 0 ∨ r_1 = 1 := hb_1.imp_right And.left
  simp only [fl_eq, Int32.reduceToInt] at hb_1
  refine gz_if_eq (tgt := 30) dX12_isStanding_5 (by decide) (fun c_5 => ?_) (fun c_5 => ?_)
  ·
    try simp only [mIn_0, lgc_lt, lgc_gt, lgc_le, lgc_ge, lgc_eq] at c_5
    try simp only [fl_lt, fl_le, fl_eq, fL_w, fL_lt, fL_le, tm1, tm10k, tm9, tm99, Int32.reduceToInt, Int64.reduceToInt, Int.not_lt, Int.not_le] at c_5
    refine gz_iconst (v := 0) dX12_isStanding_30 (by decide) ?_
    exact gz_zret rfl (by first | decide | exact nrb (by assumption) | exact nrb (Or.inl rfl) | exact nrb (Or.inr rfl)) dX12_isStanding_31 (Nat.le_of_ble_eq_true rfl) (Nat.le_of_ble_eq_true rfl) (⟨_, rfl, (by first | exact Or.inl rfl | exact Or.inr ⟨rfl, by omega⟩), rfl⟩)
  ·
    try simp only [mIn_0, lgc_lt, lgc_gt, lgc_le, lgc_ge, lgc_eq] at c_5
    try simp only [fl_lt, fl_le, fl_eq, fL_w, fL_lt, fL_le, tm1, tm10k, tm9, tm99, Int32.reduceToInt, Int64.reduceToInt, Int.not_lt, Int.not_le] at c_5
    refine gz_iload_n dX12_isStanding_8 rfl rfl ?_
    refine gz_i2l dX12_isStanding_9 ?_
    refine gz_lconst (v := 0) dX12_isStanding_10 (by decide) ?_
    refine gz_aload_n dX12_isStanding_11 rfl rfl ?_
    refine mg_109 hS dX12_isStanding_12 ?_
    refine gz_iload_n dX12_isStanding_15 rfl rfl ?_
    refine m_iald 35 hS rfl (N := 40) rfl ((by exact vin_T (rfl : (x1).toInt = (x1).toInt) (by omega) (by omega))) dX12_isStanding_16 ?_
    refine gz_iconst (v := 1) dX12_isStanding_17 (by decide) ?_
    refine gz_isub dX12_isStanding_18 ?_
    refine gz_i2l dX12_isStanding_19 ?_
    have qL := bL (Int32.toNatClampNeg x1) (by have := clI (i := x1) (by omega); omega)
    have qs : ((F 35 (Int32.toNatClampNeg x1)) - 1).toInt = (F 35 (Int32.toNatClampNeg x1)).toInt - 1 := T_sub rfl (show (1 : Int32).toInt = 1 from rfl) (by omega)
    refine scX12_245 (k_X12_in (x := x2.toInt64) (y := 0) (w := (((F 35) (Int32.toNatClampNeg x1)) - 1).toInt64)) ⟨(Nat.le_of_ble_eq_true rfl), (Nat.le_of_ble_eq_true rfl)⟩ ⟨(Nat.le_of_ble_eq_true rfl), (Nat.le_of_ble_eq_true rfl)⟩ rfl rfl (Nat.le_of_ble_eq_true rfl) dX12_isStanding_20 ?_
    intro v9 f9 z9; rw [z9.1, z9.2]
    refine gz_if_eq (tgt := 30) dX12_isStanding_23 (by decide) (fun c_23 => ?_) (fun c_23 => ?_)
    ·
      try simp only [mIn_0, lgc_lt, lgc_gt, lgc_le, lgc_ge, lgc_eq] at c_23
      try simp only [fl_lt, fl_le, fl_eq, fL_w, fL_lt, fL_le, tm1, tm10k, tm9, tm99, Int32.reduceToInt, Int64.reduceToInt, Int.not_lt, Int.not_le] at c_23
      refine gz_iconst (v := 0) dX12_isStanding_30 (by decide) ?_
      exact gz_zret rfl (by first | decide | exact nrb (by assumption) | exact nrb (Or.inl rfl) | exact nrb (Or.inr rfl)) dX12_isStanding_31 (Nat.le_of_ble_eq_true rfl) (Nat.le_of_ble_eq_true rfl) (⟨_, rfl, (by first | exact Or.inl rfl | exact Or.inr ⟨rfl, by omega⟩), rfl⟩)
    ·
      try simp only [mIn_0, lgc_lt, lgc_gt, lgc_le, lgc_ge, lgc_eq] at c_23
      try simp only [fl_lt, fl_le, fl_eq, fL_w, fL_lt, fL_le, tm1, tm10k, tm9, tm99, Int32.reduceToInt, Int64.reduceToInt, Int.not_lt, Int.not_le] at c_23
      refine gz_iconst (v := 1) dX12_isStanding_26 (by decide) ?_
      refine gz_goto (tgt := 31) dX12_isStanding_27 (by decide) ?_
      exact gz_zret rfl (by first | decide | exact nrb (by assumption) | exact nrb (Or.inl rfl) | exact nrb (Or.inr rfl)) dX12_isStanding_31 (Nat.le_of_ble_eq_true rfl) (Nat.le_of_ble_eq_true rfl) (⟨_, rfl, (by first | exact Or.inl rfl | exact Or.inr ⟨rfl, by omega⟩), rfl⟩)

set_option maxHeartbeats 4000000 in
set_option maxRecDepth 100000 in
theorem k_X12_words {l : Launch} {D : va_G} {cy : Nat → ClassId} {b : Nat} {f : gMem} {m : Nat} {a : Nat → Nat} {f0 : gMem} {n : Nat → Int32} {z : Nat → Int64} {F : Nat → Nat → Int32} {G : Nat → Nat → Int64}  {x1 : Int32} (hS : mS cy m a f0 n z F G f) (hR : RI n F) : gC l D cy b yX12_words cX12_words 2 (some .int) 1 0 0 [.ref m, .int x1] f (pI fun r f2 => True ∧ f2 = f) := by
  obtain ⟨a0, a4, a5, bA, bW, a30, bL, a38, bP, a53, a47, a88⟩ := id hR
  refine gC_of (by decide) (Nat.le_of_ble_eq_true rfl) ?_
  show gG l _ _ _ D cy b cX12_words 2 _ RX12 "words" 0 0 f 0 [(0, .ref m), (1, .int x1)] []
  refine gz_aload_n dX12_words_0 rfl rfl ?_
  refine gz_iload_n dX12_words_1 rfl rfl ?_
  refine scX12_337 (k_X12_isForm (x1 := x1) hS ) hS.1 ⟨(Nat.le_of_ble_eq_true rfl), (Nat.le_of_ble_eq_true rfl)⟩ ⟨(Nat.le_of_ble_eq_true rfl), (Nat.le_of_ble_eq_true rfl)⟩ rfl rfl (Nat.le_of_ble_eq_true rfl) dX12_words_2 ?_
  rintro r_1 f9 ⟨hb_1, y9⟩; rw [y9]
  try rw [(show n 5 = (n 5) from rfl)] at hb_1
  have hbb_1 : r_1 = 0 ∨ r_1 = 1 := hb_1.imp_right And.left
  simp only [fl_eq, Int32.reduceToInt] at hb_1
  refine gz_if_eq (tgt := 17) dX12_words_5 (by decide) (fun c_5 => ?_) (fun c_5 => ?_)
  ·
    try simp only [mIn_0, lgc_lt, lgc_gt, lgc_le, lgc_ge, lgc_eq] at c_5
    try simp only [fl_lt, fl_le, fl_eq, fL_w, fL_lt, fL_le, tm1, tm10k, tm9, tm99, Int32.reduceToInt, Int64.reduceToInt, Int.not_lt, Int.not_le] at c_5
    refine gz_iconst (v := (-1)) dX12_words_17 (by decide) ?_
    exact gz_iret rfl dX12_words_18 (Nat.le_of_ble_eq_true rfl) (Nat.le_of_ble_eq_true rfl) (⟨_, rfl, trivial, rfl⟩)
  ·
    try simp only [mIn_0, lgc_lt, lgc_gt, lgc_le, lgc_ge, lgc_eq] at c_5
    try simp only [fl_lt, fl_le, fl_eq, fL_w, fL_lt, fL_le, tm1, tm10k, tm9, tm99, Int32.reduceToInt, Int64.reduceToInt, Int.not_lt, Int.not_le] at c_5
    refine gz_aload_n dX12_words_8 rfl rfl ?_
    refine mg_17 hS dX12_words_9 ?_
    refine gz_iload_n dX12_words_12 rfl rfl ?_
    refine m_iald 6 hS rfl (N := 22) rfl ((by exact vin_T (rfl : (x1).toInt = (x1).toInt) (by omega) (by omega))) dX12_words_13 ?_
    refine gz_goto (tgt := 18) dX12_words_14 (by decide) ?_
    exact gz_iret rfl dX12_words_18 (Nat.le_of_ble_eq_true rfl) (Nat.le_of_ble_eq_true rfl) (⟨_, rfl, trivial, rfl⟩)

set_option maxHeartbeats 4000000 in
set_option maxRecDepth 100000 in
theorem k_X12_stands {l : Launch} {D : va_G} {cy : Nat → ClassId} {b : Nat} {f : gMem} {m : Nat} {a : Nat → Nat} {f0 : gMem} {n : Nat → Int32} {z : Nat → Int64} {F : Nat → Nat → Int32} {G : Nat → Nat → Int64}  {x1 : Int32} (hS : mS cy m a f0 n z F G f) (hR : RI n F) : gC l D cy b yX12_stands cX12_stands 2 (some .int) 1 0 0 [.ref m, .int x1] f (pI fun r f2 => True ∧ f2 = f) := by
  obtain ⟨a0, a4, a5, bA, bW, a30, bL, a38, bP, a53, a47, a88⟩ := id hR
  refine gC_of (by decide) (Nat.le_of_ble_eq_true rfl) ?_
  show gG l _ _ _ D cy b cX12_stands 2 _ RX12 "stands" 0 0 f 0 [(0, .ref m), (1, .int x1)] []
  refine gz_aload_n dX12_stands_0 rfl rfl ?_
  refine gz_iload_n dX12_stands_1 rfl rfl ?_
  refine scX12_410 (k_X12_isLife (x1 := x1) hS ) hS.1 ⟨(Nat.le_of_ble_eq_true rfl), (Nat.le_of_ble_eq_true rfl)⟩ ⟨(Nat.le_of_ble_eq_true rfl), (Nat.le_of_ble_eq_true rfl)⟩ rfl rfl (Nat.le_of_ble_eq_true rfl) dX12_stands_2 ?_
  rintro r_1 f9 ⟨hb_1, y9⟩; rw [y9]
  try rw [(show n 30 = (n 30) from rfl)] at hb_1
  have hbb_1 : r_1 = 0 ∨ r_1 = 1 := hb_1.imp_right And.left
  simp only [fl_eq, Int32.reduceToInt] at hb_1
  refine gz_if_eq (tgt := 17) dX12_stands_5 (by decide) (fun c_5 => ?_) (fun c_5 => ?_)
  ·
    try simp only [mIn_0, lgc_lt, lgc_gt, lgc_le, lgc_ge, lgc_eq] at c_5
    try simp only [fl_lt, fl_le, fl_eq, fL_w, fL_lt, fL_le, tm1, tm10k, tm9, tm99, Int32.reduceToInt, Int64.reduceToInt, Int.not_lt, Int.not_le] at c_5
    refine gz_iconst (v := (-1)) dX12_stands_17 (by decide) ?_
    exact gz_iret rfl dX12_stands_18 (Nat.le_of_ble_eq_true rfl) (Nat.le_of_ble_eq_true rfl) (⟨_, rfl, trivial, rfl⟩)
  ·
    try simp only [mIn_0, lgc_lt, lgc_gt, lgc_le, lgc_ge, lgc_eq] at c_5
    try simp only [fl_lt, fl_le, fl_eq, fL_w, fL_lt, fL_le, tm1, tm10k, tm9, tm99, Int32.reduceToInt, Int64.reduceToInt, Int.not_lt, Int.not_le] at c_5
    refine gz_aload_n dX12_stands_8 rfl rfl ?_
    refine mg_109 hS dX12_stands_9 ?_
    refine gz_iload_n dX12_stands_12 rfl rfl ?_
    refine m_iald 35 hS rfl (N := 40) rfl ((by exact vin_T (rfl : (x1).toInt = (x1).toInt) (by omega) (by omega))) dX12_stands_13 ?_
    refine gz_goto (tgt := 18) dX12_stands_14 (by decide) ?_
    exact gz_iret rfl dX12_stands_18 (Nat.le_of_ble_eq_true rfl) (Nat.le_of_ble_eq_true rfl) (⟨_, rfl, trivial, rfl⟩)

set_option maxHeartbeats 4000000 in
set_option maxRecDepth 100000 in
theorem k_X12_got {l : Launch} {D : va_G} {cy : Nat → ClassId} {b : Nat} {f : gMem} {m : Nat} {a : Nat → Nat} {f0 : gMem} {n : Nat → Int32} {z : Nat → Int64} {F : Nat → Nat → Int32} {G : Nat → Nat → Int64}  {x1 : Int32} (hS : mS cy m a f0 n z F G f) (hR : RI n F) : gC l D cy b yX12_got cX12_got 2 (some .long) 1 0 0 [.ref m, .int x1] f (pL fun r f2 => True ∧ f2 = f) := by
  obtain ⟨a0, a4, a5, bA, bW, a30, bL, a38, bP, a53, a47, a88⟩ := id hR
  refine gC_of (by decide) (Nat.le_of_ble_eq_true rfl) ?_
  show gG l _ _ _ D cy b cX12_got 2 _ RX12 "got" 0 0 f 0 [(0, .ref m), (1, .int x1)] []
  refine gz_aload_n dX12_got_0 rfl rfl ?_
  refine gz_iload_n dX12_got_1 rfl rfl ?_
  refine scX12_410 (k_X12_isLife (x1 := x1) hS ) hS.1 ⟨(Nat.le_of_ble_eq_true rfl), (Nat.le_of_ble_eq_true rfl)⟩ ⟨(Nat.le_of_ble_eq_true rfl), (Nat.le_of_ble_eq_true rfl)⟩ rfl rfl (Nat.le_of_ble_eq_true rfl) dX12_got_2 ?_
  rintro r_1 f9 ⟨hb_1, y9⟩; rw [y9]
  try rw [(show n 30 = (n 30) from rfl)] at hb_1
  have hbb_1 : r_1 = 0 ∨ r_1 = 1 := hb_1.imp_right And.left
  simp only [fl_eq, Int32.reduceToInt] at hb_1
  refine gz_if_eq (tgt := 17) dX12_got_5 (by decide) (fun c_5 => ?_) (fun c_5 => ?_)
  ·
    try simp only [mIn_0, lgc_lt, lgc_gt, lgc_le, lgc_ge, lgc_eq] at c_5
    try simp only [fl_lt, fl_le, fl_eq, fL_w, fL_lt, fL_le, tm1, tm10k, tm9, tm99, Int32.reduceToInt, Int64.reduceToInt, Int.not_lt, Int.not_le] at c_5
    refine gz_lconst (v := 0) dX12_got_17 (by decide) ?_
    exact gz_lret rfl dX12_got_18 (Nat.le_of_ble_eq_true rfl) (Nat.le_of_ble_eq_true rfl) (⟨_, rfl, trivial, rfl⟩)
  ·
    try simp only [mIn_0, lgc_lt, lgc_gt, lgc_le, lgc_ge, lgc_eq] at c_5
    try simp only [fl_lt, fl_le, fl_eq, fL_w, fL_lt, fL_le, tm1, tm10k, tm9, tm99, Int32.reduceToInt, Int64.reduceToInt, Int.not_lt, Int.not_le] at c_5
    refine gz_aload_n dX12_got_8 rfl rfl ?_
    refine mg_106 hS dX12_got_9 ?_
    refine gz_iload_n dX12_got_12 rfl rfl ?_
    refine m_lald 34 hS rfl (N := 40) rfl ((by exact vin_T (rfl : (x1).toInt = (x1).toInt) (by omega) (by omega))) dX12_got_13 ?_
    refine gz_goto (tgt := 18) dX12_got_14 (by decide) ?_
    exact gz_lret rfl dX12_got_18 (Nat.le_of_ble_eq_true rfl) (Nat.le_of_ble_eq_true rfl) (⟨_, rfl, trivial, rfl⟩)

set_option maxHeartbeats 4000000 in
set_option maxRecDepth 100000 in
theorem k_X12_word {l : Launch} {D : va_G} {cy : Nat → ClassId} {b : Nat} {f : gMem} {m : Nat} {a : Nat → Nat} {f0 : gMem} {n : Nat → Int32} {z : Nat → Int64} {F : Nat → Nat → Int32} {G : Nat → Nat → Int64}  {x1 x2 x3 : Int32} (hS : mS cy m a f0 n z F G f) (hR : RI n F) : gC l D cy b yX12_word cX12_word 5 (some .int) 1 0 0 [.ref m, .int x1, .int x2, .int x3] f (pI fun r f2 => True ∧ f2 = f) := by
  obtain ⟨a0, a4, a5, bA, bW, a30, bL, a38, bP, a53, a47, a88⟩ := id hR
  refine gC_of (by decide) (Nat.le_of_ble_eq_true rfl) ?_
  show gG l _ _ _ D cy b cX12_word 5 _ RX12 "word" 0 0 f 0 [(0, .ref m), (1, .int x1), (2, .int x2), (3, .int x3)] []
  refine gz_aload_n dX12_word_0 rfl rfl ?_
  refine gz_iload_n dX12_word_1 rfl rfl ?_
  refine scX12_337 (k_X12_isForm (x1 := x1) hS ) hS.1 ⟨(Nat.le_of_ble_eq_true rfl), (Nat.le_of_ble_eq_true rfl)⟩ ⟨(Nat.le_of_ble_eq_true rfl), (Nat.le_of_ble_eq_true rfl)⟩ rfl rfl (Nat.le_of_ble_eq_true rfl) dX12_word_2 ?_
  rintro r_1 f9 ⟨hb_1, y9⟩; rw [y9]
  try rw [(show n 5 = (n 5) from rfl)] at hb_1
  have hbb_1 : r_1 = 0 ∨ r_1 = 1 := hb_1.imp_right And.left
  simp only [fl_eq, Int32.reduceToInt] at hb_1
  refine gz_if_eq (tgt := 26) dX12_word_5 (by decide) (fun c_5 => ?_) (fun c_5 => ?_)
  ·
    try simp only [mIn_0, lgc_lt, lgc_gt, lgc_le, lgc_ge, lgc_eq] at c_5
    try simp only [fl_lt, fl_le, fl_eq, fL_w, fL_lt, fL_le, tm1, tm10k, tm9, tm99, Int32.reduceToInt, Int64.reduceToInt, Int.not_lt, Int.not_le] at c_5
    refine gz_iconst (v := (-1)) dX12_word_26 (by decide) ?_
    exact gz_iret rfl dX12_word_27 (Nat.le_of_ble_eq_true rfl) (Nat.le_of_ble_eq_true rfl) (⟨_, rfl, trivial, rfl⟩)
  ·
    try simp only [mIn_0, lgc_lt, lgc_gt, lgc_le, lgc_ge, lgc_eq] at c_5
    try simp only [fl_lt, fl_le, fl_eq, fL_w, fL_lt, fL_le, tm1, tm10k, tm9, tm99, Int32.reduceToInt, Int64.reduceToInt, Int.not_lt, Int.not_le] at c_5
    refine gz_iload_n dX12_word_8 rfl rfl ?_
    refine gz_i2l dX12_word_9 ?_
    refine gz_lconst (v := 0) dX12_word_10 (by decide) ?_
    refine gz_aload_n dX12_word_11 rfl rfl ?_
    refine mg_17 hS dX12_word_12 ?_
    refine gz_iload_n dX12_word_15 rfl rfl ?_
    refine m_iald 6 hS rfl (N := 22) rfl ((by exact vin_T (rfl : (x1).toInt = (x1).toInt) (by omega) (by omega))) dX12_word_16 ?_
    refine gz_iconst (v := 1) dX12_word_17 (by decide) ?_
    refine gz_isub dX12_word_18 ?_
    refine gz_i2l dX12_word_19 ?_
    have qW := (bW (Int32.toNatClampNeg x1) (by have := clI (i := x1) (by omega); omega)).1
    have qs : ((F 6 (Int32.toNatClampNeg x1)) - 1).toInt = (F 6 (Int32.toNatClampNeg x1)).toInt - 1 := T_sub rfl (show (1 : Int32).toInt = 1 from rfl) (by omega)
    refine scX12_245 (k_X12_in (x := x2.toInt64) (y := 0) (w := (((F 6) (Int32.toNatClampNeg x1)) - 1).toInt64)) ⟨(Nat.le_of_ble_eq_true rfl), (Nat.le_of_ble_eq_true rfl)⟩ ⟨(Nat.le_of_ble_eq_true rfl), (Nat.le_of_ble_eq_true rfl)⟩ rfl rfl (Nat.le_of_ble_eq_true rfl) dX12_word_20 ?_
    intro v9 f9 z9; rw [z9.1, z9.2]
    refine gz_if_ne (tgt := 28) dX12_word_23 (by decide) (fun c_23 => ?_) (fun c_23 => ?_)
    ·
      try simp only [mIn_0, lgc_lt, lgc_gt, lgc_le, lgc_ge, lgc_eq] at c_23
      try simp only [fl_lt, fl_le, fl_eq, fL_w, fL_lt, fL_le, tm1, tm10k, tm9, tm99, Int32.reduceToInt, Int64.reduceToInt, Int.not_lt, Int.not_le] at c_23
      refine gz_bipush (v := 40) dX12_word_28 (by decide) ?_
      refine gz_iload_n dX12_word_30 rfl rfl ?_
      refine gz_imul dX12_word_31 ?_
      refine gz_iload_n dX12_word_32 rfl rfl ?_
      refine gz_iadd dX12_word_33 ?_
      refine gz_istore (lv' := [(4, .int ((40 * x1) + x2)), (0, .ref m), (1, .int x1), (2, .int x2), (3, .int x3)]) dX12_word_34 (by decide) rfl ?_
      refine gz_iload_n dX12_word_36 rfl rfl ?_
      refine gz_if_ne (tgt := 50) dX12_word_37 (by decide) (fun c_37 => ?_) (fun c_37 => ?_)
      ·
        try simp only [mIn_0, lgc_lt, lgc_gt, lgc_le, lgc_ge, lgc_eq] at c_37
        try simp only [fl_lt, fl_le, fl_eq, fL_w, fL_lt, fL_le, tm1, tm10k, tm9, tm99, Int32.reduceToInt, Int64.reduceToInt, Int.not_lt, Int.not_le] at c_37
        refine gz_iload_n dX12_word_50 rfl rfl ?_
        refine gz_iconst (v := 1) dX12_word_51 (by decide) ?_
        refine gz_icmp_ne (tgt := 65) dX12_word_52 (by decide) (fun c_52 => ?_) (fun c_52 => ?_)
        ·
          try simp only [mIn_0, lgc_lt, lgc_gt, lgc_le, lgc_ge, lgc_eq] at c_52
          try simp only [fl_lt, fl_le, fl_eq, fL_w, fL_lt, fL_le, tm1, tm10k, tm9, tm99, Int32.reduceToInt, Int64.reduceToInt, Int.not_lt, Int.not_le] at c_52
          refine gz_iload_n dX12_word_65 rfl rfl ?_
          refine gz_iconst (v := 2) dX12_word_66 (by decide) ?_
          refine gz_icmp_ne (tgt := 80) dX12_word_67 (by decide) (fun c_67 => ?_) (fun c_67 => ?_)
          ·
            try simp only [mIn_0, lgc_lt, lgc_gt, lgc_le, lgc_ge, lgc_eq] at c_67
            try simp only [fl_lt, fl_le, fl_eq, fL_w, fL_lt, fL_le, tm1, tm10k, tm9, tm99, Int32.reduceToInt, Int64.reduceToInt, Int.not_lt, Int.not_le] at c_67
            refine gz_iconst (v := (-1)) dX12_word_80 (by decide) ?_
            exact gz_iret rfl dX12_word_81 (Nat.le_of_ble_eq_true rfl) (Nat.le_of_ble_eq_true rfl) (⟨_, rfl, trivial, rfl⟩)
          ·
            try simp only [mIn_0, lgc_lt, lgc_gt, lgc_le, lgc_ge, lgc_eq] at c_67
            try simp only [fl_lt, fl_le, fl_eq, fL_w, fL_lt, fL_le, tm1, tm10k, tm9, tm99, Int32.reduceToInt, Int64.reduceToInt, Int.not_lt, Int.not_le] at c_67
            refine gz_aload_n dX12_word_70 rfl rfl ?_
            refine mg_23 hS dX12_word_71 ?_
            refine gz_iload dX12_word_74 rfl ?_
            refine m_iald 8 hS rfl (N := 880) rfl ((by have q9 := (T_add (T_mul (show (40 : Int32).toInt = 40 from rfl) (rfl : (x1).toInt = (x1).toInt) (by omega)) (rfl : (x2).toInt = (x2).toInt) (by omega)); exact vin_T q9 (by omega) (by omega))) dX12_word_76 ?_
            refine gz_goto (tgt := 81) dX12_word_77 (by decide) ?_
            exact gz_iret rfl dX12_word_81 (Nat.le_of_ble_eq_true rfl) (Nat.le_of_ble_eq_true rfl) (⟨_, rfl, trivial, rfl⟩)
        ·
          try simp only [mIn_0, lgc_lt, lgc_gt, lgc_le, lgc_ge, lgc_eq] at c_52
          try simp only [fl_lt, fl_le, fl_eq, fL_w, fL_lt, fL_le, tm1, tm10k, tm9, tm99, Int32.reduceToInt, Int64.reduceToInt, Int.not_lt, Int.not_le] at c_52
          refine gz_aload_n dX12_word_55 rfl rfl ?_
          refine mg_26 hS dX12_word_56 ?_
          refine gz_iload dX12_word_59 rfl ?_
          refine m_iald 9 hS rfl (N := 880) rfl ((by have q9 := (T_add (T_mul (show (40 : Int32).toInt = 40 from rfl) (rfl : (x1).toInt = (x1).toInt) (by omega)) (rfl : (x2).toInt = (x2).toInt) (by omega)); exact vin_T q9 (by omega) (by omega))) dX12_word_61 ?_
          refine gz_goto (tgt := 81) dX12_word_62 (by decide) ?_
          exact gz_iret rfl dX12_word_81 (Nat.le_of_ble_eq_true rfl) (Nat.le_of_ble_eq_true rfl) (⟨_, rfl, trivial, rfl⟩)
      ·
        try simp only [mIn_0, lgc_lt, lgc_gt, lgc_le, lgc_ge, lgc_eq] at c_37
        try simp only [fl_lt, fl_le, fl_eq, fL_w, fL_lt, fL_le, tm1, tm10k, tm9, tm99, Int32.reduceToInt, Int64.reduceToInt, Int.not_lt, Int.not_le] at c_37
        refine gz_aload_n dX12_word_40 rfl rfl ?_
        refine mg_20 hS dX12_word_41 ?_
        refine gz_iload dX12_word_44 rfl ?_
        refine m_iald 7 hS rfl (N := 880) rfl ((by have q9 := (T_add (T_mul (show (40 : Int32).toInt = 40 from rfl) (rfl : (x1).toInt = (x1).toInt) (by omega)) (rfl : (x2).toInt = (x2).toInt) (by omega)); exact vin_T q9 (by omega) (by omega))) dX12_word_46 ?_
        refine gz_goto (tgt := 81) dX12_word_47 (by decide) ?_
        exact gz_iret rfl dX12_word_81 (Nat.le_of_ble_eq_true rfl) (Nat.le_of_ble_eq_true rfl) (⟨_, rfl, trivial, rfl⟩)
    ·
      try simp only [mIn_0, lgc_lt, lgc_gt, lgc_le, lgc_ge, lgc_eq] at c_23
      try simp only [fl_lt, fl_le, fl_eq, fL_w, fL_lt, fL_le, tm1, tm10k, tm9, tm99, Int32.reduceToInt, Int64.reduceToInt, Int.not_lt, Int.not_le] at c_23
      refine gz_iconst (v := (-1)) dX12_word_26 (by decide) ?_
      exact gz_iret rfl dX12_word_27 (Nat.le_of_ble_eq_true rfl) (Nat.le_of_ble_eq_true rfl) (⟨_, rfl, trivial, rfl⟩)

set_option maxHeartbeats 4000000 in
set_option maxRecDepth 100000 in
theorem k_X12_payment {l : Launch} {D : va_G} {cy : Nat → ClassId} {b : Nat} {f : gMem} {m : Nat} {a : Nat → Nat} {f0 : gMem} {n : Nat → Int32} {z : Nat → Int64} {F : Nat → Nat → Int32} {G : Nat → Nat → Int64}  {x1 x2 : Int32} (hS : mS cy m a f0 n z F G f) (hR : RI n F) : gC l D cy b yX12_payment cX12_payment 3 (some .int) 1 0 0 [.ref m, .int x1, .int x2] f (pI fun r f2 => True ∧ f2 = f) := by
  obtain ⟨a0, a4, a5, bA, bW, a30, bL, a38, bP, a53, a47, a88⟩ := id hR
  refine gC_of (by decide) (Nat.le_of_ble_eq_true rfl) ?_
  show gG l _ _ _ D cy b cX12_payment 3 _ RX12 "payment" 0 0 f 0 [(0, .ref m), (1, .int x1), (2, .int x2)] []
  refine gz_iload_n dX12_payment_0 rfl rfl ?_
  refine gz_i2l dX12_payment_1 ?_
  refine gz_lconst (v := 0) dX12_payment_2 (by decide) ?_
  refine gz_aload_n dX12_payment_3 rfl rfl ?_
  refine mg_364 hS dX12_payment_4 ?_
  refine gz_iconst (v := 1) dX12_payment_7 (by decide) ?_
  refine gz_isub dX12_payment_8 ?_
  refine gz_i2l dX12_payment_9 ?_
  have qs : ((n 38) - 1).toInt = (n 38).toInt - 1 := T_sub rfl (show (1 : Int32).toInt = 1 from rfl) (by omega)
  refine scX12_245 (k_X12_in (x := x1.toInt64) (y := 0) (w := ((n 38) - 1).toInt64)) ⟨(Nat.le_of_ble_eq_true rfl), (Nat.le_of_ble_eq_true rfl)⟩ ⟨(Nat.le_of_ble_eq_true rfl), (Nat.le_of_ble_eq_true rfl)⟩ rfl rfl (Nat.le_of_ble_eq_true rfl) dX12_payment_10 ?_
  intro v9 f9 z9; rw [z9.1, z9.2]
  refine gz_if_ne (tgt := 20) dX12_payment_13 (by decide) (fun c_13 => ?_) (fun c_13 => ?_)
  ·
    try simp only [mIn_0, lgc_lt, lgc_gt, lgc_le, lgc_ge, lgc_eq] at c_13
    try simp only [fl_lt, fl_le, fl_eq, fL_w, fL_lt, fL_le, tm1, tm10k, tm9, tm99, Int32.reduceToInt, Int64.reduceToInt, Int.not_lt, Int.not_le] at c_13
    refine gz_iload_n dX12_payment_20 rfl rfl ?_
    by_cases hw_21_0 : x2 = 0
    ·
      refine gz_ev (w := .int 0) (congrArg Value.int hw_21_0) ?_
      refine gz_tableIn (off := 31) (tgt := 52) dX12_payment_21 (by decide) (by decide) rfl (by decide) ?_
      refine gz_aload_n dX12_payment_52 rfl rfl ?_
      refine mg_118 hS dX12_payment_53 ?_
      refine gz_iload_n dX12_payment_56 rfl rfl ?_
      refine m_iald 39 hS rfl (N := 2000) rfl ((by exact vin_T (rfl : (x1).toInt = (x1).toInt) (by omega) (by omega))) dX12_payment_57 ?_
      exact gz_iret rfl dX12_payment_58 (Nat.le_of_ble_eq_true rfl) (Nat.le_of_ble_eq_true rfl) (⟨_, rfl, trivial, rfl⟩)
    ·
      by_cases hw_21_1 : x2 = 1
      ·
        refine gz_ev (w := .int 1) (congrArg Value.int hw_21_1) ?_
        refine gz_tableIn (off := 38) (tgt := 59) dX12_payment_21 (by decide) (by decide) rfl (by decide) ?_
        refine gz_aload_n dX12_payment_59 rfl rfl ?_
        refine mg_121 hS dX12_payment_60 ?_
        refine gz_iload_n dX12_payment_63 rfl rfl ?_
        refine m_iald 40 hS rfl (N := 2000) rfl ((by exact vin_T (rfl : (x1).toInt = (x1).toInt) (by omega) (by omega))) dX12_payment_64 ?_
        exact gz_iret rfl dX12_payment_65 (Nat.le_of_ble_eq_true rfl) (Nat.le_of_ble_eq_true rfl) (⟨_, rfl, trivial, rfl⟩)
      ·
        by_cases hw_21_2 : x2 = 2
        ·
          refine gz_ev (w := .int 2) (congrArg Value.int hw_21_2) ?_
          refine gz_tableIn (off := 45) (tgt := 66) dX12_payment_21 (by decide) (by decide) rfl (by decide) ?_
          refine gz_aload_n dX12_payment_66 rfl rfl ?_
          refine mg_124 hS dX12_payment_67 ?_
          refine gz_iload_n dX12_payment_70 rfl rfl ?_
          refine m_iald 41 hS rfl (N := 2000) rfl ((by exact vin_T (rfl : (x1).toInt = (x1).toInt) (by omega) (by omega))) dX12_payment_71 ?_
          exact gz_iret rfl dX12_payment_72 (Nat.le_of_ble_eq_true rfl) (Nat.le_of_ble_eq_true rfl) (⟨_, rfl, trivial, rfl⟩)
        ·
          by_cases hw_21_3 : x2 = 3
          ·
            refine gz_ev (w := .int 3) (congrArg Value.int hw_21_3) ?_
            refine gz_tableIn (off := 52) (tgt := 73) dX12_payment_21 (by decide) (by decide) rfl (by decide) ?_
            refine gz_aload_n dX12_payment_73 rfl rfl ?_
            refine mg_127 hS dX12_payment_74 ?_
            refine gz_iload_n dX12_payment_77 rfl rfl ?_
            refine m_iald 42 hS rfl (N := 2000) rfl ((by exact vin_T (rfl : (x1).toInt = (x1).toInt) (by omega) (by omega))) dX12_payment_78 ?_
            exact gz_iret rfl dX12_payment_79 (Nat.le_of_ble_eq_true rfl) (Nat.le_of_ble_eq_true rfl) (⟨_, rfl, trivial, rfl⟩)
          ·
            refine gz_tableOut (tgt := 80) dX12_payment_21 (by have g0 : x2.toInt ≠ 0 := fun e => hw_21_0 (Int32.toInt_inj.mp (e.trans rfl)); have g1 : x2.toInt ≠ 1 := fun e => hw_21_1 (Int32.toInt_inj.mp (e.trans rfl)); have g2 : x2.toInt ≠ 2 := fun e => hw_21_2 (Int32.toInt_inj.mp (e.trans rfl)); have g3 : x2.toInt ≠ 3 := fun e => hw_21_3 (Int32.toInt_inj.mp (e.trans rfl)); omega) (by decide) ?_
            refine gz_ldcw (v := (-10000000)) wd_949 dX12_payment_80 ?_
            exact gz_iret rfl dX12_payment_83 (Nat.le_of_ble_eq_true rfl) (Nat.le_of_ble_eq_true rfl) (⟨_, rfl, trivial, rfl⟩)
  ·
    try simp only [mIn_0, lgc_lt, lgc_gt, lgc_le, lgc_ge, lgc_eq] at c_13
    try simp only [fl_lt, fl_le, fl_eq, fL_w, fL_lt, fL_le, tm1, tm10k, tm9, tm99, Int32.reduceToInt, Int64.reduceToInt, Int.not_lt, Int.not_le] at c_13
    refine gz_ldcw (v := (-10000000)) wd_949 dX12_payment_16 ?_
    exact gz_iret rfl dX12_payment_19 (Nat.le_of_ble_eq_true rfl) (Nat.le_of_ble_eq_true rfl) (⟨_, rfl, trivial, rfl⟩)

set_option maxHeartbeats 4000000 in
set_option maxRecDepth 100000 in
theorem k_X12_octet {l : Launch} {D : va_G} {cy : Nat → ClassId} {b : Nat} {f : gMem} {m : Nat} {a : Nat → Nat} {f0 : gMem} {n : Nat → Int32} {z : Nat → Int64} {F : Nat → Nat → Int32} {G : Nat → Nat → Int64}  {x1 : Int32} (hS : mS cy m a f0 n z F G f) (hR : RI n F) : gC l D cy b yX12_octet cX12_octet 2 (some .int) 1 0 0 [.ref m, .int x1] f (pI fun r f2 => True ∧ f2 = f) := by
  obtain ⟨a0, a4, a5, bA, bW, a30, bL, a38, bP, a53, a47, a88⟩ := id hR
  refine gC_of (by decide) (Nat.le_of_ble_eq_true rfl) ?_
  show gG l _ _ _ D cy b cX12_octet 2 _ RX12 "octet" 0 0 f 0 [(0, .ref m), (1, .int x1)] []
  refine gz_iload_n dX12_octet_0 rfl rfl ?_
  refine gz_i2l dX12_octet_1 ?_
  refine gz_lconst (v := 0) dX12_octet_2 (by decide) ?_
  refine gz_aload_n dX12_octet_3 rfl rfl ?_
  refine mg_541 hS dX12_octet_4 ?_
  refine gz_iconst (v := 1) dX12_octet_7 (by decide) ?_
  refine gz_isub dX12_octet_8 ?_
  refine gz_i2l dX12_octet_9 ?_
  have qs : ((n 88) - 1).toInt = (n 88).toInt - 1 := T_sub rfl (show (1 : Int32).toInt = 1 from rfl) (by omega)
  refine scX12_245 (k_X12_in (x := x1.toInt64) (y := 0) (w := ((n 88) - 1).toInt64)) ⟨(Nat.le_of_ble_eq_true rfl), (Nat.le_of_ble_eq_true rfl)⟩ ⟨(Nat.le_of_ble_eq_true rfl), (Nat.le_of_ble_eq_true rfl)⟩ rfl rfl (Nat.le_of_ble_eq_true rfl) dX12_octet_10 ?_
  intro v9 f9 z9; rw [z9.1, z9.2]
  refine gz_if_eq (tgt := 25) dX12_octet_13 (by decide) (fun c_13 => ?_) (fun c_13 => ?_)
  ·
    try simp only [mIn_0, lgc_lt, lgc_gt, lgc_le, lgc_ge, lgc_eq] at c_13
    try simp only [fl_lt, fl_le, fl_eq, fL_w, fL_lt, fL_le, tm1, tm10k, tm9, tm99, Int32.reduceToInt, Int64.reduceToInt, Int.not_lt, Int.not_le] at c_13
    refine gz_iconst (v := (-1)) dX12_octet_25 (by decide) ?_
    exact gz_iret rfl dX12_octet_26 (Nat.le_of_ble_eq_true rfl) (Nat.le_of_ble_eq_true rfl) (⟨_, rfl, trivial, rfl⟩)
  ·
    try simp only [mIn_0, lgc_lt, lgc_gt, lgc_le, lgc_ge, lgc_eq] at c_13
    try simp only [fl_lt, fl_le, fl_eq, fL_w, fL_lt, fL_le, tm1, tm10k, tm9, tm99, Int32.reduceToInt, Int64.reduceToInt, Int.not_lt, Int.not_le] at c_13
    refine gz_aload_n dX12_octet_16 rfl rfl ?_
    refine mg_240 hS dX12_octet_17 ?_
    refine gz_iload_n dX12_octet_20 rfl rfl ?_
    refine m_bald 87 hS rfl (N := 1000) rfl ((by exact vin_T (rfl : (x1).toInt = (x1).toInt) (by omega) (by omega))) dX12_octet_21 ?_
    refine gz_goto (tgt := 26) dX12_octet_22 (by decide) ?_
    exact gz_iret rfl dX12_octet_26 (Nat.le_of_ble_eq_true rfl) (Nat.le_of_ble_eq_true rfl) (⟨_, rfl, trivial, rfl⟩)

set_option maxHeartbeats 4000000 in
set_option maxRecDepth 100000 in
theorem k_X12_count {l : Launch} {D : va_G} {cy : Nat → ClassId} {b : Nat} {f : gMem} {m : Nat} {a : Nat → Nat} {f0 : gMem} {n : Nat → Int32} {z : Nat → Int64} {F : Nat → Nat → Int32} {G : Nat → Nat → Int64}  {x1 : Int32} (hS : mS cy m a f0 n z F G f)  : gC l D cy b yX12_count cX12_count 2 (some .int) 0 0 0 [.ref m, .int x1] f (pI fun r f2 => True ∧ f2 = f) := by
  refine gC_of (by decide) (Nat.le_of_ble_eq_true rfl) ?_
  show gG l _ _ _ D cy b cX12_count 2 _ RX12 "count" 0 0 f 0 [(0, .ref m), (1, .int x1)] []
  refine gz_iload_n dX12_count_0 rfl rfl ?_
  by_cases hw_1_0 : x1 = 0
  ·
    refine gz_ev (w := .int 0) (congrArg Value.int hw_1_0) ?_
    refine gz_tableIn (off := 47) (tgt := 48) dX12_count_1 (by decide) (by decide) rfl (by decide) ?_
    refine gz_aload_n dX12_count_48 rfl rfl ?_
    refine mg_249 hS dX12_count_49 ?_
    exact gz_iret rfl dX12_count_52 (Nat.le_of_ble_eq_true rfl) (Nat.le_of_ble_eq_true rfl) (⟨_, rfl, trivial, rfl⟩)
  ·
    by_cases hw_1_1 : x1 = 1
    ·
      refine gz_ev (w := .int 1) (congrArg Value.int hw_1_1) ?_
      refine gz_tableIn (off := 52) (tgt := 53) dX12_count_1 (by decide) (by decide) rfl (by decide) ?_
      refine gz_aload_n dX12_count_53 rfl rfl ?_
      refine mg_307 hS dX12_count_54 ?_
      exact gz_iret rfl dX12_count_57 (Nat.le_of_ble_eq_true rfl) (Nat.le_of_ble_eq_true rfl) (⟨_, rfl, trivial, rfl⟩)
    ·
      by_cases hw_1_2 : x1 = 2
      ·
        refine gz_ev (w := .int 2) (congrArg Value.int hw_1_2) ?_
        refine gz_tableIn (off := 57) (tgt := 58) dX12_count_1 (by decide) (by decide) rfl (by decide) ?_
        refine gz_aload_n dX12_count_58 rfl rfl ?_
        refine mg_394 hS dX12_count_59 ?_
        exact gz_iret rfl dX12_count_62 (Nat.le_of_ble_eq_true rfl) (Nat.le_of_ble_eq_true rfl) (⟨_, rfl, trivial, rfl⟩)
      ·
        by_cases hw_1_3 : x1 = 3
        ·
          refine gz_ev (w := .int 3) (congrArg Value.int hw_1_3) ?_
          refine gz_tableIn (off := 62) (tgt := 63) dX12_count_1 (by decide) (by decide) rfl (by decide) ?_
          refine gz_aload_n dX12_count_63 rfl rfl ?_
          refine mg_364 hS dX12_count_64 ?_
          exact gz_iret rfl dX12_count_67 (Nat.le_of_ble_eq_true rfl) (Nat.le_of_ble_eq_true rfl) (⟨_, rfl, trivial, rfl⟩)
        ·
          by_cases hw_1_4 : x1 = 4
          ·
            refine gz_ev (w := .int 4) (congrArg Value.int hw_1_4) ?_
            refine gz_tableIn (off := 67) (tgt := 68) dX12_count_1 (by decide) (by decide) rfl (by decide) ?_
            refine gz_aload_n dX12_count_68 rfl rfl ?_
            refine mg_262 hS dX12_count_69 ?_
            exact gz_iret rfl dX12_count_72 (Nat.le_of_ble_eq_true rfl) (Nat.le_of_ble_eq_true rfl) (⟨_, rfl, trivial, rfl⟩)
          ·
            by_cases hw_1_5 : x1 = 5
            ·
              refine gz_ev (w := .int 5) (congrArg Value.int hw_1_5) ?_
              refine gz_tableIn (off := 72) (tgt := 73) dX12_count_1 (by decide) (by decide) rfl (by decide) ?_
              refine gz_aload_n dX12_count_73 rfl rfl ?_
              refine mg_541 hS dX12_count_74 ?_
              exact gz_iret rfl dX12_count_77 (Nat.le_of_ble_eq_true rfl) (Nat.le_of_ble_eq_true rfl) (⟨_, rfl, trivial, rfl⟩)
            ·
              by_cases hw_1_6 : x1 = 6
              ·
                refine gz_ev (w := .int 6) (congrArg Value.int hw_1_6) ?_
                refine gz_tableIn (off := 77) (tgt := 78) dX12_count_1 (by decide) (by decide) rfl (by decide) ?_
                refine gz_aload_n dX12_count_78 rfl rfl ?_
                refine mg_151 hS dX12_count_79 ?_
                exact gz_iret rfl dX12_count_82 (Nat.le_of_ble_eq_true rfl) (Nat.le_of_ble_eq_true rfl) (⟨_, rfl, trivial, rfl⟩)
              ·
                by_cases hw_1_7 : x1 = 7
                ·
                  refine gz_ev (w := .int 7) (congrArg Value.int hw_1_7) ?_
                  refine gz_tableIn (off := 82) (tgt := 83) dX12_count_1 (by decide) (by decide) rfl (by decide) ?_
                  refine gz_aload_n dX12_count_83 rfl rfl ?_
                  refine mg_367 hS dX12_count_84 ?_
                  exact gz_iret rfl dX12_count_87 (Nat.le_of_ble_eq_true rfl) (Nat.le_of_ble_eq_true rfl) (⟨_, rfl, trivial, rfl⟩)
                ·
                  refine gz_tableOut (tgt := 88) dX12_count_1 (by have g0 : x1.toInt ≠ 0 := fun e => hw_1_0 (Int32.toInt_inj.mp (e.trans rfl)); have g1 : x1.toInt ≠ 1 := fun e => hw_1_1 (Int32.toInt_inj.mp (e.trans rfl)); have g2 : x1.toInt ≠ 2 := fun e => hw_1_2 (Int32.toInt_inj.mp (e.trans rfl)); have g3 : x1.toInt ≠ 3 := fun e => hw_1_3 (Int32.toInt_inj.mp (e.trans rfl)); have g4 : x1.toInt ≠ 4 := fun e => hw_1_4 (Int32.toInt_inj.mp (e.trans rfl)); have g5 : x1.toInt ≠ 5 := fun e => hw_1_5 (Int32.toInt_inj.mp (e.trans rfl)); have g6 : x1.toInt ≠ 6 := fun e => hw_1_6 (Int32.toInt_inj.mp (e.trans rfl)); have g7 : x1.toInt ≠ 7 := fun e => hw_1_7 (Int32.toInt_inj.mp (e.trans rfl)); omega) (by decide) ?_
                  refine gz_iconst (v := (-1)) dX12_count_88 (by decide) ?_
                  exact gz_iret rfl dX12_count_89 (Nat.le_of_ble_eq_true rfl) (Nat.le_of_ble_eq_true rfl) (⟨_, rfl, trivial, rfl⟩)

set_option maxHeartbeats 4000000 in
set_option maxRecDepth 100000 in
theorem k_X12_netted {l : Launch} {D : va_G} {cy : Nat → ClassId} {b : Nat} {f : gMem} {m : Nat} {a : Nat → Nat} {f0 : gMem} {n : Nat → Int32} {z : Nat → Int64} {F : Nat → Nat → Int32} {G : Nat → Nat → Int64}  {x1 x2 : Int32} (hS : mS cy m a f0 n z F G f) (hR : RI n F) : gC l D cy b yX12_netted cX12_netted 3 (some .long) 1 0 0 [.ref m, .int x1, .int x2] f (pL fun r f2 => True ∧ f2 = f) := by
  obtain ⟨a0, a4, a5, bA, bW, a30, bL, a38, bP, a53, a47, a88⟩ := id hR
  refine gC_of (by decide) (Nat.le_of_ble_eq_true rfl) ?_
  show gG l _ _ _ D cy b cX12_netted 3 _ RX12 "netted" 0 0 f 0 [(0, .ref m), (1, .int x1), (2, .int x2)] []
  refine gz_aload_n dX12_netted_0 rfl rfl ?_
  refine mg_426 hS dX12_netted_1 ?_
  refine gz_if_ne (tgt := 11) dX12_netted_4 (by decide) (fun c_4 => ?_) (fun c_4 => ?_)
  ·
    try simp only [mIn_0, lgc_lt, lgc_gt, lgc_le, lgc_ge, lgc_eq] at c_4
    try simp only [fl_lt, fl_le, fl_eq, fL_w, fL_lt, fL_le, tm1, tm10k, tm9, tm99, Int32.reduceToInt, Int64.reduceToInt, Int.not_lt, Int.not_le] at c_4
    refine gz_iload_n dX12_netted_11 rfl rfl ?_
    refine gz_i2l dX12_netted_12 ?_
    refine gz_ldc2 (v := (10)) wd_953 dX12_netted_13 ?_
    refine gz_ldc2 (v := (17)) wd_954 dX12_netted_16 ?_
    refine scX12_245 (k_X12_in (x := x2.toInt64) (y := (10)) (w := (17))) ⟨(Nat.le_of_ble_eq_true rfl), (Nat.le_of_ble_eq_true rfl)⟩ ⟨(Nat.le_of_ble_eq_true rfl), (Nat.le_of_ble_eq_true rfl)⟩ rfl rfl (Nat.le_of_ble_eq_true rfl) dX12_netted_19 ?_
    intro v9 f9 z9; rw [z9.1, z9.2]
    refine gz_if_eq (tgt := 35) dX12_netted_22 (by decide) (fun c_22 => ?_) (fun c_22 => ?_)
    ·
      try simp only [mIn_0, lgc_lt, lgc_gt, lgc_le, lgc_ge, lgc_eq] at c_22
      try simp only [fl_lt, fl_le, fl_eq, fL_w, fL_lt, fL_le, tm1, tm10k, tm9, tm99, Int32.reduceToInt, Int64.reduceToInt, Int.not_lt, Int.not_le] at c_22
      refine gz_iload_n dX12_netted_35 rfl rfl ?_
      refine gz_i2l dX12_netted_36 ?_
      refine gz_lconst (v := 0) dX12_netted_37 (by decide) ?_
      refine gz_aload_n dX12_netted_38 rfl rfl ?_
      refine mg_430 hS dX12_netted_39 ?_
      refine gz_iconst (v := 1) dX12_netted_42 (by decide) ?_
      refine gz_isub dX12_netted_43 ?_
      refine gz_i2l dX12_netted_44 ?_
      have qs : ((n 47) - 1).toInt = (n 47).toInt - 1 := T_sub rfl (show (1 : Int32).toInt = 1 from rfl) (by omega)
      refine scX12_245 (k_X12_in (x := x1.toInt64) (y := 0) (w := ((n 47) - 1).toInt64)) ⟨(Nat.le_of_ble_eq_true rfl), (Nat.le_of_ble_eq_true rfl)⟩ ⟨(Nat.le_of_ble_eq_true rfl), (Nat.le_of_ble_eq_true rfl)⟩ rfl rfl (Nat.le_of_ble_eq_true rfl) dX12_netted_45 ?_
      intro v9 f9 z9; rw [z9.1, z9.2]
      refine gz_if_ne (tgt := 55) dX12_netted_48 (by decide) (fun c_48 => ?_) (fun c_48 => ?_)
      ·
        try simp only [mIn_0, lgc_lt, lgc_gt, lgc_le, lgc_ge, lgc_eq] at c_48
        try simp only [fl_lt, fl_le, fl_eq, fL_w, fL_lt, fL_le, tm1, tm10k, tm9, tm99, Int32.reduceToInt, Int64.reduceToInt, Int.not_lt, Int.not_le] at c_48
        refine gz_iload_n dX12_netted_55 rfl rfl ?_
        refine gz_if_ne (tgt := 69) dX12_netted_56 (by decide) (fun c_56 => ?_) (fun c_56 => ?_)
        ·
          try simp only [mIn_0, lgc_lt, lgc_gt, lgc_le, lgc_ge, lgc_eq] at c_56
          try simp only [fl_lt, fl_le, fl_eq, fL_w, fL_lt, fL_le, tm1, tm10k, tm9, tm99, Int32.reduceToInt, Int64.reduceToInt, Int.not_lt, Int.not_le] at c_56
          refine gz_iload_n dX12_netted_69 rfl rfl ?_
          refine gz_iconst (v := 1) dX12_netted_70 (by decide) ?_
          refine gz_icmp_ne (tgt := 84) dX12_netted_71 (by decide) (fun c_71 => ?_) (fun c_71 => ?_)
          ·
            try simp only [mIn_0, lgc_lt, lgc_gt, lgc_le, lgc_ge, lgc_eq] at c_71
            try simp only [fl_lt, fl_le, fl_eq, fL_w, fL_lt, fL_le, tm1, tm10k, tm9, tm99, Int32.reduceToInt, Int64.reduceToInt, Int.not_lt, Int.not_le] at c_71
            refine gz_iload_n dX12_netted_84 rfl rfl ?_
            refine gz_iconst (v := 2) dX12_netted_85 (by decide) ?_
            refine gz_icmp_ne (tgt := 98) dX12_netted_86 (by decide) (fun c_86 => ?_) (fun c_86 => ?_)
            ·
              try simp only [mIn_0, lgc_lt, lgc_gt, lgc_le, lgc_ge, lgc_eq] at c_86
              try simp only [fl_lt, fl_le, fl_eq, fL_w, fL_lt, fL_le, tm1, tm10k, tm9, tm99, Int32.reduceToInt, Int64.reduceToInt, Int.not_lt, Int.not_le] at c_86
              refine gz_ldc2 (v := (-1000000000000)) wd_952 dX12_netted_98 ?_
              exact gz_lret rfl dX12_netted_101 (Nat.le_of_ble_eq_true rfl) (Nat.le_of_ble_eq_true rfl) (⟨_, rfl, trivial, rfl⟩)
            ·
              try simp only [mIn_0, lgc_lt, lgc_gt, lgc_le, lgc_ge, lgc_eq] at c_86
              try simp only [fl_lt, fl_le, fl_eq, fL_w, fL_lt, fL_le, tm1, tm10k, tm9, tm99, Int32.reduceToInt, Int64.reduceToInt, Int.not_lt, Int.not_le] at c_86
              refine gz_aload_n dX12_netted_89 rfl rfl ?_
              refine mg_142 hS dX12_netted_90 ?_
              refine gz_iload_n dX12_netted_93 rfl rfl ?_
              refine m_lald 50 hS rfl (N := 8) rfl ((by exact vin_T (rfl : (x1).toInt = (x1).toInt) (by omega) (by omega))) dX12_netted_94 ?_
              refine gz_goto (tgt := 101) dX12_netted_95 (by decide) ?_
              exact gz_lret rfl dX12_netted_101 (Nat.le_of_ble_eq_true rfl) (Nat.le_of_ble_eq_true rfl) (⟨_, rfl, trivial, rfl⟩)
          ·
            try simp only [mIn_0, lgc_lt, lgc_gt, lgc_le, lgc_ge, lgc_eq] at c_71
            try simp only [fl_lt, fl_le, fl_eq, fL_w, fL_lt, fL_le, tm1, tm10k, tm9, tm99, Int32.reduceToInt, Int64.reduceToInt, Int.not_lt, Int.not_le] at c_71
            refine gz_aload_n dX12_netted_74 rfl rfl ?_
            refine mg_139 hS dX12_netted_75 ?_
            refine gz_iload_n dX12_netted_78 rfl rfl ?_
            refine m_iald 49 hS rfl (N := 8) rfl ((by exact vin_T (rfl : (x1).toInt = (x1).toInt) (by omega) (by omega))) dX12_netted_79 ?_
            refine gz_i2l dX12_netted_80 ?_
            refine gz_goto (tgt := 101) dX12_netted_81 (by decide) ?_
            exact gz_lret rfl dX12_netted_101 (Nat.le_of_ble_eq_true rfl) (Nat.le_of_ble_eq_true rfl) (⟨_, rfl, trivial, rfl⟩)
        ·
          try simp only [mIn_0, lgc_lt, lgc_gt, lgc_le, lgc_ge, lgc_eq] at c_56
          try simp only [fl_lt, fl_le, fl_eq, fL_w, fL_lt, fL_le, tm1, tm10k, tm9, tm99, Int32.reduceToInt, Int64.reduceToInt, Int.not_lt, Int.not_le] at c_56
          refine gz_aload_n dX12_netted_59 rfl rfl ?_
          refine mg_136 hS dX12_netted_60 ?_
          refine gz_iload_n dX12_netted_63 rfl rfl ?_
          refine m_iald 48 hS rfl (N := 8) rfl ((by exact vin_T (rfl : (x1).toInt = (x1).toInt) (by omega) (by omega))) dX12_netted_64 ?_
          refine gz_i2l dX12_netted_65 ?_
          refine gz_goto (tgt := 101) dX12_netted_66 (by decide) ?_
          exact gz_lret rfl dX12_netted_101 (Nat.le_of_ble_eq_true rfl) (Nat.le_of_ble_eq_true rfl) (⟨_, rfl, trivial, rfl⟩)
      ·
        try simp only [mIn_0, lgc_lt, lgc_gt, lgc_le, lgc_ge, lgc_eq] at c_48
        try simp only [fl_lt, fl_le, fl_eq, fL_w, fL_lt, fL_le, tm1, tm10k, tm9, tm99, Int32.reduceToInt, Int64.reduceToInt, Int.not_lt, Int.not_le] at c_48
        refine gz_ldc2 (v := (-1000000000000)) wd_952 dX12_netted_51 ?_
        exact gz_lret rfl dX12_netted_54 (Nat.le_of_ble_eq_true rfl) (Nat.le_of_ble_eq_true rfl) (⟨_, rfl, trivial, rfl⟩)
    ·
      try simp only [mIn_0, lgc_lt, lgc_gt, lgc_le, lgc_ge, lgc_eq] at c_22
      try simp only [fl_lt, fl_le, fl_eq, fL_w, fL_lt, fL_le, tm1, tm10k, tm9, tm99, Int32.reduceToInt, Int64.reduceToInt, Int.not_lt, Int.not_le] at c_22
      refine gz_aload_n dX12_netted_25 rfl rfl ?_
      refine mg_145 hS dX12_netted_26 ?_
      refine gz_iload_n dX12_netted_29 rfl rfl ?_
      refine gz_bipush (v := 10) dX12_netted_30 (by decide) ?_
      refine gz_isub dX12_netted_32 ?_
      refine m_lald 51 hS rfl (N := 8) rfl ((by have q9 := (T_sub (rfl : (x2).toInt = (x2).toInt) (show (10 : Int32).toInt = 10 from rfl) (by omega)); exact vin_T q9 (by omega) (by omega))) dX12_netted_33 ?_
      exact gz_lret rfl dX12_netted_34 (Nat.le_of_ble_eq_true rfl) (Nat.le_of_ble_eq_true rfl) (⟨_, rfl, trivial, rfl⟩)
  ·
    try simp only [mIn_0, lgc_lt, lgc_gt, lgc_le, lgc_ge, lgc_eq] at c_4
    try simp only [fl_lt, fl_le, fl_eq, fL_w, fL_lt, fL_le, tm1, tm10k, tm9, tm99, Int32.reduceToInt, Int64.reduceToInt, Int.not_lt, Int.not_le] at c_4
    refine gz_ldc2 (v := (-1000000000000)) wd_952 dX12_netted_7 ?_
    exact gz_lret rfl dX12_netted_10 (Nat.le_of_ble_eq_true rfl) (Nat.le_of_ble_eq_true rfl) (⟨_, rfl, trivial, rfl⟩)

set_option maxHeartbeats 4000000 in
set_option maxRecDepth 100000 in
theorem k_X12_weight {l : Launch} {D : va_G} {cy : Nat → ClassId} {b : Nat} {f : gMem} {m : Nat} {a : Nat → Nat} {f0 : gMem} {n : Nat → Int32} {z : Nat → Int64} {F : Nat → Nat → Int32} {G : Nat → Nat → Int64}  {x1 x2 : Int32} (hS : mS cy m a f0 n z F G f) (hR : RI n F) : gC l D cy b yX12_weight cX12_weight 3 (some .boolean) 1 0 0 [.ref m, .int x1, .int x2] f (pI fun r f2 => ∃ (n2 : Nat → Int32) (z2 : Nat → Int64) (F2 : Nat → Nat → Int32) (G2 : Nat → Nat → Int64), mS cy m a f0 n2 z2 F2 G2 f2 ∧ fx [] [] [54] [] n z F G n2 z2 F2 G2 ∧ r = (if (0 ≤ x1.toInt ∧ x1.toInt < (n 53).toInt) ∧ (1 ≤ x2.toInt ∧ x2.toInt ≤ 4) then 1 else 0) ∧ RI n2 F2) := by
  obtain ⟨a0, a4, a5, bA, bW, a30, bL, a38, bP, a53, a47, a88⟩ := id hR
  refine gC_of (by decide) (Nat.le_of_ble_eq_true rfl) ?_
  show gG l _ _ _ D cy b cX12_weight 3 _ RX12 "weight" 0 0 f 0 [(0, .ref m), (1, .int x1), (2, .int x2)] []
  refine gz_iload_n dX12_weight_0 rfl rfl ?_
  refine gz_i2l dX12_weight_1 ?_
  refine gz_lconst (v := 0) dX12_weight_2 (by decide) ?_
  refine gz_aload_n dX12_weight_3 rfl rfl ?_
  refine mg_151 hS dX12_weight_4 ?_
  refine gz_iconst (v := 1) dX12_weight_7 (by decide) ?_
  refine gz_isub dX12_weight_8 ?_
  refine gz_i2l dX12_weight_9 ?_
  have qs : ((n 53) - 1).toInt = (n 53).toInt - 1 := T_sub rfl (show (1 : Int32).toInt = 1 from rfl) (by omega)
  refine scX12_245 (k_X12_in (x := x1.toInt64) (y := 0) (w := ((n 53) - 1).toInt64)) ⟨(Nat.le_of_ble_eq_true rfl), (Nat.le_of_ble_eq_true rfl)⟩ ⟨(Nat.le_of_ble_eq_true rfl), (Nat.le_of_ble_eq_true rfl)⟩ rfl rfl (Nat.le_of_ble_eq_true rfl) dX12_weight_10 ?_
  intro v9 f9 z9; rw [z9.1, z9.2]
  refine gz_if_eq (tgt := 28) dX12_weight_13 (by decide) (fun c_13 => ?_) (fun c_13 => ?_)
  ·
    try simp only [mIn_0, lgc_lt, lgc_gt, lgc_le, lgc_ge, lgc_eq] at c_13
    try simp only [fl_lt, fl_le, fl_eq, fL_w, fL_lt, fL_le, tm1, tm10k, tm9, tm99, Int32.reduceToInt, Int64.reduceToInt, Int.not_lt, Int.not_le] at c_13
    refine gz_iconst (v := 0) dX12_weight_28 (by decide) ?_
    have hxx : fx [] [] [54] [] n z F G n z F G := fx_rf
    exact gz_zret rfl (by first | decide | exact nrb (by assumption) | exact nrb (Or.inl rfl) | exact nrb (Or.inr rfl)) dX12_weight_29 (Nat.le_of_ble_eq_true rfl) (Nat.le_of_ble_eq_true rfl) (⟨_, rfl, _, _, _, _, hS, hxx, by rw [if_neg (by omega)], RI_fx hR hxx (by decide) (by decide)⟩)
  ·
    try simp only [mIn_0, lgc_lt, lgc_gt, lgc_le, lgc_ge, lgc_eq] at c_13
    try simp only [fl_lt, fl_le, fl_eq, fL_w, fL_lt, fL_le, tm1, tm10k, tm9, tm99, Int32.reduceToInt, Int64.reduceToInt, Int.not_lt, Int.not_le] at c_13
    refine gz_iload_n dX12_weight_16 rfl rfl ?_
    refine gz_i2l dX12_weight_17 ?_
    refine gz_lconst (v := 1) dX12_weight_18 (by decide) ?_
    refine gz_ldc2 (v := (4)) wd_956 dX12_weight_19 ?_
    refine scX12_245 (k_X12_in (x := x2.toInt64) (y := 1) (w := (4))) ⟨(Nat.le_of_ble_eq_true rfl), (Nat.le_of_ble_eq_true rfl)⟩ ⟨(Nat.le_of_ble_eq_true rfl), (Nat.le_of_ble_eq_true rfl)⟩ rfl rfl (Nat.le_of_ble_eq_true rfl) dX12_weight_22 ?_
    intro v9 f9 z9; rw [z9.1, z9.2]
    refine gz_if_ne (tgt := 30) dX12_weight_25 (by decide) (fun c_25 => ?_) (fun c_25 => ?_)
    ·
      try simp only [mIn_0, lgc_lt, lgc_gt, lgc_le, lgc_ge, lgc_eq] at c_25
      try simp only [fl_lt, fl_le, fl_eq, fL_w, fL_lt, fL_le, tm1, tm10k, tm9, tm99, Int32.reduceToInt, Int64.reduceToInt, Int.not_lt, Int.not_le] at c_25
      refine gz_aload_n dX12_weight_30 rfl rfl ?_
      refine mg_155 hS dX12_weight_31 ?_
      refine gz_iload_n dX12_weight_34 rfl rfl ?_
      refine gz_iload_n dX12_weight_35 rfl rfl ?_
      refine m_iast 54 hS rfl (N := 3) rfl ((by exact vin_T (rfl : (x1).toInt = (x1).toInt) (by omega) (by omega))) dX12_weight_36 (fun f_1 hS_1q => ?_)
      have hS_1 : mS cy m a f0 n z (va_up F 54 (upd (F 54) (Int32.toNatClampNeg x1) x2)) G f_1 := hS_1q
      refine gz_iconst (v := 1) dX12_weight_37 (by decide) ?_
      have hxx : fx [] [] [54] [] n z F G n z (va_up F 54 (upd (F 54) (Int32.toNatClampNeg x1) x2)) G := (fx_F fx_rf (by decide))
      exact gz_zret rfl (by first | decide | exact nrb (by assumption) | exact nrb (Or.inl rfl) | exact nrb (Or.inr rfl)) dX12_weight_38 (Nat.le_of_ble_eq_true rfl) (Nat.le_of_ble_eq_true rfl) (⟨_, rfl, _, _, _, _, hS_1, hxx, by rw [if_pos (by omega)], RI_fx hR hxx (by decide) (by decide)⟩)
    ·
      try simp only [mIn_0, lgc_lt, lgc_gt, lgc_le, lgc_ge, lgc_eq] at c_25
      try simp only [fl_lt, fl_le, fl_eq, fL_w, fL_lt, fL_le, tm1, tm10k, tm9, tm99, Int32.reduceToInt, Int64.reduceToInt, Int.not_lt, Int.not_le] at c_25
      refine gz_iconst (v := 0) dX12_weight_28 (by decide) ?_
      have hxx : fx [] [] [54] [] n z F G n z F G := fx_rf
      exact gz_zret rfl (by first | decide | exact nrb (by assumption) | exact nrb (Or.inl rfl) | exact nrb (Or.inr rfl)) dX12_weight_29 (Nat.le_of_ble_eq_true rfl) (Nat.le_of_ble_eq_true rfl) (⟨_, rfl, _, _, _, _, hS, hxx, by rw [if_neg (by omega)], RI_fx hR hxx (by decide) (by decide)⟩)

set_option maxHeartbeats 4000000 in
set_option maxRecDepth 100000 in
theorem k_X12_adds {l : Launch} {D : va_G} {cy : Nat → ClassId} {b : Nat} {f : gMem} {m : Nat} {a : Nat → Nat} {f0 : gMem} {n : Nat → Int32} {z : Nat → Int64} {F : Nat → Nat → Int32} {G : Nat → Nat → Int64}  {x1 x2 x3 : Int32} (hS : mS cy m a f0 n z F G f) (hR : RI n F) : gC l D cy b yX12_adds cX12_adds 4 (some .boolean) 1 0 0 [.ref m, .int x1, .int x2, .int x3] f (pI fun r f2 => ∃ (n2 : Nat → Int32) (z2 : Nat → Int64) (F2 : Nat → Nat → Int32) (G2 : Nat → Nat → Int64), mS cy m a f0 n2 z2 F2 G2 f2 ∧ fx [] [] [55] [] n z F G n2 z2 F2 G2 ∧ r = (if (0 ≤ x1.toInt ∧ x1.toInt < (n 53).toInt) ∧ (0 ≤ x2.toInt ∧ x2.toInt ≤ 5) ∧ (-99 ≤ x3.toInt ∧ x3.toInt ≤ 99) then 1 else 0) ∧ RI n2 F2) := by
  obtain ⟨a0, a4, a5, bA, bW, a30, bL, a38, bP, a53, a47, a88⟩ := id hR
  refine gC_of (by decide) (Nat.le_of_ble_eq_true rfl) ?_
  show gG l _ _ _ D cy b cX12_adds 4 _ RX12 "adds" 0 0 f 0 [(0, .ref m), (1, .int x1), (2, .int x2), (3, .int x3)] []
  refine gz_iload_n dX12_adds_0 rfl rfl ?_
  refine gz_i2l dX12_adds_1 ?_
  refine gz_lconst (v := 0) dX12_adds_2 (by decide) ?_
  refine gz_aload_n dX12_adds_3 rfl rfl ?_
  refine mg_151 hS dX12_adds_4 ?_
  refine gz_iconst (v := 1) dX12_adds_7 (by decide) ?_
  refine gz_isub dX12_adds_8 ?_
  refine gz_i2l dX12_adds_9 ?_
  have qs : ((n 53) - 1).toInt = (n 53).toInt - 1 := T_sub rfl (show (1 : Int32).toInt = 1 from rfl) (by omega)
  refine scX12_245 (k_X12_in (x := x1.toInt64) (y := 0) (w := ((n 53) - 1).toInt64)) ⟨(Nat.le_of_ble_eq_true rfl), (Nat.le_of_ble_eq_true rfl)⟩ ⟨(Nat.le_of_ble_eq_true rfl), (Nat.le_of_ble_eq_true rfl)⟩ rfl rfl (Nat.le_of_ble_eq_true rfl) dX12_adds_10 ?_
  intro v9 f9 z9; rw [z9.1, z9.2]
  refine gz_if_eq (tgt := 42) dX12_adds_13 (by decide) (fun c_13 => ?_) (fun c_13 => ?_)
  ·
    try simp only [mIn_0, lgc_lt, lgc_gt, lgc_le, lgc_ge, lgc_eq] at c_13
    try simp only [fl_lt, fl_le, fl_eq, fL_w, fL_lt, fL_le, tm1, tm10k, tm9, tm99, Int32.reduceToInt, Int64.reduceToInt, Int.not_lt, Int.not_le] at c_13
    refine gz_iconst (v := 0) dX12_adds_42 (by decide) ?_
    have hxx : fx [] [] [55] [] n z F G n z F G := fx_rf
    exact gz_zret rfl (by first | decide | exact nrb (by assumption) | exact nrb (Or.inl rfl) | exact nrb (Or.inr rfl)) dX12_adds_43 (Nat.le_of_ble_eq_true rfl) (Nat.le_of_ble_eq_true rfl) (⟨_, rfl, _, _, _, _, hS, hxx, by rw [if_neg (by omega)], RI_fx hR hxx (by decide) (by decide)⟩)
  ·
    try simp only [mIn_0, lgc_lt, lgc_gt, lgc_le, lgc_ge, lgc_eq] at c_13
    try simp only [fl_lt, fl_le, fl_eq, fL_w, fL_lt, fL_le, tm1, tm10k, tm9, tm99, Int32.reduceToInt, Int64.reduceToInt, Int.not_lt, Int.not_le] at c_13
    refine gz_iload_n dX12_adds_16 rfl rfl ?_
    refine gz_i2l dX12_adds_17 ?_
    refine gz_lconst (v := 0) dX12_adds_18 (by decide) ?_
    refine gz_ldc2 (v := (5)) wd_778 dX12_adds_19 ?_
    refine scX12_245 (k_X12_in (x := x2.toInt64) (y := 0) (w := (5))) ⟨(Nat.le_of_ble_eq_true rfl), (Nat.le_of_ble_eq_true rfl)⟩ ⟨(Nat.le_of_ble_eq_true rfl), (Nat.le_of_ble_eq_true rfl)⟩ rfl rfl (Nat.le_of_ble_eq_true rfl) dX12_adds_22 ?_
    intro v9 f9 z9; rw [z9.1, z9.2]
    refine gz_if_eq (tgt := 42) dX12_adds_25 (by decide) (fun c_25 => ?_) (fun c_25 => ?_)
    ·
      try simp only [mIn_0, lgc_lt, lgc_gt, lgc_le, lgc_ge, lgc_eq] at c_25
      try simp only [fl_lt, fl_le, fl_eq, fL_w, fL_lt, fL_le, tm1, tm10k, tm9, tm99, Int32.reduceToInt, Int64.reduceToInt, Int.not_lt, Int.not_le] at c_25
      refine gz_iconst (v := 0) dX12_adds_42 (by decide) ?_
      have hxx : fx [] [] [55] [] n z F G n z F G := fx_rf
      exact gz_zret rfl (by first | decide | exact nrb (by assumption) | exact nrb (Or.inl rfl) | exact nrb (Or.inr rfl)) dX12_adds_43 (Nat.le_of_ble_eq_true rfl) (Nat.le_of_ble_eq_true rfl) (⟨_, rfl, _, _, _, _, hS, hxx, by rw [if_neg (by omega)], RI_fx hR hxx (by decide) (by decide)⟩)
    ·
      try simp only [mIn_0, lgc_lt, lgc_gt, lgc_le, lgc_ge, lgc_eq] at c_25
      try simp only [fl_lt, fl_le, fl_eq, fL_w, fL_lt, fL_le, tm1, tm10k, tm9, tm99, Int32.reduceToInt, Int64.reduceToInt, Int.not_lt, Int.not_le] at c_25
      refine gz_iload_n dX12_adds_28 rfl rfl ?_
      refine gz_i2l dX12_adds_29 ?_
      refine gz_ldc2 (v := (-99)) wd_957 dX12_adds_30 ?_
      refine gz_ldc2 (v := (99)) wd_958 dX12_adds_33 ?_
      refine scX12_245 (k_X12_in (x := x3.toInt64) (y := (-99)) (w := (99))) ⟨(Nat.le_of_ble_eq_true rfl), (Nat.le_of_ble_eq_true rfl)⟩ ⟨(Nat.le_of_ble_eq_true rfl), (Nat.le_of_ble_eq_true rfl)⟩ rfl rfl (Nat.le_of_ble_eq_true rfl) dX12_adds_36 ?_
      intro v9 f9 z9; rw [z9.1, z9.2]
      refine gz_if_ne (tgt := 44) dX12_adds_39 (by decide) (fun c_39 => ?_) (fun c_39 => ?_)
      ·
        try simp only [mIn_0, lgc_lt, lgc_gt, lgc_le, lgc_ge, lgc_eq] at c_39
        try simp only [fl_lt, fl_le, fl_eq, fL_w, fL_lt, fL_le, tm1, tm10k, tm9, tm99, Int32.reduceToInt, Int64.reduceToInt, Int.not_lt, Int.not_le] at c_39
        refine gz_aload_n dX12_adds_44 rfl rfl ?_
        refine mg_158 hS dX12_adds_45 ?_
        refine gz_bipush (v := 6) dX12_adds_48 (by decide) ?_
        refine gz_iload_n dX12_adds_50 rfl rfl ?_
        refine gz_imul dX12_adds_51 ?_
        refine gz_iload_n dX12_adds_52 rfl rfl ?_
        refine gz_iadd dX12_adds_53 ?_
        refine gz_iload_n dX12_adds_54 rfl rfl ?_
        refine m_iast 55 hS rfl (N := 18) rfl ((by have q9 := (T_add (T_mul (show (6 : Int32).toInt = 6 from rfl) (rfl : (x1).toInt = (x1).toInt) (by omega)) (rfl : (x2).toInt = (x2).toInt) (by omega)); exact vin_T q9 (by omega) (by omega))) dX12_adds_55 (fun f_1 hS_1q => ?_)
        have hS_1 : mS cy m a f0 n z (va_up F 55 (upd (F 55) (Int32.toNatClampNeg ((6 * x1) + x2)) x3)) G f_1 := hS_1q
        refine gz_iconst (v := 1) dX12_adds_56 (by decide) ?_
        have hxx : fx [] [] [55] [] n z F G n z (va_up F 55 (upd (F 55) (Int32.toNatClampNeg ((6 * x1) + x2)) x3)) G := (fx_F fx_rf (by decide))
        exact gz_zret rfl (by first | decide | exact nrb (by assumption) | exact nrb (Or.inl rfl) | exact nrb (Or.inr rfl)) dX12_adds_57 (Nat.le_of_ble_eq_true rfl) (Nat.le_of_ble_eq_true rfl) (⟨_, rfl, _, _, _, _, hS_1, hxx, by rw [if_pos (by omega)], RI_fx hR hxx (by decide) (by decide)⟩)
      ·
        try simp only [mIn_0, lgc_lt, lgc_gt, lgc_le, lgc_ge, lgc_eq] at c_39
        try simp only [fl_lt, fl_le, fl_eq, fL_w, fL_lt, fL_le, tm1, tm10k, tm9, tm99, Int32.reduceToInt, Int64.reduceToInt, Int.not_lt, Int.not_le] at c_39
        refine gz_iconst (v := 0) dX12_adds_42 (by decide) ?_
        have hxx : fx [] [] [55] [] n z F G n z F G := fx_rf
        exact gz_zret rfl (by first | decide | exact nrb (by assumption) | exact nrb (Or.inl rfl) | exact nrb (Or.inr rfl)) dX12_adds_43 (Nat.le_of_ble_eq_true rfl) (Nat.le_of_ble_eq_true rfl) (⟨_, rfl, _, _, _, _, hS, hxx, by rw [if_neg (by omega)], RI_fx hR hxx (by decide) (by decide)⟩)

set_option maxHeartbeats 4000000 in
set_option maxRecDepth 100000 in
theorem k_X12_ways {l : Launch} {D : va_G} {cy : Nat → ClassId} {b : Nat} {f : gMem} {m : Nat} {a : Nat → Nat} {f0 : gMem} {n : Nat → Int32} {z : Nat → Int64} {F : Nat → Nat → Int32} {G : Nat → Nat → Int64}  {x1 : Int32} (hS : mS cy m a f0 n z F G f) (hR : RI n F) : gC l D cy b yX12_ways cX12_ways 3 (some .boolean) 1 0 0 [.ref m, .int x1] f (pI fun r f2 => ∃ (n2 : Nat → Int32) (z2 : Nat → Int64) (F2 : Nat → Nat → Int32) (G2 : Nat → Nat → Int64), mS cy m a f0 n2 z2 F2 G2 f2 ∧ fx [53] [] [54, 55] [] n z F G n2 z2 F2 G2 ∧ r = (if 1 ≤ x1.toInt ∧ x1.toInt ≤ 3 then 1 else 0) ∧ RI n2 F2) := by
  obtain ⟨a0, a4, a5, bA, bW, a30, bL, a38, bP, a53, a47, a88⟩ := id hR
  refine gC_of (by decide) (Nat.le_of_ble_eq_true rfl) ?_
  show gG l _ _ _ D cy b cX12_ways 3 _ RX12 "ways" 0 0 f 0 [(0, .ref m), (1, .int x1)] []
  refine gz_iload_n dX12_ways_0 rfl rfl ?_
  refine gz_i2l dX12_ways_1 ?_
  refine gz_lconst (v := 1) dX12_ways_2 (by decide) ?_
  refine gz_ldc2 (v := (3)) wd_955 dX12_ways_3 ?_
  refine scX12_245 (k_X12_in (x := x1.toInt64) (y := 1) (w := (3))) ⟨(Nat.le_of_ble_eq_true rfl), (Nat.le_of_ble_eq_true rfl)⟩ ⟨(Nat.le_of_ble_eq_true rfl), (Nat.le_of_ble_eq_true rfl)⟩ rfl rfl (Nat.le_of_ble_eq_true rfl) dX12_ways_6 ?_
  intro v9 f9 z9; rw [z9.1, z9.2]
  refine gz_if_ne (tgt := 14) dX12_ways_9 (by decide) (fun c_9 => ?_) (fun c_9 => ?_)
  ·
    try simp only [mIn_0, lgc_lt, lgc_gt, lgc_le, lgc_ge, lgc_eq] at c_9
    try simp only [fl_lt, fl_le, fl_eq, fL_w, fL_lt, fL_le, tm1, tm10k, tm9, tm99, Int32.reduceToInt, Int64.reduceToInt, Int.not_lt, Int.not_le] at c_9
    refine gz_aload_n dX12_ways_14 rfl rfl ?_
    refine gz_iload_n dX12_ways_15 rfl rfl ?_
    refine mp_151 hS dX12_ways_16 (fun f_1 hS_1 => ?_)
    refine gz_iconst (v := 0) dX12_ways_19 (by decide) ?_
    refine gz_istore_n (lv' := [(2, .int 0), (0, .ref m), (1, .int x1)]) dX12_ways_20 rfl (by decide) rfl ?_
    refine gz_iload_n dX12_ways_21 rfl rfl ?_
    refine gz_iconst (v := 3) dX12_ways_22 (by decide) ?_
    refine gz_icmp_ge (tgt := 39) dX12_ways_23 (by decide) (fun c_23 => ?_) (fun c_23 => ?_)
    · exact absurd c_23 (by decide)
    ·
      try simp only [mIn_0, lgc_lt, lgc_gt, lgc_le, lgc_ge, lgc_eq] at c_23
      try simp only [fl_lt, fl_le, fl_eq, fL_w, fL_lt, fL_le, tm1, tm10k, tm9, tm99, Int32.reduceToInt, Int64.reduceToInt, Int.not_lt, Int.not_le] at c_23
      refine gz_aload_n dX12_ways_26 rfl rfl ?_
      refine mg_155 hS_1 dX12_ways_27 ?_
      refine gz_iload_n dX12_ways_30 rfl rfl ?_
      refine gz_iconst (v := 1) dX12_ways_31 (by decide) ?_
      refine m_iast 54 hS_1 rfl (N := 3) rfl (vin_T (v := 0) rfl (by decide) (by decide)) dX12_ways_32 (fun f_2 hS_2q => ?_)
      have hS_2 : mS cy m a f0 (va_up n 53 x1) z (va_up F 54 (upd (F 54) (Int32.toNatClampNeg 0) 1)) G f_2 := hS_2q
      refine gz_iinc (v := 1) (lv' := [(2, .int 1), (0, .ref m), (1, .int x1)]) dX12_ways_33 rfl (by decide) (by decide) rfl ?_
      refine gz_goto (tgt := 21) dX12_ways_36 (by decide) ?_
      refine gz_iload_n dX12_ways_21 rfl rfl ?_
      refine gz_iconst (v := 3) dX12_ways_22 (by decide) ?_
      refine gz_icmp_ge (tgt := 39) dX12_ways_23 (by decide) (fun c_23_1 => ?_) (fun c_23_1 => ?_)
      · exact absurd c_23_1 (by decide)
      ·
        try simp only [mIn_0, lgc_lt, lgc_gt, lgc_le, lgc_ge, lgc_eq] at c_23_1
        try simp only [fl_lt, fl_le, fl_eq, fL_w, fL_lt, fL_le, tm1, tm10k, tm9, tm99, Int32.reduceToInt, Int64.reduceToInt, Int.not_lt, Int.not_le] at c_23_1
        refine gz_aload_n dX12_ways_26 rfl rfl ?_
        refine mg_155 hS_2 dX12_ways_27 ?_
        refine gz_iload_n dX12_ways_30 rfl rfl ?_
        refine gz_iconst (v := 1) dX12_ways_31 (by decide) ?_
        refine m_iast 54 hS_2 rfl (N := 3) rfl (vin_T (v := 1) rfl (by decide) (by decide)) dX12_ways_32 (fun f_3 hS_3q => ?_)
        have hS_3 : mS cy m a f0 (va_up n 53 x1) z (va_up (va_up F 54 (upd (F 54) (Int32.toNatClampNeg 0) 1)) 54 (upd (upd (F 54) (Int32.toNatClampNeg 0) 1) (Int32.toNatClampNeg 1) 1)) G f_3 := hS_3q
        refine gz_iinc (v := 2) (lv' := [(2, .int 2), (0, .ref m), (1, .int x1)]) dX12_ways_33 rfl (by decide) (by decide) rfl ?_
        refine gz_goto (tgt := 21) dX12_ways_36 (by decide) ?_
        refine gz_iload_n dX12_ways_21 rfl rfl ?_
        refine gz_iconst (v := 3) dX12_ways_22 (by decide) ?_
        refine gz_icmp_ge (tgt := 39) dX12_ways_23 (by decide) (fun c_23_2 => ?_) (fun c_23_2 => ?_)
        · exact absurd c_23_2 (by decide)
        ·
          try simp only [mIn_0, lgc_lt, lgc_gt, lgc_le, lgc_ge, lgc_eq] at c_23_2
          try simp only [fl_lt, fl_le, fl_eq, fL_w, fL_lt, fL_le, tm1, tm10k, tm9, tm99, Int32.reduceToInt, Int64.reduceToInt, Int.not_lt, Int.not_le] at c_23_2
          refine gz_aload_n dX12_ways_26 rfl rfl ?_
          refine mg_155 hS_3 dX12_ways_27 ?_
          refine gz_iload_n dX12_ways_30 rfl rfl ?_
          refine gz_iconst (v := 1) dX12_ways_31 (by decide) ?_
          refine m_iast 54 hS_3 rfl (N := 3) rfl (vin_T (v := 2) rfl (by decide) (by decide)) dX12_ways_32 (fun f_4 hS_4q => ?_)
          have hS_4 : mS cy m a f0 (va_up n 53 x1) z (va_up (va_up (va_up F 54 (upd (F 54) (Int32.toNatClampNeg 0) 1)) 54 (upd (upd (F 54) (Int32.toNatClampNeg 0) 1) (Int32.toNatClampNeg 1) 1)) 54 (upd (upd (upd (F 54) (Int32.toNatClampNeg 0) 1) (Int32.toNatClampNeg 1) 1) (Int32.toNatClampNeg 2) 1)) G f_4 := hS_4q
          refine gz_iinc (v := 3) (lv' := [(2, .int 3), (0, .ref m), (1, .int x1)]) dX12_ways_33 rfl (by decide) (by decide) rfl ?_
          refine gz_goto (tgt := 21) dX12_ways_36 (by decide) ?_
          refine gz_iload_n dX12_ways_21 rfl rfl ?_
          refine gz_iconst (v := 3) dX12_ways_22 (by decide) ?_
          refine gz_icmp_ge (tgt := 39) dX12_ways_23 (by decide) (fun c_23_3 => ?_) (fun c_23_3 => ?_)
          ·
            try simp only [mIn_0, lgc_lt, lgc_gt, lgc_le, lgc_ge, lgc_eq] at c_23_3
            try simp only [fl_lt, fl_le, fl_eq, fL_w, fL_lt, fL_le, tm1, tm10k, tm9, tm99, Int32.reduceToInt, Int64.reduceToInt, Int.not_lt, Int.not_le] at c_23_3
            refine gz_iconst (v := 0) dX12_ways_39 (by decide) ?_
            refine gz_istore_n (lv' := [(2, .int 0), (0, .ref m), (1, .int x1)]) dX12_ways_40 rfl (by decide) rfl ?_
            refine gz_iload_n dX12_ways_41 rfl rfl ?_
            refine gz_bipush (v := 18) dX12_ways_42 (by decide) ?_
            refine gz_icmp_ge (tgt := 60) dX12_ways_44 (by decide) (fun c_44 => ?_) (fun c_44 => ?_)
            · exact absurd c_44 (by decide)
            ·
              try simp only [mIn_0, lgc_lt, lgc_gt, lgc_le, lgc_ge, lgc_eq] at c_44
              try simp only [fl_lt, fl_le, fl_eq, fL_w, fL_lt, fL_le, tm1, tm10k, tm9, tm99, Int32.reduceToInt, Int64.reduceToInt, Int.not_lt, Int.not_le] at c_44
              refine gz_aload_n dX12_ways_47 rfl rfl ?_
              refine mg_158 hS_4 dX12_ways_48 ?_
              refine gz_iload_n dX12_ways_51 rfl rfl ?_
              refine gz_iconst (v := 0) dX12_ways_52 (by decide) ?_
              refine m_iast 55 hS_4 rfl (N := 18) rfl (vin_T (v := 0) rfl (by decide) (by decide)) dX12_ways_53 (fun f_5 hS_5q => ?_)
              have hS_5 : mS cy m a f0 (va_up n 53 x1) z (va_up (va_up (va_up (va_up F 54 (upd (F 54) (Int32.toNatClampNeg 0) 1)) 54 (upd (upd (F 54) (Int32.toNatClampNeg 0) 1) (Int32.toNatClampNeg 1) 1)) 54 (upd (upd (upd (F 54) (Int32.toNatClampNeg 0) 1) (Int32.toNatClampNeg 1) 1) (Int32.toNatClampNeg 2) 1)) 55 (upd (F 55) (Int32.toNatClampNeg 0) 0)) G f_5 := hS_5q
              refine gz_iinc (v := 1) (lv' := [(2, .int 1), (0, .ref m), (1, .int x1)]) dX12_ways_54 rfl (by decide) (by decide) rfl ?_
              refine gz_goto (tgt := 41) dX12_ways_57 (by decide) ?_
              refine gz_iload_n dX12_ways_41 rfl rfl ?_
              refine gz_bipush (v := 18) dX12_ways_42 (by decide) ?_
              refine gz_icmp_ge (tgt := 60) dX12_ways_44 (by decide) (fun c_44_4 => ?_) (fun c_44_4 => ?_)
              · exact absurd c_44_4 (by decide)
              ·
                try simp only [mIn_0, lgc_lt, lgc_gt, lgc_le, lgc_ge, lgc_eq] at c_44_4
                try simp only [fl_lt, fl_le, fl_eq, fL_w, fL_lt, fL_le, tm1, tm10k, tm9, tm99, Int32.reduceToInt, Int64.reduceToInt, Int.not_lt, Int.not_le] at c_44_4
                refine gz_aload_n dX12_ways_47 rfl rfl ?_
                refine mg_158 hS_5 dX12_ways_48 ?_
                refine gz_iload_n dX12_ways_51 rfl rfl ?_
                refine gz_iconst (v := 0) dX12_ways_52 (by decide) ?_
                refine m_iast 55 hS_5 rfl (N := 18) rfl (vin_T (v := 1) rfl (by decide) (by decide)) dX12_ways_53 (fun f_6 hS_6q => ?_)
                have hS_6 : mS cy m a f0 (va_up n 53 x1) z (va_up (va_up (va_up (va_up (va_up F 54 (upd (F 54) (Int32.toNatClampNeg 0) 1)) 54 (upd (upd (F 54) (Int32.toNatClampNeg 0) 1) (Int32.toNatClampNeg 1) 1)) 54 (upd (upd (upd (F 54) (Int32.toNatClampNeg 0) 1) (Int32.toNatClampNeg 1) 1) (Int32.toNatClampNeg 2) 1)) 55 (upd (F 55) (Int32.toNatClampNeg 0) 0)) 55 (upd (upd (F 55) (Int32.toNatClampNeg 0) 0) (Int32.toNatClampNeg 1) 0)) G f_6 := hS_6q
                refine gz_iinc (v := 2) (lv' := [(2, .int 2), (0, .ref m), (1, .int x1)]) dX12_ways_54 rfl (by decide) (by decide) rfl ?_
                refine gz_goto (tgt := 41) dX12_ways_57 (by decide) ?_
                refine gz_iload_n dX12_ways_41 rfl rfl ?_
                refine gz_bipush (v := 18) dX12_ways_42 (by decide) ?_
                refine gz_icmp_ge (tgt := 60) dX12_ways_44 (by decide) (fun c_44_5 => ?_) (fun c_44_5 => ?_)
                · exact absurd c_44_5 (by decide)
                ·
                  try simp only [mIn_0, lgc_lt, lgc_gt, lgc_le, lgc_ge, lgc_eq] at c_44_5
                  try simp only [fl_lt, fl_le, fl_eq, fL_w, fL_lt, fL_le, tm1, tm10k, tm9, tm99, Int32.reduceToInt, Int64.reduceToInt, Int.not_lt, Int.not_le] at c_44_5
                  refine gz_aload_n dX12_ways_47 rfl rfl ?_
                  refine mg_158 hS_6 dX12_ways_48 ?_
                  refine gz_iload_n dX12_ways_51 rfl rfl ?_
                  refine gz_iconst (v := 0) dX12_ways_52 (by decide) ?_
                  refine m_iast 55 hS_6 rfl (N := 18) rfl (vin_T (v := 2) rfl (by decide) (by decide)) dX12_ways_53 (fun f_7 hS_7q => ?_)
                  have hS_7 : mS cy m a f0 (va_up n 53 x1) z (va_up (va_up (va_up (va_up (va_up (va_up F 54 (upd (F 54) (Int32.toNatClampNeg 0) 1)) 54 (upd (upd (F 54) (Int32.toNatClampNeg 0) 1) (Int32.toNatClampNeg 1) 1)) 54 (upd (upd (upd (F 54) (Int32.toNatClampNeg 0) 1) (Int32.toNatClampNeg 1) 1) (Int32.toNatClampNeg 2) 1)) 55 (upd (F 55) (Int32.toNatClampNeg 0) 0)) 55 (upd (upd (F 55) (Int32.toNatClampNeg 0) 0) (Int32.toNatClampNeg 1) 0)) 55 (upd (upd (upd (F 55) (Int32.toNatClampNeg 0) 0) (Int32.toNatClampNeg 1) 0) (Int32.toNatClampNeg 2) 0)) G f_7 := hS_7q
                  refine gz_iinc (v := 3) (lv' := [(2, .int 3), (0, .ref m), (1, .int x1)]) dX12_ways_54 rfl (by decide) (by decide) rfl ?_
                  refine gz_goto (tgt := 41) dX12_ways_57 (by decide) ?_
                  refine gz_iload_n dX12_ways_41 rfl rfl ?_
                  refine gz_bipush (v := 18) dX12_ways_42 (by decide) ?_
                  refine gz_icmp_ge (tgt := 60) dX12_ways_44 (by decide) (fun c_44_6 => ?_) (fun c_44_6 => ?_)
                  · exact absurd c_44_6 (by decide)
                  ·
                    try simp only [mIn_0, lgc_lt, lgc_gt, lgc_le, lgc_ge, lgc_eq] at c_44_6
                    try simp only [fl_lt, fl_le, fl_eq, fL_w, fL_lt, fL_le, tm1, tm10k, tm9, tm99, Int32.reduceToInt, Int64.reduceToInt, Int.not_lt, Int.not_le] at c_44_6
                    refine gz_aload_n dX12_ways_47 rfl rfl ?_
                    refine mg_158 hS_7 dX12_ways_48 ?_
                    refine gz_iload_n dX12_ways_51 rfl rfl ?_
                    refine gz_iconst (v := 0) dX12_ways_52 (by decide) ?_
                    refine m_iast 55 hS_7 rfl (N := 18) rfl (vin_T (v := 3) rfl (by decide) (by decide)) dX12_ways_53 (fun f_8 hS_8q => ?_)
                    have hS_8 : mS cy m a f0 (va_up n 53 x1) z (va_up (va_up (va_up (va_up (va_up (va_up (va_up F 54 (upd (F 54) (Int32.toNatClampNeg 0) 1)) 54 (upd (upd (F 54) (Int32.toNatClampNeg 0) 1) (Int32.toNatClampNeg 1) 1)) 54 (upd (upd (upd (F 54) (Int32.toNatClampNeg 0) 1) (Int32.toNatClampNeg 1) 1) (Int32.toNatClampNeg 2) 1)) 55 (upd (F 55) (Int32.toNatClampNeg 0) 0)) 55 (upd (upd (F 55) (Int32.toNatClampNeg 0) 0) (Int32.toNatClampNeg 1) 0)) 55 (upd (upd (upd (F 55) (Int32.toNatClampNeg 0) 0) (Int32.toNatClampNeg 1) 0) (Int32.toNatClampNeg 2) 0)) 55 (upd (upd (upd (upd (F 55) (Int32.toNatClampNeg 0) 0) (Int32.toNatClampNeg 1) 0) (Int32.toNatClampNeg 2) 0) (Int32.toNatClampNeg 3) 0)) G f_8 := hS_8q
                    refine gz_iinc (v := 4) (lv' := [(2, .int 4), (0, .ref m), (1, .int x1)]) dX12_ways_54 rfl (by decide) (by decide) rfl ?_
                    refine gz_goto (tgt := 41) dX12_ways_57 (by decide) ?_
                    refine gz_iload_n dX12_ways_41 rfl rfl ?_
                    refine gz_bipush (v := 18) dX12_ways_42 (by decide) ?_
                    refine gz_icmp_ge (tgt := 60) dX12_ways_44 (by decide) (fun c_44_7 => ?_) (fun c_44_7 => ?_)
                    · exact absurd c_44_7 (by decide)
                    ·
                      try simp only [mIn_0, lgc_lt, lgc_gt, lgc_le, lgc_ge, lgc_eq] at c_44_7
                      try simp only [fl_lt, fl_le, fl_eq, fL_w, fL_lt, fL_le, tm1, tm10k, tm9, tm99, Int32.reduceToInt, Int64.reduceToInt, Int.not_lt, Int.not_le] at c_44_7
                      refine gz_aload_n dX12_ways_47 rfl rfl ?_
                      refine mg_158 hS_8 dX12_ways_48 ?_
                      refine gz_iload_n dX12_ways_51 rfl rfl ?_
                      refine gz_iconst (v := 0) dX12_ways_52 (by decide) ?_
                      refine m_iast 55 hS_8 rfl (N := 18) rfl (vin_T (v := 4) rfl (by decide) (by decide)) dX12_ways_53 (fun f_9 hS_9q => ?_)
                      have hS_9 : mS cy m a f0 (va_up n 53 x1) z (va_up (va_up (va_up (va_up (va_up (va_up (va_up (va_up F 54 (upd (F 54) (Int32.toNatClampNeg 0) 1)) 54 (upd (upd (F 54) (Int32.toNatClampNeg 0) 1) (Int32.toNatClampNeg 1) 1)) 54 (upd (upd (upd (F 54) (Int32.toNatClampNeg 0) 1) (Int32.toNatClampNeg 1) 1) (Int32.toNatClampNeg 2) 1)) 55 (upd (F 55) (Int32.toNatClampNeg 0) 0)) 55 (upd (upd (F 55) (Int32.toNatClampNeg 0) 0) (Int32.toNatClampNeg 1) 0)) 55 (upd (upd (upd (F 55) (Int32.toNatClampNeg 0) 0) (Int32.toNatClampNeg 1) 0) (Int32.toNatClampNeg 2) 0)) 55 (upd (upd (upd (upd (F 55) (Int32.toNatClampNeg 0) 0) (Int32.toNatClampNeg 1) 0) (Int32.toNatClampNeg 2) 0) (Int32.toNatClampNeg 3) 0)) 55 (upd (upd (upd (upd (upd (F 55) (Int32.toNatClampNeg 0) 0) (Int32.toNatClampNeg 1) 0) (Int32.toNatClampNeg 2) 0) (Int32.toNatClampNeg 3) 0) (Int32.toNatClampNeg 4) 0)) G f_9 := hS_9q
                      refine gz_iinc (v := 5) (lv' := [(2, .int 5), (0, .ref m), (1, .int x1)]) dX12_ways_54 rfl (by decide) (by decide) rfl ?_
                      refine gz_goto (tgt := 41) dX12_ways_57 (by decide) ?_
                      refine gz_iload_n dX12_ways_41 rfl rfl ?_
                      refine gz_bipush (v := 18) dX12_ways_42 (by decide) ?_
                      refine gz_icmp_ge (tgt := 60) dX12_ways_44 (by decide) (fun c_44_8 => ?_) (fun c_44_8 => ?_)
                      · exact absurd c_44_8 (by decide)
                      ·
                        try simp only [mIn_0, lgc_lt, lgc_gt, lgc_le, lgc_ge, lgc_eq] at c_44_8
                        try simp only [fl_lt, fl_le, fl_eq, fL_w, fL_lt, fL_le, tm1, tm10k, tm9, tm99, Int32.reduceToInt, Int64.reduceToInt, Int.not_lt, Int.not_le] at c_44_8
                        refine gz_aload_n dX12_ways_47 rfl rfl ?_
                        refine mg_158 hS_9 dX12_ways_48 ?_
                        refine gz_iload_n dX12_ways_51 rfl rfl ?_
                        refine gz_iconst (v := 0) dX12_ways_52 (by decide) ?_
                        refine m_iast 55 hS_9 rfl (N := 18) rfl (vin_T (v := 5) rfl (by decide) (by decide)) dX12_ways_53 (fun f_10 hS_10q => ?_)
                        have hS_10 : mS cy m a f0 (va_up n 53 x1) z (va_up (va_up (va_up (va_up (va_up (va_up (va_up (va_up (va_up F 54 (upd (F 54) (Int32.toNatClampNeg 0) 1)) 54 (upd (upd (F 54) (Int32.toNatClampNeg 0) 1) (Int32.toNatClampNeg 1) 1)) 54 (upd (upd (upd (F 54) (Int32.toNatClampNeg 0) 1) (Int32.toNatClampNeg 1) 1) (Int32.toNatClampNeg 2) 1)) 55 (upd (F 55) (Int32.toNatClampNeg 0) 0)) 55 (upd (upd (F 55) (Int32.toNatClampNeg 0) 0) (Int32.toNatClampNeg 1) 0)) 55 (upd (upd (upd (F 55) (Int32.toNatClampNeg 0) 0) (Int32.toNatClampNeg 1) 0) (Int32.toNatClampNeg 2) 0)) 55 (upd (upd (upd (upd (F 55) (Int32.toNatClampNeg 0) 0) (Int32.toNatClampNeg 1) 0) (Int32.toNatClampNeg 2) 0) (Int32.toNatClampNeg 3) 0)) 55 (upd (upd (upd (upd (upd (F 55) (Int32.toNatClampNeg 0) 0) (Int32.toNatClampNeg 1) 0) (Int32.toNatClampNeg 2) 0) (Int32.toNatClampNeg 3) 0) (Int32.toNatClampNeg 4) 0)) 55 (upd (upd (upd (upd (upd (upd (F 55) (Int32.toNatClampNeg 0) 0) (Int32.toNatClampNeg 1) 0) (Int32.toNatClampNeg 2) 0) (Int32.toNatClampNeg 3) 0) (Int32.toNatClampNeg 4) 0) (Int32.toNatClampNeg 5) 0)) G f_10 := hS_10q
                        refine gz_iinc (v := 6) (lv' := [(2, .int 6), (0, .ref m), (1, .int x1)]) dX12_ways_54 rfl (by decide) (by decide) rfl ?_
                        refine gz_goto (tgt := 41) dX12_ways_57 (by decide) ?_
                        refine gz_iload_n dX12_ways_41 rfl rfl ?_
                        refine gz_bipush (v := 18) dX12_ways_42 (by decide) ?_
                        refine gz_icmp_ge (tgt := 60) dX12_ways_44 (by decide) (fun c_44_9 => ?_) (fun c_44_9 => ?_)
                        · exact absurd c_44_9 (by decide)
                        ·
                          try simp only [mIn_0, lgc_lt, lgc_gt, lgc_le, lgc_ge, lgc_eq] at c_44_9
                          try simp only [fl_lt, fl_le, fl_eq, fL_w, fL_lt, fL_le, tm1, tm10k, tm9, tm99, Int32.reduceToInt, Int64.reduceToInt, Int.not_lt, Int.not_le] at c_44_9
                          refine gz_aload_n dX12_ways_47 rfl rfl ?_
                          refine mg_158 hS_10 dX12_ways_48 ?_
                          refine gz_iload_n dX12_ways_51 rfl rfl ?_
                          refine gz_iconst (v := 0) dX12_ways_52 (by decide) ?_
                          refine m_iast 55 hS_10 rfl (N := 18) rfl (vin_T (v := 6) rfl (by decide) (by decide)) dX12_ways_53 (fun f_11 hS_11q => ?_)
                          have hS_11 : mS cy m a f0 (va_up n 53 x1) z (va_up (va_up (va_up (va_up (va_up (va_up (va_up (va_up (va_up (va_up F 54 (upd (F 54) (Int32.toNatClampNeg 0) 1)) 54 (upd (upd (F 54) (Int32.toNatClampNeg 0) 1) (Int32.toNatClampNeg 1) 1)) 54 (upd (upd (upd (F 54) (Int32.toNatClampNeg 0) 1) (Int32.toNatClampNeg 1) 1) (Int32.toNatClampNeg 2) 1)) 55 (upd (F 55) (Int32.toNatClampNeg 0) 0)) 55 (upd (upd (F 55) (Int32.toNatClampNeg 0) 0) (Int32.toNatClampNeg 1) 0)) 55 (upd (upd (upd (F 55) (Int32.toNatClampNeg 0) 0) (Int32.toNatClampNeg 1) 0) (Int32.toNatClampNeg 2) 0)) 55 (upd (upd (upd (upd (F 55) (Int32.toNatClampNeg 0) 0) (Int32.toNatClampNeg 1) 0) (Int32.toNatClampNeg 2) 0) (Int32.toNatClampNeg 3) 0)) 55 (upd (upd (upd (upd (upd (F 55) (Int32.toNatClampNeg 0) 0) (Int32.toNatClampNeg 1) 0) (Int32.toNatClampNeg 2) 0) (Int32.toNatClampNeg 3) 0) (Int32.toNatClampNeg 4) 0)) 55 (upd (upd (upd (upd (upd (upd (F 55) (Int32.toNatClampNeg 0) 0) (Int32.toNatClampNeg 1) 0) (Int32.toNatClampNeg 2) 0) (Int32.toNatClampNeg 3) 0) (Int32.toNatClampNeg 4) 0) (Int32.toNatClampNeg 5) 0)) 55 (upd (upd (upd (upd (upd (upd (upd (F 55) (Int32.toNatClampNeg 0) 0) (Int32.toNatClampNeg 1) 0) (Int32.toNatClampNeg 2) 0) (Int32.toNatClampNeg 3) 0) (Int32.toNatClampNeg 4) 0) (Int32.toNatClampNeg 5) 0) (Int32.toNatClampNeg 6) 0)) G f_11 := hS_11q
                          refine gz_iinc (v := 7) (lv' := [(2, .int 7), (0, .ref m), (1, .int x1)]) dX12_ways_54 rfl (by decide) (by decide) rfl ?_
                          refine gz_goto (tgt := 41) dX12_ways_57 (by decide) ?_
                          refine gz_iload_n dX12_ways_41 rfl rfl ?_
                          refine gz_bipush (v := 18) dX12_ways_42 (by decide) ?_
                          refine gz_icmp_ge (tgt := 60) dX12_ways_44 (by decide) (fun c_44_10 => ?_) (fun c_44_10 => ?_)
                          · exact absurd c_44_10 (by decide)
                          ·
                            try simp only [mIn_0, lgc_lt, lgc_gt, lgc_le, lgc_ge, lgc_eq] at c_44_10
                            try simp only [fl_lt, fl_le, fl_eq, fL_w, fL_lt, fL_le, tm1, tm10k, tm9, tm99, Int32.reduceToInt, Int64.reduceToInt, Int.not_lt, Int.not_le] at c_44_10
                            refine gz_aload_n dX12_ways_47 rfl rfl ?_
                            refine mg_158 hS_11 dX12_ways_48 ?_
                            refine gz_iload_n dX12_ways_51 rfl rfl ?_
                            refine gz_iconst (v := 0) dX12_ways_52 (by decide) ?_
                            refine m_iast 55 hS_11 rfl (N := 18) rfl (vin_T (v := 7) rfl (by decide) (by decide)) dX12_ways_53 (fun f_12 hS_12q => ?_)
                            have hS_12 : mS cy m a f0 (va_up n 53 x1) z (va_up (va_up (va_up (va_up (va_up (va_up (va_up (va_up (va_up (va_up (va_up F 54 (upd (F 54) (Int32.toNatClampNeg 0) 1)) 54 (upd (upd (F 54) (Int32.toNatClampNeg 0) 1) (Int32.toNatClampNeg 1) 1)) 54 (upd (upd (upd (F 54) (Int32.toNatClampNeg 0) 1) (Int32.toNatClampNeg 1) 1) (Int32.toNatClampNeg 2) 1)) 55 (upd (F 55) (Int32.toNatClampNeg 0) 0)) 55 (upd (upd (F 55) (Int32.toNatClampNeg 0) 0) (Int32.toNatClampNeg 1) 0)) 55 (upd (upd (upd (F 55) (Int32.toNatClampNeg 0) 0) (Int32.toNatClampNeg 1) 0) (Int32.toNatClampNeg 2) 0)) 55 (upd (upd (upd (upd (F 55) (Int32.toNatClampNeg 0) 0) (Int32.toNatClampNeg 1) 0) (Int32.toNatClampNeg 2) 0) (Int32.toNatClampNeg 3) 0)) 55 (upd (upd (upd (upd (upd (F 55) (Int32.toNatClampNeg 0) 0) (Int32.toNatClampNeg 1) 0) (Int32.toNatClampNeg 2) 0) (Int32.toNatClampNeg 3) 0) (Int32.toNatClampNeg 4) 0)) 55 (upd (upd (upd (upd (upd (upd (F 55) (Int32.toNatClampNeg 0) 0) (Int32.toNatClampNeg 1) 0) (Int32.toNatClampNeg 2) 0) (Int32.toNatClampNeg 3) 0) (Int32.toNatClampNeg 4) 0) (Int32.toNatClampNeg 5) 0)) 55 (upd (upd (upd (upd (upd (upd (upd (F 55) (Int32.toNatClampNeg 0) 0) (Int32.toNatClampNeg 1) 0) (Int32.toNatClampNeg 2) 0) (Int32.toNatClampNeg 3) 0) (Int32.toNatClampNeg 4) 0) (Int32.toNatClampNeg 5) 0) (Int32.toNatClampNeg 6) 0)) 55 (upd (upd (upd (upd (upd (upd (upd (upd (F 55) (Int32.toNatClampNeg 0) 0) (Int32.toNatClampNeg 1) 0) (Int32.toNatClampNeg 2) 0) (Int32.toNatClampNeg 3) 0) (Int32.toNatClampNeg 4) 0) (Int32.toNatClampNeg 5) 0) (Int32.toNatClampNeg 6) 0) (Int32.toNatClampNeg 7) 0)) G f_12 := hS_12q
                            refine gz_iinc (v := 8) (lv' := [(2, .int 8), (0, .ref m), (1, .int x1)]) dX12_ways_54 rfl (by decide) (by decide) rfl ?_
                            refine gz_goto (tgt := 41) dX12_ways_57 (by decide) ?_
                            refine gz_iload_n dX12_ways_41 rfl rfl ?_
                            refine gz_bipush (v := 18) dX12_ways_42 (by decide) ?_
                            refine gz_icmp_ge (tgt := 60) dX12_ways_44 (by decide) (fun c_44_11 => ?_) (fun c_44_11 => ?_)
                            · exact absurd c_44_11 (by decide)
                            ·
                              try simp only [mIn_0, lgc_lt, lgc_gt, lgc_le, lgc_ge, lgc_eq] at c_44_11
                              try simp only [fl_lt, fl_le, fl_eq, fL_w, fL_lt, fL_le, tm1, tm10k, tm9, tm99, Int32.reduceToInt, Int64.reduceToInt, Int.not_lt, Int.not_le] at c_44_11
                              refine gz_aload_n dX12_ways_47 rfl rfl ?_
                              refine mg_158 hS_12 dX12_ways_48 ?_
                              refine gz_iload_n dX12_ways_51 rfl rfl ?_
                              refine gz_iconst (v := 0) dX12_ways_52 (by decide) ?_
                              refine m_iast 55 hS_12 rfl (N := 18) rfl (vin_T (v := 8) rfl (by decide) (by decide)) dX12_ways_53 (fun f_13 hS_13q => ?_)
                              have hS_13 : mS cy m a f0 (va_up n 53 x1) z (va_up (va_up (va_up (va_up (va_up (va_up (va_up (va_up (va_up (va_up (va_up (va_up F 54 (upd (F 54) (Int32.toNatClampNeg 0) 1)) 54 (upd (upd (F 54) (Int32.toNatClampNeg 0) 1) (Int32.toNatClampNeg 1) 1)) 54 (upd (upd (upd (F 54) (Int32.toNatClampNeg 0) 1) (Int32.toNatClampNeg 1) 1) (Int32.toNatClampNeg 2) 1)) 55 (upd (F 55) (Int32.toNatClampNeg 0) 0)) 55 (upd (upd (F 55) (Int32.toNatClampNeg 0) 0) (Int32.toNatClampNeg 1) 0)) 55 (upd (upd (upd (F 55) (Int32.toNatClampNeg 0) 0) (Int32.toNatClampNeg 1) 0) (Int32.toNatClampNeg 2) 0)) 55 (upd (upd (upd (upd (F 55) (Int32.toNatClampNeg 0) 0) (Int32.toNatClampNeg 1) 0) (Int32.toNatClampNeg 2) 0) (Int32.toNatClampNeg 3) 0)) 55 (upd (upd (upd (upd (upd (F 55) (Int32.toNatClampNeg 0) 0) (Int32.toNatClampNeg 1) 0) (Int32.toNatClampNeg 2) 0) (Int32.toNatClampNeg 3) 0) (Int32.toNatClampNeg 4) 0)) 55 (upd (upd (upd (upd (upd (upd (F 55) (Int32.toNatClampNeg 0) 0) (Int32.toNatClampNeg 1) 0) (Int32.toNatClampNeg 2) 0) (Int32.toNatClampNeg 3) 0) (Int32.toNatClampNeg 4) 0) (Int32.toNatClampNeg 5) 0)) 55 (upd (upd (upd (upd (upd (upd (upd (F 55) (Int32.toNatClampNeg 0) 0) (Int32.toNatClampNeg 1) 0) (Int32.toNatClampNeg 2) 0) (Int32.toNatClampNeg 3) 0) (Int32.toNatClampNeg 4) 0) (Int32.toNatClampNeg 5) 0) (Int32.toNatClampNeg 6) 0)) 55 (upd (upd (upd (upd (upd (upd (upd (upd (F 55) (Int32.toNatClampNeg 0) 0) (Int32.toNatClampNeg 1) 0) (Int32.toNatClampNeg 2) 0) (Int32.toNatClampNeg 3) 0) (Int32.toNatClampNeg 4) 0) (Int32.toNatClampNeg 5) 0) (Int32.toNatClampNeg 6) 0) (Int32.toNatClampNeg 7) 0)) 55 (upd (upd (upd (upd (upd (upd (upd (upd (upd (F 55) (Int32.toNatClampNeg 0) 0) (Int32.toNatClampNeg 1) 0) (Int32.toNatClampNeg 2) 0) (Int32.toNatClampNeg 3) 0) (Int32.toNatClampNeg 4) 0) (Int32.toNatClampNeg 5) 0) (Int32.toNatClampNeg 6) 0) (Int32.toNatClampNeg 7) 0) (Int32.toNatClampNeg 8) 0)) G f_13 := hS_13q
                              refine gz_iinc (v := 9) (lv' := [(2, .int 9), (0, .ref m), (1, .int x1)]) dX12_ways_54 rfl (by decide) (by decide) rfl ?_
                              refine gz_goto (tgt := 41) dX12_ways_57 (by decide) ?_
                              refine gz_iload_n dX12_ways_41 rfl rfl ?_
                              refine gz_bipush (v := 18) dX12_ways_42 (by decide) ?_
                              refine gz_icmp_ge (tgt := 60) dX12_ways_44 (by decide) (fun c_44_12 => ?_) (fun c_44_12 => ?_)
                              · exact absurd c_44_12 (by decide)
                              ·
                                try simp only [mIn_0, lgc_lt, lgc_gt, lgc_le, lgc_ge, lgc_eq] at c_44_12
                                try simp only [fl_lt, fl_le, fl_eq, fL_w, fL_lt, fL_le, tm1, tm10k, tm9, tm99, Int32.reduceToInt, Int64.reduceToInt, Int.not_lt, Int.not_le] at c_44_12
                                refine gz_aload_n dX12_ways_47 rfl rfl ?_
                                refine mg_158 hS_13 dX12_ways_48 ?_
                                refine gz_iload_n dX12_ways_51 rfl rfl ?_
                                refine gz_iconst (v := 0) dX12_ways_52 (by decide) ?_
                                refine m_iast 55 hS_13 rfl (N := 18) rfl (vin_T (v := 9) rfl (by decide) (by decide)) dX12_ways_53 (fun f_14 hS_14q => ?_)
                                have hS_14 : mS cy m a f0 (va_up n 53 x1) z (va_up (va_up (va_up (va_up (va_up (va_up (va_up (va_up (va_up (va_up (va_up (va_up (va_up F 54 (upd (F 54) (Int32.toNatClampNeg 0) 1)) 54 (upd (upd (F 54) (Int32.toNatClampNeg 0) 1) (Int32.toNatClampNeg 1) 1)) 54 (upd (upd (upd (F 54) (Int32.toNatClampNeg 0) 1) (Int32.toNatClampNeg 1) 1) (Int32.toNatClampNeg 2) 1)) 55 (upd (F 55) (Int32.toNatClampNeg 0) 0)) 55 (upd (upd (F 55) (Int32.toNatClampNeg 0) 0) (Int32.toNatClampNeg 1) 0)) 55 (upd (upd (upd (F 55) (Int32.toNatClampNeg 0) 0) (Int32.toNatClampNeg 1) 0) (Int32.toNatClampNeg 2) 0)) 55 (upd (upd (upd (upd (F 55) (Int32.toNatClampNeg 0) 0) (Int32.toNatClampNeg 1) 0) (Int32.toNatClampNeg 2) 0) (Int32.toNatClampNeg 3) 0)) 55 (upd (upd (upd (upd (upd (F 55) (Int32.toNatClampNeg 0) 0) (Int32.toNatClampNeg 1) 0) (Int32.toNatClampNeg 2) 0) (Int32.toNatClampNeg 3) 0) (Int32.toNatClampNeg 4) 0)) 55 (upd (upd (upd (upd (upd (upd (F 55) (Int32.toNatClampNeg 0) 0) (Int32.toNatClampNeg 1) 0) (Int32.toNatClampNeg 2) 0) (Int32.toNatClampNeg 3) 0) (Int32.toNatClampNeg 4) 0) (Int32.toNatClampNeg 5) 0)) 55 (upd (upd (upd (upd (upd (upd (upd (F 55) (Int32.toNatClampNeg 0) 0) (Int32.toNatClampNeg 1) 0) (Int32.toNatClampNeg 2) 0) (Int32.toNatClampNeg 3) 0) (Int32.toNatClampNeg 4) 0) (Int32.toNatClampNeg 5) 0) (Int32.toNatClampNeg 6) 0)) 55 (upd (upd (upd (upd (upd (upd (upd (upd (F 55) (Int32.toNatClampNeg 0) 0) (Int32.toNatClampNeg 1) 0) (Int32.toNatClampNeg 2) 0) (Int32.toNatClampNeg 3) 0) (Int32.toNatClampNeg 4) 0) (Int32.toNatClampNeg 5) 0) (Int32.toNatClampNeg 6) 0) (Int32.toNatClampNeg 7) 0)) 55 (upd (upd (upd (upd (upd (upd (upd (upd (upd (F 55) (Int32.toNatClampNeg 0) 0) (Int32.toNatClampNeg 1) 0) (Int32.toNatClampNeg 2) 0) (Int32.toNatClampNeg 3) 0) (Int32.toNatClampNeg 4) 0) (Int32.toNatClampNeg 5) 0) (Int32.toNatClampNeg 6) 0) (Int32.toNatClampNeg 7) 0) (Int32.toNatClampNeg 8) 0)) 55 (upd (upd (upd (upd (upd (upd (upd (upd (upd (upd (F 55) (Int32.toNatClampNeg 0) 0) (Int32.toNatClampNeg 1) 0) (Int32.toNatClampNeg 2) 0) (Int32.toNatClampNeg 3) 0) (Int32.toNatClampNeg 4) 0) (Int32.toNatClampNeg 5) 0) (Int32.toNatClampNeg 6) 0) (Int32.toNatClampNeg 7) 0) (Int32.toNatClampNeg 8) 0) (Int32.toNatClampNeg 9) 0)) G f_14 := hS_14q
                                refine gz_iinc (v := 10) (lv' := [(2, .int 10), (0, .ref m), (1, .int x1)]) dX12_ways_54 rfl (by decide) (by decide) rfl ?_
                                refine gz_goto (tgt := 41) dX12_ways_57 (by decide) ?_
                                refine gz_iload_n dX12_ways_41 rfl rfl ?_
                                refine gz_bipush (v := 18) dX12_ways_42 (by decide) ?_
                                refine gz_icmp_ge (tgt := 60) dX12_ways_44 (by decide) (fun c_44_13 => ?_) (fun c_44_13 => ?_)
                                · exact absurd c_44_13 (by decide)
                                ·
                                  try simp only [mIn_0, lgc_lt, lgc_gt, lgc_le, lgc_ge, lgc_eq] at c_44_13
                                  try simp only [fl_lt, fl_le, fl_eq, fL_w, fL_lt, fL_le, tm1, tm10k, tm9, tm99, Int32.reduceToInt, Int64.reduceToInt, Int.not_lt, Int.not_le] at c_44_13
                                  refine gz_aload_n dX12_ways_47 rfl rfl ?_
                                  refine mg_158 hS_14 dX12_ways_48 ?_
                                  refine gz_iload_n dX12_ways_51 rfl rfl ?_
                                  refine gz_iconst (v := 0) dX12_ways_52 (by decide) ?_
                                  refine m_iast 55 hS_14 rfl (N := 18) rfl (vin_T (v := 10) rfl (by decide) (by decide)) dX12_ways_53 (fun f_15 hS_15q => ?_)
                                  have hS_15 : mS cy m a f0 (va_up n 53 x1) z (va_up (va_up (va_up (va_up (va_up (va_up (va_up (va_up (va_up (va_up (va_up (va_up (va_up (va_up F 54 (upd (F 54) (Int32.toNatClampNeg 0) 1)) 54 (upd (upd (F 54) (Int32.toNatClampNeg 0) 1) (Int32.toNatClampNeg 1) 1)) 54 (upd (upd (upd (F 54) (Int32.toNatClampNeg 0) 1) (Int32.toNatClampNeg 1) 1) (Int32.toNatClampNeg 2) 1)) 55 (upd (F 55) (Int32.toNatClampNeg 0) 0)) 55 (upd (upd (F 55) (Int32.toNatClampNeg 0) 0) (Int32.toNatClampNeg 1) 0)) 55 (upd (upd (upd (F 55) (Int32.toNatClampNeg 0) 0) (Int32.toNatClampNeg 1) 0) (Int32.toNatClampNeg 2) 0)) 55 (upd (upd (upd (upd (F 55) (Int32.toNatClampNeg 0) 0) (Int32.toNatClampNeg 1) 0) (Int32.toNatClampNeg 2) 0) (Int32.toNatClampNeg 3) 0)) 55 (upd (upd (upd (upd (upd (F 55) (Int32.toNatClampNeg 0) 0) (Int32.toNatClampNeg 1) 0) (Int32.toNatClampNeg 2) 0) (Int32.toNatClampNeg 3) 0) (Int32.toNatClampNeg 4) 0)) 55 (upd (upd (upd (upd (upd (upd (F 55) (Int32.toNatClampNeg 0) 0) (Int32.toNatClampNeg 1) 0) (Int32.toNatClampNeg 2) 0) (Int32.toNatClampNeg 3) 0) (Int32.toNatClampNeg 4) 0) (Int32.toNatClampNeg 5) 0)) 55 (upd (upd (upd (upd (upd (upd (upd (F 55) (Int32.toNatClampNeg 0) 0) (Int32.toNatClampNeg 1) 0) (Int32.toNatClampNeg 2) 0) (Int32.toNatClampNeg 3) 0) (Int32.toNatClampNeg 4) 0) (Int32.toNatClampNeg 5) 0) (Int32.toNatClampNeg 6) 0)) 55 (upd (upd (upd (upd (upd (upd (upd (upd (F 55) (Int32.toNatClampNeg 0) 0) (Int32.toNatClampNeg 1) 0) (Int32.toNatClampNeg 2) 0) (Int32.toNatClampNeg 3) 0) (Int32.toNatClampNeg 4) 0) (Int32.toNatClampNeg 5) 0) (Int32.toNatClampNeg 6) 0) (Int32.toNatClampNeg 7) 0)) 55 (upd (upd (upd (upd (upd (upd (upd (upd (upd (F 55) (Int32.toNatClampNeg 0) 0) (Int32.toNatClampNeg 1) 0) (Int32.toNatClampNeg 2) 0) (Int32.toNatClampNeg 3) 0) (Int32.toNatClampNeg 4) 0) (Int32.toNatClampNeg 5) 0) (Int32.toNatClampNeg 6) 0) (Int32.toNatClampNeg 7) 0) (Int32.toNatClampNeg 8) 0)) 55 (upd (upd (upd (upd (upd (upd (upd (upd (upd (upd (F 55) (Int32.toNatClampNeg 0) 0) (Int32.toNatClampNeg 1) 0) (Int32.toNatClampNeg 2) 0) (Int32.toNatClampNeg 3) 0) (Int32.toNatClampNeg 4) 0) (Int32.toNatClampNeg 5) 0) (Int32.toNatClampNeg 6) 0) (Int32.toNatClampNeg 7) 0) (Int32.toNatClampNeg 8) 0) (Int32.toNatClampNeg 9) 0)) 55 (upd (upd (upd (upd (upd (upd (upd (upd (upd (upd (upd (F 55) (Int32.toNatClampNeg 0) 0) (Int32.toNatClampNeg 1) 0) (Int32.toNatClampNeg 2) 0) (Int32.toNatClampNeg 3) 0) (Int32.toNatClampNeg 4) 0) (Int32.toNatClampNeg 5) 0) (Int32.toNatClampNeg 6) 0) (Int32.toNatClampNeg 7) 0) (Int32.toNatClampNeg 8) 0) (Int32.toNatClampNeg 9) 0) (Int32.toNatClampNeg 10) 0)) G f_15 := hS_15q
                                  refine gz_iinc (v := 11) (lv' := [(2, .int 11), (0, .ref m), (1, .int x1)]) dX12_ways_54 rfl (by decide) (by decide) rfl ?_
                                  refine gz_goto (tgt := 41) dX12_ways_57 (by decide) ?_
                                  refine gz_iload_n dX12_ways_41 rfl rfl ?_
                                  refine gz_bipush (v := 18) dX12_ways_42 (by decide) ?_
                                  refine gz_icmp_ge (tgt := 60) dX12_ways_44 (by decide) (fun c_44_14 => ?_) (fun c_44_14 => ?_)
                                  · exact absurd c_44_14 (by decide)
                                  ·
                                    try simp only [mIn_0, lgc_lt, lgc_gt, lgc_le, lgc_ge, lgc_eq] at c_44_14
                                    try simp only [fl_lt, fl_le, fl_eq, fL_w, fL_lt, fL_le, tm1, tm10k, tm9, tm99, Int32.reduceToInt, Int64.reduceToInt, Int.not_lt, Int.not_le] at c_44_14
                                    refine gz_aload_n dX12_ways_47 rfl rfl ?_
                                    refine mg_158 hS_15 dX12_ways_48 ?_
                                    refine gz_iload_n dX12_ways_51 rfl rfl ?_
                                    refine gz_iconst (v := 0) dX12_ways_52 (by decide) ?_
                                    refine m_iast 55 hS_15 rfl (N := 18) rfl (vin_T (v := 11) rfl (by decide) (by decide)) dX12_ways_53 (fun f_16 hS_16q => ?_)
                                    have hS_16 : mS cy m a f0 (va_up n 53 x1) z (va_up (va_up (va_up (va_up (va_up (va_up (va_up (va_up (va_up (va_up (va_up (va_up (va_up (va_up (va_up F 54 (upd (F 54) (Int32.toNatClampNeg 0) 1)) 54 (upd (upd (F 54) (Int32.toNatClampNeg 0) 1) (Int32.toNatClampNeg 1) 1)) 54 (upd (upd (upd (F 54) (Int32.toNatClampNeg 0) 1) (Int32.toNatClampNeg 1) 1) (Int32.toNatClampNeg 2) 1)) 55 (upd (F 55) (Int32.toNatClampNeg 0) 0)) 55 (upd (upd (F 55) (Int32.toNatClampNeg 0) 0) (Int32.toNatClampNeg 1) 0)) 55 (upd (upd (upd (F 55) (Int32.toNatClampNeg 0) 0) (Int32.toNatClampNeg 1) 0) (Int32.toNatClampNeg 2) 0)) 55 (upd (upd (upd (upd (F 55) (Int32.toNatClampNeg 0) 0) (Int32.toNatClampNeg 1) 0) (Int32.toNatClampNeg 2) 0) (Int32.toNatClampNeg 3) 0)) 55 (upd (upd (upd (upd (upd (F 55) (Int32.toNatClampNeg 0) 0) (Int32.toNatClampNeg 1) 0) (Int32.toNatClampNeg 2) 0) (Int32.toNatClampNeg 3) 0) (Int32.toNatClampNeg 4) 0)) 55 (upd (upd (upd (upd (upd (upd (F 55) (Int32.toNatClampNeg 0) 0) (Int32.toNatClampNeg 1) 0) (Int32.toNatClampNeg 2) 0) (Int32.toNatClampNeg 3) 0) (Int32.toNatClampNeg 4) 0) (Int32.toNatClampNeg 5) 0)) 55 (upd (upd (upd (upd (upd (upd (upd (F 55) (Int32.toNatClampNeg 0) 0) (Int32.toNatClampNeg 1) 0) (Int32.toNatClampNeg 2) 0) (Int32.toNatClampNeg 3) 0) (Int32.toNatClampNeg 4) 0) (Int32.toNatClampNeg 5) 0) (Int32.toNatClampNeg 6) 0)) 55 (upd (upd (upd (upd (upd (upd (upd (upd (F 55) (Int32.toNatClampNeg 0) 0) (Int32.toNatClampNeg 1) 0) (Int32.toNatClampNeg 2) 0) (Int32.toNatClampNeg 3) 0) (Int32.toNatClampNeg 4) 0) (Int32.toNatClampNeg 5) 0) (Int32.toNatClampNeg 6) 0) (Int32.toNatClampNeg 7) 0)) 55 (upd (upd (upd (upd (upd (upd (upd (upd (upd (F 55) (Int32.toNatClampNeg 0) 0) (Int32.toNatClampNeg 1) 0) (Int32.toNatClampNeg 2) 0) (Int32.toNatClampNeg 3) 0) (Int32.toNatClampNeg 4) 0) (Int32.toNatClampNeg 5) 0) (Int32.toNatClampNeg 6) 0) (Int32.toNatClampNeg 7) 0) (Int32.toNatClampNeg 8) 0)) 55 (upd (upd (upd (upd (upd (upd (upd (upd (upd (upd (F 55) (Int32.toNatClampNeg 0) 0) (Int32.toNatClampNeg 1) 0) (Int32.toNatClampNeg 2) 0) (Int32.toNatClampNeg 3) 0) (Int32.toNatClampNeg 4) 0) (Int32.toNatClampNeg 5) 0) (Int32.toNatClampNeg 6) 0) (Int32.toNatClampNeg 7) 0) (Int32.toNatClampNeg 8) 0) (Int32.toNatClampNeg 9) 0)) 55 (upd (upd (upd (upd (upd (upd (upd (upd (upd (upd (upd (F 55) (Int32.toNatClampNeg 0) 0) (Int32.toNatClampNeg 1) 0) (Int32.toNatClampNeg 2) 0) (Int32.toNatClampNeg 3) 0) (Int32.toNatClampNeg 4) 0) (Int32.toNatClampNeg 5) 0) (Int32.toNatClampNeg 6) 0) (Int32.toNatClampNeg 7) 0) (Int32.toNatClampNeg 8) 0) (Int32.toNatClampNeg 9) 0) (Int32.toNatClampNeg 10) 0)) 55 (upd (upd (upd (upd (upd (upd (upd (upd (upd (upd (upd (upd (F 55) (Int32.toNatClampNeg 0) 0) (Int32.toNatClampNeg 1) 0) (Int32.toNatClampNeg 2) 0) (Int32.toNatClampNeg 3) 0) (Int32.toNatClampNeg 4) 0) (Int32.toNatClampNeg 5) 0) (Int32.toNatClampNeg 6) 0) (Int32.toNatClampNeg 7) 0) (Int32.toNatClampNeg 8) 0) (Int32.toNatClampNeg 9) 0) (Int32.toNatClampNeg 10) 0) (Int32.toNatClampNeg 11) 0)) G f_16 := hS_16q
                                    refine gz_iinc (v := 12) (lv' := [(2, .int 12), (0, .ref m), (1, .int x1)]) dX12_ways_54 rfl (by decide) (by decide) rfl ?_
                                    refine gz_goto (tgt := 41) dX12_ways_57 (by decide) ?_
                                    refine gz_iload_n dX12_ways_41 rfl rfl ?_
                                    refine gz_bipush (v := 18) dX12_ways_42 (by decide) ?_
                                    refine gz_icmp_ge (tgt := 60) dX12_ways_44 (by decide) (fun c_44_15 => ?_) (fun c_44_15 => ?_)
                                    · exact absurd c_44_15 (by decide)
                                    ·
                                      try simp only [mIn_0, lgc_lt, lgc_gt, lgc_le, lgc_ge, lgc_eq] at c_44_15
                                      try simp only [fl_lt, fl_le, fl_eq, fL_w, fL_lt, fL_le, tm1, tm10k, tm9, tm99, Int32.reduceToInt, Int64.reduceToInt, Int.not_lt, Int.not_le] at c_44_15
                                      refine gz_aload_n dX12_ways_47 rfl rfl ?_
                                      refine mg_158 hS_16 dX12_ways_48 ?_
                                      refine gz_iload_n dX12_ways_51 rfl rfl ?_
                                      refine gz_iconst (v := 0) dX12_ways_52 (by decide) ?_
                                      refine m_iast 55 hS_16 rfl (N := 18) rfl (vin_T (v := 12) rfl (by decide) (by decide)) dX12_ways_53 (fun f_17 hS_17q => ?_)
                                      have hS_17 : mS cy m a f0 (va_up n 53 x1) z (va_up (va_up (va_up (va_up (va_up (va_up (va_up (va_up (va_up (va_up (va_up (va_up (va_up (va_up (va_up (va_up F 54 (upd (F 54) (Int32.toNatClampNeg 0) 1)) 54 (upd (upd (F 54) (Int32.toNatClampNeg 0) 1) (Int32.toNatClampNeg 1) 1)) 54 (upd (upd (upd (F 54) (Int32.toNatClampNeg 0) 1) (Int32.toNatClampNeg 1) 1) (Int32.toNatClampNeg 2) 1)) 55 (upd (F 55) (Int32.toNatClampNeg 0) 0)) 55 (upd (upd (F 55) (Int32.toNatClampNeg 0) 0) (Int32.toNatClampNeg 1) 0)) 55 (upd (upd (upd (F 55) (Int32.toNatClampNeg 0) 0) (Int32.toNatClampNeg 1) 0) (Int32.toNatClampNeg 2) 0)) 55 (upd (upd (upd (upd (F 55) (Int32.toNatClampNeg 0) 0) (Int32.toNatClampNeg 1) 0) (Int32.toNatClampNeg 2) 0) (Int32.toNatClampNeg 3) 0)) 55 (upd (upd (upd (upd (upd (F 55) (Int32.toNatClampNeg 0) 0) (Int32.toNatClampNeg 1) 0) (Int32.toNatClampNeg 2) 0) (Int32.toNatClampNeg 3) 0) (Int32.toNatClampNeg 4) 0)) 55 (upd (upd (upd (upd (upd (upd (F 55) (Int32.toNatClampNeg 0) 0) (Int32.toNatClampNeg 1) 0) (Int32.toNatClampNeg 2) 0) (Int32.toNatClampNeg 3) 0) (Int32.toNatClampNeg 4) 0) (Int32.toNatClampNeg 5) 0)) 55 (upd (upd (upd (upd (upd (upd (upd (F 55) (Int32.toNatClampNeg 0) 0) (Int32.toNatClampNeg 1) 0) (Int32.toNatClampNeg 2) 0) (Int32.toNatClampNeg 3) 0) (Int32.toNatClampNeg 4) 0) (Int32.toNatClampNeg 5) 0) (Int32.toNatClampNeg 6) 0)) 55 (upd (upd (upd (upd (upd (upd (upd (upd (F 55) (Int32.toNatClampNeg 0) 0) (Int32.toNatClampNeg 1) 0) (Int32.toNatClampNeg 2) 0) (Int32.toNatClampNeg 3) 0) (Int32.toNatClampNeg 4) 0) (Int32.toNatClampNeg 5) 0) (Int32.toNatClampNeg 6) 0) (Int32.toNatClampNeg 7) 0)) 55 (upd (upd (upd (upd (upd (upd (upd (upd (upd (F 55) (Int32.toNatClampNeg 0) 0) (Int32.toNatClampNeg 1) 0) (Int32.toNatClampNeg 2) 0) (Int32.toNatClampNeg 3) 0) (Int32.toNatClampNeg 4) 0) (Int32.toNatClampNeg 5) 0) (Int32.toNatClampNeg 6) 0) (Int32.toNatClampNeg 7) 0) (Int32.toNatClampNeg 8) 0)) 55 (upd (upd (upd (upd (upd (upd (upd (upd (upd (upd (F 55) (Int32.toNatClampNeg 0) 0) (Int32.toNatClampNeg 1) 0) (Int32.toNatClampNeg 2) 0) (Int32.toNatClampNeg 3) 0) (Int32.toNatClampNeg 4) 0) (Int32.toNatClampNeg 5) 0) (Int32.toNatClampNeg 6) 0) (Int32.toNatClampNeg 7) 0) (Int32.toNatClampNeg 8) 0) (Int32.toNatClampNeg 9) 0)) 55 (upd (upd (upd (upd (upd (upd (upd (upd (upd (upd (upd (F 55) (Int32.toNatClampNeg 0) 0) (Int32.toNatClampNeg 1) 0) (Int32.toNatClampNeg 2) 0) (Int32.toNatClampNeg 3) 0) (Int32.toNatClampNeg 4) 0) (Int32.toNatClampNeg 5) 0) (Int32.toNatClampNeg 6) 0) (Int32.toNatClampNeg 7) 0) (Int32.toNatClampNeg 8) 0) (Int32.toNatClampNeg 9) 0) (Int32.toNatClampNeg 10) 0)) 55 (upd (upd (upd (upd (upd (upd (upd (upd (upd (upd (upd (upd (F 55) (Int32.toNatClampNeg 0) 0) (Int32.toNatClampNeg 1) 0) (Int32.toNatClampNeg 2) 0) (Int32.toNatClampNeg 3) 0) (Int32.toNatClampNeg 4) 0) (Int32.toNatClampNeg 5) 0) (Int32.toNatClampNeg 6) 0) (Int32.toNatClampNeg 7) 0) (Int32.toNatClampNeg 8) 0) (Int32.toNatClampNeg 9) 0) (Int32.toNatClampNeg 10) 0) (Int32.toNatClampNeg 11) 0)) 55 (upd (upd (upd (upd (upd (upd (upd (upd (upd (upd (upd (upd (upd (F 55) (Int32.toNatClampNeg 0) 0) (Int32.toNatClampNeg 1) 0) (Int32.toNatClampNeg 2) 0) (Int32.toNatClampNeg 3) 0) (Int32.toNatClampNeg 4) 0) (Int32.toNatClampNeg 5) 0) (Int32.toNatClampNeg 6) 0) (Int32.toNatClampNeg 7) 0) (Int32.toNatClampNeg 8) 0) (Int32.toNatClampNeg 9) 0) (Int32.toNatClampNeg 10) 0) (Int32.toNatClampNeg 11) 0) (Int32.toNatClampNeg 12) 0)) G f_17 := hS_17q
                                      refine gz_iinc (v := 13) (lv' := [(2, .int 13), (0, .ref m), (1, .int x1)]) dX12_ways_54 rfl (by decide) (by decide) rfl ?_
                                      refine gz_goto (tgt := 41) dX12_ways_57 (by decide) ?_
                                      refine gz_iload_n dX12_ways_41 rfl rfl ?_
                                      refine gz_bipush (v := 18) dX12_ways_42 (by decide) ?_
                                      refine gz_icmp_ge (tgt := 60) dX12_ways_44 (by decide) (fun c_44_16 => ?_) (fun c_44_16 => ?_)
                                      · exact absurd c_44_16 (by decide)
                                      ·
                                        try simp only [mIn_0, lgc_lt, lgc_gt, lgc_le, lgc_ge, lgc_eq] at c_44_16
                                        try simp only [fl_lt, fl_le, fl_eq, fL_w, fL_lt, fL_le, tm1, tm10k, tm9, tm99, Int32.reduceToInt, Int64.reduceToInt, Int.not_lt, Int.not_le] at c_44_16
                                        refine gz_aload_n dX12_ways_47 rfl rfl ?_
                                        refine mg_158 hS_17 dX12_ways_48 ?_
                                        refine gz_iload_n dX12_ways_51 rfl rfl ?_
                                        refine gz_iconst (v := 0) dX12_ways_52 (by decide) ?_
                                        refine m_iast 55 hS_17 rfl (N := 18) rfl (vin_T (v := 13) rfl (by decide) (by decide)) dX12_ways_53 (fun f_18 hS_18q => ?_)
                                        have hS_18 : mS cy m a f0 (va_up n 53 x1) z (va_up (va_up (va_up (va_up (va_up (va_up (va_up (va_up (va_up (va_up (va_up (va_up (va_up (va_up (va_up (va_up (va_up F 54 (upd (F 54) (Int32.toNatClampNeg 0) 1)) 54 (upd (upd (F 54) (Int32.toNatClampNeg 0) 1) (Int32.toNatClampNeg 1) 1)) 54 (upd (upd (upd (F 54) (Int32.toNatClampNeg 0) 1) (Int32.toNatClampNeg 1) 1) (Int32.toNatClampNeg 2) 1)) 55 (upd (F 55) (Int32.toNatClampNeg 0) 0)) 55 (upd (upd (F 55) (Int32.toNatClampNeg 0) 0) (Int32.toNatClampNeg 1) 0)) 55 (upd (upd (upd (F 55) (Int32.toNatClampNeg 0) 0) (Int32.toNatClampNeg 1) 0) (Int32.toNatClampNeg 2) 0)) 55 (upd (upd (upd (upd (F 55) (Int32.toNatClampNeg 0) 0) (Int32.toNatClampNeg 1) 0) (Int32.toNatClampNeg 2) 0) (Int32.toNatClampNeg 3) 0)) 55 (upd (upd (upd (upd (upd (F 55) (Int32.toNatClampNeg 0) 0) (Int32.toNatClampNeg 1) 0) (Int32.toNatClampNeg 2) 0) (Int32.toNatClampNeg 3) 0) (Int32.toNatClampNeg 4) 0)) 55 (upd (upd (upd (upd (upd (upd (F 55) (Int32.toNatClampNeg 0) 0) (Int32.toNatClampNeg 1) 0) (Int32.toNatClampNeg 2) 0) (Int32.toNatClampNeg 3) 0) (Int32.toNatClampNeg 4) 0) (Int32.toNatClampNeg 5) 0)) 55 (upd (upd (upd (upd (upd (upd (upd (F 55) (Int32.toNatClampNeg 0) 0) (Int32.toNatClampNeg 1) 0) (Int32.toNatClampNeg 2) 0) (Int32.toNatClampNeg 3) 0) (Int32.toNatClampNeg 4) 0) (Int32.toNatClampNeg 5) 0) (Int32.toNatClampNeg 6) 0)) 55 (upd (upd (upd (upd (upd (upd (upd (upd (F 55) (Int32.toNatClampNeg 0) 0) (Int32.toNatClampNeg 1) 0) (Int32.toNatClampNeg 2) 0) (Int32.toNatClampNeg 3) 0) (Int32.toNatClampNeg 4) 0) (Int32.toNatClampNeg 5) 0) (Int32.toNatClampNeg 6) 0) (Int32.toNatClampNeg 7) 0)) 55 (upd (upd (upd (upd (upd (upd (upd (upd (upd (F 55) (Int32.toNatClampNeg 0) 0) (Int32.toNatClampNeg 1) 0) (Int32.toNatClampNeg 2) 0) (Int32.toNatClampNeg 3) 0) (Int32.toNatClampNeg 4) 0) (Int32.toNatClampNeg 5) 0) (Int32.toNatClampNeg 6) 0) (Int32.toNatClampNeg 7) 0) (Int32.toNatClampNeg 8) 0)) 55 (upd (upd (upd (upd (upd (upd (upd (upd (upd (upd (F 55) (Int32.toNatClampNeg 0) 0) (Int32.toNatClampNeg 1) 0) (Int32.toNatClampNeg 2) 0) (Int32.toNatClampNeg 3) 0) (Int32.toNatClampNeg 4) 0) (Int32.toNatClampNeg 5) 0) (Int32.toNatClampNeg 6) 0) (Int32.toNatClampNeg 7) 0) (Int32.toNatClampNeg 8) 0) (Int32.toNatClampNeg 9) 0)) 55 (upd (upd (upd (upd (upd (upd (upd (upd (upd (upd (upd (F 55) (Int32.toNatClampNeg 0) 0) (Int32.toNatClampNeg 1) 0) (Int32.toNatClampNeg 2) 0) (Int32.toNatClampNeg 3) 0) (Int32.toNatClampNeg 4) 0) (Int32.toNatClampNeg 5) 0) (Int32.toNatClampNeg 6) 0) (Int32.toNatClampNeg 7) 0) (Int32.toNatClampNeg 8) 0) (Int32.toNatClampNeg 9) 0) (Int32.toNatClampNeg 10) 0)) 55 (upd (upd (upd (upd (upd (upd (upd (upd (upd (upd (upd (upd (F 55) (Int32.toNatClampNeg 0) 0) (Int32.toNatClampNeg 1) 0) (Int32.toNatClampNeg 2) 0) (Int32.toNatClampNeg 3) 0) (Int32.toNatClampNeg 4) 0) (Int32.toNatClampNeg 5) 0) (Int32.toNatClampNeg 6) 0) (Int32.toNatClampNeg 7) 0) (Int32.toNatClampNeg 8) 0) (Int32.toNatClampNeg 9) 0) (Int32.toNatClampNeg 10) 0) (Int32.toNatClampNeg 11) 0)) 55 (upd (upd (upd (upd (upd (upd (upd (upd (upd (upd (upd (upd (upd (F 55) (Int32.toNatClampNeg 0) 0) (Int32.toNatClampNeg 1) 0) (Int32.toNatClampNeg 2) 0) (Int32.toNatClampNeg 3) 0) (Int32.toNatClampNeg 4) 0) (Int32.toNatClampNeg 5) 0) (Int32.toNatClampNeg 6) 0) (Int32.toNatClampNeg 7) 0) (Int32.toNatClampNeg 8) 0) (Int32.toNatClampNeg 9) 0) (Int32.toNatClampNeg 10) 0) (Int32.toNatClampNeg 11) 0) (Int32.toNatClampNeg 12) 0)) 55 (upd (upd (upd (upd (upd (upd (upd (upd (upd (upd (upd (upd (upd (upd (F 55) (Int32.toNatClampNeg 0) 0) (Int32.toNatClampNeg 1) 0) (Int32.toNatClampNeg 2) 0) (Int32.toNatClampNeg 3) 0) (Int32.toNatClampNeg 4) 0) (Int32.toNatClampNeg 5) 0) (Int32.toNatClampNeg 6) 0) (Int32.toNatClampNeg 7) 0) (Int32.toNatClampNeg 8) 0) (Int32.toNatClampNeg 9) 0) (Int32.toNatClampNeg 10) 0) (Int32.toNatClampNeg 11) 0) (Int32.toNatClampNeg 12) 0) (Int32.toNatClampNeg 13) 0)) G f_18 := hS_18q
                                        refine gz_iinc (v := 14) (lv' := [(2, .int 14), (0, .ref m), (1, .int x1)]) dX12_ways_54 rfl (by decide) (by decide) rfl ?_
                                        refine gz_goto (tgt := 41) dX12_ways_57 (by decide) ?_
                                        refine gz_iload_n dX12_ways_41 rfl rfl ?_
                                        refine gz_bipush (v := 18) dX12_ways_42 (by decide) ?_
                                        refine gz_icmp_ge (tgt := 60) dX12_ways_44 (by decide) (fun c_44_17 => ?_) (fun c_44_17 => ?_)
                                        · exact absurd c_44_17 (by decide)
                                        ·
                                          try simp only [mIn_0, lgc_lt, lgc_gt, lgc_le, lgc_ge, lgc_eq] at c_44_17
                                          try simp only [fl_lt, fl_le, fl_eq, fL_w, fL_lt, fL_le, tm1, tm10k, tm9, tm99, Int32.reduceToInt, Int64.reduceToInt, Int.not_lt, Int.not_le] at c_44_17
                                          refine gz_aload_n dX12_ways_47 rfl rfl ?_
                                          refine mg_158 hS_18 dX12_ways_48 ?_
                                          refine gz_iload_n dX12_ways_51 rfl rfl ?_
                                          refine gz_iconst (v := 0) dX12_ways_52 (by decide) ?_
                                          refine m_iast 55 hS_18 rfl (N := 18) rfl (vin_T (v := 14) rfl (by decide) (by decide)) dX12_ways_53 (fun f_19 hS_19q => ?_)
                                          have hS_19 : mS cy m a f0 (va_up n 53 x1) z (va_up (va_up (va_up (va_up (va_up (va_up (va_up (va_up (va_up (va_up (va_up (va_up (va_up (va_up (va_up (va_up (va_up (va_up F 54 (upd (F 54) (Int32.toNatClampNeg 0) 1)) 54 (upd (upd (F 54) (Int32.toNatClampNeg 0) 1) (Int32.toNatClampNeg 1) 1)) 54 (upd (upd (upd (F 54) (Int32.toNatClampNeg 0) 1) (Int32.toNatClampNeg 1) 1) (Int32.toNatClampNeg 2) 1)) 55 (upd (F 55) (Int32.toNatClampNeg 0) 0)) 55 (upd (upd (F 55) (Int32.toNatClampNeg 0) 0) (Int32.toNatClampNeg 1) 0)) 55 (upd (upd (upd (F 55) (Int32.toNatClampNeg 0) 0) (Int32.toNatClampNeg 1) 0) (Int32.toNatClampNeg 2) 0)) 55 (upd (upd (upd (upd (F 55) (Int32.toNatClampNeg 0) 0) (Int32.toNatClampNeg 1) 0) (Int32.toNatClampNeg 2) 0) (Int32.toNatClampNeg 3) 0)) 55 (upd (upd (upd (upd (upd (F 55) (Int32.toNatClampNeg 0) 0) (Int32.toNatClampNeg 1) 0) (Int32.toNatClampNeg 2) 0) (Int32.toNatClampNeg 3) 0) (Int32.toNatClampNeg 4) 0)) 55 (upd (upd (upd (upd (upd (upd (F 55) (Int32.toNatClampNeg 0) 0) (Int32.toNatClampNeg 1) 0) (Int32.toNatClampNeg 2) 0) (Int32.toNatClampNeg 3) 0) (Int32.toNatClampNeg 4) 0) (Int32.toNatClampNeg 5) 0)) 55 (upd (upd (upd (upd (upd (upd (upd (F 55) (Int32.toNatClampNeg 0) 0) (Int32.toNatClampNeg 1) 0) (Int32.toNatClampNeg 2) 0) (Int32.toNatClampNeg 3) 0) (Int32.toNatClampNeg 4) 0) (Int32.toNatClampNeg 5) 0) (Int32.toNatClampNeg 6) 0)) 55 (upd (upd (upd (upd (upd (upd (upd (upd (F 55) (Int32.toNatClampNeg 0) 0) (Int32.toNatClampNeg 1) 0) (Int32.toNatClampNeg 2) 0) (Int32.toNatClampNeg 3) 0) (Int32.toNatClampNeg 4) 0) (Int32.toNatClampNeg 5) 0) (Int32.toNatClampNeg 6) 0) (Int32.toNatClampNeg 7) 0)) 55 (upd (upd (upd (upd (upd (upd (upd (upd (upd (F 55) (Int32.toNatClampNeg 0) 0) (Int32.toNatClampNeg 1) 0) (Int32.toNatClampNeg 2) 0) (Int32.toNatClampNeg 3) 0) (Int32.toNatClampNeg 4) 0) (Int32.toNatClampNeg 5) 0) (Int32.toNatClampNeg 6) 0) (Int32.toNatClampNeg 7) 0) (Int32.toNatClampNeg 8) 0)) 55 (upd (upd (upd (upd (upd (upd (upd (upd (upd (upd (F 55) (Int32.toNatClampNeg 0) 0) (Int32.toNatClampNeg 1) 0) (Int32.toNatClampNeg 2) 0) (Int32.toNatClampNeg 3) 0) (Int32.toNatClampNeg 4) 0) (Int32.toNatClampNeg 5) 0) (Int32.toNatClampNeg 6) 0) (Int32.toNatClampNeg 7) 0) (Int32.toNatClampNeg 8) 0) (Int32.toNatClampNeg 9) 0)) 55 (upd (upd (upd (upd (upd (upd (upd (upd (upd (upd (upd (F 55) (Int32.toNatClampNeg 0) 0) (Int32.toNatClampNeg 1) 0) (Int32.toNatClampNeg 2) 0) (Int32.toNatClampNeg 3) 0) (Int32.toNatClampNeg 4) 0) (Int32.toNatClampNeg 5) 0) (Int32.toNatClampNeg 6) 0) (Int32.toNatClampNeg 7) 0) (Int32.toNatClampNeg 8) 0) (Int32.toNatClampNeg 9) 0) (Int32.toNatClampNeg 10) 0)) 55 (upd (upd (upd (upd (upd (upd (upd (upd (upd (upd (upd (upd (F 55) (Int32.toNatClampNeg 0) 0) (Int32.toNatClampNeg 1) 0) (Int32.toNatClampNeg 2) 0) (Int32.toNatClampNeg 3) 0) (Int32.toNatClampNeg 4) 0) (Int32.toNatClampNeg 5) 0) (Int32.toNatClampNeg 6) 0) (Int32.toNatClampNeg 7) 0) (Int32.toNatClampNeg 8) 0) (Int32.toNatClampNeg 9) 0) (Int32.toNatClampNeg 10) 0) (Int32.toNatClampNeg 11) 0)) 55 (upd (upd (upd (upd (upd (upd (upd (upd (upd (upd (upd (upd (upd (F 55) (Int32.toNatClampNeg 0) 0) (Int32.toNatClampNeg 1) 0) (Int32.toNatClampNeg 2) 0) (Int32.toNatClampNeg 3) 0) (Int32.toNatClampNeg 4) 0) (Int32.toNatClampNeg 5) 0) (Int32.toNatClampNeg 6) 0) (Int32.toNatClampNeg 7) 0) (Int32.toNatClampNeg 8) 0) (Int32.toNatClampNeg 9) 0) (Int32.toNatClampNeg 10) 0) (Int32.toNatClampNeg 11) 0) (Int32.toNatClampNeg 12) 0)) 55 (upd (upd (upd (upd (upd (upd (upd (upd (upd (upd (upd (upd (upd (upd (F 55) (Int32.toNatClampNeg 0) 0) (Int32.toNatClampNeg 1) 0) (Int32.toNatClampNeg 2) 0) (Int32.toNatClampNeg 3) 0) (Int32.toNatClampNeg 4) 0) (Int32.toNatClampNeg 5) 0) (Int32.toNatClampNeg 6) 0) (Int32.toNatClampNeg 7) 0) (Int32.toNatClampNeg 8) 0) (Int32.toNatClampNeg 9) 0) (Int32.toNatClampNeg 10) 0) (Int32.toNatClampNeg 11) 0) (Int32.toNatClampNeg 12) 0) (Int32.toNatClampNeg 13) 0)) 55 (upd (upd (upd (upd (upd (upd (upd (upd (upd (upd (upd (upd (upd (upd (upd (F 55) (Int32.toNatClampNeg 0) 0) (Int32.toNatClampNeg 1) 0) (Int32.toNatClampNeg 2) 0) (Int32.toNatClampNeg 3) 0) (Int32.toNatClampNeg 4) 0) (Int32.toNatClampNeg 5) 0) (Int32.toNatClampNeg 6) 0) (Int32.toNatClampNeg 7) 0) (Int32.toNatClampNeg 8) 0) (Int32.toNatClampNeg 9) 0) (Int32.toNatClampNeg 10) 0) (Int32.toNatClampNeg 11) 0) (Int32.toNatClampNeg 12) 0) (Int32.toNatClampNeg 13) 0) (Int32.toNatClampNeg 14) 0)) G f_19 := hS_19q
                                          refine gz_iinc (v := 15) (lv' := [(2, .int 15), (0, .ref m), (1, .int x1)]) dX12_ways_54 rfl (by decide) (by decide) rfl ?_
                                          refine gz_goto (tgt := 41) dX12_ways_57 (by decide) ?_
                                          refine gz_iload_n dX12_ways_41 rfl rfl ?_
                                          refine gz_bipush (v := 18) dX12_ways_42 (by decide) ?_
                                          refine gz_icmp_ge (tgt := 60) dX12_ways_44 (by decide) (fun c_44_18 => ?_) (fun c_44_18 => ?_)
                                          · exact absurd c_44_18 (by decide)
                                          ·
                                            try simp only [mIn_0, lgc_lt, lgc_gt, lgc_le, lgc_ge, lgc_eq] at c_44_18
                                            try simp only [fl_lt, fl_le, fl_eq, fL_w, fL_lt, fL_le, tm1, tm10k, tm9, tm99, Int32.reduceToInt, Int64.reduceToInt, Int.not_lt, Int.not_le] at c_44_18
                                            refine gz_aload_n dX12_ways_47 rfl rfl ?_
                                            refine mg_158 hS_19 dX12_ways_48 ?_
                                            refine gz_iload_n dX12_ways_51 rfl rfl ?_
                                            refine gz_iconst (v := 0) dX12_ways_52 (by decide) ?_
                                            refine m_iast 55 hS_19 rfl (N := 18) rfl (vin_T (v := 15) rfl (by decide) (by decide)) dX12_ways_53 (fun f_20 hS_20q => ?_)
                                            have hS_20 : mS cy m a f0 (va_up n 53 x1) z (va_up (va_up (va_up (va_up (va_up (va_up (va_up (va_up (va_up (va_up (va_up (va_up (va_up (va_up (va_up (va_up (va_up (va_up (va_up F 54 (upd (F 54) (Int32.toNatClampNeg 0) 1)) 54 (upd (upd (F 54) (Int32.toNatClampNeg 0) 1) (Int32.toNatClampNeg 1) 1)) 54 (upd (upd (upd (F 54) (Int32.toNatClampNeg 0) 1) (Int32.toNatClampNeg 1) 1) (Int32.toNatClampNeg 2) 1)) 55 (upd (F 55) (Int32.toNatClampNeg 0) 0)) 55 (upd (upd (F 55) (Int32.toNatClampNeg 0) 0) (Int32.toNatClampNeg 1) 0)) 55 (upd (upd (upd (F 55) (Int32.toNatClampNeg 0) 0) (Int32.toNatClampNeg 1) 0) (Int32.toNatClampNeg 2) 0)) 55 (upd (upd (upd (upd (F 55) (Int32.toNatClampNeg 0) 0) (Int32.toNatClampNeg 1) 0) (Int32.toNatClampNeg 2) 0) (Int32.toNatClampNeg 3) 0)) 55 (upd (upd (upd (upd (upd (F 55) (Int32.toNatClampNeg 0) 0) (Int32.toNatClampNeg 1) 0) (Int32.toNatClampNeg 2) 0) (Int32.toNatClampNeg 3) 0) (Int32.toNatClampNeg 4) 0)) 55 (upd (upd (upd (upd (upd (upd (F 55) (Int32.toNatClampNeg 0) 0) (Int32.toNatClampNeg 1) 0) (Int32.toNatClampNeg 2) 0) (Int32.toNatClampNeg 3) 0) (Int32.toNatClampNeg 4) 0) (Int32.toNatClampNeg 5) 0)) 55 (upd (upd (upd (upd (upd (upd (upd (F 55) (Int32.toNatClampNeg 0) 0) (Int32.toNatClampNeg 1) 0) (Int32.toNatClampNeg 2) 0) (Int32.toNatClampNeg 3) 0) (Int32.toNatClampNeg 4) 0) (Int32.toNatClampNeg 5) 0) (Int32.toNatClampNeg 6) 0)) 55 (upd (upd (upd (upd (upd (upd (upd (upd (F 55) (Int32.toNatClampNeg 0) 0) (Int32.toNatClampNeg 1) 0) (Int32.toNatClampNeg 2) 0) (Int32.toNatClampNeg 3) 0) (Int32.toNatClampNeg 4) 0) (Int32.toNatClampNeg 5) 0) (Int32.toNatClampNeg 6) 0) (Int32.toNatClampNeg 7) 0)) 55 (upd (upd (upd (upd (upd (upd (upd (upd (upd (F 55) (Int32.toNatClampNeg 0) 0) (Int32.toNatClampNeg 1) 0) (Int32.toNatClampNeg 2) 0) (Int32.toNatClampNeg 3) 0) (Int32.toNatClampNeg 4) 0) (Int32.toNatClampNeg 5) 0) (Int32.toNatClampNeg 6) 0) (Int32.toNatClampNeg 7) 0) (Int32.toNatClampNeg 8) 0)) 55 (upd (upd (upd (upd (upd (upd (upd (upd (upd (upd (F 55) (Int32.toNatClampNeg 0) 0) (Int32.toNatClampNeg 1) 0) (Int32.toNatClampNeg 2) 0) (Int32.toNatClampNeg 3) 0) (Int32.toNatClampNeg 4) 0) (Int32.toNatClampNeg 5) 0) (Int32.toNatClampNeg 6) 0) (Int32.toNatClampNeg 7) 0) (Int32.toNatClampNeg 8) 0) (Int32.toNatClampNeg 9) 0)) 55 (upd (upd (upd (upd (upd (upd (upd (upd (upd (upd (upd (F 55) (Int32.toNatClampNeg 0) 0) (Int32.toNatClampNeg 1) 0) (Int32.toNatClampNeg 2) 0) (Int32.toNatClampNeg 3) 0) (Int32.toNatClampNeg 4) 0) (Int32.toNatClampNeg 5) 0) (Int32.toNatClampNeg 6) 0) (Int32.toNatClampNeg 7) 0) (Int32.toNatClampNeg 8) 0) (Int32.toNatClampNeg 9) 0) (Int32.toNatClampNeg 10) 0)) 55 (upd (upd (upd (upd (upd (upd (upd (upd (upd (upd (upd (upd (F 55) (Int32.toNatClampNeg 0) 0) (Int32.toNatClampNeg 1) 0) (Int32.toNatClampNeg 2) 0) (Int32.toNatClampNeg 3) 0) (Int32.toNatClampNeg 4) 0) (Int32.toNatClampNeg 5) 0) (Int32.toNatClampNeg 6) 0) (Int32.toNatClampNeg 7) 0) (Int32.toNatClampNeg 8) 0) (Int32.toNatClampNeg 9) 0) (Int32.toNatClampNeg 10) 0) (Int32.toNatClampNeg 11) 0)) 55 (upd (upd (upd (upd (upd (upd (upd (upd (upd (upd (upd (upd (upd (F 55) (Int32.toNatClampNeg 0) 0) (Int32.toNatClampNeg 1) 0) (Int32.toNatClampNeg 2) 0) (Int32.toNatClampNeg 3) 0) (Int32.toNatClampNeg 4) 0) (Int32.toNatClampNeg 5) 0) (Int32.toNatClampNeg 6) 0) (Int32.toNatClampNeg 7) 0) (Int32.toNatClampNeg 8) 0) (Int32.toNatClampNeg 9) 0) (Int32.toNatClampNeg 10) 0) (Int32.toNatClampNeg 11) 0) (Int32.toNatClampNeg 12) 0)) 55 (upd (upd (upd (upd (upd (upd (upd (upd (upd (upd (upd (upd (upd (upd (F 55) (Int32.toNatClampNeg 0) 0) (Int32.toNatClampNeg 1) 0) (Int32.toNatClampNeg 2) 0) (Int32.toNatClampNeg 3) 0) (Int32.toNatClampNeg 4) 0) (Int32.toNatClampNeg 5) 0) (Int32.toNatClampNeg 6) 0) (Int32.toNatClampNeg 7) 0) (Int32.toNatClampNeg 8) 0) (Int32.toNatClampNeg 9) 0) (Int32.toNatClampNeg 10) 0) (Int32.toNatClampNeg 11) 0) (Int32.toNatClampNeg 12) 0) (Int32.toNatClampNeg 13) 0)) 55 (upd (upd (upd (upd (upd (upd (upd (upd (upd (upd (upd (upd (upd (upd (upd (F 55) (Int32.toNatClampNeg 0) 0) (Int32.toNatClampNeg 1) 0) (Int32.toNatClampNeg 2) 0) (Int32.toNatClampNeg 3) 0) (Int32.toNatClampNeg 4) 0) (Int32.toNatClampNeg 5) 0) (Int32.toNatClampNeg 6) 0) (Int32.toNatClampNeg 7) 0) (Int32.toNatClampNeg 8) 0) (Int32.toNatClampNeg 9) 0) (Int32.toNatClampNeg 10) 0) (Int32.toNatClampNeg 11) 0) (Int32.toNatClampNeg 12) 0) (Int32.toNatClampNeg 13) 0) (Int32.toNatClampNeg 14) 0)) 55 (upd (upd (upd (upd (upd (upd (upd (upd (upd (upd (upd (upd (upd (upd (upd (upd (F 55) (Int32.toNatClampNeg 0) 0) (Int32.toNatClampNeg 1) 0) (Int32.toNatClampNeg 2) 0) (Int32.toNatClampNeg 3) 0) (Int32.toNatClampNeg 4) 0) (Int32.toNatClampNeg 5) 0) (Int32.toNatClampNeg 6) 0) (Int32.toNatClampNeg 7) 0) (Int32.toNatClampNeg 8) 0) (Int32.toNatClampNeg 9) 0) (Int32.toNatClampNeg 10) 0) (Int32.toNatClampNeg 11) 0) (Int32.toNatClampNeg 12) 0) (Int32.toNatClampNeg 13) 0) (Int32.toNatClampNeg 14) 0) (Int32.toNatClampNeg 15) 0)) G f_20 := hS_20q
                                            refine gz_iinc (v := 16) (lv' := [(2, .int 16), (0, .ref m), (1, .int x1)]) dX12_ways_54 rfl (by decide) (by decide) rfl ?_
                                            refine gz_goto (tgt := 41) dX12_ways_57 (by decide) ?_
                                            refine gz_iload_n dX12_ways_41 rfl rfl ?_
                                            refine gz_bipush (v := 18) dX12_ways_42 (by decide) ?_
                                            refine gz_icmp_ge (tgt := 60) dX12_ways_44 (by decide) (fun c_44_19 => ?_) (fun c_44_19 => ?_)
                                            · exact absurd c_44_19 (by decide)
                                            ·
                                              try simp only [mIn_0, lgc_lt, lgc_gt, lgc_le, lgc_ge, lgc_eq] at c_44_19
                                              try simp only [fl_lt, fl_le, fl_eq, fL_w, fL_lt, fL_le, tm1, tm10k, tm9, tm99, Int32.reduceToInt, Int64.reduceToInt, Int.not_lt, Int.not_le] at c_44_19
                                              refine gz_aload_n dX12_ways_47 rfl rfl ?_
                                              refine mg_158 hS_20 dX12_ways_48 ?_
                                              refine gz_iload_n dX12_ways_51 rfl rfl ?_
                                              refine gz_iconst (v := 0) dX12_ways_52 (by decide) ?_
                                              refine m_iast 55 hS_20 rfl (N := 18) rfl (vin_T (v := 16) rfl (by decide) (by decide)) dX12_ways_53 (fun f_21 hS_21q => ?_)
                                              have hS_21 : mS cy m a f0 (va_up n 53 x1) z (va_up (va_up (va_up (va_up (va_up (va_up (va_up (va_up (va_up (va_up (va_up (va_up (va_up (va_up (va_up (va_up (va_up (va_up (va_up (va_up F 54 (upd (F 54) (Int32.toNatClampNeg 0) 1)) 54 (upd (upd (F 54) (Int32.toNatClampNeg 0) 1) (Int32.toNatClampNeg 1) 1)) 54 (upd (upd (upd (F 54) (Int32.toNatClampNeg 0) 1) (Int32.toNatClampNeg 1) 1) (Int32.toNatClampNeg 2) 1)) 55 (upd (F 55) (Int32.toNatClampNeg 0) 0)) 55 (upd (upd (F 55) (Int32.toNatClampNeg 0) 0) (Int32.toNatClampNeg 1) 0)) 55 (upd (upd (upd (F 55) (Int32.toNatClampNeg 0) 0) (Int32.toNatClampNeg 1) 0) (Int32.toNatClampNeg 2) 0)) 55 (upd (upd (upd (upd (F 55) (Int32.toNatClampNeg 0) 0) (Int32.toNatClampNeg 1) 0) (Int32.toNatClampNeg 2) 0) (Int32.toNatClampNeg 3) 0)) 55 (upd (upd (upd (upd (upd (F 55) (Int32.toNatClampNeg 0) 0) (Int32.toNatClampNeg 1) 0) (Int32.toNatClampNeg 2) 0) (Int32.toNatClampNeg 3) 0) (Int32.toNatClampNeg 4) 0)) 55 (upd (upd (upd (upd (upd (upd (F 55) (Int32.toNatClampNeg 0) 0) (Int32.toNatClampNeg 1) 0) (Int32.toNatClampNeg 2) 0) (Int32.toNatClampNeg 3) 0) (Int32.toNatClampNeg 4) 0) (Int32.toNatClampNeg 5) 0)) 55 (upd (upd (upd (upd (upd (upd (upd (F 55) (Int32.toNatClampNeg 0) 0) (Int32.toNatClampNeg 1) 0) (Int32.toNatClampNeg 2) 0) (Int32.toNatClampNeg 3) 0) (Int32.toNatClampNeg 4) 0) (Int32.toNatClampNeg 5) 0) (Int32.toNatClampNeg 6) 0)) 55 (upd (upd (upd (upd (upd (upd (upd (upd (F 55) (Int32.toNatClampNeg 0) 0) (Int32.toNatClampNeg 1) 0) (Int32.toNatClampNeg 2) 0) (Int32.toNatClampNeg 3) 0) (Int32.toNatClampNeg 4) 0) (Int32.toNatClampNeg 5) 0) (Int32.toNatClampNeg 6) 0) (Int32.toNatClampNeg 7) 0)) 55 (upd (upd (upd (upd (upd (upd (upd (upd (upd (F 55) (Int32.toNatClampNeg 0) 0) (Int32.toNatClampNeg 1) 0) (Int32.toNatClampNeg 2) 0) (Int32.toNatClampNeg 3) 0) (Int32.toNatClampNeg 4) 0) (Int32.toNatClampNeg 5) 0) (Int32.toNatClampNeg 6) 0) (Int32.toNatClampNeg 7) 0) (Int32.toNatClampNeg 8) 0)) 55 (upd (upd (upd (upd (upd (upd (upd (upd (upd (upd (F 55) (Int32.toNatClampNeg 0) 0) (Int32.toNatClampNeg 1) 0) (Int32.toNatClampNeg 2) 0) (Int32.toNatClampNeg 3) 0) (Int32.toNatClampNeg 4) 0) (Int32.toNatClampNeg 5) 0) (Int32.toNatClampNeg 6) 0) (Int32.toNatClampNeg 7) 0) (Int32.toNatClampNeg 8) 0) (Int32.toNatClampNeg 9) 0)) 55 (upd (upd (upd (upd (upd (upd (upd (upd (upd (upd (upd (F 55) (Int32.toNatClampNeg 0) 0) (Int32.toNatClampNeg 1) 0) (Int32.toNatClampNeg 2) 0) (Int32.toNatClampNeg 3) 0) (Int32.toNatClampNeg 4) 0) (Int32.toNatClampNeg 5) 0) (Int32.toNatClampNeg 6) 0) (Int32.toNatClampNeg 7) 0) (Int32.toNatClampNeg 8) 0) (Int32.toNatClampNeg 9) 0) (Int32.toNatClampNeg 10) 0)) 55 (upd (upd (upd (upd (upd (upd (upd (upd (upd (upd (upd (upd (F 55) (Int32.toNatClampNeg 0) 0) (Int32.toNatClampNeg 1) 0) (Int32.toNatClampNeg 2) 0) (Int32.toNatClampNeg 3) 0) (Int32.toNatClampNeg 4) 0) (Int32.toNatClampNeg 5) 0) (Int32.toNatClampNeg 6) 0) (Int32.toNatClampNeg 7) 0) (Int32.toNatClampNeg 8) 0) (Int32.toNatClampNeg 9) 0) (Int32.toNatClampNeg 10) 0) (Int32.toNatClampNeg 11) 0)) 55 (upd (upd (upd (upd (upd (upd (upd (upd (upd (upd (upd (upd (upd (F 55) (Int32.toNatClampNeg 0) 0) (Int32.toNatClampNeg 1) 0) (Int32.toNatClampNeg 2) 0) (Int32.toNatClampNeg 3) 0) (Int32.toNatClampNeg 4) 0) (Int32.toNatClampNeg 5) 0) (Int32.toNatClampNeg 6) 0) (Int32.toNatClampNeg 7) 0) (Int32.toNatClampNeg 8) 0) (Int32.toNatClampNeg 9) 0) (Int32.toNatClampNeg 10) 0) (Int32.toNatClampNeg 11) 0) (Int32.toNatClampNeg 12) 0)) 55 (upd (upd (upd (upd (upd (upd (upd (upd (upd (upd (upd (upd (upd (upd (F 55) (Int32.toNatClampNeg 0) 0) (Int32.toNatClampNeg 1) 0) (Int32.toNatClampNeg 2) 0) (Int32.toNatClampNeg 3) 0) (Int32.toNatClampNeg 4) 0) (Int32.toNatClampNeg 5) 0) (Int32.toNatClampNeg 6) 0) (Int32.toNatClampNeg 7) 0) (Int32.toNatClampNeg 8) 0) (Int32.toNatClampNeg 9) 0) (Int32.toNatClampNeg 10) 0) (Int32.toNatClampNeg 11) 0) (Int32.toNatClampNeg 12) 0) (Int32.toNatClampNeg 13) 0)) 55 (upd (upd (upd (upd (upd (upd (upd (upd (upd (upd (upd (upd (upd (upd (upd (F 55) (Int32.toNatClampNeg 0) 0) (Int32.toNatClampNeg 1) 0) (Int32.toNatClampNeg 2) 0) (Int32.toNatClampNeg 3) 0) (Int32.toNatClampNeg 4) 0) (Int32.toNatClampNeg 5) 0) (Int32.toNatClampNeg 6) 0) (Int32.toNatClampNeg 7) 0) (Int32.toNatClampNeg 8) 0) (Int32.toNatClampNeg 9) 0) (Int32.toNatClampNeg 10) 0) (Int32.toNatClampNeg 11) 0) (Int32.toNatClampNeg 12) 0) (Int32.toNatClampNeg 13) 0) (Int32.toNatClampNeg 14) 0)) 55 (upd (upd (upd (upd (upd (upd (upd (upd (upd (upd (upd (upd (upd (upd (upd (upd (F 55) (Int32.toNatClampNeg 0) 0) (Int32.toNatClampNeg 1) 0) (Int32.toNatClampNeg 2) 0) (Int32.toNatClampNeg 3) 0) (Int32.toNatClampNeg 4) 0) (Int32.toNatClampNeg 5) 0) (Int32.toNatClampNeg 6) 0) (Int32.toNatClampNeg 7) 0) (Int32.toNatClampNeg 8) 0) (Int32.toNatClampNeg 9) 0) (Int32.toNatClampNeg 10) 0) (Int32.toNatClampNeg 11) 0) (Int32.toNatClampNeg 12) 0) (Int32.toNatClampNeg 13) 0) (Int32.toNatClampNeg 14) 0) (Int32.toNatClampNeg 15) 0)) 55 (upd (upd (upd (upd (upd (upd (upd (upd (upd (upd (upd (upd (upd (upd (upd (upd (upd (F 55) (Int32.toNatClampNeg 0) 0) (Int32.toNatClampNeg 1) 0) (Int32.toNatClampNeg 2) 0) (Int32.toNatClampNeg 3) 0) (Int32.toNatClampNeg 4) 0) (Int32.toNatClampNeg 5) 0) (Int32.toNatClampNeg 6) 0) (Int32.toNatClampNeg 7) 0) (Int32.toNatClampNeg 8) 0) (Int32.toNatClampNeg 9) 0) (Int32.toNatClampNeg 10) 0) (Int32.toNatClampNeg 11) 0) (Int32.toNatClampNeg 12) 0) (Int32.toNatClampNeg 13) 0) (Int32.toNatClampNeg 14) 0) (Int32.toNatClampNeg 15) 0) (Int32.toNatClampNeg 16) 0)) G f_21 := hS_21q
                                              refine gz_iinc (v := 17) (lv' := [(2, .int 17), (0, .ref m), (1, .int x1)]) dX12_ways_54 rfl (by decide) (by decide) rfl ?_
                                              refine gz_goto (tgt := 41) dX12_ways_57 (by decide) ?_
                                              refine gz_iload_n dX12_ways_41 rfl rfl ?_
                                              refine gz_bipush (v := 18) dX12_ways_42 (by decide) ?_
                                              refine gz_icmp_ge (tgt := 60) dX12_ways_44 (by decide) (fun c_44_20 => ?_) (fun c_44_20 => ?_)
                                              · exact absurd c_44_20 (by decide)
                                              ·
                                                try simp only [mIn_0, lgc_lt, lgc_gt, lgc_le, lgc_ge, lgc_eq] at c_44_20
                                                try simp only [fl_lt, fl_le, fl_eq, fL_w, fL_lt, fL_le, tm1, tm10k, tm9, tm99, Int32.reduceToInt, Int64.reduceToInt, Int.not_lt, Int.not_le] at c_44_20
                                                refine gz_aload_n dX12_ways_47 rfl rfl ?_
                                                refine mg_158 hS_21 dX12_ways_48 ?_
                                                refine gz_iload_n dX12_ways_51 rfl rfl ?_
                                                refine gz_iconst (v := 0) dX12_ways_52 (by decide) ?_
                                                refine m_iast 55 hS_21 rfl (N := 18) rfl (vin_T (v := 17) rfl (by decide) (by decide)) dX12_ways_53 (fun f_22 hS_22q => ?_)
                                                have hS_22 : mS cy m a f0 (va_up n 53 x1) z (va_up (va_up (va_up (va_up (va_up (va_up (va_up (va_up (va_up (va_up (va_up (va_up (va_up (va_up (va_up (va_up (va_up (va_up (va_up (va_up (va_up F 54 (upd (F 54) (Int32.toNatClampNeg 0) 1)) 54 (upd (upd (F 54) (Int32.toNatClampNeg 0) 1) (Int32.toNatClampNeg 1) 1)) 54 (upd (upd (upd (F 54) (Int32.toNatClampNeg 0) 1) (Int32.toNatClampNeg 1) 1) (Int32.toNatClampNeg 2) 1)) 55 (upd (F 55) (Int32.toNatClampNeg 0) 0)) 55 (upd (upd (F 55) (Int32.toNatClampNeg 0) 0) (Int32.toNatClampNeg 1) 0)) 55 (upd (upd (upd (F 55) (Int32.toNatClampNeg 0) 0) (Int32.toNatClampNeg 1) 0) (Int32.toNatClampNeg 2) 0)) 55 (upd (upd (upd (upd (F 55) (Int32.toNatClampNeg 0) 0) (Int32.toNatClampNeg 1) 0) (Int32.toNatClampNeg 2) 0) (Int32.toNatClampNeg 3) 0)) 55 (upd (upd (upd (upd (upd (F 55) (Int32.toNatClampNeg 0) 0) (Int32.toNatClampNeg 1) 0) (Int32.toNatClampNeg 2) 0) (Int32.toNatClampNeg 3) 0) (Int32.toNatClampNeg 4) 0)) 55 (upd (upd (upd (upd (upd (upd (F 55) (Int32.toNatClampNeg 0) 0) (Int32.toNatClampNeg 1) 0) (Int32.toNatClampNeg 2) 0) (Int32.toNatClampNeg 3) 0) (Int32.toNatClampNeg 4) 0) (Int32.toNatClampNeg 5) 0)) 55 (upd (upd (upd (upd (upd (upd (upd (F 55) (Int32.toNatClampNeg 0) 0) (Int32.toNatClampNeg 1) 0) (Int32.toNatClampNeg 2) 0) (Int32.toNatClampNeg 3) 0) (Int32.toNatClampNeg 4) 0) (Int32.toNatClampNeg 5) 0) (Int32.toNatClampNeg 6) 0)) 55 (upd (upd (upd (upd (upd (upd (upd (upd (F 55) (Int32.toNatClampNeg 0) 0) (Int32.toNatClampNeg 1) 0) (Int32.toNatClampNeg 2) 0) (Int32.toNatClampNeg 3) 0) (Int32.toNatClampNeg 4) 0) (Int32.toNatClampNeg 5) 0) (Int32.toNatClampNeg 6) 0) (Int32.toNatClampNeg 7) 0)) 55 (upd (upd (upd (upd (upd (upd (upd (upd (upd (F 55) (Int32.toNatClampNeg 0) 0) (Int32.toNatClampNeg 1) 0) (Int32.toNatClampNeg 2) 0) (Int32.toNatClampNeg 3) 0) (Int32.toNatClampNeg 4) 0) (Int32.toNatClampNeg 5) 0) (Int32.toNatClampNeg 6) 0) (Int32.toNatClampNeg 7) 0) (Int32.toNatClampNeg 8) 0)) 55 (upd (upd (upd (upd (upd (upd (upd (upd (upd (upd (F 55) (Int32.toNatClampNeg 0) 0) (Int32.toNatClampNeg 1) 0) (Int32.toNatClampNeg 2) 0) (Int32.toNatClampNeg 3) 0) (Int32.toNatClampNeg 4) 0) (Int32.toNatClampNeg 5) 0) (Int32.toNatClampNeg 6) 0) (Int32.toNatClampNeg 7) 0) (Int32.toNatClampNeg 8) 0) (Int32.toNatClampNeg 9) 0)) 55 (upd (upd (upd (upd (upd (upd (upd (upd (upd (upd (upd (F 55) (Int32.toNatClampNeg 0) 0) (Int32.toNatClampNeg 1) 0) (Int32.toNatClampNeg 2) 0) (Int32.toNatClampNeg 3) 0) (Int32.toNatClampNeg 4) 0) (Int32.toNatClampNeg 5) 0) (Int32.toNatClampNeg 6) 0) (Int32.toNatClampNeg 7) 0) (Int32.toNatClampNeg 8) 0) (Int32.toNatClampNeg 9) 0) (Int32.toNatClampNeg 10) 0)) 55 (upd (upd (upd (upd (upd (upd (upd (upd (upd (upd (upd (upd (F 55) (Int32.toNatClampNeg 0) 0) (Int32.toNatClampNeg 1) 0) (Int32.toNatClampNeg 2) 0) (Int32.toNatClampNeg 3) 0) (Int32.toNatClampNeg 4) 0) (Int32.toNatClampNeg 5) 0) (Int32.toNatClampNeg 6) 0) (Int32.toNatClampNeg 7) 0) (Int32.toNatClampNeg 8) 0) (Int32.toNatClampNeg 9) 0) (Int32.toNatClampNeg 10) 0) (Int32.toNatClampNeg 11) 0)) 55 (upd (upd (upd (upd (upd (upd (upd (upd (upd (upd (upd (upd (upd (F 55) (Int32.toNatClampNeg 0) 0) (Int32.toNatClampNeg 1) 0) (Int32.toNatClampNeg 2) 0) (Int32.toNatClampNeg 3) 0) (Int32.toNatClampNeg 4) 0) (Int32.toNatClampNeg 5) 0) (Int32.toNatClampNeg 6) 0) (Int32.toNatClampNeg 7) 0) (Int32.toNatClampNeg 8) 0) (Int32.toNatClampNeg 9) 0) (Int32.toNatClampNeg 10) 0) (Int32.toNatClampNeg 11) 0) (Int32.toNatClampNeg 12) 0)) 55 (upd (upd (upd (upd (upd (upd (upd (upd (upd (upd (upd (upd (upd (upd (F 55) (Int32.toNatClampNeg 0) 0) (Int32.toNatClampNeg 1) 0) (Int32.toNatClampNeg 2) 0) (Int32.toNatClampNeg 3) 0) (Int32.toNatClampNeg 4) 0) (Int32.toNatClampNeg 5) 0) (Int32.toNatClampNeg 6) 0) (Int32.toNatClampNeg 7) 0) (Int32.toNatClampNeg 8) 0) (Int32.toNatClampNeg 9) 0) (Int32.toNatClampNeg 10) 0) (Int32.toNatClampNeg 11) 0) (Int32.toNatClampNeg 12) 0) (Int32.toNatClampNeg 13) 0)) 55 (upd (upd (upd (upd (upd (upd (upd (upd (upd (upd (upd (upd (upd (upd (upd (F 55) (Int32.toNatClampNeg 0) 0) (Int32.toNatClampNeg 1) 0) (Int32.toNatClampNeg 2) 0) (Int32.toNatClampNeg 3) 0) (Int32.toNatClampNeg 4) 0) (Int32.toNatClampNeg 5) 0) (Int32.toNatClampNeg 6) 0) (Int32.toNatClampNeg 7) 0) (Int32.toNatClampNeg 8) 0) (Int32.toNatClampNeg 9) 0) (Int32.toNatClampNeg 10) 0) (Int32.toNatClampNeg 11) 0) (Int32.toNatClampNeg 12) 0) (Int32.toNatClampNeg 13) 0) (Int32.toNatClampNeg 14) 0)) 55 (upd (upd (upd (upd (upd (upd (upd (upd (upd (upd (upd (upd (upd (upd (upd (upd (F 55) (Int32.toNatClampNeg 0) 0) (Int32.toNatClampNeg 1) 0) (Int32.toNatClampNeg 2) 0) (Int32.toNatClampNeg 3) 0) (Int32.toNatClampNeg 4) 0) (Int32.toNatClampNeg 5) 0) (Int32.toNatClampNeg 6) 0) (Int32.toNatClampNeg 7) 0) (Int32.toNatClampNeg 8) 0) (Int32.toNatClampNeg 9) 0) (Int32.toNatClampNeg 10) 0) (Int32.toNatClampNeg 11) 0) (Int32.toNatClampNeg 12) 0) (Int32.toNatClampNeg 13) 0) (Int32.toNatClampNeg 14) 0) (Int32.toNatClampNeg 15) 0)) 55 (upd (upd (upd (upd (upd (upd (upd (upd (upd (upd (upd (upd (upd (upd (upd (upd (upd (F 55) (Int32.toNatClampNeg 0) 0) (Int32.toNatClampNeg 1) 0) (Int32.toNatClampNeg 2) 0) (Int32.toNatClampNeg 3) 0) (Int32.toNatClampNeg 4) 0) (Int32.toNatClampNeg 5) 0) (Int32.toNatClampNeg 6) 0) (Int32.toNatClampNeg 7) 0) (Int32.toNatClampNeg 8) 0) (Int32.toNatClampNeg 9) 0) (Int32.toNatClampNeg 10) 0) (Int32.toNatClampNeg 11) 0) (Int32.toNatClampNeg 12) 0) (Int32.toNatClampNeg 13) 0) (Int32.toNatClampNeg 14) 0) (Int32.toNatClampNeg 15) 0) (Int32.toNatClampNeg 16) 0)) 55 (upd (upd (upd (upd (upd (upd (upd (upd (upd (upd (upd (upd (upd (upd (upd (upd (upd (upd (F 55) (Int32.toNatClampNeg 0) 0) (Int32.toNatClampNeg 1) 0) (Int32.toNatClampNeg 2) 0) (Int32.toNatClampNeg 3) 0) (Int32.toNatClampNeg 4) 0) (Int32.toNatClampNeg 5) 0) (Int32.toNatClampNeg 6) 0) (Int32.toNatClampNeg 7) 0) (Int32.toNatClampNeg 8) 0) (Int32.toNatClampNeg 9) 0) (Int32.toNatClampNeg 10) 0) (Int32.toNatClampNeg 11) 0) (Int32.toNatClampNeg 12) 0) (Int32.toNatClampNeg 13) 0) (Int32.toNatClampNeg 14) 0) (Int32.toNatClampNeg 15) 0) (Int32.toNatClampNeg 16) 0) (Int32.toNatClampNeg 17) 0)) G f_22 := hS_22q
                                                refine gz_iinc (v := 18) (lv' := [(2, .int 18), (0, .ref m), (1, .int x1)]) dX12_ways_54 rfl (by decide) (by decide) rfl ?_
                                                refine gz_goto (tgt := 41) dX12_ways_57 (by decide) ?_
                                                refine gz_iload_n dX12_ways_41 rfl rfl ?_
                                                refine gz_bipush (v := 18) dX12_ways_42 (by decide) ?_
                                                refine gz_icmp_ge (tgt := 60) dX12_ways_44 (by decide) (fun c_44_21 => ?_) (fun c_44_21 => ?_)
                                                ·
                                                  try simp only [mIn_0, lgc_lt, lgc_gt, lgc_le, lgc_ge, lgc_eq] at c_44_21
                                                  try simp only [fl_lt, fl_le, fl_eq, fL_w, fL_lt, fL_le, tm1, tm10k, tm9, tm99, Int32.reduceToInt, Int64.reduceToInt, Int.not_lt, Int.not_le] at c_44_21
                                                  refine gz_iconst (v := 1) dX12_ways_60 (by decide) ?_
                                                  have hxx : fx [53] [] [54, 55] [] n z F G (va_up n 53 x1) z (va_up (va_up (va_up (va_up (va_up (va_up (va_up (va_up (va_up (va_up (va_up (va_up (va_up (va_up (va_up (va_up (va_up (va_up (va_up (va_up (va_up F 54 (upd (F 54) (Int32.toNatClampNeg 0) 1)) 54 (upd (upd (F 54) (Int32.toNatClampNeg 0) 1) (Int32.toNatClampNeg 1) 1)) 54 (upd (upd (upd (F 54) (Int32.toNatClampNeg 0) 1) (Int32.toNatClampNeg 1) 1) (Int32.toNatClampNeg 2) 1)) 55 (upd (F 55) (Int32.toNatClampNeg 0) 0)) 55 (upd (upd (F 55) (Int32.toNatClampNeg 0) 0) (Int32.toNatClampNeg 1) 0)) 55 (upd (upd (upd (F 55) (Int32.toNatClampNeg 0) 0) (Int32.toNatClampNeg 1) 0) (Int32.toNatClampNeg 2) 0)) 55 (upd (upd (upd (upd (F 55) (Int32.toNatClampNeg 0) 0) (Int32.toNatClampNeg 1) 0) (Int32.toNatClampNeg 2) 0) (Int32.toNatClampNeg 3) 0)) 55 (upd (upd (upd (upd (upd (F 55) (Int32.toNatClampNeg 0) 0) (Int32.toNatClampNeg 1) 0) (Int32.toNatClampNeg 2) 0) (Int32.toNatClampNeg 3) 0) (Int32.toNatClampNeg 4) 0)) 55 (upd (upd (upd (upd (upd (upd (F 55) (Int32.toNatClampNeg 0) 0) (Int32.toNatClampNeg 1) 0) (Int32.toNatClampNeg 2) 0) (Int32.toNatClampNeg 3) 0) (Int32.toNatClampNeg 4) 0) (Int32.toNatClampNeg 5) 0)) 55 (upd (upd (upd (upd (upd (upd (upd (F 55) (Int32.toNatClampNeg 0) 0) (Int32.toNatClampNeg 1) 0) (Int32.toNatClampNeg 2) 0) (Int32.toNatClampNeg 3) 0) (Int32.toNatClampNeg 4) 0) (Int32.toNatClampNeg 5) 0) (Int32.toNatClampNeg 6) 0)) 55 (upd (upd (upd (upd (upd (upd (upd (upd (F 55) (Int32.toNatClampNeg 0) 0) (Int32.toNatClampNeg 1) 0) (Int32.toNatClampNeg 2) 0) (Int32.toNatClampNeg 3) 0) (Int32.toNatClampNeg 4) 0) (Int32.toNatClampNeg 5) 0) (Int32.toNatClampNeg 6) 0) (Int32.toNatClampNeg 7) 0)) 55 (upd (upd (upd (upd (upd (upd (upd (upd (upd (F 55) (Int32.toNatClampNeg 0) 0) (Int32.toNatClampNeg 1) 0) (Int32.toNatClampNeg 2) 0) (Int32.toNatClampNeg 3) 0) (Int32.toNatClampNeg 4) 0) (Int32.toNatClampNeg 5) 0) (Int32.toNatClampNeg 6) 0) (Int32.toNatClampNeg 7) 0) (Int32.toNatClampNeg 8) 0)) 55 (upd (upd (upd (upd (upd (upd (upd (upd (upd (upd (F 55) (Int32.toNatClampNeg 0) 0) (Int32.toNatClampNeg 1) 0) (Int32.toNatClampNeg 2) 0) (Int32.toNatClampNeg 3) 0) (Int32.toNatClampNeg 4) 0) (Int32.toNatClampNeg 5) 0) (Int32.toNatClampNeg 6) 0) (Int32.toNatClampNeg 7) 0) (Int32.toNatClampNeg 8) 0) (Int32.toNatClampNeg 9) 0)) 55 (upd (upd (upd (upd (upd (upd (upd (upd (upd (upd (upd (F 55) (Int32.toNatClampNeg 0) 0) (Int32.toNatClampNeg 1) 0) (Int32.toNatClampNeg 2) 0) (Int32.toNatClampNeg 3) 0) (Int32.toNatClampNeg 4) 0) (Int32.toNatClampNeg 5) 0) (Int32.toNatClampNeg 6) 0) (Int32.toNatClampNeg 7) 0) (Int32.toNatClampNeg 8) 0) (Int32.toNatClampNeg 9) 0) (Int32.toNatClampNeg 10) 0)) 55 (upd (upd (upd (upd (upd (upd (upd (upd (upd (upd (upd (upd (F 55) (Int32.toNatClampNeg 0) 0) (Int32.toNatClampNeg 1) 0) (Int32.toNatClampNeg 2) 0) (Int32.toNatClampNeg 3) 0) (Int32.toNatClampNeg 4) 0) (Int32.toNatClampNeg 5) 0) (Int32.toNatClampNeg 6) 0) (Int32.toNatClampNeg 7) 0) (Int32.toNatClampNeg 8) 0) (Int32.toNatClampNeg 9) 0) (Int32.toNatClampNeg 10) 0) (Int32.toNatClampNeg 11) 0)) 55 (upd (upd (upd (upd (upd (upd (upd (upd (upd (upd (upd (upd (upd (F 55) (Int32.toNatClampNeg 0) 0) (Int32.toNatClampNeg 1) 0) (Int32.toNatClampNeg 2) 0) (Int32.toNatClampNeg 3) 0) (Int32.toNatClampNeg 4) 0) (Int32.toNatClampNeg 5) 0) (Int32.toNatClampNeg 6) 0) (Int32.toNatClampNeg 7) 0) (Int32.toNatClampNeg 8) 0) (Int32.toNatClampNeg 9) 0) (Int32.toNatClampNeg 10) 0) (Int32.toNatClampNeg 11) 0) (Int32.toNatClampNeg 12) 0)) 55 (upd (upd (upd (upd (upd (upd (upd (upd (upd (upd (upd (upd (upd (upd (F 55) (Int32.toNatClampNeg 0) 0) (Int32.toNatClampNeg 1) 0) (Int32.toNatClampNeg 2) 0) (Int32.toNatClampNeg 3) 0) (Int32.toNatClampNeg 4) 0) (Int32.toNatClampNeg 5) 0) (Int32.toNatClampNeg 6) 0) (Int32.toNatClampNeg 7) 0) (Int32.toNatClampNeg 8) 0) (Int32.toNatClampNeg 9) 0) (Int32.toNatClampNeg 10) 0) (Int32.toNatClampNeg 11) 0) (Int32.toNatClampNeg 12) 0) (Int32.toNatClampNeg 13) 0)) 55 (upd (upd (upd (upd (upd (upd (upd (upd (upd (upd (upd (upd (upd (upd (upd (F 55) (Int32.toNatClampNeg 0) 0) (Int32.toNatClampNeg 1) 0) (Int32.toNatClampNeg 2) 0) (Int32.toNatClampNeg 3) 0) (Int32.toNatClampNeg 4) 0) (Int32.toNatClampNeg 5) 0) (Int32.toNatClampNeg 6) 0) (Int32.toNatClampNeg 7) 0) (Int32.toNatClampNeg 8) 0) (Int32.toNatClampNeg 9) 0) (Int32.toNatClampNeg 10) 0) (Int32.toNatClampNeg 11) 0) (Int32.toNatClampNeg 12) 0) (Int32.toNatClampNeg 13) 0) (Int32.toNatClampNeg 14) 0)) 55 (upd (upd (upd (upd (upd (upd (upd (upd (upd (upd (upd (upd (upd (upd (upd (upd (F 55) (Int32.toNatClampNeg 0) 0) (Int32.toNatClampNeg 1) 0) (Int32.toNatClampNeg 2) 0) (Int32.toNatClampNeg 3) 0) (Int32.toNatClampNeg 4) 0) (Int32.toNatClampNeg 5) 0) (Int32.toNatClampNeg 6) 0) (Int32.toNatClampNeg 7) 0) (Int32.toNatClampNeg 8) 0) (Int32.toNatClampNeg 9) 0) (Int32.toNatClampNeg 10) 0) (Int32.toNatClampNeg 11) 0) (Int32.toNatClampNeg 12) 0) (Int32.toNatClampNeg 13) 0) (Int32.toNatClampNeg 14) 0) (Int32.toNatClampNeg 15) 0)) 55 (upd (upd (upd (upd (upd (upd (upd (upd (upd (upd (upd (upd (upd (upd (upd (upd (upd (F 55) (Int32.toNatClampNeg 0) 0) (Int32.toNatClampNeg 1) 0) (Int32.toNatClampNeg 2) 0) (Int32.toNatClampNeg 3) 0) (Int32.toNatClampNeg 4) 0) (Int32.toNatClampNeg 5) 0) (Int32.toNatClampNeg 6) 0) (Int32.toNatClampNeg 7) 0) (Int32.toNatClampNeg 8) 0) (Int32.toNatClampNeg 9) 0) (Int32.toNatClampNeg 10) 0) (Int32.toNatClampNeg 11) 0) (Int32.toNatClampNeg 12) 0) (Int32.toNatClampNeg 13) 0) (Int32.toNatClampNeg 14) 0) (Int32.toNatClampNeg 15) 0) (Int32.toNatClampNeg 16) 0)) 55 (upd (upd (upd (upd (upd (upd (upd (upd (upd (upd (upd (upd (upd (upd (upd (upd (upd (upd (F 55) (Int32.toNatClampNeg 0) 0) (Int32.toNatClampNeg 1) 0) (Int32.toNatClampNeg 2) 0) (Int32.toNatClampNeg 3) 0) (Int32.toNatClampNeg 4) 0) (Int32.toNatClampNeg 5) 0) (Int32.toNatClampNeg 6) 0) (Int32.toNatClampNeg 7) 0) (Int32.toNatClampNeg 8) 0) (Int32.toNatClampNeg 9) 0) (Int32.toNatClampNeg 10) 0) (Int32.toNatClampNeg 11) 0) (Int32.toNatClampNeg 12) 0) (Int32.toNatClampNeg 13) 0) (Int32.toNatClampNeg 14) 0) (Int32.toNatClampNeg 15) 0) (Int32.toNatClampNeg 16) 0) (Int32.toNatClampNeg 17) 0)) G := (fx_F (fx_F (fx_F (fx_F (fx_F (fx_F (fx_F (fx_F (fx_F (fx_F (fx_F (fx_F (fx_F (fx_F (fx_F (fx_F (fx_F (fx_F (fx_F (fx_F (fx_F (fx_n fx_rf (by decide)) (by decide)) (by decide)) (by decide)) (by decide)) (by decide)) (by decide)) (by decide)) (by decide)) (by decide)) (by decide)) (by decide)) (by decide)) (by decide)) (by decide)) (by decide)) (by decide)) (by decide)) (by decide)) (by decide)) (by decide)) (by decide))
                                                  exact gz_zret rfl (by first | decide | exact nrb (by assumption) | exact nrb (Or.inl rfl) | exact nrb (Or.inr rfl)) dX12_ways_61 (Nat.le_of_ble_eq_true rfl) (Nat.le_of_ble_eq_true rfl) (⟨_, rfl, _, _, _, _, hS_22, hxx, (by rw [if_pos (by omega)]), RI_cg (fun k hk => hxx.2.2.1 k (fun q => absurd hk (by revert k; decide))) hR rfl rfl rfl a0 a4 (by show 1 ≤ x1.toInt ∧ x1.toInt ≤ 3; omega) a47 a88⟩)
                                                · exact absurd c_44_21 (by decide)
          · exact absurd c_23_3 (by decide)
  ·
    try simp only [mIn_0, lgc_lt, lgc_gt, lgc_le, lgc_ge, lgc_eq] at c_9
    try simp only [fl_lt, fl_le, fl_eq, fL_w, fL_lt, fL_le, tm1, tm10k, tm9, tm99, Int32.reduceToInt, Int64.reduceToInt, Int.not_lt, Int.not_le] at c_9
    refine gz_iconst (v := 0) dX12_ways_12 (by decide) ?_
    have hxx : fx [53] [] [54, 55] [] n z F G n z F G := fx_rf
    exact gz_zret rfl (by first | decide | exact nrb (by assumption) | exact nrb (Or.inl rfl) | exact nrb (Or.inr rfl)) dX12_ways_13 (Nat.le_of_ble_eq_true rfl) (Nat.le_of_ble_eq_true rfl) (⟨_, rfl, _, _, _, _, hS, hxx, by rw [if_neg (by omega)], hR⟩)
