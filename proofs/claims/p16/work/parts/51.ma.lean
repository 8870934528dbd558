set_option maxHeartbeats 4000000 in
set_option maxRecDepth 100000 in
theorem k_X12_in {l : Launch} {D : va_G} {cy : Nat → ClassId} {b : Nat} {f : gMem} {x y w : Int64}   : gC l D cy b yX12_in cX12_in 6 (some .boolean) 0 0 0 [.long x, .long y, .long w] f (pI fun v f2 => v = mIn x y w ∧ f2 = f) := by
  refine gC_of (by decide) (Nat.le_of_ble_eq_true rfl) ?_
  show gG l _ _ _ D cy b cX12_in 6 _ RX12 "in" 0 0 f 0 [(0, .long x), (2, .long y), (4, .long w)] []
  refine gz_lload_n dX12_in_0 rfl rfl ?_
  refine gz_lload_n dX12_in_1 rfl rfl ?_
  refine gz_lcmp dX12_in_2 ?_
  refine gz_if_lt (tgt := 17) dX12_in_3 (by decide) (fun c_3 => ?_) (fun c_3 => ?_)
  ·
    refine gz_iconst (v := 0) dX12_in_17 (by decide) ?_
    exact gz_zret rfl (by first | decide | exact nrb (Or.inl rfl) | (refine nrb ?_; (repeat' split) <;> first | assumption | exact Or.inl rfl | exact Or.inr rfl)) dX12_in_18 (Nat.le_of_ble_eq_true rfl) (Nat.le_of_ble_eq_true rfl) (⟨_, rfl, by simp only [lgc_lt, lgc_gt] at c_3; simp [mIn, c_3], rfl⟩)
  ·
    refine gz_lload_n dX12_in_6 rfl rfl ?_
    refine gz_lload dX12_in_7 rfl ?_
    refine gz_lcmp dX12_in_9 ?_
    refine gz_if_gt (tgt := 17) dX12_in_10 (by decide) (fun c_10 => ?_) (fun c_10 => ?_)
    ·
      refine gz_iconst (v := 0) dX12_in_17 (by decide) ?_
      exact gz_zret rfl (by first | decide | exact nrb (Or.inl rfl) | (refine nrb ?_; (repeat' split) <;> first | assumption | exact Or.inl rfl | exact Or.inr rfl)) dX12_in_18 (Nat.le_of_ble_eq_true rfl) (Nat.le_of_ble_eq_true rfl) (⟨_, rfl, by simp only [lgc_lt, lgc_gt] at c_3 c_10; simp [mIn, c_3, c_10], rfl⟩)
    ·
      refine gz_iconst (v := 1) dX12_in_13 (by decide) ?_
      refine gz_goto (tgt := 18) dX12_in_14 (by decide) ?_
      exact gz_zret rfl (by first | decide | exact nrb (Or.inl rfl) | (refine nrb ?_; (repeat' split) <;> first | assumption | exact Or.inl rfl | exact Or.inr rfl)) dX12_in_18 (Nat.le_of_ble_eq_true rfl) (Nat.le_of_ble_eq_true rfl) (⟨_, rfl, by simp only [lgc_lt, lgc_gt] at c_3 c_10; simp [mIn, c_3, c_10], rfl⟩)

set_option maxHeartbeats 4000000 in
set_option maxRecDepth 100000 in
theorem k_X12_see {l : Launch} {D : va_G} {cy : Nat → ClassId} {b : Nat} {f : gMem} {m : Nat} {a : Nat → Nat} {f0 : gMem} {n : Nat → Int32} {z : Nat → Int64} {F : Nat → Nat → Int32} {G : Nat → Nat → Int64}  {x y u : Int32} (hS : mS cy m a f0 n z F G f) (hn : 0 ≤ (n 0).toInt ∧ (n 0).toInt ≤ 399) : gC l D cy b yX12_see cX12_see 4 (some .boolean) 1 0 0 [.ref m, .int x, .int y, .int u] f (pI fun r f2 => ∃ (n2 : Nat → Int32) (z2 : Nat → Int64) (F2 : Nat → Nat → Int32) (G2 : Nat → Nat → Int64), mS cy m a f0 n2 z2 F2 G2 f2 ∧ fx [] [] [2] [] n z F G n2 z2 F2 G2 ∧ r = (if (0 ≤ x.toInt ∧ x.toInt ≤ 5) ∧ (0 ≤ y.toInt ∧ y.toInt ≤ (n 0).toInt) ∧ (-9999 ≤ u.toInt ∧ u.toInt ≤ 9999) then 1 else 0)) := by
  refine gC_of (by decide) (Nat.le_of_ble_eq_true rfl) ?_
  show gG l _ _ _ D cy b cX12_see 4 _ RX12 "see" 0 0 f 0 [(0, .ref m), (1, .int x), (2, .int y), (3, .int u)] []
  refine gz_iload_n dX12_see_0 rfl rfl ?_
  refine gz_i2l dX12_see_1 ?_
  refine gz_lconst (v := 0) dX12_see_2 (by decide) ?_
  refine gz_ldc2 (v := (5)) wd_778 dX12_see_3 ?_
  refine scX12_245 (k_X12_in (x := x.toInt64) (y := 0) (w := (5))) ⟨(Nat.le_of_ble_eq_true rfl), (Nat.le_of_ble_eq_true rfl)⟩ ⟨(Nat.le_of_ble_eq_true rfl), (Nat.le_of_ble_eq_true rfl)⟩ rfl rfl (Nat.le_of_ble_eq_true rfl) dX12_see_6 ?_
  intro v9 f9 z9; rw [z9.1, z9.2]
  refine gz_if_eq (tgt := 40) dX12_see_9 (by decide) (fun c_9 => ?_) (fun c_9 => ?_)
  ·
    try simp only [mIn_0, lgc_lt, lgc_gt, lgc_le, lgc_ge, lgc_eq] at c_9
    try simp only [fl_lt, fl_le, fl_eq, fL_w, fL_lt, fL_le, tm1, tm10k, tm9, tm99, Int32.reduceToInt, Int64.reduceToInt, Int.not_lt, Int.not_le] at c_9
    refine gz_iconst (v := 0) dX12_see_40 (by decide) ?_
    exact gz_zret rfl (by first | decide | exact nrb (by assumption) | exact nrb (Or.inl rfl) | exact nrb (Or.inr rfl)) dX12_see_41 (Nat.le_of_ble_eq_true rfl) (Nat.le_of_ble_eq_true rfl) (⟨_, rfl, _, _, _, _, hS, fx_rf, by rw [if_neg (by omega)]⟩)
  ·
    try simp only [mIn_0, lgc_lt, lgc_gt, lgc_le, lgc_ge, lgc_eq] at c_9
    try simp only [fl_lt, fl_le, fl_eq, fL_w, fL_lt, fL_le, tm1, tm10k, tm9, tm99, Int32.reduceToInt, Int64.reduceToInt, Int.not_lt, Int.not_le] at c_9
    refine gz_iload_n dX12_see_12 rfl rfl ?_
    refine gz_i2l dX12_see_13 ?_
    refine gz_lconst (v := 0) dX12_see_14 (by decide) ?_
    refine gz_aload_n dX12_see_15 rfl rfl ?_
    refine mg_249 hS dX12_see_16 ?_
    refine gz_i2l dX12_see_19 ?_
    refine scX12_245 (k_X12_in (x := y.toInt64) (y := 0) (w := (n 0).toInt64)) ⟨(Nat.le_of_ble_eq_true rfl), (Nat.le_of_ble_eq_true rfl)⟩ ⟨(Nat.le_of_ble_eq_true rfl), (Nat.le_of_ble_eq_true rfl)⟩ rfl rfl (Nat.le_of_ble_eq_true rfl) dX12_see_20 ?_
    intro v9 f9 z9; rw [z9.1, z9.2]
    refine gz_if_eq (tgt := 40) dX12_see_23 (by decide) (fun c_23 => ?_) (fun c_23 => ?_)
    ·
      try simp only [mIn_0, lgc_lt, lgc_gt, lgc_le, lgc_ge, lgc_eq] at c_23
      try simp only [fl_lt, fl_le, fl_eq, fL_w, fL_lt, fL_le, tm1, tm10k, tm9, tm99, Int32.reduceToInt, Int64.reduceToInt, Int.not_lt, Int.not_le] at c_23
      refine gz_iconst (v := 0) dX12_see_40 (by decide) ?_
      exact gz_zret rfl (by first | decide | exact nrb (by assumption) | exact nrb (Or.inl rfl) | exact nrb (Or.inr rfl)) dX12_see_41 (Nat.le_of_ble_eq_true rfl) (Nat.le_of_ble_eq_true rfl) (⟨_, rfl, _, _, _, _, hS, fx_rf, by rw [if_neg (by omega)]⟩)
    ·
      try simp only [mIn_0, lgc_lt, lgc_gt, lgc_le, lgc_ge, lgc_eq] at c_23
      try simp only [fl_lt, fl_le, fl_eq, fL_w, fL_lt, fL_le, tm1, tm10k, tm9, tm99, Int32.reduceToInt, Int64.reduceToInt, Int.not_lt, Int.not_le] at c_23
      refine gz_iload_n dX12_see_26 rfl rfl ?_
      refine gz_i2l dX12_see_27 ?_
      refine gz_ldc2 (v := (-9999)) wd_784 dX12_see_28 ?_
      refine gz_ldc2 (v := (9999)) wd_785 dX12_see_31 ?_
      refine scX12_245 (k_X12_in (x := u.toInt64) (y := (-9999)) (w := (9999))) ⟨(Nat.le_of_ble_eq_true rfl), (Nat.le_of_ble_eq_true rfl)⟩ ⟨(Nat.le_of_ble_eq_true rfl), (Nat.le_of_ble_eq_true rfl)⟩ rfl rfl (Nat.le_of_ble_eq_true rfl) dX12_see_34 ?_
      intro v9 f9 z9; rw [z9.1, z9.2]
      refine gz_if_ne (tgt := 42) dX12_see_37 (by decide) (fun c_37 => ?_) (fun c_37 => ?_)
      ·
        try simp only [mIn_0, lgc_lt, lgc_gt, lgc_le, lgc_ge, lgc_eq] at c_37
        try simp only [fl_lt, fl_le, fl_eq, fL_w, fL_lt, fL_le, tm1, tm10k, tm9, tm99, Int32.reduceToInt, Int64.reduceToInt, Int.not_lt, Int.not_le] at c_37
        refine gz_aload_n dX12_see_42 rfl rfl ?_
        refine mg_7 hS dX12_see_43 ?_
        refine gz_sipush (v := 400) dX12_see_46 (by decide) ?_
        refine gz_iload_n dX12_see_49 rfl rfl ?_
        refine gz_imul dX12_see_50 ?_
        refine gz_iload_n dX12_see_51 rfl rfl ?_
        refine gz_iadd dX12_see_52 ?_
        refine gz_iload_n dX12_see_53 rfl rfl ?_
        refine m_iast 2 hS rfl (N := 2400) rfl ((by exact vin_T (idx1 (t := x) (x := y) (by omega) (by omega)) (by omega) (by omega))) dX12_see_54 (fun f_1 hS_1q => ?_)
        have hS_1 : mS cy m a f0 n z (va_up F 2 (upd (F 2) (Int32.toNatClampNeg ((400 * x) + y)) u)) G f_1 := hS_1q
        refine gz_iconst (v := 1) dX12_see_55 (by decide) ?_
        exact gz_zret rfl (by first | decide | exact nrb (by assumption) | exact nrb (Or.inl rfl) | exact nrb (Or.inr rfl)) dX12_see_56 (Nat.le_of_ble_eq_true rfl) (Nat.le_of_ble_eq_true rfl) (⟨_, rfl, _, _, _, _, hS_1, (fx_F fx_rf (by decide)), by rw [if_pos (by omega)]⟩)
      ·
        try simp only [mIn_0, lgc_lt, lgc_gt, lgc_le, lgc_ge, lgc_eq] at c_37
        try simp only [fl_lt, fl_le, fl_eq, fL_w, fL_lt, fL_le, tm1, tm10k, tm9, tm99, Int32.reduceToInt, Int64.reduceToInt, Int.not_lt, Int.not_le] at c_37
        refine gz_iconst (v := 0) dX12_see_40 (by decide) ?_
        exact gz_zret rfl (by first | decide | exact nrb (by assumption) | exact nrb (Or.inl rfl) | exact nrb (Or.inr rfl)) dX12_see_41 (Nat.le_of_ble_eq_true rfl) (Nat.le_of_ble_eq_true rfl) (⟨_, rfl, _, _, _, _, hS, fx_rf, by rw [if_neg (by omega)]⟩)

set_option maxHeartbeats 4000000 in
set_option maxRecDepth 100000 in
theorem l_X12_thingOn {l : Launch} {D : va_G} {cy : Nat → ClassId} {b : Nat} {m : Nat} {a : Nat → Nat} {f0 : gMem} {n0 : Nat → Int32} {z0 : Nat → Int64} {F0 : Nat → Nat → Int32} {G0 : Nat → Nat → Int64}  {x y : Int32} {f : gMem} (ht : 0 ≤ x.toInt ∧ x.toInt ≤ 5) (hd : 0 ≤ y.toInt ∧ y.toInt ≤ 399) : ∀ (k : Nat) (i : Int32) (n : Nat → Int32) (z : Nat → Int64) (F : Nat → Nat → Int32) (G : Nat → Nat → Int64) (fm : gMem), mS cy m a f0 n z F G fm → fx [] [] [] [] n0 z0 F0 G0 n z F G → (-1 ≤ i.toInt ∧ i.toInt ≤ 399 ∧ i.toInt + 2 ≤ (k : Int)) → (fm = f) → gG l (gRm 0 0 0) (gQf D b (pI fun r f2 => True ∧ f2 = f) 0 0) gTt D cy b cX12_thingOn 4 (some .int) RX12 "thingOn" 0 0 fm 2 [(3, .int i), (0, .ref m), (1, .int x), (2, .int y)] [] := by
  intro k
  induction k with
  | zero =>
    intro i n z F G fm hS hx hk hf
    exfalso; omega
  | succ k ih =>
    intro i n z F G fm hS hx hk hf
    refine gz_iload_n dX12_thingOn_2 rfl rfl ?_
    refine gz_if_lt (tgt := 43) dX12_thingOn_3 (by decide) (fun c_3 => ?_) (fun c_3 => ?_)
    ·
      try simp only [mIn_0, lgc_lt, lgc_gt, lgc_le, lgc_ge, lgc_eq] at c_3
      try simp only [fl_lt, fl_le, fl_eq, fL_w, fL_lt, fL_le, tm1, tm10k, tm9, tm99, Int32.reduceToInt, Int64.reduceToInt, Int.not_lt, Int.not_le] at c_3
      refine gz_iconst (v := 0) dX12_thingOn_43 (by decide) ?_
      exact gz_iret rfl dX12_thingOn_44 (Nat.le_of_ble_eq_true rfl) (Nat.le_of_ble_eq_true rfl) (⟨_, rfl, trivial, hf⟩)
    ·
      try simp only [mIn_0, lgc_lt, lgc_gt, lgc_le, lgc_ge, lgc_eq] at c_3
      try simp only [fl_lt, fl_le, fl_eq, fL_w, fL_lt, fL_le, tm1, tm10k, tm9, tm99, Int32.reduceToInt, Int64.reduceToInt, Int.not_lt, Int.not_le] at c_3
      refine gz_aload_n dX12_thingOn_6 rfl rfl ?_
      refine mg_7 hS dX12_thingOn_7 ?_
      refine gz_sipush (v := 400) dX12_thingOn_10 (by decide) ?_
      refine gz_iload_n dX12_thingOn_13 rfl rfl ?_
      refine gz_imul dX12_thingOn_14 ?_
      refine gz_iload_n dX12_thingOn_15 rfl rfl ?_
      refine gz_iadd dX12_thingOn_16 ?_
      refine m_iald 2 hS rfl (N := 2400) rfl ((by exact vin_T (idx1 (t := x) (x := i) (by omega) (by omega)) (by omega) (by omega))) dX12_thingOn_17 ?_
      refine gz_sipush (v := (-10000)) dX12_thingOn_18 (by decide) ?_
      refine gz_icmp_le (tgt := 37) dX12_thingOn_21 (by decide) (fun c_21 => ?_) (fun c_21 => ?_)
      ·
        try simp only [mIn_0, lgc_lt, lgc_gt, lgc_le, lgc_ge, lgc_eq] at c_21
        try simp only [fl_lt, fl_le, fl_eq, fL_w, fL_lt, fL_le, tm1, tm10k, tm9, tm99, Int32.reduceToInt, Int64.reduceToInt, Int.not_lt, Int.not_le] at c_21
        refine gz_iinc (v := (i + (-1))) (lv' := [(3, .int (i + (-1))), (0, .ref m), (1, .int x), (2, .int y)]) dX12_thingOn_37 rfl (congrArg (fun z => i + z) oi_m1) (by decide) rfl ?_
        refine gz_goto (tgt := 2) dX12_thingOn_40 (by decide) ?_
        refine gz_sub (lv' := [(3, .int (i + (-1))), (0, .ref m), (1, .int x), (2, .int y)]) (by simp [List.lookup]) ?_
        have hx2 : (i + (-1)).toInt = i.toInt - 1 := T_dec (by omega) (by omega)
        generalize i + (-1) = i2 at hx2 ⊢
        exact ih i2 _ _ _ _ _ hS hx (by omega) (hf)
      ·
        try simp only [mIn_0, lgc_lt, lgc_gt, lgc_le, lgc_ge, lgc_eq] at c_21
        try simp only [fl_lt, fl_le, fl_eq, fL_w, fL_lt, fL_le, tm1, tm10k, tm9, tm99, Int32.reduceToInt, Int64.reduceToInt, Int.not_lt, Int.not_le] at c_21
        refine gz_aload_n dX12_thingOn_24 rfl rfl ?_
        refine mg_7 hS dX12_thingOn_25 ?_
        refine gz_sipush (v := 400) dX12_thingOn_28 (by decide) ?_
        refine gz_iload_n dX12_thingOn_31 rfl rfl ?_
        refine gz_imul dX12_thingOn_32 ?_
        refine gz_iload_n dX12_thingOn_33 rfl rfl ?_
        refine gz_iadd dX12_thingOn_34 ?_
        refine m_iald 2 hS rfl (N := 2400) rfl ((by exact vin_T (idx1 (t := x) (x := i) (by omega) (by omega)) (by omega) (by omega))) dX12_thingOn_35 ?_
        exact gz_iret rfl dX12_thingOn_36 (Nat.le_of_ble_eq_true rfl) (Nat.le_of_ble_eq_true rfl) (⟨_, rfl, trivial, hf⟩)

set_option maxHeartbeats 4000000 in
set_option maxRecDepth 100000 in
theorem k_X12_thingOn {l : Launch} {D : va_G} {cy : Nat → ClassId} {b : Nat} {f : gMem} {m : Nat} {a : Nat → Nat} {f0 : gMem} {n : Nat → Int32} {z : Nat → Int64} {F : Nat → Nat → Int32} {G : Nat → Nat → Int64}  {x y : Int32} (hS : mS cy m a f0 n z F G f) (ht : 0 ≤ x.toInt ∧ x.toInt ≤ 5) (hd : 0 ≤ y.toInt ∧ y.toInt ≤ 399) : gC l D cy b yX12_thingOn cX12_thingOn 4 (some .int) 0 0 0 [.ref m, .int x, .int y] f (pI fun r f2 => True ∧ f2 = f) := by
  refine gC_of (by decide) (Nat.le_of_ble_eq_true rfl) ?_
  show gG l _ _ _ D cy b cX12_thingOn 4 _ RX12 "thingOn" 0 0 f 0 [(0, .ref m), (1, .int x), (2, .int y)] []
  refine gz_iload_n dX12_thingOn_0 rfl rfl ?_
  refine gz_istore_n (lv' := [(3, .int y), (0, .ref m), (1, .int x), (2, .int y)]) dX12_thingOn_1 rfl (by decide) rfl ?_
  refine gz_sub (lv' := [(3, .int y), (0, .ref m), (1, .int x), (2, .int y)]) (by simp [List.lookup]) ?_
  exact l_X12_thingOn ht hd 402 y _ _ _ _ _ hS fx_rf (by omega) (rfl)

set_option maxHeartbeats 4000000 in
set_option maxRecDepth 100000 in
theorem k_X12_seen {l : Launch} {D : va_G} {cy : Nat → ClassId} {b : Nat} {f : gMem} {m : Nat} {a : Nat → Nat} {f0 : gMem} {n : Nat → Int32} {z : Nat → Int64} {F : Nat → Nat → Int32} {G : Nat → Nat → Int64}  {x y : Int32} (hS : mS cy m a f0 n z F G f)  : gC l D cy b yX12_seen cX12_seen 3 (some .int) 1 0 0 [.ref m, .int x, .int y] f (pI fun r f2 => True ∧ f2 = f) := by
  refine gC_of (by decide) (Nat.le_of_ble_eq_true rfl) ?_
  show gG l _ _ _ D cy b cX12_seen 3 _ RX12 "seen" 0 0 f 0 [(0, .ref m), (1, .int x), (2, .int y)] []
  refine gz_iload_n dX12_seen_0 rfl rfl ?_
  refine gz_i2l dX12_seen_1 ?_
  refine gz_lconst (v := 0) dX12_seen_2 (by decide) ?_
  refine gz_ldc2 (v := (5)) wd_778 dX12_seen_3 ?_
  refine scX12_245 (k_X12_in (x := x.toInt64) (y := 0) (w := (5))) ⟨(Nat.le_of_ble_eq_true rfl), (Nat.le_of_ble_eq_true rfl)⟩ ⟨(Nat.le_of_ble_eq_true rfl), (Nat.le_of_ble_eq_true rfl)⟩ rfl rfl (Nat.le_of_ble_eq_true rfl) dX12_seen_6 ?_
  intro v9 f9 z9; rw [z9.1, z9.2]
  refine gz_if_eq (tgt := 33) dX12_seen_9 (by decide) (fun c_9 => ?_) (fun c_9 => ?_)
  ·
    try simp only [mIn_0, lgc_lt, lgc_gt, lgc_le, lgc_ge, lgc_eq] at c_9
    try simp only [fl_lt, fl_le, fl_eq, fL_w, fL_lt, fL_le, tm1, tm10k, tm9, tm99, Int32.reduceToInt, Int64.reduceToInt, Int.not_lt, Int.not_le] at c_9
    refine gz_sipush (v := (-10000)) dX12_seen_33 (by decide) ?_
    exact gz_iret rfl dX12_seen_36 (Nat.le_of_ble_eq_true rfl) (Nat.le_of_ble_eq_true rfl) (⟨_, rfl, trivial, rfl⟩)
  ·
    try simp only [mIn_0, lgc_lt, lgc_gt, lgc_le, lgc_ge, lgc_eq] at c_9
    try simp only [fl_lt, fl_le, fl_eq, fL_w, fL_lt, fL_le, tm1, tm10k, tm9, tm99, Int32.reduceToInt, Int64.reduceToInt, Int.not_lt, Int.not_le] at c_9
    refine gz_iload_n dX12_seen_12 rfl rfl ?_
    refine gz_i2l dX12_seen_13 ?_
    refine gz_lconst (v := 0) dX12_seen_14 (by decide) ?_
    refine gz_ldc2 (v := (399)) wd_786 dX12_seen_15 ?_
    refine scX12_245 (k_X12_in (x := y.toInt64) (y := 0) (w := (399))) ⟨(Nat.le_of_ble_eq_true rfl), (Nat.le_of_ble_eq_true rfl)⟩ ⟨(Nat.le_of_ble_eq_true rfl), (Nat.le_of_ble_eq_true rfl)⟩ rfl rfl (Nat.le_of_ble_eq_true rfl) dX12_seen_18 ?_
    intro v9 f9 z9; rw [z9.1, z9.2]
    refine gz_if_eq (tgt := 33) dX12_seen_21 (by decide) (fun c_21 => ?_) (fun c_21 => ?_)
    ·
      try simp only [mIn_0, lgc_lt, lgc_gt, lgc_le, lgc_ge, lgc_eq] at c_21
      try simp only [fl_lt, fl_le, fl_eq, fL_w, fL_lt, fL_le, tm1, tm10k, tm9, tm99, Int32.reduceToInt, Int64.reduceToInt, Int.not_lt, Int.not_le] at c_21
      refine gz_sipush (v := (-10000)) dX12_seen_33 (by decide) ?_
      exact gz_iret rfl dX12_seen_36 (Nat.le_of_ble_eq_true rfl) (Nat.le_of_ble_eq_true rfl) (⟨_, rfl, trivial, rfl⟩)
    ·
      try simp only [mIn_0, lgc_lt, lgc_gt, lgc_le, lgc_ge, lgc_eq] at c_21
      try simp only [fl_lt, fl_le, fl_eq, fL_w, fL_lt, fL_le, tm1, tm10k, tm9, tm99, Int32.reduceToInt, Int64.reduceToInt, Int.not_lt, Int.not_le] at c_21
      refine gz_aload_n dX12_seen_24 rfl rfl ?_
      refine gz_iload_n dX12_seen_25 rfl rfl ?_
      refine gz_iload_n dX12_seen_26 rfl rfl ?_
      refine scX12_258 (k_X12_thingOn (x := x) (y := y) hS (by omega) (by omega)) hS.1 ⟨(Nat.le_of_ble_eq_true rfl), (Nat.le_of_ble_eq_true rfl)⟩ ⟨(Nat.le_of_ble_eq_true rfl), (Nat.le_of_ble_eq_true rfl)⟩ rfl rfl (Nat.le_of_ble_eq_true rfl) dX12_seen_27 ?_
      rintro r_1 f9 ⟨-, y9⟩; rw [y9]
      refine gz_goto (tgt := 36) dX12_seen_30 (by decide) ?_
      exact gz_iret rfl dX12_seen_36 (Nat.le_of_ble_eq_true rfl) (Nat.le_of_ble_eq_true rfl) (⟨_, rfl, trivial, rfl⟩)
