theorem oi_m8 : Int32.ofInt (-8) = (-8) := by decide
theorem T_dec8 {i : Int32} (h : -2147483640 ≤ i.toInt) : (i + (-8)).toInt = i.toInt - 8 := by
  have e1 : (8 : Int32).toInt = 8 := rfl
  have b1 := i32_hi i
  have hx := T_sub (rfl : i.toInt = i.toInt) e1 (by omega)
  rw [← hx, Int32.sub_eq_add_neg]
/-- a text of few bytes -/
def smallW (w : Int64) : Prop := ∀ j : Int32, (j = 48 ∨ j = 40 ∨ j = 32 ∨ j = 24) → w >>> (j.toInt64 &&& 63) = 0
theorem small_day : smallW 6578553 := by intro j h; rcases h with rfl | rfl | rfl | rfl <;> decide
theorem small_s {x : Int32} (h : 48 ≤ x.toInt ∧ x.toInt ≤ 53) : smallW (29440 ||| x.toInt64) := by
  have c : x = 48 ∨ x = 49 ∨ x = 50 ∨ x = 51 ∨ x = 52 ∨ x = 53 := by
    have d : x.toInt = 48 ∨ x.toInt = 49 ∨ x.toInt = 50 ∨ x.toInt = 51 ∨ x.toInt = 52 ∨ x.toInt = 53 := by omega
    rcases d with d | d | d | d | d | d
    · exact Or.inl (Int32.toInt_inj.mp (d.trans rfl))
    · exact Or.inr (Or.inl (Int32.toInt_inj.mp (d.trans rfl)))
    · exact Or.inr (Or.inr (Or.inl (Int32.toInt_inj.mp (d.trans rfl))))
    · exact Or.inr (Or.inr (Or.inr (Or.inl (Int32.toInt_inj.mp (d.trans rfl)))))
    · exact Or.inr (Or.inr (Or.inr (Or.inr (Or.inl (Int32.toInt_inj.mp (d.trans rfl))))))
    · exact Or.inr (Or.inr (Or.inr (Or.inr (Or.inr (Int32.toInt_inj.mp (d.trans rfl))))))
  intro j hj
  rcases c with rfl | rfl | rfl | rfl | rfl | rfl <;> rcases hj with rfl | rfl | rfl | rfl <;> decide

set_option maxHeartbeats 4000000 in
set_option maxRecDepth 100000 in
theorem k_X12_signs {l : Launch} {D : va_G} {cy : Nat → ClassId} {b : Nat} {f : gMem} {m : Nat} {a : Nat → Nat} {f0 : gMem} {n : Nat → Int32} {z : Nat → Int64} {F : Nat → Nat → Int32} {G : Nat → Nat → Int64}  {x1 : Int32} (hS : mS cy m a f0 n z F G f) (h8 : 0 ≤ (n 88).toInt ∧ (n 88).toInt < 1000) : gC l D cy b yX12_signs cX12_signs 2 none 0 0 0 [.ref m, .int x1] f (pV fun f2 => ∃ (n2 : Nat → Int32) (z2 : Nat → Int64) (F2 : Nat → Nat → Int32) (G2 : Nat → Nat → Int64), mS cy m a f0 n2 z2 F2 G2 f2 ∧ fx [88, 89] [] [87] [] n z F G n2 z2 F2 G2 ∧ (n2 88).toInt = (n 88).toInt + 1) := by
  refine gC_of (by decide) (Nat.le_of_ble_eq_true rfl) ?_
  show gG l _ _ _ D cy b cX12_signs 2 _ RX12 "signs" 0 0 f 0 [(0, .ref m), (1, .int x1)] []
  refine gz_aload_n dX12_signs_0 rfl rfl ?_
  refine mg_240 hS dX12_signs_1 ?_
  refine gz_aload_n dX12_signs_4 rfl rfl ?_
  refine mg_541 hS dX12_signs_5 ?_
  refine gz_iload_n dX12_signs_8 rfl rfl ?_
  refine gz_i2b dX12_signs_9 ?_
  refine m_bast 87 hS rfl (N := 1000) rfl ((by exact vin_T (rfl : ((n 88)).toInt = ((n 88)).toInt) (by omega) (by omega))) dX12_signs_10 (fun f_1 hS_1q => ?_)
  have hS_1 : mS cy m a f0 n z (va_up F 87 (upd (F 87) (Int32.toNatClampNeg (n 88)) (vp_nar .byte x1.toInt8.toInt32))) G f_1 := hS_1q
  refine gz_aload_n dX12_signs_11 rfl rfl ?_
  refine gz_dup dX12_signs_12 rfl ?_
  refine mg_541 hS_1 dX12_signs_13 ?_
  refine gz_ev (w := .int (n 88)) rfl ?_
  refine gz_iconst (v := 1) dX12_signs_16 (by decide) ?_
  refine gz_iadd dX12_signs_17 ?_
  refine mp_541 hS_1 dX12_signs_18 (fun f_2 hS_2 => ?_)
  refine gz_aload_n dX12_signs_21 rfl rfl ?_
  refine gz_iconst (v := 0) dX12_signs_22 (by decide) ?_
  refine mp_544 hS_2 ⟨rfl, rfl⟩ dX12_signs_23 (fun f_3 hS_3 => ?_)
  exact gz_vret rfl dX12_signs_26 (Nat.le_of_ble_eq_true rfl) (Nat.le_of_ble_eq_true rfl) (⟨rfl, _, _, _, _, hS_3, (fx_n (fx_n (fx_F fx_rf (by decide)) (by decide)) (by decide)), (by (try rw [(show (va_up (va_up n 88 ((n 88) + 1)) 89 0) 88 = ((n 88) + 1) from rfl)]); have q1_ := (T_add (rfl : ((n 88)).toInt = ((n 88)).toInt) (show (1 : Int32).toInt = 1 from rfl) (by omega)); omega)⟩)

set_option maxHeartbeats 4000000 in
set_option maxRecDepth 100000 in
theorem l_X12_spells {l : Launch} {D : va_G} {cy : Nat → ClassId} {b : Nat} {m : Nat} {a : Nat → Nat} {f0 : gMem} {n0 : Nat → Int32} {z0 : Nat → Int64} {F0 : Nat → Nat → Int32} {G0 : Nat → Nat → Int64}  {y : Int64} {B : Int}  : ∀ (k : Nat) (i : Int32) (n : Nat → Int32) (z : Nat → Int64) (F : Nat → Nat → Int32) (G : Nat → Nat → Int64) (fm : gMem), mS cy m a f0 n z F G fm → fx [88, 89] [] [87] [] n0 z0 F0 G0 n z F G → ((n0 88).toInt ≤ (n 88).toInt ∧ 0 ≤ (n0 88).toInt) → (B ≤ (n0 88).toInt + 1 ∧ B + 7 ≤ 1000) → (8 * ((n 88).toInt - B) ≤ 48 - i.toInt) → (i.toInt + 16 = 8 * (k : Int) ∧ -8 ≤ i.toInt ∧ i.toInt ≤ 48) → gG l (gRm 1 0 0) (gQf D b (pV fun f2 => ∃ (n2 : Nat → Int32) (z2 : Nat → Int64) (F2 : Nat → Nat → Int32) (G2 : Nat → Nat → Int64), mS cy m a f0 n2 z2 F2 G2 f2 ∧ fx [88, 89] [] [87] [] n0 z0 F0 G0 n2 z2 F2 G2 ∧ (n0 88).toInt ≤ (n2 88).toInt ∧ (n2 88).toInt ≤ (n0 88).toInt + 8) 0 0) gTt D cy b cX12_spells 4 none RX12 "spells" 0 0 fm 16 [(3, .int i), (0, .ref m), (1, .long y)] [] := by
  intro k
  induction k with
  | zero =>
    intro i n z F G fm hS hx hm hB hi hk
    exfalso; omega
  | succ k ih =>
    intro i n z F G fm hS hx hm hB hi hk
    refine gz_iload_n dX12_spells_16 rfl rfl ?_
    refine gz_if_lt (tgt := 61) dX12_spells_17 (by decide) (fun c_17 => ?_) (fun c_17 => ?_)
    ·
      try simp only [mIn_0, lgc_lt, lgc_gt, lgc_le, lgc_ge, lgc_eq] at c_17
      try simp only [fl_lt, fl_le, fl_eq, fL_w, fL_lt, fL_le, tm1, tm10k, tm9, tm99, Int32.reduceToInt, Int64.reduceToInt, Int.not_lt, Int.not_le] at c_17
      refine gz_aload_n dX12_spells_61 rfl rfl ?_
      refine gz_iconst (v := 1) dX12_spells_62 (by decide) ?_
      refine mp_544 hS ⟨rfl, rfl⟩ dX12_spells_63 (fun f_1 hS_1 => ?_)
      exact gz_vret rfl dX12_spells_66 (Nat.le_of_ble_eq_true rfl) (Nat.le_of_ble_eq_true rfl) (⟨rfl, _, _, _, _, hS_1, (fx_n hx (by decide)), (by (try rw [(show (va_up n 89 1) 88 = (n 88) from rfl)]); omega), (by (try rw [(show (va_up n 89 1) 88 = (n 88) from rfl)]); omega)⟩)
    ·
      try simp only [mIn_0, lgc_lt, lgc_gt, lgc_le, lgc_ge, lgc_eq] at c_17
      try simp only [fl_lt, fl_le, fl_eq, fL_w, fL_lt, fL_le, tm1, tm10k, tm9, tm99, Int32.reduceToInt, Int64.reduceToInt, Int.not_lt, Int.not_le] at c_17
      refine gz_lload_n dX12_spells_20 rfl rfl ?_
      refine gz_iload_n dX12_spells_21 rfl rfl ?_
      refine gz_lshr dX12_spells_22 ?_
      refine gz_lconst (v := 0) dX12_spells_23 (by decide) ?_
      refine gz_lcmp dX12_spells_24 ?_
      refine gz_if_ne (tgt := 31) dX12_spells_25 (by decide) (fun c_25 => ?_) (fun c_25 => ?_)
      ·
        try simp only [mIn_0, lgc_lt, lgc_gt, lgc_le, lgc_ge, lgc_eq] at c_25
        try simp only [fl_lt, fl_le, fl_eq, fL_w, fL_lt, fL_le, tm1, tm10k, tm9, tm99, Int32.reduceToInt, Int64.reduceToInt, Int.not_lt, Int.not_le] at c_25
        refine gz_aload_n dX12_spells_31 rfl rfl ?_
        refine mg_240 hS dX12_spells_32 ?_
        refine gz_aload_n dX12_spells_35 rfl rfl ?_
        refine mg_541 hS dX12_spells_36 ?_
        refine gz_lload_n dX12_spells_39 rfl rfl ?_
        refine gz_iload_n dX12_spells_40 rfl rfl ?_
        refine gz_lshr dX12_spells_41 ?_
        refine gz_l2i dX12_spells_42 ?_
        refine gz_i2b dX12_spells_43 ?_
        refine m_bast 87 hS rfl (N := 1000) rfl ((by exact vin_T (rfl : ((n 88)).toInt = ((n 88)).toInt) (by omega) (by omega))) dX12_spells_44 (fun f_2 hS_2q => ?_)
        have hS_2 : mS cy m a f0 n z (va_up F 87 (upd (F 87) (Int32.toNatClampNeg (n 88)) (vp_nar .byte (((y >>> (i.toInt64 &&& 63)).toInt32).toInt8.toInt32)))) G f_2 := hS_2q
        refine gz_aload_n dX12_spells_45 rfl rfl ?_
        refine gz_dup dX12_spells_46 rfl ?_
        refine mg_541 hS_2 dX12_spells_47 ?_
        refine gz_ev (w := .int (n 88)) rfl ?_
        refine gz_iconst (v := 1) dX12_spells_50 (by decide) ?_
        refine gz_iadd dX12_spells_51 ?_
        refine mp_541 hS_2 dX12_spells_52 (fun f_3 hS_3 => ?_)
        refine gz_iinc (v := (i + (-8))) (lv' := [(3, .int (i + (-8))), (0, .ref m), (1, .long y)]) dX12_spells_55 rfl (congrArg (fun z => i + z) oi_m8) (by decide) rfl ?_
        refine gz_goto (tgt := 16) dX12_spells_58 (by decide) ?_
        refine gz_sub (lv' := [(3, .int (i + (-8))), (0, .ref m), (1, .long y)]) (by simp [List.lookup]) ?_
        have hdc : (i + (-8)).toInt = i.toInt - 8 := T_dec8 (by omega)
        generalize i + (-8) = i2 at hdc ⊢
        exact ih i2 _ _ _ _ _ hS_3 (fx_n (fx_F hx (by decide)) (by decide)) ((by (try rw [(show (va_up n 88 ((n 88) + 1)) 88 = ((n 88) + 1) from rfl)]); have q1_ := (T_add (rfl : ((n 88)).toInt = ((n 88)).toInt) (show (1 : Int32).toInt = 1 from rfl) (by omega)); omega)) (hB) ((by (try rw [(show (va_up n 88 ((n 88) + 1)) 88 = ((n 88) + 1) from rfl)]); have q1_ := (T_add (rfl : ((n 88)).toInt = ((n 88)).toInt) (show (1 : Int32).toInt = 1 from rfl) (by omega)); omega)) (by omega)
      ·
        try simp only [mIn_0, lgc_lt, lgc_gt, lgc_le, lgc_ge, lgc_eq] at c_25
        try simp only [fl_lt, fl_le, fl_eq, fL_w, fL_lt, fL_le, tm1, tm10k, tm9, tm99, Int32.reduceToInt, Int64.reduceToInt, Int.not_lt, Int.not_le] at c_25
        refine gz_goto (tgt := 55) dX12_spells_28 (by decide) ?_
        refine gz_iinc (v := (i + (-8))) (lv' := [(3, .int (i + (-8))), (0, .ref m), (1, .long y)]) dX12_spells_55 rfl (congrArg (fun z => i + z) oi_m8) (by decide) rfl ?_
        refine gz_goto (tgt := 16) dX12_spells_58 (by decide) ?_
        refine gz_sub (lv' := [(3, .int (i + (-8))), (0, .ref m), (1, .long y)]) (by simp [List.lookup]) ?_
        have hdc : (i + (-8)).toInt = i.toInt - 8 := T_dec8 (by omega)
        generalize i + (-8) = i2 at hdc ⊢
        exact ih i2 _ _ _ _ _ hS hx ((by omega)) (hB) ((by omega)) (by omega)

set_option maxHeartbeats 4000000 in
set_option maxRecDepth 100000 in
theorem k_X12_spells {l : Launch} {D : va_G} {cy : Nat → ClassId} {b : Nat} {f : gMem} {m : Nat} {a : Nat → Nat} {f0 : gMem} {n : Nat → Int32} {z : Nat → Int64} {F : Nat → Nat → Int32} {G : Nat → Nat → Int64}  {y : Int64} (hS : mS cy m a f0 n z F G f) (h8 : 0 ≤ (n 88).toInt ∧ (n 88).toInt + 8 ≤ 1000) : gC l D cy b yX12_spells cX12_spells 4 none 1 0 0 [.ref m, .long y] f (pV fun f2 => ∃ (n2 : Nat → Int32) (z2 : Nat → Int64) (F2 : Nat → Nat → Int32) (G2 : Nat → Nat → Int64), mS cy m a f0 n2 z2 F2 G2 f2 ∧ fx [88, 89] [] [87] [] n z F G n2 z2 F2 G2 ∧ (n 88).toInt ≤ (n2 88).toInt ∧ (n2 88).toInt ≤ (n 88).toInt + 8) := by
  refine gC_of (by decide) (Nat.le_of_ble_eq_true rfl) ?_
  show gG l _ _ _ D cy b cX12_spells 4 _ RX12 "spells" 0 0 f 0 [(0, .ref m), (1, .long y)] []
  refine gz_aload_n dX12_spells_0 rfl rfl ?_
  refine mg_544 hS dX12_spells_1 ?_
  refine gz_if_eq (tgt := 13) dX12_spells_4 (by decide) (fun c_4 => ?_) (fun c_4 => ?_)
  ·
    try simp only [mIn_0, lgc_lt, lgc_gt, lgc_le, lgc_ge, lgc_eq] at c_4
    try simp only [fl_lt, fl_le, fl_eq, fL_w, fL_lt, fL_le, tm1, tm10k, tm9, tm99, Int32.reduceToInt, Int64.reduceToInt, Int.not_lt, Int.not_le] at c_4
    refine gz_bipush (v := 48) dX12_spells_13 (by decide) ?_
    refine gz_istore_n (lv' := [(3, .int 48), (0, .ref m), (1, .long y)]) dX12_spells_15 rfl (by decide) rfl ?_
    refine gz_sub (lv' := [(3, .int 48), (0, .ref m), (1, .long y)]) (by simp [List.lookup]) ?_
    have e48 : (48 : Int32).toInt = 48 := rfl
    exact l_X12_spells (B := (n 88).toInt)  8 48 _ _ _ _ _ hS fx_rf (by omega) (by omega) (by omega) (by decide)
  ·
    try simp only [mIn_0, lgc_lt, lgc_gt, lgc_le, lgc_ge, lgc_eq] at c_4
    try simp only [fl_lt, fl_le, fl_eq, fL_w, fL_lt, fL_le, tm1, tm10k, tm9, tm99, Int32.reduceToInt, Int64.reduceToInt, Int.not_lt, Int.not_le] at c_4
    refine gz_aload_n dX12_spells_7 rfl rfl ?_
    refine gz_bipush (v := 32) dX12_spells_8 (by decide) ?_
    refine scX12_547 (k_X12_signs (x1 := 32) hS (by omega)) hS.1 ⟨(Nat.le_of_ble_eq_true rfl), (Nat.le_of_ble_eq_true rfl)⟩ ⟨(Nat.le_of_ble_eq_true rfl), (Nat.le_of_ble_eq_true rfl)⟩ rfl rfl (Nat.le_of_ble_eq_true rfl) dX12_spells_10 ?_
    rintro f_1 ⟨n_1, z_1, F_1, G_1, hS_1, hx1, h8_1⟩
    refine gz_bipush (v := 48) dX12_spells_13 (by decide) ?_
    refine gz_istore_n (lv' := [(3, .int 48), (0, .ref m), (1, .long y)]) dX12_spells_15 rfl (by decide) rfl ?_
    refine gz_sub (lv' := [(3, .int 48), (0, .ref m), (1, .long y)]) (by simp [List.lookup]) ?_
    have e48 : (48 : Int32).toInt = 48 := rfl
    exact l_X12_spells (B := (n_1 88).toInt)  8 48 _ _ _ _ _ hS_1 (fx_tr fx_rf hx1 (by decide)) (by (try rw [(show n_1 88 = (n_1 88) from rfl)]); omega) (by (try rw [(show n_1 88 = (n_1 88) from rfl)]); omega) (by (try rw [(show n_1 88 = (n_1 88) from rfl)]); omega) (by decide)

set_option maxHeartbeats 4000000 in
set_option maxRecDepth 100000 in
theorem l_X12_spellsS {l : Launch} {D : va_G} {cy : Nat → ClassId} {b : Nat} {m : Nat} {a : Nat → Nat} {f0 : gMem} {n0 : Nat → Int32} {z0 : Nat → Int64} {F0 : Nat → Nat → Int32} {G0 : Nat → Nat → Int64}  {y : Int64} {B : Int} (hs : smallW y) : ∀ (k : Nat) (i : Int32) (n : Nat → Int32) (z : Nat → Int64) (F : Nat → Nat → Int32) (G : Nat → Nat → Int64) (fm : gMem), mS cy m a f0 n z F G fm → fx [88, 89] [] [87] [] n0 z0 F0 G0 n z F G → ((n0 88).toInt ≤ (n 88).toInt ∧ 0 ≤ (n0 88).toInt) → (B ≤ (n0 88).toInt + 1 ∧ B + 3 ≤ 1000) → ((16 ≤ i.toInt → (n 88).toInt ≤ B) ∧ (i.toInt ≤ 16 → 8 * ((n 88).toInt - B) ≤ 16 - i.toInt)) → (i.toInt + 16 = 8 * (k : Int) ∧ -8 ≤ i.toInt ∧ i.toInt ≤ 48) → gG l (gRm 1 0 0) (gQf D b (pV fun f2 => ∃ (n2 : Nat → Int32) (z2 : Nat → Int64) (F2 : Nat → Nat → Int32) (G2 : Nat → Nat → Int64), mS cy m a f0 n2 z2 F2 G2 f2 ∧ fx [88, 89] [] [87] [] n0 z0 F0 G0 n2 z2 F2 G2 ∧ (n0 88).toInt ≤ (n2 88).toInt ∧ (n2 88).toInt ≤ (n0 88).toInt + 4) 0 0) gTt D cy b cX12_spells 4 none RX12 "spells" 0 0 fm 16 [(3, .int i), (0, .ref m), (1, .long y)] [] := by
  intro k
  induction k with
  | zero =>
    intro i n z F G fm hS hx hm hB hi hk
    exfalso; omega
  | succ k ih =>
    intro i n z F G fm hS hx hm hB hi hk
    refine gz_iload_n dX12_spells_16 rfl rfl ?_
    refine gz_if_lt (tgt := 61) dX12_spells_17 (by decide) (fun c_17 => ?_) (fun c_17 => ?_)
    ·
      try simp only [mIn_0, lgc_lt, lgc_gt, lgc_le, lgc_ge, lgc_eq] at c_17
      try simp only [fl_lt, fl_le, fl_eq, fL_w, fL_lt, fL_le, tm1, tm10k, tm9, tm99, Int32.reduceToInt, Int64.reduceToInt, Int.not_lt, Int.not_le] at c_17
      refine gz_aload_n dX12_spells_61 rfl rfl ?_
      refine gz_iconst (v := 1) dX12_spells_62 (by decide) ?_
      refine mp_544 hS ⟨rfl, rfl⟩ dX12_spells_63 (fun f_1 hS_1 => ?_)
      exact gz_vret rfl dX12_spells_66 (Nat.le_of_ble_eq_true rfl) (Nat.le_of_ble_eq_true rfl) (⟨rfl, _, _, _, _, hS_1, (fx_n hx (by decide)), (by (try rw [(show (va_up n 89 1) 88 = (n 88) from rfl)]); omega), (by (try rw [(show (va_up n 89 1) 88 = (n 88) from rfl)]); omega)⟩)
    ·
      try simp only [mIn_0, lgc_lt, lgc_gt, lgc_le, lgc_ge, lgc_eq] at c_17
      try simp only [fl_lt, fl_le, fl_eq, fL_w, fL_lt, fL_le, tm1, tm10k, tm9, tm99, Int32.reduceToInt, Int64.reduceToInt, Int.not_lt, Int.not_le] at c_17
      refine gz_lload_n dX12_spells_20 rfl rfl ?_
      refine gz_iload_n dX12_spells_21 rfl rfl ?_
      refine gz_lshr dX12_spells_22 ?_
      refine gz_lconst (v := 0) dX12_spells_23 (by decide) ?_
      refine gz_lcmp dX12_spells_24 ?_
      refine gz_if_ne (tgt := 31) dX12_spells_25 (by decide) (fun c_25 => ?_) (fun c_25 => ?_)
      ·
        try simp only [mIn_0, lgc_lt, lgc_gt, lgc_le, lgc_ge, lgc_eq] at c_25
        try simp only [fl_lt, fl_le, fl_eq, fL_w, fL_lt, fL_le, tm1, tm10k, tm9, tm99, Int32.reduceToInt, Int64.reduceToInt, Int.not_lt, Int.not_le] at c_25
        have h16 : i.toInt ≤ 16 := Classical.byContradiction (fun q => by have d : i.toInt = 48 ∨ i.toInt = 40 ∨ i.toInt = 32 ∨ i.toInt = 24 := (by omega); have e : i = 48 ∨ i = 40 ∨ i = 32 ∨ i = 24 := (by rcases d with d | d | d | d; exact Or.inl (Int32.toInt_inj.mp (d.trans rfl)); exact Or.inr (Or.inl (Int32.toInt_inj.mp (d.trans rfl))); exact Or.inr (Or.inr (Or.inl (Int32.toInt_inj.mp (d.trans rfl)))); exact Or.inr (Or.inr (Or.inr (Int32.toInt_inj.mp (d.trans rfl))))); exact c_25 (hs i e))
        refine gz_aload_n dX12_spells_31 rfl rfl ?_
        refine mg_240 hS dX12_spells_32 ?_
        refine gz_aload_n dX12_spells_35 rfl rfl ?_
        refine mg_541 hS dX12_spells_36 ?_
        refine gz_lload_n dX12_spells_39 rfl rfl ?_
        refine gz_iload_n dX12_spells_40 rfl rfl ?_
        refine gz_lshr dX12_spells_41 ?_
        refine gz_l2i dX12_spells_42 ?_
        refine gz_i2b dX12_spells_43 ?_
        refine m_bast 87 hS rfl (N := 1000) rfl ((by exact vin_T (rfl : ((n 88)).toInt = ((n 88)).toInt) (by omega) (by omega))) dX12_spells_44 (fun f_2 hS_2q => ?_)
        have hS_2 : mS cy m a f0 n z (va_up F 87 (upd (F 87) (Int32.toNatClampNeg (n 88)) (vp_nar .byte (((y >>> (i.toInt64 &&& 63)).toInt32).toInt8.toInt32)))) G f_2 := hS_2q
        refine gz_aload_n dX12_spells_45 rfl rfl ?_
        refine gz_dup dX12_spells_46 rfl ?_
        refine mg_541 hS_2 dX12_spells_47 ?_
        refine gz_ev (w := .int (n 88)) rfl ?_
        refine gz_iconst (v := 1) dX12_spells_50 (by decide) ?_
        refine gz_iadd dX12_spells_51 ?_
        refine mp_541 hS_2 dX12_spells_52 (fun f_3 hS_3 => ?_)
        refine gz_iinc (v := (i + (-8))) (lv' := [(3, .int (i + (-8))), (0, .ref m), (1, .long y)]) dX12_spells_55 rfl (congrArg (fun z => i + z) oi_m8) (by decide) rfl ?_
        refine gz_goto (tgt := 16) dX12_spells_58 (by decide) ?_
        refine gz_sub (lv' := [(3, .int (i + (-8))), (0, .ref m), (1, .long y)]) (by simp [List.lookup]) ?_
        have hdc : (i + (-8)).toInt = i.toInt - 8 := T_dec8 (by omega)
        generalize i + (-8) = i2 at hdc ⊢
        exact ih i2 _ _ _ _ _ hS_3 (fx_n (fx_F hx (by decide)) (by decide)) ((by (try rw [(show (va_up n 88 ((n 88) + 1)) 88 = ((n 88) + 1) from rfl)]); have q1_ := (T_add (rfl : ((n 88)).toInt = ((n 88)).toInt) (show (1 : Int32).toInt = 1 from rfl) (by omega)); omega)) (hB) ((by (try rw [(show (va_up n 88 ((n 88) + 1)) 88 = ((n 88) + 1) from rfl)]); have q1_ := (T_add (rfl : ((n 88)).toInt = ((n 88)).toInt) (show (1 : Int32).toInt = 1 from rfl) (by omega)); omega)) (by omega)
      ·
        try simp only [mIn_0, lgc_lt, lgc_gt, lgc_le, lgc_ge, lgc_eq] at c_25
        try simp only [fl_lt, fl_le, fl_eq, fL_w, fL_lt, fL_le, tm1, tm10k, tm9, tm99, Int32.reduceToInt, Int64.reduceToInt, Int.not_lt, Int.not_le] at c_25
        refine gz_goto (tgt := 55) dX12_spells_28 (by decide) ?_
        refine gz_iinc (v := (i + (-8))) (lv' := [(3, .int (i + (-8))), (0, .ref m), (1, .long y)]) dX12_spells_55 rfl (congrArg (fun z => i + z) oi_m8) (by decide) rfl ?_
        refine gz_goto (tgt := 16) dX12_spells_58 (by decide) ?_
        refine gz_sub (lv' := [(3, .int (i + (-8))), (0, .ref m), (1, .long y)]) (by simp [List.lookup]) ?_
        have hdc : (i + (-8)).toInt = i.toInt - 8 := T_dec8 (by omega)
        generalize i + (-8) = i2 at hdc ⊢
        exact ih i2 _ _ _ _ _ hS hx ((by omega)) (hB) ((by omega)) (by omega)

set_option maxHeartbeats 4000000 in
set_option maxRecDepth 100000 in
theorem k_X12_spellsS {l : Launch} {D : va_G} {cy : Nat → ClassId} {b : Nat} {f : gMem} {m : Nat} {a : Nat → Nat} {f0 : gMem} {n : Nat → Int32} {z : Nat → Int64} {F : Nat → Nat → Int32} {G : Nat → Nat → Int64}  {y : Int64} (hS : mS cy m a f0 n z F G f) (h8 : 0 ≤ (n 88).toInt ∧ (n 88).toInt + 4 ≤ 1000) (hs : smallW y) : gC l D cy b yX12_spells cX12_spells 4 none 1 0 0 [.ref m, .long y] f (pV fun f2 => ∃ (n2 : Nat → Int32) (z2 : Nat → Int64) (F2 : Nat → Nat → Int32) (G2 : Nat → Nat → Int64), mS cy m a f0 n2 z2 F2 G2 f2 ∧ fx [88, 89] [] [87] [] n z F G n2 z2 F2 G2 ∧ (n 88).toInt ≤ (n2 88).toInt ∧ (n2 88).toInt ≤ (n 88).toInt + 4) := by
  refine gC_of (by decide) (Nat.le_of_ble_eq_true rfl) ?_
  show gG l _ _ _ D cy b cX12_spells 4 _ RX12 "spells" 0 0 f 0 [(0, .ref m), (1, .long y)] []
  refine gz_aload_n dX12_spells_0 rfl rfl ?_
  refine mg_544 hS dX12_spells_1 ?_
  refine gz_if_eq (tgt := 13) dX12_spells_4 (by decide) (fun c_4 => ?_) (fun c_4 => ?_)
  ·
    try simp only [mIn_0, lgc_lt, lgc_gt, lgc_le, lgc_ge, lgc_eq] at c_4
    try simp only [fl_lt, fl_le, fl_eq, fL_w, fL_lt, fL_le, tm1, tm10k, tm9, tm99, Int32.reduceToInt, Int64.reduceToInt, Int.not_lt, Int.not_le] at c_4
    refine gz_bipush (v := 48) dX12_spells_13 (by decide) ?_
    refine gz_istore_n (lv' := [(3, .int 48), (0, .ref m), (1, .long y)]) dX12_spells_15 rfl (by decide) rfl ?_
    refine gz_sub (lv' := [(3, .int 48), (0, .ref m), (1, .long y)]) (by simp [List.lookup]) ?_
    have e48 : (48 : Int32).toInt = 48 := rfl
    exact l_X12_spellsS (B := (n 88).toInt) hs 8 48 _ _ _ _ _ hS fx_rf (by omega) (by omega) (by omega) (by decide)
  ·
    try simp only [mIn_0, lgc_lt, lgc_gt, lgc_le, lgc_ge, lgc_eq] at c_4
    try simp only [fl_lt, fl_le, fl_eq, fL_w, fL_lt, fL_le, tm1, tm10k, tm9, tm99, Int32.reduceToInt, Int64.reduceToInt, Int.not_lt, Int.not_le] at c_4
    refine gz_aload_n dX12_spells_7 rfl rfl ?_
    refine gz_bipush (v := 32) dX12_spells_8 (by decide) ?_
    refine scX12_547 (k_X12_signs (x1 := 32) hS (by omega)) hS.1 ⟨(Nat.le_of_ble_eq_true rfl), (Nat.le_of_ble_eq_true rfl)⟩ ⟨(Nat.le_of_ble_eq_true rfl), (Nat.le_of_ble_eq_true rfl)⟩ rfl rfl (Nat.le_of_ble_eq_true rfl) dX12_spells_10 ?_
    rintro f_1 ⟨n_1, z_1, F_1, G_1, hS_1, hx1, h8_1⟩
    refine gz_bipush (v := 48) dX12_spells_13 (by decide) ?_
    refine gz_istore_n (lv' := [(3, .int 48), (0, .ref m), (1, .long y)]) dX12_spells_15 rfl (by decide) rfl ?_
    refine gz_sub (lv' := [(3, .int 48), (0, .ref m), (1, .long y)]) (by simp [List.lookup]) ?_
    have e48 : (48 : Int32).toInt = 48 := rfl
    exact l_X12_spellsS (B := (n_1 88).toInt) hs 8 48 _ _ _ _ _ hS_1 (fx_tr fx_rf hx1 (by decide)) (by (try rw [(show n_1 88 = (n_1 88) from rfl)]); omega) (by (try rw [(show n_1 88 = (n_1 88) from rfl)]); omega) (by (try rw [(show n_1 88 = (n_1 88) from rfl)]); omega) (by decide)

set_option maxHeartbeats 4000000 in
set_option maxRecDepth 100000 in
theorem k_X12_digits {l : Launch} {D : va_G} {cy : Nat → ClassId} {b : Nat} {f : gMem} {m : Nat} {a : Nat → Nat} {f0 : gMem} {n : Nat → Int32} {z : Nat → Int64} {F : Nat → Nat → Int32} {G : Nat → Nat → Int64}  {x1 : Int32} (hS : mS cy m a f0 n z F G f) (h8 : 0 ≤ (n 88).toInt ∧ (n 88).toInt + 6 ≤ 1000) : gC l D cy b yX12_digits cX12_digits 3 none 1 0 0 [.ref m, .int x1] f (pV fun f2 => ∃ (n2 : Nat → Int32) (z2 : Nat → Int64) (F2 : Nat → Nat → Int32) (G2 : Nat → Nat → Int64), mS cy m a f0 n2 z2 F2 G2 f2 ∧ fx [88, 89] [] [87] [] n z F G n2 z2 F2 G2 ∧ (n 88).toInt ≤ (n2 88).toInt ∧ (n2 88).toInt ≤ (n 88).toInt + 6) := by
  refine gC_of (by decide) (Nat.le_of_ble_eq_true rfl) ?_
  show gG l _ _ _ D cy b cX12_digits 3 _ RX12 "digits" 0 0 f 0 [(0, .ref m), (1, .int x1)] []
  refine gz_aload_n dX12_digits_0 rfl rfl ?_
  refine mg_544 hS dX12_digits_1 ?_
  refine gz_if_eq (tgt := 13) dX12_digits_4 (by decide) (fun c_4 => ?_) (fun c_4 => ?_)
  ·
    try simp only [mIn_0, lgc_lt, lgc_gt, lgc_le, lgc_ge, lgc_eq] at c_4
    try simp only [fl_lt, fl_le, fl_eq, fL_w, fL_lt, fL_le, tm1, tm10k, tm9, tm99, Int32.reduceToInt, Int64.reduceToInt, Int.not_lt, Int.not_le] at c_4
    refine gz_sipush (v := 10000) dX12_digits_13 (by decide) ?_
    refine gz_istore_n (lv' := [(2, .int 10000), (0, .ref m), (1, .int x1)]) dX12_digits_16 rfl (by decide) rfl ?_
    refine gz_iload_n dX12_digits_17 rfl rfl ?_
    refine gz_if_le (tgt := 71) dX12_digits_18 (by decide) (fun c_18 => ?_) (fun c_18 => ?_)
    · exact absurd c_18 (by decide)
    ·
      try simp only [mIn_0, lgc_lt, lgc_gt, lgc_le, lgc_ge, lgc_eq] at c_18
      try simp only [fl_lt, fl_le, fl_eq, fL_w, fL_lt, fL_le, tm1, tm10k, tm9, tm99, Int32.reduceToInt, Int64.reduceToInt, Int.not_lt, Int.not_le] at c_18
      refine gz_iload_n dX12_digits_21 rfl rfl ?_
      refine gz_iload_n dX12_digits_22 rfl rfl ?_
      refine gz_icmp_ge (tgt := 34) dX12_digits_23 (by decide) (fun c_23 => ?_) (fun c_23 => ?_)
      ·
        try simp only [mIn_0, lgc_lt, lgc_gt, lgc_le, lgc_ge, lgc_eq] at c_23
        try simp only [fl_lt, fl_le, fl_eq, fL_w, fL_lt, fL_le, tm1, tm10k, tm9, tm99, Int32.reduceToInt, Int64.reduceToInt, Int.not_lt, Int.not_le] at c_23
        refine gz_aload_n dX12_digits_34 rfl rfl ?_
        refine mg_240 hS dX12_digits_35 ?_
        refine gz_aload_n dX12_digits_38 rfl rfl ?_
        refine mg_541 hS dX12_digits_39 ?_
        refine gz_bipush (v := 48) dX12_digits_42 (by decide) ?_
        refine gz_iload_n dX12_digits_44 rfl rfl ?_
        refine gz_iload_n dX12_digits_45 rfl rfl ?_
        refine gz_idiv dX12_digits_46 (by decide) ?_
        refine gz_bipush (v := 10) dX12_digits_47 (by decide) ?_
        refine gz_irem dX12_digits_49 (by decide) ?_
        refine gz_iadd dX12_digits_50 ?_
        refine gz_i2b dX12_digits_51 ?_
        refine m_bast 87 hS rfl (N := 1000) rfl ((by exact vin_T (rfl : ((n 88)).toInt = ((n 88)).toInt) (by omega) (by omega))) dX12_digits_52 (fun f_1 hS_1q => ?_)
        have hS_1 : mS cy m a f0 n z (va_up F 87 (upd (F 87) (Int32.toNatClampNeg (n 88)) (vp_nar .byte ((48 + ((x1 / 10000) - (x1 / 10000) / 10 * 10)).toInt8.toInt32)))) G f_1 := hS_1q
        refine gz_aload_n dX12_digits_53 rfl rfl ?_
        refine gz_dup dX12_digits_54 rfl ?_
        refine mg_541 hS_1 dX12_digits_55 ?_
        refine gz_ev (w := .int (n 88)) rfl ?_
        refine gz_iconst (v := 1) dX12_digits_58 (by decide) ?_
        refine gz_iadd dX12_digits_59 ?_
        refine mp_541 hS_1 dX12_digits_60 (fun f_2 hS_2 => ?_)
        refine gz_iload_n dX12_digits_63 rfl rfl ?_
        refine gz_bipush (v := 10) dX12_digits_64 (by decide) ?_
        refine gz_idiv dX12_digits_66 (by decide) ?_
        refine gz_ev (w := .int 1000) (by decide) ?_
        refine gz_istore_n (lv' := [(2, .int 1000), (0, .ref m), (1, .int x1)]) dX12_digits_67 rfl (by decide) rfl ?_
        refine gz_goto (tgt := 17) dX12_digits_68 (by decide) ?_
        refine gz_iload_n dX12_digits_17 rfl rfl ?_
        refine gz_if_le (tgt := 71) dX12_digits_18 (by decide) (fun c_18_1 => ?_) (fun c_18_1 => ?_)
        · exact absurd c_18_1 (by decide)
        ·
          try simp only [mIn_0, lgc_lt, lgc_gt, lgc_le, lgc_ge, lgc_eq] at c_18_1
          try simp only [fl_lt, fl_le, fl_eq, fL_w, fL_lt, fL_le, tm1, tm10k, tm9, tm99, Int32.reduceToInt, Int64.reduceToInt, Int.not_lt, Int.not_le] at c_18_1
          refine gz_iload_n dX12_digits_21 rfl rfl ?_
          refine gz_iload_n dX12_digits_22 rfl rfl ?_
          refine gz_icmp_ge (tgt := 34) dX12_digits_23 (by decide) (fun c_23_2 => ?_) (fun c_23_2 => ?_)
          ·
            try simp only [mIn_0, lgc_lt, lgc_gt, lgc_le, lgc_ge, lgc_eq] at c_23_2
            try simp only [fl_lt, fl_le, fl_eq, fL_w, fL_lt, fL_le, tm1, tm10k, tm9, tm99, Int32.reduceToInt, Int64.reduceToInt, Int.not_lt, Int.not_le] at c_23_2
            refine gz_aload_n dX12_digits_34 rfl rfl ?_
            refine mg_240 hS_2 dX12_digits_35 ?_
            refine gz_aload_n dX12_digits_38 rfl rfl ?_
            refine mg_541 hS_2 dX12_digits_39 ?_
            refine gz_ev (w := .int ((n 88) + 1)) rfl ?_
            refine gz_bipush (v := 48) dX12_digits_42 (by decide) ?_
            refine gz_iload_n dX12_digits_44 rfl rfl ?_
            refine gz_iload_n dX12_digits_45 rfl rfl ?_
            refine gz_idiv dX12_digits_46 (by decide) ?_
            refine gz_bipush (v := 10) dX12_digits_47 (by decide) ?_
            refine gz_irem dX12_digits_49 (by decide) ?_
            refine gz_iadd dX12_digits_50 ?_
            refine gz_i2b dX12_digits_51 ?_
            refine m_bast 87 hS_2 rfl (N := 1000) rfl ((by have q9 := (T_add (rfl : ((n 88)).toInt = ((n 88)).toInt) (show (1 : Int32).toInt = 1 from rfl) (by omega)); exact vin_T q9 (by omega) (by omega))) dX12_digits_52 (fun f_3 hS_3q => ?_)
            have hS_3 : mS cy m a f0 (va_up n 88 ((n 88) + 1)) z (va_up (va_up F 87 (upd (F 87) (Int32.toNatClampNeg (n 88)) (vp_nar .byte ((48 + ((x1 / 10000) - (x1 / 10000) / 10 * 10)).toInt8.toInt32)))) 87 (upd (upd (F 87) (Int32.toNatClampNeg (n 88)) (vp_nar .byte ((48 + ((x1 / 10000) - (x1 / 10000) / 10 * 10)).toInt8.toInt32))) (Int32.toNatClampNeg ((n 88) + 1)) (vp_nar .byte ((48 + ((x1 / 1000) - (x1 / 1000) / 10 * 10)).toInt8.toInt32)))) G f_3 := hS_3q
            refine gz_aload_n dX12_digits_53 rfl rfl ?_
            refine gz_dup dX12_digits_54 rfl ?_
            refine mg_541 hS_3 dX12_digits_55 ?_
            refine gz_ev (w := .int ((n 88) + 1)) rfl ?_
            refine gz_iconst (v := 1) dX12_digits_58 (by decide) ?_
            refine gz_iadd dX12_digits_59 ?_
            refine mp_541 hS_3 dX12_digits_60 (fun f_4 hS_4 => ?_)
            refine gz_iload_n dX12_digits_63 rfl rfl ?_
            refine gz_bipush (v := 10) dX12_digits_64 (by decide) ?_
            refine gz_idiv dX12_digits_66 (by decide) ?_
            refine gz_ev (w := .int 100) (by decide) ?_
            refine gz_istore_n (lv' := [(2, .int 100), (0, .ref m), (1, .int x1)]) dX12_digits_67 rfl (by decide) rfl ?_
            refine gz_goto (tgt := 17) dX12_digits_68 (by decide) ?_
            refine gz_iload_n dX12_digits_17 rfl rfl ?_
            refine gz_if_le (tgt := 71) dX12_digits_18 (by decide) (fun c_18_3 => ?_) (fun c_18_3 => ?_)
            · exact absurd c_18_3 (by decide)
            ·
              try simp only [mIn_0, lgc_lt, lgc_gt, lgc_le, lgc_ge, lgc_eq] at c_18_3
              try simp only [fl_lt, fl_le, fl_eq, fL_w, fL_lt, fL_le, tm1, tm10k, tm9, tm99, Int32.reduceToInt, Int64.reduceToInt, Int.not_lt, Int.not_le] at c_18_3
              refine gz_iload_n dX12_digits_21 rfl rfl ?_
              refine gz_iload_n dX12_digits_22 rfl rfl ?_
              refine gz_icmp_ge (tgt := 34) dX12_digits_23 (by decide) (fun c_23_4 => ?_) (fun c_23_4 => ?_)
              ·
                try simp only [mIn_0, lgc_lt, lgc_gt, lgc_le, lgc_ge, lgc_eq] at c_23_4
                try simp only [fl_lt, fl_le, fl_eq, fL_w, fL_lt, fL_le, tm1, tm10k, tm9, tm99, Int32.reduceToInt, Int64.reduceToInt, Int.not_lt, Int.not_le] at c_23_4
                refine gz_aload_n dX12_digits_34 rfl rfl ?_
                refine mg_240 hS_4 dX12_digits_35 ?_
                refine gz_aload_n dX12_digits_38 rfl rfl ?_
                refine mg_541 hS_4 dX12_digits_39 ?_
                refine gz_ev (w := .int (((n 88) + 1) + 1)) rfl ?_
                refine gz_bipush (v := 48) dX12_digits_42 (by decide) ?_
                refine gz_iload_n dX12_digits_44 rfl rfl ?_
                refine gz_iload_n dX12_digits_45 rfl rfl ?_
                refine gz_idiv dX12_digits_46 (by decide) ?_
                refine gz_bipush (v := 10) dX12_digits_47 (by decide) ?_
                refine gz_irem dX12_digits_49 (by decide) ?_
                refine gz_iadd dX12_digits_50 ?_
                refine gz_i2b dX12_digits_51 ?_
                refine m_bast 87 hS_4 rfl (N := 1000) rfl ((by have q9 := (T_add (T_add (rfl : ((n 88)).toInt = ((n 88)).toInt) (show (1 : Int32).toInt = 1 from rfl) (by omega)) (show (1 : Int32).toInt = 1 from rfl) (by omega)); exact vin_T q9 (by omega) (by omega))) dX12_digits_52 (fun f_5 hS_5q => ?_)
                have hS_5 : mS cy m a f0 (va_up (va_up n 88 ((n 88) + 1)) 88 (((n 88) + 1) + 1)) z (va_up (va_up (va_up F 87 (upd (F 87) (Int32.toNatClampNeg (n 88)) (vp_nar .byte ((48 + ((x1 / 10000) - (x1 / 10000) / 10 * 10)).toInt8.toInt32)))) 87 (upd (upd (F 87) (Int32.toNatClampNeg (n 88)) (vp_nar .byte ((48 + ((x1 / 10000) - (x1 / 10000) / 10 * 10)).toInt8.toInt32))) (Int32.toNatClampNeg ((n 88) + 1)) (vp_nar .byte ((48 + ((x1 / 1000) - (x1 / 1000) / 10 * 10)).toInt8.toInt32)))) 87 (upd (upd (upd (F 87) (Int32.toNatClampNeg (n 88)) (vp_nar .byte ((48 + ((x1 / 10000) - (x1 / 10000) / 10 * 10)).toInt8.toInt32))) (Int32.toNatClampNeg ((n 88) + 1)) (vp_nar .byte ((48 + ((x1 / 1000) - (x1 / 1000) / 10 * 10)).toInt8.toInt32))) (Int32.toNatClampNeg (((n 88) + 1) + 1)) (vp_nar .byte ((48 + ((x1 / 100) - (x1 / 100) / 10 * 10)).toInt8.toInt32)))) G f_5 := hS_5q
                refine gz_aload_n dX12_digits_53 rfl rfl ?_
                refine gz_dup dX12_digits_54 rfl ?_
                refine mg_541 hS_5 dX12_digits_55 ?_
                refine gz_ev (w := .int (((n 88) + 1) + 1)) rfl ?_
                refine gz_iconst (v := 1) dX12_digits_58 (by decide) ?_
                refine gz_iadd dX12_digits_59 ?_
                refine mp_541 hS_5 dX12_digits_60 (fun f_6 hS_6 => ?_)
                refine gz_iload_n dX12_digits_63 rfl rfl ?_
                refine gz_bipush (v := 10) dX12_digits_64 (by decide) ?_
                refine gz_idiv dX12_digits_66 (by decide) ?_
                refine gz_ev (w := .int 10) (by decide) ?_
                refine gz_istore_n (lv' := [(2, .int 10), (0, .ref m), (1, .int x1)]) dX12_digits_67 rfl (by decide) rfl ?_
                refine gz_goto (tgt := 17) dX12_digits_68 (by decide) ?_
                refine gz_iload_n dX12_digits_17 rfl rfl ?_
                refine gz_if_le (tgt := 71) dX12_digits_18 (by decide) (fun c_18_5 => ?_) (fun c_18_5 => ?_)
                · exact absurd c_18_5 (by decide)
                ·
                  try simp only [mIn_0, lgc_lt, lgc_gt, lgc_le, lgc_ge, lgc_eq] at c_18_5
                  try simp only [fl_lt, fl_le, fl_eq, fL_w, fL_lt, fL_le, tm1, tm10k, tm9, tm99, Int32.reduceToInt, Int64.reduceToInt, Int.not_lt, Int.not_le] at c_18_5
                  refine gz_iload_n dX12_digits_21 rfl rfl ?_
                  refine gz_iload_n dX12_digits_22 rfl rfl ?_
                  refine gz_icmp_ge (tgt := 34) dX12_digits_23 (by decide) (fun c_23_6 => ?_) (fun c_23_6 => ?_)
                  ·
                    try simp only [mIn_0, lgc_lt, lgc_gt, lgc_le, lgc_ge, lgc_eq] at c_23_6
                    try simp only [fl_lt, fl_le, fl_eq, fL_w, fL_lt, fL_le, tm1, tm10k, tm9, tm99, Int32.reduceToInt, Int64.reduceToInt, Int.not_lt, Int.not_le] at c_23_6
                    refine gz_aload_n dX12_digits_34 rfl rfl ?_
                    refine mg_240 hS_6 dX12_digits_35 ?_
                    refine gz_aload_n dX12_digits_38 rfl rfl ?_
                    refine mg_541 hS_6 dX12_digits_39 ?_
                    refine gz_ev (w := .int ((((n 88) + 1) + 1) + 1)) rfl ?_
                    refine gz_bipush (v := 48) dX12_digits_42 (by decide) ?_
                    refine gz_iload_n dX12_digits_44 rfl rfl ?_
                    refine gz_iload_n dX12_digits_45 rfl rfl ?_
                    refine gz_idiv dX12_digits_46 (by decide) ?_
                    refine gz_bipush (v := 10) dX12_digits_47 (by decide) ?_
                    refine gz_irem dX12_digits_49 (by decide) ?_
                    refine gz_iadd dX12_digits_50 ?_
                    refine gz_i2b dX12_digits_51 ?_
                    refine m_bast 87 hS_6 rfl (N := 1000) rfl ((by have q9 := (T_add (T_add (T_add (rfl : ((n 88)).toInt = ((n 88)).toInt) (show (1 : Int32).toInt = 1 from rfl) (by omega)) (show (1 : Int32).toInt = 1 from rfl) (by omega)) (show (1 : Int32).toInt = 1 from rfl) (by omega)); exact vin_T q9 (by omega) (by omega))) dX12_digits_52 (fun f_7 hS_7q => ?_)
                    have hS_7 : mS cy m a f0 (va_up (va_up (va_up n 88 ((n 88) + 1)) 88 (((n 88) + 1) + 1)) 88 ((((n 88) + 1) + 1) + 1)) z (va_up (va_up (va_up (va_up F 87 (upd (F 87) (Int32.toNatClampNeg (n 88)) (vp_nar .byte ((48 + ((x1 / 10000) - (x1 / 10000) / 10 * 10)).toInt8.toInt32)))) 87 (upd (upd (F 87) (Int32.toNatClampNeg (n 88)) (vp_nar .byte ((48 + ((x1 / 10000) - (x1 / 10000) / 10 * 10)).toInt8.toInt32))) (Int32.toNatClampNeg ((n 88) + 1)) (vp_nar .byte ((48 + ((x1 / 1000) - (x1 / 1000) / 10 * 10)).toInt8.toInt32)))) 87 (upd (upd (upd (F 87) (Int32.toNatClampNeg (n 88)) (vp_nar .byte ((48 + ((x1 / 10000) - (x1 / 10000) / 10 * 10)).toInt8.toInt32))) (Int32.toNatClampNeg ((n 88) + 1)) (vp_nar .byte ((48 + ((x1 / 1000) - (x1 / 1000) / 10 * 10)).toInt8.toInt32))) (Int32.toNatClampNeg (((n 88) + 1) + 1)) (vp_nar .byte ((48 + ((x1 / 100) - (x1 / 100) / 10 * 10)).toInt8.toInt32)))) 87 (upd (upd (upd (upd (F 87) (Int32.toNatClampNeg (n 88)) (vp_nar .byte ((48 + ((x1 / 10000) - (x1 / 10000) / 10 * 10)).toInt8.toInt32))) (Int32.toNatClampNeg ((n 88) + 1)) (vp_nar .byte ((48 + ((x1 / 1000) - (x1 / 1000) / 10 * 10)).toInt8.toInt32))) (Int32.toNatClampNeg (((n 88) + 1) + 1)) (vp_nar .byte ((48 + ((x1 / 100) - (x1 / 100) / 10 * 10)).toInt8.toInt32))) (Int32.toNatClampNeg ((((n 88) + 1) + 1) + 1)) (vp_nar .byte ((48 + ((x1 / 10) - (x1 / 10) / 10 * 10)).toInt8.toInt32)))) G f_7 := hS_7q
                    refine gz_aload_n dX12_digits_53 rfl rfl ?_
                    refine gz_dup dX12_digits_54 rfl ?_
                    refine mg_541 hS_7 dX12_digits_55 ?_
                    refine gz_ev (w := .int ((((n 88) + 1) + 1) + 1)) rfl ?_
                    refine gz_iconst (v := 1) dX12_digits_58 (by decide) ?_
                    refine gz_iadd dX12_digits_59 ?_
                    refine mp_541 hS_7 dX12_digits_60 (fun f_8 hS_8 => ?_)
                    refine gz_iload_n dX12_digits_63 rfl rfl ?_
                    refine gz_bipush (v := 10) dX12_digits_64 (by decide) ?_
                    refine gz_idiv dX12_digits_66 (by decide) ?_
                    refine gz_ev (w := .int 1) (by decide) ?_
                    refine gz_istore_n (lv' := [(2, .int 1), (0, .ref m), (1, .int x1)]) dX12_digits_67 rfl (by decide) rfl ?_
                    refine gz_goto (tgt := 17) dX12_digits_68 (by decide) ?_
                    refine gz_iload_n dX12_digits_17 rfl rfl ?_
                    refine gz_if_le (tgt := 71) dX12_digits_18 (by decide) (fun c_18_7 => ?_) (fun c_18_7 => ?_)
                    · exact absurd c_18_7 (by decide)
                    ·
                      try simp only [mIn_0, lgc_lt, lgc_gt, lgc_le, lgc_ge, lgc_eq] at c_18_7
                      try simp only [fl_lt, fl_le, fl_eq, fL_w, fL_lt, fL_le, tm1, tm10k, tm9, tm99, Int32.reduceToInt, Int64.reduceToInt, Int.not_lt, Int.not_le] at c_18_7
                      refine gz_iload_n dX12_digits_21 rfl rfl ?_
                      refine gz_iload_n dX12_digits_22 rfl rfl ?_
                      refine gz_icmp_ge (tgt := 34) dX12_digits_23 (by decide) (fun c_23_8 => ?_) (fun c_23_8 => ?_)
                      ·
                        try simp only [mIn_0, lgc_lt, lgc_gt, lgc_le, lgc_ge, lgc_eq] at c_23_8
                        try simp only [fl_lt, fl_le, fl_eq, fL_w, fL_lt, fL_le, tm1, tm10k, tm9, tm99, Int32.reduceToInt, Int64.reduceToInt, Int.not_lt, Int.not_le] at c_23_8
                        refine gz_aload_n dX12_digits_34 rfl rfl ?_
                        refine mg_240 hS_8 dX12_digits_35 ?_
                        refine gz_aload_n dX12_digits_38 rfl rfl ?_
                        refine mg_541 hS_8 dX12_digits_39 ?_
                        refine gz_ev (w := .int (((((n 88) + 1) + 1) + 1) + 1)) rfl ?_
                        refine gz_bipush (v := 48) dX12_digits_42 (by decide) ?_
                        refine gz_iload_n dX12_digits_44 rfl rfl ?_
                        refine gz_iload_n dX12_digits_45 rfl rfl ?_
                        refine gz_idiv dX12_digits_46 (by decide) ?_
                        refine gz_bipush (v := 10) dX12_digits_47 (by decide) ?_
                        refine gz_irem dX12_digits_49 (by decide) ?_
                        refine gz_iadd dX12_digits_50 ?_
                        refine gz_i2b dX12_digits_51 ?_
                        refine m_bast 87 hS_8 rfl (N := 1000) rfl ((by have q9 := (T_add (T_add (T_add (T_add (rfl : ((n 88)).toInt = ((n 88)).toInt) (show (1 : Int32).toInt = 1 from rfl) (by omega)) (show (1 : Int32).toInt = 1 from rfl) (by omega)) (show (1 : Int32).toInt = 1 from rfl) (by omega)) (show (1 : Int32).toInt = 1 from rfl) (by omega)); exact vin_T q9 (by omega) (by omega))) dX12_digits_52 (fun f_9 hS_9q => ?_)
                        have hS_9 : mS cy m a f0 (va_up (va_up (va_up (va_up n 88 ((n 88) + 1)) 88 (((n 88) + 1) + 1)) 88 ((((n 88) + 1) + 1) + 1)) 88 (((((n 88) + 1) + 1) + 1) + 1)) z (va_up (va_up (va_up (va_up (va_up F 87 (upd (F 87) (Int32.toNatClampNeg (n 88)) (vp_nar .byte ((48 + ((x1 / 10000) - (x1 / 10000) / 10 * 10)).toInt8.toInt32)))) 87 (upd (upd (F 87) (Int32.toNatClampNeg (n 88)) (vp_nar .byte ((48 + ((x1 / 10000) - (x1 / 10000) / 10 * 10)).toInt8.toInt32))) (Int32.toNatClampNeg ((n 88) + 1)) (vp_nar .byte ((48 + ((x1 / 1000) - (x1 / 1000) / 10 * 10)).toInt8.toInt32)))) 87 (upd (upd (upd (F 87) (Int32.toNatClampNeg (n 88)) (vp_nar .byte ((48 + ((x1 / 10000) - (x1 / 10000) / 10 * 10)).toInt8.toInt32))) (Int32.toNatClampNeg ((n 88) + 1)) (vp_nar .byte ((48 + ((x1 / 1000) - (x1 / 1000) / 10 * 10)).toInt8.toInt32))) (Int32.toNatClampNeg (((n 88) + 1) + 1)) (vp_nar .byte ((48 + ((x1 / 100) - (x1 / 100) / 10 * 10)).toInt8.toInt32)))) 87 (upd (upd (upd (upd (F 87) (Int32.toNatClampNeg (n 88)) (vp_nar .byte ((48 + ((x1 / 10000) - (x1 / 10000) / 10 * 10)).toInt8.toInt32))) (Int32.toNatClampNeg ((n 88) + 1)) (vp_nar .byte ((48 + ((x1 / 1000) - (x1 / 1000) / 10 * 10)).toInt8.toInt32))) (Int32.toNatClampNeg (((n 88) + 1) + 1)) (vp_nar .byte ((48 + ((x1 / 100) - (x1 / 100) / 10 * 10)).toInt8.toInt32))) (Int32.toNatClampNeg ((((n 88) + 1) + 1) + 1)) (vp_nar .byte ((48 + ((x1 / 10) - (x1 / 10) / 10 * 10)).toInt8.toInt32)))) 87 (upd (upd (upd (upd (upd (F 87) (Int32.toNatClampNeg (n 88)) (vp_nar .byte ((48 + ((x1 / 10000) - (x1 / 10000) / 10 * 10)).toInt8.toInt32))) (Int32.toNatClampNeg ((n 88) + 1)) (vp_nar .byte ((48 + ((x1 / 1000) - (x1 / 1000) / 10 * 10)).toInt8.toInt32))) (Int32.toNatClampNeg (((n 88) + 1) + 1)) (vp_nar .byte ((48 + ((x1 / 100) - (x1 / 100) / 10 * 10)).toInt8.toInt32))) (Int32.toNatClampNeg ((((n 88) + 1) + 1) + 1)) (vp_nar .byte ((48 + ((x1 / 10) - (x1 / 10) / 10 * 10)).toInt8.toInt32))) (Int32.toNatClampNeg (((((n 88) + 1) + 1) + 1) + 1)) (vp_nar .byte ((48 + ((x1 / 1) - (x1 / 1) / 10 * 10)).toInt8.toInt32)))) G f_9 := hS_9q
                        refine gz_aload_n dX12_digits_53 rfl rfl ?_
                        refine gz_dup dX12_digits_54 rfl ?_
                        refine mg_541 hS_9 dX12_digits_55 ?_
                        refine gz_ev (w := .int (((((n 88) + 1) + 1) + 1) + 1)) rfl ?_
                        refine gz_iconst (v := 1) dX12_digits_58 (by decide) ?_
                        refine gz_iadd dX12_digits_59 ?_
                        refine mp_541 hS_9 dX12_digits_60 (fun f_10 hS_10 => ?_)
                        refine gz_iload_n dX12_digits_63 rfl rfl ?_
                        refine gz_bipush (v := 10) dX12_digits_64 (by decide) ?_
                        refine gz_idiv dX12_digits_66 (by decide) ?_
                        refine gz_ev (w := .int 0) (by decide) ?_
                        refine gz_istore_n (lv' := [(2, .int 0), (0, .ref m), (1, .int x1)]) dX12_digits_67 rfl (by decide) rfl ?_
                        refine gz_goto (tgt := 17) dX12_digits_68 (by decide) ?_
                        refine gz_iload_n dX12_digits_17 rfl rfl ?_
                        refine gz_if_le (tgt := 71) dX12_digits_18 (by decide) (fun c_18_9 => ?_) (fun c_18_9 => ?_)
                        ·
                          try simp only [mIn_0, lgc_lt, lgc_gt, lgc_le, lgc_ge, lgc_eq] at c_18_9
                          try simp only [fl_lt, fl_le, fl_eq, fL_w, fL_lt, fL_le, tm1, tm10k, tm9, tm99, Int32.reduceToInt, Int64.reduceToInt, Int.not_lt, Int.not_le] at c_18_9
                          refine gz_aload_n dX12_digits_71 rfl rfl ?_
                          refine gz_iconst (v := 1) dX12_digits_72 (by decide) ?_
                          refine mp_544 hS_10 ⟨rfl, rfl⟩ dX12_digits_73 (fun f_11 hS_11 => ?_)
                          exact gz_vret rfl dX12_digits_76 (Nat.le_of_ble_eq_true rfl) (Nat.le_of_ble_eq_true rfl) (⟨rfl, _, _, _, _, hS_11, (fx_n (fx_n (fx_F (fx_n (fx_F (fx_n (fx_F (fx_n (fx_F (fx_n (fx_F fx_rf (by decide)) (by decide)) (by decide)) (by decide)) (by decide)) (by decide)) (by decide)) (by decide)) (by decide)) (by decide)) (by decide)), (by (try rw [(show (va_up (va_up (va_up (va_up (va_up (va_up n 88 ((n 88) + 1)) 88 (((n 88) + 1) + 1)) 88 ((((n 88) + 1) + 1) + 1)) 88 (((((n 88) + 1) + 1) + 1) + 1)) 88 ((((((n 88) + 1) + 1) + 1) + 1) + 1)) 89 1) 88 = ((((((n 88) + 1) + 1) + 1) + 1) + 1) from rfl)]); have q1_ := (T_add (T_add (T_add (T_add (T_add (rfl : ((n 88)).toInt = ((n 88)).toInt) (show (1 : Int32).toInt = 1 from rfl) (by omega)) (show (1 : Int32).toInt = 1 from rfl) (by omega)) (show (1 : Int32).toInt = 1 from rfl) (by omega)) (show (1 : Int32).toInt = 1 from rfl) (by omega)) (show (1 : Int32).toInt = 1 from rfl) (by omega)); omega), (by (try rw [(show (va_up (va_up (va_up (va_up (va_up (va_up n 88 ((n 88) + 1)) 88 (((n 88) + 1) + 1)) 88 ((((n 88) + 1) + 1) + 1)) 88 (((((n 88) + 1) + 1) + 1) + 1)) 88 ((((((n 88) + 1) + 1) + 1) + 1) + 1)) 89 1) 88 = ((((((n 88) + 1) + 1) + 1) + 1) + 1) from rfl)]); have q1_ := (T_add (T_add (T_add (T_add (T_add (rfl : ((n 88)).toInt = ((n 88)).toInt) (show (1 : Int32).toInt = 1 from rfl) (by omega)) (show (1 : Int32).toInt = 1 from rfl) (by omega)) (show (1 : Int32).toInt = 1 from rfl) (by omega)) (show (1 : Int32).toInt = 1 from rfl) (by omega)) (show (1 : Int32).toInt = 1 from rfl) (by omega)); omega)⟩)
                        · exact absurd c_18_9 (by decide)
                      ·
                        try simp only [mIn_0, lgc_lt, lgc_gt, lgc_le, lgc_ge, lgc_eq] at c_23_8
                        try simp only [fl_lt, fl_le, fl_eq, fL_w, fL_lt, fL_le, tm1, tm10k, tm9, tm99, Int32.reduceToInt, Int64.reduceToInt, Int.not_lt, Int.not_le] at c_23_8
                        refine gz_iload_n dX12_digits_26 rfl rfl ?_
                        refine gz_iconst (v := 1) dX12_digits_27 (by decide) ?_
                        refine gz_icmp_le (tgt := 34) dX12_digits_28 (by decide) (fun c_28 => ?_) (fun c_28 => ?_)
                        ·
                          try simp only [mIn_0, lgc_lt, lgc_gt, lgc_le, lgc_ge, lgc_eq] at c_28
                          try simp only [fl_lt, fl_le, fl_eq, fL_w, fL_lt, fL_le, tm1, tm10k, tm9, tm99, Int32.reduceToInt, Int64.reduceToInt, Int.not_lt, Int.not_le] at c_28
                          refine gz_aload_n dX12_digits_34 rfl rfl ?_
                          refine mg_240 hS_8 dX12_digits_35 ?_
                          refine gz_aload_n dX12_digits_38 rfl rfl ?_
                          refine mg_541 hS_8 dX12_digits_39 ?_
                          refine gz_ev (w := .int (((((n 88) + 1) + 1) + 1) + 1)) rfl ?_
                          refine gz_bipush (v := 48) dX12_digits_42 (by decide) ?_
                          refine gz_iload_n dX12_digits_44 rfl rfl ?_
                          refine gz_iload_n dX12_digits_45 rfl rfl ?_
                          refine gz_idiv dX12_digits_46 (by decide) ?_
                          refine gz_bipush (v := 10) dX12_digits_47 (by decide) ?_
                          refine gz_irem dX12_digits_49 (by decide) ?_
                          refine gz_iadd dX12_digits_50 ?_
                          refine gz_i2b dX12_digits_51 ?_
                          refine m_bast 87 hS_8 rfl (N := 1000) rfl ((by have q9 := (T_add (T_add (T_add (T_add (rfl : ((n 88)).toInt = ((n 88)).toInt) (show (1 : Int32).toInt = 1 from rfl) (by omega)) (show (1 : Int32).toInt = 1 from rfl) (by omega)) (show (1 : Int32).toInt = 1 from rfl) (by omega)) (show (1 : Int32).toInt = 1 from rfl) (by omega)); exact vin_T q9 (by omega) (by omega))) dX12_digits_52 (fun f_12 hS_12q => ?_)
                          have hS_12 : mS cy m a f0 (va_up (va_up (va_up (va_up n 88 ((n 88) + 1)) 88 (((n 88) + 1) + 1)) 88 ((((n 88) + 1) + 1) + 1)) 88 (((((n 88) + 1) + 1) + 1) + 1)) z (va_up (va_up (va_up (va_up (va_up F 87 (upd (F 87) (Int32.toNatClampNeg (n 88)) (vp_nar .byte ((48 + ((x1 / 10000) - (x1 / 10000) / 10 * 10)).toInt8.toInt32)))) 87 (upd (upd (F 87) (Int32.toNatClampNeg (n 88)) (vp_nar .byte ((48 + ((x1 / 10000) - (x1 / 10000) / 10 * 10)).toInt8.toInt32))) (Int32.toNatClampNeg ((n 88) + 1)) (vp_nar .byte ((48 + ((x1 / 1000) - (x1 / 1000) / 10 * 10)).toInt8.toInt32)))) 87 (upd (upd (upd (F 87) (Int32.toNatClampNeg (n 88)) (vp_nar .byte ((48 + ((x1 / 10000) - (x1 / 10000) / 10 * 10)).toInt8.toInt32))) (Int32.toNatClampNeg ((n 88) + 1)) (vp_nar .byte ((48 + ((x1 / 1000) - (x1 / 1000) / 10 * 10)).toInt8.toInt32))) (Int32.toNatClampNeg (((n 88) + 1) + 1)) (vp_nar .byte ((48 + ((x1 / 100) - (x1 / 100) / 10 * 10)).toInt8.toInt32)))) 87 (upd (upd (upd (upd (F 87) (Int32.toNatClampNeg (n 88)) (vp_nar .byte ((48 + ((x1 / 10000) - (x1 / 10000) / 10 * 10)).toInt8.toInt32))) (Int32.toNatClampNeg ((n 88) + 1)) (vp_nar .byte ((48 + ((x1 / 1000) - (x1 / 1000) / 10 * 10)).toInt8.toInt32))) (Int32.toNatClampNeg (((n 88) + 1) + 1)) (vp_nar .byte ((48 + ((x1 / 100) - (x1 / 100) / 10 * 10)).toInt8.toInt32))) (Int32.toNatClampNeg ((((n 88) + 1) + 1) + 1)) (vp_nar .byte ((48 + ((x1 / 10) - (x1 / 10) / 10 * 10)).toInt8.toInt32)))) 87 (upd (upd (upd (upd (upd (F 87) (Int32.toNatClampNeg (n 88)) (vp_nar .byte ((48 + ((x1 / 10000) - (x1 / 10000) / 10 * 10)).toInt8.toInt32))) (Int32.toNatClampNeg ((n 88) + 1)) (vp_nar .byte ((48 + ((x1 / 1000) - (x1 / 1000) / 10 * 10)).toInt8.toInt32))) (Int32.toNatClampNeg (((n 88) + 1) + 1)) (vp_nar .byte ((48 + ((x1 / 100) - (x1 / 100) / 10 * 10)).toInt8.toInt32))) (Int32.toNatClampNeg ((((n 88) + 1) + 1) + 1)) (vp_nar .byte ((48 + ((x1 / 10) - (x1 / 10) / 10 * 10)).toInt8.toInt32))) (Int32.toNatClampNeg (((((n 88) + 1) + 1) + 1) + 1)) (vp_nar .byte ((48 + ((x1 / 1) - (x1 / 1) / 10 * 10)).toInt8.toInt32)))) G f_12 := hS_12q
                          refine gz_aload_n dX12_digits_53 rfl rfl ?_
                          refine gz_dup dX12_digits_54 rfl ?_
                          refine mg_541 hS_12 dX12_digits_55 ?_
                          refine gz_ev (w := .int (((((n 88) + 1) + 1) + 1) + 1)) rfl ?_
                          refine gz_iconst (v := 1) dX12_digits_58 (by decide) ?_
                          refine gz_iadd dX12_digits_59 ?_
                          refine mp_541 hS_12 dX12_digits_60 (fun f_13 hS_13 => ?_)
                          refine gz_iload_n dX12_digits_63 rfl rfl ?_
                          refine gz_bipush (v := 10) dX12_digits_64 (by decide) ?_
                          refine gz_idiv dX12_digits_66 (by decide) ?_
                          refine gz_ev (w := .int 0) (by decide) ?_
                          refine gz_istore_n (lv' := [(2, .int 0), (0, .ref m), (1, .int x1)]) dX12_digits_67 rfl (by decide) rfl ?_
                          refine gz_goto (tgt := 17) dX12_digits_68 (by decide) ?_
                          refine gz_iload_n dX12_digits_17 rfl rfl ?_
                          refine gz_if_le (tgt := 71) dX12_digits_18 (by decide) (fun c_18_10 => ?_) (fun c_18_10 => ?_)
                          ·
                            try simp only [mIn_0, lgc_lt, lgc_gt, lgc_le, lgc_ge, lgc_eq] at c_18_10
                            try simp only [fl_lt, fl_le, fl_eq, fL_w, fL_lt, fL_le, tm1, tm10k, tm9, tm99, Int32.reduceToInt, Int64.reduceToInt, Int.not_lt, Int.not_le] at c_18_10
                            refine gz_aload_n dX12_digits_71 rfl rfl ?_
                            refine gz_iconst (v := 1) dX12_digits_72 (by decide) ?_
                            refine mp_544 hS_13 ⟨rfl, rfl⟩ dX12_digits_73 (fun f_14 hS_14 => ?_)
                            exact gz_vret rfl dX12_digits_76 (Nat.le_of_ble_eq_true rfl) (Nat.le_of_ble_eq_true rfl) (⟨rfl, _, _, _, _, hS_14, (fx_n (fx_n (fx_F (fx_n (fx_F (fx_n (fx_F (fx_n (fx_F (fx_n (fx_F fx_rf (by decide)) (by decide)) (by decide)) (by decide)) (by decide)) (by decide)) (by decide)) (by decide)) (by decide)) (by decide)) (by decide)), (by (try rw [(show (va_up (va_up (va_up (va_up (va_up (va_up n 88 ((n 88) + 1)) 88 (((n 88) + 1) + 1)) 88 ((((n 88) + 1) + 1) + 1)) 88 (((((n 88) + 1) + 1) + 1) + 1)) 88 ((((((n 88) + 1) + 1) + 1) + 1) + 1)) 89 1) 88 = ((((((n 88) + 1) + 1) + 1) + 1) + 1) from rfl)]); have q1_ := (T_add (T_add (T_add (T_add (T_add (rfl : ((n 88)).toInt = ((n 88)).toInt) (show (1 : Int32).toInt = 1 from rfl) (by omega)) (show (1 : Int32).toInt = 1 from rfl) (by omega)) (show (1 : Int32).toInt = 1 from rfl) (by omega)) (show (1 : Int32).toInt = 1 from rfl) (by omega)) (show (1 : Int32).toInt = 1 from rfl) (by omega)); omega), (by (try rw [(show (va_up (va_up (va_up (va_up (va_up (va_up n 88 ((n 88) + 1)) 88 (((n 88) + 1) + 1)) 88 ((((n 88) + 1) + 1) + 1)) 88 (((((n 88) + 1) + 1) + 1) + 1)) 88 ((((((n 88) + 1) + 1) + 1) + 1) + 1)) 89 1) 88 = ((((((n 88) + 1) + 1) + 1) + 1) + 1) from rfl)]); have q1_ := (T_add (T_add (T_add (T_add (T_add (rfl : ((n 88)).toInt = ((n 88)).toInt) (show (1 : Int32).toInt = 1 from rfl) (by omega)) (show (1 : Int32).toInt = 1 from rfl) (by omega)) (show (1 : Int32).toInt = 1 from rfl) (by omega)) (show (1 : Int32).toInt = 1 from rfl) (by omega)) (show (1 : Int32).toInt = 1 from rfl) (by omega)); omega)⟩)
                          · exact absurd c_18_10 (by decide)
                        · exact absurd c_28 (by decide)
                  ·
                    try simp only [mIn_0, lgc_lt, lgc_gt, lgc_le, lgc_ge, lgc_eq] at c_23_6
                    try simp only [fl_lt, fl_le, fl_eq, fL_w, fL_lt, fL_le, tm1, tm10k, tm9, tm99, Int32.reduceToInt, Int64.reduceToInt, Int.not_lt, Int.not_le] at c_23_6
                    refine gz_iload_n dX12_digits_26 rfl rfl ?_
                    refine gz_iconst (v := 1) dX12_digits_27 (by decide) ?_
                    refine gz_icmp_le (tgt := 34) dX12_digits_28 (by decide) (fun c_28 => ?_) (fun c_28 => ?_)
                    · exact absurd c_28 (by decide)
                    ·
                      try simp only [mIn_0, lgc_lt, lgc_gt, lgc_le, lgc_ge, lgc_eq] at c_28
                      try simp only [fl_lt, fl_le, fl_eq, fL_w, fL_lt, fL_le, tm1, tm10k, tm9, tm99, Int32.reduceToInt, Int64.reduceToInt, Int.not_lt, Int.not_le] at c_28
                      refine gz_goto (tgt := 63) dX12_digits_31 (by decide) ?_
                      refine gz_iload_n dX12_digits_63 rfl rfl ?_
                      refine gz_bipush (v := 10) dX12_digits_64 (by decide) ?_
                      refine gz_idiv dX12_digits_66 (by decide) ?_
                      refine gz_ev (w := .int 1) (by decide) ?_
                      refine gz_istore_n (lv' := [(2, .int 1), (0, .ref m), (1, .int x1)]) dX12_digits_67 rfl (by decide) rfl ?_
                      refine gz_goto (tgt := 17) dX12_digits_68 (by decide) ?_
                      refine gz_iload_n dX12_digits_17 rfl rfl ?_
                      refine gz_if_le (tgt := 71) dX12_digits_18 (by decide) (fun c_18_11 => ?_) (fun c_18_11 => ?_)
                      · exact absurd c_18_11 (by decide)
                      ·
                        try simp only [mIn_0, lgc_lt, lgc_gt, lgc_le, lgc_ge, lgc_eq] at c_18_11
                        try simp only [fl_lt, fl_le, fl_eq, fL_w, fL_lt, fL_le, tm1, tm10k, tm9, tm99, Int32.reduceToInt, Int64.reduceToInt, Int.not_lt, Int.not_le] at c_18_11
                        refine gz_iload_n dX12_digits_21 rfl rfl ?_
                        refine gz_iload_n dX12_digits_22 rfl rfl ?_
                        refine gz_icmp_ge (tgt := 34) dX12_digits_23 (by decide) (fun c_23_12 => ?_) (fun c_23_12 => ?_)
                        ·
                          try simp only [mIn_0, lgc_lt, lgc_gt, lgc_le, lgc_ge, lgc_eq] at c_23_12
                          try simp only [fl_lt, fl_le, fl_eq, fL_w, fL_lt, fL_le, tm1, tm10k, tm9, tm99, Int32.reduceToInt, Int64.reduceToInt, Int.not_lt, Int.not_le] at c_23_12
                          refine gz_aload_n dX12_digits_34 rfl rfl ?_
                          refine mg_240 hS_6 dX12_digits_35 ?_
                          refine gz_aload_n dX12_digits_38 rfl rfl ?_
                          refine mg_541 hS_6 dX12_digits_39 ?_
                          refine gz_ev (w := .int ((((n 88) + 1) + 1) + 1)) rfl ?_
                          refine gz_bipush (v := 48) dX12_digits_42 (by decide) ?_
                          refine gz_iload_n dX12_digits_44 rfl rfl ?_
                          refine gz_iload_n dX12_digits_45 rfl rfl ?_
                          refine gz_idiv dX12_digits_46 (by decide) ?_
                          refine gz_bipush (v := 10) dX12_digits_47 (by decide) ?_
                          refine gz_irem dX12_digits_49 (by decide) ?_
                          refine gz_iadd dX12_digits_50 ?_
                          refine gz_i2b dX12_digits_51 ?_
                          refine m_bast 87 hS_6 rfl (N := 1000) rfl ((by have q9 := (T_add (T_add (T_add (rfl : ((n 88)).toInt = ((n 88)).toInt) (show (1 : Int32).toInt = 1 from rfl) (by omega)) (show (1 : Int32).toInt = 1 from rfl) (by omega)) (show (1 : Int32).toInt = 1 from rfl) (by omega)); exact vin_T q9 (by omega) (by omega))) dX12_digits_52 (fun f_15 hS_15q => ?_)
                          have hS_15 : mS cy m a f0 (va_up (va_up (va_up n 88 ((n 88) + 1)) 88 (((n 88) + 1) + 1)) 88 ((((n 88) + 1) + 1) + 1)) z (va_up (va_up (va_up (va_up F 87 (upd (F 87) (Int32.toNatClampNeg (n 88)) (vp_nar .byte ((48 + ((x1 / 10000) - (x1 / 10000) / 10 * 10)).toInt8.toInt32)))) 87 (upd (upd (F 87) (Int32.toNatClampNeg (n 88)) (vp_nar .byte ((48 + ((x1 / 10000) - (x1 / 10000) / 10 * 10)).toInt8.toInt32))) (Int32.toNatClampNeg ((n 88) + 1)) (vp_nar .byte ((48 + ((x1 / 1000) - (x1 / 1000) / 10 * 10)).toInt8.toInt32)))) 87 (upd (upd (upd (F 87) (Int32.toNatClampNeg (n 88)) (vp_nar .byte ((48 + ((x1 / 10000) - (x1 / 10000) / 10 * 10)).toInt8.toInt32))) (Int32.toNatClampNeg ((n 88) + 1)) (vp_nar .byte ((48 + ((x1 / 1000) - (x1 / 1000) / 10 * 10)).toInt8.toInt32))) (Int32.toNatClampNeg (((n 88) + 1) + 1)) (vp_nar .byte ((48 + ((x1 / 100) - (x1 / 100) / 10 * 10)).toInt8.toInt32)))) 87 (upd (upd (upd (upd (F 87) (Int32.toNatClampNeg (n 88)) (vp_nar .byte ((48 + ((x1 / 10000) - (x1 / 10000) / 10 * 10)).toInt8.toInt32))) (Int32.toNatClampNeg ((n 88) + 1)) (vp_nar .byte ((48 + ((x1 / 1000) - (x1 / 1000) / 10 * 10)).toInt8.toInt32))) (Int32.toNatClampNeg (((n 88) + 1) + 1)) (vp_nar .byte ((48 + ((x1 / 100) - (x1 / 100) / 10 * 10)).toInt8.toInt32))) (Int32.toNatClampNeg ((((n 88) + 1) + 1) + 1)) (vp_nar .byte ((48 + ((x1 / 1) - (x1 / 1) / 10 * 10)).toInt8.toInt32)))) G f_15 := hS_15q
                          refine gz_aload_n dX12_digits_53 rfl rfl ?_
                          refine gz_dup dX12_digits_54 rfl ?_
                          refine mg_541 hS_15 dX12_digits_55 ?_
                          refine gz_ev (w := .int ((((n 88) + 1) + 1) + 1)) rfl ?_
                          refine gz_iconst (v := 1) dX12_digits_58 (by decide) ?_
                          refine gz_iadd dX12_digits_59 ?_
                          refine mp_541 hS_15 dX12_digits_60 (fun f_16 hS_16 => ?_)
                          refine gz_iload_n dX12_digits_63 rfl rfl ?_
                          refine gz_bipush (v := 10) dX12_digits_64 (by decide) ?_
                          refine gz_idiv dX12_digits_66 (by decide) ?_
                          refine gz_ev (w := .int 0) (by decide) ?_
                          refine gz_istore_n (lv' := [(2, .int 0), (0, .ref m), (1, .int x1)]) dX12_digits_67 rfl (by decide) rfl ?_
                          refine gz_goto (tgt := 17) dX12_digits_68 (by decide) ?_
                          refine gz_iload_n dX12_digits_17 rfl rfl ?_
                          refine gz_if_le (tgt := 71) dX12_digits_18 (by decide) (fun c_18_13 => ?_) (fun c_18_13 => ?_)
                          ·
                            try simp only [mIn_0, lgc_lt, lgc_gt, lgc_le, lgc_ge, lgc_eq] at c_18_13
                            try simp only [fl_lt, fl_le, fl_eq, fL_w, fL_lt, fL_le, tm1, tm10k, tm9, tm99, Int32.reduceToInt, Int64.reduceToInt, Int.not_lt, Int.not_le] at c_18_13
                            refine gz_aload_n dX12_digits_71 rfl rfl ?_
                            refine gz_iconst (v := 1) dX12_digits_72 (by decide) ?_
                            refine mp_544 hS_16 ⟨rfl, rfl⟩ dX12_digits_73 (fun f_17 hS_17 => ?_)
                            exact gz_vret rfl dX12_digits_76 (Nat.le_of_ble_eq_true rfl) (Nat.le_of_ble_eq_true rfl) (⟨rfl, _, _, _, _, hS_17, (fx_n (fx_n (fx_F (fx_n (fx_F (fx_n (fx_F (fx_n (fx_F fx_rf (by decide)) (by decide)) (by decide)) (by decide)) (by decide)) (by decide)) (by decide)) (by decide)) (by decide)), (by (try rw [(show (va_up (va_up (va_up (va_up (va_up n 88 ((n 88) + 1)) 88 (((n 88) + 1) + 1)) 88 ((((n 88) + 1) + 1) + 1)) 88 (((((n 88) + 1) + 1) + 1) + 1)) 89 1) 88 = (((((n 88) + 1) + 1) + 1) + 1) from rfl)]); have q1_ := (T_add (T_add (T_add (T_add (rfl : ((n 88)).toInt = ((n 88)).toInt) (show (1 : Int32).toInt = 1 from rfl) (by omega)) (show (1 : Int32).toInt = 1 from rfl) (by omega)) (show (1 : Int32).toInt = 1 from rfl) (by omega)) (show (1 : Int32).toInt = 1 from rfl) (by omega)); omega), (by (try rw [(show (va_up (va_up (va_up (va_up (va_up n 88 ((n 88) + 1)) 88 (((n 88) + 1) + 1)) 88 ((((n 88) + 1) + 1) + 1)) 88 (((((n 88) + 1) + 1) + 1) + 1)) 89 1) 88 = (((((n 88) + 1) + 1) + 1) + 1) from rfl)]); have q1_ := (T_add (T_add (T_add (T_add (rfl : ((n 88)).toInt = ((n 88)).toInt) (show (1 : Int32).toInt = 1 from rfl) (by omega)) (show (1 : Int32).toInt = 1 from rfl) (by omega)) (show (1 : Int32).toInt = 1 from rfl) (by omega)) (show (1 : Int32).toInt = 1 from rfl) (by omega)); omega)⟩)
                          · exact absurd c_18_13 (by decide)
                        ·
                          try simp only [mIn_0, lgc_lt, lgc_gt, lgc_le, lgc_ge, lgc_eq] at c_23_12
                          try simp only [fl_lt, fl_le, fl_eq, fL_w, fL_lt, fL_le, tm1, tm10k, tm9, tm99, Int32.reduceToInt, Int64.reduceToInt, Int.not_lt, Int.not_le] at c_23_12
                          refine gz_iload_n dX12_digits_26 rfl rfl ?_
                          refine gz_iconst (v := 1) dX12_digits_27 (by decide) ?_
                          refine gz_icmp_le (tgt := 34) dX12_digits_28 (by decide) (fun c_28_14 => ?_) (fun c_28_14 => ?_)
                          ·
                            try simp only [mIn_0, lgc_lt, lgc_gt, lgc_le, lgc_ge, lgc_eq] at c_28_14
                            try simp only [fl_lt, fl_le, fl_eq, fL_w, fL_lt, fL_le, tm1, tm10k, tm9, tm99, Int32.reduceToInt, Int64.reduceToInt, Int.not_lt, Int.not_le] at c_28_14
                            refine gz_aload_n dX12_digits_34 rfl rfl ?_
                            refine mg_240 hS_6 dX12_digits_35 ?_
                            refine gz_aload_n dX12_digits_38 rfl rfl ?_
                            refine mg_541 hS_6 dX12_digits_39 ?_
                            refine gz_ev (w := .int ((((n 88) + 1) + 1) + 1)) rfl ?_
                            refine gz_bipush (v := 48) dX12_digits_42 (by decide) ?_
                            refine gz_iload_n dX12_digits_44 rfl rfl ?_
                            refine gz_iload_n dX12_digits_45 rfl rfl ?_
                            refine gz_idiv dX12_digits_46 (by decide) ?_
                            refine gz_bipush (v := 10) dX12_digits_47 (by decide) ?_
                            refine gz_irem dX12_digits_49 (by decide) ?_
                            refine gz_iadd dX12_digits_50 ?_
                            refine gz_i2b dX12_digits_51 ?_
                            refine m_bast 87 hS_6 rfl (N := 1000) rfl ((by have q9 := (T_add (T_add (T_add (rfl : ((n 88)).toInt = ((n 88)).toInt) (show (1 : Int32).toInt = 1 from rfl) (by omega)) (show (1 : Int32).toInt = 1 from rfl) (by omega)) (show (1 : Int32).toInt = 1 from rfl) (by omega)); exact vin_T q9 (by omega) (by omega))) dX12_digits_52 (fun f_18 hS_18q => ?_)
                            have hS_18 : mS cy m a f0 (va_up (va_up (va_up n 88 ((n 88) + 1)) 88 (((n 88) + 1) + 1)) 88 ((((n 88) + 1) + 1) + 1)) z (va_up (va_up (va_up (va_up F 87 (upd (F 87) (Int32.toNatClampNeg (n 88)) (vp_nar .byte ((48 + ((x1 / 10000) - (x1 / 10000) / 10 * 10)).toInt8.toInt32)))) 87 (upd (upd (F 87) (Int32.toNatClampNeg (n 88)) (vp_nar .byte ((48 + ((x1 / 10000) - (x1 / 10000) / 10 * 10)).toInt8.toInt32))) (Int32.toNatClampNeg ((n 88) + 1)) (vp_nar .byte ((48 + ((x1 / 1000) - (x1 / 1000) / 10 * 10)).toInt8.toInt32)))) 87 (upd (upd (upd (F 87) (Int32.toNatClampNeg (n 88)) (vp_nar .byte ((48 + ((x1 / 10000) - (x1 / 10000) / 10 * 10)).toInt8.toInt32))) (Int32.toNatClampNeg ((n 88) + 1)) (vp_nar .byte ((48 + ((x1 / 1000) - (x1 / 1000) / 10 * 10)).toInt8.toInt32))) (Int32.toNatClampNeg (((n 88) + 1) + 1)) (vp_nar .byte ((48 + ((x1 / 100) - (x1 / 100) / 10 * 10)).toInt8.toInt32)))) 87 (upd (upd (upd (upd (F 87) (Int32.toNatClampNeg (n 88)) (vp_nar .byte ((48 + ((x1 / 10000) - (x1 / 10000) / 10 * 10)).toInt8.toInt32))) (Int32.toNatClampNeg ((n 88) + 1)) (vp_nar .byte ((48 + ((x1 / 1000) - (x1 / 1000) / 10 * 10)).toInt8.toInt32))) (Int32.toNatClampNeg (((n 88) + 1) + 1)) (vp_nar .byte ((48 + ((x1 / 100) - (x1 / 100) / 10 * 10)).toInt8.toInt32))) (Int32.toNatClampNeg ((((n 88) + 1) + 1) + 1)) (vp_nar .byte ((48 + ((x1 / 1) - (x1 / 1) / 10 * 10)).toInt8.toInt32)))) G f_18 := hS_18q
                            refine gz_aload_n dX12_digits_53 rfl rfl ?_
                            refine gz_dup dX12_digits_54 rfl ?_
                            refine mg_541 hS_18 dX12_digits_55 ?_
                            refine gz_ev (w := .int ((((n 88) + 1) + 1) + 1)) rfl ?_
                            refine gz_iconst (v := 1) dX12_digits_58 (by decide) ?_
                            refine gz_iadd dX12_digits_59 ?_
                            refine mp_541 hS_18 dX12_digits_60 (fun f_19 hS_19 => ?_)
                            refine gz_iload_n dX12_digits_63 rfl rfl ?_
                            refine gz_bipush (v := 10) dX12_digits_64 (by decide) ?_
                            refine gz_idiv dX12_digits_66 (by decide) ?_
                            refine gz_ev (w := .int 0) (by decide) ?_
                            refine gz_istore_n (lv' := [(2, .int 0), (0, .ref m), (1, .int x1)]) dX12_digits_67 rfl (by decide) rfl ?_
                            refine gz_goto (tgt := 17) dX12_digits_68 (by decide) ?_
                            refine gz_iload_n dX12_digits_17 rfl rfl ?_
                            refine gz_if_le (tgt := 71) dX12_digits_18 (by decide) (fun c_18_15 => ?_) (fun c_18_15 => ?_)
                            ·
                              try simp only [mIn_0, lgc_lt, lgc_gt, lgc_le, lgc_ge, lgc_eq] at c_18_15
                              try simp only [fl_lt, fl_le, fl_eq, fL_w, fL_lt, fL_le, tm1, tm10k, tm9, tm99, Int32.reduceToInt, Int64.reduceToInt, Int.not_lt, Int.not_le] at c_18_15
                              refine gz_aload_n dX12_digits_71 rfl rfl ?_
                              refine gz_iconst (v := 1) dX12_digits_72 (by decide) ?_
                              refine mp_544 hS_19 ⟨rfl, rfl⟩ dX12_digits_73 (fun f_20 hS_20 => ?_)
                              exact gz_vret rfl dX12_digits_76 (Nat.le_of_ble_eq_true rfl) (Nat.le_of_ble_eq_true rfl) (⟨rfl, _, _, _, _, hS_20, (fx_n (fx_n (fx_F (fx_n (fx_F (fx_n (fx_F (fx_n (fx_F fx_rf (by decide)) (by decide)) (by decide)) (by decide)) (by decide)) (by decide)) (by decide)) (by decide)) (by decide)), (by (try rw [(show (va_up (va_up (va_up (va_up (va_up n 88 ((n 88) + 1)) 88 (((n 88) + 1) + 1)) 88 ((((n 88) + 1) + 1) + 1)) 88 (((((n 88) + 1) + 1) + 1) + 1)) 89 1) 88 = (((((n 88) + 1) + 1) + 1) + 1) from rfl)]); have q1_ := (T_add (T_add (T_add (T_add (rfl : ((n 88)).toInt = ((n 88)).toInt) (show (1 : Int32).toInt = 1 from rfl) (by omega)) (show (1 : Int32).toInt = 1 from rfl) (by omega)) (show (1 : Int32).toInt = 1 from rfl) (by omega)) (show (1 : Int32).toInt = 1 from rfl) (by omega)); omega), (by (try rw [(show (va_up (va_up (va_up (va_up (va_up n 88 ((n 88) + 1)) 88 (((n 88) + 1) + 1)) 88 ((((n 88) + 1) + 1) + 1)) 88 (((((n 88) + 1) + 1) + 1) + 1)) 89 1) 88 = (((((n 88) + 1) + 1) + 1) + 1) from rfl)]); have q1_ := (T_add (T_add (T_add (T_add (rfl : ((n 88)).toInt = ((n 88)).toInt) (show (1 : Int32).toInt = 1 from rfl) (by omega)) (show (1 : Int32).toInt = 1 from rfl) (by omega)) (show (1 : Int32).toInt = 1 from rfl) (by omega)) (show (1 : Int32).toInt = 1 from rfl) (by omega)); omega)⟩)
                            · exact absurd c_18_15 (by decide)
                          · exact absurd c_28_14 (by decide)
              ·
                try simp only [mIn_0, lgc_lt, lgc_gt, lgc_le, lgc_ge, lgc_eq] at c_23_4
                try simp only [fl_lt, fl_le, fl_eq, fL_w, fL_lt, fL_le, tm1, tm10k, tm9, tm99, Int32.reduceToInt, Int64.reduceToInt, Int.not_lt, Int.not_le] at c_23_4
                refine gz_iload_n dX12_digits_26 rfl rfl ?_
                refine gz_iconst (v := 1) dX12_digits_27 (by decide) ?_
                refine gz_icmp_le (tgt := 34) dX12_digits_28 (by decide) (fun c_28 => ?_) (fun c_28 => ?_)
                · exact absurd c_28 (by decide)
                ·
                  try simp only [mIn_0, lgc_lt, lgc_gt, lgc_le, lgc_ge, lgc_eq] at c_28
                  try simp only [fl_lt, fl_le, fl_eq, fL_w, fL_lt, fL_le, tm1, tm10k, tm9, tm99, Int32.reduceToInt, Int64.reduceToInt, Int.not_lt, Int.not_le] at c_28
                  refine gz_goto (tgt := 63) dX12_digits_31 (by decide) ?_
                  refine gz_iload_n dX12_digits_63 rfl rfl ?_
                  refine gz_bipush (v := 10) dX12_digits_64 (by decide) ?_
                  refine gz_idiv dX12_digits_66 (by decide) ?_
                  refine gz_ev (w := .int 10) (by decide) ?_
                  refine gz_istore_n (lv' := [(2, .int 10), (0, .ref m), (1, .int x1)]) dX12_digits_67 rfl (by decide) rfl ?_
                  refine gz_goto (tgt := 17) dX12_digits_68 (by decide) ?_
                  refine gz_iload_n dX12_digits_17 rfl rfl ?_
                  refine gz_if_le (tgt := 71) dX12_digits_18 (by decide) (fun c_18_16 => ?_) (fun c_18_16 => ?_)
                  · exact absurd c_18_16 (by decide)
                  ·
                    try simp only [mIn_0, lgc_lt, lgc_gt, lgc_le, lgc_ge, lgc_eq] at c_18_16
                    try simp only [fl_lt, fl_le, fl_eq, fL_w, fL_lt, fL_le, tm1, tm10k, tm9, tm99, Int32.reduceToInt, Int64.reduceToInt, Int.not_lt, Int.not_le] at c_18_16
                    refine gz_iload_n dX12_digits_21 rfl rfl ?_
                    refine gz_iload_n dX12_digits_22 rfl rfl ?_
                    refine gz_icmp_ge (tgt := 34) dX12_digits_23 (by decide) (fun c_23_17 => ?_) (fun c_23_17 => ?_)
                    ·
                      try simp only [mIn_0, lgc_lt, lgc_gt, lgc_le, lgc_ge, lgc_eq] at c_23_17
                      try simp only [fl_lt, fl_le, fl_eq, fL_w, fL_lt, fL_le, tm1, tm10k, tm9, tm99, Int32.reduceToInt, Int64.reduceToInt, Int.not_lt, Int.not_le] at c_23_17
                      refine gz_aload_n dX12_digits_34 rfl rfl ?_
                      refine mg_240 hS_4 dX12_digits_35 ?_
                      refine gz_aload_n dX12_digits_38 rfl rfl ?_
                      refine mg_541 hS_4 dX12_digits_39 ?_
                      refine gz_ev (w := .int (((n 88) + 1) + 1)) rfl ?_
                      refine gz_bipush (v := 48) dX12_digits_42 (by decide) ?_
                      refine gz_iload_n dX12_digits_44 rfl rfl ?_
                      refine gz_iload_n dX12_digits_45 rfl rfl ?_
                      refine gz_idiv dX12_digits_46 (by decide) ?_
                      refine gz_bipush (v := 10) dX12_digits_47 (by decide) ?_
                      refine gz_irem dX12_digits_49 (by decide) ?_
                      refine gz_iadd dX12_digits_50 ?_
                      refine gz_i2b dX12_digits_51 ?_
                      refine m_bast 87 hS_4 rfl (N := 1000) rfl ((by have q9 := (T_add (T_add (rfl : ((n 88)).toInt = ((n 88)).toInt) (show (1 : Int32).toInt = 1 from rfl) (by omega)) (show (1 : Int32).toInt = 1 from rfl) (by omega)); exact vin_T q9 (by omega) (by omega))) dX12_digits_52 (fun f_21 hS_21q => ?_)
                      have hS_21 : mS cy m a f0 (va_up (va_up n 88 ((n 88) + 1)) 88 (((n 88) + 1) + 1)) z (va_up (va_up (va_up F 87 (upd (F 87) (Int32.toNatClampNeg (n 88)) (vp_nar .byte ((48 + ((x1 / 10000) - (x1 / 10000) / 10 * 10)).toInt8.toInt32)))) 87 (upd (upd (F 87) (Int32.toNatClampNeg (n 88)) (vp_nar .byte ((48 + ((x1 / 10000) - (x1 / 10000) / 10 * 10)).toInt8.toInt32))) (Int32.toNatClampNeg ((n 88) + 1)) (vp_nar .byte ((48 + ((x1 / 1000) - (x1 / 1000) / 10 * 10)).toInt8.toInt32)))) 87 (upd (upd (upd (F 87) (Int32.toNatClampNeg (n 88)) (vp_nar .byte ((48 + ((x1 / 10000) - (x1 / 10000) / 10 * 10)).toInt8.toInt32))) (Int32.toNatClampNeg ((n 88) + 1)) (vp_nar .byte ((48 + ((x1 / 1000) - (x1 / 1000) / 10 * 10)).toInt8.toInt32))) (Int32.toNatClampNeg (((n 88) + 1) + 1)) (vp_nar .byte ((48 + ((x1 / 10) - (x1 / 10) / 10 * 10)).toInt8.toInt32)))) G f_21 := hS_21q
                      refine gz_aload_n dX12_digits_53 rfl rfl ?_
                      refine gz_dup dX12_digits_54 rfl ?_
                      refine mg_541 hS_21 dX12_digits_55 ?_
                      refine gz_ev (w := .int (((n 88) + 1) + 1)) rfl ?_
                      refine gz_iconst (v := 1) dX12_digits_58 (by decide) ?_
                      refine gz_iadd dX12_digits_59 ?_
                      refine mp_541 hS_21 dX12_digits_60 (fun f_22 hS_22 => ?_)
                      refine gz_iload_n dX12_digits_63 rfl rfl ?_
                      refine gz_bipush (v := 10) dX12_digits_64 (by decide) ?_
                      refine gz_idiv dX12_digits_66 (by decide) ?_
                      refine gz_ev (w := .int 1) (by decide) ?_
                      refine gz_istore_n (lv' := [(2, .int 1), (0, .ref m), (1, .int x1)]) dX12_digits_67 rfl (by decide) rfl ?_
                      refine gz_goto (tgt := 17) dX12_digits_68 (by decide) ?_
                      refine gz_iload_n dX12_digits_17 rfl rfl ?_
                      refine gz_if_le (tgt := 71) dX12_digits_18 (by decide) (fun c_18_18 => ?_) (fun c_18_18 => ?_)
                      · exact absurd c_18_18 (by decide)
                      ·
                        try simp only [mIn_0, lgc_lt, lgc_gt, lgc_le, lgc_ge, lgc_eq] at c_18_18
                        try simp only [fl_lt, fl_le, fl_eq, fL_w, fL_lt, fL_le, tm1, tm10k, tm9, tm99, Int32.reduceToInt, Int64.reduceToInt, Int.not_lt, Int.not_le] at c_18_18
                        refine gz_iload_n dX12_digits_21 rfl rfl ?_
                        refine gz_iload_n dX12_digits_22 rfl rfl ?_
                        refine gz_icmp_ge (tgt := 34) dX12_digits_23 (by decide) (fun c_23_19 => ?_) (fun c_23_19 => ?_)
                        ·
                          try simp only [mIn_0, lgc_lt, lgc_gt, lgc_le, lgc_ge, lgc_eq] at c_23_19
                          try simp only [fl_lt, fl_le, fl_eq, fL_w, fL_lt, fL_le, tm1, tm10k, tm9, tm99, Int32.reduceToInt, Int64.reduceToInt, Int.not_lt, Int.not_le] at c_23_19
                          refine gz_aload_n dX12_digits_34 rfl rfl ?_
                          refine mg_240 hS_22 dX12_digits_35 ?_
                          refine gz_aload_n dX12_digits_38 rfl rfl ?_
                          refine mg_541 hS_22 dX12_digits_39 ?_
                          refine gz_ev (w := .int ((((n 88) + 1) + 1) + 1)) rfl ?_
                          refine gz_bipush (v := 48) dX12_digits_42 (by decide) ?_
                          refine gz_iload_n dX12_digits_44 rfl rfl ?_
                          refine gz_iload_n dX12_digits_45 rfl rfl ?_
                          refine gz_idiv dX12_digits_46 (by decide) ?_
                          refine gz_bipush (v := 10) dX12_digits_47 (by decide) ?_
                          refine gz_irem dX12_digits_49 (by decide) ?_
                          refine gz_iadd dX12_digits_50 ?_
                          refine gz_i2b dX12_digits_51 ?_
                          refine m_bast 87 hS_22 rfl (N := 1000) rfl ((by have q9 := (T_add (T_add (T_add (rfl : ((n 88)).toInt = ((n 88)).toInt) (show (1 : Int32).toInt = 1 from rfl) (by omega)) (show (1 : Int32).toInt = 1 from rfl) (by omega)) (show (1 : Int32).toInt = 1 from rfl) (by omega)); exact vin_T q9 (by omega) (by omega))) dX12_digits_52 (fun f_23 hS_23q => ?_)
                          have hS_23 : mS cy m a f0 (va_up (va_up (va_up n 88 ((n 88) + 1)) 88 (((n 88) + 1) + 1)) 88 ((((n 88) + 1) + 1) + 1)) z (va_up (va_up (va_up (va_up F 87 (upd (F 87) (Int32.toNatClampNeg (n 88)) (vp_nar .byte ((48 + ((x1 / 10000) - (x1 / 10000) / 10 * 10)).toInt8.toInt32)))) 87 (upd (upd (F 87) (Int32.toNatClampNeg (n 88)) (vp_nar .byte ((48 + ((x1 / 10000) - (x1 / 10000) / 10 * 10)).toInt8.toInt32))) (Int32.toNatClampNeg ((n 88) + 1)) (vp_nar .byte ((48 + ((x1 / 1000) - (x1 / 1000) / 10 * 10)).toInt8.toInt32)))) 87 (upd (upd (upd (F 87) (Int32.toNatClampNeg (n 88)) (vp_nar .byte ((48 + ((x1 / 10000) - (x1 / 10000) / 10 * 10)).toInt8.toInt32))) (Int32.toNatClampNeg ((n 88) + 1)) (vp_nar .byte ((48 + ((x1 / 1000) - (x1 / 1000) / 10 * 10)).toInt8.toInt32))) (Int32.toNatClampNeg (((n 88) + 1) + 1)) (vp_nar .byte ((48 + ((x1 / 10) - (x1 / 10) / 10 * 10)).toInt8.toInt32)))) 87 (upd (upd (upd (upd (F 87) (Int32.toNatClampNeg (n 88)) (vp_nar .byte ((48 + ((x1 / 10000) - (x1 / 10000) / 10 * 10)).toInt8.toInt32))) (Int32.toNatClampNeg ((n 88) + 1)) (vp_nar .byte ((48 + ((x1 / 1000) - (x1 / 1000) / 10 * 10)).toInt8.toInt32))) (Int32.toNatClampNeg (((n 88) + 1) + 1)) (vp_nar .byte ((48 + ((x1 / 10) - (x1 / 10) / 10 * 10)).toInt8.toInt32))) (Int32.toNatClampNeg ((((n 88) + 1) + 1) + 1)) (vp_nar .byte ((48 + ((x1 / 1) - (x1 / 1) / 10 * 10)).toInt8.toInt32)))) G f_23 := hS_23q
                          refine gz_aload_n dX12_digits_53 rfl rfl ?_
                          refine gz_dup dX12_digits_54 rfl ?_
                          refine mg_541 hS_23 dX12_digits_55 ?_
                          refine gz_ev (w := .int ((((n 88) + 1) + 1) + 1)) rfl ?_
                          refine gz_iconst (v := 1) dX12_digits_58 (by decide) ?_
                          refine gz_iadd dX12_digits_59 ?_
                          refine mp_541 hS_23 dX12_digits_60 (fun f_24 hS_24 => ?_)
                          refine gz_iload_n dX12_digits_63 rfl rfl ?_
                          refine gz_bipush (v := 10) dX12_digits_64 (by decide) ?_
                          refine gz_idiv dX12_digits_66 (by decide) ?_
                          refine gz_ev (w := .int 0) (by decide) ?_
                          refine gz_istore_n (lv' := [(2, .int 0), (0, .ref m), (1, .int x1)]) dX12_digits_67 rfl (by decide) rfl ?_
                          refine gz_goto (tgt := 17) dX12_digits_68 (by decide) ?_
                          refine gz_iload_n dX12_digits_17 rfl rfl ?_
                          refine gz_if_le (tgt := 71) dX12_digits_18 (by decide) (fun c_18_20 => ?_) (fun c_18_20 => ?_)
                          ·
                            try simp only [mIn_0, lgc_lt, lgc_gt, lgc_le, lgc_ge, lgc_eq] at c_18_20
                            try simp only [fl_lt, fl_le, fl_eq, fL_w, fL_lt, fL_le, tm1, tm10k, tm9, tm99, Int32.reduceToInt, Int64.reduceToInt, Int.not_lt, Int.not_le] at c_18_20
                            refine gz_aload_n dX12_digits_71 rfl rfl ?_
                            refine gz_iconst (v := 1) dX12_digits_72 (by decide) ?_
                            refine mp_544 hS_24 ⟨rfl, rfl⟩ dX12_digits_73 (fun f_25 hS_25 => ?_)
                            exact gz_vret rfl dX12_digits_76 (Nat.le_of_ble_eq_true rfl) (Nat.le_of_ble_eq_true rfl) (⟨rfl, _, _, _, _, hS_25, (fx_n (fx_n (fx_F (fx_n (fx_F (fx_n (fx_F (fx_n (fx_F fx_rf (by decide)) (by decide)) (by decide)) (by decide)) (by decide)) (by decide)) (by decide)) (by decide)) (by decide)), (by (try rw [(show (va_up (va_up (va_up (va_up (va_up n 88 ((n 88) + 1)) 88 (((n 88) + 1) + 1)) 88 ((((n 88) + 1) + 1) + 1)) 88 (((((n 88) + 1) + 1) + 1) + 1)) 89 1) 88 = (((((n 88) + 1) + 1) + 1) + 1) from rfl)]); have q1_ := (T_add (T_add (T_add (T_add (rfl : ((n 88)).toInt = ((n 88)).toInt) (show (1 : Int32).toInt = 1 from rfl) (by omega)) (show (1 : Int32).toInt = 1 from rfl) (by omega)) (show (1 : Int32).toInt = 1 from rfl) (by omega)) (show (1 : Int32).toInt = 1 from rfl) (by omega)); omega), (by (try rw [(show (va_up (va_up (va_up (va_up (va_up n 88 ((n 88) + 1)) 88 (((n 88) + 1) + 1)) 88 ((((n 88) + 1) + 1) + 1)) 88 (((((n 88) + 1) + 1) + 1) + 1)) 89 1) 88 = (((((n 88) + 1) + 1) + 1) + 1) from rfl)]); have q1_ := (T_add (T_add (T_add (T_add (rfl : ((n 88)).toInt = ((n 88)).toInt) (show (1 : Int32).toInt = 1 from rfl) (by omega)) (show (1 : Int32).toInt = 1 from rfl) (by omega)) (show (1 : Int32).toInt = 1 from rfl) (by omega)) (show (1 : Int32).toInt = 1 from rfl) (by omega)); omega)⟩)
                          · exact absurd c_18_20 (by decide)
                        ·
                          try simp only [mIn_0, lgc_lt, lgc_gt, lgc_le, lgc_ge, lgc_eq] at c_23_19
                          try simp only [fl_lt, fl_le, fl_eq, fL_w, fL_lt, fL_le, tm1, tm10k, tm9, tm99, Int32.reduceToInt, Int64.reduceToInt, Int.not_lt, Int.not_le] at c_23_19
                          refine gz_iload_n dX12_digits_26 rfl rfl ?_
                          refine gz_iconst (v := 1) dX12_digits_27 (by decide) ?_
                          refine gz_icmp_le (tgt := 34) dX12_digits_28 (by decide) (fun c_28_21 => ?_) (fun c_28_21 => ?_)
                          ·
                            try simp only [mIn_0, lgc_lt, lgc_gt, lgc_le, lgc_ge, lgc_eq] at c_28_21
                            try simp only [fl_lt, fl_le, fl_eq, fL_w, fL_lt, fL_le, tm1, tm10k, tm9, tm99, Int32.reduceToInt, Int64.reduceToInt, Int.not_lt, Int.not_le] at c_28_21
                            refine gz_aload_n dX12_digits_34 rfl rfl ?_
                            refine mg_240 hS_22 dX12_digits_35 ?_
                            refine gz_aload_n dX12_digits_38 rfl rfl ?_
                            refine mg_541 hS_22 dX12_digits_39 ?_
                            refine gz_ev (w := .int ((((n 88) + 1) + 1) + 1)) rfl ?_
                            refine gz_bipush (v := 48) dX12_digits_42 (by decide) ?_
                            refine gz_iload_n dX12_digits_44 rfl rfl ?_
                            refine gz_iload_n dX12_digits_45 rfl rfl ?_
                            refine gz_idiv dX12_digits_46 (by decide) ?_
                            refine gz_bipush (v := 10) dX12_digits_47 (by decide) ?_
                            refine gz_irem dX12_digits_49 (by decide) ?_
                            refine gz_iadd dX12_digits_50 ?_
                            refine gz_i2b dX12_digits_51 ?_
                            refine m_bast 87 hS_22 rfl (N := 1000) rfl ((by have q9 := (T_add (T_add (T_add (rfl : ((n 88)).toInt = ((n 88)).toInt) (show (1 : Int32).toInt = 1 from rfl) (by omega)) (show (1 : Int32).toInt = 1 from rfl) (by omega)) (show (1 : Int32).toInt = 1 from rfl) (by omega)); exact vin_T q9 (by omega) (by omega))) dX12_digits_52 (fun f_26 hS_26q => ?_)
                            have hS_26 : mS cy m a f0 (va_up (va_up (va_up n 88 ((n 88) + 1)) 88 (((n 88) + 1) + 1)) 88 ((((n 88) + 1) + 1) + 1)) z (va_up (va_up (va_up (va_up F 87 (upd (F 87) (Int32.toNatClampNeg (n 88)) (vp_nar .byte ((48 + ((x1 / 10000) - (x1 / 10000) / 10 * 10)).toInt8.toInt32)))) 87 (upd (upd (F 87) (Int32.toNatClampNeg (n 88)) (vp_nar .byte ((48 + ((x1 / 10000) - (x1 / 10000) / 10 * 10)).toInt8.toInt32))) (Int32.toNatClampNeg ((n 88) + 1)) (vp_nar .byte ((48 + ((x1 / 1000) - (x1 / 1000) / 10 * 10)).toInt8.toInt32)))) 87 (upd (upd (upd (F 87) (Int32.toNatClampNeg (n 88)) (vp_nar .byte ((48 + ((x1 / 10000) - (x1 / 10000) / 10 * 10)).toInt8.toInt32))) (Int32.toNatClampNeg ((n 88) + 1)) (vp_nar .byte ((48 + ((x1 / 1000) - (x1 / 1000) / 10 * 10)).toInt8.toInt32))) (Int32.toNatClampNeg (((n 88) + 1) + 1)) (vp_nar .byte ((48 + ((x1 / 10) - (x1 / 10) / 10 * 10)).toInt8.toInt32)))) 87 (upd (upd (upd (upd (F 87) (Int32.toNatClampNeg (n 88)) (vp_nar .byte ((48 + ((x1 / 10000) - (x1 / 10000) / 10 * 10)).toInt8.toInt32))) (Int32.toNatClampNeg ((n 88) + 1)) (vp_nar .byte ((48 + ((x1 / 1000) - (x1 / 1000) / 10 * 10)).toInt8.toInt32))) (Int32.toNatClampNeg (((n 88) + 1) + 1)) (vp_nar .byte ((48 + ((x1 / 10) - (x1 / 10) / 10 * 10)).toInt8.toInt32))) (Int32.toNatClampNeg ((((n 88) + 1) + 1) + 1)) (vp_nar .byte ((48 + ((x1 / 1) - (x1 / 1) / 10 * 10)).toInt8.toInt32)))) G f_26 := hS_26q
                            refine gz_aload_n dX12_digits_53 rfl rfl ?_
                            refine gz_dup dX12_digits_54 rfl ?_
                            refine mg_541 hS_26 dX12_digits_55 ?_
                            refine gz_ev (w := .int ((((n 88) + 1) + 1) + 1)) rfl ?_
                            refine gz_iconst (v := 1) dX12_digits_58 (by decide) ?_
                            refine gz_iadd dX12_digits_59 ?_
                            refine mp_541 hS_26 dX12_digits_60 (fun f_27 hS_27 => ?_)
                            refine gz_iload_n dX12_digits_63 rfl rfl ?_
                            refine gz_bipush (v := 10) dX12_digits_64 (by decide) ?_
                            refine gz_idiv dX12_digits_66 (by decide) ?_
                            refine gz_ev (w := .int 0) (by decide) ?_
                            refine gz_istore_n (lv' := [(2, .int 0), (0, .ref m), (1, .int x1)]) dX12_digits_67 rfl (by decide) rfl ?_
                            refine gz_goto (tgt := 17) dX12_digits_68 (by decide) ?_
                            refine gz_iload_n dX12_digits_17 rfl rfl ?_
                            refine gz_if_le (tgt := 71) dX12_digits_18 (by decide) (fun c_18_22 => ?_) (fun c_18_22 => ?_)
                            ·
                              try simp only [mIn_0, lgc_lt, lgc_gt, lgc_le, lgc_ge, lgc_eq] at c_18_22
                              try simp only [fl_lt, fl_le, fl_eq, fL_w, fL_lt, fL_le, tm1, tm10k, tm9, tm99, Int32.reduceToInt, Int64.reduceToInt, Int.not_lt, Int.not_le] at c_18_22
                              refine gz_aload_n dX12_digits_71 rfl rfl ?_
                              refine gz_iconst (v := 1) dX12_digits_72 (by decide) ?_
                              refine mp_544 hS_27 ⟨rfl, rfl⟩ dX12_digits_73 (fun f_28 hS_28 => ?_)
                              exact gz_vret rfl dX12_digits_76 (Nat.le_of_ble_eq_true rfl) (Nat.le_of_ble_eq_true rfl) (⟨rfl, _, _, _, _, hS_28, (fx_n (fx_n (fx_F (fx_n (fx_F (fx_n (fx_F (fx_n (fx_F fx_rf (by decide)) (by decide)) (by decide)) (by decide)) (by decide)) (by decide)) (by decide)) (by decide)) (by decide)), (by (try rw [(show (va_up (va_up (va_up (va_up (va_up n 88 ((n 88) + 1)) 88 (((n 88) + 1) + 1)) 88 ((((n 88) + 1) + 1) + 1)) 88 (((((n 88) + 1) + 1) + 1) + 1)) 89 1) 88 = (((((n 88) + 1) + 1) + 1) + 1) from rfl)]); have q1_ := (T_add (T_add (T_add (T_add (rfl : ((n 88)).toInt = ((n 88)).toInt) (show (1 : Int32).toInt = 1 from rfl) (by omega)) (show (1 : Int32).toInt = 1 from rfl) (by omega)) (show (1 : Int32).toInt = 1 from rfl) (by omega)) (show (1 : Int32).toInt = 1 from rfl) (by omega)); omega), (by (try rw [(show (va_up (va_up (va_up (va_up (va_up n 88 ((n 88) + 1)) 88 (((n 88) + 1) + 1)) 88 ((((n 88) + 1) + 1) + 1)) 88 (((((n 88) + 1) + 1) + 1) + 1)) 89 1) 88 = (((((n 88) + 1) + 1) + 1) + 1) from rfl)]); have q1_ := (T_add (T_add (T_add (T_add (rfl : ((n 88)).toInt = ((n 88)).toInt) (show (1 : Int32).toInt = 1 from rfl) (by omega)) (show (1 : Int32).toInt = 1 from rfl) (by omega)) (show (1 : Int32).toInt = 1 from rfl) (by omega)) (show (1 : Int32).toInt = 1 from rfl) (by omega)); omega)⟩)
                            · exact absurd c_18_22 (by decide)
                          · exact absurd c_28_21 (by decide)
                    ·
                      try simp only [mIn_0, lgc_lt, lgc_gt, lgc_le, lgc_ge, lgc_eq] at c_23_17
                      try simp only [fl_lt, fl_le, fl_eq, fL_w, fL_lt, fL_le, tm1, tm10k, tm9, tm99, Int32.reduceToInt, Int64.reduceToInt, Int.not_lt, Int.not_le] at c_23_17
                      refine gz_iload_n dX12_digits_26 rfl rfl ?_
                      refine gz_iconst (v := 1) dX12_digits_27 (by decide) ?_
                      refine gz_icmp_le (tgt := 34) dX12_digits_28 (by decide) (fun c_28_23 => ?_) (fun c_28_23 => ?_)
                      · exact absurd c_28_23 (by decide)
                      ·
                        try simp only [mIn_0, lgc_lt, lgc_gt, lgc_le, lgc_ge, lgc_eq] at c_28_23
                        try simp only [fl_lt, fl_le, fl_eq, fL_w, fL_lt, fL_le, tm1, tm10k, tm9, tm99, Int32.reduceToInt, Int64.reduceToInt, Int.not_lt, Int.not_le] at c_28_23
                        refine gz_goto (tgt := 63) dX12_digits_31 (by decide) ?_
                        refine gz_iload_n dX12_digits_63 rfl rfl ?_
                        refine gz_bipush (v := 10) dX12_digits_64 (by decide) ?_
                        refine gz_idiv dX12_digits_66 (by decide) ?_
                        refine gz_ev (w := .int 1) (by decide) ?_
                        refine gz_istore_n (lv' := [(2, .int 1), (0, .ref m), (1, .int x1)]) dX12_digits_67 rfl (by decide) rfl ?_
                        refine gz_goto (tgt := 17) dX12_digits_68 (by decide) ?_
                        refine gz_iload_n dX12_digits_17 rfl rfl ?_
                        refine gz_if_le (tgt := 71) dX12_digits_18 (by decide) (fun c_18_24 => ?_) (fun c_18_24 => ?_)
                        · exact absurd c_18_24 (by decide)
                        ·
                          try simp only [mIn_0, lgc_lt, lgc_gt, lgc_le, lgc_ge, lgc_eq] at c_18_24
                          try simp only [fl_lt, fl_le, fl_eq, fL_w, fL_lt, fL_le, tm1, tm10k, tm9, tm99, Int32.reduceToInt, Int64.reduceToInt, Int.not_lt, Int.not_le] at c_18_24
                          refine gz_iload_n dX12_digits_21 rfl rfl ?_
                          refine gz_iload_n dX12_digits_22 rfl rfl ?_
                          refine gz_icmp_ge (tgt := 34) dX12_digits_23 (by decide) (fun c_23_25 => ?_) (fun c_23_25 => ?_)
                          ·
                            try simp only [mIn_0, lgc_lt, lgc_gt, lgc_le, lgc_ge, lgc_eq] at c_23_25
                            try simp only [fl_lt, fl_le, fl_eq, fL_w, fL_lt, fL_le, tm1, tm10k, tm9, tm99, Int32.reduceToInt, Int64.reduceToInt, Int.not_lt, Int.not_le] at c_23_25
                            refine gz_aload_n dX12_digits_34 rfl rfl ?_
                            refine mg_240 hS_4 dX12_digits_35 ?_
                            refine gz_aload_n dX12_digits_38 rfl rfl ?_
                            refine mg_541 hS_4 dX12_digits_39 ?_
                            refine gz_ev (w := .int (((n 88) + 1) + 1)) rfl ?_
                            refine gz_bipush (v := 48) dX12_digits_42 (by decide) ?_
                            refine gz_iload_n dX12_digits_44 rfl rfl ?_
                            refine gz_iload_n dX12_digits_45 rfl rfl ?_
                            refine gz_idiv dX12_digits_46 (by decide) ?_
                            refine gz_bipush (v := 10) dX12_digits_47 (by decide) ?_
                            refine gz_irem dX12_digits_49 (by decide) ?_
                            refine gz_iadd dX12_digits_50 ?_
                            refine gz_i2b dX12_digits_51 ?_
                            refine m_bast 87 hS_4 rfl (N := 1000) rfl ((by have q9 := (T_add (T_add (rfl : ((n 88)).toInt = ((n 88)).toInt) (show (1 : Int32).toInt = 1 from rfl) (by omega)) (show (1 : Int32).toInt = 1 from rfl) (by omega)); exact vin_T q9 (by omega) (by omega))) dX12_digits_52 (fun f_29 hS_29q => ?_)
                            have hS_29 : mS cy m a f0 (va_up (va_up n 88 ((n 88) + 1)) 88 (((n 88) + 1) + 1)) z (va_up (va_up (va_up F 87 (upd (F 87) (Int32.toNatClampNeg (n 88)) (vp_nar .byte ((48 + ((x1 / 10000) - (x1 / 10000) / 10 * 10)).toInt8.toInt32)))) 87 (upd (upd (F 87) (Int32.toNatClampNeg (n 88)) (vp_nar .byte ((48 + ((x1 / 10000) - (x1 / 10000) / 10 * 10)).toInt8.toInt32))) (Int32.toNatClampNeg ((n 88) + 1)) (vp_nar .byte ((48 + ((x1 / 1000) - (x1 / 1000) / 10 * 10)).toInt8.toInt32)))) 87 (upd (upd (upd (F 87) (Int32.toNatClampNeg (n 88)) (vp_nar .byte ((48 + ((x1 / 10000) - (x1 / 10000) / 10 * 10)).toInt8.toInt32))) (Int32.toNatClampNeg ((n 88) + 1)) (vp_nar .byte ((48 + ((x1 / 1000) - (x1 / 1000) / 10 * 10)).toInt8.toInt32))) (Int32.toNatClampNeg (((n 88) + 1) + 1)) (vp_nar .byte ((48 + ((x1 / 1) - (x1 / 1) / 10 * 10)).toInt8.toInt32)))) G f_29 := hS_29q
                            refine gz_aload_n dX12_digits_53 rfl rfl ?_
                            refine gz_dup dX12_digits_54 rfl ?_
                            refine mg_541 hS_29 dX12_digits_55 ?_
                            refine gz_ev (w := .int (((n 88) + 1) + 1)) rfl ?_
                            refine gz_iconst (v := 1) dX12_digits_58 (by decide) ?_
                            refine gz_iadd dX12_digits_59 ?_
                            refine mp_541 hS_29 dX12_digits_60 (fun f_30 hS_30 => ?_)
                            refine gz_iload_n dX12_digits_63 rfl rfl ?_
                            refine gz_bipush (v := 10) dX12_digits_64 (by decide) ?_
                            refine gz_idiv dX12_digits_66 (by decide) ?_
                            refine gz_ev (w := .int 0) (by decide) ?_
                            refine gz_istore_n (lv' := [(2, .int 0), (0, .ref m), (1, .int x1)]) dX12_digits_67 rfl (by decide) rfl ?_
                            refine gz_goto (tgt := 17) dX12_digits_68 (by decide) ?_
                            refine gz_iload_n dX12_digits_17 rfl rfl ?_
                            refine gz_if_le (tgt := 71) dX12_digits_18 (by decide) (fun c_18_26 => ?_) (fun c_18_26 => ?_)
                            ·
                              try simp only [mIn_0, lgc_lt, lgc_gt, lgc_le, lgc_ge, lgc_eq] at c_18_26
                              try simp only [fl_lt, fl_le, fl_eq, fL_w, fL_lt, fL_le, tm1, tm10k, tm9, tm99, Int32.reduceToInt, Int64.reduceToInt, Int.not_lt, Int.not_le] at c_18_26
                              refine gz_aload_n dX12_digits_71 rfl rfl ?_
                              refine gz_iconst (v := 1) dX12_digits_72 (by decide) ?_
                              refine mp_544 hS_30 ⟨rfl, rfl⟩ dX12_digits_73 (fun f_31 hS_31 => ?_)
                              exact gz_vret rfl dX12_digits_76 (Nat.le_of_ble_eq_true rfl) (Nat.le_of_ble_eq_true rfl) (⟨rfl, _, _, _, _, hS_31, (fx_n (fx_n (fx_F (fx_n (fx_F (fx_n (fx_F fx_rf (by decide)) (by decide)) (by decide)) (by decide)) (by decide)) (by decide)) (by decide)), (by (try rw [(show (va_up (va_up (va_up (va_up n 88 ((n 88) + 1)) 88 (((n 88) + 1) + 1)) 88 ((((n 88) + 1) + 1) + 1)) 89 1) 88 = ((((n 88) + 1) + 1) + 1) from rfl)]); have q1_ := (T_add (T_add (T_add (rfl : ((n 88)).toInt = ((n 88)).toInt) (show (1 : Int32).toInt = 1 from rfl) (by omega)) (show (1 : Int32).toInt = 1 from rfl) (by omega)) (show (1 : Int32).toInt = 1 from rfl) (by omega)); omega), (by (try rw [(show (va_up (va_up (va_up (va_up n 88 ((n 88) + 1)) 88 (((n 88) + 1) + 1)) 88 ((((n 88) + 1) + 1) + 1)) 89 1) 88 = ((((n 88) + 1) + 1) + 1) from rfl)]); have q1_ := (T_add (T_add (T_add (rfl : ((n 88)).toInt = ((n 88)).toInt) (show (1 : Int32).toInt = 1 from rfl) (by omega)) (show (1 : Int32).toInt = 1 from rfl) (by omega)) (show (1 : Int32).toInt = 1 from rfl) (by omega)); omega)⟩)
                            · exact absurd c_18_26 (by decide)
                          ·
                            try simp only [mIn_0, lgc_lt, lgc_gt, lgc_le, lgc_ge, lgc_eq] at c_23_25
                            try simp only [fl_lt, fl_le, fl_eq, fL_w, fL_lt, fL_le, tm1, tm10k, tm9, tm99, Int32.reduceToInt, Int64.reduceToInt, Int.not_lt, Int.not_le] at c_23_25
                            refine gz_iload_n dX12_digits_26 rfl rfl ?_
                            refine gz_iconst (v := 1) dX12_digits_27 (by decide) ?_
                            refine gz_icmp_le (tgt := 34) dX12_digits_28 (by decide) (fun c_28_27 => ?_) (fun c_28_27 => ?_)
                            ·
                              try simp only [mIn_0, lgc_lt, lgc_gt, lgc_le, lgc_ge, lgc_eq] at c_28_27
                              try simp only [fl_lt, fl_le, fl_eq, fL_w, fL_lt, fL_le, tm1, tm10k, tm9, tm99, Int32.reduceToInt, Int64.reduceToInt, Int.not_lt, Int.not_le] at c_28_27
                              refine gz_aload_n dX12_digits_34 rfl rfl ?_
                              refine mg_240 hS_4 dX12_digits_35 ?_
                              refine gz_aload_n dX12_digits_38 rfl rfl ?_
                              refine mg_541 hS_4 dX12_digits_39 ?_
                              refine gz_ev (w := .int (((n 88) + 1) + 1)) rfl ?_
                              refine gz_bipush (v := 48) dX12_digits_42 (by decide) ?_
                              refine gz_iload_n dX12_digits_44 rfl rfl ?_
                              refine gz_iload_n dX12_digits_45 rfl rfl ?_
                              refine gz_idiv dX12_digits_46 (by decide) ?_
                              refine gz_bipush (v := 10) dX12_digits_47 (by decide) ?_
                              refine gz_irem dX12_digits_49 (by decide) ?_
                              refine gz_iadd dX12_digits_50 ?_
                              refine gz_i2b dX12_digits_51 ?_
                              refine m_bast 87 hS_4 rfl (N := 1000) rfl ((by have q9 := (T_add (T_add (rfl : ((n 88)).toInt = ((n 88)).toInt) (show (1 : Int32).toInt = 1 from rfl) (by omega)) (show (1 : Int32).toInt = 1 from rfl) (by omega)); exact vin_T q9 (by omega) (by omega))) dX12_digits_52 (fun f_32 hS_32q => ?_)
                              have hS_32 : mS cy m a f0 (va_up (va_up n 88 ((n 88) + 1)) 88 (((n 88) + 1) + 1)) z (va_up (va_up (va_up F 87 (upd (F 87) (Int32.toNatClampNeg (n 88)) (vp_nar .byte ((48 + ((x1 / 10000) - (x1 / 10000) / 10 * 10)).toInt8.toInt32)))) 87 (upd (upd (F 87) (Int32.toNatClampNeg (n 88)) (vp_nar .byte ((48 + ((x1 / 10000) - (x1 / 10000) / 10 * 10)).toInt8.toInt32))) (Int32.toNatClampNeg ((n 88) + 1)) (vp_nar .byte ((48 + ((x1 / 1000) - (x1 / 1000) / 10 * 10)).toInt8.toInt32)))) 87 (upd (upd (upd (F 87) (Int32.toNatClampNeg (n 88)) (vp_nar .byte ((48 + ((x1 / 10000) - (x1 / 10000) / 10 * 10)).toInt8.toInt32))) (Int32.toNatClampNeg ((n 88) + 1)) (vp_nar .byte ((48 + ((x1 / 1000) - (x1 / 1000) / 10 * 10)).toInt8.toInt32))) (Int32.toNatClampNeg (((n 88) + 1) + 1)) (vp_nar .byte ((48 + ((x1 / 1) - (x1 / 1) / 10 * 10)).toInt8.toInt32)))) G f_32 := hS_32q
                              refine gz_aload_n dX12_digits_53 rfl rfl ?_
                              refine gz_dup dX12_digits_54 rfl ?_
                              refine mg_541 hS_32 dX12_digits_55 ?_
                              refine gz_ev (w := .int (((n 88) + 1) + 1)) rfl ?_
                              refine gz_iconst (v := 1) dX12_digits_58 (by decide) ?_
                              refine gz_iadd dX12_digits_59 ?_
                              refine mp_541 hS_32 dX12_digits_60 (fun f_33 hS_33 => ?_)
                              refine gz_iload_n dX12_digits_63 rfl rfl ?_
                              refine gz_bipush (v := 10) dX12_digits_64 (by decide) ?_
                              refine gz_idiv dX12_digits_66 (by decide) ?_
                              refine gz_ev (w := .int 0) (by decide) ?_
                              refine gz_istore_n (lv' := [(2, .int 0), (0, .ref m), (1, .int x1)]) dX12_digits_67 rfl (by decide) rfl ?_
                              refine gz_goto (tgt := 17) dX12_digits_68 (by decide) ?_
                              refine gz_iload_n dX12_digits_17 rfl rfl ?_
                              refine gz_if_le (tgt := 71) dX12_digits_18 (by decide) (fun c_18_28 => ?_) (fun c_18_28 => ?_)
                              ·
                                try simp only [mIn_0, lgc_lt, lgc_gt, lgc_le, lgc_ge, lgc_eq] at c_18_28
                                try simp only [fl_lt, fl_le, fl_eq, fL_w, fL_lt, fL_le, tm1, tm10k, tm9, tm99, Int32.reduceToInt, Int64.reduceToInt, Int.not_lt, Int.not_le] at c_18_28
                                refine gz_aload_n dX12_digits_71 rfl rfl ?_
                                refine gz_iconst (v := 1) dX12_digits_72 (by decide) ?_
                                refine mp_544 hS_33 ⟨rfl, rfl⟩ dX12_digits_73 (fun f_34 hS_34 => ?_)
                                exact gz_vret rfl dX12_digits_76 (Nat.le_of_ble_eq_true rfl) (Nat.le_of_ble_eq_true rfl) (⟨rfl, _, _, _, _, hS_34, (fx_n (fx_n (fx_F (fx_n (fx_F (fx_n (fx_F fx_rf (by decide)) (by decide)) (by decide)) (by decide)) (by decide)) (by decide)) (by decide)), (by (try rw [(show (va_up (va_up (va_up (va_up n 88 ((n 88) + 1)) 88 (((n 88) + 1) + 1)) 88 ((((n 88) + 1) + 1) + 1)) 89 1) 88 = ((((n 88) + 1) + 1) + 1) from rfl)]); have q1_ := (T_add (T_add (T_add (rfl : ((n 88)).toInt = ((n 88)).toInt) (show (1 : Int32).toInt = 1 from rfl) (by omega)) (show (1 : Int32).toInt = 1 from rfl) (by omega)) (show (1 : Int32).toInt = 1 from rfl) (by omega)); omega), (by (try rw [(show (va_up (va_up (va_up (va_up n 88 ((n 88) + 1)) 88 (((n 88) + 1) + 1)) 88 ((((n 88) + 1) + 1) + 1)) 89 1) 88 = ((((n 88) + 1) + 1) + 1) from rfl)]); have q1_ := (T_add (T_add (T_add (rfl : ((n 88)).toInt = ((n 88)).toInt) (show (1 : Int32).toInt = 1 from rfl) (by omega)) (show (1 : Int32).toInt = 1 from rfl) (by omega)) (show (1 : Int32).toInt = 1 from rfl) (by omega)); omega)⟩)
                              · exact absurd c_18_28 (by decide)
                            · exact absurd c_28_27 (by decide)
          ·
            try simp only [mIn_0, lgc_lt, lgc_gt, lgc_le, lgc_ge, lgc_eq] at c_23_2
            try simp only [fl_lt, fl_le, fl_eq, fL_w, fL_lt, fL_le, tm1, tm10k, tm9, tm99, Int32.reduceToInt, Int64.reduceToInt, Int.not_lt, Int.not_le] at c_23_2
            refine gz_iload_n dX12_digits_26 rfl rfl ?_
            refine gz_iconst (v := 1) dX12_digits_27 (by decide) ?_
            refine gz_icmp_le (tgt := 34) dX12_digits_28 (by decide) (fun c_28 => ?_) (fun c_28 => ?_)
            · exact absurd c_28 (by decide)
            ·
              try simp only [mIn_0, lgc_lt, lgc_gt, lgc_le, lgc_ge, lgc_eq] at c_28
              try simp only [fl_lt, fl_le, fl_eq, fL_w, fL_lt, fL_le, tm1, tm10k, tm9, tm99, Int32.reduceToInt, Int64.reduceToInt, Int.not_lt, Int.not_le] at c_28
              refine gz_goto (tgt := 63) dX12_digits_31 (by decide) ?_
              refine gz_iload_n dX12_digits_63 rfl rfl ?_
              refine gz_bipush (v := 10) dX12_digits_64 (by decide) ?_
              refine gz_idiv dX12_digits_66 (by decide) ?_
              refine gz_ev (w := .int 100) (by decide) ?_
              refine gz_istore_n (lv' := [(2, .int 100), (0, .ref m), (1, .int x1)]) dX12_digits_67 rfl (by decide) rfl ?_
              refine gz_goto (tgt := 17) dX12_digits_68 (by decide) ?_
              refine gz_iload_n dX12_digits_17 rfl rfl ?_
              refine gz_if_le (tgt := 71) dX12_digits_18 (by decide) (fun c_18_29 => ?_) (fun c_18_29 => ?_)
              · exact absurd c_18_29 (by decide)
              ·
                try simp only [mIn_0, lgc_lt, lgc_gt, lgc_le, lgc_ge, lgc_eq] at c_18_29
                try simp only [fl_lt, fl_le, fl_eq, fL_w, fL_lt, fL_le, tm1, tm10k, tm9, tm99, Int32.reduceToInt, Int64.reduceToInt, Int.not_lt, Int.not_le] at c_18_29
                refine gz_iload_n dX12_digits_21 rfl rfl ?_
                refine gz_iload_n dX12_digits_22 rfl rfl ?_
                refine gz_icmp_ge (tgt := 34) dX12_digits_23 (by decide) (fun c_23_30 => ?_) (fun c_23_30 => ?_)
                ·
                  try simp only [mIn_0, lgc_lt, lgc_gt, lgc_le, lgc_ge, lgc_eq] at c_23_30
                  try simp only [fl_lt, fl_le, fl_eq, fL_w, fL_lt, fL_le, tm1, tm10k, tm9, tm99, Int32.reduceToInt, Int64.reduceToInt, Int.not_lt, Int.not_le] at c_23_30
                  refine gz_aload_n dX12_digits_34 rfl rfl ?_
                  refine mg_240 hS_2 dX12_digits_35 ?_
                  refine gz_aload_n dX12_digits_38 rfl rfl ?_
                  refine mg_541 hS_2 dX12_digits_39 ?_
                  refine gz_ev (w := .int ((n 88) + 1)) rfl ?_
                  refine gz_bipush (v := 48) dX12_digits_42 (by decide) ?_
                  refine gz_iload_n dX12_digits_44 rfl rfl ?_
                  refine gz_iload_n dX12_digits_45 rfl rfl ?_
                  refine gz_idiv dX12_digits_46 (by decide) ?_
                  refine gz_bipush (v := 10) dX12_digits_47 (by decide) ?_
                  refine gz_irem dX12_digits_49 (by decide) ?_
                  refine gz_iadd dX12_digits_50 ?_
                  refine gz_i2b dX12_digits_51 ?_
                  refine m_bast 87 hS_2 rfl (N := 1000) rfl ((by have q9 := (T_add (rfl : ((n 88)).toInt = ((n 88)).toInt) (show (1 : Int32).toInt = 1 from rfl) (by omega)); exact vin_T q9 (by omega) (by omega))) dX12_digits_52 (fun f_35 hS_35q => ?_)
                  have hS_35 : mS cy m a f0 (va_up n 88 ((n 88) + 1)) z (va_up (va_up F 87 (upd (F 87) (Int32.toNatClampNeg (n 88)) (vp_nar .byte ((48 + ((x1 / 10000) - (x1 / 10000) / 10 * 10)).toInt8.toInt32)))) 87 (upd (upd (F 87) (Int32.toNatClampNeg (n 88)) (vp_nar .byte ((48 + ((x1 / 10000) - (x1 / 10000) / 10 * 10)).toInt8.toInt32))) (Int32.toNatClampNeg ((n 88) + 1)) (vp_nar .byte ((48 + ((x1 / 100) - (x1 / 100) / 10 * 10)).toInt8.toInt32)))) G f_35 := hS_35q
                  refine gz_aload_n dX12_digits_53 rfl rfl ?_
                  refine gz_dup dX12_digits_54 rfl ?_
                  refine mg_541 hS_35 dX12_digits_55 ?_
                  refine gz_ev (w := .int ((n 88) + 1)) rfl ?_
                  refine gz_iconst (v := 1) dX12_digits_58 (by decide) ?_
                  refine gz_iadd dX12_digits_59 ?_
                  refine mp_541 hS_35 dX12_digits_60 (fun f_36 hS_36 => ?_)
                  refine gz_iload_n dX12_digits_63 rfl rfl ?_
                  refine gz_bipush (v := 10) dX12_digits_64 (by decide) ?_
                  refine gz_idiv dX12_digits_66 (by decide) ?_
                  refine gz_ev (w := .int 10) (by decide) ?_
                  refine gz_istore_n (lv' := [(2, .int 10), (0, .ref m), (1, .int x1)]) dX12_digits_67 rfl (by decide) rfl ?_
                  refine gz_goto (tgt := 17) dX12_digits_68 (by decide) ?_
                  refine gz_iload_n dX12_digits_17 rfl rfl ?_
                  refine gz_if_le (tgt := 71) dX12_digits_18 (by decide) (fun c_18_31 => ?_) (fun c_18_31 => ?_)
                  · exact absurd c_18_31 (by decide)
                  ·
                    try simp only [mIn_0, lgc_lt, lgc_gt, lgc_le, lgc_ge, lgc_eq] at c_18_31
                    try simp only [fl_lt, fl_le, fl_eq, fL_w, fL_lt, fL_le, tm1, tm10k, tm9, tm99, Int32.reduceToInt, Int64.reduceToInt, Int.not_lt, Int.not_le] at c_18_31
                    refine gz_iload_n dX12_digits_21 rfl rfl ?_
                    refine gz_iload_n dX12_digits_22 rfl rfl ?_
                    refine gz_icmp_ge (tgt := 34) dX12_digits_23 (by decide) (fun c_23_32 => ?_) (fun c_23_32 => ?_)
                    ·
                      try simp only [mIn_0, lgc_lt, lgc_gt, lgc_le, lgc_ge, lgc_eq] at c_23_32
                      try simp only [fl_lt, fl_le, fl_eq, fL_w, fL_lt, fL_le, tm1, tm10k, tm9, tm99, Int32.reduceToInt, Int64.reduceToInt, Int.not_lt, Int.not_le] at c_23_32
                      refine gz_aload_n dX12_digits_34 rfl rfl ?_
                      refine mg_240 hS_36 dX12_digits_35 ?_
                      refine gz_aload_n dX12_digits_38 rfl rfl ?_
                      refine mg_541 hS_36 dX12_digits_39 ?_
                      refine gz_ev (w := .int (((n 88) + 1) + 1)) rfl ?_
                      refine gz_bipush (v := 48) dX12_digits_42 (by decide) ?_
                      refine gz_iload_n dX12_digits_44 rfl rfl ?_
                      refine gz_iload_n dX12_digits_45 rfl rfl ?_
                      refine gz_idiv dX12_digits_46 (by decide) ?_
                      refine gz_bipush (v := 10) dX12_digits_47 (by decide) ?_
                      refine gz_irem dX12_digits_49 (by decide) ?_
                      refine gz_iadd dX12_digits_50 ?_
                      refine gz_i2b dX12_digits_51 ?_
                      refine m_bast 87 hS_36 rfl (N := 1000) rfl ((by have q9 := (T_add (T_add (rfl : ((n 88)).toInt = ((n 88)).toInt) (show (1 : Int32).toInt = 1 from rfl) (by omega)) (show (1 : Int32).toInt = 1 from rfl) (by omega)); exact vin_T q9 (by omega) (by omega))) dX12_digits_52 (fun f_37 hS_37q => ?_)
                      have hS_37 : mS cy m a f0 (va_up (va_up n 88 ((n 88) + 1)) 88 (((n 88) + 1) + 1)) z (va_up (va_up (va_up F 87 (upd (F 87) (Int32.toNatClampNeg (n 88)) (vp_nar .byte ((48 + ((x1 / 10000) - (x1 / 10000) / 10 * 10)).toInt8.toInt32)))) 87 (upd (upd (F 87) (Int32.toNatClampNeg (n 88)) (vp_nar .byte ((48 + ((x1 / 10000) - (x1 / 10000) / 10 * 10)).toInt8.toInt32))) (Int32.toNatClampNeg ((n 88) + 1)) (vp_nar .byte ((48 + ((x1 / 100) - (x1 / 100) / 10 * 10)).toInt8.toInt32)))) 87 (upd (upd (upd (F 87) (Int32.toNatClampNeg (n 88)) (vp_nar .byte ((48 + ((x1 / 10000) - (x1 / 10000) / 10 * 10)).toInt8.toInt32))) (Int32.toNatClampNeg ((n 88) + 1)) (vp_nar .byte ((48 + ((x1 / 100) - (x1 / 100) / 10 * 10)).toInt8.toInt32))) (Int32.toNatClampNeg (((n 88) + 1) + 1)) (vp_nar .byte ((48 + ((x1 / 10) - (x1 / 10) / 10 * 10)).toInt8.toInt32)))) G f_37 := hS_37q
                      refine gz_aload_n dX12_digits_53 rfl rfl ?_
                      refine gz_dup dX12_digits_54 rfl ?_
                      refine mg_541 hS_37 dX12_digits_55 ?_
                      refine gz_ev (w := .int (((n 88) + 1) + 1)) rfl ?_
                      refine gz_iconst (v := 1) dX12_digits_58 (by decide) ?_
                      refine gz_iadd dX12_digits_59 ?_
                      refine mp_541 hS_37 dX12_digits_60 (fun f_38 hS_38 => ?_)
                      refine gz_iload_n dX12_digits_63 rfl rfl ?_
                      refine gz_bipush (v := 10) dX12_digits_64 (by decide) ?_
                      refine gz_idiv dX12_digits_66 (by decide) ?_
                      refine gz_ev (w := .int 1) (by decide) ?_
                      refine gz_istore_n (lv' := [(2, .int 1), (0, .ref m), (1, .int x1)]) dX12_digits_67 rfl (by decide) rfl ?_
                      refine gz_goto (tgt := 17) dX12_digits_68 (by decide) ?_
                      refine gz_iload_n dX12_digits_17 rfl rfl ?_
                      refine gz_if_le (tgt := 71) dX12_digits_18 (by decide) (fun c_18_33 => ?_) (fun c_18_33 => ?_)
                      · exact absurd c_18_33 (by decide)
                      ·
                        try simp only [mIn_0, lgc_lt, lgc_gt, lgc_le, lgc_ge, lgc_eq] at c_18_33
                        try simp only [fl_lt, fl_le, fl_eq, fL_w, fL_lt, fL_le, tm1, tm10k, tm9, tm99, Int32.reduceToInt, Int64.reduceToInt, Int.not_lt, Int.not_le] at c_18_33
                        refine gz_iload_n dX12_digits_21 rfl rfl ?_
                        refine gz_iload_n dX12_digits_22 rfl rfl ?_
                        refine gz_icmp_ge (tgt := 34) dX12_digits_23 (by decide) (fun c_23_34 => ?_) (fun c_23_34 => ?_)
                        ·
                          try simp only [mIn_0, lgc_lt, lgc_gt, lgc_le, lgc_ge, lgc_eq] at c_23_34
                          try simp only [fl_lt, fl_le, fl_eq, fL_w, fL_lt, fL_le, tm1, tm10k, tm9, tm99, Int32.reduceToInt, Int64.reduceToInt, Int.not_lt, Int.not_le] at c_23_34
                          refine gz_aload_n dX12_digits_34 rfl rfl ?_
                          refine mg_240 hS_38 dX12_digits_35 ?_
                          refine gz_aload_n dX12_digits_38 rfl rfl ?_
                          refine mg_541 hS_38 dX12_digits_39 ?_
                          refine gz_ev (w := .int ((((n 88) + 1) + 1) + 1)) rfl ?_
                          refine gz_bipush (v := 48) dX12_digits_42 (by decide) ?_
                          refine gz_iload_n dX12_digits_44 rfl rfl ?_
                          refine gz_iload_n dX12_digits_45 rfl rfl ?_
                          refine gz_idiv dX12_digits_46 (by decide) ?_
                          refine gz_bipush (v := 10) dX12_digits_47 (by decide) ?_
                          refine gz_irem dX12_digits_49 (by decide) ?_
                          refine gz_iadd dX12_digits_50 ?_
                          refine gz_i2b dX12_digits_51 ?_
                          refine m_bast 87 hS_38 rfl (N := 1000) rfl ((by have q9 := (T_add (T_add (T_add (rfl : ((n 88)).toInt = ((n 88)).toInt) (show (1 : Int32).toInt = 1 from rfl) (by omega)) (show (1 : Int32).toInt = 1 from rfl) (by omega)) (show (1 : Int32).toInt = 1 from rfl) (by omega)); exact vin_T q9 (by omega) (by omega))) dX12_digits_52 (fun f_39 hS_39q => ?_)
                          have hS_39 : mS cy m a f0 (va_up (va_up (va_up n 88 ((n 88) + 1)) 88 (((n 88) + 1) + 1)) 88 ((((n 88) + 1) + 1) + 1)) z (va_up (va_up (va_up (va_up F 87 (upd (F 87) (Int32.toNatClampNeg (n 88)) (vp_nar .byte ((48 + ((x1 / 10000) - (x1 / 10000) / 10 * 10)).toInt8.toInt32)))) 87 (upd (upd (F 87) (Int32.toNatClampNeg (n 88)) (vp_nar .byte ((48 + ((x1 / 10000) - (x1 / 10000) / 10 * 10)).toInt8.toInt32))) (Int32.toNatClampNeg ((n 88) + 1)) (vp_nar .byte ((48 + ((x1 / 100) - (x1 / 100) / 10 * 10)).toInt8.toInt32)))) 87 (upd (upd (upd (F 87) (Int32.toNatClampNeg (n 88)) (vp_nar .byte ((48 + ((x1 / 10000) - (x1 / 10000) / 10 * 10)).toInt8.toInt32))) (Int32.toNatClampNeg ((n 88) + 1)) (vp_nar .byte ((48 + ((x1 / 100) - (x1 / 100) / 10 * 10)).toInt8.toInt32))) (Int32.toNatClampNeg (((n 88) + 1) + 1)) (vp_nar .byte ((48 + ((x1 / 10) - (x1 / 10) / 10 * 10)).toInt8.toInt32)))) 87 (upd (upd (upd (upd (F 87) (Int32.toNatClampNeg (n 88)) (vp_nar .byte ((48 + ((x1 / 10000) - (x1 / 10000) / 10 * 10)).toInt8.toInt32))) (Int32.toNatClampNeg ((n 88) + 1)) (vp_nar .byte ((48 + ((x1 / 100) - (x1 / 100) / 10 * 10)).toInt8.toInt32))) (Int32.toNatClampNeg (((n 88) + 1) + 1)) (vp_nar .byte ((48 + ((x1 / 10) - (x1 / 10) / 10 * 10)).toInt8.toInt32))) (Int32.toNatClampNeg ((((n 88) + 1) + 1) + 1)) (vp_nar .byte ((48 + ((x1 / 1) - (x1 / 1) / 10 * 10)).toInt8.toInt32)))) G f_39 := hS_39q
                          refine gz_aload_n dX12_digits_53 rfl rfl ?_
                          refine gz_dup dX12_digits_54 rfl ?_
                          refine mg_541 hS_39 dX12_digits_55 ?_
                          refine gz_ev (w := .int ((((n 88) + 1) + 1) + 1)) rfl ?_
                          refine gz_iconst (v := 1) dX12_digits_58 (by decide) ?_
                          refine gz_iadd dX12_digits_59 ?_
                          refine mp_541 hS_39 dX12_digits_60 (fun f_40 hS_40 => ?_)
                          refine gz_iload_n dX12_digits_63 rfl rfl ?_
                          refine gz_bipush (v := 10) dX12_digits_64 (by decide) ?_
                          refine gz_idiv dX12_digits_66 (by decide) ?_
                          refine gz_ev (w := .int 0) (by decide) ?_
                          refine gz_istore_n (lv' := [(2, .int 0), (0, .ref m), (1, .int x1)]) dX12_digits_67 rfl (by decide) rfl ?_
                          refine gz_goto (tgt := 17) dX12_digits_68 (by decide) ?_
                          refine gz_iload_n dX12_digits_17 rfl rfl ?_
                          refine gz_if_le (tgt := 71) dX12_digits_18 (by decide) (fun c_18_35 => ?_) (fun c_18_35 => ?_)
                          ·
                            try simp only [mIn_0, lgc_lt, lgc_gt, lgc_le, lgc_ge, lgc_eq] at c_18_35
                            try simp only [fl_lt, fl_le, fl_eq, fL_w, fL_lt, fL_le, tm1, tm10k, tm9, tm99, Int32.reduceToInt, Int64.reduceToInt, Int.not_lt, Int.not_le] at c_18_35
                            refine gz_aload_n dX12_digits_71 rfl rfl ?_
                            refine gz_iconst (v := 1) dX12_digits_72 (by decide) ?_
                            refine mp_544 hS_40 ⟨rfl, rfl⟩ dX12_digits_73 (fun f_41 hS_41 => ?_)
                            exact gz_vret rfl dX12_digits_76 (Nat.le_of_ble_eq_true rfl) (Nat.le_of_ble_eq_true rfl) (⟨rfl, _, _, _, _, hS_41, (fx_n (fx_n (fx_F (fx_n (fx_F (fx_n (fx_F (fx_n (fx_F fx_rf (by decide)) (by decide)) (by decide)) (by decide)) (by decide)) (by decide)) (by decide)) (by decide)) (by decide)), (by (try rw [(show (va_up (va_up (va_up (va_up (va_up n 88 ((n 88) + 1)) 88 (((n 88) + 1) + 1)) 88 ((((n 88) + 1) + 1) + 1)) 88 (((((n 88) + 1) + 1) + 1) + 1)) 89 1) 88 = (((((n 88) + 1) + 1) + 1) + 1) from rfl)]); have q1_ := (T_add (T_add (T_add (T_add (rfl : ((n 88)).toInt = ((n 88)).toInt) (show (1 : Int32).toInt = 1 from rfl) (by omega)) (show (1 : Int32).toInt = 1 from rfl) (by omega)) (show (1 : Int32).toInt = 1 from rfl) (by omega)) (show (1 : Int32).toInt = 1 from rfl) (by omega)); omega), (by (try rw [(show (va_up (va_up (va_up (va_up (va_up n 88 ((n 88) + 1)) 88 (((n 88) + 1) + 1)) 88 ((((n 88) + 1) + 1) + 1)) 88 (((((n 88) + 1) + 1) + 1) + 1)) 89 1) 88 = (((((n 88) + 1) + 1) + 1) + 1) from rfl)]); have q1_ := (T_add (T_add (T_add (T_add (rfl : ((n 88)).toInt = ((n 88)).toInt) (show (1 : Int32).toInt = 1 from rfl) (by omega)) (show (1 : Int32).toInt = 1 from rfl) (by omega)) (show (1 : Int32).toInt = 1 from rfl) (by omega)) (show (1 : Int32).toInt = 1 from rfl) (by omega)); omega)⟩)
                          · exact absurd c_18_35 (by decide)
                        ·
                          try simp only [mIn_0, lgc_lt, lgc_gt, lgc_le, lgc_ge, lgc_eq] at c_23_34
                          try simp only [fl_lt, fl_le, fl_eq, fL_w, fL_lt, fL_le, tm1, tm10k, tm9, tm99, Int32.reduceToInt, Int64.reduceToInt, Int.not_lt, Int.not_le] at c_23_34
                          refine gz_iload_n dX12_digits_26 rfl rfl ?_
                          refine gz_iconst (v := 1) dX12_digits_27 (by decide) ?_
                          refine gz_icmp_le (tgt := 34) dX12_digits_28 (by decide) (fun c_28_36 => ?_) (fun c_28_36 => ?_)
                          ·
                            try simp only [mIn_0, lgc_lt, lgc_gt, lgc_le, lgc_ge, lgc_eq] at c_28_36
                            try simp only [fl_lt, fl_le, fl_eq, fL_w, fL_lt, fL_le, tm1, tm10k, tm9, tm99, Int32.reduceToInt, Int64.reduceToInt, Int.not_lt, Int.not_le] at c_28_36
                            refine gz_aload_n dX12_digits_34 rfl rfl ?_
                            refine mg_240 hS_38 dX12_digits_35 ?_
                            refine gz_aload_n dX12_digits_38 rfl rfl ?_
                            refine mg_541 hS_38 dX12_digits_39 ?_
                            refine gz_ev (w := .int ((((n 88) + 1) + 1) + 1)) rfl ?_
                            refine gz_bipush (v := 48) dX12_digits_42 (by decide) ?_
                            refine gz_iload_n dX12_digits_44 rfl rfl ?_
                            refine gz_iload_n dX12_digits_45 rfl rfl ?_
                            refine gz_idiv dX12_digits_46 (by decide) ?_
                            refine gz_bipush (v := 10) dX12_digits_47 (by decide) ?_
                            refine gz_irem dX12_digits_49 (by decide) ?_
                            refine gz_iadd dX12_digits_50 ?_
                            refine gz_i2b dX12_digits_51 ?_
                            refine m_bast 87 hS_38 rfl (N := 1000) rfl ((by have q9 := (T_add (T_add (T_add (rfl : ((n 88)).toInt = ((n 88)).toInt) (show (1 : Int32).toInt = 1 from rfl) (by omega)) (show (1 : Int32).toInt = 1 from rfl) (by omega)) (show (1 : Int32).toInt = 1 from rfl) (by omega)); exact vin_T q9 (by omega) (by omega))) dX12_digits_52 (fun f_42 hS_42q => ?_)
                            have hS_42 : mS cy m a f0 (va_up (va_up (va_up n 88 ((n 88) + 1)) 88 (((n 88) + 1) + 1)) 88 ((((n 88) + 1) + 1) + 1)) z (va_up (va_up (va_up (va_up F 87 (upd (F 87) (Int32.toNatClampNeg (n 88)) (vp_nar .byte ((48 + ((x1 / 10000) - (x1 / 10000) / 10 * 10)).toInt8.toInt32)))) 87 (upd (upd (F 87) (Int32.toNatClampNeg (n 88)) (vp_nar .byte ((48 + ((x1 / 10000) - (x1 / 10000) / 10 * 10)).toInt8.toInt32))) (Int32.toNatClampNeg ((n 88) + 1)) (vp_nar .byte ((48 + ((x1 / 100) - (x1 / 100) / 10 * 10)).toInt8.toInt32)))) 87 (upd (upd (upd (F 87) (Int32.toNatClampNeg (n 88)) (vp_nar .byte ((48 + ((x1 / 10000) - (x1 / 10000) / 10 * 10)).toInt8.toInt32))) (Int32.toNatClampNeg ((n 88) + 1)) (vp_nar .byte ((48 + ((x1 / 100) - (x1 / 100) / 10 * 10)).toInt8.toInt32))) (Int32.toNatClampNeg (((n 88) + 1) + 1)) (vp_nar .byte ((48 + ((x1 / 10) - (x1 / 10) / 10 * 10)).toInt8.toInt32)))) 87 (upd (upd (upd (upd (F 87) (Int32.toNatClampNeg (n 88)) (vp_nar .byte ((48 + ((x1 / 10000) - (x1 / 10000) / 10 * 10)).toInt8.toInt32))) (Int32.toNatClampNeg ((n 88) + 1)) (vp_nar .byte ((48 + ((x1 / 100) - (x1 / 100) / 10 * 10)).toInt8.toInt32))) (Int32.toNatClampNeg (((n 88) + 1) + 1)) (vp_nar .byte ((48 + ((x1 / 10) - (x1 / 10) / 10 * 10)).toInt8.toInt32))) (Int32.toNatClampNeg ((((n 88) + 1) + 1) + 1)) (vp_nar .byte ((48 + ((x1 / 1) - (x1 / 1) / 10 * 10)).toInt8.toInt32)))) G f_42 := hS_42q
                            refine gz_aload_n dX12_digits_53 rfl rfl ?_
                            refine gz_dup dX12_digits_54 rfl ?_
                            refine mg_541 hS_42 dX12_digits_55 ?_
                            refine gz_ev (w := .int ((((n 88) + 1) + 1) + 1)) rfl ?_
                            refine gz_iconst (v := 1) dX12_digits_58 (by decide) ?_
                            refine gz_iadd dX12_digits_59 ?_
                            refine mp_541 hS_42 dX12_digits_60 (fun f_43 hS_43 => ?_)
                            refine gz_iload_n dX12_digits_63 rfl rfl ?_
                            refine gz_bipush (v := 10) dX12_digits_64 (by decide) ?_
                            refine gz_idiv dX12_digits_66 (by decide) ?_
                            refine gz_ev (w := .int 0) (by decide) ?_
                            refine gz_istore_n (lv' := [(2, .int 0), (0, .ref m), (1, .int x1)]) dX12_digits_67 rfl (by decide) rfl ?_
                            refine gz_goto (tgt := 17) dX12_digits_68 (by decide) ?_
                            refine gz_iload_n dX12_digits_17 rfl rfl ?_
                            refine gz_if_le (tgt := 71) dX12_digits_18 (by decide) (fun c_18_37 => ?_) (fun c_18_37 => ?_)
                            ·
                              try simp only [mIn_0, lgc_lt, lgc_gt, lgc_le, lgc_ge, lgc_eq] at c_18_37
                              try simp only [fl_lt, fl_le, fl_eq, fL_w, fL_lt, fL_le, tm1, tm10k, tm9, tm99, Int32.reduceToInt, Int64.reduceToInt, Int.not_lt, Int.not_le] at c_18_37
                              refine gz_aload_n dX12_digits_71 rfl rfl ?_
                              refine gz_iconst (v := 1) dX12_digits_72 (by decide) ?_
                              refine mp_544 hS_43 ⟨rfl, rfl⟩ dX12_digits_73 (fun f_44 hS_44 => ?_)
                              exact gz_vret rfl dX12_digits_76 (Nat.le_of_ble_eq_true rfl) (Nat.le_of_ble_eq_true rfl) (⟨rfl, _, _, _, _, hS_44, (fx_n (fx_n (fx_F (fx_n (fx_F (fx_n (fx_F (fx_n (fx_F fx_rf (by decide)) (by decide)) (by decide)) (by decide)) (by decide)) (by decide)) (by decide)) (by decide)) (by decide)), (by (try rw [(show (va_up (va_up (va_up (va_up (va_up n 88 ((n 88) + 1)) 88 (((n 88) + 1) + 1)) 88 ((((n 88) + 1) + 1) + 1)) 88 (((((n 88) + 1) + 1) + 1) + 1)) 89 1) 88 = (((((n 88) + 1) + 1) + 1) + 1) from rfl)]); have q1_ := (T_add (T_add (T_add (T_add (rfl : ((n 88)).toInt = ((n 88)).toInt) (show (1 : Int32).toInt = 1 from rfl) (by omega)) (show (1 : Int32).toInt = 1 from rfl) (by omega)) (show (1 : Int32).toInt = 1 from rfl) (by omega)) (show (1 : Int32).toInt = 1 from rfl) (by omega)); omega), (by (try rw [(show (va_up (va_up (va_up (va_up (va_up n 88 ((n 88) + 1)) 88 (((n 88) + 1) + 1)) 88 ((((n 88) + 1) + 1) + 1)) 88 (((((n 88) + 1) + 1) + 1) + 1)) 89 1) 88 = (((((n 88) + 1) + 1) + 1) + 1) from rfl)]); have q1_ := (T_add (T_add (T_add (T_add (rfl : ((n 88)).toInt = ((n 88)).toInt) (show (1 : Int32).toInt = 1 from rfl) (by omega)) (show (1 : Int32).toInt = 1 from rfl) (by omega)) (show (1 : Int32).toInt = 1 from rfl) (by omega)) (show (1 : Int32).toInt = 1 from rfl) (by omega)); omega)⟩)
                            · exact absurd c_18_37 (by decide)
                          · exact absurd c_28_36 (by decide)
                    ·
                      try simp only [mIn_0, lgc_lt, lgc_gt, lgc_le, lgc_ge, lgc_eq] at c_23_32
                      try simp only [fl_lt, fl_le, fl_eq, fL_w, fL_lt, fL_le, tm1, tm10k, tm9, tm99, Int32.reduceToInt, Int64.reduceToInt, Int.not_lt, Int.not_le] at c_23_32
                      refine gz_iload_n dX12_digits_26 rfl rfl ?_
                      refine gz_iconst (v := 1) dX12_digits_27 (by decide) ?_
                      refine gz_icmp_le (tgt := 34) dX12_digits_28 (by decide) (fun c_28_38 => ?_) (fun c_28_38 => ?_)
                      · exact absurd c_28_38 (by decide)
                      ·
                        try simp only [mIn_0, lgc_lt, lgc_gt, lgc_le, lgc_ge, lgc_eq] at c_28_38
                        try simp only [fl_lt, fl_le, fl_eq, fL_w, fL_lt, fL_le, tm1, tm10k, tm9, tm99, Int32.reduceToInt, Int64.reduceToInt, Int.not_lt, Int.not_le] at c_28_38
                        refine gz_goto (tgt := 63) dX12_digits_31 (by decide) ?_
                        refine gz_iload_n dX12_digits_63 rfl rfl ?_
                        refine gz_bipush (v := 10) dX12_digits_64 (by decide) ?_
                        refine gz_idiv dX12_digits_66 (by decide) ?_
                        refine gz_ev (w := .int 1) (by decide) ?_
                        refine gz_istore_n (lv' := [(2, .int 1), (0, .ref m), (1, .int x1)]) dX12_digits_67 rfl (by decide) rfl ?_
                        refine gz_goto (tgt := 17) dX12_digits_68 (by decide) ?_
                        refine gz_iload_n dX12_digits_17 rfl rfl ?_
                        refine gz_if_le (tgt := 71) dX12_digits_18 (by decide) (fun c_18_39 => ?_) (fun c_18_39 => ?_)
                        · exact absurd c_18_39 (by decide)
                        ·
                          try simp only [mIn_0, lgc_lt, lgc_gt, lgc_le, lgc_ge, lgc_eq] at c_18_39
                          try simp only [fl_lt, fl_le, fl_eq, fL_w, fL_lt, fL_le, tm1, tm10k, tm9, tm99, Int32.reduceToInt, Int64.reduceToInt, Int.not_lt, Int.not_le] at c_18_39
                          refine gz_iload_n dX12_digits_21 rfl rfl ?_
                          refine gz_iload_n dX12_digits_22 rfl rfl ?_
                          refine gz_icmp_ge (tgt := 34) dX12_digits_23 (by decide) (fun c_23_40 => ?_) (fun c_23_40 => ?_)
                          ·
                            try simp only [mIn_0, lgc_lt, lgc_gt, lgc_le, lgc_ge, lgc_eq] at c_23_40
                            try simp only [fl_lt, fl_le, fl_eq, fL_w, fL_lt, fL_le, tm1, tm10k, tm9, tm99, Int32.reduceToInt, Int64.reduceToInt, Int.not_lt, Int.not_le] at c_23_40
                            refine gz_aload_n dX12_digits_34 rfl rfl ?_
                            refine mg_240 hS_36 dX12_digits_35 ?_
                            refine gz_aload_n dX12_digits_38 rfl rfl ?_
                            refine mg_541 hS_36 dX12_digits_39 ?_
                            refine gz_ev (w := .int (((n 88) + 1) + 1)) rfl ?_
                            refine gz_bipush (v := 48) dX12_digits_42 (by decide) ?_
                            refine gz_iload_n dX12_digits_44 rfl rfl ?_
                            refine gz_iload_n dX12_digits_45 rfl rfl ?_
                            refine gz_idiv dX12_digits_46 (by decide) ?_
                            refine gz_bipush (v := 10) dX12_digits_47 (by decide) ?_
                            refine gz_irem dX12_digits_49 (by decide) ?_
                            refine gz_iadd dX12_digits_50 ?_
                            refine gz_i2b dX12_digits_51 ?_
                            refine m_bast 87 hS_36 rfl (N := 1000) rfl ((by have q9 := (T_add (T_add (rfl : ((n 88)).toInt = ((n 88)).toInt) (show (1 : Int32).toInt = 1 from rfl) (by omega)) (show (1 : Int32).toInt = 1 from rfl) (by omega)); exact vin_T q9 (by omega) (by omega))) dX12_digits_52 (fun f_45 hS_45q => ?_)
                            have hS_45 : mS cy m a f0 (va_up (va_up n 88 ((n 88) + 1)) 88 (((n 88) + 1) + 1)) z (va_up (va_up (va_up F 87 (upd (F 87) (Int32.toNatClampNeg (n 88)) (vp_nar .byte ((48 + ((x1 / 10000) - (x1 / 10000) / 10 * 10)).toInt8.toInt32)))) 87 (upd (upd (F 87) (Int32.toNatClampNeg (n 88)) (vp_nar .byte ((48 + ((x1 / 10000) - (x1 / 10000) / 10 * 10)).toInt8.toInt32))) (Int32.toNatClampNeg ((n 88) + 1)) (vp_nar .byte ((48 + ((x1 / 100) - (x1 / 100) / 10 * 10)).toInt8.toInt32)))) 87 (upd (upd (upd (F 87) (Int32.toNatClampNeg (n 88)) (vp_nar .byte ((48 + ((x1 / 10000) - (x1 / 10000) / 10 * 10)).toInt8.toInt32))) (Int32.toNatClampNeg ((n 88) + 1)) (vp_nar .byte ((48 + ((x1 / 100) - (x1 / 100) / 10 * 10)).toInt8.toInt32))) (Int32.toNatClampNeg (((n 88) + 1) + 1)) (vp_nar .byte ((48 + ((x1 / 1) - (x1 / 1) / 10 * 10)).toInt8.toInt32)))) G f_45 := hS_45q
                            refine gz_aload_n dX12_digits_53 rfl rfl ?_
                            refine gz_dup dX12_digits_54 rfl ?_
                            refine mg_541 hS_45 dX12_digits_55 ?_
                            refine gz_ev (w := .int (((n 88) + 1) + 1)) rfl ?_
                            refine gz_iconst (v := 1) dX12_digits_58 (by decide) ?_
                            refine gz_iadd dX12_digits_59 ?_
                            refine mp_541 hS_45 dX12_digits_60 (fun f_46 hS_46 => ?_)
                            refine gz_iload_n dX12_digits_63 rfl rfl ?_
                            refine gz_bipush (v := 10) dX12_digits_64 (by decide) ?_
                            refine gz_idiv dX12_digits_66 (by decide) ?_
                            refine gz_ev (w := .int 0) (by decide) ?_
                            refine gz_istore_n (lv' := [(2, .int 0), (0, .ref m), (1, .int x1)]) dX12_digits_67 rfl (by decide) rfl ?_
                            refine gz_goto (tgt := 17) dX12_digits_68 (by decide) ?_
                            refine gz_iload_n dX12_digits_17 rfl rfl ?_
                            refine gz_if_le (tgt := 71) dX12_digits_18 (by decide) (fun c_18_41 => ?_) (fun c_18_41 => ?_)
                            ·
                              try simp only [mIn_0, lgc_lt, lgc_gt, lgc_le, lgc_ge, lgc_eq] at c_18_41
                              try simp only [fl_lt, fl_le, fl_eq, fL_w, fL_lt, fL_le, tm1, tm10k, tm9, tm99, Int32.reduceToInt, Int64.reduceToInt, Int.not_lt, Int.not_le] at c_18_41
                              refine gz_aload_n dX12_digits_71 rfl rfl ?_
                              refine gz_iconst (v := 1) dX12_digits_72 (by decide) ?_
                              refine mp_544 hS_46 ⟨rfl, rfl⟩ dX12_digits_73 (fun f_47 hS_47 => ?_)
                              exact gz_vret rfl dX12_digits_76 (Nat.le_of_ble_eq_true rfl) (Nat.le_of_ble_eq_true rfl) (⟨rfl, _, _, _, _, hS_47, (fx_n (fx_n (fx_F (fx_n (fx_F (fx_n (fx_F fx_rf (by decide)) (by decide)) (by decide)) (by decide)) (by decide)) (by decide)) (by decide)), (by (try rw [(show (va_up (va_up (va_up (va_up n 88 ((n 88) + 1)) 88 (((n 88) + 1) + 1)) 88 ((((n 88) + 1) + 1) + 1)) 89 1) 88 = ((((n 88) + 1) + 1) + 1) from rfl)]); have q1_ := (T_add (T_add (T_add (rfl : ((n 88)).toInt = ((n 88)).toInt) (show (1 : Int32).toInt = 1 from rfl) (by omega)) (show (1 : Int32).toInt = 1 from rfl) (by omega)) (show (1 : Int32).toInt = 1 from rfl) (by omega)); omega), (by (try rw [(show (va_up (va_up (va_up (va_up n 88 ((n 88) + 1)) 88 (((n 88) + 1) + 1)) 88 ((((n 88) + 1) + 1) + 1)) 89 1) 88 = ((((n 88) + 1) + 1) + 1) from rfl)]); have q1_ := (T_add (T_add (T_add (rfl : ((n 88)).toInt = ((n 88)).toInt) (show (1 : Int32).toInt = 1 from rfl) (by omega)) (show (1 : Int32).toInt = 1 from rfl) (by omega)) (show (1 : Int32).toInt = 1 from rfl) (by omega)); omega)⟩)
                            · exact absurd c_18_41 (by decide)
                          ·
                            try simp only [mIn_0, lgc_lt, lgc_gt, lgc_le, lgc_ge, lgc_eq] at c_23_40
                            try simp only [fl_lt, fl_le, fl_eq, fL_w, fL_lt, fL_le, tm1, tm10k, tm9, tm99, Int32.reduceToInt, Int64.reduceToInt, Int.not_lt, Int.not_le] at c_23_40
                            refine gz_iload_n dX12_digits_26 rfl rfl ?_
                            refine gz_iconst (v := 1) dX12_digits_27 (by decide) ?_
                            refine gz_icmp_le (tgt := 34) dX12_digits_28 (by decide) (fun c_28_42 => ?_) (fun c_28_42 => ?_)
                            ·
                              try simp only [mIn_0, lgc_lt, lgc_gt, lgc_le, lgc_ge, lgc_eq] at c_28_42
                              try simp only [fl_lt, fl_le, fl_eq, fL_w, fL_lt, fL_le, tm1, tm10k, tm9, tm99, Int32.reduceToInt, Int64.reduceToInt, Int.not_lt, Int.not_le] at c_28_42
                              refine gz_aload_n dX12_digits_34 rfl rfl ?_
                              refine mg_240 hS_36 dX12_digits_35 ?_
                              refine gz_aload_n dX12_digits_38 rfl rfl ?_
                              refine mg_541 hS_36 dX12_digits_39 ?_
                              refine gz_ev (w := .int (((n 88) + 1) + 1)) rfl ?_
                              refine gz_bipush (v := 48) dX12_digits_42 (by decide) ?_
                              refine gz_iload_n dX12_digits_44 rfl rfl ?_
                              refine gz_iload_n dX12_digits_45 rfl rfl ?_
                              refine gz_idiv dX12_digits_46 (by decide) ?_
                              refine gz_bipush (v := 10) dX12_digits_47 (by decide) ?_
                              refine gz_irem dX12_digits_49 (by decide) ?_
                              refine gz_iadd dX12_digits_50 ?_
                              refine gz_i2b dX12_digits_51 ?_
                              refine m_bast 87 hS_36 rfl (N := 1000) rfl ((by have q9 := (T_add (T_add (rfl : ((n 88)).toInt = ((n 88)).toInt) (show (1 : Int32).toInt = 1 from rfl) (by omega)) (show (1 : Int32).toInt = 1 from rfl) (by omega)); exact vin_T q9 (by omega) (by omega))) dX12_digits_52 (fun f_48 hS_48q => ?_)
                              have hS_48 : mS cy m a f0 (va_up (va_up n 88 ((n 88) + 1)) 88 (((n 88) + 1) + 1)) z (va_up (va_up (va_up F 87 (upd (F 87) (Int32.toNatClampNeg (n 88)) (vp_nar .byte ((48 + ((x1 / 10000) - (x1 / 10000) / 10 * 10)).toInt8.toInt32)))) 87 (upd (upd (F 87) (Int32.toNatClampNeg (n 88)) (vp_nar .byte ((48 + ((x1 / 10000) - (x1 / 10000) / 10 * 10)).toInt8.toInt32))) (Int32.toNatClampNeg ((n 88) + 1)) (vp_nar .byte ((48 + ((x1 / 100) - (x1 / 100) / 10 * 10)).toInt8.toInt32)))) 87 (upd (upd (upd (F 87) (Int32.toNatClampNeg (n 88)) (vp_nar .byte ((48 + ((x1 / 10000) - (x1 / 10000) / 10 * 10)).toInt8.toInt32))) (Int32.toNatClampNeg ((n 88) + 1)) (vp_nar .byte ((48 + ((x1 / 100) - (x1 / 100) / 10 * 10)).toInt8.toInt32))) (Int32.toNatClampNeg (((n 88) + 1) + 1)) (vp_nar .byte ((48 + ((x1 / 1) - (x1 / 1) / 10 * 10)).toInt8.toInt32)))) G f_48 := hS_48q
                              refine gz_aload_n dX12_digits_53 rfl rfl ?_
                              refine gz_dup dX12_digits_54 rfl ?_
                              refine mg_541 hS_48 dX12_digits_55 ?_
                              refine gz_ev (w := .int (((n 88) + 1) + 1)) rfl ?_
                              refine gz_iconst (v := 1) dX12_digits_58 (by decide) ?_
                              refine gz_iadd dX12_digits_59 ?_
                              refine mp_541 hS_48 dX12_digits_60 (fun f_49 hS_49 => ?_)
                              refine gz_iload_n dX12_digits_63 rfl rfl ?_
                              refine gz_bipush (v := 10) dX12_digits_64 (by decide) ?_
                              refine gz_idiv dX12_digits_66 (by decide) ?_
                              refine gz_ev (w := .int 0) (by decide) ?_
                              refine gz_istore_n (lv' := [(2, .int 0), (0, .ref m), (1, .int x1)]) dX12_digits_67 rfl (by decide) rfl ?_
                              refine gz_goto (tgt := 17) dX12_digits_68 (by decide) ?_
                              refine gz_iload_n dX12_digits_17 rfl rfl ?_
                              refine gz_if_le (tgt := 71) dX12_digits_18 (by decide) (fun c_18_43 => ?_) (fun c_18_43 => ?_)
                              ·
                                try simp only [mIn_0, lgc_lt, lgc_gt, lgc_le, lgc_ge, lgc_eq] at c_18_43
                                try simp only [fl_lt, fl_le, fl_eq, fL_w, fL_lt, fL_le, tm1, tm10k, tm9, tm99, Int32.reduceToInt, Int64.reduceToInt, Int.not_lt, Int.not_le] at c_18_43
                                refine gz_aload_n dX12_digits_71 rfl rfl ?_
                                refine gz_iconst (v := 1) dX12_digits_72 (by decide) ?_
                                refine mp_544 hS_49 ⟨rfl, rfl⟩ dX12_digits_73 (fun f_50 hS_50 => ?_)
                                exact gz_vret rfl dX12_digits_76 (Nat.le_of_ble_eq_true rfl) (Nat.le_of_ble_eq_true rfl) (⟨rfl, _, _, _, _, hS_50, (fx_n (fx_n (fx_F (fx_n (fx_F (fx_n (fx_F fx_rf (by decide)) (by decide)) (by decide)) (by decide)) (by decide)) (by decide)) (by decide)), (by (try rw [(show (va_up (va_up (va_up (va_up n 88 ((n 88) + 1)) 88 (((n 88) + 1) + 1)) 88 ((((n 88) + 1) + 1) + 1)) 89 1) 88 = ((((n 88) + 1) + 1) + 1) from rfl)]); have q1_ := (T_add (T_add (T_add (rfl : ((n 88)).toInt = ((n 88)).toInt) (show (1 : Int32).toInt = 1 from rfl) (by omega)) (show (1 : Int32).toInt = 1 from rfl) (by omega)) (show (1 : Int32).toInt = 1 from rfl) (by omega)); omega), (by (try rw [(show (va_up (va_up (va_up (va_up n 88 ((n 88) + 1)) 88 (((n 88) + 1) + 1)) 88 ((((n 88) + 1) + 1) + 1)) 89 1) 88 = ((((n 88) + 1) + 1) + 1) from rfl)]); have q1_ := (T_add (T_add (T_add (rfl : ((n 88)).toInt = ((n 88)).toInt) (show (1 : Int32).toInt = 1 from rfl) (by omega)) (show (1 : Int32).toInt = 1 from rfl) (by omega)) (show (1 : Int32).toInt = 1 from rfl) (by omega)); omega)⟩)
                              · exact absurd c_18_43 (by decide)
                            · exact absurd c_28_42 (by decide)
                ·
                  try simp only [mIn_0, lgc_lt, lgc_gt, lgc_le, lgc_ge, lgc_eq] at c_23_30
                  try simp only [fl_lt, fl_le, fl_eq, fL_w, fL_lt, fL_le, tm1, tm10k, tm9, tm99, Int32.reduceToInt, Int64.reduceToInt, Int.not_lt, Int.not_le] at c_23_30
                  refine gz_iload_n dX12_digits_26 rfl rfl ?_
                  refine gz_iconst (v := 1) dX12_digits_27 (by decide) ?_
                  refine gz_icmp_le (tgt := 34) dX12_digits_28 (by decide) (fun c_28_44 => ?_) (fun c_28_44 => ?_)
                  · exact absurd c_28_44 (by decide)
                  ·
                    try simp only [mIn_0, lgc_lt, lgc_gt, lgc_le, lgc_ge, lgc_eq] at c_28_44
                    try simp only [fl_lt, fl_le, fl_eq, fL_w, fL_lt, fL_le, tm1, tm10k, tm9, tm99, Int32.reduceToInt, Int64.reduceToInt, Int.not_lt, Int.not_le] at c_28_44
                    refine gz_goto (tgt := 63) dX12_digits_31 (by decide) ?_
                    refine gz_iload_n dX12_digits_63 rfl rfl ?_
                    refine gz_bipush (v := 10) dX12_digits_64 (by decide) ?_
                    refine gz_idiv dX12_digits_66 (by decide) ?_
                    refine gz_ev (w := .int 10) (by decide) ?_
                    refine gz_istore_n (lv' := [(2, .int 10), (0, .ref m), (1, .int x1)]) dX12_digits_67 rfl (by decide) rfl ?_
                    refine gz_goto (tgt := 17) dX12_digits_68 (by decide) ?_
                    refine gz_iload_n dX12_digits_17 rfl rfl ?_
                    refine gz_if_le (tgt := 71) dX12_digits_18 (by decide) (fun c_18_45 => ?_) (fun c_18_45 => ?_)
                    · exact absurd c_18_45 (by decide)
                    ·
                      try simp only [mIn_0, lgc_lt, lgc_gt, lgc_le, lgc_ge, lgc_eq] at c_18_45
                      try simp only [fl_lt, fl_le, fl_eq, fL_w, fL_lt, fL_le, tm1, tm10k, tm9, tm99, Int32.reduceToInt, Int64.reduceToInt, Int.not_lt, Int.not_le] at c_18_45
                      refine gz_iload_n dX12_digits_21 rfl rfl ?_
                      refine gz_iload_n dX12_digits_22 rfl rfl ?_
                      refine gz_icmp_ge (tgt := 34) dX12_digits_23 (by decide) (fun c_23_46 => ?_) (fun c_23_46 => ?_)
                      ·
                        try simp only [mIn_0, lgc_lt, lgc_gt, lgc_le, lgc_ge, lgc_eq] at c_23_46
                        try simp only [fl_lt, fl_le, fl_eq, fL_w, fL_lt, fL_le, tm1, tm10k, tm9, tm99, Int32.reduceToInt, Int64.reduceToInt, Int.not_lt, Int.not_le] at c_23_46
                        refine gz_aload_n dX12_digits_34 rfl rfl ?_
                        refine mg_240 hS_2 dX12_digits_35 ?_
                        refine gz_aload_n dX12_digits_38 rfl rfl ?_
                        refine mg_541 hS_2 dX12_digits_39 ?_
                        refine gz_ev (w := .int ((n 88) + 1)) rfl ?_
                        refine gz_bipush (v := 48) dX12_digits_42 (by decide) ?_
                        refine gz_iload_n dX12_digits_44 rfl rfl ?_
                        refine gz_iload_n dX12_digits_45 rfl rfl ?_
                        refine gz_idiv dX12_digits_46 (by decide) ?_
                        refine gz_bipush (v := 10) dX12_digits_47 (by decide) ?_
                        refine gz_irem dX12_digits_49 (by decide) ?_
                        refine gz_iadd dX12_digits_50 ?_
                        refine gz_i2b dX12_digits_51 ?_
                        refine m_bast 87 hS_2 rfl (N := 1000) rfl ((by have q9 := (T_add (rfl : ((n 88)).toInt = ((n 88)).toInt) (show (1 : Int32).toInt = 1 from rfl) (by omega)); exact vin_T q9 (by omega) (by omega))) dX12_digits_52 (fun f_51 hS_51q => ?_)
                        have hS_51 : mS cy m a f0 (va_up n 88 ((n 88) + 1)) z (va_up (va_up F 87 (upd (F 87) (Int32.toNatClampNeg (n 88)) (vp_nar .byte ((48 + ((x1 / 10000) - (x1 / 10000) / 10 * 10)).toInt8.toInt32)))) 87 (upd (upd (F 87) (Int32.toNatClampNeg (n 88)) (vp_nar .byte ((48 + ((x1 / 10000) - (x1 / 10000) / 10 * 10)).toInt8.toInt32))) (Int32.toNatClampNeg ((n 88) + 1)) (vp_nar .byte ((48 + ((x1 / 10) - (x1 / 10) / 10 * 10)).toInt8.toInt32)))) G f_51 := hS_51q
                        refine gz_aload_n dX12_digits_53 rfl rfl ?_
                        refine gz_dup dX12_digits_54 rfl ?_
                        refine mg_541 hS_51 dX12_digits_55 ?_
                        refine gz_ev (w := .int ((n 88) + 1)) rfl ?_
                        refine gz_iconst (v := 1) dX12_digits_58 (by decide) ?_
                        refine gz_iadd dX12_digits_59 ?_
                        refine mp_541 hS_51 dX12_digits_60 (fun f_52 hS_52 => ?_)
                        refine gz_iload_n dX12_digits_63 rfl rfl ?_
                        refine gz_bipush (v := 10) dX12_digits_64 (by decide) ?_
                        refine gz_idiv dX12_digits_66 (by decide) ?_
                        refine gz_ev (w := .int 1) (by decide) ?_
                        refine gz_istore_n (lv' := [(2, .int 1), (0, .ref m), (1, .int x1)]) dX12_digits_67 rfl (by decide) rfl ?_
                        refine gz_goto (tgt := 17) dX12_digits_68 (by decide) ?_
                        refine gz_iload_n dX12_digits_17 rfl rfl ?_
                        refine gz_if_le (tgt := 71) dX12_digits_18 (by decide) (fun c_18_47 => ?_) (fun c_18_47 => ?_)
                        · exact absurd c_18_47 (by decide)
                        ·
                          try simp only [mIn_0, lgc_lt, lgc_gt, lgc_le, lgc_ge, lgc_eq] at c_18_47
                          try simp only [fl_lt, fl_le, fl_eq, fL_w, fL_lt, fL_le, tm1, tm10k, tm9, tm99, Int32.reduceToInt, Int64.reduceToInt, Int.not_lt, Int.not_le] at c_18_47
                          refine gz_iload_n dX12_digits_21 rfl rfl ?_
                          refine gz_iload_n dX12_digits_22 rfl rfl ?_
                          refine gz_icmp_ge (tgt := 34) dX12_digits_23 (by decide) (fun c_23_48 => ?_) (fun c_23_48 => ?_)
                          ·
                            try simp only [mIn_0, lgc_lt, lgc_gt, lgc_le, lgc_ge, lgc_eq] at c_23_48
                            try simp only [fl_lt, fl_le, fl_eq, fL_w, fL_lt, fL_le, tm1, tm10k, tm9, tm99, Int32.reduceToInt, Int64.reduceToInt, Int.not_lt, Int.not_le] at c_23_48
                            refine gz_aload_n dX12_digits_34 rfl rfl ?_
                            refine mg_240 hS_52 dX12_digits_35 ?_
                            refine gz_aload_n dX12_digits_38 rfl rfl ?_
                            refine mg_541 hS_52 dX12_digits_39 ?_
                            refine gz_ev (w := .int (((n 88) + 1) + 1)) rfl ?_
                            refine gz_bipush (v := 48) dX12_digits_42 (by decide) ?_
                            refine gz_iload_n dX12_digits_44 rfl rfl ?_
                            refine gz_iload_n dX12_digits_45 rfl rfl ?_
                            refine gz_idiv dX12_digits_46 (by decide) ?_
                            refine gz_bipush (v := 10) dX12_digits_47 (by decide) ?_
                            refine gz_irem dX12_digits_49 (by decide) ?_
                            refine gz_iadd dX12_digits_50 ?_
                            refine gz_i2b dX12_digits_51 ?_
                            refine m_bast 87 hS_52 rfl (N := 1000) rfl ((by have q9 := (T_add (T_add (rfl : ((n 88)).toInt = ((n 88)).toInt) (show (1 : Int32).toInt = 1 from rfl) (by omega)) (show (1 : Int32).toInt = 1 from rfl) (by omega)); exact vin_T q9 (by omega) (by omega))) dX12_digits_52 (fun f_53 hS_53q => ?_)
                            have hS_53 : mS cy m a f0 (va_up (va_up n 88 ((n 88) + 1)) 88 (((n 88) + 1) + 1)) z (va_up (va_up (va_up F 87 (upd (F 87) (Int32.toNatClampNeg (n 88)) (vp_nar .byte ((48 + ((x1 / 10000) - (x1 / 10000) / 10 * 10)).toInt8.toInt32)))) 87 (upd (upd (F 87) (Int32.toNatClampNeg (n 88)) (vp_nar .byte ((48 + ((x1 / 10000) - (x1 / 10000) / 10 * 10)).toInt8.toInt32))) (Int32.toNatClampNeg ((n 88) + 1)) (vp_nar .byte ((48 + ((x1 / 10) - (x1 / 10) / 10 * 10)).toInt8.toInt32)))) 87 (upd (upd (upd (F 87) (Int32.toNatClampNeg (n 88)) (vp_nar .byte ((48 + ((x1 / 10000) - (x1 / 10000) / 10 * 10)).toInt8.toInt32))) (Int32.toNatClampNeg ((n 88) + 1)) (vp_nar .byte ((48 + ((x1 / 10) - (x1 / 10) / 10 * 10)).toInt8.toInt32))) (Int32.toNatClampNeg (((n 88) + 1) + 1)) (vp_nar .byte ((48 + ((x1 / 1) - (x1 / 1) / 10 * 10)).toInt8.toInt32)))) G f_53 := hS_53q
                            refine gz_aload_n dX12_digits_53 rfl rfl ?_
                            refine gz_dup dX12_digits_54 rfl ?_
                            refine mg_541 hS_53 dX12_digits_55 ?_
                            refine gz_ev (w := .int (((n 88) + 1) + 1)) rfl ?_
                            refine gz_iconst (v := 1) dX12_digits_58 (by decide) ?_
                            refine gz_iadd dX12_digits_59 ?_
                            refine mp_541 hS_53 dX12_digits_60 (fun f_54 hS_54 => ?_)
                            refine gz_iload_n dX12_digits_63 rfl rfl ?_
                            refine gz_bipush (v := 10) dX12_digits_64 (by decide) ?_
                            refine gz_idiv dX12_digits_66 (by decide) ?_
                            refine gz_ev (w := .int 0) (by decide) ?_
                            refine gz_istore_n (lv' := [(2, .int 0), (0, .ref m), (1, .int x1)]) dX12_digits_67 rfl (by decide) rfl ?_
                            refine gz_goto (tgt := 17) dX12_digits_68 (by decide) ?_
                            refine gz_iload_n dX12_digits_17 rfl rfl ?_
                            refine gz_if_le (tgt := 71) dX12_digits_18 (by decide) (fun c_18_49 => ?_) (fun c_18_49 => ?_)
                            ·
                              try simp only [mIn_0, lgc_lt, lgc_gt, lgc_le, lgc_ge, lgc_eq] at c_18_49
                              try simp only [fl_lt, fl_le, fl_eq, fL_w, fL_lt, fL_le, tm1, tm10k, tm9, tm99, Int32.reduceToInt, Int64.reduceToInt, Int.not_lt, Int.not_le] at c_18_49
                              refine gz_aload_n dX12_digits_71 rfl rfl ?_
                              refine gz_iconst (v := 1) dX12_digits_72 (by decide) ?_
                              refine mp_544 hS_54 ⟨rfl, rfl⟩ dX12_digits_73 (fun f_55 hS_55 => ?_)
                              exact gz_vret rfl dX12_digits_76 (Nat.le_of_ble_eq_true rfl) (Nat.le_of_ble_eq_true rfl) (⟨rfl, _, _, _, _, hS_55, (fx_n (fx_n (fx_F (fx_n (fx_F (fx_n (fx_F fx_rf (by decide)) (by decide)) (by decide)) (by decide)) (by decide)) (by decide)) (by decide)), (by (try rw [(show (va_up (va_up (va_up (va_up n 88 ((n 88) + 1)) 88 (((n 88) + 1) + 1)) 88 ((((n 88) + 1) + 1) + 1)) 89 1) 88 = ((((n 88) + 1) + 1) + 1) from rfl)]); have q1_ := (T_add (T_add (T_add (rfl : ((n 88)).toInt = ((n 88)).toInt) (show (1 : Int32).toInt = 1 from rfl) (by omega)) (show (1 : Int32).toInt = 1 from rfl) (by omega)) (show (1 : Int32).toInt = 1 from rfl) (by omega)); omega), (by (try rw [(show (va_up (va_up (va_up (va_up n 88 ((n 88) + 1)) 88 (((n 88) + 1) + 1)) 88 ((((n 88) + 1) + 1) + 1)) 89 1) 88 = ((((n 88) + 1) + 1) + 1) from rfl)]); have q1_ := (T_add (T_add (T_add (rfl : ((n 88)).toInt = ((n 88)).toInt) (show (1 : Int32).toInt = 1 from rfl) (by omega)) (show (1 : Int32).toInt = 1 from rfl) (by omega)) (show (1 : Int32).toInt = 1 from rfl) (by omega)); omega)⟩)
                            · exact absurd c_18_49 (by decide)
                          ·
                            try simp only [mIn_0, lgc_lt, lgc_gt, lgc_le, lgc_ge, lgc_eq] at c_23_48
                            try simp only [fl_lt, fl_le, fl_eq, fL_w, fL_lt, fL_le, tm1, tm10k, tm9, tm99, Int32.reduceToInt, Int64.reduceToInt, Int.not_lt, Int.not_le] at c_23_48
                            refine gz_iload_n dX12_digits_26 rfl rfl ?_
                            refine gz_iconst (v := 1) dX12_digits_27 (by decide) ?_
                            refine gz_icmp_le (tgt := 34) dX12_digits_28 (by decide) (fun c_28_50 => ?_) (fun c_28_50 => ?_)
                            ·
                              try simp only [mIn_0, lgc_lt, lgc_gt, lgc_le, lgc_ge, lgc_eq] at c_28_50
                              try simp only [fl_lt, fl_le, fl_eq, fL_w, fL_lt, fL_le, tm1, tm10k, tm9, tm99, Int32.reduceToInt, Int64.reduceToInt, Int.not_lt, Int.not_le] at c_28_50
                              refine gz_aload_n dX12_digits_34 rfl rfl ?_
                              refine mg_240 hS_52 dX12_digits_35 ?_
                              refine gz_aload_n dX12_digits_38 rfl rfl ?_
                              refine mg_541 hS_52 dX12_digits_39 ?_
                              refine gz_ev (w := .int (((n 88) + 1) + 1)) rfl ?_
                              refine gz_bipush (v := 48) dX12_digits_42 (by decide) ?_
                              refine gz_iload_n dX12_digits_44 rfl rfl ?_
                              refine gz_iload_n dX12_digits_45 rfl rfl ?_
                              refine gz_idiv dX12_digits_46 (by decide) ?_
                              refine gz_bipush (v := 10) dX12_digits_47 (by decide) ?_
                              refine gz_irem dX12_digits_49 (by decide) ?_
                              refine gz_iadd dX12_digits_50 ?_
                              refine gz_i2b dX12_digits_51 ?_
                              refine m_bast 87 hS_52 rfl (N := 1000) rfl ((by have q9 := (T_add (T_add (rfl : ((n 88)).toInt = ((n 88)).toInt) (show (1 : Int32).toInt = 1 from rfl) (by omega)) (show (1 : Int32).toInt = 1 from rfl) (by omega)); exact vin_T q9 (by omega) (by omega))) dX12_digits_52 (fun f_56 hS_56q => ?_)
                              have hS_56 : mS cy m a f0 (va_up (va_up n 88 ((n 88) + 1)) 88 (((n 88) + 1) + 1)) z (va_up (va_up (va_up F 87 (upd (F 87) (Int32.toNatClampNeg (n 88)) (vp_nar .byte ((48 + ((x1 / 10000) - (x1 / 10000) / 10 * 10)).toInt8.toInt32)))) 87 (upd (upd (F 87) (Int32.toNatClampNeg (n 88)) (vp_nar .byte ((48 + ((x1 / 10000) - (x1 / 10000) / 10 * 10)).toInt8.toInt32))) (Int32.toNatClampNeg ((n 88) + 1)) (vp_nar .byte ((48 + ((x1 / 10) - (x1 / 10) / 10 * 10)).toInt8.toInt32)))) 87 (upd (upd (upd (F 87) (Int32.toNatClampNeg (n 88)) (vp_nar .byte ((48 + ((x1 / 10000) - (x1 / 10000) / 10 * 10)).toInt8.toInt32))) (Int32.toNatClampNeg ((n 88) + 1)) (vp_nar .byte ((48 + ((x1 / 10) - (x1 / 10) / 10 * 10)).toInt8.toInt32))) (Int32.toNatClampNeg (((n 88) + 1) + 1)) (vp_nar .byte ((48 + ((x1 / 1) - (x1 / 1) / 10 * 10)).toInt8.toInt32)))) G f_56 := hS_56q
                              refine gz_aload_n dX12_digits_53 rfl rfl ?_
                              refine gz_dup dX12_digits_54 rfl ?_
                              refine mg_541 hS_56 dX12_digits_55 ?_
                              refine gz_ev (w := .int (((n 88) + 1) + 1)) rfl ?_
                              refine gz_iconst (v := 1) dX12_digits_58 (by decide) ?_
                              refine gz_iadd dX12_digits_59 ?_
                              refine mp_541 hS_56 dX12_digits_60 (fun f_57 hS_57 => ?_)
                              refine gz_iload_n dX12_digits_63 rfl rfl ?_
                              refine gz_bipush (v := 10) dX12_digits_64 (by decide) ?_
                              refine gz_idiv dX12_digits_66 (by decide) ?_
                              refine gz_ev (w := .int 0) (by decide) ?_
                              refine gz_istore_n (lv' := [(2, .int 0), (0, .ref m), (1, .int x1)]) dX12_digits_67 rfl (by decide) rfl ?_
                              refine gz_goto (tgt := 17) dX12_digits_68 (by decide) ?_
                              refine gz_iload_n dX12_digits_17 rfl rfl ?_
                              refine gz_if_le (tgt := 71) dX12_digits_18 (by decide) (fun c_18_51 => ?_) (fun c_18_51 => ?_)
                              ·
                                try simp only [mIn_0, lgc_lt, lgc_gt, lgc_le, lgc_ge, lgc_eq] at c_18_51
                                try simp only [fl_lt, fl_le, fl_eq, fL_w, fL_lt, fL_le, tm1, tm10k, tm9, tm99, Int32.reduceToInt, Int64.reduceToInt, Int.not_lt, Int.not_le] at c_18_51
                                refine gz_aload_n dX12_digits_71 rfl rfl ?_
                                refine gz_iconst (v := 1) dX12_digits_72 (by decide) ?_
                                refine mp_544 hS_57 ⟨rfl, rfl⟩ dX12_digits_73 (fun f_58 hS_58 => ?_)
                                exact gz_vret rfl dX12_digits_76 (Nat.le_of_ble_eq_true rfl) (Nat.le_of_ble_eq_true rfl) (⟨rfl, _, _, _, _, hS_58, (fx_n (fx_n (fx_F (fx_n (fx_F (fx_n (fx_F fx_rf (by decide)) (by decide)) (by decide)) (by decide)) (by decide)) (by decide)) (by decide)), (by (try rw [(show (va_up (va_up (va_up (va_up n 88 ((n 88) + 1)) 88 (((n 88) + 1) + 1)) 88 ((((n 88) + 1) + 1) + 1)) 89 1) 88 = ((((n 88) + 1) + 1) + 1) from rfl)]); have q1_ := (T_add (T_add (T_add (rfl : ((n 88)).toInt = ((n 88)).toInt) (show (1 : Int32).toInt = 1 from rfl) (by omega)) (show (1 : Int32).toInt = 1 from rfl) (by omega)) (show (1 : Int32).toInt = 1 from rfl) (by omega)); omega), (by (try rw [(show (va_up (va_up (va_up (va_up n 88 ((n 88) + 1)) 88 (((n 88) + 1) + 1)) 88 ((((n 88) + 1) + 1) + 1)) 89 1) 88 = ((((n 88) + 1) + 1) + 1) from rfl)]); have q1_ := (T_add (T_add (T_add (rfl : ((n 88)).toInt = ((n 88)).toInt) (show (1 : Int32).toInt = 1 from rfl) (by omega)) (show (1 : Int32).toInt = 1 from rfl) (by omega)) (show (1 : Int32).toInt = 1 from rfl) (by omega)); omega)⟩)
                              · exact absurd c_18_51 (by decide)
                            · exact absurd c_28_50 (by decide)
                      ·
                        try simp only [mIn_0, lgc_lt, lgc_gt, lgc_le, lgc_ge, lgc_eq] at c_23_46
                        try simp only [fl_lt, fl_le, fl_eq, fL_w, fL_lt, fL_le, tm1, tm10k, tm9, tm99, Int32.reduceToInt, Int64.reduceToInt, Int.not_lt, Int.not_le] at c_23_46
                        refine gz_iload_n dX12_digits_26 rfl rfl ?_
                        refine gz_iconst (v := 1) dX12_digits_27 (by decide) ?_
                        refine gz_icmp_le (tgt := 34) dX12_digits_28 (by decide) (fun c_28_52 => ?_) (fun c_28_52 => ?_)
                        · exact absurd c_28_52 (by decide)
                        ·
                          try simp only [mIn_0, lgc_lt, lgc_gt, lgc_le, lgc_ge, lgc_eq] at c_28_52
                          try simp only [fl_lt, fl_le, fl_eq, fL_w, fL_lt, fL_le, tm1, tm10k, tm9, tm99, Int32.reduceToInt, Int64.reduceToInt, Int.not_lt, Int.not_le] at c_28_52
                          refine gz_goto (tgt := 63) dX12_digits_31 (by decide) ?_
                          refine gz_iload_n dX12_digits_63 rfl rfl ?_
                          refine gz_bipush (v := 10) dX12_digits_64 (by decide) ?_
                          refine gz_idiv dX12_digits_66 (by decide) ?_
                          refine gz_ev (w := .int 1) (by decide) ?_
                          refine gz_istore_n (lv' := [(2, .int 1), (0, .ref m), (1, .int x1)]) dX12_digits_67 rfl (by decide) rfl ?_
                          refine gz_goto (tgt := 17) dX12_digits_68 (by decide) ?_
                          refine gz_iload_n dX12_digits_17 rfl rfl ?_
                          refine gz_if_le (tgt := 71) dX12_digits_18 (by decide) (fun c_18_53 => ?_) (fun c_18_53 => ?_)
                          · exact absurd c_18_53 (by decide)
                          ·
                            try simp only [mIn_0, lgc_lt, lgc_gt, lgc_le, lgc_ge, lgc_eq] at c_18_53
                            try simp only [fl_lt, fl_le, fl_eq, fL_w, fL_lt, fL_le, tm1, tm10k, tm9, tm99, Int32.reduceToInt, Int64.reduceToInt, Int.not_lt, Int.not_le] at c_18_53
                            refine gz_iload_n dX12_digits_21 rfl rfl ?_
                            refine gz_iload_n dX12_digits_22 rfl rfl ?_
                            refine gz_icmp_ge (tgt := 34) dX12_digits_23 (by decide) (fun c_23_54 => ?_) (fun c_23_54 => ?_)
                            ·
                              try simp only [mIn_0, lgc_lt, lgc_gt, lgc_le, lgc_ge, lgc_eq] at c_23_54
                              try simp only [fl_lt, fl_le, fl_eq, fL_w, fL_lt, fL_le, tm1, tm10k, tm9, tm99, Int32.reduceToInt, Int64.reduceToInt, Int.not_lt, Int.not_le] at c_23_54
                              refine gz_aload_n dX12_digits_34 rfl rfl ?_
                              refine mg_240 hS_2 dX12_digits_35 ?_
                              refine gz_aload_n dX12_digits_38 rfl rfl ?_
                              refine mg_541 hS_2 dX12_digits_39 ?_
                              refine gz_ev (w := .int ((n 88) + 1)) rfl ?_
                              refine gz_bipush (v := 48) dX12_digits_42 (by decide) ?_
                              refine gz_iload_n dX12_digits_44 rfl rfl ?_
                              refine gz_iload_n dX12_digits_45 rfl rfl ?_
                              refine gz_idiv dX12_digits_46 (by decide) ?_
                              refine gz_bipush (v := 10) dX12_digits_47 (by decide) ?_
                              refine gz_irem dX12_digits_49 (by decide) ?_
                              refine gz_iadd dX12_digits_50 ?_
                              refine gz_i2b dX12_digits_51 ?_
                              refine m_bast 87 hS_2 rfl (N := 1000) rfl ((by have q9 := (T_add (rfl : ((n 88)).toInt = ((n 88)).toInt) (show (1 : Int32).toInt = 1 from rfl) (by omega)); exact vin_T q9 (by omega) (by omega))) dX12_digits_52 (fun f_59 hS_59q => ?_)
                              have hS_59 : mS cy m a f0 (va_up n 88 ((n 88) + 1)) z (va_up (va_up F 87 (upd (F 87) (Int32.toNatClampNeg (n 88)) (vp_nar .byte ((48 + ((x1 / 10000) - (x1 / 10000) / 10 * 10)).toInt8.toInt32)))) 87 (upd (upd (F 87) (Int32.toNatClampNeg (n 88)) (vp_nar .byte ((48 + ((x1 / 10000) - (x1 / 10000) / 10 * 10)).toInt8.toInt32))) (Int32.toNatClampNeg ((n 88) + 1)) (vp_nar .byte ((48 + ((x1 / 1) - (x1 / 1) / 10 * 10)).toInt8.toInt32)))) G f_59 := hS_59q
                              refine gz_aload_n dX12_digits_53 rfl rfl ?_
                              refine gz_dup dX12_digits_54 rfl ?_
                              refine mg_541 hS_59 dX12_digits_55 ?_
                              refine gz_ev (w := .int ((n 88) + 1)) rfl ?_
                              refine gz_iconst (v := 1) dX12_digits_58 (by decide) ?_
                              refine gz_iadd dX12_digits_59 ?_
                              refine mp_541 hS_59 dX12_digits_60 (fun f_60 hS_60 => ?_)
                              refine gz_iload_n dX12_digits_63 rfl rfl ?_
                              refine gz_bipush (v := 10) dX12_digits_64 (by decide) ?_
                              refine gz_idiv dX12_digits_66 (by decide) ?_
                              refine gz_ev (w := .int 0) (by decide) ?_
                              refine gz_istore_n (lv' := [(2, .int 0), (0, .ref m), (1, .int x1)]) dX12_digits_67 rfl (by decide) rfl ?_
                              refine gz_goto (tgt := 17) dX12_digits_68 (by decide) ?_
                              refine gz_iload_n dX12_digits_17 rfl rfl ?_
                              refine gz_if_le (tgt := 71) dX12_digits_18 (by decide) (fun c_18_55 => ?_) (fun c_18_55 => ?_)
                              ·
                                try simp only [mIn_0, lgc_lt, lgc_gt, lgc_le, lgc_ge, lgc_eq] at c_18_55
                                try simp only [fl_lt, fl_le, fl_eq, fL_w, fL_lt, fL_le, tm1, tm10k, tm9, tm99, Int32.reduceToInt, Int64.reduceToInt, Int.not_lt, Int.not_le] at c_18_55
                                refine gz_aload_n dX12_digits_71 rfl rfl ?_
                                refine gz_iconst (v := 1) dX12_digits_72 (by decide) ?_
                                refine mp_544 hS_60 ⟨rfl, rfl⟩ dX12_digits_73 (fun f_61 hS_61 => ?_)
                                exact gz_vret rfl dX12_digits_76 (Nat.le_of_ble_eq_true rfl) (Nat.le_of_ble_eq_true rfl) (⟨rfl, _, _, _, _, hS_61, (fx_n (fx_n (fx_F (fx_n (fx_F fx_rf (by decide)) (by decide)) (by decide)) (by decide)) (by decide)), (by (try rw [(show (va_up (va_up (va_up n 88 ((n 88) + 1)) 88 (((n 88) + 1) + 1)) 89 1) 88 = (((n 88) + 1) + 1) from rfl)]); have q1_ := (T_add (T_add (rfl : ((n 88)).toInt = ((n 88)).toInt) (show (1 : Int32).toInt = 1 from rfl) (by omega)) (show (1 : Int32).toInt = 1 from rfl) (by omega)); omega), (by (try rw [(show (va_up (va_up (va_up n 88 ((n 88) + 1)) 88 (((n 88) + 1) + 1)) 89 1) 88 = (((n 88) + 1) + 1) from rfl)]); have q1_ := (T_add (T_add (rfl : ((n 88)).toInt = ((n 88)).toInt) (show (1 : Int32).toInt = 1 from rfl) (by omega)) (show (1 : Int32).toInt = 1 from rfl) (by omega)); omega)⟩)
                              · exact absurd c_18_55 (by decide)
                            ·
                              try simp only [mIn_0, lgc_lt, lgc_gt, lgc_le, lgc_ge, lgc_eq] at c_23_54
                              try simp only [fl_lt, fl_le, fl_eq, fL_w, fL_lt, fL_le, tm1, tm10k, tm9, tm99, Int32.reduceToInt, Int64.reduceToInt, Int.not_lt, Int.not_le] at c_23_54
                              refine gz_iload_n dX12_digits_26 rfl rfl ?_
                              refine gz_iconst (v := 1) dX12_digits_27 (by decide) ?_
                              refine gz_icmp_le (tgt := 34) dX12_digits_28 (by decide) (fun c_28_56 => ?_) (fun c_28_56 => ?_)
                              ·
                                try simp only [mIn_0, lgc_lt, lgc_gt, lgc_le, lgc_ge, lgc_eq] at c_28_56
                                try simp only [fl_lt, fl_le, fl_eq, fL_w, fL_lt, fL_le, tm1, tm10k, tm9, tm99, Int32.reduceToInt, Int64.reduceToInt, Int.not_lt, Int.not_le] at c_28_56
                                refine gz_aload_n dX12_digits_34 rfl rfl ?_
                                refine mg_240 hS_2 dX12_digits_35 ?_
                                refine gz_aload_n dX12_digits_38 rfl rfl ?_
                                refine mg_541 hS_2 dX12_digits_39 ?_
                                refine gz_ev (w := .int ((n 88) + 1)) rfl ?_
                                refine gz_bipush (v := 48) dX12_digits_42 (by decide) ?_
                                refine gz_iload_n dX12_digits_44 rfl rfl ?_
                                refine gz_iload_n dX12_digits_45 rfl rfl ?_
                                refine gz_idiv dX12_digits_46 (by decide) ?_
                                refine gz_bipush (v := 10) dX12_digits_47 (by decide) ?_
                                refine gz_irem dX12_digits_49 (by decide) ?_
                                refine gz_iadd dX12_digits_50 ?_
                                refine gz_i2b dX12_digits_51 ?_
                                refine m_bast 87 hS_2 rfl (N := 1000) rfl ((by have q9 := (T_add (rfl : ((n 88)).toInt = ((n 88)).toInt) (show (1 : Int32).toInt = 1 from rfl) (by omega)); exact vin_T q9 (by omega) (by omega))) dX12_digits_52 (fun f_62 hS_62q => ?_)
                                have hS_62 : mS cy m a f0 (va_up n 88 ((n 88) + 1)) z (va_up (va_up F 87 (upd (F 87) (Int32.toNatClampNeg (n 88)) (vp_nar .byte ((48 + ((x1 / 10000) - (x1 / 10000) / 10 * 10)).toInt8.toInt32)))) 87 (upd (upd (F 87) (Int32.toNatClampNeg (n 88)) (vp_nar .byte ((48 + ((x1 / 10000) - (x1 / 10000) / 10 * 10)).toInt8.toInt32))) (Int32.toNatClampNeg ((n 88) + 1)) (vp_nar .byte ((48 + ((x1 / 1) - (x1 / 1) / 10 * 10)).toInt8.toInt32)))) G f_62 := hS_62q
                                refine gz_aload_n dX12_digits_53 rfl rfl ?_
                                refine gz_dup dX12_digits_54 rfl ?_
                                refine mg_541 hS_62 dX12_digits_55 ?_
                                refine gz_ev (w := .int ((n 88) + 1)) rfl ?_
                                refine gz_iconst (v := 1) dX12_digits_58 (by decide) ?_
                                refine gz_iadd dX12_digits_59 ?_
                                refine mp_541 hS_62 dX12_digits_60 (fun f_63 hS_63 => ?_)
                                refine gz_iload_n dX12_digits_63 rfl rfl ?_
                                refine gz_bipush (v := 10) dX12_digits_64 (by decide) ?_
                                refine gz_idiv dX12_digits_66 (by decide) ?_
                                refine gz_ev (w := .int 0) (by decide) ?_
                                refine gz_istore_n (lv' := [(2, .int 0), (0, .ref m), (1, .int x1)]) dX12_digits_67 rfl (by decide) rfl ?_
                                refine gz_goto (tgt := 17) dX12_digits_68 (by decide) ?_
                                refine gz_iload_n dX12_digits_17 rfl rfl ?_
                                refine gz_if_le (tgt := 71) dX12_digits_18 (by decide) (fun c_18_57 => ?_) (fun c_18_57 => ?_)
                                ·
                                  try simp only [mIn_0, lgc_lt, lgc_gt, lgc_le, lgc_ge, lgc_eq] at c_18_57
                                  try simp only [fl_lt, fl_le, fl_eq, fL_w, fL_lt, fL_le, tm1, tm10k, tm9, tm99, Int32.reduceToInt, Int64.reduceToInt, Int.not_lt, Int.not_le] at c_18_57
                                  refine gz_aload_n dX12_digits_71 rfl rfl ?_
                                  refine gz_iconst (v := 1) dX12_digits_72 (by decide) ?_
                                  refine mp_544 hS_63 ⟨rfl, rfl⟩ dX12_digits_73 (fun f_64 hS_64 => ?_)
                                  exact gz_vret rfl dX12_digits_76 (Nat.le_of_ble_eq_true rfl) (Nat.le_of_ble_eq_true rfl) (⟨rfl, _, _, _, _, hS_64, (fx_n (fx_n (fx_F (fx_n (fx_F fx_rf (by decide)) (by decide)) (by decide)) (by decide)) (by decide)), (by (try rw [(show (va_up (va_up (va_up n 88 ((n 88) + 1)) 88 (((n 88) + 1) + 1)) 89 1) 88 = (((n 88) + 1) + 1) from rfl)]); have q1_ := (T_add (T_add (rfl : ((n 88)).toInt = ((n 88)).toInt) (show (1 : Int32).toInt = 1 from rfl) (by omega)) (show (1 : Int32).toInt = 1 from rfl) (by omega)); omega), (by (try rw [(show (va_up (va_up (va_up n 88 ((n 88) + 1)) 88 (((n 88) + 1) + 1)) 89 1) 88 = (((n 88) + 1) + 1) from rfl)]); have q1_ := (T_add (T_add (rfl : ((n 88)).toInt = ((n 88)).toInt) (show (1 : Int32).toInt = 1 from rfl) (by omega)) (show (1 : Int32).toInt = 1 from rfl) (by omega)); omega)⟩)
                                · exact absurd c_18_57 (by decide)
                              · exact absurd c_28_56 (by decide)
      ·
        try simp only [mIn_0, lgc_lt, lgc_gt, lgc_le, lgc_ge, lgc_eq] at c_23
        try simp only [fl_lt, fl_le, fl_eq, fL_w, fL_lt, fL_le, tm1, tm10k, tm9, tm99, Int32.reduceToInt, Int64.reduceToInt, Int.not_lt, Int.not_le] at c_23
        refine gz_iload_n dX12_digits_26 rfl rfl ?_
        refine gz_iconst (v := 1) dX12_digits_27 (by decide) ?_
        refine gz_icmp_le (tgt := 34) dX12_digits_28 (by decide) (fun c_28 => ?_) (fun c_28 => ?_)
        · exact absurd c_28 (by decide)
        ·
          try simp only [mIn_0, lgc_lt, lgc_gt, lgc_le, lgc_ge, lgc_eq] at c_28
          try simp only [fl_lt, fl_le, fl_eq, fL_w, fL_lt, fL_le, tm1, tm10k, tm9, tm99, Int32.reduceToInt, Int64.reduceToInt, Int.not_lt, Int.not_le] at c_28
          refine gz_goto (tgt := 63) dX12_digits_31 (by decide) ?_
          refine gz_iload_n dX12_digits_63 rfl rfl ?_
          refine gz_bipush (v := 10) dX12_digits_64 (by decide) ?_
          refine gz_idiv dX12_digits_66 (by decide) ?_
          refine gz_ev (w := .int 1000) (by decide) ?_
          refine gz_istore_n (lv' := [(2, .int 1000), (0, .ref m), (1, .int x1)]) dX12_digits_67 rfl (by decide) rfl ?_
          refine gz_goto (tgt := 17) dX12_digits_68 (by decide) ?_
          refine gz_iload_n dX12_digits_17 rfl rfl ?_
          refine gz_if_le (tgt := 71) dX12_digits_18 (by decide) (fun c_18_58 => ?_) (fun c_18_58 => ?_)
          · exact absurd c_18_58 (by decide)
          ·
            try simp only [mIn_0, lgc_lt, lgc_gt, lgc_le, lgc_ge, lgc_eq] at c_18_58
            try simp only [fl_lt, fl_le, fl_eq, fL_w, fL_lt, fL_le, tm1, tm10k, tm9, tm99, Int32.reduceToInt, Int64.reduceToInt, Int.not_lt, Int.not_le] at c_18_58
            refine gz_iload_n dX12_digits_21 rfl rfl ?_
            refine gz_iload_n dX12_digits_22 rfl rfl ?_
            refine gz_icmp_ge (tgt := 34) dX12_digits_23 (by decide) (fun c_23_59 => ?_) (fun c_23_59 => ?_)
            ·
              try simp only [mIn_0, lgc_lt, lgc_gt, lgc_le, lgc_ge, lgc_eq] at c_23_59
              try simp only [fl_lt, fl_le, fl_eq, fL_w, fL_lt, fL_le, tm1, tm10k, tm9, tm99, Int32.reduceToInt, Int64.reduceToInt, Int.not_lt, Int.not_le] at c_23_59
              refine gz_aload_n dX12_digits_34 rfl rfl ?_
              refine mg_240 hS dX12_digits_35 ?_
              refine gz_aload_n dX12_digits_38 rfl rfl ?_
              refine mg_541 hS dX12_digits_39 ?_
              refine gz_bipush (v := 48) dX12_digits_42 (by decide) ?_
              refine gz_iload_n dX12_digits_44 rfl rfl ?_
              refine gz_iload_n dX12_digits_45 rfl rfl ?_
              refine gz_idiv dX12_digits_46 (by decide) ?_
              refine gz_bipush (v := 10) dX12_digits_47 (by decide) ?_
              refine gz_irem dX12_digits_49 (by decide) ?_
              refine gz_iadd dX12_digits_50 ?_
              refine gz_i2b dX12_digits_51 ?_
              refine m_bast 87 hS rfl (N := 1000) rfl ((by exact vin_T (rfl : ((n 88)).toInt = ((n 88)).toInt) (by omega) (by omega))) dX12_digits_52 (fun f_65 hS_65q => ?_)
              have hS_65 : mS cy m a f0 n z (va_up F 87 (upd (F 87) (Int32.toNatClampNeg (n 88)) (vp_nar .byte ((48 + ((x1 / 1000) - (x1 / 1000) / 10 * 10)).toInt8.toInt32)))) G f_65 := hS_65q
              refine gz_aload_n dX12_digits_53 rfl rfl ?_
              refine gz_dup dX12_digits_54 rfl ?_
              refine mg_541 hS_65 dX12_digits_55 ?_
              refine gz_ev (w := .int (n 88)) rfl ?_
              refine gz_iconst (v := 1) dX12_digits_58 (by decide) ?_
              refine gz_iadd dX12_digits_59 ?_
              refine mp_541 hS_65 dX12_digits_60 (fun f_66 hS_66 => ?_)
              refine gz_iload_n dX12_digits_63 rfl rfl ?_
              refine gz_bipush (v := 10) dX12_digits_64 (by decide) ?_
              refine gz_idiv dX12_digits_66 (by decide) ?_
              refine gz_ev (w := .int 100) (by decide) ?_
              refine gz_istore_n (lv' := [(2, .int 100), (0, .ref m), (1, .int x1)]) dX12_digits_67 rfl (by decide) rfl ?_
              refine gz_goto (tgt := 17) dX12_digits_68 (by decide) ?_
              refine gz_iload_n dX12_digits_17 rfl rfl ?_
              refine gz_if_le (tgt := 71) dX12_digits_18 (by decide) (fun c_18_60 => ?_) (fun c_18_60 => ?_)
              · exact absurd c_18_60 (by decide)
              ·
                try simp only [mIn_0, lgc_lt, lgc_gt, lgc_le, lgc_ge, lgc_eq] at c_18_60
                try simp only [fl_lt, fl_le, fl_eq, fL_w, fL_lt, fL_le, tm1, tm10k, tm9, tm99, Int32.reduceToInt, Int64.reduceToInt, Int.not_lt, Int.not_le] at c_18_60
                refine gz_iload_n dX12_digits_21 rfl rfl ?_
                refine gz_iload_n dX12_digits_22 rfl rfl ?_
                refine gz_icmp_ge (tgt := 34) dX12_digits_23 (by decide) (fun c_23_61 => ?_) (fun c_23_61 => ?_)
                ·
                  try simp only [mIn_0, lgc_lt, lgc_gt, lgc_le, lgc_ge, lgc_eq] at c_23_61
                  try simp only [fl_lt, fl_le, fl_eq, fL_w, fL_lt, fL_le, tm1, tm10k, tm9, tm99, Int32.reduceToInt, Int64.reduceToInt, Int.not_lt, Int.not_le] at c_23_61
                  refine gz_aload_n dX12_digits_34 rfl rfl ?_
                  refine mg_240 hS_66 dX12_digits_35 ?_
                  refine gz_aload_n dX12_digits_38 rfl rfl ?_
                  refine mg_541 hS_66 dX12_digits_39 ?_
                  refine gz_ev (w := .int ((n 88) + 1)) rfl ?_
                  refine gz_bipush (v := 48) dX12_digits_42 (by decide) ?_
                  refine gz_iload_n dX12_digits_44 rfl rfl ?_
                  refine gz_iload_n dX12_digits_45 rfl rfl ?_
                  refine gz_idiv dX12_digits_46 (by decide) ?_
                  refine gz_bipush (v := 10) dX12_digits_47 (by decide) ?_
                  refine gz_irem dX12_digits_49 (by decide) ?_
                  refine gz_iadd dX12_digits_50 ?_
                  refine gz_i2b dX12_digits_51 ?_
                  refine m_bast 87 hS_66 rfl (N := 1000) rfl ((by have q9 := (T_add (rfl : ((n 88)).toInt = ((n 88)).toInt) (show (1 : Int32).toInt = 1 from rfl) (by omega)); exact vin_T q9 (by omega) (by omega))) dX12_digits_52 (fun f_67 hS_67q => ?_)
                  have hS_67 : mS cy m a f0 (va_up n 88 ((n 88) + 1)) z (va_up (va_up F 87 (upd (F 87) (Int32.toNatClampNeg (n 88)) (vp_nar .byte ((48 + ((x1 / 1000) - (x1 / 1000) / 10 * 10)).toInt8.toInt32)))) 87 (upd (upd (F 87) (Int32.toNatClampNeg (n 88)) (vp_nar .byte ((48 + ((x1 / 1000) - (x1 / 1000) / 10 * 10)).toInt8.toInt32))) (Int32.toNatClampNeg ((n 88) + 1)) (vp_nar .byte ((48 + ((x1 / 100) - (x1 / 100) / 10 * 10)).toInt8.toInt32)))) G f_67 := hS_67q
                  refine gz_aload_n dX12_digits_53 rfl rfl ?_
                  refine gz_dup dX12_digits_54 rfl ?_
                  refine mg_541 hS_67 dX12_digits_55 ?_
                  refine gz_ev (w := .int ((n 88) + 1)) rfl ?_
                  refine gz_iconst (v := 1) dX12_digits_58 (by decide) ?_
                  refine gz_iadd dX12_digits_59 ?_
                  refine mp_541 hS_67 dX12_digits_60 (fun f_68 hS_68 => ?_)
                  refine gz_iload_n dX12_digits_63 rfl rfl ?_
                  refine gz_bipush (v := 10) dX12_digits_64 (by decide) ?_
                  refine gz_idiv dX12_digits_66 (by decide) ?_
                  refine gz_ev (w := .int 10) (by decide) ?_
                  refine gz_istore_n (lv' := [(2, .int 10), (0, .ref m), (1, .int x1)]) dX12_digits_67 rfl (by decide) rfl ?_
                  refine gz_goto (tgt := 17) dX12_digits_68 (by decide) ?_
                  refine gz_iload_n dX12_digits_17 rfl rfl ?_
                  refine gz_if_le (tgt := 71) dX12_digits_18 (by decide) (fun c_18_62 => ?_) (fun c_18_62 => ?_)
                  · exact absurd c_18_62 (by decide)
                  ·
                    try simp only [mIn_0, lgc_lt, lgc_gt, lgc_le, lgc_ge, lgc_eq] at c_18_62
                    try simp only [fl_lt, fl_le, fl_eq, fL_w, fL_lt, fL_le, tm1, tm10k, tm9, tm99, Int32.reduceToInt, Int64.reduceToInt, Int.not_lt, Int.not_le] at c_18_62
                    refine gz_iload_n dX12_digits_21 rfl rfl ?_
                    refine gz_iload_n dX12_digits_22 rfl rfl ?_
                    refine gz_icmp_ge (tgt := 34) dX12_digits_23 (by decide) (fun c_23_63 => ?_) (fun c_23_63 => ?_)
                    ·
                      try simp only [mIn_0, lgc_lt, lgc_gt, lgc_le, lgc_ge, lgc_eq] at c_23_63
                      try simp only [fl_lt, fl_le, fl_eq, fL_w, fL_lt, fL_le, tm1, tm10k, tm9, tm99, Int32.reduceToInt, Int64.reduceToInt, Int.not_lt, Int.not_le] at c_23_63
                      refine gz_aload_n dX12_digits_34 rfl rfl ?_
                      refine mg_240 hS_68 dX12_digits_35 ?_
                      refine gz_aload_n dX12_digits_38 rfl rfl ?_
                      refine mg_541 hS_68 dX12_digits_39 ?_
                      refine gz_ev (w := .int (((n 88) + 1) + 1)) rfl ?_
                      refine gz_bipush (v := 48) dX12_digits_42 (by decide) ?_
                      refine gz_iload_n dX12_digits_44 rfl rfl ?_
                      refine gz_iload_n dX12_digits_45 rfl rfl ?_
                      refine gz_idiv dX12_digits_46 (by decide) ?_
                      refine gz_bipush (v := 10) dX12_digits_47 (by decide) ?_
                      refine gz_irem dX12_digits_49 (by decide) ?_
                      refine gz_iadd dX12_digits_50 ?_
                      refine gz_i2b dX12_digits_51 ?_
                      refine m_bast 87 hS_68 rfl (N := 1000) rfl ((by have q9 := (T_add (T_add (rfl : ((n 88)).toInt = ((n 88)).toInt) (show (1 : Int32).toInt = 1 from rfl) (by omega)) (show (1 : Int32).toInt = 1 from rfl) (by omega)); exact vin_T q9 (by omega) (by omega))) dX12_digits_52 (fun f_69 hS_69q => ?_)
                      have hS_69 : mS cy m a f0 (va_up (va_up n 88 ((n 88) + 1)) 88 (((n 88) + 1) + 1)) z (va_up (va_up (va_up F 87 (upd (F 87) (Int32.toNatClampNeg (n 88)) (vp_nar .byte ((48 + ((x1 / 1000) - (x1 / 1000) / 10 * 10)).toInt8.toInt32)))) 87 (upd (upd (F 87) (Int32.toNatClampNeg (n 88)) (vp_nar .byte ((48 + ((x1 / 1000) - (x1 / 1000) / 10 * 10)).toInt8.toInt32))) (Int32.toNatClampNeg ((n 88) + 1)) (vp_nar .byte ((48 + ((x1 / 100) - (x1 / 100) / 10 * 10)).toInt8.toInt32)))) 87 (upd (upd (upd (F 87) (Int32.toNatClampNeg (n 88)) (vp_nar .byte ((48 + ((x1 / 1000) - (x1 / 1000) / 10 * 10)).toInt8.toInt32))) (Int32.toNatClampNeg ((n 88) + 1)) (vp_nar .byte ((48 + ((x1 / 100) - (x1 / 100) / 10 * 10)).toInt8.toInt32))) (Int32.toNatClampNeg (((n 88) + 1) + 1)) (vp_nar .byte ((48 + ((x1 / 10) - (x1 / 10) / 10 * 10)).toInt8.toInt32)))) G f_69 := hS_69q
                      refine gz_aload_n dX12_digits_53 rfl rfl ?_
                      refine gz_dup dX12_digits_54 rfl ?_
                      refine mg_541 hS_69 dX12_digits_55 ?_
                      refine gz_ev (w := .int (((n 88) + 1) + 1)) rfl ?_
                      refine gz_iconst (v := 1) dX12_digits_58 (by decide) ?_
                      refine gz_iadd dX12_digits_59 ?_
                      refine mp_541 hS_69 dX12_digits_60 (fun f_70 hS_70 => ?_)
                      refine gz_iload_n dX12_digits_63 rfl rfl ?_
                      refine gz_bipush (v := 10) dX12_digits_64 (by decide) ?_
                      refine gz_idiv dX12_digits_66 (by decide) ?_
                      refine gz_ev (w := .int 1) (by decide) ?_
                      refine gz_istore_n (lv' := [(2, .int 1), (0, .ref m), (1, .int x1)]) dX12_digits_67 rfl (by decide) rfl ?_
                      refine gz_goto (tgt := 17) dX12_digits_68 (by decide) ?_
                      refine gz_iload_n dX12_digits_17 rfl rfl ?_
                      refine gz_if_le (tgt := 71) dX12_digits_18 (by decide) (fun c_18_64 => ?_) (fun c_18_64 => ?_)
                      · exact absurd c_18_64 (by decide)
                      ·
                        try simp only [mIn_0, lgc_lt, lgc_gt, lgc_le, lgc_ge, lgc_eq] at c_18_64
                        try simp only [fl_lt, fl_le, fl_eq, fL_w, fL_lt, fL_le, tm1, tm10k, tm9, tm99, Int32.reduceToInt, Int64.reduceToInt, Int.not_lt, Int.not_le] at c_18_64
                        refine gz_iload_n dX12_digits_21 rfl rfl ?_
                        refine gz_iload_n dX12_digits_22 rfl rfl ?_
                        refine gz_icmp_ge (tgt := 34) dX12_digits_23 (by decide) (fun c_23_65 => ?_) (fun c_23_65 => ?_)
                        ·
                          try simp only [mIn_0, lgc_lt, lgc_gt, lgc_le, lgc_ge, lgc_eq] at c_23_65
                          try simp only [fl_lt, fl_le, fl_eq, fL_w, fL_lt, fL_le, tm1, tm10k, tm9, tm99, Int32.reduceToInt, Int64.reduceToInt, Int.not_lt, Int.not_le] at c_23_65
                          refine gz_aload_n dX12_digits_34 rfl rfl ?_
                          refine mg_240 hS_70 dX12_digits_35 ?_
                          refine gz_aload_n dX12_digits_38 rfl rfl ?_
                          refine mg_541 hS_70 dX12_digits_39 ?_
                          refine gz_ev (w := .int ((((n 88) + 1) + 1) + 1)) rfl ?_
                          refine gz_bipush (v := 48) dX12_digits_42 (by decide) ?_
                          refine gz_iload_n dX12_digits_44 rfl rfl ?_
                          refine gz_iload_n dX12_digits_45 rfl rfl ?_
                          refine gz_idiv dX12_digits_46 (by decide) ?_
                          refine gz_bipush (v := 10) dX12_digits_47 (by decide) ?_
                          refine gz_irem dX12_digits_49 (by decide) ?_
                          refine gz_iadd dX12_digits_50 ?_
                          refine gz_i2b dX12_digits_51 ?_
                          refine m_bast 87 hS_70 rfl (N := 1000) rfl ((by have q9 := (T_add (T_add (T_add (rfl : ((n 88)).toInt = ((n 88)).toInt) (show (1 : Int32).toInt = 1 from rfl) (by omega)) (show (1 : Int32).toInt = 1 from rfl) (by omega)) (show (1 : Int32).toInt = 1 from rfl) (by omega)); exact vin_T q9 (by omega) (by omega))) dX12_digits_52 (fun f_71 hS_71q => ?_)
                          have hS_71 : mS cy m a f0 (va_up (va_up (va_up n 88 ((n 88) + 1)) 88 (((n 88) + 1) + 1)) 88 ((((n 88) + 1) + 1) + 1)) z (va_up (va_up (va_up (va_up F 87 (upd (F 87) (Int32.toNatClampNeg (n 88)) (vp_nar .byte ((48 + ((x1 / 1000) - (x1 / 1000) / 10 * 10)).toInt8.toInt32)))) 87 (upd (upd (F 87) (Int32.toNatClampNeg (n 88)) (vp_nar .byte ((48 + ((x1 / 1000) - (x1 / 1000) / 10 * 10)).toInt8.toInt32))) (Int32.toNatClampNeg ((n 88) + 1)) (vp_nar .byte ((48 + ((x1 / 100) - (x1 / 100) / 10 * 10)).toInt8.toInt32)))) 87 (upd (upd (upd (F 87) (Int32.toNatClampNeg (n 88)) (vp_nar .byte ((48 + ((x1 / 1000) - (x1 / 1000) / 10 * 10)).toInt8.toInt32))) (Int32.toNatClampNeg ((n 88) + 1)) (vp_nar .byte ((48 + ((x1 / 100) - (x1 / 100) / 10 * 10)).toInt8.toInt32))) (Int32.toNatClampNeg (((n 88) + 1) + 1)) (vp_nar .byte ((48 + ((x1 / 10) - (x1 / 10) / 10 * 10)).toInt8.toInt32)))) 87 (upd (upd (upd (upd (F 87) (Int32.toNatClampNeg (n 88)) (vp_nar .byte ((48 + ((x1 / 1000) - (x1 / 1000) / 10 * 10)).toInt8.toInt32))) (Int32.toNatClampNeg ((n 88) + 1)) (vp_nar .byte ((48 + ((x1 / 100) - (x1 / 100) / 10 * 10)).toInt8.toInt32))) (Int32.toNatClampNeg (((n 88) + 1) + 1)) (vp_nar .byte ((48 + ((x1 / 10) - (x1 / 10) / 10 * 10)).toInt8.toInt32))) (Int32.toNatClampNeg ((((n 88) + 1) + 1) + 1)) (vp_nar .byte ((48 + ((x1 / 1) - (x1 / 1) / 10 * 10)).toInt8.toInt32)))) G f_71 := hS_71q
                          refine gz_aload_n dX12_digits_53 rfl rfl ?_
                          refine gz_dup dX12_digits_54 rfl ?_
                          refine mg_541 hS_71 dX12_digits_55 ?_
                          refine gz_ev (w := .int ((((n 88) + 1) + 1) + 1)) rfl ?_
                          refine gz_iconst (v := 1) dX12_digits_58 (by decide) ?_
                          refine gz_iadd dX12_digits_59 ?_
                          refine mp_541 hS_71 dX12_digits_60 (fun f_72 hS_72 => ?_)
                          refine gz_iload_n dX12_digits_63 rfl rfl ?_
                          refine gz_bipush (v := 10) dX12_digits_64 (by decide) ?_
                          refine gz_idiv dX12_digits_66 (by decide) ?_
                          refine gz_ev (w := .int 0) (by decide) ?_
                          refine gz_istore_n (lv' := [(2, .int 0), (0, .ref m), (1, .int x1)]) dX12_digits_67 rfl (by decide) rfl ?_
                          refine gz_goto (tgt := 17) dX12_digits_68 (by decide) ?_
                          refine gz_iload_n dX12_digits_17 rfl rfl ?_
                          refine gz_if_le (tgt := 71) dX12_digits_18 (by decide) (fun c_18_66 => ?_) (fun c_18_66 => ?_)
                          ·
                            try simp only [mIn_0, lgc_lt, lgc_gt, lgc_le, lgc_ge, lgc_eq] at c_18_66
                            try simp only [fl_lt, fl_le, fl_eq, fL_w, fL_lt, fL_le, tm1, tm10k, tm9, tm99, Int32.reduceToInt, Int64.reduceToInt, Int.not_lt, Int.not_le] at c_18_66
                            refine gz_aload_n dX12_digits_71 rfl rfl ?_
                            refine gz_iconst (v := 1) dX12_digits_72 (by decide) ?_
                            refine mp_544 hS_72 ⟨rfl, rfl⟩ dX12_digits_73 (fun f_73 hS_73 => ?_)
                            exact gz_vret rfl dX12_digits_76 (Nat.le_of_ble_eq_true rfl) (Nat.le_of_ble_eq_true rfl) (⟨rfl, _, _, _, _, hS_73, (fx_n (fx_n (fx_F (fx_n (fx_F (fx_n (fx_F (fx_n (fx_F fx_rf (by decide)) (by decide)) (by decide)) (by decide)) (by decide)) (by decide)) (by decide)) (by decide)) (by decide)), (by (try rw [(show (va_up (va_up (va_up (va_up (va_up n 88 ((n 88) + 1)) 88 (((n 88) + 1) + 1)) 88 ((((n 88) + 1) + 1) + 1)) 88 (((((n 88) + 1) + 1) + 1) + 1)) 89 1) 88 = (((((n 88) + 1) + 1) + 1) + 1) from rfl)]); have q1_ := (T_add (T_add (T_add (T_add (rfl : ((n 88)).toInt = ((n 88)).toInt) (show (1 : Int32).toInt = 1 from rfl) (by omega)) (show (1 : Int32).toInt = 1 from rfl) (by omega)) (show (1 : Int32).toInt = 1 from rfl) (by omega)) (show (1 : Int32).toInt = 1 from rfl) (by omega)); omega), (by (try rw [(show (va_up (va_up (va_up (va_up (va_up n 88 ((n 88) + 1)) 88 (((n 88) + 1) + 1)) 88 ((((n 88) + 1) + 1) + 1)) 88 (((((n 88) + 1) + 1) + 1) + 1)) 89 1) 88 = (((((n 88) + 1) + 1) + 1) + 1) from rfl)]); have q1_ := (T_add (T_add (T_add (T_add (rfl : ((n 88)).toInt = ((n 88)).toInt) (show (1 : Int32).toInt = 1 from rfl) (by omega)) (show (1 : Int32).toInt = 1 from rfl) (by omega)) (show (1 : Int32).toInt = 1 from rfl) (by omega)) (show (1 : Int32).toInt = 1 from rfl) (by omega)); omega)⟩)
                          · exact absurd c_18_66 (by decide)
                        ·
                          try simp only [mIn_0, lgc_lt, lgc_gt, lgc_le, lgc_ge, lgc_eq] at c_23_65
                          try simp only [fl_lt, fl_le, fl_eq, fL_w, fL_lt, fL_le, tm1, tm10k, tm9, tm99, Int32.reduceToInt, Int64.reduceToInt, Int.not_lt, Int.not_le] at c_23_65
                          refine gz_iload_n dX12_digits_26 rfl rfl ?_
                          refine gz_iconst (v := 1) dX12_digits_27 (by decide) ?_
                          refine gz_icmp_le (tgt := 34) dX12_digits_28 (by decide) (fun c_28_67 => ?_) (fun c_28_67 => ?_)
                          ·
                            try simp only [mIn_0, lgc_lt, lgc_gt, lgc_le, lgc_ge, lgc_eq] at c_28_67
                            try simp only [fl_lt, fl_le, fl_eq, fL_w, fL_lt, fL_le, tm1, tm10k, tm9, tm99, Int32.reduceToInt, Int64.reduceToInt, Int.not_lt, Int.not_le] at c_28_67
                            refine gz_aload_n dX12_digits_34 rfl rfl ?_
                            refine mg_240 hS_70 dX12_digits_35 ?_
                            refine gz_aload_n dX12_digits_38 rfl rfl ?_
                            refine mg_541 hS_70 dX12_digits_39 ?_
                            refine gz_ev (w := .int ((((n 88) + 1) + 1) + 1)) rfl ?_
                            refine gz_bipush (v := 48) dX12_digits_42 (by decide) ?_
                            refine gz_iload_n dX12_digits_44 rfl rfl ?_
                            refine gz_iload_n dX12_digits_45 rfl rfl ?_
                            refine gz_idiv dX12_digits_46 (by decide) ?_
                            refine gz_bipush (v := 10) dX12_digits_47 (by decide) ?_
                            refine gz_irem dX12_digits_49 (by decide) ?_
                            refine gz_iadd dX12_digits_50 ?_
                            refine gz_i2b dX12_digits_51 ?_
                            refine m_bast 87 hS_70 rfl (N := 1000) rfl ((by have q9 := (T_add (T_add (T_add (rfl : ((n 88)).toInt = ((n 88)).toInt) (show (1 : Int32).toInt = 1 from rfl) (by omega)) (show (1 : Int32).toInt = 1 from rfl) (by omega)) (show (1 : Int32).toInt = 1 from rfl) (by omega)); exact vin_T q9 (by omega) (by omega))) dX12_digits_52 (fun f_74 hS_74q => ?_)
                            have hS_74 : mS cy m a f0 (va_up (va_up (va_up n 88 ((n 88) + 1)) 88 (((n 88) + 1) + 1)) 88 ((((n 88) + 1) + 1) + 1)) z (va_up (va_up (va_up (va_up F 87 (upd (F 87) (Int32.toNatClampNeg (n 88)) (vp_nar .byte ((48 + ((x1 / 1000) - (x1 / 1000) / 10 * 10)).toInt8.toInt32)))) 87 (upd (upd (F 87) (Int32.toNatClampNeg (n 88)) (vp_nar .byte ((48 + ((x1 / 1000) - (x1 / 1000) / 10 * 10)).toInt8.toInt32))) (Int32.toNatClampNeg ((n 88) + 1)) (vp_nar .byte ((48 + ((x1 / 100) - (x1 / 100) / 10 * 10)).toInt8.toInt32)))) 87 (upd (upd (upd (F 87) (Int32.toNatClampNeg (n 88)) (vp_nar .byte ((48 + ((x1 / 1000) - (x1 / 1000) / 10 * 10)).toInt8.toInt32))) (Int32.toNatClampNeg ((n 88) + 1)) (vp_nar .byte ((48 + ((x1 / 100) - (x1 / 100) / 10 * 10)).toInt8.toInt32))) (Int32.toNatClampNeg (((n 88) + 1) + 1)) (vp_nar .byte ((48 + ((x1 / 10) - (x1 / 10) / 10 * 10)).toInt8.toInt32)))) 87 (upd (upd (upd (upd (F 87) (Int32.toNatClampNeg (n 88)) (vp_nar .byte ((48 + ((x1 / 1000) - (x1 / 1000) / 10 * 10)).toInt8.toInt32))) (Int32.toNatClampNeg ((n 88) + 1)) (vp_nar .byte ((48 + ((x1 / 100) - (x1 / 100) / 10 * 10)).toInt8.toInt32))) (Int32.toNatClampNeg (((n 88) + 1) + 1)) (vp_nar .byte ((48 + ((x1 / 10) - (x1 / 10) / 10 * 10)).toInt8.toInt32))) (Int32.toNatClampNeg ((((n 88) + 1) + 1) + 1)) (vp_nar .byte ((48 + ((x1 / 1) - (x1 / 1) / 10 * 10)).toInt8.toInt32)))) G f_74 := hS_74q
                            refine gz_aload_n dX12_digits_53 rfl rfl ?_
                            refine gz_dup dX12_digits_54 rfl ?_
                            refine mg_541 hS_74 dX12_digits_55 ?_
                            refine gz_ev (w := .int ((((n 88) + 1) + 1) + 1)) rfl ?_
                            refine gz_iconst (v := 1) dX12_digits_58 (by decide) ?_
                            refine gz_iadd dX12_digits_59 ?_
                            refine mp_541 hS_74 dX12_digits_60 (fun f_75 hS_75 => ?_)
                            refine gz_iload_n dX12_digits_63 rfl rfl ?_
                            refine gz_bipush (v := 10) dX12_digits_64 (by decide) ?_
                            refine gz_idiv dX12_digits_66 (by decide) ?_
                            refine gz_ev (w := .int 0) (by decide) ?_
                            refine gz_istore_n (lv' := [(2, .int 0), (0, .ref m), (1, .int x1)]) dX12_digits_67 rfl (by decide) rfl ?_
                            refine gz_goto (tgt := 17) dX12_digits_68 (by decide) ?_
                            refine gz_iload_n dX12_digits_17 rfl rfl ?_
                            refine gz_if_le (tgt := 71) dX12_digits_18 (by decide) (fun c_18_68 => ?_) (fun c_18_68 => ?_)
                            ·
                              try simp only [mIn_0, lgc_lt, lgc_gt, lgc_le, lgc_ge, lgc_eq] at c_18_68
                              try simp only [fl_lt, fl_le, fl_eq, fL_w, fL_lt, fL_le, tm1, tm10k, tm9, tm99, Int32.reduceToInt, Int64.reduceToInt, Int.not_lt, Int.not_le] at c_18_68
                              refine gz_aload_n dX12_digits_71 rfl rfl ?_
                              refine gz_iconst (v := 1) dX12_digits_72 (by decide) ?_
                              refine mp_544 hS_75 ⟨rfl, rfl⟩ dX12_digits_73 (fun f_76 hS_76 => ?_)
                              exact gz_vret rfl dX12_digits_76 (Nat.le_of_ble_eq_true rfl) (Nat.le_of_ble_eq_true rfl) (⟨rfl, _, _, _, _, hS_76, (fx_n (fx_n (fx_F (fx_n (fx_F (fx_n (fx_F (fx_n (fx_F fx_rf (by decide)) (by decide)) (by decide)) (by decide)) (by decide)) (by decide)) (by decide)) (by decide)) (by decide)), (by (try rw [(show (va_up (va_up (va_up (va_up (va_up n 88 ((n 88) + 1)) 88 (((n 88) + 1) + 1)) 88 ((((n 88) + 1) + 1) + 1)) 88 (((((n 88) + 1) + 1) + 1) + 1)) 89 1) 88 = (((((n 88) + 1) + 1) + 1) + 1) from rfl)]); have q1_ := (T_add (T_add (T_add (T_add (rfl : ((n 88)).toInt = ((n 88)).toInt) (show (1 : Int32).toInt = 1 from rfl) (by omega)) (show (1 : Int32).toInt = 1 from rfl) (by omega)) (show (1 : Int32).toInt = 1 from rfl) (by omega)) (show (1 : Int32).toInt = 1 from rfl) (by omega)); omega), (by (try rw [(show (va_up (va_up (va_up (va_up (va_up n 88 ((n 88) + 1)) 88 (((n 88) + 1) + 1)) 88 ((((n 88) + 1) + 1) + 1)) 88 (((((n 88) + 1) + 1) + 1) + 1)) 89 1) 88 = (((((n 88) + 1) + 1) + 1) + 1) from rfl)]); have q1_ := (T_add (T_add (T_add (T_add (rfl : ((n 88)).toInt = ((n 88)).toInt) (show (1 : Int32).toInt = 1 from rfl) (by omega)) (show (1 : Int32).toInt = 1 from rfl) (by omega)) (show (1 : Int32).toInt = 1 from rfl) (by omega)) (show (1 : Int32).toInt = 1 from rfl) (by omega)); omega)⟩)
                            · exact absurd c_18_68 (by decide)
                          · exact absurd c_28_67 (by decide)
                    ·
                      try simp only [mIn_0, lgc_lt, lgc_gt, lgc_le, lgc_ge, lgc_eq] at c_23_63
                      try simp only [fl_lt, fl_le, fl_eq, fL_w, fL_lt, fL_le, tm1, tm10k, tm9, tm99, Int32.reduceToInt, Int64.reduceToInt, Int.not_lt, Int.not_le] at c_23_63
                      refine gz_iload_n dX12_digits_26 rfl rfl ?_
                      refine gz_iconst (v := 1) dX12_digits_27 (by decide) ?_
                      refine gz_icmp_le (tgt := 34) dX12_digits_28 (by decide) (fun c_28_69 => ?_) (fun c_28_69 => ?_)
                      · exact absurd c_28_69 (by decide)
                      ·
                        try simp only [mIn_0, lgc_lt, lgc_gt, lgc_le, lgc_ge, lgc_eq] at c_28_69
                        try simp only [fl_lt, fl_le, fl_eq, fL_w, fL_lt, fL_le, tm1, tm10k, tm9, tm99, Int32.reduceToInt, Int64.reduceToInt, Int.not_lt, Int.not_le] at c_28_69
                        refine gz_goto (tgt := 63) dX12_digits_31 (by decide) ?_
                        refine gz_iload_n dX12_digits_63 rfl rfl ?_
                        refine gz_bipush (v := 10) dX12_digits_64 (by decide) ?_
                        refine gz_idiv dX12_digits_66 (by decide) ?_
                        refine gz_ev (w := .int 1) (by decide) ?_
                        refine gz_istore_n (lv' := [(2, .int 1), (0, .ref m), (1, .int x1)]) dX12_digits_67 rfl (by decide) rfl ?_
                        refine gz_goto (tgt := 17) dX12_digits_68 (by decide) ?_
                        refine gz_iload_n dX12_digits_17 rfl rfl ?_
                        refine gz_if_le (tgt := 71) dX12_digits_18 (by decide) (fun c_18_70 => ?_) (fun c_18_70 => ?_)
                        · exact absurd c_18_70 (by decide)
                        ·
                          try simp only [mIn_0, lgc_lt, lgc_gt, lgc_le, lgc_ge, lgc_eq] at c_18_70
                          try simp only [fl_lt, fl_le, fl_eq, fL_w, fL_lt, fL_le, tm1, tm10k, tm9, tm99, Int32.reduceToInt, Int64.reduceToInt, Int.not_lt, Int.not_le] at c_18_70
                          refine gz_iload_n dX12_digits_21 rfl rfl ?_
                          refine gz_iload_n dX12_digits_22 rfl rfl ?_
                          refine gz_icmp_ge (tgt := 34) dX12_digits_23 (by decide) (fun c_23_71 => ?_) (fun c_23_71 => ?_)
                          ·
                            try simp only [mIn_0, lgc_lt, lgc_gt, lgc_le, lgc_ge, lgc_eq] at c_23_71
                            try simp only [fl_lt, fl_le, fl_eq, fL_w, fL_lt, fL_le, tm1, tm10k, tm9, tm99, Int32.reduceToInt, Int64.reduceToInt, Int.not_lt, Int.not_le] at c_23_71
                            refine gz_aload_n dX12_digits_34 rfl rfl ?_
                            refine mg_240 hS_68 dX12_digits_35 ?_
                            refine gz_aload_n dX12_digits_38 rfl rfl ?_
                            refine mg_541 hS_68 dX12_digits_39 ?_
                            refine gz_ev (w := .int (((n 88) + 1) + 1)) rfl ?_
                            refine gz_bipush (v := 48) dX12_digits_42 (by decide) ?_
                            refine gz_iload_n dX12_digits_44 rfl rfl ?_
                            refine gz_iload_n dX12_digits_45 rfl rfl ?_
                            refine gz_idiv dX12_digits_46 (by decide) ?_
                            refine gz_bipush (v := 10) dX12_digits_47 (by decide) ?_
                            refine gz_irem dX12_digits_49 (by decide) ?_
                            refine gz_iadd dX12_digits_50 ?_
                            refine gz_i2b dX12_digits_51 ?_
                            refine m_bast 87 hS_68 rfl (N := 1000) rfl ((by have q9 := (T_add (T_add (rfl : ((n 88)).toInt = ((n 88)).toInt) (show (1 : Int32).toInt = 1 from rfl) (by omega)) (show (1 : Int32).toInt = 1 from rfl) (by omega)); exact vin_T q9 (by omega) (by omega))) dX12_digits_52 (fun f_77 hS_77q => ?_)
                            have hS_77 : mS cy m a f0 (va_up (va_up n 88 ((n 88) + 1)) 88 (((n 88) + 1) + 1)) z (va_up (va_up (va_up F 87 (upd (F 87) (Int32.toNatClampNeg (n 88)) (vp_nar .byte ((48 + ((x1 / 1000) - (x1 / 1000) / 10 * 10)).toInt8.toInt32)))) 87 (upd (upd (F 87) (Int32.toNatClampNeg (n 88)) (vp_nar .byte ((48 + ((x1 / 1000) - (x1 / 1000) / 10 * 10)).toInt8.toInt32))) (Int32.toNatClampNeg ((n 88) + 1)) (vp_nar .byte ((48 + ((x1 / 100) - (x1 / 100) / 10 * 10)).toInt8.toInt32)))) 87 (upd (upd (upd (F 87) (Int32.toNatClampNeg (n 88)) (vp_nar .byte ((48 + ((x1 / 1000) - (x1 / 1000) / 10 * 10)).toInt8.toInt32))) (Int32.toNatClampNeg ((n 88) + 1)) (vp_nar .byte ((48 + ((x1 / 100) - (x1 / 100) / 10 * 10)).toInt8.toInt32))) (Int32.toNatClampNeg (((n 88) + 1) + 1)) (vp_nar .byte ((48 + ((x1 / 1) - (x1 / 1) / 10 * 10)).toInt8.toInt32)))) G f_77 := hS_77q
                            refine gz_aload_n dX12_digits_53 rfl rfl ?_
                            refine gz_dup dX12_digits_54 rfl ?_
                            refine mg_541 hS_77 dX12_digits_55 ?_
                            refine gz_ev (w := .int (((n 88) + 1) + 1)) rfl ?_
                            refine gz_iconst (v := 1) dX12_digits_58 (by decide) ?_
                            refine gz_iadd dX12_digits_59 ?_
                            refine mp_541 hS_77 dX12_digits_60 (fun f_78 hS_78 => ?_)
                            refine gz_iload_n dX12_digits_63 rfl rfl ?_
                            refine gz_bipush (v := 10) dX12_digits_64 (by decide) ?_
                            refine gz_idiv dX12_digits_66 (by decide) ?_
                            refine gz_ev (w := .int 0) (by decide) ?_
                            refine gz_istore_n (lv' := [(2, .int 0), (0, .ref m), (1, .int x1)]) dX12_digits_67 rfl (by decide) rfl ?_
                            refine gz_goto (tgt := 17) dX12_digits_68 (by decide) ?_
                            refine gz_iload_n dX12_digits_17 rfl rfl ?_
                            refine gz_if_le (tgt := 71) dX12_digits_18 (by decide) (fun c_18_72 => ?_) (fun c_18_72 => ?_)
                            ·
                              try simp only [mIn_0, lgc_lt, lgc_gt, lgc_le, lgc_ge, lgc_eq] at c_18_72
                              try simp only [fl_lt, fl_le, fl_eq, fL_w, fL_lt, fL_le, tm1, tm10k, tm9, tm99, Int32.reduceToInt, Int64.reduceToInt, Int.not_lt, Int.not_le] at c_18_72
                              refine gz_aload_n dX12_digits_71 rfl rfl ?_
                              refine gz_iconst (v := 1) dX12_digits_72 (by decide) ?_
                              refine mp_544 hS_78 ⟨rfl, rfl⟩ dX12_digits_73 (fun f_79 hS_79 => ?_)
                              exact gz_vret rfl dX12_digits_76 (Nat.le_of_ble_eq_true rfl) (Nat.le_of_ble_eq_true rfl) (⟨rfl, _, _, _, _, hS_79, (fx_n (fx_n (fx_F (fx_n (fx_F (fx_n (fx_F fx_rf (by decide)) (by decide)) (by decide)) (by decide)) (by decide)) (by decide)) (by decide)), (by (try rw [(show (va_up (va_up (va_up (va_up n 88 ((n 88) + 1)) 88 (((n 88) + 1) + 1)) 88 ((((n 88) + 1) + 1) + 1)) 89 1) 88 = ((((n 88) + 1) + 1) + 1) from rfl)]); have q1_ := (T_add (T_add (T_add (rfl : ((n 88)).toInt = ((n 88)).toInt) (show (1 : Int32).toInt = 1 from rfl) (by omega)) (show (1 : Int32).toInt = 1 from rfl) (by omega)) (show (1 : Int32).toInt = 1 from rfl) (by omega)); omega), (by (try rw [(show (va_up (va_up (va_up (va_up n 88 ((n 88) + 1)) 88 (((n 88) + 1) + 1)) 88 ((((n 88) + 1) + 1) + 1)) 89 1) 88 = ((((n 88) + 1) + 1) + 1) from rfl)]); have q1_ := (T_add (T_add (T_add (rfl : ((n 88)).toInt = ((n 88)).toInt) (show (1 : Int32).toInt = 1 from rfl) (by omega)) (show (1 : Int32).toInt = 1 from rfl) (by omega)) (show (1 : Int32).toInt = 1 from rfl) (by omega)); omega)⟩)
                            · exact absurd c_18_72 (by decide)
                          ·
                            try simp only [mIn_0, lgc_lt, lgc_gt, lgc_le, lgc_ge, lgc_eq] at c_23_71
                            try simp only [fl_lt, fl_le, fl_eq, fL_w, fL_lt, fL_le, tm1, tm10k, tm9, tm99, Int32.reduceToInt, Int64.reduceToInt, Int.not_lt, Int.not_le] at c_23_71
                            refine gz_iload_n dX12_digits_26 rfl rfl ?_
                            refine gz_iconst (v := 1) dX12_digits_27 (by decide) ?_
                            refine gz_icmp_le (tgt := 34) dX12_digits_28 (by decide) (fun c_28_73 => ?_) (fun c_28_73 => ?_)
                            ·
                              try simp only [mIn_0, lgc_lt, lgc_gt, lgc_le, lgc_ge, lgc_eq] at c_28_73
                              try simp only [fl_lt, fl_le, fl_eq, fL_w, fL_lt, fL_le, tm1, tm10k, tm9, tm99, Int32.reduceToInt, Int64.reduceToInt, Int.not_lt, Int.not_le] at c_28_73
                              refine gz_aload_n dX12_digits_34 rfl rfl ?_
                              refine mg_240 hS_68 dX12_digits_35 ?_
                              refine gz_aload_n dX12_digits_38 rfl rfl ?_
                              refine mg_541 hS_68 dX12_digits_39 ?_
                              refine gz_ev (w := .int (((n 88) + 1) + 1)) rfl ?_
                              refine gz_bipush (v := 48) dX12_digits_42 (by decide) ?_
                              refine gz_iload_n dX12_digits_44 rfl rfl ?_
                              refine gz_iload_n dX12_digits_45 rfl rfl ?_
                              refine gz_idiv dX12_digits_46 (by decide) ?_
                              refine gz_bipush (v := 10) dX12_digits_47 (by decide) ?_
                              refine gz_irem dX12_digits_49 (by decide) ?_
                              refine gz_iadd dX12_digits_50 ?_
                              refine gz_i2b dX12_digits_51 ?_
                              refine m_bast 87 hS_68 rfl (N := 1000) rfl ((by have q9 := (T_add (T_add (rfl : ((n 88)).toInt = ((n 88)).toInt) (show (1 : Int32).toInt = 1 from rfl) (by omega)) (show (1 : Int32).toInt = 1 from rfl) (by omega)); exact vin_T q9 (by omega) (by omega))) dX12_digits_52 (fun f_80 hS_80q => ?_)
                              have hS_80 : mS cy m a f0 (va_up (va_up n 88 ((n 88) + 1)) 88 (((n 88) + 1) + 1)) z (va_up (va_up (va_up F 87 (upd (F 87) (Int32.toNatClampNeg (n 88)) (vp_nar .byte ((48 + ((x1 / 1000) - (x1 / 1000) / 10 * 10)).toInt8.toInt32)))) 87 (upd (upd (F 87) (Int32.toNatClampNeg (n 88)) (vp_nar .byte ((48 + ((x1 / 1000) - (x1 / 1000) / 10 * 10)).toInt8.toInt32))) (Int32.toNatClampNeg ((n 88) + 1)) (vp_nar .byte ((48 + ((x1 / 100) - (x1 / 100) / 10 * 10)).toInt8.toInt32)))) 87 (upd (upd (upd (F 87) (Int32.toNatClampNeg (n 88)) (vp_nar .byte ((48 + ((x1 / 1000) - (x1 / 1000) / 10 * 10)).toInt8.toInt32))) (Int32.toNatClampNeg ((n 88) + 1)) (vp_nar .byte ((48 + ((x1 / 100) - (x1 / 100) / 10 * 10)).toInt8.toInt32))) (Int32.toNatClampNeg (((n 88) + 1) + 1)) (vp_nar .byte ((48 + ((x1 / 1) - (x1 / 1) / 10 * 10)).toInt8.toInt32)))) G f_80 := hS_80q
                              refine gz_aload_n dX12_digits_53 rfl rfl ?_
                              refine gz_dup dX12_digits_54 rfl ?_
                              refine mg_541 hS_80 dX12_digits_55 ?_
                              refine gz_ev (w := .int (((n 88) + 1) + 1)) rfl ?_
                              refine gz_iconst (v := 1) dX12_digits_58 (by decide) ?_
                              refine gz_iadd dX12_digits_59 ?_
                              refine mp_541 hS_80 dX12_digits_60 (fun f_81 hS_81 => ?_)
                              refine gz_iload_n dX12_digits_63 rfl rfl ?_
                              refine gz_bipush (v := 10) dX12_digits_64 (by decide) ?_
                              refine gz_idiv dX12_digits_66 (by decide) ?_
                              refine gz_ev (w := .int 0) (by decide) ?_
                              refine gz_istore_n (lv' := [(2, .int 0), (0, .ref m), (1, .int x1)]) dX12_digits_67 rfl (by decide) rfl ?_
                              refine gz_goto (tgt := 17) dX12_digits_68 (by decide) ?_
                              refine gz_iload_n dX12_digits_17 rfl rfl ?_
                              refine gz_if_le (tgt := 71) dX12_digits_18 (by decide) (fun c_18_74 => ?_) (fun c_18_74 => ?_)
                              ·
                                try simp only [mIn_0, lgc_lt, lgc_gt, lgc_le, lgc_ge, lgc_eq] at c_18_74
                                try simp only [fl_lt, fl_le, fl_eq, fL_w, fL_lt, fL_le, tm1, tm10k, tm9, tm99, Int32.reduceToInt, Int64.reduceToInt, Int.not_lt, Int.not_le] at c_18_74
                                refine gz_aload_n dX12_digits_71 rfl rfl ?_
                                refine gz_iconst (v := 1) dX12_digits_72 (by decide) ?_
                                refine mp_544 hS_81 ⟨rfl, rfl⟩ dX12_digits_73 (fun f_82 hS_82 => ?_)
                                exact gz_vret rfl dX12_digits_76 (Nat.le_of_ble_eq_true rfl) (Nat.le_of_ble_eq_true rfl) (⟨rfl, _, _, _, _, hS_82, (fx_n (fx_n (fx_F (fx_n (fx_F (fx_n (fx_F fx_rf (by decide)) (by decide)) (by decide)) (by decide)) (by decide)) (by decide)) (by decide)), (by (try rw [(show (va_up (va_up (va_up (va_up n 88 ((n 88) + 1)) 88 (((n 88) + 1) + 1)) 88 ((((n 88) + 1) + 1) + 1)) 89 1) 88 = ((((n 88) + 1) + 1) + 1) from rfl)]); have q1_ := (T_add (T_add (T_add (rfl : ((n 88)).toInt = ((n 88)).toInt) (show (1 : Int32).toInt = 1 from rfl) (by omega)) (show (1 : Int32).toInt = 1 from rfl) (by omega)) (show (1 : Int32).toInt = 1 from rfl) (by omega)); omega), (by (try rw [(show (va_up (va_up (va_up (va_up n 88 ((n 88) + 1)) 88 (((n 88) + 1) + 1)) 88 ((((n 88) + 1) + 1) + 1)) 89 1) 88 = ((((n 88) + 1) + 1) + 1) from rfl)]); have q1_ := (T_add (T_add (T_add (rfl : ((n 88)).toInt = ((n 88)).toInt) (show (1 : Int32).toInt = 1 from rfl) (by omega)) (show (1 : Int32).toInt = 1 from rfl) (by omega)) (show (1 : Int32).toInt = 1 from rfl) (by omega)); omega)⟩)
                              · exact absurd c_18_74 (by decide)
                            · exact absurd c_28_73 (by decide)
                ·
                  try simp only [mIn_0, lgc_lt, lgc_gt, lgc_le, lgc_ge, lgc_eq] at c_23_61
                  try simp only [fl_lt, fl_le, fl_eq, fL_w, fL_lt, fL_le, tm1, tm10k, tm9, tm99, Int32.reduceToInt, Int64.reduceToInt, Int.not_lt, Int.not_le] at c_23_61
                  refine gz_iload_n dX12_digits_26 rfl rfl ?_
                  refine gz_iconst (v := 1) dX12_digits_27 (by decide) ?_
                  refine gz_icmp_le (tgt := 34) dX12_digits_28 (by decide) (fun c_28_75 => ?_) (fun c_28_75 => ?_)
                  · exact absurd c_28_75 (by decide)
                  ·
                    try simp only [mIn_0, lgc_lt, lgc_gt, lgc_le, lgc_ge, lgc_eq] at c_28_75
                    try simp only [fl_lt, fl_le, fl_eq, fL_w, fL_lt, fL_le, tm1, tm10k, tm9, tm99, Int32.reduceToInt, Int64.reduceToInt, Int.not_lt, Int.not_le] at c_28_75
                    refine gz_goto (tgt := 63) dX12_digits_31 (by decide) ?_
                    refine gz_iload_n dX12_digits_63 rfl rfl ?_
                    refine gz_bipush (v := 10) dX12_digits_64 (by decide) ?_
                    refine gz_idiv dX12_digits_66 (by decide) ?_
                    refine gz_ev (w := .int 10) (by decide) ?_
                    refine gz_istore_n (lv' := [(2, .int 10), (0, .ref m), (1, .int x1)]) dX12_digits_67 rfl (by decide) rfl ?_
                    refine gz_goto (tgt := 17) dX12_digits_68 (by decide) ?_
                    refine gz_iload_n dX12_digits_17 rfl rfl ?_
                    refine gz_if_le (tgt := 71) dX12_digits_18 (by decide) (fun c_18_76 => ?_) (fun c_18_76 => ?_)
                    · exact absurd c_18_76 (by decide)
                    ·
                      try simp only [mIn_0, lgc_lt, lgc_gt, lgc_le, lgc_ge, lgc_eq] at c_18_76
                      try simp only [fl_lt, fl_le, fl_eq, fL_w, fL_lt, fL_le, tm1, tm10k, tm9, tm99, Int32.reduceToInt, Int64.reduceToInt, Int.not_lt, Int.not_le] at c_18_76
                      refine gz_iload_n dX12_digits_21 rfl rfl ?_
                      refine gz_iload_n dX12_digits_22 rfl rfl ?_
                      refine gz_icmp_ge (tgt := 34) dX12_digits_23 (by decide) (fun c_23_77 => ?_) (fun c_23_77 => ?_)
                      ·
                        try simp only [mIn_0, lgc_lt, lgc_gt, lgc_le, lgc_ge, lgc_eq] at c_23_77
                        try simp only [fl_lt, fl_le, fl_eq, fL_w, fL_lt, fL_le, tm1, tm10k, tm9, tm99, Int32.reduceToInt, Int64.reduceToInt, Int.not_lt, Int.not_le] at c_23_77
                        refine gz_aload_n dX12_digits_34 rfl rfl ?_
                        refine mg_240 hS_66 dX12_digits_35 ?_
                        refine gz_aload_n dX12_digits_38 rfl rfl ?_
                        refine mg_541 hS_66 dX12_digits_39 ?_
                        refine gz_ev (w := .int ((n 88) + 1)) rfl ?_
                        refine gz_bipush (v := 48) dX12_digits_42 (by decide) ?_
                        refine gz_iload_n dX12_digits_44 rfl rfl ?_
                        refine gz_iload_n dX12_digits_45 rfl rfl ?_
                        refine gz_idiv dX12_digits_46 (by decide) ?_
                        refine gz_bipush (v := 10) dX12_digits_47 (by decide) ?_
                        refine gz_irem dX12_digits_49 (by decide) ?_
                        refine gz_iadd dX12_digits_50 ?_
                        refine gz_i2b dX12_digits_51 ?_
                        refine m_bast 87 hS_66 rfl (N := 1000) rfl ((by have q9 := (T_add (rfl : ((n 88)).toInt = ((n 88)).toInt) (show (1 : Int32).toInt = 1 from rfl) (by omega)); exact vin_T q9 (by omega) (by omega))) dX12_digits_52 (fun f_83 hS_83q => ?_)
                        have hS_83 : mS cy m a f0 (va_up n 88 ((n 88) + 1)) z (va_up (va_up F 87 (upd (F 87) (Int32.toNatClampNeg (n 88)) (vp_nar .byte ((48 + ((x1 / 1000) - (x1 / 1000) / 10 * 10)).toInt8.toInt32)))) 87 (upd (upd (F 87) (Int32.toNatClampNeg (n 88)) (vp_nar .byte ((48 + ((x1 / 1000) - (x1 / 1000) / 10 * 10)).toInt8.toInt32))) (Int32.toNatClampNeg ((n 88) + 1)) (vp_nar .byte ((48 + ((x1 / 10) - (x1 / 10) / 10 * 10)).toInt8.toInt32)))) G f_83 := hS_83q
                        refine gz_aload_n dX12_digits_53 rfl rfl ?_
                        refine gz_dup dX12_digits_54 rfl ?_
                        refine mg_541 hS_83 dX12_digits_55 ?_
                        refine gz_ev (w := .int ((n 88) + 1)) rfl ?_
                        refine gz_iconst (v := 1) dX12_digits_58 (by decide) ?_
                        refine gz_iadd dX12_digits_59 ?_
                        refine mp_541 hS_83 dX12_digits_60 (fun f_84 hS_84 => ?_)
                        refine gz_iload_n dX12_digits_63 rfl rfl ?_
                        refine gz_bipush (v := 10) dX12_digits_64 (by decide) ?_
                        refine gz_idiv dX12_digits_66 (by decide) ?_
                        refine gz_ev (w := .int 1) (by decide) ?_
                        refine gz_istore_n (lv' := [(2, .int 1), (0, .ref m), (1, .int x1)]) dX12_digits_67 rfl (by decide) rfl ?_
                        refine gz_goto (tgt := 17) dX12_digits_68 (by decide) ?_
                        refine gz_iload_n dX12_digits_17 rfl rfl ?_
                        refine gz_if_le (tgt := 71) dX12_digits_18 (by decide) (fun c_18_78 => ?_) (fun c_18_78 => ?_)
                        · exact absurd c_18_78 (by decide)
                        ·
                          try simp only [mIn_0, lgc_lt, lgc_gt, lgc_le, lgc_ge, lgc_eq] at c_18_78
                          try simp only [fl_lt, fl_le, fl_eq, fL_w, fL_lt, fL_le, tm1, tm10k, tm9, tm99, Int32.reduceToInt, Int64.reduceToInt, Int.not_lt, Int.not_le] at c_18_78
                          refine gz_iload_n dX12_digits_21 rfl rfl ?_
                          refine gz_iload_n dX12_digits_22 rfl rfl ?_
                          refine gz_icmp_ge (tgt := 34) dX12_digits_23 (by decide) (fun c_23_79 => ?_) (fun c_23_79 => ?_)
                          ·
                            try simp only [mIn_0, lgc_lt, lgc_gt, lgc_le, lgc_ge, lgc_eq] at c_23_79
                            try simp only [fl_lt, fl_le, fl_eq, fL_w, fL_lt, fL_le, tm1, tm10k, tm9, tm99, Int32.reduceToInt, Int64.reduceToInt, Int.not_lt, Int.not_le] at c_23_79
                            refine gz_aload_n dX12_digits_34 rfl rfl ?_
                            refine mg_240 hS_84 dX12_digits_35 ?_
                            refine gz_aload_n dX12_digits_38 rfl rfl ?_
                            refine mg_541 hS_84 dX12_digits_39 ?_
                            refine gz_ev (w := .int (((n 88) + 1) + 1)) rfl ?_
                            refine gz_bipush (v := 48) dX12_digits_42 (by decide) ?_
                            refine gz_iload_n dX12_digits_44 rfl rfl ?_
                            refine gz_iload_n dX12_digits_45 rfl rfl ?_
                            refine gz_idiv dX12_digits_46 (by decide) ?_
                            refine gz_bipush (v := 10) dX12_digits_47 (by decide) ?_
                            refine gz_irem dX12_digits_49 (by decide) ?_
                            refine gz_iadd dX12_digits_50 ?_
                            refine gz_i2b dX12_digits_51 ?_
                            refine m_bast 87 hS_84 rfl (N := 1000) rfl ((by have q9 := (T_add (T_add (rfl : ((n 88)).toInt = ((n 88)).toInt) (show (1 : Int32).toInt = 1 from rfl) (by omega)) (show (1 : Int32).toInt = 1 from rfl) (by omega)); exact vin_T q9 (by omega) (by omega))) dX12_digits_52 (fun f_85 hS_85q => ?_)
                            have hS_85 : mS cy m a f0 (va_up (va_up n 88 ((n 88) + 1)) 88 (((n 88) + 1) + 1)) z (va_up (va_up (va_up F 87 (upd (F 87) (Int32.toNatClampNeg (n 88)) (vp_nar .byte ((48 + ((x1 / 1000) - (x1 / 1000) / 10 * 10)).toInt8.toInt32)))) 87 (upd (upd (F 87) (Int32.toNatClampNeg (n 88)) (vp_nar .byte ((48 + ((x1 / 1000) - (x1 / 1000) / 10 * 10)).toInt8.toInt32))) (Int32.toNatClampNeg ((n 88) + 1)) (vp_nar .byte ((48 + ((x1 / 10) - (x1 / 10) / 10 * 10)).toInt8.toInt32)))) 87 (upd (upd (upd (F 87) (Int32.toNatClampNeg (n 88)) (vp_nar .byte ((48 + ((x1 / 1000) - (x1 / 1000) / 10 * 10)).toInt8.toInt32))) (Int32.toNatClampNeg ((n 88) + 1)) (vp_nar .byte ((48 + ((x1 / 10) - (x1 / 10) / 10 * 10)).toInt8.toInt32))) (Int32.toNatClampNeg (((n 88) + 1) + 1)) (vp_nar .byte ((48 + ((x1 / 1) - (x1 / 1) / 10 * 10)).toInt8.toInt32)))) G f_85 := hS_85q
                            refine gz_aload_n dX12_digits_53 rfl rfl ?_
                            refine gz_dup dX12_digits_54 rfl ?_
                            refine mg_541 hS_85 dX12_digits_55 ?_
                            refine gz_ev (w := .int (((n 88) + 1) + 1)) rfl ?_
                            refine gz_iconst (v := 1) dX12_digits_58 (by decide) ?_
                            refine gz_iadd dX12_digits_59 ?_
                            refine mp_541 hS_85 dX12_digits_60 (fun f_86 hS_86 => ?_)
                            refine gz_iload_n dX12_digits_63 rfl rfl ?_
                            refine gz_bipush (v := 10) dX12_digits_64 (by decide) ?_
                            refine gz_idiv dX12_digits_66 (by decide) ?_
                            refine gz_ev (w := .int 0) (by decide) ?_
                            refine gz_istore_n (lv' := [(2, .int 0), (0, .ref m), (1, .int x1)]) dX12_digits_67 rfl (by decide) rfl ?_
                            refine gz_goto (tgt := 17) dX12_digits_68 (by decide) ?_
                            refine gz_iload_n dX12_digits_17 rfl rfl ?_
                            refine gz_if_le (tgt := 71) dX12_digits_18 (by decide) (fun c_18_80 => ?_) (fun c_18_80 => ?_)
                            ·
                              try simp only [mIn_0, lgc_lt, lgc_gt, lgc_le, lgc_ge, lgc_eq] at c_18_80
                              try simp only [fl_lt, fl_le, fl_eq, fL_w, fL_lt, fL_le, tm1, tm10k, tm9, tm99, Int32.reduceToInt, Int64.reduceToInt, Int.not_lt, Int.not_le] at c_18_80
                              refine gz_aload_n dX12_digits_71 rfl rfl ?_
                              refine gz_iconst (v := 1) dX12_digits_72 (by decide) ?_
                              refine mp_544 hS_86 ⟨rfl, rfl⟩ dX12_digits_73 (fun f_87 hS_87 => ?_)
                              exact gz_vret rfl dX12_digits_76 (Nat.le_of_ble_eq_true rfl) (Nat.le_of_ble_eq_true rfl) (⟨rfl, _, _, _, _, hS_87, (fx_n (fx_n (fx_F (fx_n (fx_F (fx_n (fx_F fx_rf (by decide)) (by decide)) (by decide)) (by decide)) (by decide)) (by decide)) (by decide)), (by (try rw [(show (va_up (va_up (va_up (va_up n 88 ((n 88) + 1)) 88 (((n 88) + 1) + 1)) 88 ((((n 88) + 1) + 1) + 1)) 89 1) 88 = ((((n 88) + 1) + 1) + 1) from rfl)]); have q1_ := (T_add (T_add (T_add (rfl : ((n 88)).toInt = ((n 88)).toInt) (show (1 : Int32).toInt = 1 from rfl) (by omega)) (show (1 : Int32).toInt = 1 from rfl) (by omega)) (show (1 : Int32).toInt = 1 from rfl) (by omega)); omega), (by (try rw [(show (va_up (va_up (va_up (va_up n 88 ((n 88) + 1)) 88 (((n 88) + 1) + 1)) 88 ((((n 88) + 1) + 1) + 1)) 89 1) 88 = ((((n 88) + 1) + 1) + 1) from rfl)]); have q1_ := (T_add (T_add (T_add (rfl : ((n 88)).toInt = ((n 88)).toInt) (show (1 : Int32).toInt = 1 from rfl) (by omega)) (show (1 : Int32).toInt = 1 from rfl) (by omega)) (show (1 : Int32).toInt = 1 from rfl) (by omega)); omega)⟩)
                            · exact absurd c_18_80 (by decide)
                          ·
                            try simp only [mIn_0, lgc_lt, lgc_gt, lgc_le, lgc_ge, lgc_eq] at c_23_79
                            try simp only [fl_lt, fl_le, fl_eq, fL_w, fL_lt, fL_le, tm1, tm10k, tm9, tm99, Int32.reduceToInt, Int64.reduceToInt, Int.not_lt, Int.not_le] at c_23_79
                            refine gz_iload_n dX12_digits_26 rfl rfl ?_
                            refine gz_iconst (v := 1) dX12_digits_27 (by decide) ?_
                            refine gz_icmp_le (tgt := 34) dX12_digits_28 (by decide) (fun c_28_81 => ?_) (fun c_28_81 => ?_)
                            ·
                              try simp only [mIn_0, lgc_lt, lgc_gt, lgc_le, lgc_ge, lgc_eq] at c_28_81
                              try simp only [fl_lt, fl_le, fl_eq, fL_w, fL_lt, fL_le, tm1, tm10k, tm9, tm99, Int32.reduceToInt, Int64.reduceToInt, Int.not_lt, Int.not_le] at c_28_81
                              refine gz_aload_n dX12_digits_34 rfl rfl ?_
                              refine mg_240 hS_84 dX12_digits_35 ?_
                              refine gz_aload_n dX12_digits_38 rfl rfl ?_
                              refine mg_541 hS_84 dX12_digits_39 ?_
                              refine gz_ev (w := .int (((n 88) + 1) + 1)) rfl ?_
                              refine gz_bipush (v := 48) dX12_digits_42 (by decide) ?_
                              refine gz_iload_n dX12_digits_44 rfl rfl ?_
                              refine gz_iload_n dX12_digits_45 rfl rfl ?_
                              refine gz_idiv dX12_digits_46 (by decide) ?_
                              refine gz_bipush (v := 10) dX12_digits_47 (by decide) ?_
                              refine gz_irem dX12_digits_49 (by decide) ?_
                              refine gz_iadd dX12_digits_50 ?_
                              refine gz_i2b dX12_digits_51 ?_
                              refine m_bast 87 hS_84 rfl (N := 1000) rfl ((by have q9 := (T_add (T_add (rfl : ((n 88)).toInt = ((n 88)).toInt) (show (1 : Int32).toInt = 1 from rfl) (by omega)) (show (1 : Int32).toInt = 1 from rfl) (by omega)); exact vin_T q9 (by omega) (by omega))) dX12_digits_52 (fun f_88 hS_88q => ?_)
                              have hS_88 : mS cy m a f0 (va_up (va_up n 88 ((n 88) + 1)) 88 (((n 88) + 1) + 1)) z (va_up (va_up (va_up F 87 (upd (F 87) (Int32.toNatClampNeg (n 88)) (vp_nar .byte ((48 + ((x1 / 1000) - (x1 / 1000) / 10 * 10)).toInt8.toInt32)))) 87 (upd (upd (F 87) (Int32.toNatClampNeg (n 88)) (vp_nar .byte ((48 + ((x1 / 1000) - (x1 / 1000) / 10 * 10)).toInt8.toInt32))) (Int32.toNatClampNeg ((n 88) + 1)) (vp_nar .byte ((48 + ((x1 / 10) - (x1 / 10) / 10 * 10)).toInt8.toInt32)))) 87 (upd (upd (upd (F 87) (Int32.toNatClampNeg (n 88)) (vp_nar .byte ((48 + ((x1 / 1000) - (x1 / 1000) / 10 * 10)).toInt8.toInt32))) (Int32.toNatClampNeg ((n 88) + 1)) (vp_nar .byte ((48 + ((x1 / 10) - (x1 / 10) / 10 * 10)).toInt8.toInt32))) (Int32.toNatClampNeg (((n 88) + 1) + 1)) (vp_nar .byte ((48 + ((x1 / 1) - (x1 / 1) / 10 * 10)).toInt8.toInt32)))) G f_88 := hS_88q
                              refine gz_aload_n dX12_digits_53 rfl rfl ?_
                              refine gz_dup dX12_digits_54 rfl ?_
                              refine mg_541 hS_88 dX12_digits_55 ?_
                              refine gz_ev (w := .int (((n 88) + 1) + 1)) rfl ?_
                              refine gz_iconst (v := 1) dX12_digits_58 (by decide) ?_
                              refine gz_iadd dX12_digits_59 ?_
                              refine mp_541 hS_88 dX12_digits_60 (fun f_89 hS_89 => ?_)
                              refine gz_iload_n dX12_digits_63 rfl rfl ?_
                              refine gz_bipush (v := 10) dX12_digits_64 (by decide) ?_
                              refine gz_idiv dX12_digits_66 (by decide) ?_
                              refine gz_ev (w := .int 0) (by decide) ?_
                              refine gz_istore_n (lv' := [(2, .int 0), (0, .ref m), (1, .int x1)]) dX12_digits_67 rfl (by decide) rfl ?_
                              refine gz_goto (tgt := 17) dX12_digits_68 (by decide) ?_
                              refine gz_iload_n dX12_digits_17 rfl rfl ?_
                              refine gz_if_le (tgt := 71) dX12_digits_18 (by decide) (fun c_18_82 => ?_) (fun c_18_82 => ?_)
                              ·
                                try simp only [mIn_0, lgc_lt, lgc_gt, lgc_le, lgc_ge, lgc_eq] at c_18_82
                                try simp only [fl_lt, fl_le, fl_eq, fL_w, fL_lt, fL_le, tm1, tm10k, tm9, tm99, Int32.reduceToInt, Int64.reduceToInt, Int.not_lt, Int.not_le] at c_18_82
                                refine gz_aload_n dX12_digits_71 rfl rfl ?_
                                refine gz_iconst (v := 1) dX12_digits_72 (by decide) ?_
                                refine mp_544 hS_89 ⟨rfl, rfl⟩ dX12_digits_73 (fun f_90 hS_90 => ?_)
                                exact gz_vret rfl dX12_digits_76 (Nat.le_of_ble_eq_true rfl) (Nat.le_of_ble_eq_true rfl) (⟨rfl, _, _, _, _, hS_90, (fx_n (fx_n (fx_F (fx_n (fx_F (fx_n (fx_F fx_rf (by decide)) (by decide)) (by decide)) (by decide)) (by decide)) (by decide)) (by decide)), (by (try rw [(show (va_up (va_up (va_up (va_up n 88 ((n 88) + 1)) 88 (((n 88) + 1) + 1)) 88 ((((n 88) + 1) + 1) + 1)) 89 1) 88 = ((((n 88) + 1) + 1) + 1) from rfl)]); have q1_ := (T_add (T_add (T_add (rfl : ((n 88)).toInt = ((n 88)).toInt) (show (1 : Int32).toInt = 1 from rfl) (by omega)) (show (1 : Int32).toInt = 1 from rfl) (by omega)) (show (1 : Int32).toInt = 1 from rfl) (by omega)); omega), (by (try rw [(show (va_up (va_up (va_up (va_up n 88 ((n 88) + 1)) 88 (((n 88) + 1) + 1)) 88 ((((n 88) + 1) + 1) + 1)) 89 1) 88 = ((((n 88) + 1) + 1) + 1) from rfl)]); have q1_ := (T_add (T_add (T_add (rfl : ((n 88)).toInt = ((n 88)).toInt) (show (1 : Int32).toInt = 1 from rfl) (by omega)) (show (1 : Int32).toInt = 1 from rfl) (by omega)) (show (1 : Int32).toInt = 1 from rfl) (by omega)); omega)⟩)
                              · exact absurd c_18_82 (by decide)
                            · exact absurd c_28_81 (by decide)
                      ·
                        try simp only [mIn_0, lgc_lt, lgc_gt, lgc_le, lgc_ge, lgc_eq] at c_23_77
                        try simp only [fl_lt, fl_le, fl_eq, fL_w, fL_lt, fL_le, tm1, tm10k, tm9, tm99, Int32.reduceToInt, Int64.reduceToInt, Int.not_lt, Int.not_le] at c_23_77
                        refine gz_iload_n dX12_digits_26 rfl rfl ?_
                        refine gz_iconst (v := 1) dX12_digits_27 (by decide) ?_
                        refine gz_icmp_le (tgt := 34) dX12_digits_28 (by decide) (fun c_28_83 => ?_) (fun c_28_83 => ?_)
                        · exact absurd c_28_83 (by decide)
                        ·
                          try simp only [mIn_0, lgc_lt, lgc_gt, lgc_le, lgc_ge, lgc_eq] at c_28_83
                          try simp only [fl_lt, fl_le, fl_eq, fL_w, fL_lt, fL_le, tm1, tm10k, tm9, tm99, Int32.reduceToInt, Int64.reduceToInt, Int.not_lt, Int.not_le] at c_28_83
                          refine gz_goto (tgt := 63) dX12_digits_31 (by decide) ?_
                          refine gz_iload_n dX12_digits_63 rfl rfl ?_
                          refine gz_bipush (v := 10) dX12_digits_64 (by decide) ?_
                          refine gz_idiv dX12_digits_66 (by decide) ?_
                          refine gz_ev (w := .int 1) (by decide) ?_
                          refine gz_istore_n (lv' := [(2, .int 1), (0, .ref m), (1, .int x1)]) dX12_digits_67 rfl (by decide) rfl ?_
                          refine gz_goto (tgt := 17) dX12_digits_68 (by decide) ?_
                          refine gz_iload_n dX12_digits_17 rfl rfl ?_
                          refine gz_if_le (tgt := 71) dX12_digits_18 (by decide) (fun c_18_84 => ?_) (fun c_18_84 => ?_)
                          · exact absurd c_18_84 (by decide)
                          ·
                            try simp only [mIn_0, lgc_lt, lgc_gt, lgc_le, lgc_ge, lgc_eq] at c_18_84
                            try simp only [fl_lt, fl_le, fl_eq, fL_w, fL_lt, fL_le, tm1, tm10k, tm9, tm99, Int32.reduceToInt, Int64.reduceToInt, Int.not_lt, Int.not_le] at c_18_84
                            refine gz_iload_n dX12_digits_21 rfl rfl ?_
                            refine gz_iload_n dX12_digits_22 rfl rfl ?_
                            refine gz_icmp_ge (tgt := 34) dX12_digits_23 (by decide) (fun c_23_85 => ?_) (fun c_23_85 => ?_)
                            ·
                              try simp only [mIn_0, lgc_lt, lgc_gt, lgc_le, lgc_ge, lgc_eq] at c_23_85
                              try simp only [fl_lt, fl_le, fl_eq, fL_w, fL_lt, fL_le, tm1, tm10k, tm9, tm99, Int32.reduceToInt, Int64.reduceToInt, Int.not_lt, Int.not_le] at c_23_85
                              refine gz_aload_n dX12_digits_34 rfl rfl ?_
                              refine mg_240 hS_66 dX12_digits_35 ?_
                              refine gz_aload_n dX12_digits_38 rfl rfl ?_
                              refine mg_541 hS_66 dX12_digits_39 ?_
                              refine gz_ev (w := .int ((n 88) + 1)) rfl ?_
                              refine gz_bipush (v := 48) dX12_digits_42 (by decide) ?_
                              refine gz_iload_n dX12_digits_44 rfl rfl ?_
                              refine gz_iload_n dX12_digits_45 rfl rfl ?_
                              refine gz_idiv dX12_digits_46 (by decide) ?_
                              refine gz_bipush (v := 10) dX12_digits_47 (by decide) ?_
                              refine gz_irem dX12_digits_49 (by decide) ?_
                              refine gz_iadd dX12_digits_50 ?_
                              refine gz_i2b dX12_digits_51 ?_
                              refine m_bast 87 hS_66 rfl (N := 1000) rfl ((by have q9 := (T_add (rfl : ((n 88)).toInt = ((n 88)).toInt) (show (1 : Int32).toInt = 1 from rfl) (by omega)); exact vin_T q9 (by omega) (by omega))) dX12_digits_52 (fun f_91 hS_91q => ?_)
                              have hS_91 : mS cy m a f0 (va_up n 88 ((n 88) + 1)) z (va_up (va_up F 87 (upd (F 87) (Int32.toNatClampNeg (n 88)) (vp_nar .byte ((48 + ((x1 / 1000) - (x1 / 1000) / 10 * 10)).toInt8.toInt32)))) 87 (upd (upd (F 87) (Int32.toNatClampNeg (n 88)) (vp_nar .byte ((48 + ((x1 / 1000) - (x1 / 1000) / 10 * 10)).toInt8.toInt32))) (Int32.toNatClampNeg ((n 88) + 1)) (vp_nar .byte ((48 + ((x1 / 1) - (x1 / 1) / 10 * 10)).toInt8.toInt32)))) G f_91 := hS_91q
                              refine gz_aload_n dX12_digits_53 rfl rfl ?_
                              refine gz_dup dX12_digits_54 rfl ?_
                              refine mg_541 hS_91 dX12_digits_55 ?_
                              refine gz_ev (w := .int ((n 88) + 1)) rfl ?_
                              refine gz_iconst (v := 1) dX12_digits_58 (by decide) ?_
                              refine gz_iadd dX12_digits_59 ?_
                              refine mp_541 hS_91 dX12_digits_60 (fun f_92 hS_92 => ?_)
                              refine gz_iload_n dX12_digits_63 rfl rfl ?_
                              refine gz_bipush (v := 10) dX12_digits_64 (by decide) ?_
                              refine gz_idiv dX12_digits_66 (by decide) ?_
                              refine gz_ev (w := .int 0) (by decide) ?_
                              refine gz_istore_n (lv' := [(2, .int 0), (0, .ref m), (1, .int x1)]) dX12_digits_67 rfl (by decide) rfl ?_
                              refine gz_goto (tgt := 17) dX12_digits_68 (by decide) ?_
                              refine gz_iload_n dX12_digits_17 rfl rfl ?_
                              refine gz_if_le (tgt := 71) dX12_digits_18 (by decide) (fun c_18_86 => ?_) (fun c_18_86 => ?_)
                              ·
                                try simp only [mIn_0, lgc_lt, lgc_gt, lgc_le, lgc_ge, lgc_eq] at c_18_86
                                try simp only [fl_lt, fl_le, fl_eq, fL_w, fL_lt, fL_le, tm1, tm10k, tm9, tm99, Int32.reduceToInt, Int64.reduceToInt, Int.not_lt, Int.not_le] at c_18_86
                                refine gz_aload_n dX12_digits_71 rfl rfl ?_
                                refine gz_iconst (v := 1) dX12_digits_72 (by decide) ?_
                                refine mp_544 hS_92 ⟨rfl, rfl⟩ dX12_digits_73 (fun f_93 hS_93 => ?_)
                                exact gz_vret rfl dX12_digits_76 (Nat.le_of_ble_eq_true rfl) (Nat.le_of_ble_eq_true rfl) (⟨rfl, _, _, _, _, hS_93, (fx_n (fx_n (fx_F (fx_n (fx_F fx_rf (by decide)) (by decide)) (by decide)) (by decide)) (by decide)), (by (try rw [(show (va_up (va_up (va_up n 88 ((n 88) + 1)) 88 (((n 88) + 1) + 1)) 89 1) 88 = (((n 88) + 1) + 1) from rfl)]); have q1_ := (T_add (T_add (rfl : ((n 88)).toInt = ((n 88)).toInt) (show (1 : Int32).toInt = 1 from rfl) (by omega)) (show (1 : Int32).toInt = 1 from rfl) (by omega)); omega), (by (try rw [(show (va_up (va_up (va_up n 88 ((n 88) + 1)) 88 (((n 88) + 1) + 1)) 89 1) 88 = (((n 88) + 1) + 1) from rfl)]); have q1_ := (T_add (T_add (rfl : ((n 88)).toInt = ((n 88)).toInt) (show (1 : Int32).toInt = 1 from rfl) (by omega)) (show (1 : Int32).toInt = 1 from rfl) (by omega)); omega)⟩)
                              · exact absurd c_18_86 (by decide)
                            ·
                              try simp only [mIn_0, lgc_lt, lgc_gt, lgc_le, lgc_ge, lgc_eq] at c_23_85
                              try simp only [fl_lt, fl_le, fl_eq, fL_w, fL_lt, fL_le, tm1, tm10k, tm9, tm99, Int32.reduceToInt, Int64.reduceToInt, Int.not_lt, Int.not_le] at c_23_85
                              refine gz_iload_n dX12_digits_26 rfl rfl ?_
                              refine gz_iconst (v := 1) dX12_digits_27 (by decide) ?_
                              refine gz_icmp_le (tgt := 34) dX12_digits_28 (by decide) (fun c_28_87 => ?_) (fun c_28_87 => ?_)
                              ·
                                try simp only [mIn_0, lgc_lt, lgc_gt, lgc_le, lgc_ge, lgc_eq] at c_28_87
                                try simp only [fl_lt, fl_le, fl_eq, fL_w, fL_lt, fL_le, tm1, tm10k, tm9, tm99, Int32.reduceToInt, Int64.reduceToInt, Int.not_lt, Int.not_le] at c_28_87
                                refine gz_aload_n dX12_digits_34 rfl rfl ?_
                                refine mg_240 hS_66 dX12_digits_35 ?_
                                refine gz_aload_n dX12_digits_38 rfl rfl ?_
                                refine mg_541 hS_66 dX12_digits_39 ?_
                                refine gz_ev (w := .int ((n 88) + 1)) rfl ?_
                                refine gz_bipush (v := 48) dX12_digits_42 (by decide) ?_
                                refine gz_iload_n dX12_digits_44 rfl rfl ?_
                                refine gz_iload_n dX12_digits_45 rfl rfl ?_
                                refine gz_idiv dX12_digits_46 (by decide) ?_
                                refine gz_bipush (v := 10) dX12_digits_47 (by decide) ?_
                                refine gz_irem dX12_digits_49 (by decide) ?_
                                refine gz_iadd dX12_digits_50 ?_
                                refine gz_i2b dX12_digits_51 ?_
                                refine m_bast 87 hS_66 rfl (N := 1000) rfl ((by have q9 := (T_add (rfl : ((n 88)).toInt = ((n 88)).toInt) (show (1 : Int32).toInt = 1 from rfl) (by omega)); exact vin_T q9 (by omega) (by omega))) dX12_digits_52 (fun f_94 hS_94q => ?_)
                                have hS_94 : mS cy m a f0 (va_up n 88 ((n 88) + 1)) z (va_up (va_up F 87 (upd (F 87) (Int32.toNatClampNeg (n 88)) (vp_nar .byte ((48 + ((x1 / 1000) - (x1 / 1000) / 10 * 10)).toInt8.toInt32)))) 87 (upd (upd (F 87) (Int32.toNatClampNeg (n 88)) (vp_nar .byte ((48 + ((x1 / 1000) - (x1 / 1000) / 10 * 10)).toInt8.toInt32))) (Int32.toNatClampNeg ((n 88) + 1)) (vp_nar .byte ((48 + ((x1 / 1) - (x1 / 1) / 10 * 10)).toInt8.toInt32)))) G f_94 := hS_94q
                                refine gz_aload_n dX12_digits_53 rfl rfl ?_
                                refine gz_dup dX12_digits_54 rfl ?_
                                refine mg_541 hS_94 dX12_digits_55 ?_
                                refine gz_ev (w := .int ((n 88) + 1)) rfl ?_
                                refine gz_iconst (v := 1) dX12_digits_58 (by decide) ?_
                                refine gz_iadd dX12_digits_59 ?_
                                refine mp_541 hS_94 dX12_digits_60 (fun f_95 hS_95 => ?_)
                                refine gz_iload_n dX12_digits_63 rfl rfl ?_
                                refine gz_bipush (v := 10) dX12_digits_64 (by decide) ?_
                                refine gz_idiv dX12_digits_66 (by decide) ?_
                                refine gz_ev (w := .int 0) (by decide) ?_
                                refine gz_istore_n (lv' := [(2, .int 0), (0, .ref m), (1, .int x1)]) dX12_digits_67 rfl (by decide) rfl ?_
                                refine gz_goto (tgt := 17) dX12_digits_68 (by decide) ?_
                                refine gz_iload_n dX12_digits_17 rfl rfl ?_
                                refine gz_if_le (tgt := 71) dX12_digits_18 (by decide) (fun c_18_88 => ?_) (fun c_18_88 => ?_)
                                ·
                                  try simp only [mIn_0, lgc_lt, lgc_gt, lgc_le, lgc_ge, lgc_eq] at c_18_88
                                  try simp only [fl_lt, fl_le, fl_eq, fL_w, fL_lt, fL_le, tm1, tm10k, tm9, tm99, Int32.reduceToInt, Int64.reduceToInt, Int.not_lt, Int.not_le] at c_18_88
                                  refine gz_aload_n dX12_digits_71 rfl rfl ?_
                                  refine gz_iconst (v := 1) dX12_digits_72 (by decide) ?_
                                  refine mp_544 hS_95 ⟨rfl, rfl⟩ dX12_digits_73 (fun f_96 hS_96 => ?_)
                                  exact gz_vret rfl dX12_digits_76 (Nat.le_of_ble_eq_true rfl) (Nat.le_of_ble_eq_true rfl) (⟨rfl, _, _, _, _, hS_96, (fx_n (fx_n (fx_F (fx_n (fx_F fx_rf (by decide)) (by decide)) (by decide)) (by decide)) (by decide)), (by (try rw [(show (va_up (va_up (va_up n 88 ((n 88) + 1)) 88 (((n 88) + 1) + 1)) 89 1) 88 = (((n 88) + 1) + 1) from rfl)]); have q1_ := (T_add (T_add (rfl : ((n 88)).toInt = ((n 88)).toInt) (show (1 : Int32).toInt = 1 from rfl) (by omega)) (show (1 : Int32).toInt = 1 from rfl) (by omega)); omega), (by (try rw [(show (va_up (va_up (va_up n 88 ((n 88) + 1)) 88 (((n 88) + 1) + 1)) 89 1) 88 = (((n 88) + 1) + 1) from rfl)]); have q1_ := (T_add (T_add (rfl : ((n 88)).toInt = ((n 88)).toInt) (show (1 : Int32).toInt = 1 from rfl) (by omega)) (show (1 : Int32).toInt = 1 from rfl) (by omega)); omega)⟩)
                                · exact absurd c_18_88 (by decide)
                              · exact absurd c_28_87 (by decide)
            ·
              try simp only [mIn_0, lgc_lt, lgc_gt, lgc_le, lgc_ge, lgc_eq] at c_23_59
              try simp only [fl_lt, fl_le, fl_eq, fL_w, fL_lt, fL_le, tm1, tm10k, tm9, tm99, Int32.reduceToInt, Int64.reduceToInt, Int.not_lt, Int.not_le] at c_23_59
              refine gz_iload_n dX12_digits_26 rfl rfl ?_
              refine gz_iconst (v := 1) dX12_digits_27 (by decide) ?_
              refine gz_icmp_le (tgt := 34) dX12_digits_28 (by decide) (fun c_28_89 => ?_) (fun c_28_89 => ?_)
              · exact absurd c_28_89 (by decide)
              ·
                try simp only [mIn_0, lgc_lt, lgc_gt, lgc_le, lgc_ge, lgc_eq] at c_28_89
                try simp only [fl_lt, fl_le, fl_eq, fL_w, fL_lt, fL_le, tm1, tm10k, tm9, tm99, Int32.reduceToInt, Int64.reduceToInt, Int.not_lt, Int.not_le] at c_28_89
                refine gz_goto (tgt := 63) dX12_digits_31 (by decide) ?_
                refine gz_iload_n dX12_digits_63 rfl rfl ?_
                refine gz_bipush (v := 10) dX12_digits_64 (by decide) ?_
                refine gz_idiv dX12_digits_66 (by decide) ?_
                refine gz_ev (w := .int 100) (by decide) ?_
                refine gz_istore_n (lv' := [(2, .int 100), (0, .ref m), (1, .int x1)]) dX12_digits_67 rfl (by decide) rfl ?_
                refine gz_goto (tgt := 17) dX12_digits_68 (by decide) ?_
                refine gz_iload_n dX12_digits_17 rfl rfl ?_
                refine gz_if_le (tgt := 71) dX12_digits_18 (by decide) (fun c_18_90 => ?_) (fun c_18_90 => ?_)
                · exact absurd c_18_90 (by decide)
                ·
                  try simp only [mIn_0, lgc_lt, lgc_gt, lgc_le, lgc_ge, lgc_eq] at c_18_90
                  try simp only [fl_lt, fl_le, fl_eq, fL_w, fL_lt, fL_le, tm1, tm10k, tm9, tm99, Int32.reduceToInt, Int64.reduceToInt, Int.not_lt, Int.not_le] at c_18_90
                  refine gz_iload_n dX12_digits_21 rfl rfl ?_
                  refine gz_iload_n dX12_digits_22 rfl rfl ?_
                  refine gz_icmp_ge (tgt := 34) dX12_digits_23 (by decide) (fun c_23_91 => ?_) (fun c_23_91 => ?_)
                  ·
                    try simp only [mIn_0, lgc_lt, lgc_gt, lgc_le, lgc_ge, lgc_eq] at c_23_91
                    try simp only [fl_lt, fl_le, fl_eq, fL_w, fL_lt, fL_le, tm1, tm10k, tm9, tm99, Int32.reduceToInt, Int64.reduceToInt, Int.not_lt, Int.not_le] at c_23_91
                    refine gz_aload_n dX12_digits_34 rfl rfl ?_
                    refine mg_240 hS dX12_digits_35 ?_
                    refine gz_aload_n dX12_digits_38 rfl rfl ?_
                    refine mg_541 hS dX12_digits_39 ?_
                    refine gz_bipush (v := 48) dX12_digits_42 (by decide) ?_
                    refine gz_iload_n dX12_digits_44 rfl rfl ?_
                    refine gz_iload_n dX12_digits_45 rfl rfl ?_
                    refine gz_idiv dX12_digits_46 (by decide) ?_
                    refine gz_bipush (v := 10) dX12_digits_47 (by decide) ?_
                    refine gz_irem dX12_digits_49 (by decide) ?_
                    refine gz_iadd dX12_digits_50 ?_
                    refine gz_i2b dX12_digits_51 ?_
                    refine m_bast 87 hS rfl (N := 1000) rfl ((by exact vin_T (rfl : ((n 88)).toInt = ((n 88)).toInt) (by omega) (by omega))) dX12_digits_52 (fun f_97 hS_97q => ?_)
                    have hS_97 : mS cy m a f0 n z (va_up F 87 (upd (F 87) (Int32.toNatClampNeg (n 88)) (vp_nar .byte ((48 + ((x1 / 100) - (x1 / 100) / 10 * 10)).toInt8.toInt32)))) G f_97 := hS_97q
                    refine gz_aload_n dX12_digits_53 rfl rfl ?_
                    refine gz_dup dX12_digits_54 rfl ?_
                    refine mg_541 hS_97 dX12_digits_55 ?_
                    refine gz_ev (w := .int (n 88)) rfl ?_
                    refine gz_iconst (v := 1) dX12_digits_58 (by decide) ?_
                    refine gz_iadd dX12_digits_59 ?_
                    refine mp_541 hS_97 dX12_digits_60 (fun f_98 hS_98 => ?_)
                    refine gz_iload_n dX12_digits_63 rfl rfl ?_
                    refine gz_bipush (v := 10) dX12_digits_64 (by decide) ?_
                    refine gz_idiv dX12_digits_66 (by decide) ?_
                    refine gz_ev (w := .int 10) (by decide) ?_
                    refine gz_istore_n (lv' := [(2, .int 10), (0, .ref m), (1, .int x1)]) dX12_digits_67 rfl (by decide) rfl ?_
                    refine gz_goto (tgt := 17) dX12_digits_68 (by decide) ?_
                    refine gz_iload_n dX12_digits_17 rfl rfl ?_
                    refine gz_if_le (tgt := 71) dX12_digits_18 (by decide) (fun c_18_92 => ?_) (fun c_18_92 => ?_)
                    · exact absurd c_18_92 (by decide)
                    ·
                      try simp only [mIn_0, lgc_lt, lgc_gt, lgc_le, lgc_ge, lgc_eq] at c_18_92
                      try simp only [fl_lt, fl_le, fl_eq, fL_w, fL_lt, fL_le, tm1, tm10k, tm9, tm99, Int32.reduceToInt, Int64.reduceToInt, Int.not_lt, Int.not_le] at c_18_92
                      refine gz_iload_n dX12_digits_21 rfl rfl ?_
                      refine gz_iload_n dX12_digits_22 rfl rfl ?_
                      refine gz_icmp_ge (tgt := 34) dX12_digits_23 (by decide) (fun c_23_93 => ?_) (fun c_23_93 => ?_)
                      ·
                        try simp only [mIn_0, lgc_lt, lgc_gt, lgc_le, lgc_ge, lgc_eq] at c_23_93
                        try simp only [fl_lt, fl_le, fl_eq, fL_w, fL_lt, fL_le, tm1, tm10k, tm9, tm99, Int32.reduceToInt, Int64.reduceToInt, Int.not_lt, Int.not_le] at c_23_93
                        refine gz_aload_n dX12_digits_34 rfl rfl ?_
                        refine mg_240 hS_98 dX12_digits_35 ?_
                        refine gz_aload_n dX12_digits_38 rfl rfl ?_
                        refine mg_541 hS_98 dX12_digits_39 ?_
                        refine gz_ev (w := .int ((n 88) + 1)) rfl ?_
                        refine gz_bipush (v := 48) dX12_digits_42 (by decide) ?_
                        refine gz_iload_n dX12_digits_44 rfl rfl ?_
                        refine gz_iload_n dX12_digits_45 rfl rfl ?_
                        refine gz_idiv dX12_digits_46 (by decide) ?_
                        refine gz_bipush (v := 10) dX12_digits_47 (by decide) ?_
                        refine gz_irem dX12_digits_49 (by decide) ?_
                        refine gz_iadd dX12_digits_50 ?_
                        refine gz_i2b dX12_digits_51 ?_
                        refine m_bast 87 hS_98 rfl (N := 1000) rfl ((by have q9 := (T_add (rfl : ((n 88)).toInt = ((n 88)).toInt) (show (1 : Int32).toInt = 1 from rfl) (by omega)); exact vin_T q9 (by omega) (by omega))) dX12_digits_52 (fun f_99 hS_99q => ?_)
                        have hS_99 : mS cy m a f0 (va_up n 88 ((n 88) + 1)) z (va_up (va_up F 87 (upd (F 87) (Int32.toNatClampNeg (n 88)) (vp_nar .byte ((48 + ((x1 / 100) - (x1 / 100) / 10 * 10)).toInt8.toInt32)))) 87 (upd (upd (F 87) (Int32.toNatClampNeg (n 88)) (vp_nar .byte ((48 + ((x1 / 100) - (x1 / 100) / 10 * 10)).toInt8.toInt32))) (Int32.toNatClampNeg ((n 88) + 1)) (vp_nar .byte ((48 + ((x1 / 10) - (x1 / 10) / 10 * 10)).toInt8.toInt32)))) G f_99 := hS_99q
                        refine gz_aload_n dX12_digits_53 rfl rfl ?_
                        refine gz_dup dX12_digits_54 rfl ?_
                        refine mg_541 hS_99 dX12_digits_55 ?_
                        refine gz_ev (w := .int ((n 88) + 1)) rfl ?_
                        refine gz_iconst (v := 1) dX12_digits_58 (by decide) ?_
                        refine gz_iadd dX12_digits_59 ?_
                        refine mp_541 hS_99 dX12_digits_60 (fun f_100 hS_100 => ?_)
                        refine gz_iload_n dX12_digits_63 rfl rfl ?_
                        refine gz_bipush (v := 10) dX12_digits_64 (by decide) ?_
                        refine gz_idiv dX12_digits_66 (by decide) ?_
                        refine gz_ev (w := .int 1) (by decide) ?_
                        refine gz_istore_n (lv' := [(2, .int 1), (0, .ref m), (1, .int x1)]) dX12_digits_67 rfl (by decide) rfl ?_
                        refine gz_goto (tgt := 17) dX12_digits_68 (by decide) ?_
                        refine gz_iload_n dX12_digits_17 rfl rfl ?_
                        refine gz_if_le (tgt := 71) dX12_digits_18 (by decide) (fun c_18_94 => ?_) (fun c_18_94 => ?_)
                        · exact absurd c_18_94 (by decide)
                        ·
                          try simp only [mIn_0, lgc_lt, lgc_gt, lgc_le, lgc_ge, lgc_eq] at c_18_94
                          try simp only [fl_lt, fl_le, fl_eq, fL_w, fL_lt, fL_le, tm1, tm10k, tm9, tm99, Int32.reduceToInt, Int64.reduceToInt, Int.not_lt, Int.not_le] at c_18_94
                          refine gz_iload_n dX12_digits_21 rfl rfl ?_
                          refine gz_iload_n dX12_digits_22 rfl rfl ?_
                          refine gz_icmp_ge (tgt := 34) dX12_digits_23 (by decide) (fun c_23_95 => ?_) (fun c_23_95 => ?_)
                          ·
                            try simp only [mIn_0, lgc_lt, lgc_gt, lgc_le, lgc_ge, lgc_eq] at c_23_95
                            try simp only [fl_lt, fl_le, fl_eq, fL_w, fL_lt, fL_le, tm1, tm10k, tm9, tm99, Int32.reduceToInt, Int64.reduceToInt, Int.not_lt, Int.not_le] at c_23_95
                            refine gz_aload_n dX12_digits_34 rfl rfl ?_
                            refine mg_240 hS_100 dX12_digits_35 ?_
                            refine gz_aload_n dX12_digits_38 rfl rfl ?_
                            refine mg_541 hS_100 dX12_digits_39 ?_
                            refine gz_ev (w := .int (((n 88) + 1) + 1)) rfl ?_
                            refine gz_bipush (v := 48) dX12_digits_42 (by decide) ?_
                            refine gz_iload_n dX12_digits_44 rfl rfl ?_
                            refine gz_iload_n dX12_digits_45 rfl rfl ?_
                            refine gz_idiv dX12_digits_46 (by decide) ?_
                            refine gz_bipush (v := 10) dX12_digits_47 (by decide) ?_
                            refine gz_irem dX12_digits_49 (by decide) ?_
                            refine gz_iadd dX12_digits_50 ?_
                            refine gz_i2b dX12_digits_51 ?_
                            refine m_bast 87 hS_100 rfl (N := 1000) rfl ((by have q9 := (T_add (T_add (rfl : ((n 88)).toInt = ((n 88)).toInt) (show (1 : Int32).toInt = 1 from rfl) (by omega)) (show (1 : Int32).toInt = 1 from rfl) (by omega)); exact vin_T q9 (by omega) (by omega))) dX12_digits_52 (fun f_101 hS_101q => ?_)
                            have hS_101 : mS cy m a f0 (va_up (va_up n 88 ((n 88) + 1)) 88 (((n 88) + 1) + 1)) z (va_up (va_up (va_up F 87 (upd (F 87) (Int32.toNatClampNeg (n 88)) (vp_nar .byte ((48 + ((x1 / 100) - (x1 / 100) / 10 * 10)).toInt8.toInt32)))) 87 (upd (upd (F 87) (Int32.toNatClampNeg (n 88)) (vp_nar .byte ((48 + ((x1 / 100) - (x1 / 100) / 10 * 10)).toInt8.toInt32))) (Int32.toNatClampNeg ((n 88) + 1)) (vp_nar .byte ((48 + ((x1 / 10) - (x1 / 10) / 10 * 10)).toInt8.toInt32)))) 87 (upd (upd (upd (F 87) (Int32.toNatClampNeg (n 88)) (vp_nar .byte ((48 + ((x1 / 100) - (x1 / 100) / 10 * 10)).toInt8.toInt32))) (Int32.toNatClampNeg ((n 88) + 1)) (vp_nar .byte ((48 + ((x1 / 10) - (x1 / 10) / 10 * 10)).toInt8.toInt32))) (Int32.toNatClampNeg (((n 88) + 1) + 1)) (vp_nar .byte ((48 + ((x1 / 1) - (x1 / 1) / 10 * 10)).toInt8.toInt32)))) G f_101 := hS_101q
                            refine gz_aload_n dX12_digits_53 rfl rfl ?_
                            refine gz_dup dX12_digits_54 rfl ?_
                            refine mg_541 hS_101 dX12_digits_55 ?_
                            refine gz_ev (w := .int (((n 88) + 1) + 1)) rfl ?_
                            refine gz_iconst (v := 1) dX12_digits_58 (by decide) ?_
                            refine gz_iadd dX12_digits_59 ?_
                            refine mp_541 hS_101 dX12_digits_60 (fun f_102 hS_102 => ?_)
                            refine gz_iload_n dX12_digits_63 rfl rfl ?_
                            refine gz_bipush (v := 10) dX12_digits_64 (by decide) ?_
                            refine gz_idiv dX12_digits_66 (by decide) ?_
                            refine gz_ev (w := .int 0) (by decide) ?_
                            refine gz_istore_n (lv' := [(2, .int 0), (0, .ref m), (1, .int x1)]) dX12_digits_67 rfl (by decide) rfl ?_
                            refine gz_goto (tgt := 17) dX12_digits_68 (by decide) ?_
                            refine gz_iload_n dX12_digits_17 rfl rfl ?_
                            refine gz_if_le (tgt := 71) dX12_digits_18 (by decide) (fun c_18_96 => ?_) (fun c_18_96 => ?_)
                            ·
                              try simp only [mIn_0, lgc_lt, lgc_gt, lgc_le, lgc_ge, lgc_eq] at c_18_96
                              try simp only [fl_lt, fl_le, fl_eq, fL_w, fL_lt, fL_le, tm1, tm10k, tm9, tm99, Int32.reduceToInt, Int64.reduceToInt, Int.not_lt, Int.not_le] at c_18_96
                              refine gz_aload_n dX12_digits_71 rfl rfl ?_
                              refine gz_iconst (v := 1) dX12_digits_72 (by decide) ?_
                              refine mp_544 hS_102 ⟨rfl, rfl⟩ dX12_digits_73 (fun f_103 hS_103 => ?_)
                              exact gz_vret rfl dX12_digits_76 (Nat.le_of_ble_eq_true rfl) (Nat.le_of_ble_eq_true rfl) (⟨rfl, _, _, _, _, hS_103, (fx_n (fx_n (fx_F (fx_n (fx_F (fx_n (fx_F fx_rf (by decide)) (by decide)) (by decide)) (by decide)) (by decide)) (by decide)) (by decide)), (by (try rw [(show (va_up (va_up (va_up (va_up n 88 ((n 88) + 1)) 88 (((n 88) + 1) + 1)) 88 ((((n 88) + 1) + 1) + 1)) 89 1) 88 = ((((n 88) + 1) + 1) + 1) from rfl)]); have q1_ := (T_add (T_add (T_add (rfl : ((n 88)).toInt = ((n 88)).toInt) (show (1 : Int32).toInt = 1 from rfl) (by omega)) (show (1 : Int32).toInt = 1 from rfl) (by omega)) (show (1 : Int32).toInt = 1 from rfl) (by omega)); omega), (by (try rw [(show (va_up (va_up (va_up (va_up n 88 ((n 88) + 1)) 88 (((n 88) + 1) + 1)) 88 ((((n 88) + 1) + 1) + 1)) 89 1) 88 = ((((n 88) + 1) + 1) + 1) from rfl)]); have q1_ := (T_add (T_add (T_add (rfl : ((n 88)).toInt = ((n 88)).toInt) (show (1 : Int32).toInt = 1 from rfl) (by omega)) (show (1 : Int32).toInt = 1 from rfl) (by omega)) (show (1 : Int32).toInt = 1 from rfl) (by omega)); omega)⟩)
                            · exact absurd c_18_96 (by decide)
                          ·
                            try simp only [mIn_0, lgc_lt, lgc_gt, lgc_le, lgc_ge, lgc_eq] at c_23_95
                            try simp only [fl_lt, fl_le, fl_eq, fL_w, fL_lt, fL_le, tm1, tm10k, tm9, tm99, Int32.reduceToInt, Int64.reduceToInt, Int.not_lt, Int.not_le] at c_23_95
                            refine gz_iload_n dX12_digits_26 rfl rfl ?_
                            refine gz_iconst (v := 1) dX12_digits_27 (by decide) ?_
                            refine gz_icmp_le (tgt := 34) dX12_digits_28 (by decide) (fun c_28_97 => ?_) (fun c_28_97 => ?_)
                            ·
                              try simp only [mIn_0, lgc_lt, lgc_gt, lgc_le, lgc_ge, lgc_eq] at c_28_97
                              try simp only [fl_lt, fl_le, fl_eq, fL_w, fL_lt, fL_le, tm1, tm10k, tm9, tm99, Int32.reduceToInt, Int64.reduceToInt, Int.not_lt, Int.not_le] at c_28_97
                              refine gz_aload_n dX12_digits_34 rfl rfl ?_
                              refine mg_240 hS_100 dX12_digits_35 ?_
                              refine gz_aload_n dX12_digits_38 rfl rfl ?_
                              refine mg_541 hS_100 dX12_digits_39 ?_
                              refine gz_ev (w := .int (((n 88) + 1) + 1)) rfl ?_
                              refine gz_bipush (v := 48) dX12_digits_42 (by decide) ?_
                              refine gz_iload_n dX12_digits_44 rfl rfl ?_
                              refine gz_iload_n dX12_digits_45 rfl rfl ?_
                              refine gz_idiv dX12_digits_46 (by decide) ?_
                              refine gz_bipush (v := 10) dX12_digits_47 (by decide) ?_
                              refine gz_irem dX12_digits_49 (by decide) ?_
                              refine gz_iadd dX12_digits_50 ?_
                              refine gz_i2b dX12_digits_51 ?_
                              refine m_bast 87 hS_100 rfl (N := 1000) rfl ((by have q9 := (T_add (T_add (rfl : ((n 88)).toInt = ((n 88)).toInt) (show (1 : Int32).toInt = 1 from rfl) (by omega)) (show (1 : Int32).toInt = 1 from rfl) (by omega)); exact vin_T q9 (by omega) (by omega))) dX12_digits_52 (fun f_104 hS_104q => ?_)
                              have hS_104 : mS cy m a f0 (va_up (va_up n 88 ((n 88) + 1)) 88 (((n 88) + 1) + 1)) z (va_up (va_up (va_up F 87 (upd (F 87) (Int32.toNatClampNeg (n 88)) (vp_nar .byte ((48 + ((x1 / 100) - (x1 / 100) / 10 * 10)).toInt8.toInt32)))) 87 (upd (upd (F 87) (Int32.toNatClampNeg (n 88)) (vp_nar .byte ((48 + ((x1 / 100) - (x1 / 100) / 10 * 10)).toInt8.toInt32))) (Int32.toNatClampNeg ((n 88) + 1)) (vp_nar .byte ((48 + ((x1 / 10) - (x1 / 10) / 10 * 10)).toInt8.toInt32)))) 87 (upd (upd (upd (F 87) (Int32.toNatClampNeg (n 88)) (vp_nar .byte ((48 + ((x1 / 100) - (x1 / 100) / 10 * 10)).toInt8.toInt32))) (Int32.toNatClampNeg ((n 88) + 1)) (vp_nar .byte ((48 + ((x1 / 10) - (x1 / 10) / 10 * 10)).toInt8.toInt32))) (Int32.toNatClampNeg (((n 88) + 1) + 1)) (vp_nar .byte ((48 + ((x1 / 1) - (x1 / 1) / 10 * 10)).toInt8.toInt32)))) G f_104 := hS_104q
                              refine gz_aload_n dX12_digits_53 rfl rfl ?_
                              refine gz_dup dX12_digits_54 rfl ?_
                              refine mg_541 hS_104 dX12_digits_55 ?_
                              refine gz_ev (w := .int (((n 88) + 1) + 1)) rfl ?_
                              refine gz_iconst (v := 1) dX12_digits_58 (by decide) ?_
                              refine gz_iadd dX12_digits_59 ?_
                              refine mp_541 hS_104 dX12_digits_60 (fun f_105 hS_105 => ?_)
                              refine gz_iload_n dX12_digits_63 rfl rfl ?_
                              refine gz_bipush (v := 10) dX12_digits_64 (by decide) ?_
                              refine gz_idiv dX12_digits_66 (by decide) ?_
                              refine gz_ev (w := .int 0) (by decide) ?_
                              refine gz_istore_n (lv' := [(2, .int 0), (0, .ref m), (1, .int x1)]) dX12_digits_67 rfl (by decide) rfl ?_
                              refine gz_goto (tgt := 17) dX12_digits_68 (by decide) ?_
                              refine gz_iload_n dX12_digits_17 rfl rfl ?_
                              refine gz_if_le (tgt := 71) dX12_digits_18 (by decide) (fun c_18_98 => ?_) (fun c_18_98 => ?_)
                              ·
                                try simp only [mIn_0, lgc_lt, lgc_gt, lgc_le, lgc_ge, lgc_eq] at c_18_98
                                try simp only [fl_lt, fl_le, fl_eq, fL_w, fL_lt, fL_le, tm1, tm10k, tm9, tm99, Int32.reduceToInt, Int64.reduceToInt, Int.not_lt, Int.not_le] at c_18_98
                                refine gz_aload_n dX12_digits_71 rfl rfl ?_
                                refine gz_iconst (v := 1) dX12_digits_72 (by decide) ?_
                                refine mp_544 hS_105 ⟨rfl, rfl⟩ dX12_digits_73 (fun f_106 hS_106 => ?_)
                                exact gz_vret rfl dX12_digits_76 (Nat.le_of_ble_eq_true rfl) (Nat.le_of_ble_eq_true rfl) (⟨rfl, _, _, _, _, hS_106, (fx_n (fx_n (fx_F (fx_n (fx_F (fx_n (fx_F fx_rf (by decide)) (by decide)) (by decide)) (by decide)) (by decide)) (by decide)) (by decide)), (by (try rw [(show (va_up (va_up (va_up (va_up n 88 ((n 88) + 1)) 88 (((n 88) + 1) + 1)) 88 ((((n 88) + 1) + 1) + 1)) 89 1) 88 = ((((n 88) + 1) + 1) + 1) from rfl)]); have q1_ := (T_add (T_add (T_add (rfl : ((n 88)).toInt = ((n 88)).toInt) (show (1 : Int32).toInt = 1 from rfl) (by omega)) (show (1 : Int32).toInt = 1 from rfl) (by omega)) (show (1 : Int32).toInt = 1 from rfl) (by omega)); omega), (by (try rw [(show (va_up (va_up (va_up (va_up n 88 ((n 88) + 1)) 88 (((n 88) + 1) + 1)) 88 ((((n 88) + 1) + 1) + 1)) 89 1) 88 = ((((n 88) + 1) + 1) + 1) from rfl)]); have q1_ := (T_add (T_add (T_add (rfl : ((n 88)).toInt = ((n 88)).toInt) (show (1 : Int32).toInt = 1 from rfl) (by omega)) (show (1 : Int32).toInt = 1 from rfl) (by omega)) (show (1 : Int32).toInt = 1 from rfl) (by omega)); omega)⟩)
                              · exact absurd c_18_98 (by decide)
                            · exact absurd c_28_97 (by decide)
                      ·
                        try simp only [mIn_0, lgc_lt, lgc_gt, lgc_le, lgc_ge, lgc_eq] at c_23_93
                        try simp only [fl_lt, fl_le, fl_eq, fL_w, fL_lt, fL_le, tm1, tm10k, tm9, tm99, Int32.reduceToInt, Int64.reduceToInt, Int.not_lt, Int.not_le] at c_23_93
                        refine gz_iload_n dX12_digits_26 rfl rfl ?_
                        refine gz_iconst (v := 1) dX12_digits_27 (by decide) ?_
                        refine gz_icmp_le (tgt := 34) dX12_digits_28 (by decide) (fun c_28_99 => ?_) (fun c_28_99 => ?_)
                        · exact absurd c_28_99 (by decide)
                        ·
                          try simp only [mIn_0, lgc_lt, lgc_gt, lgc_le, lgc_ge, lgc_eq] at c_28_99
                          try simp only [fl_lt, fl_le, fl_eq, fL_w, fL_lt, fL_le, tm1, tm10k, tm9, tm99, Int32.reduceToInt, Int64.reduceToInt, Int.not_lt, Int.not_le] at c_28_99
                          refine gz_goto (tgt := 63) dX12_digits_31 (by decide) ?_
                          refine gz_iload_n dX12_digits_63 rfl rfl ?_
                          refine gz_bipush (v := 10) dX12_digits_64 (by decide) ?_
                          refine gz_idiv dX12_digits_66 (by decide) ?_
                          refine gz_ev (w := .int 1) (by decide) ?_
                          refine gz_istore_n (lv' := [(2, .int 1), (0, .ref m), (1, .int x1)]) dX12_digits_67 rfl (by decide) rfl ?_
                          refine gz_goto (tgt := 17) dX12_digits_68 (by decide) ?_
                          refine gz_iload_n dX12_digits_17 rfl rfl ?_
                          refine gz_if_le (tgt := 71) dX12_digits_18 (by decide) (fun c_18_100 => ?_) (fun c_18_100 => ?_)
                          · exact absurd c_18_100 (by decide)
                          ·
                            try simp only [mIn_0, lgc_lt, lgc_gt, lgc_le, lgc_ge, lgc_eq] at c_18_100
                            try simp only [fl_lt, fl_le, fl_eq, fL_w, fL_lt, fL_le, tm1, tm10k, tm9, tm99, Int32.reduceToInt, Int64.reduceToInt, Int.not_lt, Int.not_le] at c_18_100
                            refine gz_iload_n dX12_digits_21 rfl rfl ?_
                            refine gz_iload_n dX12_digits_22 rfl rfl ?_
                            refine gz_icmp_ge (tgt := 34) dX12_digits_23 (by decide) (fun c_23_101 => ?_) (fun c_23_101 => ?_)
                            ·
                              try simp only [mIn_0, lgc_lt, lgc_gt, lgc_le, lgc_ge, lgc_eq] at c_23_101
                              try simp only [fl_lt, fl_le, fl_eq, fL_w, fL_lt, fL_le, tm1, tm10k, tm9, tm99, Int32.reduceToInt, Int64.reduceToInt, Int.not_lt, Int.not_le] at c_23_101
                              refine gz_aload_n dX12_digits_34 rfl rfl ?_
                              refine mg_240 hS_98 dX12_digits_35 ?_
                              refine gz_aload_n dX12_digits_38 rfl rfl ?_
                              refine mg_541 hS_98 dX12_digits_39 ?_
                              refine gz_ev (w := .int ((n 88) + 1)) rfl ?_
                              refine gz_bipush (v := 48) dX12_digits_42 (by decide) ?_
                              refine gz_iload_n dX12_digits_44 rfl rfl ?_
                              refine gz_iload_n dX12_digits_45 rfl rfl ?_
                              refine gz_idiv dX12_digits_46 (by decide) ?_
                              refine gz_bipush (v := 10) dX12_digits_47 (by decide) ?_
                              refine gz_irem dX12_digits_49 (by decide) ?_
                              refine gz_iadd dX12_digits_50 ?_
                              refine gz_i2b dX12_digits_51 ?_
                              refine m_bast 87 hS_98 rfl (N := 1000) rfl ((by have q9 := (T_add (rfl : ((n 88)).toInt = ((n 88)).toInt) (show (1 : Int32).toInt = 1 from rfl) (by omega)); exact vin_T q9 (by omega) (by omega))) dX12_digits_52 (fun f_107 hS_107q => ?_)
                              have hS_107 : mS cy m a f0 (va_up n 88 ((n 88) + 1)) z (va_up (va_up F 87 (upd (F 87) (Int32.toNatClampNeg (n 88)) (vp_nar .byte ((48 + ((x1 / 100) - (x1 / 100) / 10 * 10)).toInt8.toInt32)))) 87 (upd (upd (F 87) (Int32.toNatClampNeg (n 88)) (vp_nar .byte ((48 + ((x1 / 100) - (x1 / 100) / 10 * 10)).toInt8.toInt32))) (Int32.toNatClampNeg ((n 88) + 1)) (vp_nar .byte ((48 + ((x1 / 1) - (x1 / 1) / 10 * 10)).toInt8.toInt32)))) G f_107 := hS_107q
                              refine gz_aload_n dX12_digits_53 rfl rfl ?_
                              refine gz_dup dX12_digits_54 rfl ?_
                              refine mg_541 hS_107 dX12_digits_55 ?_
                              refine gz_ev (w := .int ((n 88) + 1)) rfl ?_
                              refine gz_iconst (v := 1) dX12_digits_58 (by decide) ?_
                              refine gz_iadd dX12_digits_59 ?_
                              refine mp_541 hS_107 dX12_digits_60 (fun f_108 hS_108 => ?_)
                              refine gz_iload_n dX12_digits_63 rfl rfl ?_
                              refine gz_bipush (v := 10) dX12_digits_64 (by decide) ?_
                              refine gz_idiv dX12_digits_66 (by decide) ?_
                              refine gz_ev (w := .int 0) (by decide) ?_
                              refine gz_istore_n (lv' := [(2, .int 0), (0, .ref m), (1, .int x1)]) dX12_digits_67 rfl (by decide) rfl ?_
                              refine gz_goto (tgt := 17) dX12_digits_68 (by decide) ?_
                              refine gz_iload_n dX12_digits_17 rfl rfl ?_
                              refine gz_if_le (tgt := 71) dX12_digits_18 (by decide) (fun c_18_102 => ?_) (fun c_18_102 => ?_)
                              ·
                                try simp only [mIn_0, lgc_lt, lgc_gt, lgc_le, lgc_ge, lgc_eq] at c_18_102
                                try simp only [fl_lt, fl_le, fl_eq, fL_w, fL_lt, fL_le, tm1, tm10k, tm9, tm99, Int32.reduceToInt, Int64.reduceToInt, Int.not_lt, Int.not_le] at c_18_102
                                refine gz_aload_n dX12_digits_71 rfl rfl ?_
                                refine gz_iconst (v := 1) dX12_digits_72 (by decide) ?_
                                refine mp_544 hS_108 ⟨rfl, rfl⟩ dX12_digits_73 (fun f_109 hS_109 => ?_)
                                exact gz_vret rfl dX12_digits_76 (Nat.le_of_ble_eq_true rfl) (Nat.le_of_ble_eq_true rfl) (⟨rfl, _, _, _, _, hS_109, (fx_n (fx_n (fx_F (fx_n (fx_F fx_rf (by decide)) (by decide)) (by decide)) (by decide)) (by decide)), (by (try rw [(show (va_up (va_up (va_up n 88 ((n 88) + 1)) 88 (((n 88) + 1) + 1)) 89 1) 88 = (((n 88) + 1) + 1) from rfl)]); have q1_ := (T_add (T_add (rfl : ((n 88)).toInt = ((n 88)).toInt) (show (1 : Int32).toInt = 1 from rfl) (by omega)) (show (1 : Int32).toInt = 1 from rfl) (by omega)); omega), (by (try rw [(show (va_up (va_up (va_up n 88 ((n 88) + 1)) 88 (((n 88) + 1) + 1)) 89 1) 88 = (((n 88) + 1) + 1) from rfl)]); have q1_ := (T_add (T_add (rfl : ((n 88)).toInt = ((n 88)).toInt) (show (1 : Int32).toInt = 1 from rfl) (by omega)) (show (1 : Int32).toInt = 1 from rfl) (by omega)); omega)⟩)
                              · exact absurd c_18_102 (by decide)
                            ·
                              try simp only [mIn_0, lgc_lt, lgc_gt, lgc_le, lgc_ge, lgc_eq] at c_23_101
                              try simp only [fl_lt, fl_le, fl_eq, fL_w, fL_lt, fL_le, tm1, tm10k, tm9, tm99, Int32.reduceToInt, Int64.reduceToInt, Int.not_lt, Int.not_le] at c_23_101
                              refine gz_iload_n dX12_digits_26 rfl rfl ?_
                              refine gz_iconst (v := 1) dX12_digits_27 (by decide) ?_
                              refine gz_icmp_le (tgt := 34) dX12_digits_28 (by decide) (fun c_28_103 => ?_) (fun c_28_103 => ?_)
                              ·
                                try simp only [mIn_0, lgc_lt, lgc_gt, lgc_le, lgc_ge, lgc_eq] at c_28_103
                                try simp only [fl_lt, fl_le, fl_eq, fL_w, fL_lt, fL_le, tm1, tm10k, tm9, tm99, Int32.reduceToInt, Int64.reduceToInt, Int.not_lt, Int.not_le] at c_28_103
                                refine gz_aload_n dX12_digits_34 rfl rfl ?_
                                refine mg_240 hS_98 dX12_digits_35 ?_
                                refine gz_aload_n dX12_digits_38 rfl rfl ?_
                                refine mg_541 hS_98 dX12_digits_39 ?_
                                refine gz_ev (w := .int ((n 88) + 1)) rfl ?_
                                refine gz_bipush (v := 48) dX12_digits_42 (by decide) ?_
                                refine gz_iload_n dX12_digits_44 rfl rfl ?_
                                refine gz_iload_n dX12_digits_45 rfl rfl ?_
                                refine gz_idiv dX12_digits_46 (by decide) ?_
                                refine gz_bipush (v := 10) dX12_digits_47 (by decide) ?_
                                refine gz_irem dX12_digits_49 (by decide) ?_
                                refine gz_iadd dX12_digits_50 ?_
                                refine gz_i2b dX12_digits_51 ?_
                                refine m_bast 87 hS_98 rfl (N := 1000) rfl ((by have q9 := (T_add (rfl : ((n 88)).toInt = ((n 88)).toInt) (show (1 : Int32).toInt = 1 from rfl) (by omega)); exact vin_T q9 (by omega) (by omega))) dX12_digits_52 (fun f_110 hS_110q => ?_)
                                have hS_110 : mS cy m a f0 (va_up n 88 ((n 88) + 1)) z (va_up (va_up F 87 (upd (F 87) (Int32.toNatClampNeg (n 88)) (vp_nar .byte ((48 + ((x1 / 100) - (x1 / 100) / 10 * 10)).toInt8.toInt32)))) 87 (upd (upd (F 87) (Int32.toNatClampNeg (n 88)) (vp_nar .byte ((48 + ((x1 / 100) - (x1 / 100) / 10 * 10)).toInt8.toInt32))) (Int32.toNatClampNeg ((n 88) + 1)) (vp_nar .byte ((48 + ((x1 / 1) - (x1 / 1) / 10 * 10)).toInt8.toInt32)))) G f_110 := hS_110q
                                refine gz_aload_n dX12_digits_53 rfl rfl ?_
                                refine gz_dup dX12_digits_54 rfl ?_
                                refine mg_541 hS_110 dX12_digits_55 ?_
                                refine gz_ev (w := .int ((n 88) + 1)) rfl ?_
                                refine gz_iconst (v := 1) dX12_digits_58 (by decide) ?_
                                refine gz_iadd dX12_digits_59 ?_
                                refine mp_541 hS_110 dX12_digits_60 (fun f_111 hS_111 => ?_)
                                refine gz_iload_n dX12_digits_63 rfl rfl ?_
                                refine gz_bipush (v := 10) dX12_digits_64 (by decide) ?_
                                refine gz_idiv dX12_digits_66 (by decide) ?_
                                refine gz_ev (w := .int 0) (by decide) ?_
                                refine gz_istore_n (lv' := [(2, .int 0), (0, .ref m), (1, .int x1)]) dX12_digits_67 rfl (by decide) rfl ?_
                                refine gz_goto (tgt := 17) dX12_digits_68 (by decide) ?_
                                refine gz_iload_n dX12_digits_17 rfl rfl ?_
                                refine gz_if_le (tgt := 71) dX12_digits_18 (by decide) (fun c_18_104 => ?_) (fun c_18_104 => ?_)
                                ·
                                  try simp only [mIn_0, lgc_lt, lgc_gt, lgc_le, lgc_ge, lgc_eq] at c_18_104
                                  try simp only [fl_lt, fl_le, fl_eq, fL_w, fL_lt, fL_le, tm1, tm10k, tm9, tm99, Int32.reduceToInt, Int64.reduceToInt, Int.not_lt, Int.not_le] at c_18_104
                                  refine gz_aload_n dX12_digits_71 rfl rfl ?_
                                  refine gz_iconst (v := 1) dX12_digits_72 (by decide) ?_
                                  refine mp_544 hS_111 ⟨rfl, rfl⟩ dX12_digits_73 (fun f_112 hS_112 => ?_)
                                  exact gz_vret rfl dX12_digits_76 (Nat.le_of_ble_eq_true rfl) (Nat.le_of_ble_eq_true rfl) (⟨rfl, _, _, _, _, hS_112, (fx_n (fx_n (fx_F (fx_n (fx_F fx_rf (by decide)) (by decide)) (by decide)) (by decide)) (by decide)), (by (try rw [(show (va_up (va_up (va_up n 88 ((n 88) + 1)) 88 (((n 88) + 1) + 1)) 89 1) 88 = (((n 88) + 1) + 1) from rfl)]); have q1_ := (T_add (T_add (rfl : ((n 88)).toInt = ((n 88)).toInt) (show (1 : Int32).toInt = 1 from rfl) (by omega)) (show (1 : Int32).toInt = 1 from rfl) (by omega)); omega), (by (try rw [(show (va_up (va_up (va_up n 88 ((n 88) + 1)) 88 (((n 88) + 1) + 1)) 89 1) 88 = (((n 88) + 1) + 1) from rfl)]); have q1_ := (T_add (T_add (rfl : ((n 88)).toInt = ((n 88)).toInt) (show (1 : Int32).toInt = 1 from rfl) (by omega)) (show (1 : Int32).toInt = 1 from rfl) (by omega)); omega)⟩)
                                · exact absurd c_18_104 (by decide)
                              · exact absurd c_28_103 (by decide)
                  ·
                    try simp only [mIn_0, lgc_lt, lgc_gt, lgc_le, lgc_ge, lgc_eq] at c_23_91
                    try simp only [fl_lt, fl_le, fl_eq, fL_w, fL_lt, fL_le, tm1, tm10k, tm9, tm99, Int32.reduceToInt, Int64.reduceToInt, Int.not_lt, Int.not_le] at c_23_91
                    refine gz_iload_n dX12_digits_26 rfl rfl ?_
                    refine gz_iconst (v := 1) dX12_digits_27 (by decide) ?_
                    refine gz_icmp_le (tgt := 34) dX12_digits_28 (by decide) (fun c_28_105 => ?_) (fun c_28_105 => ?_)
                    · exact absurd c_28_105 (by decide)
                    ·
                      try simp only [mIn_0, lgc_lt, lgc_gt, lgc_le, lgc_ge, lgc_eq] at c_28_105
                      try simp only [fl_lt, fl_le, fl_eq, fL_w, fL_lt, fL_le, tm1, tm10k, tm9, tm99, Int32.reduceToInt, Int64.reduceToInt, Int.not_lt, Int.not_le] at c_28_105
                      refine gz_goto (tgt := 63) dX12_digits_31 (by decide) ?_
                      refine gz_iload_n dX12_digits_63 rfl rfl ?_
                      refine gz_bipush (v := 10) dX12_digits_64 (by decide) ?_
                      refine gz_idiv dX12_digits_66 (by decide) ?_
                      refine gz_ev (w := .int 10) (by decide) ?_
                      refine gz_istore_n (lv' := [(2, .int 10), (0, .ref m), (1, .int x1)]) dX12_digits_67 rfl (by decide) rfl ?_
                      refine gz_goto (tgt := 17) dX12_digits_68 (by decide) ?_
                      refine gz_iload_n dX12_digits_17 rfl rfl ?_
                      refine gz_if_le (tgt := 71) dX12_digits_18 (by decide) (fun c_18_106 => ?_) (fun c_18_106 => ?_)
                      · exact absurd c_18_106 (by decide)
                      ·
                        try simp only [mIn_0, lgc_lt, lgc_gt, lgc_le, lgc_ge, lgc_eq] at c_18_106
                        try simp only [fl_lt, fl_le, fl_eq, fL_w, fL_lt, fL_le, tm1, tm10k, tm9, tm99, Int32.reduceToInt, Int64.reduceToInt, Int.not_lt, Int.not_le] at c_18_106
                        refine gz_iload_n dX12_digits_21 rfl rfl ?_
                        refine gz_iload_n dX12_digits_22 rfl rfl ?_
                        refine gz_icmp_ge (tgt := 34) dX12_digits_23 (by decide) (fun c_23_107 => ?_) (fun c_23_107 => ?_)
                        ·
                          try simp only [mIn_0, lgc_lt, lgc_gt, lgc_le, lgc_ge, lgc_eq] at c_23_107
                          try simp only [fl_lt, fl_le, fl_eq, fL_w, fL_lt, fL_le, tm1, tm10k, tm9, tm99, Int32.reduceToInt, Int64.reduceToInt, Int.not_lt, Int.not_le] at c_23_107
                          refine gz_aload_n dX12_digits_34 rfl rfl ?_
                          refine mg_240 hS dX12_digits_35 ?_
                          refine gz_aload_n dX12_digits_38 rfl rfl ?_
                          refine mg_541 hS dX12_digits_39 ?_
                          refine gz_bipush (v := 48) dX12_digits_42 (by decide) ?_
                          refine gz_iload_n dX12_digits_44 rfl rfl ?_
                          refine gz_iload_n dX12_digits_45 rfl rfl ?_
                          refine gz_idiv dX12_digits_46 (by decide) ?_
                          refine gz_bipush (v := 10) dX12_digits_47 (by decide) ?_
                          refine gz_irem dX12_digits_49 (by decide) ?_
                          refine gz_iadd dX12_digits_50 ?_
                          refine gz_i2b dX12_digits_51 ?_
                          refine m_bast 87 hS rfl (N := 1000) rfl ((by exact vin_T (rfl : ((n 88)).toInt = ((n 88)).toInt) (by omega) (by omega))) dX12_digits_52 (fun f_113 hS_113q => ?_)
                          have hS_113 : mS cy m a f0 n z (va_up F 87 (upd (F 87) (Int32.toNatClampNeg (n 88)) (vp_nar .byte ((48 + ((x1 / 10) - (x1 / 10) / 10 * 10)).toInt8.toInt32)))) G f_113 := hS_113q
                          refine gz_aload_n dX12_digits_53 rfl rfl ?_
                          refine gz_dup dX12_digits_54 rfl ?_
                          refine mg_541 hS_113 dX12_digits_55 ?_
                          refine gz_ev (w := .int (n 88)) rfl ?_
                          refine gz_iconst (v := 1) dX12_digits_58 (by decide) ?_
                          refine gz_iadd dX12_digits_59 ?_
                          refine mp_541 hS_113 dX12_digits_60 (fun f_114 hS_114 => ?_)
                          refine gz_iload_n dX12_digits_63 rfl rfl ?_
                          refine gz_bipush (v := 10) dX12_digits_64 (by decide) ?_
                          refine gz_idiv dX12_digits_66 (by decide) ?_
                          refine gz_ev (w := .int 1) (by decide) ?_
                          refine gz_istore_n (lv' := [(2, .int 1), (0, .ref m), (1, .int x1)]) dX12_digits_67 rfl (by decide) rfl ?_
                          refine gz_goto (tgt := 17) dX12_digits_68 (by decide) ?_
                          refine gz_iload_n dX12_digits_17 rfl rfl ?_
                          refine gz_if_le (tgt := 71) dX12_digits_18 (by decide) (fun c_18_108 => ?_) (fun c_18_108 => ?_)
                          · exact absurd c_18_108 (by decide)
                          ·
                            try simp only [mIn_0, lgc_lt, lgc_gt, lgc_le, lgc_ge, lgc_eq] at c_18_108
                            try simp only [fl_lt, fl_le, fl_eq, fL_w, fL_lt, fL_le, tm1, tm10k, tm9, tm99, Int32.reduceToInt, Int64.reduceToInt, Int.not_lt, Int.not_le] at c_18_108
                            refine gz_iload_n dX12_digits_21 rfl rfl ?_
                            refine gz_iload_n dX12_digits_22 rfl rfl ?_
                            refine gz_icmp_ge (tgt := 34) dX12_digits_23 (by decide) (fun c_23_109 => ?_) (fun c_23_109 => ?_)
                            ·
                              try simp only [mIn_0, lgc_lt, lgc_gt, lgc_le, lgc_ge, lgc_eq] at c_23_109
                              try simp only [fl_lt, fl_le, fl_eq, fL_w, fL_lt, fL_le, tm1, tm10k, tm9, tm99, Int32.reduceToInt, Int64.reduceToInt, Int.not_lt, Int.not_le] at c_23_109
                              refine gz_aload_n dX12_digits_34 rfl rfl ?_
                              refine mg_240 hS_114 dX12_digits_35 ?_
                              refine gz_aload_n dX12_digits_38 rfl rfl ?_
                              refine mg_541 hS_114 dX12_digits_39 ?_
                              refine gz_ev (w := .int ((n 88) + 1)) rfl ?_
                              refine gz_bipush (v := 48) dX12_digits_42 (by decide) ?_
                              refine gz_iload_n dX12_digits_44 rfl rfl ?_
                              refine gz_iload_n dX12_digits_45 rfl rfl ?_
                              refine gz_idiv dX12_digits_46 (by decide) ?_
                              refine gz_bipush (v := 10) dX12_digits_47 (by decide) ?_
                              refine gz_irem dX12_digits_49 (by decide) ?_
                              refine gz_iadd dX12_digits_50 ?_
                              refine gz_i2b dX12_digits_51 ?_
                              refine m_bast 87 hS_114 rfl (N := 1000) rfl ((by have q9 := (T_add (rfl : ((n 88)).toInt = ((n 88)).toInt) (show (1 : Int32).toInt = 1 from rfl) (by omega)); exact vin_T q9 (by omega) (by omega))) dX12_digits_52 (fun f_115 hS_115q => ?_)
                              have hS_115 : mS cy m a f0 (va_up n 88 ((n 88) + 1)) z (va_up (va_up F 87 (upd (F 87) (Int32.toNatClampNeg (n 88)) (vp_nar .byte ((48 + ((x1 / 10) - (x1 / 10) / 10 * 10)).toInt8.toInt32)))) 87 (upd (upd (F 87) (Int32.toNatClampNeg (n 88)) (vp_nar .byte ((48 + ((x1 / 10) - (x1 / 10) / 10 * 10)).toInt8.toInt32))) (Int32.toNatClampNeg ((n 88) + 1)) (vp_nar .byte ((48 + ((x1 / 1) - (x1 / 1) / 10 * 10)).toInt8.toInt32)))) G f_115 := hS_115q
                              refine gz_aload_n dX12_digits_53 rfl rfl ?_
                              refine gz_dup dX12_digits_54 rfl ?_
                              refine mg_541 hS_115 dX12_digits_55 ?_
                              refine gz_ev (w := .int ((n 88) + 1)) rfl ?_
                              refine gz_iconst (v := 1) dX12_digits_58 (by decide) ?_
                              refine gz_iadd dX12_digits_59 ?_
                              refine mp_541 hS_115 dX12_digits_60 (fun f_116 hS_116 => ?_)
                              refine gz_iload_n dX12_digits_63 rfl rfl ?_
                              refine gz_bipush (v := 10) dX12_digits_64 (by decide) ?_
                              refine gz_idiv dX12_digits_66 (by decide) ?_
                              refine gz_ev (w := .int 0) (by decide) ?_
                              refine gz_istore_n (lv' := [(2, .int 0), (0, .ref m), (1, .int x1)]) dX12_digits_67 rfl (by decide) rfl ?_
                              refine gz_goto (tgt := 17) dX12_digits_68 (by decide) ?_
                              refine gz_iload_n dX12_digits_17 rfl rfl ?_
                              refine gz_if_le (tgt := 71) dX12_digits_18 (by decide) (fun c_18_110 => ?_) (fun c_18_110 => ?_)
                              ·
                                try simp only [mIn_0, lgc_lt, lgc_gt, lgc_le, lgc_ge, lgc_eq] at c_18_110
                                try simp only [fl_lt, fl_le, fl_eq, fL_w, fL_lt, fL_le, tm1, tm10k, tm9, tm99, Int32.reduceToInt, Int64.reduceToInt, Int.not_lt, Int.not_le] at c_18_110
                                refine gz_aload_n dX12_digits_71 rfl rfl ?_
                                refine gz_iconst (v := 1) dX12_digits_72 (by decide) ?_
                                refine mp_544 hS_116 ⟨rfl, rfl⟩ dX12_digits_73 (fun f_117 hS_117 => ?_)
                                exact gz_vret rfl dX12_digits_76 (Nat.le_of_ble_eq_true rfl) (Nat.le_of_ble_eq_true rfl) (⟨rfl, _, _, _, _, hS_117, (fx_n (fx_n (fx_F (fx_n (fx_F fx_rf (by decide)) (by decide)) (by decide)) (by decide)) (by decide)), (by (try rw [(show (va_up (va_up (va_up n 88 ((n 88) + 1)) 88 (((n 88) + 1) + 1)) 89 1) 88 = (((n 88) + 1) + 1) from rfl)]); have q1_ := (T_add (T_add (rfl : ((n 88)).toInt = ((n 88)).toInt) (show (1 : Int32).toInt = 1 from rfl) (by omega)) (show (1 : Int32).toInt = 1 from rfl) (by omega)); omega), (by (try rw [(show (va_up (va_up (va_up n 88 ((n 88) + 1)) 88 (((n 88) + 1) + 1)) 89 1) 88 = (((n 88) + 1) + 1) from rfl)]); have q1_ := (T_add (T_add (rfl : ((n 88)).toInt = ((n 88)).toInt) (show (1 : Int32).toInt = 1 from rfl) (by omega)) (show (1 : Int32).toInt = 1 from rfl) (by omega)); omega)⟩)
                              · exact absurd c_18_110 (by decide)
                            ·
                              try simp only [mIn_0, lgc_lt, lgc_gt, lgc_le, lgc_ge, lgc_eq] at c_23_109
                              try simp only [fl_lt, fl_le, fl_eq, fL_w, fL_lt, fL_le, tm1, tm10k, tm9, tm99, Int32.reduceToInt, Int64.reduceToInt, Int.not_lt, Int.not_le] at c_23_109
                              refine gz_iload_n dX12_digits_26 rfl rfl ?_
                              refine gz_iconst (v := 1) dX12_digits_27 (by decide) ?_
                              refine gz_icmp_le (tgt := 34) dX12_digits_28 (by decide) (fun c_28_111 => ?_) (fun c_28_111 => ?_)
                              ·
                                try simp only [mIn_0, lgc_lt, lgc_gt, lgc_le, lgc_ge, lgc_eq] at c_28_111
                                try simp only [fl_lt, fl_le, fl_eq, fL_w, fL_lt, fL_le, tm1, tm10k, tm9, tm99, Int32.reduceToInt, Int64.reduceToInt, Int.not_lt, Int.not_le] at c_28_111
                                refine gz_aload_n dX12_digits_34 rfl rfl ?_
                                refine mg_240 hS_114 dX12_digits_35 ?_
                                refine gz_aload_n dX12_digits_38 rfl rfl ?_
                                refine mg_541 hS_114 dX12_digits_39 ?_
                                refine gz_ev (w := .int ((n 88) + 1)) rfl ?_
                                refine gz_bipush (v := 48) dX12_digits_42 (by decide) ?_
                                refine gz_iload_n dX12_digits_44 rfl rfl ?_
                                refine gz_iload_n dX12_digits_45 rfl rfl ?_
                                refine gz_idiv dX12_digits_46 (by decide) ?_
                                refine gz_bipush (v := 10) dX12_digits_47 (by decide) ?_
                                refine gz_irem dX12_digits_49 (by decide) ?_
                                refine gz_iadd dX12_digits_50 ?_
                                refine gz_i2b dX12_digits_51 ?_
                                refine m_bast 87 hS_114 rfl (N := 1000) rfl ((by have q9 := (T_add (rfl : ((n 88)).toInt = ((n 88)).toInt) (show (1 : Int32).toInt = 1 from rfl) (by omega)); exact vin_T q9 (by omega) (by omega))) dX12_digits_52 (fun f_118 hS_118q => ?_)
                                have hS_118 : mS cy m a f0 (va_up n 88 ((n 88) + 1)) z (va_up (va_up F 87 (upd (F 87) (Int32.toNatClampNeg (n 88)) (vp_nar .byte ((48 + ((x1 / 10) - (x1 / 10) / 10 * 10)).toInt8.toInt32)))) 87 (upd (upd (F 87) (Int32.toNatClampNeg (n 88)) (vp_nar .byte ((48 + ((x1 / 10) - (x1 / 10) / 10 * 10)).toInt8.toInt32))) (Int32.toNatClampNeg ((n 88) + 1)) (vp_nar .byte ((48 + ((x1 / 1) - (x1 / 1) / 10 * 10)).toInt8.toInt32)))) G f_118 := hS_118q
                                refine gz_aload_n dX12_digits_53 rfl rfl ?_
                                refine gz_dup dX12_digits_54 rfl ?_
                                refine mg_541 hS_118 dX12_digits_55 ?_
                                refine gz_ev (w := .int ((n 88) + 1)) rfl ?_
                                refine gz_iconst (v := 1) dX12_digits_58 (by decide) ?_
                                refine gz_iadd dX12_digits_59 ?_
                                refine mp_541 hS_118 dX12_digits_60 (fun f_119 hS_119 => ?_)
                                refine gz_iload_n dX12_digits_63 rfl rfl ?_
                                refine gz_bipush (v := 10) dX12_digits_64 (by decide) ?_
                                refine gz_idiv dX12_digits_66 (by decide) ?_
                                refine gz_ev (w := .int 0) (by decide) ?_
                                refine gz_istore_n (lv' := [(2, .int 0), (0, .ref m), (1, .int x1)]) dX12_digits_67 rfl (by decide) rfl ?_
                                refine gz_goto (tgt := 17) dX12_digits_68 (by decide) ?_
                                refine gz_iload_n dX12_digits_17 rfl rfl ?_
                                refine gz_if_le (tgt := 71) dX12_digits_18 (by decide) (fun c_18_112 => ?_) (fun c_18_112 => ?_)
                                ·
                                  try simp only [mIn_0, lgc_lt, lgc_gt, lgc_le, lgc_ge, lgc_eq] at c_18_112
                                  try simp only [fl_lt, fl_le, fl_eq, fL_w, fL_lt, fL_le, tm1, tm10k, tm9, tm99, Int32.reduceToInt, Int64.reduceToInt, Int.not_lt, Int.not_le] at c_18_112
                                  refine gz_aload_n dX12_digits_71 rfl rfl ?_
                                  refine gz_iconst (v := 1) dX12_digits_72 (by decide) ?_
                                  refine mp_544 hS_119 ⟨rfl, rfl⟩ dX12_digits_73 (fun f_120 hS_120 => ?_)
                                  exact gz_vret rfl dX12_digits_76 (Nat.le_of_ble_eq_true rfl) (Nat.le_of_ble_eq_true rfl) (⟨rfl, _, _, _, _, hS_120, (fx_n (fx_n (fx_F (fx_n (fx_F fx_rf (by decide)) (by decide)) (by decide)) (by decide)) (by decide)), (by (try rw [(show (va_up (va_up (va_up n 88 ((n 88) + 1)) 88 (((n 88) + 1) + 1)) 89 1) 88 = (((n 88) + 1) + 1) from rfl)]); have q1_ := (T_add (T_add (rfl : ((n 88)).toInt = ((n 88)).toInt) (show (1 : Int32).toInt = 1 from rfl) (by omega)) (show (1 : Int32).toInt = 1 from rfl) (by omega)); omega), (by (try rw [(show (va_up (va_up (va_up n 88 ((n 88) + 1)) 88 (((n 88) + 1) + 1)) 89 1) 88 = (((n 88) + 1) + 1) from rfl)]); have q1_ := (T_add (T_add (rfl : ((n 88)).toInt = ((n 88)).toInt) (show (1 : Int32).toInt = 1 from rfl) (by omega)) (show (1 : Int32).toInt = 1 from rfl) (by omega)); omega)⟩)
                                · exact absurd c_18_112 (by decide)
                              · exact absurd c_28_111 (by decide)
                        ·
                          try simp only [mIn_0, lgc_lt, lgc_gt, lgc_le, lgc_ge, lgc_eq] at c_23_107
                          try simp only [fl_lt, fl_le, fl_eq, fL_w, fL_lt, fL_le, tm1, tm10k, tm9, tm99, Int32.reduceToInt, Int64.reduceToInt, Int.not_lt, Int.not_le] at c_23_107
                          refine gz_iload_n dX12_digits_26 rfl rfl ?_
                          refine gz_iconst (v := 1) dX12_digits_27 (by decide) ?_
                          refine gz_icmp_le (tgt := 34) dX12_digits_28 (by decide) (fun c_28_113 => ?_) (fun c_28_113 => ?_)
                          · exact absurd c_28_113 (by decide)
                          ·
                            try simp only [mIn_0, lgc_lt, lgc_gt, lgc_le, lgc_ge, lgc_eq] at c_28_113
                            try simp only [fl_lt, fl_le, fl_eq, fL_w, fL_lt, fL_le, tm1, tm10k, tm9, tm99, Int32.reduceToInt, Int64.reduceToInt, Int.not_lt, Int.not_le] at c_28_113
                            refine gz_goto (tgt := 63) dX12_digits_31 (by decide) ?_
                            refine gz_iload_n dX12_digits_63 rfl rfl ?_
                            refine gz_bipush (v := 10) dX12_digits_64 (by decide) ?_
                            refine gz_idiv dX12_digits_66 (by decide) ?_
                            refine gz_ev (w := .int 1) (by decide) ?_
                            refine gz_istore_n (lv' := [(2, .int 1), (0, .ref m), (1, .int x1)]) dX12_digits_67 rfl (by decide) rfl ?_
                            refine gz_goto (tgt := 17) dX12_digits_68 (by decide) ?_
                            refine gz_iload_n dX12_digits_17 rfl rfl ?_
                            refine gz_if_le (tgt := 71) dX12_digits_18 (by decide) (fun c_18_114 => ?_) (fun c_18_114 => ?_)
                            · exact absurd c_18_114 (by decide)
                            ·
                              try simp only [mIn_0, lgc_lt, lgc_gt, lgc_le, lgc_ge, lgc_eq] at c_18_114
                              try simp only [fl_lt, fl_le, fl_eq, fL_w, fL_lt, fL_le, tm1, tm10k, tm9, tm99, Int32.reduceToInt, Int64.reduceToInt, Int.not_lt, Int.not_le] at c_18_114
                              refine gz_iload_n dX12_digits_21 rfl rfl ?_
                              refine gz_iload_n dX12_digits_22 rfl rfl ?_
                              refine gz_icmp_ge (tgt := 34) dX12_digits_23 (by decide) (fun c_23_115 => ?_) (fun c_23_115 => ?_)
                              ·
                                try simp only [mIn_0, lgc_lt, lgc_gt, lgc_le, lgc_ge, lgc_eq] at c_23_115
                                try simp only [fl_lt, fl_le, fl_eq, fL_w, fL_lt, fL_le, tm1, tm10k, tm9, tm99, Int32.reduceToInt, Int64.reduceToInt, Int.not_lt, Int.not_le] at c_23_115
                                refine gz_aload_n dX12_digits_34 rfl rfl ?_
                                refine mg_240 hS dX12_digits_35 ?_
                                refine gz_aload_n dX12_digits_38 rfl rfl ?_
                                refine mg_541 hS dX12_digits_39 ?_
                                refine gz_bipush (v := 48) dX12_digits_42 (by decide) ?_
                                refine gz_iload_n dX12_digits_44 rfl rfl ?_
                                refine gz_iload_n dX12_digits_45 rfl rfl ?_
                                refine gz_idiv dX12_digits_46 (by decide) ?_
                                refine gz_bipush (v := 10) dX12_digits_47 (by decide) ?_
                                refine gz_irem dX12_digits_49 (by decide) ?_
                                refine gz_iadd dX12_digits_50 ?_
                                refine gz_i2b dX12_digits_51 ?_
                                refine m_bast 87 hS rfl (N := 1000) rfl ((by exact vin_T (rfl : ((n 88)).toInt = ((n 88)).toInt) (by omega) (by omega))) dX12_digits_52 (fun f_121 hS_121q => ?_)
                                have hS_121 : mS cy m a f0 n z (va_up F 87 (upd (F 87) (Int32.toNatClampNeg (n 88)) (vp_nar .byte ((48 + ((x1 / 1) - (x1 / 1) / 10 * 10)).toInt8.toInt32)))) G f_121 := hS_121q
                                refine gz_aload_n dX12_digits_53 rfl rfl ?_
                                refine gz_dup dX12_digits_54 rfl ?_
                                refine mg_541 hS_121 dX12_digits_55 ?_
                                refine gz_ev (w := .int (n 88)) rfl ?_
                                refine gz_iconst (v := 1) dX12_digits_58 (by decide) ?_
                                refine gz_iadd dX12_digits_59 ?_
                                refine mp_541 hS_121 dX12_digits_60 (fun f_122 hS_122 => ?_)
                                refine gz_iload_n dX12_digits_63 rfl rfl ?_
                                refine gz_bipush (v := 10) dX12_digits_64 (by decide) ?_
                                refine gz_idiv dX12_digits_66 (by decide) ?_
                                refine gz_ev (w := .int 0) (by decide) ?_
                                refine gz_istore_n (lv' := [(2, .int 0), (0, .ref m), (1, .int x1)]) dX12_digits_67 rfl (by decide) rfl ?_
                                refine gz_goto (tgt := 17) dX12_digits_68 (by decide) ?_
                                refine gz_iload_n dX12_digits_17 rfl rfl ?_
                                refine gz_if_le (tgt := 71) dX12_digits_18 (by decide) (fun c_18_116 => ?_) (fun c_18_116 => ?_)
                                ·
                                  try simp only [mIn_0, lgc_lt, lgc_gt, lgc_le, lgc_ge, lgc_eq] at c_18_116
                                  try simp only [fl_lt, fl_le, fl_eq, fL_w, fL_lt, fL_le, tm1, tm10k, tm9, tm99, Int32.reduceToInt, Int64.reduceToInt, Int.not_lt, Int.not_le] at c_18_116
                                  refine gz_aload_n dX12_digits_71 rfl rfl ?_
                                  refine gz_iconst (v := 1) dX12_digits_72 (by decide) ?_
                                  refine mp_544 hS_122 ⟨rfl, rfl⟩ dX12_digits_73 (fun f_123 hS_123 => ?_)
                                  exact gz_vret rfl dX12_digits_76 (Nat.le_of_ble_eq_true rfl) (Nat.le_of_ble_eq_true rfl) (⟨rfl, _, _, _, _, hS_123, (fx_n (fx_n (fx_F fx_rf (by decide)) (by decide)) (by decide)), (by (try rw [(show (va_up (va_up n 88 ((n 88) + 1)) 89 1) 88 = ((n 88) + 1) from rfl)]); have q1_ := (T_add (rfl : ((n 88)).toInt = ((n 88)).toInt) (show (1 : Int32).toInt = 1 from rfl) (by omega)); omega), (by (try rw [(show (va_up (va_up n 88 ((n 88) + 1)) 89 1) 88 = ((n 88) + 1) from rfl)]); have q1_ := (T_add (rfl : ((n 88)).toInt = ((n 88)).toInt) (show (1 : Int32).toInt = 1 from rfl) (by omega)); omega)⟩)
                                · exact absurd c_18_116 (by decide)
                              ·
                                try simp only [mIn_0, lgc_lt, lgc_gt, lgc_le, lgc_ge, lgc_eq] at c_23_115
                                try simp only [fl_lt, fl_le, fl_eq, fL_w, fL_lt, fL_le, tm1, tm10k, tm9, tm99, Int32.reduceToInt, Int64.reduceToInt, Int.not_lt, Int.not_le] at c_23_115
                                refine gz_iload_n dX12_digits_26 rfl rfl ?_
                                refine gz_iconst (v := 1) dX12_digits_27 (by decide) ?_
                                refine gz_icmp_le (tgt := 34) dX12_digits_28 (by decide) (fun c_28_117 => ?_) (fun c_28_117 => ?_)
                                ·
                                  try simp only [mIn_0, lgc_lt, lgc_gt, lgc_le, lgc_ge, lgc_eq] at c_28_117
                                  try simp only [fl_lt, fl_le, fl_eq, fL_w, fL_lt, fL_le, tm1, tm10k, tm9, tm99, Int32.reduceToInt, Int64.reduceToInt, Int.not_lt, Int.not_le] at c_28_117
                                  refine gz_aload_n dX12_digits_34 rfl rfl ?_
                                  refine mg_240 hS dX12_digits_35 ?_
                                  refine gz_aload_n dX12_digits_38 rfl rfl ?_
                                  refine mg_541 hS dX12_digits_39 ?_
                                  refine gz_bipush (v := 48) dX12_digits_42 (by decide) ?_
                                  refine gz_iload_n dX12_digits_44 rfl rfl ?_
                                  refine gz_iload_n dX12_digits_45 rfl rfl ?_
                                  refine gz_idiv dX12_digits_46 (by decide) ?_
                                  refine gz_bipush (v := 10) dX12_digits_47 (by decide) ?_
                                  refine gz_irem dX12_digits_49 (by decide) ?_
                                  refine gz_iadd dX12_digits_50 ?_
                                  refine gz_i2b dX12_digits_51 ?_
                                  refine m_bast 87 hS rfl (N := 1000) rfl ((by exact vin_T (rfl : ((n 88)).toInt = ((n 88)).toInt) (by omega) (by omega))) dX12_digits_52 (fun f_124 hS_124q => ?_)
                                  have hS_124 : mS cy m a f0 n z (va_up F 87 (upd (F 87) (Int32.toNatClampNeg (n 88)) (vp_nar .byte ((48 + ((x1 / 1) - (x1 / 1) / 10 * 10)).toInt8.toInt32)))) G f_124 := hS_124q
                                  refine gz_aload_n dX12_digits_53 rfl rfl ?_
                                  refine gz_dup dX12_digits_54 rfl ?_
                                  refine mg_541 hS_124 dX12_digits_55 ?_
                                  refine gz_ev (w := .int (n 88)) rfl ?_
                                  refine gz_iconst (v := 1) dX12_digits_58 (by decide) ?_
                                  refine gz_iadd dX12_digits_59 ?_
                                  refine mp_541 hS_124 dX12_digits_60 (fun f_125 hS_125 => ?_)
                                  refine gz_iload_n dX12_digits_63 rfl rfl ?_
                                  refine gz_bipush (v := 10) dX12_digits_64 (by decide) ?_
                                  refine gz_idiv dX12_digits_66 (by decide) ?_
                                  refine gz_ev (w := .int 0) (by decide) ?_
                                  refine gz_istore_n (lv' := [(2, .int 0), (0, .ref m), (1, .int x1)]) dX12_digits_67 rfl (by decide) rfl ?_
                                  refine gz_goto (tgt := 17) dX12_digits_68 (by decide) ?_
                                  refine gz_iload_n dX12_digits_17 rfl rfl ?_
                                  refine gz_if_le (tgt := 71) dX12_digits_18 (by decide) (fun c_18_118 => ?_) (fun c_18_118 => ?_)
                                  ·
                                    try simp only [mIn_0, lgc_lt, lgc_gt, lgc_le, lgc_ge, lgc_eq] at c_18_118
                                    try simp only [fl_lt, fl_le, fl_eq, fL_w, fL_lt, fL_le, tm1, tm10k, tm9, tm99, Int32.reduceToInt, Int64.reduceToInt, Int.not_lt, Int.not_le] at c_18_118
                                    refine gz_aload_n dX12_digits_71 rfl rfl ?_
                                    refine gz_iconst (v := 1) dX12_digits_72 (by decide) ?_
                                    refine mp_544 hS_125 ⟨rfl, rfl⟩ dX12_digits_73 (fun f_126 hS_126 => ?_)
                                    exact gz_vret rfl dX12_digits_76 (Nat.le_of_ble_eq_true rfl) (Nat.le_of_ble_eq_true rfl) (⟨rfl, _, _, _, _, hS_126, (fx_n (fx_n (fx_F fx_rf (by decide)) (by decide)) (by decide)), (by (try rw [(show (va_up (va_up n 88 ((n 88) + 1)) 89 1) 88 = ((n 88) + 1) from rfl)]); have q1_ := (T_add (rfl : ((n 88)).toInt = ((n 88)).toInt) (show (1 : Int32).toInt = 1 from rfl) (by omega)); omega), (by (try rw [(show (va_up (va_up n 88 ((n 88) + 1)) 89 1) 88 = ((n 88) + 1) from rfl)]); have q1_ := (T_add (rfl : ((n 88)).toInt = ((n 88)).toInt) (show (1 : Int32).toInt = 1 from rfl) (by omega)); omega)⟩)
                                  · exact absurd c_18_118 (by decide)
                                · exact absurd c_28_117 (by decide)
  ·
    try simp only [mIn_0, lgc_lt, lgc_gt, lgc_le, lgc_ge, lgc_eq] at c_4
    try simp only [fl_lt, fl_le, fl_eq, fL_w, fL_lt, fL_le, tm1, tm10k, tm9, tm99, Int32.reduceToInt, Int64.reduceToInt, Int.not_lt, Int.not_le] at c_4
    refine gz_aload_n dX12_digits_7 rfl rfl ?_
    refine gz_bipush (v := 32) dX12_digits_8 (by decide) ?_
    refine scX12_547 (k_X12_signs (x1 := 32) hS (by omega)) hS.1 ⟨(Nat.le_of_ble_eq_true rfl), (Nat.le_of_ble_eq_true rfl)⟩ ⟨(Nat.le_of_ble_eq_true rfl), (Nat.le_of_ble_eq_true rfl)⟩ rfl rfl (Nat.le_of_ble_eq_true rfl) dX12_digits_10 ?_
    rintro f_127 ⟨n_127, z_127, F_127, G_127, hS_127, hx127, h8_127⟩
    refine gz_sipush (v := 10000) dX12_digits_13 (by decide) ?_
    refine gz_istore_n (lv' := [(2, .int 10000), (0, .ref m), (1, .int x1)]) dX12_digits_16 rfl (by decide) rfl ?_
    refine gz_iload_n dX12_digits_17 rfl rfl ?_
    refine gz_if_le (tgt := 71) dX12_digits_18 (by decide) (fun c_18 => ?_) (fun c_18 => ?_)
    · exact absurd c_18 (by decide)
    ·
      try simp only [mIn_0, lgc_lt, lgc_gt, lgc_le, lgc_ge, lgc_eq] at c_18
      try simp only [fl_lt, fl_le, fl_eq, fL_w, fL_lt, fL_le, tm1, tm10k, tm9, tm99, Int32.reduceToInt, Int64.reduceToInt, Int.not_lt, Int.not_le] at c_18
      refine gz_iload_n dX12_digits_21 rfl rfl ?_
      refine gz_iload_n dX12_digits_22 rfl rfl ?_
      refine gz_icmp_ge (tgt := 34) dX12_digits_23 (by decide) (fun c_23 => ?_) (fun c_23 => ?_)
      ·
        try simp only [mIn_0, lgc_lt, lgc_gt, lgc_le, lgc_ge, lgc_eq] at c_23
        try simp only [fl_lt, fl_le, fl_eq, fL_w, fL_lt, fL_le, tm1, tm10k, tm9, tm99, Int32.reduceToInt, Int64.reduceToInt, Int.not_lt, Int.not_le] at c_23
        refine gz_aload_n dX12_digits_34 rfl rfl ?_
        refine mg_240 hS_127 dX12_digits_35 ?_
        refine gz_aload_n dX12_digits_38 rfl rfl ?_
        refine mg_541 hS_127 dX12_digits_39 ?_
        refine gz_ev (w := .int (n_127 88)) rfl ?_
        refine gz_bipush (v := 48) dX12_digits_42 (by decide) ?_
        refine gz_iload_n dX12_digits_44 rfl rfl ?_
        refine gz_iload_n dX12_digits_45 rfl rfl ?_
        refine gz_idiv dX12_digits_46 (by decide) ?_
        refine gz_bipush (v := 10) dX12_digits_47 (by decide) ?_
        refine gz_irem dX12_digits_49 (by decide) ?_
        refine gz_iadd dX12_digits_50 ?_
        refine gz_i2b dX12_digits_51 ?_
        refine m_bast 87 hS_127 rfl (N := 1000) rfl ((by exact vin_T (rfl : ((n_127 88)).toInt = ((n_127 88)).toInt) (by omega) (by omega))) dX12_digits_52 (fun f_128 hS_128q => ?_)
        have hS_128 : mS cy m a f0 n_127 z_127 (va_up F_127 87 (upd (F_127 87) (Int32.toNatClampNeg (n_127 88)) (vp_nar .byte ((48 + ((x1 / 10000) - (x1 / 10000) / 10 * 10)).toInt8.toInt32)))) G_127 f_128 := hS_128q
        refine gz_aload_n dX12_digits_53 rfl rfl ?_
        refine gz_dup dX12_digits_54 rfl ?_
        refine mg_541 hS_128 dX12_digits_55 ?_
        refine gz_ev (w := .int (n_127 88)) rfl ?_
        refine gz_iconst (v := 1) dX12_digits_58 (by decide) ?_
        refine gz_iadd dX12_digits_59 ?_
        refine mp_541 hS_128 dX12_digits_60 (fun f_129 hS_129 => ?_)
        refine gz_iload_n dX12_digits_63 rfl rfl ?_
        refine gz_bipush (v := 10) dX12_digits_64 (by decide) ?_
        refine gz_idiv dX12_digits_66 (by decide) ?_
        refine gz_ev (w := .int 1000) (by decide) ?_
        refine gz_istore_n (lv' := [(2, .int 1000), (0, .ref m), (1, .int x1)]) dX12_digits_67 rfl (by decide) rfl ?_
        refine gz_goto (tgt := 17) dX12_digits_68 (by decide) ?_
        refine gz_iload_n dX12_digits_17 rfl rfl ?_
        refine gz_if_le (tgt := 71) dX12_digits_18 (by decide) (fun c_18_119 => ?_) (fun c_18_119 => ?_)
        · exact absurd c_18_119 (by decide)
        ·
          try simp only [mIn_0, lgc_lt, lgc_gt, lgc_le, lgc_ge, lgc_eq] at c_18_119
          try simp only [fl_lt, fl_le, fl_eq, fL_w, fL_lt, fL_le, tm1, tm10k, tm9, tm99, Int32.reduceToInt, Int64.reduceToInt, Int.not_lt, Int.not_le] at c_18_119
          refine gz_iload_n dX12_digits_21 rfl rfl ?_
          refine gz_iload_n dX12_digits_22 rfl rfl ?_
          refine gz_icmp_ge (tgt := 34) dX12_digits_23 (by decide) (fun c_23_120 => ?_) (fun c_23_120 => ?_)
          ·
            try simp only [mIn_0, lgc_lt, lgc_gt, lgc_le, lgc_ge, lgc_eq] at c_23_120
            try simp only [fl_lt, fl_le, fl_eq, fL_w, fL_lt, fL_le, tm1, tm10k, tm9, tm99, Int32.reduceToInt, Int64.reduceToInt, Int.not_lt, Int.not_le] at c_23_120
            refine gz_aload_n dX12_digits_34 rfl rfl ?_
            refine mg_240 hS_129 dX12_digits_35 ?_
            refine gz_aload_n dX12_digits_38 rfl rfl ?_
            refine mg_541 hS_129 dX12_digits_39 ?_
            refine gz_ev (w := .int ((n_127 88) + 1)) rfl ?_
            refine gz_bipush (v := 48) dX12_digits_42 (by decide) ?_
            refine gz_iload_n dX12_digits_44 rfl rfl ?_
            refine gz_iload_n dX12_digits_45 rfl rfl ?_
            refine gz_idiv dX12_digits_46 (by decide) ?_
            refine gz_bipush (v := 10) dX12_digits_47 (by decide) ?_
            refine gz_irem dX12_digits_49 (by decide) ?_
            refine gz_iadd dX12_digits_50 ?_
            refine gz_i2b dX12_digits_51 ?_
            refine m_bast 87 hS_129 rfl (N := 1000) rfl ((by have q9 := (T_add (rfl : ((n_127 88)).toInt = ((n_127 88)).toInt) (show (1 : Int32).toInt = 1 from rfl) (by omega)); exact vin_T q9 (by omega) (by omega))) dX12_digits_52 (fun f_130 hS_130q => ?_)
            have hS_130 : mS cy m a f0 (va_up n_127 88 ((n_127 88) + 1)) z_127 (va_up (va_up F_127 87 (upd (F_127 87) (Int32.toNatClampNeg (n_127 88)) (vp_nar .byte ((48 + ((x1 / 10000) - (x1 / 10000) / 10 * 10)).toInt8.toInt32)))) 87 (upd (upd (F_127 87) (Int32.toNatClampNeg (n_127 88)) (vp_nar .byte ((48 + ((x1 / 10000) - (x1 / 10000) / 10 * 10)).toInt8.toInt32))) (Int32.toNatClampNeg ((n_127 88) + 1)) (vp_nar .byte ((48 + ((x1 / 1000) - (x1 / 1000) / 10 * 10)).toInt8.toInt32)))) G_127 f_130 := hS_130q
            refine gz_aload_n dX12_digits_53 rfl rfl ?_
            refine gz_dup dX12_digits_54 rfl ?_
            refine mg_541 hS_130 dX12_digits_55 ?_
            refine gz_ev (w := .int ((n_127 88) + 1)) rfl ?_
            refine gz_iconst (v := 1) dX12_digits_58 (by decide) ?_
            refine gz_iadd dX12_digits_59 ?_
            refine mp_541 hS_130 dX12_digits_60 (fun f_131 hS_131 => ?_)
            refine gz_iload_n dX12_digits_63 rfl rfl ?_
            refine gz_bipush (v := 10) dX12_digits_64 (by decide) ?_
            refine gz_idiv dX12_digits_66 (by decide) ?_
            refine gz_ev (w := .int 100) (by decide) ?_
            refine gz_istore_n (lv' := [(2, .int 100), (0, .ref m), (1, .int x1)]) dX12_digits_67 rfl (by decide) rfl ?_
            refine gz_goto (tgt := 17) dX12_digits_68 (by decide) ?_
            refine gz_iload_n dX12_digits_17 rfl rfl ?_
            refine gz_if_le (tgt := 71) dX12_digits_18 (by decide) (fun c_18_121 => ?_) (fun c_18_121 => ?_)
            · exact absurd c_18_121 (by decide)
            ·
              try simp only [mIn_0, lgc_lt, lgc_gt, lgc_le, lgc_ge, lgc_eq] at c_18_121
              try simp only [fl_lt, fl_le, fl_eq, fL_w, fL_lt, fL_le, tm1, tm10k, tm9, tm99, Int32.reduceToInt, Int64.reduceToInt, Int.not_lt, Int.not_le] at c_18_121
              refine gz_iload_n dX12_digits_21 rfl rfl ?_
              refine gz_iload_n dX12_digits_22 rfl rfl ?_
              refine gz_icmp_ge (tgt := 34) dX12_digits_23 (by decide) (fun c_23_122 => ?_) (fun c_23_122 => ?_)
              ·
                try simp only [mIn_0, lgc_lt, lgc_gt, lgc_le, lgc_ge, lgc_eq] at c_23_122
                try simp only [fl_lt, fl_le, fl_eq, fL_w, fL_lt, fL_le, tm1, tm10k, tm9, tm99, Int32.reduceToInt, Int64.reduceToInt, Int.not_lt, Int.not_le] at c_23_122
                refine gz_aload_n dX12_digits_34 rfl rfl ?_
                refine mg_240 hS_131 dX12_digits_35 ?_
                refine gz_aload_n dX12_digits_38 rfl rfl ?_
                refine mg_541 hS_131 dX12_digits_39 ?_
                refine gz_ev (w := .int (((n_127 88) + 1) + 1)) rfl ?_
                refine gz_bipush (v := 48) dX12_digits_42 (by decide) ?_
                refine gz_iload_n dX12_digits_44 rfl rfl ?_
                refine gz_iload_n dX12_digits_45 rfl rfl ?_
                refine gz_idiv dX12_digits_46 (by decide) ?_
                refine gz_bipush (v := 10) dX12_digits_47 (by decide) ?_
                refine gz_irem dX12_digits_49 (by decide) ?_
                refine gz_iadd dX12_digits_50 ?_
                refine gz_i2b dX12_digits_51 ?_
                refine m_bast 87 hS_131 rfl (N := 1000) rfl ((by have q9 := (T_add (T_add (rfl : ((n_127 88)).toInt = ((n_127 88)).toInt) (show (1 : Int32).toInt = 1 from rfl) (by omega)) (show (1 : Int32).toInt = 1 from rfl) (by omega)); exact vin_T q9 (by omega) (by omega))) dX12_digits_52 (fun f_132 hS_132q => ?_)
                have hS_132 : mS cy m a f0 (va_up (va_up n_127 88 ((n_127 88) + 1)) 88 (((n_127 88) + 1) + 1)) z_127 (va_up (va_up (va_up F_127 87 (upd (F_127 87) (Int32.toNatClampNeg (n_127 88)) (vp_nar .byte ((48 + ((x1 / 10000) - (x1 / 10000) / 10 * 10)).toInt8.toInt32)))) 87 (upd (upd (F_127 87) (Int32.toNatClampNeg (n_127 88)) (vp_nar .byte ((48 + ((x1 / 10000) - (x1 / 10000) / 10 * 10)).toInt8.toInt32))) (Int32.toNatClampNeg ((n_127 88) + 1)) (vp_nar .byte ((48 + ((x1 / 1000) - (x1 / 1000) / 10 * 10)).toInt8.toInt32)))) 87 (upd (upd (upd (F_127 87) (Int32.toNatClampNeg (n_127 88)) (vp_nar .byte ((48 + ((x1 / 10000) - (x1 / 10000) / 10 * 10)).toInt8.toInt32))) (Int32.toNatClampNeg ((n_127 88) + 1)) (vp_nar .byte ((48 + ((x1 / 1000) - (x1 / 1000) / 10 * 10)).toInt8.toInt32))) (Int32.toNatClampNeg (((n_127 88) + 1) + 1)) (vp_nar .byte ((48 + ((x1 / 100) - (x1 / 100) / 10 * 10)).toInt8.toInt32)))) G_127 f_132 := hS_132q
                refine gz_aload_n dX12_digits_53 rfl rfl ?_
                refine gz_dup dX12_digits_54 rfl ?_
                refine mg_541 hS_132 dX12_digits_55 ?_
                refine gz_ev (w := .int (((n_127 88) + 1) + 1)) rfl ?_
                refine gz_iconst (v := 1) dX12_digits_58 (by decide) ?_
                refine gz_iadd dX12_digits_59 ?_
                refine mp_541 hS_132 dX12_digits_60 (fun f_133 hS_133 => ?_)
                refine gz_iload_n dX12_digits_63 rfl rfl ?_
                refine gz_bipush (v := 10) dX12_digits_64 (by decide) ?_
                refine gz_idiv dX12_digits_66 (by decide) ?_
                refine gz_ev (w := .int 10) (by decide) ?_
                refine gz_istore_n (lv' := [(2, .int 10), (0, .ref m), (1, .int x1)]) dX12_digits_67 rfl (by decide) rfl ?_
                refine gz_goto (tgt := 17) dX12_digits_68 (by decide) ?_
                refine gz_iload_n dX12_digits_17 rfl rfl ?_
                refine gz_if_le (tgt := 71) dX12_digits_18 (by decide) (fun c_18_123 => ?_) (fun c_18_123 => ?_)
                · exact absurd c_18_123 (by decide)
                ·
                  try simp only [mIn_0, lgc_lt, lgc_gt, lgc_le, lgc_ge, lgc_eq] at c_18_123
                  try simp only [fl_lt, fl_le, fl_eq, fL_w, fL_lt, fL_le, tm1, tm10k, tm9, tm99, Int32.reduceToInt, Int64.reduceToInt, Int.not_lt, Int.not_le] at c_18_123
                  refine gz_iload_n dX12_digits_21 rfl rfl ?_
                  refine gz_iload_n dX12_digits_22 rfl rfl ?_
                  refine gz_icmp_ge (tgt := 34) dX12_digits_23 (by decide) (fun c_23_124 => ?_) (fun c_23_124 => ?_)
                  ·
                    try simp only [mIn_0, lgc_lt, lgc_gt, lgc_le, lgc_ge, lgc_eq] at c_23_124
                    try simp only [fl_lt, fl_le, fl_eq, fL_w, fL_lt, fL_le, tm1, tm10k, tm9, tm99, Int32.reduceToInt, Int64.reduceToInt, Int.not_lt, Int.not_le] at c_23_124
                    refine gz_aload_n dX12_digits_34 rfl rfl ?_
                    refine mg_240 hS_133 dX12_digits_35 ?_
                    refine gz_aload_n dX12_digits_38 rfl rfl ?_
                    refine mg_541 hS_133 dX12_digits_39 ?_
                    refine gz_ev (w := .int ((((n_127 88) + 1) + 1) + 1)) rfl ?_
                    refine gz_bipush (v := 48) dX12_digits_42 (by decide) ?_
                    refine gz_iload_n dX12_digits_44 rfl rfl ?_
                    refine gz_iload_n dX12_digits_45 rfl rfl ?_
                    refine gz_idiv dX12_digits_46 (by decide) ?_
                    refine gz_bipush (v := 10) dX12_digits_47 (by decide) ?_
                    refine gz_irem dX12_digits_49 (by decide) ?_
                    refine gz_iadd dX12_digits_50 ?_
                    refine gz_i2b dX12_digits_51 ?_
                    refine m_bast 87 hS_133 rfl (N := 1000) rfl ((by have q9 := (T_add (T_add (T_add (rfl : ((n_127 88)).toInt = ((n_127 88)).toInt) (show (1 : Int32).toInt = 1 from rfl) (by omega)) (show (1 : Int32).toInt = 1 from rfl) (by omega)) (show (1 : Int32).toInt = 1 from rfl) (by omega)); exact vin_T q9 (by omega) (by omega))) dX12_digits_52 (fun f_134 hS_134q => ?_)
                    have hS_134 : mS cy m a f0 (va_up (va_up (va_up n_127 88 ((n_127 88) + 1)) 88 (((n_127 88) + 1) + 1)) 88 ((((n_127 88) + 1) + 1) + 1)) z_127 (va_up (va_up (va_up (va_up F_127 87 (upd (F_127 87) (Int32.toNatClampNeg (n_127 88)) (vp_nar .byte ((48 + ((x1 / 10000) - (x1 / 10000) / 10 * 10)).toInt8.toInt32)))) 87 (upd (upd (F_127 87) (Int32.toNatClampNeg (n_127 88)) (vp_nar .byte ((48 + ((x1 / 10000) - (x1 / 10000) / 10 * 10)).toInt8.toInt32))) (Int32.toNatClampNeg ((n_127 88) + 1)) (vp_nar .byte ((48 + ((x1 / 1000) - (x1 / 1000) / 10 * 10)).toInt8.toInt32)))) 87 (upd (upd (upd (F_127 87) (Int32.toNatClampNeg (n_127 88)) (vp_nar .byte ((48 + ((x1 / 10000) - (x1 / 10000) / 10 * 10)).toInt8.toInt32))) (Int32.toNatClampNeg ((n_127 88) + 1)) (vp_nar .byte ((48 + ((x1 / 1000) - (x1 / 1000) / 10 * 10)).toInt8.toInt32))) (Int32.toNatClampNeg (((n_127 88) + 1) + 1)) (vp_nar .byte ((48 + ((x1 / 100) - (x1 / 100) / 10 * 10)).toInt8.toInt32)))) 87 (upd (upd (upd (upd (F_127 87) (Int32.toNatClampNeg (n_127 88)) (vp_nar .byte ((48 + ((x1 / 10000) - (x1 / 10000) / 10 * 10)).toInt8.toInt32))) (Int32.toNatClampNeg ((n_127 88) + 1)) (vp_nar .byte ((48 + ((x1 / 1000) - (x1 / 1000) / 10 * 10)).toInt8.toInt32))) (Int32.toNatClampNeg (((n_127 88) + 1) + 1)) (vp_nar .byte ((48 + ((x1 / 100) - (x1 / 100) / 10 * 10)).toInt8.toInt32))) (Int32.toNatClampNeg ((((n_127 88) + 1) + 1) + 1)) (vp_nar .byte ((48 + ((x1 / 10) - (x1 / 10) / 10 * 10)).toInt8.toInt32)))) G_127 f_134 := hS_134q
                    refine gz_aload_n dX12_digits_53 rfl rfl ?_
                    refine gz_dup dX12_digits_54 rfl ?_
                    refine mg_541 hS_134 dX12_digits_55 ?_
                    refine gz_ev (w := .int ((((n_127 88) + 1) + 1) + 1)) rfl ?_
                    refine gz_iconst (v := 1) dX12_digits_58 (by decide) ?_
                    refine gz_iadd dX12_digits_59 ?_
                    refine mp_541 hS_134 dX12_digits_60 (fun f_135 hS_135 => ?_)
                    refine gz_iload_n dX12_digits_63 rfl rfl ?_
                    refine gz_bipush (v := 10) dX12_digits_64 (by decide) ?_
                    refine gz_idiv dX12_digits_66 (by decide) ?_
                    refine gz_ev (w := .int 1) (by decide) ?_
                    refine gz_istore_n (lv' := [(2, .int 1), (0, .ref m), (1, .int x1)]) dX12_digits_67 rfl (by decide) rfl ?_
                    refine gz_goto (tgt := 17) dX12_digits_68 (by decide) ?_
                    refine gz_iload_n dX12_digits_17 rfl rfl ?_
                    refine gz_if_le (tgt := 71) dX12_digits_18 (by decide) (fun c_18_125 => ?_) (fun c_18_125 => ?_)
                    · exact absurd c_18_125 (by decide)
                    ·
                      try simp only [mIn_0, lgc_lt, lgc_gt, lgc_le, lgc_ge, lgc_eq] at c_18_125
                      try simp only [fl_lt, fl_le, fl_eq, fL_w, fL_lt, fL_le, tm1, tm10k, tm9, tm99, Int32.reduceToInt, Int64.reduceToInt, Int.not_lt, Int.not_le] at c_18_125
                      refine gz_iload_n dX12_digits_21 rfl rfl ?_
                      refine gz_iload_n dX12_digits_22 rfl rfl ?_
                      refine gz_icmp_ge (tgt := 34) dX12_digits_23 (by decide) (fun c_23_126 => ?_) (fun c_23_126 => ?_)
                      ·
                        try simp only [mIn_0, lgc_lt, lgc_gt, lgc_le, lgc_ge, lgc_eq] at c_23_126
                        try simp only [fl_lt, fl_le, fl_eq, fL_w, fL_lt, fL_le, tm1, tm10k, tm9, tm99, Int32.reduceToInt, Int64.reduceToInt, Int.not_lt, Int.not_le] at c_23_126
                        refine gz_aload_n dX12_digits_34 rfl rfl ?_
                        refine mg_240 hS_135 dX12_digits_35 ?_
                        refine gz_aload_n dX12_digits_38 rfl rfl ?_
                        refine mg_541 hS_135 dX12_digits_39 ?_
                        refine gz_ev (w := .int (((((n_127 88) + 1) + 1) + 1) + 1)) rfl ?_
                        refine gz_bipush (v := 48) dX12_digits_42 (by decide) ?_
                        refine gz_iload_n dX12_digits_44 rfl rfl ?_
                        refine gz_iload_n dX12_digits_45 rfl rfl ?_
                        refine gz_idiv dX12_digits_46 (by decide) ?_
                        refine gz_bipush (v := 10) dX12_digits_47 (by decide) ?_
                        refine gz_irem dX12_digits_49 (by decide) ?_
                        refine gz_iadd dX12_digits_50 ?_
                        refine gz_i2b dX12_digits_51 ?_
                        refine m_bast 87 hS_135 rfl (N := 1000) rfl ((by have q9 := (T_add (T_add (T_add (T_add (rfl : ((n_127 88)).toInt = ((n_127 88)).toInt) (show (1 : Int32).toInt = 1 from rfl) (by omega)) (show (1 : Int32).toInt = 1 from rfl) (by omega)) (show (1 : Int32).toInt = 1 from rfl) (by omega)) (show (1 : Int32).toInt = 1 from rfl) (by omega)); exact vin_T q9 (by omega) (by omega))) dX12_digits_52 (fun f_136 hS_136q => ?_)
                        have hS_136 : mS cy m a f0 (va_up (va_up (va_up (va_up n_127 88 ((n_127 88) + 1)) 88 (((n_127 88) + 1) + 1)) 88 ((((n_127 88) + 1) + 1) + 1)) 88 (((((n_127 88) + 1) + 1) + 1) + 1)) z_127 (va_up (va_up (va_up (va_up (va_up F_127 87 (upd (F_127 87) (Int32.toNatClampNeg (n_127 88)) (vp_nar .byte ((48 + ((x1 / 10000) - (x1 / 10000) / 10 * 10)).toInt8.toInt32)))) 87 (upd (upd (F_127 87) (Int32.toNatClampNeg (n_127 88)) (vp_nar .byte ((48 + ((x1 / 10000) - (x1 / 10000) / 10 * 10)).toInt8.toInt32))) (Int32.toNatClampNeg ((n_127 88) + 1)) (vp_nar .byte ((48 + ((x1 / 1000) - (x1 / 1000) / 10 * 10)).toInt8.toInt32)))) 87 (upd (upd (upd (F_127 87) (Int32.toNatClampNeg (n_127 88)) (vp_nar .byte ((48 + ((x1 / 10000) - (x1 / 10000) / 10 * 10)).toInt8.toInt32))) (Int32.toNatClampNeg ((n_127 88) + 1)) (vp_nar .byte ((48 + ((x1 / 1000) - (x1 / 1000) / 10 * 10)).toInt8.toInt32))) (Int32.toNatClampNeg (((n_127 88) + 1) + 1)) (vp_nar .byte ((48 + ((x1 / 100) - (x1 / 100) / 10 * 10)).toInt8.toInt32)))) 87 (upd (upd (upd (upd (F_127 87) (Int32.toNatClampNeg (n_127 88)) (vp_nar .byte ((48 + ((x1 / 10000) - (x1 / 10000) / 10 * 10)).toInt8.toInt32))) (Int32.toNatClampNeg ((n_127 88) + 1)) (vp_nar .byte ((48 + ((x1 / 1000) - (x1 / 1000) / 10 * 10)).toInt8.toInt32))) (Int32.toNatClampNeg (((n_127 88) + 1) + 1)) (vp_nar .byte ((48 + ((x1 / 100) - (x1 / 100) / 10 * 10)).toInt8.toInt32))) (Int32.toNatClampNeg ((((n_127 88) + 1) + 1) + 1)) (vp_nar .byte ((48 + ((x1 / 10) - (x1 / 10) / 10 * 10)).toInt8.toInt32)))) 87 (upd (upd (upd (upd (upd (F_127 87) (Int32.toNatClampNeg (n_127 88)) (vp_nar .byte ((48 + ((x1 / 10000) - (x1 / 10000) / 10 * 10)).toInt8.toInt32))) (Int32.toNatClampNeg ((n_127 88) + 1)) (vp_nar .byte ((48 + ((x1 / 1000) - (x1 / 1000) / 10 * 10)).toInt8.toInt32))) (Int32.toNatClampNeg (((n_127 88) + 1) + 1)) (vp_nar .byte ((48 + ((x1 / 100) - (x1 / 100) / 10 * 10)).toInt8.toInt32))) (Int32.toNatClampNeg ((((n_127 88) + 1) + 1) + 1)) (vp_nar .byte ((48 + ((x1 / 10) - (x1 / 10) / 10 * 10)).toInt8.toInt32))) (Int32.toNatClampNeg (((((n_127 88) + 1) + 1) + 1) + 1)) (vp_nar .byte ((48 + ((x1 / 1) - (x1 / 1) / 10 * 10)).toInt8.toInt32)))) G_127 f_136 := hS_136q
                        refine gz_aload_n dX12_digits_53 rfl rfl ?_
                        refine gz_dup dX12_digits_54 rfl ?_
                        refine mg_541 hS_136 dX12_digits_55 ?_
                        refine gz_ev (w := .int (((((n_127 88) + 1) + 1) + 1) + 1)) rfl ?_
                        refine gz_iconst (v := 1) dX12_digits_58 (by decide) ?_
                        refine gz_iadd dX12_digits_59 ?_
                        refine mp_541 hS_136 dX12_digits_60 (fun f_137 hS_137 => ?_)
                        refine gz_iload_n dX12_digits_63 rfl rfl ?_
                        refine gz_bipush (v := 10) dX12_digits_64 (by decide) ?_
                        refine gz_idiv dX12_digits_66 (by decide) ?_
                        refine gz_ev (w := .int 0) (by decide) ?_
                        refine gz_istore_n (lv' := [(2, .int 0), (0, .ref m), (1, .int x1)]) dX12_digits_67 rfl (by decide) rfl ?_
                        refine gz_goto (tgt := 17) dX12_digits_68 (by decide) ?_
                        refine gz_iload_n dX12_digits_17 rfl rfl ?_
                        refine gz_if_le (tgt := 71) dX12_digits_18 (by decide) (fun c_18_127 => ?_) (fun c_18_127 => ?_)
                        ·
                          try simp only [mIn_0, lgc_lt, lgc_gt, lgc_le, lgc_ge, lgc_eq] at c_18_127
                          try simp only [fl_lt, fl_le, fl_eq, fL_w, fL_lt, fL_le, tm1, tm10k, tm9, tm99, Int32.reduceToInt, Int64.reduceToInt, Int.not_lt, Int.not_le] at c_18_127
                          refine gz_aload_n dX12_digits_71 rfl rfl ?_
                          refine gz_iconst (v := 1) dX12_digits_72 (by decide) ?_
                          refine mp_544 hS_137 ⟨rfl, rfl⟩ dX12_digits_73 (fun f_138 hS_138 => ?_)
                          exact gz_vret rfl dX12_digits_76 (Nat.le_of_ble_eq_true rfl) (Nat.le_of_ble_eq_true rfl) (⟨rfl, _, _, _, _, hS_138, (fx_n (fx_n (fx_F (fx_n (fx_F (fx_n (fx_F (fx_n (fx_F (fx_n (fx_F (fx_tr fx_rf hx127 (by decide)) (by decide)) (by decide)) (by decide)) (by decide)) (by decide)) (by decide)) (by decide)) (by decide)) (by decide)) (by decide)) (by decide)), (by (try rw [(show (va_up (va_up (va_up (va_up (va_up (va_up n_127 88 ((n_127 88) + 1)) 88 (((n_127 88) + 1) + 1)) 88 ((((n_127 88) + 1) + 1) + 1)) 88 (((((n_127 88) + 1) + 1) + 1) + 1)) 88 ((((((n_127 88) + 1) + 1) + 1) + 1) + 1)) 89 1) 88 = ((((((n_127 88) + 1) + 1) + 1) + 1) + 1) from rfl)]); have q1_ := (T_add (T_add (T_add (T_add (T_add (rfl : ((n_127 88)).toInt = ((n_127 88)).toInt) (show (1 : Int32).toInt = 1 from rfl) (by omega)) (show (1 : Int32).toInt = 1 from rfl) (by omega)) (show (1 : Int32).toInt = 1 from rfl) (by omega)) (show (1 : Int32).toInt = 1 from rfl) (by omega)) (show (1 : Int32).toInt = 1 from rfl) (by omega)); omega), (by (try rw [(show (va_up (va_up (va_up (va_up (va_up (va_up n_127 88 ((n_127 88) + 1)) 88 (((n_127 88) + 1) + 1)) 88 ((((n_127 88) + 1) + 1) + 1)) 88 (((((n_127 88) + 1) + 1) + 1) + 1)) 88 ((((((n_127 88) + 1) + 1) + 1) + 1) + 1)) 89 1) 88 = ((((((n_127 88) + 1) + 1) + 1) + 1) + 1) from rfl)]); have q1_ := (T_add (T_add (T_add (T_add (T_add (rfl : ((n_127 88)).toInt = ((n_127 88)).toInt) (show (1 : Int32).toInt = 1 from rfl) (by omega)) (show (1 : Int32).toInt = 1 from rfl) (by omega)) (show (1 : Int32).toInt = 1 from rfl) (by omega)) (show (1 : Int32).toInt = 1 from rfl) (by omega)) (show (1 : Int32).toInt = 1 from rfl) (by omega)); omega)⟩)
                        · exact absurd c_18_127 (by decide)
                      ·
                        try simp only [mIn_0, lgc_lt, lgc_gt, lgc_le, lgc_ge, lgc_eq] at c_23_126
                        try simp only [fl_lt, fl_le, fl_eq, fL_w, fL_lt, fL_le, tm1, tm10k, tm9, tm99, Int32.reduceToInt, Int64.reduceToInt, Int.not_lt, Int.not_le] at c_23_126
                        refine gz_iload_n dX12_digits_26 rfl rfl ?_
                        refine gz_iconst (v := 1) dX12_digits_27 (by decide) ?_
                        refine gz_icmp_le (tgt := 34) dX12_digits_28 (by decide) (fun c_28 => ?_) (fun c_28 => ?_)
                        ·
                          try simp only [mIn_0, lgc_lt, lgc_gt, lgc_le, lgc_ge, lgc_eq] at c_28
                          try simp only [fl_lt, fl_le, fl_eq, fL_w, fL_lt, fL_le, tm1, tm10k, tm9, tm99, Int32.reduceToInt, Int64.reduceToInt, Int.not_lt, Int.not_le] at c_28
                          refine gz_aload_n dX12_digits_34 rfl rfl ?_
                          refine mg_240 hS_135 dX12_digits_35 ?_
                          refine gz_aload_n dX12_digits_38 rfl rfl ?_
                          refine mg_541 hS_135 dX12_digits_39 ?_
                          refine gz_ev (w := .int (((((n_127 88) + 1) + 1) + 1) + 1)) rfl ?_
                          refine gz_bipush (v := 48) dX12_digits_42 (by decide) ?_
                          refine gz_iload_n dX12_digits_44 rfl rfl ?_
                          refine gz_iload_n dX12_digits_45 rfl rfl ?_
                          refine gz_idiv dX12_digits_46 (by decide) ?_
                          refine gz_bipush (v := 10) dX12_digits_47 (by decide) ?_
                          refine gz_irem dX12_digits_49 (by decide) ?_
                          refine gz_iadd dX12_digits_50 ?_
                          refine gz_i2b dX12_digits_51 ?_
                          refine m_bast 87 hS_135 rfl (N := 1000) rfl ((by have q9 := (T_add (T_add (T_add (T_add (rfl : ((n_127 88)).toInt = ((n_127 88)).toInt) (show (1 : Int32).toInt = 1 from rfl) (by omega)) (show (1 : Int32).toInt = 1 from rfl) (by omega)) (show (1 : Int32).toInt = 1 from rfl) (by omega)) (show (1 : Int32).toInt = 1 from rfl) (by omega)); exact vin_T q9 (by omega) (by omega))) dX12_digits_52 (fun f_139 hS_139q => ?_)
                          have hS_139 : mS cy m a f0 (va_up (va_up (va_up (va_up n_127 88 ((n_127 88) + 1)) 88 (((n_127 88) + 1) + 1)) 88 ((((n_127 88) + 1) + 1) + 1)) 88 (((((n_127 88) + 1) + 1) + 1) + 1)) z_127 (va_up (va_up (va_up (va_up (va_up F_127 87 (upd (F_127 87) (Int32.toNatClampNeg (n_127 88)) (vp_nar .byte ((48 + ((x1 / 10000) - (x1 / 10000) / 10 * 10)).toInt8.toInt32)))) 87 (upd (upd (F_127 87) (Int32.toNatClampNeg (n_127 88)) (vp_nar .byte ((48 + ((x1 / 10000) - (x1 / 10000) / 10 * 10)).toInt8.toInt32))) (Int32.toNatClampNeg ((n_127 88) + 1)) (vp_nar .byte ((48 + ((x1 / 1000) - (x1 / 1000) / 10 * 10)).toInt8.toInt32)))) 87 (upd (upd (upd (F_127 87) (Int32.toNatClampNeg (n_127 88)) (vp_nar .byte ((48 + ((x1 / 10000) - (x1 / 10000) / 10 * 10)).toInt8.toInt32))) (Int32.toNatClampNeg ((n_127 88) + 1)) (vp_nar .byte ((48 + ((x1 / 1000) - (x1 / 1000) / 10 * 10)).toInt8.toInt32))) (Int32.toNatClampNeg (((n_127 88) + 1) + 1)) (vp_nar .byte ((48 + ((x1 / 100) - (x1 / 100) / 10 * 10)).toInt8.toInt32)))) 87 (upd (upd (upd (upd (F_127 87) (Int32.toNatClampNeg (n_127 88)) (vp_nar .byte ((48 + ((x1 / 10000) - (x1 / 10000) / 10 * 10)).toInt8.toInt32))) (Int32.toNatClampNeg ((n_127 88) + 1)) (vp_nar .byte ((48 + ((x1 / 1000) - (x1 / 1000) / 10 * 10)).toInt8.toInt32))) (Int32.toNatClampNeg (((n_127 88) + 1) + 1)) (vp_nar .byte ((48 + ((x1 / 100) - (x1 / 100) / 10 * 10)).toInt8.toInt32))) (Int32.toNatClampNeg ((((n_127 88) + 1) + 1) + 1)) (vp_nar .byte ((48 + ((x1 / 10) - (x1 / 10) / 10 * 10)).toInt8.toInt32)))) 87 (upd (upd (upd (upd (upd (F_127 87) (Int32.toNatClampNeg (n_127 88)) (vp_nar .byte ((48 + ((x1 / 10000) - (x1 / 10000) / 10 * 10)).toInt8.toInt32))) (Int32.toNatClampNeg ((n_127 88) + 1)) (vp_nar .byte ((48 + ((x1 / 1000) - (x1 / 1000) / 10 * 10)).toInt8.toInt32))) (Int32.toNatClampNeg (((n_127 88) + 1) + 1)) (vp_nar .byte ((48 + ((x1 / 100) - (x1 / 100) / 10 * 10)).toInt8.toInt32))) (Int32.toNatClampNeg ((((n_127 88) + 1) + 1) + 1)) (vp_nar .byte ((48 + ((x1 / 10) - (x1 / 10) / 10 * 10)).toInt8.toInt32))) (Int32.toNatClampNeg (((((n_127 88) + 1) + 1) + 1) + 1)) (vp_nar .byte ((48 + ((x1 / 1) - (x1 / 1) / 10 * 10)).toInt8.toInt32)))) G_127 f_139 := hS_139q
                          refine gz_aload_n dX12_digits_53 rfl rfl ?_
                          refine gz_dup dX12_digits_54 rfl ?_
                          refine mg_541 hS_139 dX12_digits_55 ?_
                          refine gz_ev (w := .int (((((n_127 88) + 1) + 1) + 1) + 1)) rfl ?_
                          refine gz_iconst (v := 1) dX12_digits_58 (by decide) ?_
                          refine gz_iadd dX12_digits_59 ?_
                          refine mp_541 hS_139 dX12_digits_60 (fun f_140 hS_140 => ?_)
                          refine gz_iload_n dX12_digits_63 rfl rfl ?_
                          refine gz_bipush (v := 10) dX12_digits_64 (by decide) ?_
                          refine gz_idiv dX12_digits_66 (by decide) ?_
                          refine gz_ev (w := .int 0) (by decide) ?_
                          refine gz_istore_n (lv' := [(2, .int 0), (0, .ref m), (1, .int x1)]) dX12_digits_67 rfl (by decide) rfl ?_
                          refine gz_goto (tgt := 17) dX12_digits_68 (by decide) ?_
                          refine gz_iload_n dX12_digits_17 rfl rfl ?_
                          refine gz_if_le (tgt := 71) dX12_digits_18 (by decide) (fun c_18_128 => ?_) (fun c_18_128 => ?_)
                          ·
                            try simp only [mIn_0, lgc_lt, lgc_gt, lgc_le, lgc_ge, lgc_eq] at c_18_128
                            try simp only [fl_lt, fl_le, fl_eq, fL_w, fL_lt, fL_le, tm1, tm10k, tm9, tm99, Int32.reduceToInt, Int64.reduceToInt, Int.not_lt, Int.not_le] at c_18_128
                            refine gz_aload_n dX12_digits_71 rfl rfl ?_
                            refine gz_iconst (v := 1) dX12_digits_72 (by decide) ?_
                            refine mp_544 hS_140 ⟨rfl, rfl⟩ dX12_digits_73 (fun f_141 hS_141 => ?_)
                            exact gz_vret rfl dX12_digits_76 (Nat.le_of_ble_eq_true rfl) (Nat.le_of_ble_eq_true rfl) (⟨rfl, _, _, _, _, hS_141, (fx_n (fx_n (fx_F (fx_n (fx_F (fx_n (fx_F (fx_n (fx_F (fx_n (fx_F (fx_tr fx_rf hx127 (by decide)) (by decide)) (by decide)) (by decide)) (by decide)) (by decide)) (by decide)) (by decide)) (by decide)) (by decide)) (by decide)) (by decide)), (by (try rw [(show (va_up (va_up (va_up (va_up (va_up (va_up n_127 88 ((n_127 88) + 1)) 88 (((n_127 88) + 1) + 1)) 88 ((((n_127 88) + 1) + 1) + 1)) 88 (((((n_127 88) + 1) + 1) + 1) + 1)) 88 ((((((n_127 88) + 1) + 1) + 1) + 1) + 1)) 89 1) 88 = ((((((n_127 88) + 1) + 1) + 1) + 1) + 1) from rfl)]); have q1_ := (T_add (T_add (T_add (T_add (T_add (rfl : ((n_127 88)).toInt = ((n_127 88)).toInt) (show (1 : Int32).toInt = 1 from rfl) (by omega)) (show (1 : Int32).toInt = 1 from rfl) (by omega)) (show (1 : Int32).toInt = 1 from rfl) (by omega)) (show (1 : Int32).toInt = 1 from rfl) (by omega)) (show (1 : Int32).toInt = 1 from rfl) (by omega)); omega), (by (try rw [(show (va_up (va_up (va_up (va_up (va_up (va_up n_127 88 ((n_127 88) + 1)) 88 (((n_127 88) + 1) + 1)) 88 ((((n_127 88) + 1) + 1) + 1)) 88 (((((n_127 88) + 1) + 1) + 1) + 1)) 88 ((((((n_127 88) + 1) + 1) + 1) + 1) + 1)) 89 1) 88 = ((((((n_127 88) + 1) + 1) + 1) + 1) + 1) from rfl)]); have q1_ := (T_add (T_add (T_add (T_add (T_add (rfl : ((n_127 88)).toInt = ((n_127 88)).toInt) (show (1 : Int32).toInt = 1 from rfl) (by omega)) (show (1 : Int32).toInt = 1 from rfl) (by omega)) (show (1 : Int32).toInt = 1 from rfl) (by omega)) (show (1 : Int32).toInt = 1 from rfl) (by omega)) (show (1 : Int32).toInt = 1 from rfl) (by omega)); omega)⟩)
                          · exact absurd c_18_128 (by decide)
                        · exact absurd c_28 (by decide)
                  ·
                    try simp only [mIn_0, lgc_lt, lgc_gt, lgc_le, lgc_ge, lgc_eq] at c_23_124
                    try simp only [fl_lt, fl_le, fl_eq, fL_w, fL_lt, fL_le, tm1, tm10k, tm9, tm99, Int32.reduceToInt, Int64.reduceToInt, Int.not_lt, Int.not_le] at c_23_124
                    refine gz_iload_n dX12_digits_26 rfl rfl ?_
                    refine gz_iconst (v := 1) dX12_digits_27 (by decide) ?_
                    refine gz_icmp_le (tgt := 34) dX12_digits_28 (by decide) (fun c_28 => ?_) (fun c_28 => ?_)
                    · exact absurd c_28 (by decide)
                    ·
                      try simp only [mIn_0, lgc_lt, lgc_gt, lgc_le, lgc_ge, lgc_eq] at c_28
                      try simp only [fl_lt, fl_le, fl_eq, fL_w, fL_lt, fL_le, tm1, tm10k, tm9, tm99, Int32.reduceToInt, Int64.reduceToInt, Int.not_lt, Int.not_le] at c_28
                      refine gz_goto (tgt := 63) dX12_digits_31 (by decide) ?_
                      refine gz_iload_n dX12_digits_63 rfl rfl ?_
                      refine gz_bipush (v := 10) dX12_digits_64 (by decide) ?_
                      refine gz_idiv dX12_digits_66 (by decide) ?_
                      refine gz_ev (w := .int 1) (by decide) ?_
                      refine gz_istore_n (lv' := [(2, .int 1), (0, .ref m), (1, .int x1)]) dX12_digits_67 rfl (by decide) rfl ?_
                      refine gz_goto (tgt := 17) dX12_digits_68 (by decide) ?_
                      refine gz_iload_n dX12_digits_17 rfl rfl ?_
                      refine gz_if_le (tgt := 71) dX12_digits_18 (by decide) (fun c_18_129 => ?_) (fun c_18_129 => ?_)
                      · exact absurd c_18_129 (by decide)
                      ·
                        try simp only [mIn_0, lgc_lt, lgc_gt, lgc_le, lgc_ge, lgc_eq] at c_18_129
                        try simp only [fl_lt, fl_le, fl_eq, fL_w, fL_lt, fL_le, tm1, tm10k, tm9, tm99, Int32.reduceToInt, Int64.reduceToInt, Int.not_lt, Int.not_le] at c_18_129
                        refine gz_iload_n dX12_digits_21 rfl rfl ?_
                        refine gz_iload_n dX12_digits_22 rfl rfl ?_
                        refine gz_icmp_ge (tgt := 34) dX12_digits_23 (by decide) (fun c_23_130 => ?_) (fun c_23_130 => ?_)
                        ·
                          try simp only [mIn_0, lgc_lt, lgc_gt, lgc_le, lgc_ge, lgc_eq] at c_23_130
                          try simp only [fl_lt, fl_le, fl_eq, fL_w, fL_lt, fL_le, tm1, tm10k, tm9, tm99, Int32.reduceToInt, Int64.reduceToInt, Int.not_lt, Int.not_le] at c_23_130
                          refine gz_aload_n dX12_digits_34 rfl rfl ?_
                          refine mg_240 hS_133 dX12_digits_35 ?_
                          refine gz_aload_n dX12_digits_38 rfl rfl ?_
                          refine mg_541 hS_133 dX12_digits_39 ?_
                          refine gz_ev (w := .int ((((n_127 88) + 1) + 1) + 1)) rfl ?_
                          refine gz_bipush (v := 48) dX12_digits_42 (by decide) ?_
                          refine gz_iload_n dX12_digits_44 rfl rfl ?_
                          refine gz_iload_n dX12_digits_45 rfl rfl ?_
                          refine gz_idiv dX12_digits_46 (by decide) ?_
                          refine gz_bipush (v := 10) dX12_digits_47 (by decide) ?_
                          refine gz_irem dX12_digits_49 (by decide) ?_
                          refine gz_iadd dX12_digits_50 ?_
                          refine gz_i2b dX12_digits_51 ?_
                          refine m_bast 87 hS_133 rfl (N := 1000) rfl ((by have q9 := (T_add (T_add (T_add (rfl : ((n_127 88)).toInt = ((n_127 88)).toInt) (show (1 : Int32).toInt = 1 from rfl) (by omega)) (show (1 : Int32).toInt = 1 from rfl) (by omega)) (show (1 : Int32).toInt = 1 from rfl) (by omega)); exact vin_T q9 (by omega) (by omega))) dX12_digits_52 (fun f_142 hS_142q => ?_)
                          have hS_142 : mS cy m a f0 (va_up (va_up (va_up n_127 88 ((n_127 88) + 1)) 88 (((n_127 88) + 1) + 1)) 88 ((((n_127 88) + 1) + 1) + 1)) z_127 (va_up (va_up (va_up (va_up F_127 87 (upd (F_127 87) (Int32.toNatClampNeg (n_127 88)) (vp_nar .byte ((48 + ((x1 / 10000) - (x1 / 10000) / 10 * 10)).toInt8.toInt32)))) 87 (upd (upd (F_127 87) (Int32.toNatClampNeg (n_127 88)) (vp_nar .byte ((48 + ((x1 / 10000) - (x1 / 10000) / 10 * 10)).toInt8.toInt32))) (Int32.toNatClampNeg ((n_127 88) + 1)) (vp_nar .byte ((48 + ((x1 / 1000) - (x1 / 1000) / 10 * 10)).toInt8.toInt32)))) 87 (upd (upd (upd (F_127 87) (Int32.toNatClampNeg (n_127 88)) (vp_nar .byte ((48 + ((x1 / 10000) - (x1 / 10000) / 10 * 10)).toInt8.toInt32))) (Int32.toNatClampNeg ((n_127 88) + 1)) (vp_nar .byte ((48 + ((x1 / 1000) - (x1 / 1000) / 10 * 10)).toInt8.toInt32))) (Int32.toNatClampNeg (((n_127 88) + 1) + 1)) (vp_nar .byte ((48 + ((x1 / 100) - (x1 / 100) / 10 * 10)).toInt8.toInt32)))) 87 (upd (upd (upd (upd (F_127 87) (Int32.toNatClampNeg (n_127 88)) (vp_nar .byte ((48 + ((x1 / 10000) - (x1 / 10000) / 10 * 10)).toInt8.toInt32))) (Int32.toNatClampNeg ((n_127 88) + 1)) (vp_nar .byte ((48 + ((x1 / 1000) - (x1 / 1000) / 10 * 10)).toInt8.toInt32))) (Int32.toNatClampNeg (((n_127 88) + 1) + 1)) (vp_nar .byte ((48 + ((x1 / 100) - (x1 / 100) / 10 * 10)).toInt8.toInt32))) (Int32.toNatClampNeg ((((n_127 88) + 1) + 1) + 1)) (vp_nar .byte ((48 + ((x1 / 1) - (x1 / 1) / 10 * 10)).toInt8.toInt32)))) G_127 f_142 := hS_142q
                          refine gz_aload_n dX12_digits_53 rfl rfl ?_
                          refine gz_dup dX12_digits_54 rfl ?_
                          refine mg_541 hS_142 dX12_digits_55 ?_
                          refine gz_ev (w := .int ((((n_127 88) + 1) + 1) + 1)) rfl ?_
                          refine gz_iconst (v := 1) dX12_digits_58 (by decide) ?_
                          refine gz_iadd dX12_digits_59 ?_
                          refine mp_541 hS_142 dX12_digits_60 (fun f_143 hS_143 => ?_)
                          refine gz_iload_n dX12_digits_63 rfl rfl ?_
                          refine gz_bipush (v := 10) dX12_digits_64 (by decide) ?_
                          refine gz_idiv dX12_digits_66 (by decide) ?_
                          refine gz_ev (w := .int 0) (by decide) ?_
                          refine gz_istore_n (lv' := [(2, .int 0), (0, .ref m), (1, .int x1)]) dX12_digits_67 rfl (by decide) rfl ?_
                          refine gz_goto (tgt := 17) dX12_digits_68 (by decide) ?_
                          refine gz_iload_n dX12_digits_17 rfl rfl ?_
                          refine gz_if_le (tgt := 71) dX12_digits_18 (by decide) (fun c_18_131 => ?_) (fun c_18_131 => ?_)
                          ·
                            try simp only [mIn_0, lgc_lt, lgc_gt, lgc_le, lgc_ge, lgc_eq] at c_18_131
                            try simp only [fl_lt, fl_le, fl_eq, fL_w, fL_lt, fL_le, tm1, tm10k, tm9, tm99, Int32.reduceToInt, Int64.reduceToInt, Int.not_lt, Int.not_le] at c_18_131
                            refine gz_aload_n dX12_digits_71 rfl rfl ?_
                            refine gz_iconst (v := 1) dX12_digits_72 (by decide) ?_
                            refine mp_544 hS_143 ⟨rfl, rfl⟩ dX12_digits_73 (fun f_144 hS_144 => ?_)
                            exact gz_vret rfl dX12_digits_76 (Nat.le_of_ble_eq_true rfl) (Nat.le_of_ble_eq_true rfl) (⟨rfl, _, _, _, _, hS_144, (fx_n (fx_n (fx_F (fx_n (fx_F (fx_n (fx_F (fx_n (fx_F (fx_tr fx_rf hx127 (by decide)) (by decide)) (by decide)) (by decide)) (by decide)) (by decide)) (by decide)) (by decide)) (by decide)) (by decide)), (by (try rw [(show (va_up (va_up (va_up (va_up (va_up n_127 88 ((n_127 88) + 1)) 88 (((n_127 88) + 1) + 1)) 88 ((((n_127 88) + 1) + 1) + 1)) 88 (((((n_127 88) + 1) + 1) + 1) + 1)) 89 1) 88 = (((((n_127 88) + 1) + 1) + 1) + 1) from rfl)]); have q1_ := (T_add (T_add (T_add (T_add (rfl : ((n_127 88)).toInt = ((n_127 88)).toInt) (show (1 : Int32).toInt = 1 from rfl) (by omega)) (show (1 : Int32).toInt = 1 from rfl) (by omega)) (show (1 : Int32).toInt = 1 from rfl) (by omega)) (show (1 : Int32).toInt = 1 from rfl) (by omega)); omega), (by (try rw [(show (va_up (va_up (va_up (va_up (va_up n_127 88 ((n_127 88) + 1)) 88 (((n_127 88) + 1) + 1)) 88 ((((n_127 88) + 1) + 1) + 1)) 88 (((((n_127 88) + 1) + 1) + 1) + 1)) 89 1) 88 = (((((n_127 88) + 1) + 1) + 1) + 1) from rfl)]); have q1_ := (T_add (T_add (T_add (T_add (rfl : ((n_127 88)).toInt = ((n_127 88)).toInt) (show (1 : Int32).toInt = 1 from rfl) (by omega)) (show (1 : Int32).toInt = 1 from rfl) (by omega)) (show (1 : Int32).toInt = 1 from rfl) (by omega)) (show (1 : Int32).toInt = 1 from rfl) (by omega)); omega)⟩)
                          · exact absurd c_18_131 (by decide)
                        ·
                          try simp only [mIn_0, lgc_lt, lgc_gt, lgc_le, lgc_ge, lgc_eq] at c_23_130
                          try simp only [fl_lt, fl_le, fl_eq, fL_w, fL_lt, fL_le, tm1, tm10k, tm9, tm99, Int32.reduceToInt, Int64.reduceToInt, Int.not_lt, Int.not_le] at c_23_130
                          refine gz_iload_n dX12_digits_26 rfl rfl ?_
                          refine gz_iconst (v := 1) dX12_digits_27 (by decide) ?_
                          refine gz_icmp_le (tgt := 34) dX12_digits_28 (by decide) (fun c_28_132 => ?_) (fun c_28_132 => ?_)
                          ·
                            try simp only [mIn_0, lgc_lt, lgc_gt, lgc_le, lgc_ge, lgc_eq] at c_28_132
                            try simp only [fl_lt, fl_le, fl_eq, fL_w, fL_lt, fL_le, tm1, tm10k, tm9, tm99, Int32.reduceToInt, Int64.reduceToInt, Int.not_lt, Int.not_le] at c_28_132
                            refine gz_aload_n dX12_digits_34 rfl rfl ?_
                            refine mg_240 hS_133 dX12_digits_35 ?_
                            refine gz_aload_n dX12_digits_38 rfl rfl ?_
                            refine mg_541 hS_133 dX12_digits_39 ?_
                            refine gz_ev (w := .int ((((n_127 88) + 1) + 1) + 1)) rfl ?_
                            refine gz_bipush (v := 48) dX12_digits_42 (by decide) ?_
                            refine gz_iload_n dX12_digits_44 rfl rfl ?_
                            refine gz_iload_n dX12_digits_45 rfl rfl ?_
                            refine gz_idiv dX12_digits_46 (by decide) ?_
                            refine gz_bipush (v := 10) dX12_digits_47 (by decide) ?_
                            refine gz_irem dX12_digits_49 (by decide) ?_
                            refine gz_iadd dX12_digits_50 ?_
                            refine gz_i2b dX12_digits_51 ?_
                            refine m_bast 87 hS_133 rfl (N := 1000) rfl ((by have q9 := (T_add (T_add (T_add (rfl : ((n_127 88)).toInt = ((n_127 88)).toInt) (show (1 : Int32).toInt = 1 from rfl) (by omega)) (show (1 : Int32).toInt = 1 from rfl) (by omega)) (show (1 : Int32).toInt = 1 from rfl) (by omega)); exact vin_T q9 (by omega) (by omega))) dX12_digits_52 (fun f_145 hS_145q => ?_)
                            have hS_145 : mS cy m a f0 (va_up (va_up (va_up n_127 88 ((n_127 88) + 1)) 88 (((n_127 88) + 1) + 1)) 88 ((((n_127 88) + 1) + 1) + 1)) z_127 (va_up (va_up (va_up (va_up F_127 87 (upd (F_127 87) (Int32.toNatClampNeg (n_127 88)) (vp_nar .byte ((48 + ((x1 / 10000) - (x1 / 10000) / 10 * 10)).toInt8.toInt32)))) 87 (upd (upd (F_127 87) (Int32.toNatClampNeg (n_127 88)) (vp_nar .byte ((48 + ((x1 / 10000) - (x1 / 10000) / 10 * 10)).toInt8.toInt32))) (Int32.toNatClampNeg ((n_127 88) + 1)) (vp_nar .byte ((48 + ((x1 / 1000) - (x1 / 1000) / 10 * 10)).toInt8.toInt32)))) 87 (upd (upd (upd (F_127 87) (Int32.toNatClampNeg (n_127 88)) (vp_nar .byte ((48 + ((x1 / 10000) - (x1 / 10000) / 10 * 10)).toInt8.toInt32))) (Int32.toNatClampNeg ((n_127 88) + 1)) (vp_nar .byte ((48 + ((x1 / 1000) - (x1 / 1000) / 10 * 10)).toInt8.toInt32))) (Int32.toNatClampNeg (((n_127 88) + 1) + 1)) (vp_nar .byte ((48 + ((x1 / 100) - (x1 / 100) / 10 * 10)).toInt8.toInt32)))) 87 (upd (upd (upd (upd (F_127 87) (Int32.toNatClampNeg (n_127 88)) (vp_nar .byte ((48 + ((x1 / 10000) - (x1 / 10000) / 10 * 10)).toInt8.toInt32))) (Int32.toNatClampNeg ((n_127 88) + 1)) (vp_nar .byte ((48 + ((x1 / 1000) - (x1 / 1000) / 10 * 10)).toInt8.toInt32))) (Int32.toNatClampNeg (((n_127 88) + 1) + 1)) (vp_nar .byte ((48 + ((x1 / 100) - (x1 / 100) / 10 * 10)).toInt8.toInt32))) (Int32.toNatClampNeg ((((n_127 88) + 1) + 1) + 1)) (vp_nar .byte ((48 + ((x1 / 1) - (x1 / 1) / 10 * 10)).toInt8.toInt32)))) G_127 f_145 := hS_145q
                            refine gz_aload_n dX12_digits_53 rfl rfl ?_
                            refine gz_dup dX12_digits_54 rfl ?_
                            refine mg_541 hS_145 dX12_digits_55 ?_
                            refine gz_ev (w := .int ((((n_127 88) + 1) + 1) + 1)) rfl ?_
                            refine gz_iconst (v := 1) dX12_digits_58 (by decide) ?_
                            refine gz_iadd dX12_digits_59 ?_
                            refine mp_541 hS_145 dX12_digits_60 (fun f_146 hS_146 => ?_)
                            refine gz_iload_n dX12_digits_63 rfl rfl ?_
                            refine gz_bipush (v := 10) dX12_digits_64 (by decide) ?_
                            refine gz_idiv dX12_digits_66 (by decide) ?_
                            refine gz_ev (w := .int 0) (by decide) ?_
                            refine gz_istore_n (lv' := [(2, .int 0), (0, .ref m), (1, .int x1)]) dX12_digits_67 rfl (by decide) rfl ?_
                            refine gz_goto (tgt := 17) dX12_digits_68 (by decide) ?_
                            refine gz_iload_n dX12_digits_17 rfl rfl ?_
                            refine gz_if_le (tgt := 71) dX12_digits_18 (by decide) (fun c_18_133 => ?_) (fun c_18_133 => ?_)
                            ·
                              try simp only [mIn_0, lgc_lt, lgc_gt, lgc_le, lgc_ge, lgc_eq] at c_18_133
                              try simp only [fl_lt, fl_le, fl_eq, fL_w, fL_lt, fL_le, tm1, tm10k, tm9, tm99, Int32.reduceToInt, Int64.reduceToInt, Int.not_lt, Int.not_le] at c_18_133
                              refine gz_aload_n dX12_digits_71 rfl rfl ?_
                              refine gz_iconst (v := 1) dX12_digits_72 (by decide) ?_
                              refine mp_544 hS_146 ⟨rfl, rfl⟩ dX12_digits_73 (fun f_147 hS_147 => ?_)
                              exact gz_vret rfl dX12_digits_76 (Nat.le_of_ble_eq_true rfl) (Nat.le_of_ble_eq_true rfl) (⟨rfl, _, _, _, _, hS_147, (fx_n (fx_n (fx_F (fx_n (fx_F (fx_n (fx_F (fx_n (fx_F (fx_tr fx_rf hx127 (by decide)) (by decide)) (by decide)) (by decide)) (by decide)) (by decide)) (by decide)) (by decide)) (by decide)) (by decide)), (by (try rw [(show (va_up (va_up (va_up (va_up (va_up n_127 88 ((n_127 88) + 1)) 88 (((n_127 88) + 1) + 1)) 88 ((((n_127 88) + 1) + 1) + 1)) 88 (((((n_127 88) + 1) + 1) + 1) + 1)) 89 1) 88 = (((((n_127 88) + 1) + 1) + 1) + 1) from rfl)]); have q1_ := (T_add (T_add (T_add (T_add (rfl : ((n_127 88)).toInt = ((n_127 88)).toInt) (show (1 : Int32).toInt = 1 from rfl) (by omega)) (show (1 : Int32).toInt = 1 from rfl) (by omega)) (show (1 : Int32).toInt = 1 from rfl) (by omega)) (show (1 : Int32).toInt = 1 from rfl) (by omega)); omega), (by (try rw [(show (va_up (va_up (va_up (va_up (va_up n_127 88 ((n_127 88) + 1)) 88 (((n_127 88) + 1) + 1)) 88 ((((n_127 88) + 1) + 1) + 1)) 88 (((((n_127 88) + 1) + 1) + 1) + 1)) 89 1) 88 = (((((n_127 88) + 1) + 1) + 1) + 1) from rfl)]); have q1_ := (T_add (T_add (T_add (T_add (rfl : ((n_127 88)).toInt = ((n_127 88)).toInt) (show (1 : Int32).toInt = 1 from rfl) (by omega)) (show (1 : Int32).toInt = 1 from rfl) (by omega)) (show (1 : Int32).toInt = 1 from rfl) (by omega)) (show (1 : Int32).toInt = 1 from rfl) (by omega)); omega)⟩)
                            · exact absurd c_18_133 (by decide)
                          · exact absurd c_28_132 (by decide)
              ·
                try simp only [mIn_0, lgc_lt, lgc_gt, lgc_le, lgc_ge, lgc_eq] at c_23_122
                try simp only [fl_lt, fl_le, fl_eq, fL_w, fL_lt, fL_le, tm1, tm10k, tm9, tm99, Int32.reduceToInt, Int64.reduceToInt, Int.not_lt, Int.not_le] at c_23_122
                refine gz_iload_n dX12_digits_26 rfl rfl ?_
                refine gz_iconst (v := 1) dX12_digits_27 (by decide) ?_
                refine gz_icmp_le (tgt := 34) dX12_digits_28 (by decide) (fun c_28 => ?_) (fun c_28 => ?_)
                · exact absurd c_28 (by decide)
                ·
                  try simp only [mIn_0, lgc_lt, lgc_gt, lgc_le, lgc_ge, lgc_eq] at c_28
                  try simp only [fl_lt, fl_le, fl_eq, fL_w, fL_lt, fL_le, tm1, tm10k, tm9, tm99, Int32.reduceToInt, Int64.reduceToInt, Int.not_lt, Int.not_le] at c_28
                  refine gz_goto (tgt := 63) dX12_digits_31 (by decide) ?_
                  refine gz_iload_n dX12_digits_63 rfl rfl ?_
                  refine gz_bipush (v := 10) dX12_digits_64 (by decide) ?_
                  refine gz_idiv dX12_digits_66 (by decide) ?_
                  refine gz_ev (w := .int 10) (by decide) ?_
                  refine gz_istore_n (lv' := [(2, .int 10), (0, .ref m), (1, .int x1)]) dX12_digits_67 rfl (by decide) rfl ?_
                  refine gz_goto (tgt := 17) dX12_digits_68 (by decide) ?_
                  refine gz_iload_n dX12_digits_17 rfl rfl ?_
                  refine gz_if_le (tgt := 71) dX12_digits_18 (by decide) (fun c_18_134 => ?_) (fun c_18_134 => ?_)
                  · exact absurd c_18_134 (by decide)
                  ·
                    try simp only [mIn_0, lgc_lt, lgc_gt, lgc_le, lgc_ge, lgc_eq] at c_18_134
                    try simp only [fl_lt, fl_le, fl_eq, fL_w, fL_lt, fL_le, tm1, tm10k, tm9, tm99, Int32.reduceToInt, Int64.reduceToInt, Int.not_lt, Int.not_le] at c_18_134
                    refine gz_iload_n dX12_digits_21 rfl rfl ?_
                    refine gz_iload_n dX12_digits_22 rfl rfl ?_
                    refine gz_icmp_ge (tgt := 34) dX12_digits_23 (by decide) (fun c_23_135 => ?_) (fun c_23_135 => ?_)
                    ·
                      try simp only [mIn_0, lgc_lt, lgc_gt, lgc_le, lgc_ge, lgc_eq] at c_23_135
                      try simp only [fl_lt, fl_le, fl_eq, fL_w, fL_lt, fL_le, tm1, tm10k, tm9, tm99, Int32.reduceToInt, Int64.reduceToInt, Int.not_lt, Int.not_le] at c_23_135
                      refine gz_aload_n dX12_digits_34 rfl rfl ?_
                      refine mg_240 hS_131 dX12_digits_35 ?_
                      refine gz_aload_n dX12_digits_38 rfl rfl ?_
                      refine mg_541 hS_131 dX12_digits_39 ?_
                      refine gz_ev (w := .int (((n_127 88) + 1) + 1)) rfl ?_
                      refine gz_bipush (v := 48) dX12_digits_42 (by decide) ?_
                      refine gz_iload_n dX12_digits_44 rfl rfl ?_
                      refine gz_iload_n dX12_digits_45 rfl rfl ?_
                      refine gz_idiv dX12_digits_46 (by decide) ?_
                      refine gz_bipush (v := 10) dX12_digits_47 (by decide) ?_
                      refine gz_irem dX12_digits_49 (by decide) ?_
                      refine gz_iadd dX12_digits_50 ?_
                      refine gz_i2b dX12_digits_51 ?_
                      refine m_bast 87 hS_131 rfl (N := 1000) rfl ((by have q9 := (T_add (T_add (rfl : ((n_127 88)).toInt = ((n_127 88)).toInt) (show (1 : Int32).toInt = 1 from rfl) (by omega)) (show (1 : Int32).toInt = 1 from rfl) (by omega)); exact vin_T q9 (by omega) (by omega))) dX12_digits_52 (fun f_148 hS_148q => ?_)
                      have hS_148 : mS cy m a f0 (va_up (va_up n_127 88 ((n_127 88) + 1)) 88 (((n_127 88) + 1) + 1)) z_127 (va_up (va_up (va_up F_127 87 (upd (F_127 87) (Int32.toNatClampNeg (n_127 88)) (vp_nar .byte ((48 + ((x1 / 10000) - (x1 / 10000) / 10 * 10)).toInt8.toInt32)))) 87 (upd (upd (F_127 87) (Int32.toNatClampNeg (n_127 88)) (vp_nar .byte ((48 + ((x1 / 10000) - (x1 / 10000) / 10 * 10)).toInt8.toInt32))) (Int32.toNatClampNeg ((n_127 88) + 1)) (vp_nar .byte ((48 + ((x1 / 1000) - (x1 / 1000) / 10 * 10)).toInt8.toInt32)))) 87 (upd (upd (upd (F_127 87) (Int32.toNatClampNeg (n_127 88)) (vp_nar .byte ((48 + ((x1 / 10000) - (x1 / 10000) / 10 * 10)).toInt8.toInt32))) (Int32.toNatClampNeg ((n_127 88) + 1)) (vp_nar .byte ((48 + ((x1 / 1000) - (x1 / 1000) / 10 * 10)).toInt8.toInt32))) (Int32.toNatClampNeg (((n_127 88) + 1) + 1)) (vp_nar .byte ((48 + ((x1 / 10) - (x1 / 10) / 10 * 10)).toInt8.toInt32)))) G_127 f_148 := hS_148q
                      refine gz_aload_n dX12_digits_53 rfl rfl ?_
                      refine gz_dup dX12_digits_54 rfl ?_
                      refine mg_541 hS_148 dX12_digits_55 ?_
                      refine gz_ev (w := .int (((n_127 88) + 1) + 1)) rfl ?_
                      refine gz_iconst (v := 1) dX12_digits_58 (by decide) ?_
                      refine gz_iadd dX12_digits_59 ?_
                      refine mp_541 hS_148 dX12_digits_60 (fun f_149 hS_149 => ?_)
                      refine gz_iload_n dX12_digits_63 rfl rfl ?_
                      refine gz_bipush (v := 10) dX12_digits_64 (by decide) ?_
                      refine gz_idiv dX12_digits_66 (by decide) ?_
                      refine gz_ev (w := .int 1) (by decide) ?_
                      refine gz_istore_n (lv' := [(2, .int 1), (0, .ref m), (1, .int x1)]) dX12_digits_67 rfl (by decide) rfl ?_
                      refine gz_goto (tgt := 17) dX12_digits_68 (by decide) ?_
                      refine gz_iload_n dX12_digits_17 rfl rfl ?_
                      refine gz_if_le (tgt := 71) dX12_digits_18 (by decide) (fun c_18_136 => ?_) (fun c_18_136 => ?_)
                      · exact absurd c_18_136 (by decide)
                      ·
                        try simp only [mIn_0, lgc_lt, lgc_gt, lgc_le, lgc_ge, lgc_eq] at c_18_136
                        try simp only [fl_lt, fl_le, fl_eq, fL_w, fL_lt, fL_le, tm1, tm10k, tm9, tm99, Int32.reduceToInt, Int64.reduceToInt, Int.not_lt, Int.not_le] at c_18_136
                        refine gz_iload_n dX12_digits_21 rfl rfl ?_
                        refine gz_iload_n dX12_digits_22 rfl rfl ?_
                        refine gz_icmp_ge (tgt := 34) dX12_digits_23 (by decide) (fun c_23_137 => ?_) (fun c_23_137 => ?_)
                        ·
                          try simp only [mIn_0, lgc_lt, lgc_gt, lgc_le, lgc_ge, lgc_eq] at c_23_137
                          try simp only [fl_lt, fl_le, fl_eq, fL_w, fL_lt, fL_le, tm1, tm10k, tm9, tm99, Int32.reduceToInt, Int64.reduceToInt, Int.not_lt, Int.not_le] at c_23_137
                          refine gz_aload_n dX12_digits_34 rfl rfl ?_
                          refine mg_240 hS_149 dX12_digits_35 ?_
                          refine gz_aload_n dX12_digits_38 rfl rfl ?_
                          refine mg_541 hS_149 dX12_digits_39 ?_
                          refine gz_ev (w := .int ((((n_127 88) + 1) + 1) + 1)) rfl ?_
                          refine gz_bipush (v := 48) dX12_digits_42 (by decide) ?_
                          refine gz_iload_n dX12_digits_44 rfl rfl ?_
                          refine gz_iload_n dX12_digits_45 rfl rfl ?_
                          refine gz_idiv dX12_digits_46 (by decide) ?_
                          refine gz_bipush (v := 10) dX12_digits_47 (by decide) ?_
                          refine gz_irem dX12_digits_49 (by decide) ?_
                          refine gz_iadd dX12_digits_50 ?_
                          refine gz_i2b dX12_digits_51 ?_
                          refine m_bast 87 hS_149 rfl (N := 1000) rfl ((by have q9 := (T_add (T_add (T_add (rfl : ((n_127 88)).toInt = ((n_127 88)).toInt) (show (1 : Int32).toInt = 1 from rfl) (by omega)) (show (1 : Int32).toInt = 1 from rfl) (by omega)) (show (1 : Int32).toInt = 1 from rfl) (by omega)); exact vin_T q9 (by omega) (by omega))) dX12_digits_52 (fun f_150 hS_150q => ?_)
                          have hS_150 : mS cy m a f0 (va_up (va_up (va_up n_127 88 ((n_127 88) + 1)) 88 (((n_127 88) + 1) + 1)) 88 ((((n_127 88) + 1) + 1) + 1)) z_127 (va_up (va_up (va_up (va_up F_127 87 (upd (F_127 87) (Int32.toNatClampNeg (n_127 88)) (vp_nar .byte ((48 + ((x1 / 10000) - (x1 / 10000) / 10 * 10)).toInt8.toInt32)))) 87 (upd (upd (F_127 87) (Int32.toNatClampNeg (n_127 88)) (vp_nar .byte ((48 + ((x1 / 10000) - (x1 / 10000) / 10 * 10)).toInt8.toInt32))) (Int32.toNatClampNeg ((n_127 88) + 1)) (vp_nar .byte ((48 + ((x1 / 1000) - (x1 / 1000) / 10 * 10)).toInt8.toInt32)))) 87 (upd (upd (upd (F_127 87) (Int32.toNatClampNeg (n_127 88)) (vp_nar .byte ((48 + ((x1 / 10000) - (x1 / 10000) / 10 * 10)).toInt8.toInt32))) (Int32.toNatClampNeg ((n_127 88) + 1)) (vp_nar .byte ((48 + ((x1 / 1000) - (x1 / 1000) / 10 * 10)).toInt8.toInt32))) (Int32.toNatClampNeg (((n_127 88) + 1) + 1)) (vp_nar .byte ((48 + ((x1 / 10) - (x1 / 10) / 10 * 10)).toInt8.toInt32)))) 87 (upd (upd (upd (upd (F_127 87) (Int32.toNatClampNeg (n_127 88)) (vp_nar .byte ((48 + ((x1 / 10000) - (x1 / 10000) / 10 * 10)).toInt8.toInt32))) (Int32.toNatClampNeg ((n_127 88) + 1)) (vp_nar .byte ((48 + ((x1 / 1000) - (x1 / 1000) / 10 * 10)).toInt8.toInt32))) (Int32.toNatClampNeg (((n_127 88) + 1) + 1)) (vp_nar .byte ((48 + ((x1 / 10) - (x1 / 10) / 10 * 10)).toInt8.toInt32))) (Int32.toNatClampNeg ((((n_127 88) + 1) + 1) + 1)) (vp_nar .byte ((48 + ((x1 / 1) - (x1 / 1) / 10 * 10)).toInt8.toInt32)))) G_127 f_150 := hS_150q
                          refine gz_aload_n dX12_digits_53 rfl rfl ?_
                          refine gz_dup dX12_digits_54 rfl ?_
                          refine mg_541 hS_150 dX12_digits_55 ?_
                          refine gz_ev (w := .int ((((n_127 88) + 1) + 1) + 1)) rfl ?_
                          refine gz_iconst (v := 1) dX12_digits_58 (by decide) ?_
                          refine gz_iadd dX12_digits_59 ?_
                          refine mp_541 hS_150 dX12_digits_60 (fun f_151 hS_151 => ?_)
                          refine gz_iload_n dX12_digits_63 rfl rfl ?_
                          refine gz_bipush (v := 10) dX12_digits_64 (by decide) ?_
                          refine gz_idiv dX12_digits_66 (by decide) ?_
                          refine gz_ev (w := .int 0) (by decide) ?_
                          refine gz_istore_n (lv' := [(2, .int 0), (0, .ref m), (1, .int x1)]) dX12_digits_67 rfl (by decide) rfl ?_
                          refine gz_goto (tgt := 17) dX12_digits_68 (by decide) ?_
                          refine gz_iload_n dX12_digits_17 rfl rfl ?_
                          refine gz_if_le (tgt := 71) dX12_digits_18 (by decide) (fun c_18_138 => ?_) (fun c_18_138 => ?_)
                          ·
                            try simp only [mIn_0, lgc_lt, lgc_gt, lgc_le, lgc_ge, lgc_eq] at c_18_138
                            try simp only [fl_lt, fl_le, fl_eq, fL_w, fL_lt, fL_le, tm1, tm10k, tm9, tm99, Int32.reduceToInt, Int64.reduceToInt, Int.not_lt, Int.not_le] at c_18_138
                            refine gz_aload_n dX12_digits_71 rfl rfl ?_
                            refine gz_iconst (v := 1) dX12_digits_72 (by decide) ?_
                            refine mp_544 hS_151 ⟨rfl, rfl⟩ dX12_digits_73 (fun f_152 hS_152 => ?_)
                            exact gz_vret rfl dX12_digits_76 (Nat.le_of_ble_eq_true rfl) (Nat.le_of_ble_eq_true rfl) (⟨rfl, _, _, _, _, hS_152, (fx_n (fx_n (fx_F (fx_n (fx_F (fx_n (fx_F (fx_n (fx_F (fx_tr fx_rf hx127 (by decide)) (by decide)) (by decide)) (by decide)) (by decide)) (by decide)) (by decide)) (by decide)) (by decide)) (by decide)), (by (try rw [(show (va_up (va_up (va_up (va_up (va_up n_127 88 ((n_127 88) + 1)) 88 (((n_127 88) + 1) + 1)) 88 ((((n_127 88) + 1) + 1) + 1)) 88 (((((n_127 88) + 1) + 1) + 1) + 1)) 89 1) 88 = (((((n_127 88) + 1) + 1) + 1) + 1) from rfl)]); have q1_ := (T_add (T_add (T_add (T_add (rfl : ((n_127 88)).toInt = ((n_127 88)).toInt) (show (1 : Int32).toInt = 1 from rfl) (by omega)) (show (1 : Int32).toInt = 1 from rfl) (by omega)) (show (1 : Int32).toInt = 1 from rfl) (by omega)) (show (1 : Int32).toInt = 1 from rfl) (by omega)); omega), (by (try rw [(show (va_up (va_up (va_up (va_up (va_up n_127 88 ((n_127 88) + 1)) 88 (((n_127 88) + 1) + 1)) 88 ((((n_127 88) + 1) + 1) + 1)) 88 (((((n_127 88) + 1) + 1) + 1) + 1)) 89 1) 88 = (((((n_127 88) + 1) + 1) + 1) + 1) from rfl)]); have q1_ := (T_add (T_add (T_add (T_add (rfl : ((n_127 88)).toInt = ((n_127 88)).toInt) (show (1 : Int32).toInt = 1 from rfl) (by omega)) (show (1 : Int32).toInt = 1 from rfl) (by omega)) (show (1 : Int32).toInt = 1 from rfl) (by omega)) (show (1 : Int32).toInt = 1 from rfl) (by omega)); omega)⟩)
                          · exact absurd c_18_138 (by decide)
                        ·
                          try simp only [mIn_0, lgc_lt, lgc_gt, lgc_le, lgc_ge, lgc_eq] at c_23_137
                          try simp only [fl_lt, fl_le, fl_eq, fL_w, fL_lt, fL_le, tm1, tm10k, tm9, tm99, Int32.reduceToInt, Int64.reduceToInt, Int.not_lt, Int.not_le] at c_23_137
                          refine gz_iload_n dX12_digits_26 rfl rfl ?_
                          refine gz_iconst (v := 1) dX12_digits_27 (by decide) ?_
                          refine gz_icmp_le (tgt := 34) dX12_digits_28 (by decide) (fun c_28_139 => ?_) (fun c_28_139 => ?_)
                          ·
                            try simp only [mIn_0, lgc_lt, lgc_gt, lgc_le, lgc_ge, lgc_eq] at c_28_139
                            try simp only [fl_lt, fl_le, fl_eq, fL_w, fL_lt, fL_le, tm1, tm10k, tm9, tm99, Int32.reduceToInt, Int64.reduceToInt, Int.not_lt, Int.not_le] at c_28_139
                            refine gz_aload_n dX12_digits_34 rfl rfl ?_
                            refine mg_240 hS_149 dX12_digits_35 ?_
                            refine gz_aload_n dX12_digits_38 rfl rfl ?_
                            refine mg_541 hS_149 dX12_digits_39 ?_
                            refine gz_ev (w := .int ((((n_127 88) + 1) + 1) + 1)) rfl ?_
                            refine gz_bipush (v := 48) dX12_digits_42 (by decide) ?_
                            refine gz_iload_n dX12_digits_44 rfl rfl ?_
                            refine gz_iload_n dX12_digits_45 rfl rfl ?_
                            refine gz_idiv dX12_digits_46 (by decide) ?_
                            refine gz_bipush (v := 10) dX12_digits_47 (by decide) ?_
                            refine gz_irem dX12_digits_49 (by decide) ?_
                            refine gz_iadd dX12_digits_50 ?_
                            refine gz_i2b dX12_digits_51 ?_
                            refine m_bast 87 hS_149 rfl (N := 1000) rfl ((by have q9 := (T_add (T_add (T_add (rfl : ((n_127 88)).toInt = ((n_127 88)).toInt) (show (1 : Int32).toInt = 1 from rfl) (by omega)) (show (1 : Int32).toInt = 1 from rfl) (by omega)) (show (1 : Int32).toInt = 1 from rfl) (by omega)); exact vin_T q9 (by omega) (by omega))) dX12_digits_52 (fun f_153 hS_153q => ?_)
                            have hS_153 : mS cy m a f0 (va_up (va_up (va_up n_127 88 ((n_127 88) + 1)) 88 (((n_127 88) + 1) + 1)) 88 ((((n_127 88) + 1) + 1) + 1)) z_127 (va_up (va_up (va_up (va_up F_127 87 (upd (F_127 87) (Int32.toNatClampNeg (n_127 88)) (vp_nar .byte ((48 + ((x1 / 10000) - (x1 / 10000) / 10 * 10)).toInt8.toInt32)))) 87 (upd (upd (F_127 87) (Int32.toNatClampNeg (n_127 88)) (vp_nar .byte ((48 + ((x1 / 10000) - (x1 / 10000) / 10 * 10)).toInt8.toInt32))) (Int32.toNatClampNeg ((n_127 88) + 1)) (vp_nar .byte ((48 + ((x1 / 1000) - (x1 / 1000) / 10 * 10)).toInt8.toInt32)))) 87 (upd (upd (upd (F_127 87) (Int32.toNatClampNeg (n_127 88)) (vp_nar .byte ((48 + ((x1 / 10000) - (x1 / 10000) / 10 * 10)).toInt8.toInt32))) (Int32.toNatClampNeg ((n_127 88) + 1)) (vp_nar .byte ((48 + ((x1 / 1000) - (x1 / 1000) / 10 * 10)).toInt8.toInt32))) (Int32.toNatClampNeg (((n_127 88) + 1) + 1)) (vp_nar .byte ((48 + ((x1 / 10) - (x1 / 10) / 10 * 10)).toInt8.toInt32)))) 87 (upd (upd (upd (upd (F_127 87) (Int32.toNatClampNeg (n_127 88)) (vp_nar .byte ((48 + ((x1 / 10000) - (x1 / 10000) / 10 * 10)).toInt8.toInt32))) (Int32.toNatClampNeg ((n_127 88) + 1)) (vp_nar .byte ((48 + ((x1 / 1000) - (x1 / 1000) / 10 * 10)).toInt8.toInt32))) (Int32.toNatClampNeg (((n_127 88) + 1) + 1)) (vp_nar .byte ((48 + ((x1 / 10) - (x1 / 10) / 10 * 10)).toInt8.toInt32))) (Int32.toNatClampNeg ((((n_127 88) + 1) + 1) + 1)) (vp_nar .byte ((48 + ((x1 / 1) - (x1 / 1) / 10 * 10)).toInt8.toInt32)))) G_127 f_153 := hS_153q
                            refine gz_aload_n dX12_digits_53 rfl rfl ?_
                            refine gz_dup dX12_digits_54 rfl ?_
                            refine mg_541 hS_153 dX12_digits_55 ?_
                            refine gz_ev (w := .int ((((n_127 88) + 1) + 1) + 1)) rfl ?_
                            refine gz_iconst (v := 1) dX12_digits_58 (by decide) ?_
                            refine gz_iadd dX12_digits_59 ?_
                            refine mp_541 hS_153 dX12_digits_60 (fun f_154 hS_154 => ?_)
                            refine gz_iload_n dX12_digits_63 rfl rfl ?_
                            refine gz_bipush (v := 10) dX12_digits_64 (by decide) ?_
                            refine gz_idiv dX12_digits_66 (by decide) ?_
                            refine gz_ev (w := .int 0) (by decide) ?_
                            refine gz_istore_n (lv' := [(2, .int 0), (0, .ref m), (1, .int x1)]) dX12_digits_67 rfl (by decide) rfl ?_
                            refine gz_goto (tgt := 17) dX12_digits_68 (by decide) ?_
                            refine gz_iload_n dX12_digits_17 rfl rfl ?_
                            refine gz_if_le (tgt := 71) dX12_digits_18 (by decide) (fun c_18_140 => ?_) (fun c_18_140 => ?_)
                            ·
                              try simp only [mIn_0, lgc_lt, lgc_gt, lgc_le, lgc_ge, lgc_eq] at c_18_140
                              try simp only [fl_lt, fl_le, fl_eq, fL_w, fL_lt, fL_le, tm1, tm10k, tm9, tm99, Int32.reduceToInt, Int64.reduceToInt, Int.not_lt, Int.not_le] at c_18_140
                              refine gz_aload_n dX12_digits_71 rfl rfl ?_
                              refine gz_iconst (v := 1) dX12_digits_72 (by decide) ?_
                              refine mp_544 hS_154 ⟨rfl, rfl⟩ dX12_digits_73 (fun f_155 hS_155 => ?_)
                              exact gz_vret rfl dX12_digits_76 (Nat.le_of_ble_eq_true rfl) (Nat.le_of_ble_eq_true rfl) (⟨rfl, _, _, _, _, hS_155, (fx_n (fx_n (fx_F (fx_n (fx_F (fx_n (fx_F (fx_n (fx_F (fx_tr fx_rf hx127 (by decide)) (by decide)) (by decide)) (by decide)) (by decide)) (by decide)) (by decide)) (by decide)) (by decide)) (by decide)), (by (try rw [(show (va_up (va_up (va_up (va_up (va_up n_127 88 ((n_127 88) + 1)) 88 (((n_127 88) + 1) + 1)) 88 ((((n_127 88) + 1) + 1) + 1)) 88 (((((n_127 88) + 1) + 1) + 1) + 1)) 89 1) 88 = (((((n_127 88) + 1) + 1) + 1) + 1) from rfl)]); have q1_ := (T_add (T_add (T_add (T_add (rfl : ((n_127 88)).toInt = ((n_127 88)).toInt) (show (1 : Int32).toInt = 1 from rfl) (by omega)) (show (1 : Int32).toInt = 1 from rfl) (by omega)) (show (1 : Int32).toInt = 1 from rfl) (by omega)) (show (1 : Int32).toInt = 1 from rfl) (by omega)); omega), (by (try rw [(show (va_up (va_up (va_up (va_up (va_up n_127 88 ((n_127 88) + 1)) 88 (((n_127 88) + 1) + 1)) 88 ((((n_127 88) + 1) + 1) + 1)) 88 (((((n_127 88) + 1) + 1) + 1) + 1)) 89 1) 88 = (((((n_127 88) + 1) + 1) + 1) + 1) from rfl)]); have q1_ := (T_add (T_add (T_add (T_add (rfl : ((n_127 88)).toInt = ((n_127 88)).toInt) (show (1 : Int32).toInt = 1 from rfl) (by omega)) (show (1 : Int32).toInt = 1 from rfl) (by omega)) (show (1 : Int32).toInt = 1 from rfl) (by omega)) (show (1 : Int32).toInt = 1 from rfl) (by omega)); omega)⟩)
                            · exact absurd c_18_140 (by decide)
                          · exact absurd c_28_139 (by decide)
                    ·
                      try simp only [mIn_0, lgc_lt, lgc_gt, lgc_le, lgc_ge, lgc_eq] at c_23_135
                      try simp only [fl_lt, fl_le, fl_eq, fL_w, fL_lt, fL_le, tm1, tm10k, tm9, tm99, Int32.reduceToInt, Int64.reduceToInt, Int.not_lt, Int.not_le] at c_23_135
                      refine gz_iload_n dX12_digits_26 rfl rfl ?_
                      refine gz_iconst (v := 1) dX12_digits_27 (by decide) ?_
                      refine gz_icmp_le (tgt := 34) dX12_digits_28 (by decide) (fun c_28_141 => ?_) (fun c_28_141 => ?_)
                      · exact absurd c_28_141 (by decide)
                      ·
                        try simp only [mIn_0, lgc_lt, lgc_gt, lgc_le, lgc_ge, lgc_eq] at c_28_141
                        try simp only [fl_lt, fl_le, fl_eq, fL_w, fL_lt, fL_le, tm1, tm10k, tm9, tm99, Int32.reduceToInt, Int64.reduceToInt, Int.not_lt, Int.not_le] at c_28_141
                        refine gz_goto (tgt := 63) dX12_digits_31 (by decide) ?_
                        refine gz_iload_n dX12_digits_63 rfl rfl ?_
                        refine gz_bipush (v := 10) dX12_digits_64 (by decide) ?_
                        refine gz_idiv dX12_digits_66 (by decide) ?_
                        refine gz_ev (w := .int 1) (by decide) ?_
                        refine gz_istore_n (lv' := [(2, .int 1), (0, .ref m), (1, .int x1)]) dX12_digits_67 rfl (by decide) rfl ?_
                        refine gz_goto (tgt := 17) dX12_digits_68 (by decide) ?_
                        refine gz_iload_n dX12_digits_17 rfl rfl ?_
                        refine gz_if_le (tgt := 71) dX12_digits_18 (by decide) (fun c_18_142 => ?_) (fun c_18_142 => ?_)
                        · exact absurd c_18_142 (by decide)
                        ·
                          try simp only [mIn_0, lgc_lt, lgc_gt, lgc_le, lgc_ge, lgc_eq] at c_18_142
                          try simp only [fl_lt, fl_le, fl_eq, fL_w, fL_lt, fL_le, tm1, tm10k, tm9, tm99, Int32.reduceToInt, Int64.reduceToInt, Int.not_lt, Int.not_le] at c_18_142
                          refine gz_iload_n dX12_digits_21 rfl rfl ?_
                          refine gz_iload_n dX12_digits_22 rfl rfl ?_
                          refine gz_icmp_ge (tgt := 34) dX12_digits_23 (by decide) (fun c_23_143 => ?_) (fun c_23_143 => ?_)
                          ·
                            try simp only [mIn_0, lgc_lt, lgc_gt, lgc_le, lgc_ge, lgc_eq] at c_23_143
                            try simp only [fl_lt, fl_le, fl_eq, fL_w, fL_lt, fL_le, tm1, tm10k, tm9, tm99, Int32.reduceToInt, Int64.reduceToInt, Int.not_lt, Int.not_le] at c_23_143
                            refine gz_aload_n dX12_digits_34 rfl rfl ?_
                            refine mg_240 hS_131 dX12_digits_35 ?_
                            refine gz_aload_n dX12_digits_38 rfl rfl ?_
                            refine mg_541 hS_131 dX12_digits_39 ?_
                            refine gz_ev (w := .int (((n_127 88) + 1) + 1)) rfl ?_
                            refine gz_bipush (v := 48) dX12_digits_42 (by decide) ?_
                            refine gz_iload_n dX12_digits_44 rfl rfl ?_
                            refine gz_iload_n dX12_digits_45 rfl rfl ?_
                            refine gz_idiv dX12_digits_46 (by decide) ?_
                            refine gz_bipush (v := 10) dX12_digits_47 (by decide) ?_
                            refine gz_irem dX12_digits_49 (by decide) ?_
                            refine gz_iadd dX12_digits_50 ?_
                            refine gz_i2b dX12_digits_51 ?_
                            refine m_bast 87 hS_131 rfl (N := 1000) rfl ((by have q9 := (T_add (T_add (rfl : ((n_127 88)).toInt = ((n_127 88)).toInt) (show (1 : Int32).toInt = 1 from rfl) (by omega)) (show (1 : Int32).toInt = 1 from rfl) (by omega)); exact vin_T q9 (by omega) (by omega))) dX12_digits_52 (fun f_156 hS_156q => ?_)
                            have hS_156 : mS cy m a f0 (va_up (va_up n_127 88 ((n_127 88) + 1)) 88 (((n_127 88) + 1) + 1)) z_127 (va_up (va_up (va_up F_127 87 (upd (F_127 87) (Int32.toNatClampNeg (n_127 88)) (vp_nar .byte ((48 + ((x1 / 10000) - (x1 / 10000) / 10 * 10)).toInt8.toInt32)))) 87 (upd (upd (F_127 87) (Int32.toNatClampNeg (n_127 88)) (vp_nar .byte ((48 + ((x1 / 10000) - (x1 / 10000) / 10 * 10)).toInt8.toInt32))) (Int32.toNatClampNeg ((n_127 88) + 1)) (vp_nar .byte ((48 + ((x1 / 1000) - (x1 / 1000) / 10 * 10)).toInt8.toInt32)))) 87 (upd (upd (upd (F_127 87) (Int32.toNatClampNeg (n_127 88)) (vp_nar .byte ((48 + ((x1 / 10000) - (x1 / 10000) / 10 * 10)).toInt8.toInt32))) (Int32.toNatClampNeg ((n_127 88) + 1)) (vp_nar .byte ((48 + ((x1 / 1000) - (x1 / 1000) / 10 * 10)).toInt8.toInt32))) (Int32.toNatClampNeg (((n_127 88) + 1) + 1)) (vp_nar .byte ((48 + ((x1 / 1) - (x1 / 1) / 10 * 10)).toInt8.toInt32)))) G_127 f_156 := hS_156q
                            refine gz_aload_n dX12_digits_53 rfl rfl ?_
                            refine gz_dup dX12_digits_54 rfl ?_
                            refine mg_541 hS_156 dX12_digits_55 ?_
                            refine gz_ev (w := .int (((n_127 88) + 1) + 1)) rfl ?_
                            refine gz_iconst (v := 1) dX12_digits_58 (by decide) ?_
                            refine gz_iadd dX12_digits_59 ?_
                            refine mp_541 hS_156 dX12_digits_60 (fun f_157 hS_157 => ?_)
                            refine gz_iload_n dX12_digits_63 rfl rfl ?_
                            refine gz_bipush (v := 10) dX12_digits_64 (by decide) ?_
                            refine gz_idiv dX12_digits_66 (by decide) ?_
                            refine gz_ev (w := .int 0) (by decide) ?_
                            refine gz_istore_n (lv' := [(2, .int 0), (0, .ref m), (1, .int x1)]) dX12_digits_67 rfl (by decide) rfl ?_
                            refine gz_goto (tgt := 17) dX12_digits_68 (by decide) ?_
                            refine gz_iload_n dX12_digits_17 rfl rfl ?_
                            refine gz_if_le (tgt := 71) dX12_digits_18 (by decide) (fun c_18_144 => ?_) (fun c_18_144 => ?_)
                            ·
                              try simp only [mIn_0, lgc_lt, lgc_gt, lgc_le, lgc_ge, lgc_eq] at c_18_144
                              try simp only [fl_lt, fl_le, fl_eq, fL_w, fL_lt, fL_le, tm1, tm10k, tm9, tm99, Int32.reduceToInt, Int64.reduceToInt, Int.not_lt, Int.not_le] at c_18_144
                              refine gz_aload_n dX12_digits_71 rfl rfl ?_
                              refine gz_iconst (v := 1) dX12_digits_72 (by decide) ?_
                              refine mp_544 hS_157 ⟨rfl, rfl⟩ dX12_digits_73 (fun f_158 hS_158 => ?_)
                              exact gz_vret rfl dX12_digits_76 (Nat.le_of_ble_eq_true rfl) (Nat.le_of_ble_eq_true rfl) (⟨rfl, _, _, _, _, hS_158, (fx_n (fx_n (fx_F (fx_n (fx_F (fx_n (fx_F (fx_tr fx_rf hx127 (by decide)) (by decide)) (by decide)) (by decide)) (by decide)) (by decide)) (by decide)) (by decide)), (by (try rw [(show (va_up (va_up (va_up (va_up n_127 88 ((n_127 88) + 1)) 88 (((n_127 88) + 1) + 1)) 88 ((((n_127 88) + 1) + 1) + 1)) 89 1) 88 = ((((n_127 88) + 1) + 1) + 1) from rfl)]); have q1_ := (T_add (T_add (T_add (rfl : ((n_127 88)).toInt = ((n_127 88)).toInt) (show (1 : Int32).toInt = 1 from rfl) (by omega)) (show (1 : Int32).toInt = 1 from rfl) (by omega)) (show (1 : Int32).toInt = 1 from rfl) (by omega)); omega), (by (try rw [(show (va_up (va_up (va_up (va_up n_127 88 ((n_127 88) + 1)) 88 (((n_127 88) + 1) + 1)) 88 ((((n_127 88) + 1) + 1) + 1)) 89 1) 88 = ((((n_127 88) + 1) + 1) + 1) from rfl)]); have q1_ := (T_add (T_add (T_add (rfl : ((n_127 88)).toInt = ((n_127 88)).toInt) (show (1 : Int32).toInt = 1 from rfl) (by omega)) (show (1 : Int32).toInt = 1 from rfl) (by omega)) (show (1 : Int32).toInt = 1 from rfl) (by omega)); omega)⟩)
                            · exact absurd c_18_144 (by decide)
                          ·
                            try simp only [mIn_0, lgc_lt, lgc_gt, lgc_le, lgc_ge, lgc_eq] at c_23_143
                            try simp only [fl_lt, fl_le, fl_eq, fL_w, fL_lt, fL_le, tm1, tm10k, tm9, tm99, Int32.reduceToInt, Int64.reduceToInt, Int.not_lt, Int.not_le] at c_23_143
                            refine gz_iload_n dX12_digits_26 rfl rfl ?_
                            refine gz_iconst (v := 1) dX12_digits_27 (by decide) ?_
                            refine gz_icmp_le (tgt := 34) dX12_digits_28 (by decide) (fun c_28_145 => ?_) (fun c_28_145 => ?_)
                            ·
                              try simp only [mIn_0, lgc_lt, lgc_gt, lgc_le, lgc_ge, lgc_eq] at c_28_145
                              try simp only [fl_lt, fl_le, fl_eq, fL_w, fL_lt, fL_le, tm1, tm10k, tm9, tm99, Int32.reduceToInt, Int64.reduceToInt, Int.not_lt, Int.not_le] at c_28_145
                              refine gz_aload_n dX12_digits_34 rfl rfl ?_
                              refine mg_240 hS_131 dX12_digits_35 ?_
                              refine gz_aload_n dX12_digits_38 rfl rfl ?_
                              refine mg_541 hS_131 dX12_digits_39 ?_
                              refine gz_ev (w := .int (((n_127 88) + 1) + 1)) rfl ?_
                              refine gz_bipush (v := 48) dX12_digits_42 (by decide) ?_
                              refine gz_iload_n dX12_digits_44 rfl rfl ?_
                              refine gz_iload_n dX12_digits_45 rfl rfl ?_
                              refine gz_idiv dX12_digits_46 (by decide) ?_
                              refine gz_bipush (v := 10) dX12_digits_47 (by decide) ?_
                              refine gz_irem dX12_digits_49 (by decide) ?_
                              refine gz_iadd dX12_digits_50 ?_
                              refine gz_i2b dX12_digits_51 ?_
                              refine m_bast 87 hS_131 rfl (N := 1000) rfl ((by have q9 := (T_add (T_add (rfl : ((n_127 88)).toInt = ((n_127 88)).toInt) (show (1 : Int32).toInt = 1 from rfl) (by omega)) (show (1 : Int32).toInt = 1 from rfl) (by omega)); exact vin_T q9 (by omega) (by omega))) dX12_digits_52 (fun f_159 hS_159q => ?_)
                              have hS_159 : mS cy m a f0 (va_up (va_up n_127 88 ((n_127 88) + 1)) 88 (((n_127 88) + 1) + 1)) z_127 (va_up (va_up (va_up F_127 87 (upd (F_127 87) (Int32.toNatClampNeg (n_127 88)) (vp_nar .byte ((48 + ((x1 / 10000) - (x1 / 10000) / 10 * 10)).toInt8.toInt32)))) 87 (upd (upd (F_127 87) (Int32.toNatClampNeg (n_127 88)) (vp_nar .byte ((48 + ((x1 / 10000) - (x1 / 10000) / 10 * 10)).toInt8.toInt32))) (Int32.toNatClampNeg ((n_127 88) + 1)) (vp_nar .byte ((48 + ((x1 / 1000) - (x1 / 1000) / 10 * 10)).toInt8.toInt32)))) 87 (upd (upd (upd (F_127 87) (Int32.toNatClampNeg (n_127 88)) (vp_nar .byte ((48 + ((x1 / 10000) - (x1 / 10000) / 10 * 10)).toInt8.toInt32))) (Int32.toNatClampNeg ((n_127 88) + 1)) (vp_nar .byte ((48 + ((x1 / 1000) - (x1 / 1000) / 10 * 10)).toInt8.toInt32))) (Int32.toNatClampNeg (((n_127 88) + 1) + 1)) (vp_nar .byte ((48 + ((x1 / 1) - (x1 / 1) / 10 * 10)).toInt8.toInt32)))) G_127 f_159 := hS_159q
                              refine gz_aload_n dX12_digits_53 rfl rfl ?_
                              refine gz_dup dX12_digits_54 rfl ?_
                              refine mg_541 hS_159 dX12_digits_55 ?_
                              refine gz_ev (w := .int (((n_127 88) + 1) + 1)) rfl ?_
                              refine gz_iconst (v := 1) dX12_digits_58 (by decide) ?_
                              refine gz_iadd dX12_digits_59 ?_
                              refine mp_541 hS_159 dX12_digits_60 (fun f_160 hS_160 => ?_)
                              refine gz_iload_n dX12_digits_63 rfl rfl ?_
                              refine gz_bipush (v := 10) dX12_digits_64 (by decide) ?_
                              refine gz_idiv dX12_digits_66 (by decide) ?_
                              refine gz_ev (w := .int 0) (by decide) ?_
                              refine gz_istore_n (lv' := [(2, .int 0), (0, .ref m), (1, .int x1)]) dX12_digits_67 rfl (by decide) rfl ?_
                              refine gz_goto (tgt := 17) dX12_digits_68 (by decide) ?_
                              refine gz_iload_n dX12_digits_17 rfl rfl ?_
                              refine gz_if_le (tgt := 71) dX12_digits_18 (by decide) (fun c_18_146 => ?_) (fun c_18_146 => ?_)
                              ·
                                try simp only [mIn_0, lgc_lt, lgc_gt, lgc_le, lgc_ge, lgc_eq] at c_18_146
                                try simp only [fl_lt, fl_le, fl_eq, fL_w, fL_lt, fL_le, tm1, tm10k, tm9, tm99, Int32.reduceToInt, Int64.reduceToInt, Int.not_lt, Int.not_le] at c_18_146
                                refine gz_aload_n dX12_digits_71 rfl rfl ?_
                                refine gz_iconst (v := 1) dX12_digits_72 (by decide) ?_
                                refine mp_544 hS_160 ⟨rfl, rfl⟩ dX12_digits_73 (fun f_161 hS_161 => ?_)
                                exact gz_vret rfl dX12_digits_76 (Nat.le_of_ble_eq_true rfl) (Nat.le_of_ble_eq_true rfl) (⟨rfl, _, _, _, _, hS_161, (fx_n (fx_n (fx_F (fx_n (fx_F (fx_n (fx_F (fx_tr fx_rf hx127 (by decide)) (by decide)) (by decide)) (by decide)) (by decide)) (by decide)) (by decide)) (by decide)), (by (try rw [(show (va_up (va_up (va_up (va_up n_127 88 ((n_127 88) + 1)) 88 (((n_127 88) + 1) + 1)) 88 ((((n_127 88) + 1) + 1) + 1)) 89 1) 88 = ((((n_127 88) + 1) + 1) + 1) from rfl)]); have q1_ := (T_add (T_add (T_add (rfl : ((n_127 88)).toInt = ((n_127 88)).toInt) (show (1 : Int32).toInt = 1 from rfl) (by omega)) (show (1 : Int32).toInt = 1 from rfl) (by omega)) (show (1 : Int32).toInt = 1 from rfl) (by omega)); omega), (by (try rw [(show (va_up (va_up (va_up (va_up n_127 88 ((n_127 88) + 1)) 88 (((n_127 88) + 1) + 1)) 88 ((((n_127 88) + 1) + 1) + 1)) 89 1) 88 = ((((n_127 88) + 1) + 1) + 1) from rfl)]); have q1_ := (T_add (T_add (T_add (rfl : ((n_127 88)).toInt = ((n_127 88)).toInt) (show (1 : Int32).toInt = 1 from rfl) (by omega)) (show (1 : Int32).toInt = 1 from rfl) (by omega)) (show (1 : Int32).toInt = 1 from rfl) (by omega)); omega)⟩)
                              · exact absurd c_18_146 (by decide)
                            · exact absurd c_28_145 (by decide)
          ·
            try simp only [mIn_0, lgc_lt, lgc_gt, lgc_le, lgc_ge, lgc_eq] at c_23_120
            try simp only [fl_lt, fl_le, fl_eq, fL_w, fL_lt, fL_le, tm1, tm10k, tm9, tm99, Int32.reduceToInt, Int64.reduceToInt, Int.not_lt, Int.not_le] at c_23_120
            refine gz_iload_n dX12_digits_26 rfl rfl ?_
            refine gz_iconst (v := 1) dX12_digits_27 (by decide) ?_
            refine gz_icmp_le (tgt := 34) dX12_digits_28 (by decide) (fun c_28 => ?_) (fun c_28 => ?_)
            · exact absurd c_28 (by decide)
            ·
              try simp only [mIn_0, lgc_lt, lgc_gt, lgc_le, lgc_ge, lgc_eq] at c_28
              try simp only [fl_lt, fl_le, fl_eq, fL_w, fL_lt, fL_le, tm1, tm10k, tm9, tm99, Int32.reduceToInt, Int64.reduceToInt, Int.not_lt, Int.not_le] at c_28
              refine gz_goto (tgt := 63) dX12_digits_31 (by decide) ?_
              refine gz_iload_n dX12_digits_63 rfl rfl ?_
              refine gz_bipush (v := 10) dX12_digits_64 (by decide) ?_
              refine gz_idiv dX12_digits_66 (by decide) ?_
              refine gz_ev (w := .int 100) (by decide) ?_
              refine gz_istore_n (lv' := [(2, .int 100), (0, .ref m), (1, .int x1)]) dX12_digits_67 rfl (by decide) rfl ?_
              refine gz_goto (tgt := 17) dX12_digits_68 (by decide) ?_
              refine gz_iload_n dX12_digits_17 rfl rfl ?_
              refine gz_if_le (tgt := 71) dX12_digits_18 (by decide) (fun c_18_147 => ?_) (fun c_18_147 => ?_)
              · exact absurd c_18_147 (by decide)
              ·
                try simp only [mIn_0, lgc_lt, lgc_gt, lgc_le, lgc_ge, lgc_eq] at c_18_147
                try simp only [fl_lt, fl_le, fl_eq, fL_w, fL_lt, fL_le, tm1, tm10k, tm9, tm99, Int32.reduceToInt, Int64.reduceToInt, Int.not_lt, Int.not_le] at c_18_147
                refine gz_iload_n dX12_digits_21 rfl rfl ?_
                refine gz_iload_n dX12_digits_22 rfl rfl ?_
                refine gz_icmp_ge (tgt := 34) dX12_digits_23 (by decide) (fun c_23_148 => ?_) (fun c_23_148 => ?_)
                ·
                  try simp only [mIn_0, lgc_lt, lgc_gt, lgc_le, lgc_ge, lgc_eq] at c_23_148
                  try simp only [fl_lt, fl_le, fl_eq, fL_w, fL_lt, fL_le, tm1, tm10k, tm9, tm99, Int32.reduceToInt, Int64.reduceToInt, Int.not_lt, Int.not_le] at c_23_148
                  refine gz_aload_n dX12_digits_34 rfl rfl ?_
                  refine mg_240 hS_129 dX12_digits_35 ?_
                  refine gz_aload_n dX12_digits_38 rfl rfl ?_
                  refine mg_541 hS_129 dX12_digits_39 ?_
                  refine gz_ev (w := .int ((n_127 88) + 1)) rfl ?_
                  refine gz_bipush (v := 48) dX12_digits_42 (by decide) ?_
                  refine gz_iload_n dX12_digits_44 rfl rfl ?_
                  refine gz_iload_n dX12_digits_45 rfl rfl ?_
                  refine gz_idiv dX12_digits_46 (by decide) ?_
                  refine gz_bipush (v := 10) dX12_digits_47 (by decide) ?_
                  refine gz_irem dX12_digits_49 (by decide) ?_
                  refine gz_iadd dX12_digits_50 ?_
                  refine gz_i2b dX12_digits_51 ?_
                  refine m_bast 87 hS_129 rfl (N := 1000) rfl ((by have q9 := (T_add (rfl : ((n_127 88)).toInt = ((n_127 88)).toInt) (show (1 : Int32).toInt = 1 from rfl) (by omega)); exact vin_T q9 (by omega) (by omega))) dX12_digits_52 (fun f_162 hS_162q => ?_)
                  have hS_162 : mS cy m a f0 (va_up n_127 88 ((n_127 88) + 1)) z_127 (va_up (va_up F_127 87 (upd (F_127 87) (Int32.toNatClampNeg (n_127 88)) (vp_nar .byte ((48 + ((x1 / 10000) - (x1 / 10000) / 10 * 10)).toInt8.toInt32)))) 87 (upd (upd (F_127 87) (Int32.toNatClampNeg (n_127 88)) (vp_nar .byte ((48 + ((x1 / 10000) - (x1 / 10000) / 10 * 10)).toInt8.toInt32))) (Int32.toNatClampNeg ((n_127 88) + 1)) (vp_nar .byte ((48 + ((x1 / 100) - (x1 / 100) / 10 * 10)).toInt8.toInt32)))) G_127 f_162 := hS_162q
                  refine gz_aload_n dX12_digits_53 rfl rfl ?_
                  refine gz_dup dX12_digits_54 rfl ?_
                  refine mg_541 hS_162 dX12_digits_55 ?_
                  refine gz_ev (w := .int ((n_127 88) + 1)) rfl ?_
                  refine gz_iconst (v := 1) dX12_digits_58 (by decide) ?_
                  refine gz_iadd dX12_digits_59 ?_
                  refine mp_541 hS_162 dX12_digits_60 (fun f_163 hS_163 => ?_)
                  refine gz_iload_n dX12_digits_63 rfl rfl ?_
                  refine gz_bipush (v := 10) dX12_digits_64 (by decide) ?_
                  refine gz_idiv dX12_digits_66 (by decide) ?_
                  refine gz_ev (w := .int 10) (by decide) ?_
                  refine gz_istore_n (lv' := [(2, .int 10), (0, .ref m), (1, .int x1)]) dX12_digits_67 rfl (by decide) rfl ?_
                  refine gz_goto (tgt := 17) dX12_digits_68 (by decide) ?_
                  refine gz_iload_n dX12_digits_17 rfl rfl ?_
                  refine gz_if_le (tgt := 71) dX12_digits_18 (by decide) (fun c_18_149 => ?_) (fun c_18_149 => ?_)
                  · exact absurd c_18_149 (by decide)
                  ·
                    try simp only [mIn_0, lgc_lt, lgc_gt, lgc_le, lgc_ge, lgc_eq] at c_18_149
                    try simp only [fl_lt, fl_le, fl_eq, fL_w, fL_lt, fL_le, tm1, tm10k, tm9, tm99, Int32.reduceToInt, Int64.reduceToInt, Int.not_lt, Int.not_le] at c_18_149
                    refine gz_iload_n dX12_digits_21 rfl rfl ?_
                    refine gz_iload_n dX12_digits_22 rfl rfl ?_
                    refine gz_icmp_ge (tgt := 34) dX12_digits_23 (by decide) (fun c_23_150 => ?_) (fun c_23_150 => ?_)
                    ·
                      try simp only [mIn_0, lgc_lt, lgc_gt, lgc_le, lgc_ge, lgc_eq] at c_23_150
                      try simp only [fl_lt, fl_le, fl_eq, fL_w, fL_lt, fL_le, tm1, tm10k, tm9, tm99, Int32.reduceToInt, Int64.reduceToInt, Int.not_lt, Int.not_le] at c_23_150
                      refine gz_aload_n dX12_digits_34 rfl rfl ?_
                      refine mg_240 hS_163 dX12_digits_35 ?_
                      refine gz_aload_n dX12_digits_38 rfl rfl ?_
                      refine mg_541 hS_163 dX12_digits_39 ?_
                      refine gz_ev (w := .int (((n_127 88) + 1) + 1)) rfl ?_
                      refine gz_bipush (v := 48) dX12_digits_42 (by decide) ?_
                      refine gz_iload_n dX12_digits_44 rfl rfl ?_
                      refine gz_iload_n dX12_digits_45 rfl rfl ?_
                      refine gz_idiv dX12_digits_46 (by decide) ?_
                      refine gz_bipush (v := 10) dX12_digits_47 (by decide) ?_
                      refine gz_irem dX12_digits_49 (by decide) ?_
                      refine gz_iadd dX12_digits_50 ?_
                      refine gz_i2b dX12_digits_51 ?_
                      refine m_bast 87 hS_163 rfl (N := 1000) rfl ((by have q9 := (T_add (T_add (rfl : ((n_127 88)).toInt = ((n_127 88)).toInt) (show (1 : Int32).toInt = 1 from rfl) (by omega)) (show (1 : Int32).toInt = 1 from rfl) (by omega)); exact vin_T q9 (by omega) (by omega))) dX12_digits_52 (fun f_164 hS_164q => ?_)
                      have hS_164 : mS cy m a f0 (va_up (va_up n_127 88 ((n_127 88) + 1)) 88 (((n_127 88) + 1) + 1)) z_127 (va_up (va_up (va_up F_127 87 (upd (F_127 87) (Int32.toNatClampNeg (n_127 88)) (vp_nar .byte ((48 + ((x1 / 10000) - (x1 / 10000) / 10 * 10)).toInt8.toInt32)))) 87 (upd (upd (F_127 87) (Int32.toNatClampNeg (n_127 88)) (vp_nar .byte ((48 + ((x1 / 10000) - (x1 / 10000) / 10 * 10)).toInt8.toInt32))) (Int32.toNatClampNeg ((n_127 88) + 1)) (vp_nar .byte ((48 + ((x1 / 100) - (x1 / 100) / 10 * 10)).toInt8.toInt32)))) 87 (upd (upd (upd (F_127 87) (Int32.toNatClampNeg (n_127 88)) (vp_nar .byte ((48 + ((x1 / 10000) - (x1 / 10000) / 10 * 10)).toInt8.toInt32))) (Int32.toNatClampNeg ((n_127 88) + 1)) (vp_nar .byte ((48 + ((x1 / 100) - (x1 / 100) / 10 * 10)).toInt8.toInt32))) (Int32.toNatClampNeg (((n_127 88) + 1) + 1)) (vp_nar .byte ((48 + ((x1 / 10) - (x1 / 10) / 10 * 10)).toInt8.toInt32)))) G_127 f_164 := hS_164q
                      refine gz_aload_n dX12_digits_53 rfl rfl ?_
                      refine gz_dup dX12_digits_54 rfl ?_
                      refine mg_541 hS_164 dX12_digits_55 ?_
                      refine gz_ev (w := .int (((n_127 88) + 1) + 1)) rfl ?_
                      refine gz_iconst (v := 1) dX12_digits_58 (by decide) ?_
                      refine gz_iadd dX12_digits_59 ?_
                      refine mp_541 hS_164 dX12_digits_60 (fun f_165 hS_165 => ?_)
                      refine gz_iload_n dX12_digits_63 rfl rfl ?_
                      refine gz_bipush (v := 10) dX12_digits_64 (by decide) ?_
                      refine gz_idiv dX12_digits_66 (by decide) ?_
                      refine gz_ev (w := .int 1) (by decide) ?_
                      refine gz_istore_n (lv' := [(2, .int 1), (0, .ref m), (1, .int x1)]) dX12_digits_67 rfl (by decide) rfl ?_
                      refine gz_goto (tgt := 17) dX12_digits_68 (by decide) ?_
                      refine gz_iload_n dX12_digits_17 rfl rfl ?_
                      refine gz_if_le (tgt := 71) dX12_digits_18 (by decide) (fun c_18_151 => ?_) (fun c_18_151 => ?_)
                      · exact absurd c_18_151 (by decide)
                      ·
                        try simp only [mIn_0, lgc_lt, lgc_gt, lgc_le, lgc_ge, lgc_eq] at c_18_151
                        try simp only [fl_lt, fl_le, fl_eq, fL_w, fL_lt, fL_le, tm1, tm10k, tm9, tm99, Int32.reduceToInt, Int64.reduceToInt, Int.not_lt, Int.not_le] at c_18_151
                        refine gz_iload_n dX12_digits_21 rfl rfl ?_
                        refine gz_iload_n dX12_digits_22 rfl rfl ?_
                        refine gz_icmp_ge (tgt := 34) dX12_digits_23 (by decide) (fun c_23_152 => ?_) (fun c_23_152 => ?_)
                        ·
                          try simp only [mIn_0, lgc_lt, lgc_gt, lgc_le, lgc_ge, lgc_eq] at c_23_152
                          try simp only [fl_lt, fl_le, fl_eq, fL_w, fL_lt, fL_le, tm1, tm10k, tm9, tm99, Int32.reduceToInt, Int64.reduceToInt, Int.not_lt, Int.not_le] at c_23_152
                          refine gz_aload_n dX12_digits_34 rfl rfl ?_
                          refine mg_240 hS_165 dX12_digits_35 ?_
                          refine gz_aload_n dX12_digits_38 rfl rfl ?_
                          refine mg_541 hS_165 dX12_digits_39 ?_
                          refine gz_ev (w := .int ((((n_127 88) + 1) + 1) + 1)) rfl ?_
                          refine gz_bipush (v := 48) dX12_digits_42 (by decide) ?_
                          refine gz_iload_n dX12_digits_44 rfl rfl ?_
                          refine gz_iload_n dX12_digits_45 rfl rfl ?_
                          refine gz_idiv dX12_digits_46 (by decide) ?_
                          refine gz_bipush (v := 10) dX12_digits_47 (by decide) ?_
                          refine gz_irem dX12_digits_49 (by decide) ?_
                          refine gz_iadd dX12_digits_50 ?_
                          refine gz_i2b dX12_digits_51 ?_
                          refine m_bast 87 hS_165 rfl (N := 1000) rfl ((by have q9 := (T_add (T_add (T_add (rfl : ((n_127 88)).toInt = ((n_127 88)).toInt) (show (1 : Int32).toInt = 1 from rfl) (by omega)) (show (1 : Int32).toInt = 1 from rfl) (by omega)) (show (1 : Int32).toInt = 1 from rfl) (by omega)); exact vin_T q9 (by omega) (by omega))) dX12_digits_52 (fun f_166 hS_166q => ?_)
                          have hS_166 : mS cy m a f0 (va_up (va_up (va_up n_127 88 ((n_127 88) + 1)) 88 (((n_127 88) + 1) + 1)) 88 ((((n_127 88) + 1) + 1) + 1)) z_127 (va_up (va_up (va_up (va_up F_127 87 (upd (F_127 87) (Int32.toNatClampNeg (n_127 88)) (vp_nar .byte ((48 + ((x1 / 10000) - (x1 / 10000) / 10 * 10)).toInt8.toInt32)))) 87 (upd (upd (F_127 87) (Int32.toNatClampNeg (n_127 88)) (vp_nar .byte ((48 + ((x1 / 10000) - (x1 / 10000) / 10 * 10)).toInt8.toInt32))) (Int32.toNatClampNeg ((n_127 88) + 1)) (vp_nar .byte ((48 + ((x1 / 100) - (x1 / 100) / 10 * 10)).toInt8.toInt32)))) 87 (upd (upd (upd (F_127 87) (Int32.toNatClampNeg (n_127 88)) (vp_nar .byte ((48 + ((x1 / 10000) - (x1 / 10000) / 10 * 10)).toInt8.toInt32))) (Int32.toNatClampNeg ((n_127 88) + 1)) (vp_nar .byte ((48 + ((x1 / 100) - (x1 / 100) / 10 * 10)).toInt8.toInt32))) (Int32.toNatClampNeg (((n_127 88) + 1) + 1)) (vp_nar .byte ((48 + ((x1 / 10) - (x1 / 10) / 10 * 10)).toInt8.toInt32)))) 87 (upd (upd (upd (upd (F_127 87) (Int32.toNatClampNeg (n_127 88)) (vp_nar .byte ((48 + ((x1 / 10000) - (x1 / 10000) / 10 * 10)).toInt8.toInt32))) (Int32.toNatClampNeg ((n_127 88) + 1)) (vp_nar .byte ((48 + ((x1 / 100) - (x1 / 100) / 10 * 10)).toInt8.toInt32))) (Int32.toNatClampNeg (((n_127 88) + 1) + 1)) (vp_nar .byte ((48 + ((x1 / 10) - (x1 / 10) / 10 * 10)).toInt8.toInt32))) (Int32.toNatClampNeg ((((n_127 88) + 1) + 1) + 1)) (vp_nar .byte ((48 + ((x1 / 1) - (x1 / 1) / 10 * 10)).toInt8.toInt32)))) G_127 f_166 := hS_166q
                          refine gz_aload_n dX12_digits_53 rfl rfl ?_
                          refine gz_dup dX12_digits_54 rfl ?_
                          refine mg_541 hS_166 dX12_digits_55 ?_
                          refine gz_ev (w := .int ((((n_127 88) + 1) + 1) + 1)) rfl ?_
                          refine gz_iconst (v := 1) dX12_digits_58 (by decide) ?_
                          refine gz_iadd dX12_digits_59 ?_
                          refine mp_541 hS_166 dX12_digits_60 (fun f_167 hS_167 => ?_)
                          refine gz_iload_n dX12_digits_63 rfl rfl ?_
                          refine gz_bipush (v := 10) dX12_digits_64 (by decide) ?_
                          refine gz_idiv dX12_digits_66 (by decide) ?_
                          refine gz_ev (w := .int 0) (by decide) ?_
                          refine gz_istore_n (lv' := [(2, .int 0), (0, .ref m), (1, .int x1)]) dX12_digits_67 rfl (by decide) rfl ?_
                          refine gz_goto (tgt := 17) dX12_digits_68 (by decide) ?_
                          refine gz_iload_n dX12_digits_17 rfl rfl ?_
                          refine gz_if_le (tgt := 71) dX12_digits_18 (by decide) (fun c_18_153 => ?_) (fun c_18_153 => ?_)
                          ·
                            try simp only [mIn_0, lgc_lt, lgc_gt, lgc_le, lgc_ge, lgc_eq] at c_18_153
                            try simp only [fl_lt, fl_le, fl_eq, fL_w, fL_lt, fL_le, tm1, tm10k, tm9, tm99, Int32.reduceToInt, Int64.reduceToInt, Int.not_lt, Int.not_le] at c_18_153
                            refine gz_aload_n dX12_digits_71 rfl rfl ?_
                            refine gz_iconst (v := 1) dX12_digits_72 (by decide) ?_
                            refine mp_544 hS_167 ⟨rfl, rfl⟩ dX12_digits_73 (fun f_168 hS_168 => ?_)
                            exact gz_vret rfl dX12_digits_76 (Nat.le_of_ble_eq_true rfl) (Nat.le_of_ble_eq_true rfl) (⟨rfl, _, _, _, _, hS_168, (fx_n (fx_n (fx_F (fx_n (fx_F (fx_n (fx_F (fx_n (fx_F (fx_tr fx_rf hx127 (by decide)) (by decide)) (by decide)) (by decide)) (by decide)) (by decide)) (by decide)) (by decide)) (by decide)) (by decide)), (by (try rw [(show (va_up (va_up (va_up (va_up (va_up n_127 88 ((n_127 88) + 1)) 88 (((n_127 88) + 1) + 1)) 88 ((((n_127 88) + 1) + 1) + 1)) 88 (((((n_127 88) + 1) + 1) + 1) + 1)) 89 1) 88 = (((((n_127 88) + 1) + 1) + 1) + 1) from rfl)]); have q1_ := (T_add (T_add (T_add (T_add (rfl : ((n_127 88)).toInt = ((n_127 88)).toInt) (show (1 : Int32).toInt = 1 from rfl) (by omega)) (show (1 : Int32).toInt = 1 from rfl) (by omega)) (show (1 : Int32).toInt = 1 from rfl) (by omega)) (show (1 : Int32).toInt = 1 from rfl) (by omega)); omega), (by (try rw [(show (va_up (va_up (va_up (va_up (va_up n_127 88 ((n_127 88) + 1)) 88 (((n_127 88) + 1) + 1)) 88 ((((n_127 88) + 1) + 1) + 1)) 88 (((((n_127 88) + 1) + 1) + 1) + 1)) 89 1) 88 = (((((n_127 88) + 1) + 1) + 1) + 1) from rfl)]); have q1_ := (T_add (T_add (T_add (T_add (rfl : ((n_127 88)).toInt = ((n_127 88)).toInt) (show (1 : Int32).toInt = 1 from rfl) (by omega)) (show (1 : Int32).toInt = 1 from rfl) (by omega)) (show (1 : Int32).toInt = 1 from rfl) (by omega)) (show (1 : Int32).toInt = 1 from rfl) (by omega)); omega)⟩)
                          · exact absurd c_18_153 (by decide)
                        ·
                          try simp only [mIn_0, lgc_lt, lgc_gt, lgc_le, lgc_ge, lgc_eq] at c_23_152
                          try simp only [fl_lt, fl_le, fl_eq, fL_w, fL_lt, fL_le, tm1, tm10k, tm9, tm99, Int32.reduceToInt, Int64.reduceToInt, Int.not_lt, Int.not_le] at c_23_152
                          refine gz_iload_n dX12_digits_26 rfl rfl ?_
                          refine gz_iconst (v := 1) dX12_digits_27 (by decide) ?_
                          refine gz_icmp_le (tgt := 34) dX12_digits_28 (by decide) (fun c_28_154 => ?_) (fun c_28_154 => ?_)
                          ·
                            try simp only [mIn_0, lgc_lt, lgc_gt, lgc_le, lgc_ge, lgc_eq] at c_28_154
                            try simp only [fl_lt, fl_le, fl_eq, fL_w, fL_lt, fL_le, tm1, tm10k, tm9, tm99, Int32.reduceToInt, Int64.reduceToInt, Int.not_lt, Int.not_le] at c_28_154
                            refine gz_aload_n dX12_digits_34 rfl rfl ?_
                            refine mg_240 hS_165 dX12_digits_35 ?_
                            refine gz_aload_n dX12_digits_38 rfl rfl ?_
                            refine mg_541 hS_165 dX12_digits_39 ?_
                            refine gz_ev (w := .int ((((n_127 88) + 1) + 1) + 1)) rfl ?_
                            refine gz_bipush (v := 48) dX12_digits_42 (by decide) ?_
                            refine gz_iload_n dX12_digits_44 rfl rfl ?_
                            refine gz_iload_n dX12_digits_45 rfl rfl ?_
                            refine gz_idiv dX12_digits_46 (by decide) ?_
                            refine gz_bipush (v := 10) dX12_digits_47 (by decide) ?_
                            refine gz_irem dX12_digits_49 (by decide) ?_
                            refine gz_iadd dX12_digits_50 ?_
                            refine gz_i2b dX12_digits_51 ?_
                            refine m_bast 87 hS_165 rfl (N := 1000) rfl ((by have q9 := (T_add (T_add (T_add (rfl : ((n_127 88)).toInt = ((n_127 88)).toInt) (show (1 : Int32).toInt = 1 from rfl) (by omega)) (show (1 : Int32).toInt = 1 from rfl) (by omega)) (show (1 : Int32).toInt = 1 from rfl) (by omega)); exact vin_T q9 (by omega) (by omega))) dX12_digits_52 (fun f_169 hS_169q => ?_)
                            have hS_169 : mS cy m a f0 (va_up (va_up (va_up n_127 88 ((n_127 88) + 1)) 88 (((n_127 88) + 1) + 1)) 88 ((((n_127 88) + 1) + 1) + 1)) z_127 (va_up (va_up (va_up (va_up F_127 87 (upd (F_127 87) (Int32.toNatClampNeg (n_127 88)) (vp_nar .byte ((48 + ((x1 / 10000) - (x1 / 10000) / 10 * 10)).toInt8.toInt32)))) 87 (upd (upd (F_127 87) (Int32.toNatClampNeg (n_127 88)) (vp_nar .byte ((48 + ((x1 / 10000) - (x1 / 10000) / 10 * 10)).toInt8.toInt32))) (Int32.toNatClampNeg ((n_127 88) + 1)) (vp_nar .byte ((48 + ((x1 / 100) - (x1 / 100) / 10 * 10)).toInt8.toInt32)))) 87 (upd (upd (upd (F_127 87) (Int32.toNatClampNeg (n_127 88)) (vp_nar .byte ((48 + ((x1 / 10000) - (x1 / 10000) / 10 * 10)).toInt8.toInt32))) (Int32.toNatClampNeg ((n_127 88) + 1)) (vp_nar .byte ((48 + ((x1 / 100) - (x1 / 100) / 10 * 10)).toInt8.toInt32))) (Int32.toNatClampNeg (((n_127 88) + 1) + 1)) (vp_nar .byte ((48 + ((x1 / 10) - (x1 / 10) / 10 * 10)).toInt8.toInt32)))) 87 (upd (upd (upd (upd (F_127 87) (Int32.toNatClampNeg (n_127 88)) (vp_nar .byte ((48 + ((x1 / 10000) - (x1 / 10000) / 10 * 10)).toInt8.toInt32))) (Int32.toNatClampNeg ((n_127 88) + 1)) (vp_nar .byte ((48 + ((x1 / 100) - (x1 / 100) / 10 * 10)).toInt8.toInt32))) (Int32.toNatClampNeg (((n_127 88) + 1) + 1)) (vp_nar .byte ((48 + ((x1 / 10) - (x1 / 10) / 10 * 10)).toInt8.toInt32))) (Int32.toNatClampNeg ((((n_127 88) + 1) + 1) + 1)) (vp_nar .byte ((48 + ((x1 / 1) - (x1 / 1) / 10 * 10)).toInt8.toInt32)))) G_127 f_169 := hS_169q
                            refine gz_aload_n dX12_digits_53 rfl rfl ?_
                            refine gz_dup dX12_digits_54 rfl ?_
                            refine mg_541 hS_169 dX12_digits_55 ?_
                            refine gz_ev (w := .int ((((n_127 88) + 1) + 1) + 1)) rfl ?_
                            refine gz_iconst (v := 1) dX12_digits_58 (by decide) ?_
                            refine gz_iadd dX12_digits_59 ?_
                            refine mp_541 hS_169 dX12_digits_60 (fun f_170 hS_170 => ?_)
                            refine gz_iload_n dX12_digits_63 rfl rfl ?_
                            refine gz_bipush (v := 10) dX12_digits_64 (by decide) ?_
                            refine gz_idiv dX12_digits_66 (by decide) ?_
                            refine gz_ev (w := .int 0) (by decide) ?_
                            refine gz_istore_n (lv' := [(2, .int 0), (0, .ref m), (1, .int x1)]) dX12_digits_67 rfl (by decide) rfl ?_
                            refine gz_goto (tgt := 17) dX12_digits_68 (by decide) ?_
                            refine gz_iload_n dX12_digits_17 rfl rfl ?_
                            refine gz_if_le (tgt := 71) dX12_digits_18 (by decide) (fun c_18_155 => ?_) (fun c_18_155 => ?_)
                            ·
                              try simp only [mIn_0, lgc_lt, lgc_gt, lgc_le, lgc_ge, lgc_eq] at c_18_155
                              try simp only [fl_lt, fl_le, fl_eq, fL_w, fL_lt, fL_le, tm1, tm10k, tm9, tm99, Int32.reduceToInt, Int64.reduceToInt, Int.not_lt, Int.not_le] at c_18_155
                              refine gz_aload_n dX12_digits_71 rfl rfl ?_
                              refine gz_iconst (v := 1) dX12_digits_72 (by decide) ?_
                              refine mp_544 hS_170 ⟨rfl, rfl⟩ dX12_digits_73 (fun f_171 hS_171 => ?_)
                              exact gz_vret rfl dX12_digits_76 (Nat.le_of_ble_eq_true rfl) (Nat.le_of_ble_eq_true rfl) (⟨rfl, _, _, _, _, hS_171, (fx_n (fx_n (fx_F (fx_n (fx_F (fx_n (fx_F (fx_n (fx_F (fx_tr fx_rf hx127 (by decide)) (by decide)) (by decide)) (by decide)) (by decide)) (by decide)) (by decide)) (by decide)) (by decide)) (by decide)), (by (try rw [(show (va_up (va_up (va_up (va_up (va_up n_127 88 ((n_127 88) + 1)) 88 (((n_127 88) + 1) + 1)) 88 ((((n_127 88) + 1) + 1) + 1)) 88 (((((n_127 88) + 1) + 1) + 1) + 1)) 89 1) 88 = (((((n_127 88) + 1) + 1) + 1) + 1) from rfl)]); have q1_ := (T_add (T_add (T_add (T_add (rfl : ((n_127 88)).toInt = ((n_127 88)).toInt) (show (1 : Int32).toInt = 1 from rfl) (by omega)) (show (1 : Int32).toInt = 1 from rfl) (by omega)) (show (1 : Int32).toInt = 1 from rfl) (by omega)) (show (1 : Int32).toInt = 1 from rfl) (by omega)); omega), (by (try rw [(show (va_up (va_up (va_up (va_up (va_up n_127 88 ((n_127 88) + 1)) 88 (((n_127 88) + 1) + 1)) 88 ((((n_127 88) + 1) + 1) + 1)) 88 (((((n_127 88) + 1) + 1) + 1) + 1)) 89 1) 88 = (((((n_127 88) + 1) + 1) + 1) + 1) from rfl)]); have q1_ := (T_add (T_add (T_add (T_add (rfl : ((n_127 88)).toInt = ((n_127 88)).toInt) (show (1 : Int32).toInt = 1 from rfl) (by omega)) (show (1 : Int32).toInt = 1 from rfl) (by omega)) (show (1 : Int32).toInt = 1 from rfl) (by omega)) (show (1 : Int32).toInt = 1 from rfl) (by omega)); omega)⟩)
                            · exact absurd c_18_155 (by decide)
                          · exact absurd c_28_154 (by decide)
                    ·
                      try simp only [mIn_0, lgc_lt, lgc_gt, lgc_le, lgc_ge, lgc_eq] at c_23_150
                      try simp only [fl_lt, fl_le, fl_eq, fL_w, fL_lt, fL_le, tm1, tm10k, tm9, tm99, Int32.reduceToInt, Int64.reduceToInt, Int.not_lt, Int.not_le] at c_23_150
                      refine gz_iload_n dX12_digits_26 rfl rfl ?_
                      refine gz_iconst (v := 1) dX12_digits_27 (by decide) ?_
                      refine gz_icmp_le (tgt := 34) dX12_digits_28 (by decide) (fun c_28_156 => ?_) (fun c_28_156 => ?_)
                      · exact absurd c_28_156 (by decide)
                      ·
                        try simp only [mIn_0, lgc_lt, lgc_gt, lgc_le, lgc_ge, lgc_eq] at c_28_156
                        try simp only [fl_lt, fl_le, fl_eq, fL_w, fL_lt, fL_le, tm1, tm10k, tm9, tm99, Int32.reduceToInt, Int64.reduceToInt, Int.not_lt, Int.not_le] at c_28_156
                        refine gz_goto (tgt := 63) dX12_digits_31 (by decide) ?_
                        refine gz_iload_n dX12_digits_63 rfl rfl ?_
                        refine gz_bipush (v := 10) dX12_digits_64 (by decide) ?_
                        refine gz_idiv dX12_digits_66 (by decide) ?_
                        refine gz_ev (w := .int 1) (by decide) ?_
                        refine gz_istore_n (lv' := [(2, .int 1), (0, .ref m), (1, .int x1)]) dX12_digits_67 rfl (by decide) rfl ?_
                        refine gz_goto (tgt := 17) dX12_digits_68 (by decide) ?_
                        refine gz_iload_n dX12_digits_17 rfl rfl ?_
                        refine gz_if_le (tgt := 71) dX12_digits_18 (by decide) (fun c_18_157 => ?_) (fun c_18_157 => ?_)
                        · exact absurd c_18_157 (by decide)
                        ·
                          try simp only [mIn_0, lgc_lt, lgc_gt, lgc_le, lgc_ge, lgc_eq] at c_18_157
                          try simp only [fl_lt, fl_le, fl_eq, fL_w, fL_lt, fL_le, tm1, tm10k, tm9, tm99, Int32.reduceToInt, Int64.reduceToInt, Int.not_lt, Int.not_le] at c_18_157
                          refine gz_iload_n dX12_digits_21 rfl rfl ?_
                          refine gz_iload_n dX12_digits_22 rfl rfl ?_
                          refine gz_icmp_ge (tgt := 34) dX12_digits_23 (by decide) (fun c_23_158 => ?_) (fun c_23_158 => ?_)
                          ·
                            try simp only [mIn_0, lgc_lt, lgc_gt, lgc_le, lgc_ge, lgc_eq] at c_23_158
                            try simp only [fl_lt, fl_le, fl_eq, fL_w, fL_lt, fL_le, tm1, tm10k, tm9, tm99, Int32.reduceToInt, Int64.reduceToInt, Int.not_lt, Int.not_le] at c_23_158
                            refine gz_aload_n dX12_digits_34 rfl rfl ?_
                            refine mg_240 hS_163 dX12_digits_35 ?_
                            refine gz_aload_n dX12_digits_38 rfl rfl ?_
                            refine mg_541 hS_163 dX12_digits_39 ?_
                            refine gz_ev (w := .int (((n_127 88) + 1) + 1)) rfl ?_
                            refine gz_bipush (v := 48) dX12_digits_42 (by decide) ?_
                            refine gz_iload_n dX12_digits_44 rfl rfl ?_
                            refine gz_iload_n dX12_digits_45 rfl rfl ?_
                            refine gz_idiv dX12_digits_46 (by decide) ?_
                            refine gz_bipush (v := 10) dX12_digits_47 (by decide) ?_
                            refine gz_irem dX12_digits_49 (by decide) ?_
                            refine gz_iadd dX12_digits_50 ?_
                            refine gz_i2b dX12_digits_51 ?_
                            refine m_bast 87 hS_163 rfl (N := 1000) rfl ((by have q9 := (T_add (T_add (rfl : ((n_127 88)).toInt = ((n_127 88)).toInt) (show (1 : Int32).toInt = 1 from rfl) (by omega)) (show (1 : Int32).toInt = 1 from rfl) (by omega)); exact vin_T q9 (by omega) (by omega))) dX12_digits_52 (fun f_172 hS_172q => ?_)
                            have hS_172 : mS cy m a f0 (va_up (va_up n_127 88 ((n_127 88) + 1)) 88 (((n_127 88) + 1) + 1)) z_127 (va_up (va_up (va_up F_127 87 (upd (F_127 87) (Int32.toNatClampNeg (n_127 88)) (vp_nar .byte ((48 + ((x1 / 10000) - (x1 / 10000) / 10 * 10)).toInt8.toInt32)))) 87 (upd (upd (F_127 87) (Int32.toNatClampNeg (n_127 88)) (vp_nar .byte ((48 + ((x1 / 10000) - (x1 / 10000) / 10 * 10)).toInt8.toInt32))) (Int32.toNatClampNeg ((n_127 88) + 1)) (vp_nar .byte ((48 + ((x1 / 100) - (x1 / 100) / 10 * 10)).toInt8.toInt32)))) 87 (upd (upd (upd (F_127 87) (Int32.toNatClampNeg (n_127 88)) (vp_nar .byte ((48 + ((x1 / 10000) - (x1 / 10000) / 10 * 10)).toInt8.toInt32))) (Int32.toNatClampNeg ((n_127 88) + 1)) (vp_nar .byte ((48 + ((x1 / 100) - (x1 / 100) / 10 * 10)).toInt8.toInt32))) (Int32.toNatClampNeg (((n_127 88) + 1) + 1)) (vp_nar .byte ((48 + ((x1 / 1) - (x1 / 1) / 10 * 10)).toInt8.toInt32)))) G_127 f_172 := hS_172q
                            refine gz_aload_n dX12_digits_53 rfl rfl ?_
                            refine gz_dup dX12_digits_54 rfl ?_
                            refine mg_541 hS_172 dX12_digits_55 ?_
                            refine gz_ev (w := .int (((n_127 88) + 1) + 1)) rfl ?_
                            refine gz_iconst (v := 1) dX12_digits_58 (by decide) ?_
                            refine gz_iadd dX12_digits_59 ?_
                            refine mp_541 hS_172 dX12_digits_60 (fun f_173 hS_173 => ?_)
                            refine gz_iload_n dX12_digits_63 rfl rfl ?_
                            refine gz_bipush (v := 10) dX12_digits_64 (by decide) ?_
                            refine gz_idiv dX12_digits_66 (by decide) ?_
                            refine gz_ev (w := .int 0) (by decide) ?_
                            refine gz_istore_n (lv' := [(2, .int 0), (0, .ref m), (1, .int x1)]) dX12_digits_67 rfl (by decide) rfl ?_
                            refine gz_goto (tgt := 17) dX12_digits_68 (by decide) ?_
                            refine gz_iload_n dX12_digits_17 rfl rfl ?_
                            refine gz_if_le (tgt := 71) dX12_digits_18 (by decide) (fun c_18_159 => ?_) (fun c_18_159 => ?_)
                            ·
                              try simp only [mIn_0, lgc_lt, lgc_gt, lgc_le, lgc_ge, lgc_eq] at c_18_159
                              try simp only [fl_lt, fl_le, fl_eq, fL_w, fL_lt, fL_le, tm1, tm10k, tm9, tm99, Int32.reduceToInt, Int64.reduceToInt, Int.not_lt, Int.not_le] at c_18_159
                              refine gz_aload_n dX12_digits_71 rfl rfl ?_
                              refine gz_iconst (v := 1) dX12_digits_72 (by decide) ?_
                              refine mp_544 hS_173 ⟨rfl, rfl⟩ dX12_digits_73 (fun f_174 hS_174 => ?_)
                              exact gz_vret rfl dX12_digits_76 (Nat.le_of_ble_eq_true rfl) (Nat.le_of_ble_eq_true rfl) (⟨rfl, _, _, _, _, hS_174, (fx_n (fx_n (fx_F (fx_n (fx_F (fx_n (fx_F (fx_tr fx_rf hx127 (by decide)) (by decide)) (by decide)) (by decide)) (by decide)) (by decide)) (by decide)) (by decide)), (by (try rw [(show (va_up (va_up (va_up (va_up n_127 88 ((n_127 88) + 1)) 88 (((n_127 88) + 1) + 1)) 88 ((((n_127 88) + 1) + 1) + 1)) 89 1) 88 = ((((n_127 88) + 1) + 1) + 1) from rfl)]); have q1_ := (T_add (T_add (T_add (rfl : ((n_127 88)).toInt = ((n_127 88)).toInt) (show (1 : Int32).toInt = 1 from rfl) (by omega)) (show (1 : Int32).toInt = 1 from rfl) (by omega)) (show (1 : Int32).toInt = 1 from rfl) (by omega)); omega), (by (try rw [(show (va_up (va_up (va_up (va_up n_127 88 ((n_127 88) + 1)) 88 (((n_127 88) + 1) + 1)) 88 ((((n_127 88) + 1) + 1) + 1)) 89 1) 88 = ((((n_127 88) + 1) + 1) + 1) from rfl)]); have q1_ := (T_add (T_add (T_add (rfl : ((n_127 88)).toInt = ((n_127 88)).toInt) (show (1 : Int32).toInt = 1 from rfl) (by omega)) (show (1 : Int32).toInt = 1 from rfl) (by omega)) (show (1 : Int32).toInt = 1 from rfl) (by omega)); omega)⟩)
                            · exact absurd c_18_159 (by decide)
                          ·
                            try simp only [mIn_0, lgc_lt, lgc_gt, lgc_le, lgc_ge, lgc_eq] at c_23_158
                            try simp only [fl_lt, fl_le, fl_eq, fL_w, fL_lt, fL_le, tm1, tm10k, tm9, tm99, Int32.reduceToInt, Int64.reduceToInt, Int.not_lt, Int.not_le] at c_23_158
                            refine gz_iload_n dX12_digits_26 rfl rfl ?_
                            refine gz_iconst (v := 1) dX12_digits_27 (by decide) ?_
                            refine gz_icmp_le (tgt := 34) dX12_digits_28 (by decide) (fun c_28_160 => ?_) (fun c_28_160 => ?_)
                            ·
                              try simp only [mIn_0, lgc_lt, lgc_gt, lgc_le, lgc_ge, lgc_eq] at c_28_160
                              try simp only [fl_lt, fl_le, fl_eq, fL_w, fL_lt, fL_le, tm1, tm10k, tm9, tm99, Int32.reduceToInt, Int64.reduceToInt, Int.not_lt, Int.not_le] at c_28_160
                              refine gz_aload_n dX12_digits_34 rfl rfl ?_
                              refine mg_240 hS_163 dX12_digits_35 ?_
                              refine gz_aload_n dX12_digits_38 rfl rfl ?_
                              refine mg_541 hS_163 dX12_digits_39 ?_
                              refine gz_ev (w := .int (((n_127 88) + 1) + 1)) rfl ?_
                              refine gz_bipush (v := 48) dX12_digits_42 (by decide) ?_
                              refine gz_iload_n dX12_digits_44 rfl rfl ?_
                              refine gz_iload_n dX12_digits_45 rfl rfl ?_
                              refine gz_idiv dX12_digits_46 (by decide) ?_
                              refine gz_bipush (v := 10) dX12_digits_47 (by decide) ?_
                              refine gz_irem dX12_digits_49 (by decide) ?_
                              refine gz_iadd dX12_digits_50 ?_
                              refine gz_i2b dX12_digits_51 ?_
                              refine m_bast 87 hS_163 rfl (N := 1000) rfl ((by have q9 := (T_add (T_add (rfl : ((n_127 88)).toInt = ((n_127 88)).toInt) (show (1 : Int32).toInt = 1 from rfl) (by omega)) (show (1 : Int32).toInt = 1 from rfl) (by omega)); exact vin_T q9 (by omega) (by omega))) dX12_digits_52 (fun f_175 hS_175q => ?_)
                              have hS_175 : mS cy m a f0 (va_up (va_up n_127 88 ((n_127 88) + 1)) 88 (((n_127 88) + 1) + 1)) z_127 (va_up (va_up (va_up F_127 87 (upd (F_127 87) (Int32.toNatClampNeg (n_127 88)) (vp_nar .byte ((48 + ((x1 / 10000) - (x1 / 10000) / 10 * 10)).toInt8.toInt32)))) 87 (upd (upd (F_127 87) (Int32.toNatClampNeg (n_127 88)) (vp_nar .byte ((48 + ((x1 / 10000) - (x1 / 10000) / 10 * 10)).toInt8.toInt32))) (Int32.toNatClampNeg ((n_127 88) + 1)) (vp_nar .byte ((48 + ((x1 / 100) - (x1 / 100) / 10 * 10)).toInt8.toInt32)))) 87 (upd (upd (upd (F_127 87) (Int32.toNatClampNeg (n_127 88)) (vp_nar .byte ((48 + ((x1 / 10000) - (x1 / 10000) / 10 * 10)).toInt8.toInt32))) (Int32.toNatClampNeg ((n_127 88) + 1)) (vp_nar .byte ((48 + ((x1 / 100) - (x1 / 100) / 10 * 10)).toInt8.toInt32))) (Int32.toNatClampNeg (((n_127 88) + 1) + 1)) (vp_nar .byte ((48 + ((x1 / 1) - (x1 / 1) / 10 * 10)).toInt8.toInt32)))) G_127 f_175 := hS_175q
                              refine gz_aload_n dX12_digits_53 rfl rfl ?_
                              refine gz_dup dX12_digits_54 rfl ?_
                              refine mg_541 hS_175 dX12_digits_55 ?_
                              refine gz_ev (w := .int (((n_127 88) + 1) + 1)) rfl ?_
                              refine gz_iconst (v := 1) dX12_digits_58 (by decide) ?_
                              refine gz_iadd dX12_digits_59 ?_
                              refine mp_541 hS_175 dX12_digits_60 (fun f_176 hS_176 => ?_)
                              refine gz_iload_n dX12_digits_63 rfl rfl ?_
                              refine gz_bipush (v := 10) dX12_digits_64 (by decide) ?_
                              refine gz_idiv dX12_digits_66 (by decide) ?_
                              refine gz_ev (w := .int 0) (by decide) ?_
                              refine gz_istore_n (lv' := [(2, .int 0), (0, .ref m), (1, .int x1)]) dX12_digits_67 rfl (by decide) rfl ?_
                              refine gz_goto (tgt := 17) dX12_digits_68 (by decide) ?_
                              refine gz_iload_n dX12_digits_17 rfl rfl ?_
                              refine gz_if_le (tgt := 71) dX12_digits_18 (by decide) (fun c_18_161 => ?_) (fun c_18_161 => ?_)
                              ·
                                try simp only [mIn_0, lgc_lt, lgc_gt, lgc_le, lgc_ge, lgc_eq] at c_18_161
                                try simp only [fl_lt, fl_le, fl_eq, fL_w, fL_lt, fL_le, tm1, tm10k, tm9, tm99, Int32.reduceToInt, Int64.reduceToInt, Int.not_lt, Int.not_le] at c_18_161
                                refine gz_aload_n dX12_digits_71 rfl rfl ?_
                                refine gz_iconst (v := 1) dX12_digits_72 (by decide) ?_
                                refine mp_544 hS_176 ⟨rfl, rfl⟩ dX12_digits_73 (fun f_177 hS_177 => ?_)
                                exact gz_vret rfl dX12_digits_76 (Nat.le_of_ble_eq_true rfl) (Nat.le_of_ble_eq_true rfl) (⟨rfl, _, _, _, _, hS_177, (fx_n (fx_n (fx_F (fx_n (fx_F (fx_n (fx_F (fx_tr fx_rf hx127 (by decide)) (by decide)) (by decide)) (by decide)) (by decide)) (by decide)) (by decide)) (by decide)), (by (try rw [(show (va_up (va_up (va_up (va_up n_127 88 ((n_127 88) + 1)) 88 (((n_127 88) + 1) + 1)) 88 ((((n_127 88) + 1) + 1) + 1)) 89 1) 88 = ((((n_127 88) + 1) + 1) + 1) from rfl)]); have q1_ := (T_add (T_add (T_add (rfl : ((n_127 88)).toInt = ((n_127 88)).toInt) (show (1 : Int32).toInt = 1 from rfl) (by omega)) (show (1 : Int32).toInt = 1 from rfl) (by omega)) (show (1 : Int32).toInt = 1 from rfl) (by omega)); omega), (by (try rw [(show (va_up (va_up (va_up (va_up n_127 88 ((n_127 88) + 1)) 88 (((n_127 88) + 1) + 1)) 88 ((((n_127 88) + 1) + 1) + 1)) 89 1) 88 = ((((n_127 88) + 1) + 1) + 1) from rfl)]); have q1_ := (T_add (T_add (T_add (rfl : ((n_127 88)).toInt = ((n_127 88)).toInt) (show (1 : Int32).toInt = 1 from rfl) (by omega)) (show (1 : Int32).toInt = 1 from rfl) (by omega)) (show (1 : Int32).toInt = 1 from rfl) (by omega)); omega)⟩)
                              · exact absurd c_18_161 (by decide)
                            · exact absurd c_28_160 (by decide)
                ·
                  try simp only [mIn_0, lgc_lt, lgc_gt, lgc_le, lgc_ge, lgc_eq] at c_23_148
                  try simp only [fl_lt, fl_le, fl_eq, fL_w, fL_lt, fL_le, tm1, tm10k, tm9, tm99, Int32.reduceToInt, Int64.reduceToInt, Int.not_lt, Int.not_le] at c_23_148
                  refine gz_iload_n dX12_digits_26 rfl rfl ?_
                  refine gz_iconst (v := 1) dX12_digits_27 (by decide) ?_
                  refine gz_icmp_le (tgt := 34) dX12_digits_28 (by decide) (fun c_28_162 => ?_) (fun c_28_162 => ?_)
                  · exact absurd c_28_162 (by decide)
                  ·
                    try simp only [mIn_0, lgc_lt, lgc_gt, lgc_le, lgc_ge, lgc_eq] at c_28_162
                    try simp only [fl_lt, fl_le, fl_eq, fL_w, fL_lt, fL_le, tm1, tm10k, tm9, tm99, Int32.reduceToInt, Int64.reduceToInt, Int.not_lt, Int.not_le] at c_28_162
                    refine gz_goto (tgt := 63) dX12_digits_31 (by decide) ?_
                    refine gz_iload_n dX12_digits_63 rfl rfl ?_
                    refine gz_bipush (v := 10) dX12_digits_64 (by decide) ?_
                    refine gz_idiv dX12_digits_66 (by decide) ?_
                    refine gz_ev (w := .int 10) (by decide) ?_
                    refine gz_istore_n (lv' := [(2, .int 10), (0, .ref m), (1, .int x1)]) dX12_digits_67 rfl (by decide) rfl ?_
                    refine gz_goto (tgt := 17) dX12_digits_68 (by decide) ?_
                    refine gz_iload_n dX12_digits_17 rfl rfl ?_
                    refine gz_if_le (tgt := 71) dX12_digits_18 (by decide) (fun c_18_163 => ?_) (fun c_18_163 => ?_)
                    · exact absurd c_18_163 (by decide)
                    ·
                      try simp only [mIn_0, lgc_lt, lgc_gt, lgc_le, lgc_ge, lgc_eq] at c_18_163
                      try simp only [fl_lt, fl_le, fl_eq, fL_w, fL_lt, fL_le, tm1, tm10k, tm9, tm99, Int32.reduceToInt, Int64.reduceToInt, Int.not_lt, Int.not_le] at c_18_163
                      refine gz_iload_n dX12_digits_21 rfl rfl ?_
                      refine gz_iload_n dX12_digits_22 rfl rfl ?_
                      refine gz_icmp_ge (tgt := 34) dX12_digits_23 (by decide) (fun c_23_164 => ?_) (fun c_23_164 => ?_)
                      ·
                        try simp only [mIn_0, lgc_lt, lgc_gt, lgc_le, lgc_ge, lgc_eq] at c_23_164
                        try simp only [fl_lt, fl_le, fl_eq, fL_w, fL_lt, fL_le, tm1, tm10k, tm9, tm99, Int32.reduceToInt, Int64.reduceToInt, Int.not_lt, Int.not_le] at c_23_164
                        refine gz_aload_n dX12_digits_34 rfl rfl ?_
                        refine mg_240 hS_129 dX12_digits_35 ?_
                        refine gz_aload_n dX12_digits_38 rfl rfl ?_
                        refine mg_541 hS_129 dX12_digits_39 ?_
                        refine gz_ev (w := .int ((n_127 88) + 1)) rfl ?_
                        refine gz_bipush (v := 48) dX12_digits_42 (by decide) ?_
                        refine gz_iload_n dX12_digits_44 rfl rfl ?_
                        refine gz_iload_n dX12_digits_45 rfl rfl ?_
                        refine gz_idiv dX12_digits_46 (by decide) ?_
                        refine gz_bipush (v := 10) dX12_digits_47 (by decide) ?_
                        refine gz_irem dX12_digits_49 (by decide) ?_
                        refine gz_iadd dX12_digits_50 ?_
                        refine gz_i2b dX12_digits_51 ?_
                        refine m_bast 87 hS_129 rfl (N := 1000) rfl ((by have q9 := (T_add (rfl : ((n_127 88)).toInt = ((n_127 88)).toInt) (show (1 : Int32).toInt = 1 from rfl) (by omega)); exact vin_T q9 (by omega) (by omega))) dX12_digits_52 (fun f_178 hS_178q => ?_)
                        have hS_178 : mS cy m a f0 (va_up n_127 88 ((n_127 88) + 1)) z_127 (va_up (va_up F_127 87 (upd (F_127 87) (Int32.toNatClampNeg (n_127 88)) (vp_nar .byte ((48 + ((x1 / 10000) - (x1 / 10000) / 10 * 10)).toInt8.toInt32)))) 87 (upd (upd (F_127 87) (Int32.toNatClampNeg (n_127 88)) (vp_nar .byte ((48 + ((x1 / 10000) - (x1 / 10000) / 10 * 10)).toInt8.toInt32))) (Int32.toNatClampNeg ((n_127 88) + 1)) (vp_nar .byte ((48 + ((x1 / 10) - (x1 / 10) / 10 * 10)).toInt8.toInt32)))) G_127 f_178 := hS_178q
                        refine gz_aload_n dX12_digits_53 rfl rfl ?_
                        refine gz_dup dX12_digits_54 rfl ?_
                        refine mg_541 hS_178 dX12_digits_55 ?_
                        refine gz_ev (w := .int ((n_127 88) + 1)) rfl ?_
                        refine gz_iconst (v := 1) dX12_digits_58 (by decide) ?_
                        refine gz_iadd dX12_digits_59 ?_
                        refine mp_541 hS_178 dX12_digits_60 (fun f_179 hS_179 => ?_)
                        refine gz_iload_n dX12_digits_63 rfl rfl ?_
                        refine gz_bipush (v := 10) dX12_digits_64 (by decide) ?_
                        refine gz_idiv dX12_digits_66 (by decide) ?_
                        refine gz_ev (w := .int 1) (by decide) ?_
                        refine gz_istore_n (lv' := [(2, .int 1), (0, .ref m), (1, .int x1)]) dX12_digits_67 rfl (by decide) rfl ?_
                        refine gz_goto (tgt := 17) dX12_digits_68 (by decide) ?_
                        refine gz_iload_n dX12_digits_17 rfl rfl ?_
                        refine gz_if_le (tgt := 71) dX12_digits_18 (by decide) (fun c_18_165 => ?_) (fun c_18_165 => ?_)
                        · exact absurd c_18_165 (by decide)
                        ·
                          try simp only [mIn_0, lgc_lt, lgc_gt, lgc_le, lgc_ge, lgc_eq] at c_18_165
                          try simp only [fl_lt, fl_le, fl_eq, fL_w, fL_lt, fL_le, tm1, tm10k, tm9, tm99, Int32.reduceToInt, Int64.reduceToInt, Int.not_lt, Int.not_le] at c_18_165
                          refine gz_iload_n dX12_digits_21 rfl rfl ?_
                          refine gz_iload_n dX12_digits_22 rfl rfl ?_
                          refine gz_icmp_ge (tgt := 34) dX12_digits_23 (by decide) (fun c_23_166 => ?_) (fun c_23_166 => ?_)
                          ·
                            try simp only [mIn_0, lgc_lt, lgc_gt, lgc_le, lgc_ge, lgc_eq] at c_23_166
                            try simp only [fl_lt, fl_le, fl_eq, fL_w, fL_lt, fL_le, tm1, tm10k, tm9, tm99, Int32.reduceToInt, Int64.reduceToInt, Int.not_lt, Int.not_le] at c_23_166
                            refine gz_aload_n dX12_digits_34 rfl rfl ?_
                            refine mg_240 hS_179 dX12_digits_35 ?_
                            refine gz_aload_n dX12_digits_38 rfl rfl ?_
                            refine mg_541 hS_179 dX12_digits_39 ?_
                            refine gz_ev (w := .int (((n_127 88) + 1) + 1)) rfl ?_
                            refine gz_bipush (v := 48) dX12_digits_42 (by decide) ?_
                            refine gz_iload_n dX12_digits_44 rfl rfl ?_
                            refine gz_iload_n dX12_digits_45 rfl rfl ?_
                            refine gz_idiv dX12_digits_46 (by decide) ?_
                            refine gz_bipush (v := 10) dX12_digits_47 (by decide) ?_
                            refine gz_irem dX12_digits_49 (by decide) ?_
                            refine gz_iadd dX12_digits_50 ?_
                            refine gz_i2b dX12_digits_51 ?_
                            refine m_bast 87 hS_179 rfl (N := 1000) rfl ((by have q9 := (T_add (T_add (rfl : ((n_127 88)).toInt = ((n_127 88)).toInt) (show (1 : Int32).toInt = 1 from rfl) (by omega)) (show (1 : Int32).toInt = 1 from rfl) (by omega)); exact vin_T q9 (by omega) (by omega))) dX12_digits_52 (fun f_180 hS_180q => ?_)
                            have hS_180 : mS cy m a f0 (va_up (va_up n_127 88 ((n_127 88) + 1)) 88 (((n_127 88) + 1) + 1)) z_127 (va_up (va_up (va_up F_127 87 (upd (F_127 87) (Int32.toNatClampNeg (n_127 88)) (vp_nar .byte ((48 + ((x1 / 10000) - (x1 / 10000) / 10 * 10)).toInt8.toInt32)))) 87 (upd (upd (F_127 87) (Int32.toNatClampNeg (n_127 88)) (vp_nar .byte ((48 + ((x1 / 10000) - (x1 / 10000) / 10 * 10)).toInt8.toInt32))) (Int32.toNatClampNeg ((n_127 88) + 1)) (vp_nar .byte ((48 + ((x1 / 10) - (x1 / 10) / 10 * 10)).toInt8.toInt32)))) 87 (upd (upd (upd (F_127 87) (Int32.toNatClampNeg (n_127 88)) (vp_nar .byte ((48 + ((x1 / 10000) - (x1 / 10000) / 10 * 10)).toInt8.toInt32))) (Int32.toNatClampNeg ((n_127 88) + 1)) (vp_nar .byte ((48 + ((x1 / 10) - (x1 / 10) / 10 * 10)).toInt8.toInt32))) (Int32.toNatClampNeg (((n_127 88) + 1) + 1)) (vp_nar .byte ((48 + ((x1 / 1) - (x1 / 1) / 10 * 10)).toInt8.toInt32)))) G_127 f_180 := hS_180q
                            refine gz_aload_n dX12_digits_53 rfl rfl ?_
                            refine gz_dup dX12_digits_54 rfl ?_
                            refine mg_541 hS_180 dX12_digits_55 ?_
                            refine gz_ev (w := .int (((n_127 88) + 1) + 1)) rfl ?_
                            refine gz_iconst (v := 1) dX12_digits_58 (by decide) ?_
                            refine gz_iadd dX12_digits_59 ?_
                            refine mp_541 hS_180 dX12_digits_60 (fun f_181 hS_181 => ?_)
                            refine gz_iload_n dX12_digits_63 rfl rfl ?_
                            refine gz_bipush (v := 10) dX12_digits_64 (by decide) ?_
                            refine gz_idiv dX12_digits_66 (by decide) ?_
                            refine gz_ev (w := .int 0) (by decide) ?_
                            refine gz_istore_n (lv' := [(2, .int 0), (0, .ref m), (1, .int x1)]) dX12_digits_67 rfl (by decide) rfl ?_
                            refine gz_goto (tgt := 17) dX12_digits_68 (by decide) ?_
                            refine gz_iload_n dX12_digits_17 rfl rfl ?_
                            refine gz_if_le (tgt := 71) dX12_digits_18 (by decide) (fun c_18_167 => ?_) (fun c_18_167 => ?_)
                            ·
                              try simp only [mIn_0, lgc_lt, lgc_gt, lgc_le, lgc_ge, lgc_eq] at c_18_167
                              try simp only [fl_lt, fl_le, fl_eq, fL_w, fL_lt, fL_le, tm1, tm10k, tm9, tm99, Int32.reduceToInt, Int64.reduceToInt, Int.not_lt, Int.not_le] at c_18_167
                              refine gz_aload_n dX12_digits_71 rfl rfl ?_
                              refine gz_iconst (v := 1) dX12_digits_72 (by decide) ?_
                              refine mp_544 hS_181 ⟨rfl, rfl⟩ dX12_digits_73 (fun f_182 hS_182 => ?_)
                              exact gz_vret rfl dX12_digits_76 (Nat.le_of_ble_eq_true rfl) (Nat.le_of_ble_eq_true rfl) (⟨rfl, _, _, _, _, hS_182, (fx_n (fx_n (fx_F (fx_n (fx_F (fx_n (fx_F (fx_tr fx_rf hx127 (by decide)) (by decide)) (by decide)) (by decide)) (by decide)) (by decide)) (by decide)) (by decide)), (by (try rw [(show (va_up (va_up (va_up (va_up n_127 88 ((n_127 88) + 1)) 88 (((n_127 88) + 1) + 1)) 88 ((((n_127 88) + 1) + 1) + 1)) 89 1) 88 = ((((n_127 88) + 1) + 1) + 1) from rfl)]); have q1_ := (T_add (T_add (T_add (rfl : ((n_127 88)).toInt = ((n_127 88)).toInt) (show (1 : Int32).toInt = 1 from rfl) (by omega)) (show (1 : Int32).toInt = 1 from rfl) (by omega)) (show (1 : Int32).toInt = 1 from rfl) (by omega)); omega), (by (try rw [(show (va_up (va_up (va_up (va_up n_127 88 ((n_127 88) + 1)) 88 (((n_127 88) + 1) + 1)) 88 ((((n_127 88) + 1) + 1) + 1)) 89 1) 88 = ((((n_127 88) + 1) + 1) + 1) from rfl)]); have q1_ := (T_add (T_add (T_add (rfl : ((n_127 88)).toInt = ((n_127 88)).toInt) (show (1 : Int32).toInt = 1 from rfl) (by omega)) (show (1 : Int32).toInt = 1 from rfl) (by omega)) (show (1 : Int32).toInt = 1 from rfl) (by omega)); omega)⟩)
                            · exact absurd c_18_167 (by decide)
                          ·
                            try simp only [mIn_0, lgc_lt, lgc_gt, lgc_le, lgc_ge, lgc_eq] at c_23_166
                            try simp only [fl_lt, fl_le, fl_eq, fL_w, fL_lt, fL_le, tm1, tm10k, tm9, tm99, Int32.reduceToInt, Int64.reduceToInt, Int.not_lt, Int.not_le] at c_23_166
                            refine gz_iload_n dX12_digits_26 rfl rfl ?_
                            refine gz_iconst (v := 1) dX12_digits_27 (by decide) ?_
                            refine gz_icmp_le (tgt := 34) dX12_digits_28 (by decide) (fun c_28_168 => ?_) (fun c_28_168 => ?_)
                            ·
                              try simp only [mIn_0, lgc_lt, lgc_gt, lgc_le, lgc_ge, lgc_eq] at c_28_168
                              try simp only [fl_lt, fl_le, fl_eq, fL_w, fL_lt, fL_le, tm1, tm10k, tm9, tm99, Int32.reduceToInt, Int64.reduceToInt, Int.not_lt, Int.not_le] at c_28_168
                              refine gz_aload_n dX12_digits_34 rfl rfl ?_
                              refine mg_240 hS_179 dX12_digits_35 ?_
                              refine gz_aload_n dX12_digits_38 rfl rfl ?_
                              refine mg_541 hS_179 dX12_digits_39 ?_
                              refine gz_ev (w := .int (((n_127 88) + 1) + 1)) rfl ?_
                              refine gz_bipush (v := 48) dX12_digits_42 (by decide) ?_
                              refine gz_iload_n dX12_digits_44 rfl rfl ?_
                              refine gz_iload_n dX12_digits_45 rfl rfl ?_
                              refine gz_idiv dX12_digits_46 (by decide) ?_
                              refine gz_bipush (v := 10) dX12_digits_47 (by decide) ?_
                              refine gz_irem dX12_digits_49 (by decide) ?_
                              refine gz_iadd dX12_digits_50 ?_
                              refine gz_i2b dX12_digits_51 ?_
                              refine m_bast 87 hS_179 rfl (N := 1000) rfl ((by have q9 := (T_add (T_add (rfl : ((n_127 88)).toInt = ((n_127 88)).toInt) (show (1 : Int32).toInt = 1 from rfl) (by omega)) (show (1 : Int32).toInt = 1 from rfl) (by omega)); exact vin_T q9 (by omega) (by omega))) dX12_digits_52 (fun f_183 hS_183q => ?_)
                              have hS_183 : mS cy m a f0 (va_up (va_up n_127 88 ((n_127 88) + 1)) 88 (((n_127 88) + 1) + 1)) z_127 (va_up (va_up (va_up F_127 87 (upd (F_127 87) (Int32.toNatClampNeg (n_127 88)) (vp_nar .byte ((48 + ((x1 / 10000) - (x1 / 10000) / 10 * 10)).toInt8.toInt32)))) 87 (upd (upd (F_127 87) (Int32.toNatClampNeg (n_127 88)) (vp_nar .byte ((48 + ((x1 / 10000) - (x1 / 10000) / 10 * 10)).toInt8.toInt32))) (Int32.toNatClampNeg ((n_127 88) + 1)) (vp_nar .byte ((48 + ((x1 / 10) - (x1 / 10) / 10 * 10)).toInt8.toInt32)))) 87 (upd (upd (upd (F_127 87) (Int32.toNatClampNeg (n_127 88)) (vp_nar .byte ((48 + ((x1 / 10000) - (x1 / 10000) / 10 * 10)).toInt8.toInt32))) (Int32.toNatClampNeg ((n_127 88) + 1)) (vp_nar .byte ((48 + ((x1 / 10) - (x1 / 10) / 10 * 10)).toInt8.toInt32))) (Int32.toNatClampNeg (((n_127 88) + 1) + 1)) (vp_nar .byte ((48 + ((x1 / 1) - (x1 / 1) / 10 * 10)).toInt8.toInt32)))) G_127 f_183 := hS_183q
                              refine gz_aload_n dX12_digits_53 rfl rfl ?_
                              refine gz_dup dX12_digits_54 rfl ?_
                              refine mg_541 hS_183 dX12_digits_55 ?_
                              refine gz_ev (w := .int (((n_127 88) + 1) + 1)) rfl ?_
                              refine gz_iconst (v := 1) dX12_digits_58 (by decide) ?_
                              refine gz_iadd dX12_digits_59 ?_
                              refine mp_541 hS_183 dX12_digits_60 (fun f_184 hS_184 => ?_)
                              refine gz_iload_n dX12_digits_63 rfl rfl ?_
                              refine gz_bipush (v := 10) dX12_digits_64 (by decide) ?_
                              refine gz_idiv dX12_digits_66 (by decide) ?_
                              refine gz_ev (w := .int 0) (by decide) ?_
                              refine gz_istore_n (lv' := [(2, .int 0), (0, .ref m), (1, .int x1)]) dX12_digits_67 rfl (by decide) rfl ?_
                              refine gz_goto (tgt := 17) dX12_digits_68 (by decide) ?_
                              refine gz_iload_n dX12_digits_17 rfl rfl ?_
                              refine gz_if_le (tgt := 71) dX12_digits_18 (by decide) (fun c_18_169 => ?_) (fun c_18_169 => ?_)
                              ·
                                try simp only [mIn_0, lgc_lt, lgc_gt, lgc_le, lgc_ge, lgc_eq] at c_18_169
                                try simp only [fl_lt, fl_le, fl_eq, fL_w, fL_lt, fL_le, tm1, tm10k, tm9, tm99, Int32.reduceToInt, Int64.reduceToInt, Int.not_lt, Int.not_le] at c_18_169
                                refine gz_aload_n dX12_digits_71 rfl rfl ?_
                                refine gz_iconst (v := 1) dX12_digits_72 (by decide) ?_
                                refine mp_544 hS_184 ⟨rfl, rfl⟩ dX12_digits_73 (fun f_185 hS_185 => ?_)
                                exact gz_vret rfl dX12_digits_76 (Nat.le_of_ble_eq_true rfl) (Nat.le_of_ble_eq_true rfl) (⟨rfl, _, _, _, _, hS_185, (fx_n (fx_n (fx_F (fx_n (fx_F (fx_n (fx_F (fx_tr fx_rf hx127 (by decide)) (by decide)) (by decide)) (by decide)) (by decide)) (by decide)) (by decide)) (by decide)), (by (try rw [(show (va_up (va_up (va_up (va_up n_127 88 ((n_127 88) + 1)) 88 (((n_127 88) + 1) + 1)) 88 ((((n_127 88) + 1) + 1) + 1)) 89 1) 88 = ((((n_127 88) + 1) + 1) + 1) from rfl)]); have q1_ := (T_add (T_add (T_add (rfl : ((n_127 88)).toInt = ((n_127 88)).toInt) (show (1 : Int32).toInt = 1 from rfl) (by omega)) (show (1 : Int32).toInt = 1 from rfl) (by omega)) (show (1 : Int32).toInt = 1 from rfl) (by omega)); omega), (by (try rw [(show (va_up (va_up (va_up (va_up n_127 88 ((n_127 88) + 1)) 88 (((n_127 88) + 1) + 1)) 88 ((((n_127 88) + 1) + 1) + 1)) 89 1) 88 = ((((n_127 88) + 1) + 1) + 1) from rfl)]); have q1_ := (T_add (T_add (T_add (rfl : ((n_127 88)).toInt = ((n_127 88)).toInt) (show (1 : Int32).toInt = 1 from rfl) (by omega)) (show (1 : Int32).toInt = 1 from rfl) (by omega)) (show (1 : Int32).toInt = 1 from rfl) (by omega)); omega)⟩)
                              · exact absurd c_18_169 (by decide)
                            · exact absurd c_28_168 (by decide)
                      ·
                        try simp only [mIn_0, lgc_lt, lgc_gt, lgc_le, lgc_ge, lgc_eq] at c_23_164
                        try simp only [fl_lt, fl_le, fl_eq, fL_w, fL_lt, fL_le, tm1, tm10k, tm9, tm99, Int32.reduceToInt, Int64.reduceToInt, Int.not_lt, Int.not_le] at c_23_164
                        refine gz_iload_n dX12_digits_26 rfl rfl ?_
                        refine gz_iconst (v := 1) dX12_digits_27 (by decide) ?_
                        refine gz_icmp_le (tgt := 34) dX12_digits_28 (by decide) (fun c_28_170 => ?_) (fun c_28_170 => ?_)
                        · exact absurd c_28_170 (by decide)
                        ·
                          try simp only [mIn_0, lgc_lt, lgc_gt, lgc_le, lgc_ge, lgc_eq] at c_28_170
                          try simp only [fl_lt, fl_le, fl_eq, fL_w, fL_lt, fL_le, tm1, tm10k, tm9, tm99, Int32.reduceToInt, Int64.reduceToInt, Int.not_lt, Int.not_le] at c_28_170
                          refine gz_goto (tgt := 63) dX12_digits_31 (by decide) ?_
                          refine gz_iload_n dX12_digits_63 rfl rfl ?_
                          refine gz_bipush (v := 10) dX12_digits_64 (by decide) ?_
                          refine gz_idiv dX12_digits_66 (by decide) ?_
                          refine gz_ev (w := .int 1) (by decide) ?_
                          refine gz_istore_n (lv' := [(2, .int 1), (0, .ref m), (1, .int x1)]) dX12_digits_67 rfl (by decide) rfl ?_
                          refine gz_goto (tgt := 17) dX12_digits_68 (by decide) ?_
                          refine gz_iload_n dX12_digits_17 rfl rfl ?_
                          refine gz_if_le (tgt := 71) dX12_digits_18 (by decide) (fun c_18_171 => ?_) (fun c_18_171 => ?_)
                          · exact absurd c_18_171 (by decide)
                          ·
                            try simp only [mIn_0, lgc_lt, lgc_gt, lgc_le, lgc_ge, lgc_eq] at c_18_171
                            try simp only [fl_lt, fl_le, fl_eq, fL_w, fL_lt, fL_le, tm1, tm10k, tm9, tm99, Int32.reduceToInt, Int64.reduceToInt, Int.not_lt, Int.not_le] at c_18_171
                            refine gz_iload_n dX12_digits_21 rfl rfl ?_
                            refine gz_iload_n dX12_digits_22 rfl rfl ?_
                            refine gz_icmp_ge (tgt := 34) dX12_digits_23 (by decide) (fun c_23_172 => ?_) (fun c_23_172 => ?_)
                            ·
                              try simp only [mIn_0, lgc_lt, lgc_gt, lgc_le, lgc_ge, lgc_eq] at c_23_172
                              try simp only [fl_lt, fl_le, fl_eq, fL_w, fL_lt, fL_le, tm1, tm10k, tm9, tm99, Int32.reduceToInt, Int64.reduceToInt, Int.not_lt, Int.not_le] at c_23_172
                              refine gz_aload_n dX12_digits_34 rfl rfl ?_
                              refine mg_240 hS_129 dX12_digits_35 ?_
                              refine gz_aload_n dX12_digits_38 rfl rfl ?_
                              refine mg_541 hS_129 dX12_digits_39 ?_
                              refine gz_ev (w := .int ((n_127 88) + 1)) rfl ?_
                              refine gz_bipush (v := 48) dX12_digits_42 (by decide) ?_
                              refine gz_iload_n dX12_digits_44 rfl rfl ?_
                              refine gz_iload_n dX12_digits_45 rfl rfl ?_
                              refine gz_idiv dX12_digits_46 (by decide) ?_
                              refine gz_bipush (v := 10) dX12_digits_47 (by decide) ?_
                              refine gz_irem dX12_digits_49 (by decide) ?_
                              refine gz_iadd dX12_digits_50 ?_
                              refine gz_i2b dX12_digits_51 ?_
                              refine m_bast 87 hS_129 rfl (N := 1000) rfl ((by have q9 := (T_add (rfl : ((n_127 88)).toInt = ((n_127 88)).toInt) (show (1 : Int32).toInt = 1 from rfl) (by omega)); exact vin_T q9 (by omega) (by omega))) dX12_digits_52 (fun f_186 hS_186q => ?_)
                              have hS_186 : mS cy m a f0 (va_up n_127 88 ((n_127 88) + 1)) z_127 (va_up (va_up F_127 87 (upd (F_127 87) (Int32.toNatClampNeg (n_127 88)) (vp_nar .byte ((48 + ((x1 / 10000) - (x1 / 10000) / 10 * 10)).toInt8.toInt32)))) 87 (upd (upd (F_127 87) (Int32.toNatClampNeg (n_127 88)) (vp_nar .byte ((48 + ((x1 / 10000) - (x1 / 10000) / 10 * 10)).toInt8.toInt32))) (Int32.toNatClampNeg ((n_127 88) + 1)) (vp_nar .byte ((48 + ((x1 / 1) - (x1 / 1) / 10 * 10)).toInt8.toInt32)))) G_127 f_186 := hS_186q
                              refine gz_aload_n dX12_digits_53 rfl rfl ?_
                              refine gz_dup dX12_digits_54 rfl ?_
                              refine mg_541 hS_186 dX12_digits_55 ?_
                              refine gz_ev (w := .int ((n_127 88) + 1)) rfl ?_
                              refine gz_iconst (v := 1) dX12_digits_58 (by decide) ?_
                              refine gz_iadd dX12_digits_59 ?_
                              refine mp_541 hS_186 dX12_digits_60 (fun f_187 hS_187 => ?_)
                              refine gz_iload_n dX12_digits_63 rfl rfl ?_
                              refine gz_bipush (v := 10) dX12_digits_64 (by decide) ?_
                              refine gz_idiv dX12_digits_66 (by decide) ?_
                              refine gz_ev (w := .int 0) (by decide) ?_
                              refine gz_istore_n (lv' := [(2, .int 0), (0, .ref m), (1, .int x1)]) dX12_digits_67 rfl (by decide) rfl ?_
                              refine gz_goto (tgt := 17) dX12_digits_68 (by decide) ?_
                              refine gz_iload_n dX12_digits_17 rfl rfl ?_
                              refine gz_if_le (tgt := 71) dX12_digits_18 (by decide) (fun c_18_173 => ?_) (fun c_18_173 => ?_)
                              ·
                                try simp only [mIn_0, lgc_lt, lgc_gt, lgc_le, lgc_ge, lgc_eq] at c_18_173
                                try simp only [fl_lt, fl_le, fl_eq, fL_w, fL_lt, fL_le, tm1, tm10k, tm9, tm99, Int32.reduceToInt, Int64.reduceToInt, Int.not_lt, Int.not_le] at c_18_173
                                refine gz_aload_n dX12_digits_71 rfl rfl ?_
                                refine gz_iconst (v := 1) dX12_digits_72 (by decide) ?_
                                refine mp_544 hS_187 ⟨rfl, rfl⟩ dX12_digits_73 (fun f_188 hS_188 => ?_)
                                exact gz_vret rfl dX12_digits_76 (Nat.le_of_ble_eq_true rfl) (Nat.le_of_ble_eq_true rfl) (⟨rfl, _, _, _, _, hS_188, (fx_n (fx_n (fx_F (fx_n (fx_F (fx_tr fx_rf hx127 (by decide)) (by decide)) (by decide)) (by decide)) (by decide)) (by decide)), (by (try rw [(show (va_up (va_up (va_up n_127 88 ((n_127 88) + 1)) 88 (((n_127 88) + 1) + 1)) 89 1) 88 = (((n_127 88) + 1) + 1) from rfl)]); have q1_ := (T_add (T_add (rfl : ((n_127 88)).toInt = ((n_127 88)).toInt) (show (1 : Int32).toInt = 1 from rfl) (by omega)) (show (1 : Int32).toInt = 1 from rfl) (by omega)); omega), (by (try rw [(show (va_up (va_up (va_up n_127 88 ((n_127 88) + 1)) 88 (((n_127 88) + 1) + 1)) 89 1) 88 = (((n_127 88) + 1) + 1) from rfl)]); have q1_ := (T_add (T_add (rfl : ((n_127 88)).toInt = ((n_127 88)).toInt) (show (1 : Int32).toInt = 1 from rfl) (by omega)) (show (1 : Int32).toInt = 1 from rfl) (by omega)); omega)⟩)
                              · exact absurd c_18_173 (by decide)
                            ·
                              try simp only [mIn_0, lgc_lt, lgc_gt, lgc_le, lgc_ge, lgc_eq] at c_23_172
                              try simp only [fl_lt, fl_le, fl_eq, fL_w, fL_lt, fL_le, tm1, tm10k, tm9, tm99, Int32.reduceToInt, Int64.reduceToInt, Int.not_lt, Int.not_le] at c_23_172
                              refine gz_iload_n dX12_digits_26 rfl rfl ?_
                              refine gz_iconst (v := 1) dX12_digits_27 (by decide) ?_
                              refine gz_icmp_le (tgt := 34) dX12_digits_28 (by decide) (fun c_28_174 => ?_) (fun c_28_174 => ?_)
                              ·
                                try simp only [mIn_0, lgc_lt, lgc_gt, lgc_le, lgc_ge, lgc_eq] at c_28_174
                                try simp only [fl_lt, fl_le, fl_eq, fL_w, fL_lt, fL_le, tm1, tm10k, tm9, tm99, Int32.reduceToInt, Int64.reduceToInt, Int.not_lt, Int.not_le] at c_28_174
                                refine gz_aload_n dX12_digits_34 rfl rfl ?_
                                refine mg_240 hS_129 dX12_digits_35 ?_
                                refine gz_aload_n dX12_digits_38 rfl rfl ?_
                                refine mg_541 hS_129 dX12_digits_39 ?_
                                refine gz_ev (w := .int ((n_127 88) + 1)) rfl ?_
                                refine gz_bipush (v := 48) dX12_digits_42 (by decide) ?_
                                refine gz_iload_n dX12_digits_44 rfl rfl ?_
                                refine gz_iload_n dX12_digits_45 rfl rfl ?_
                                refine gz_idiv dX12_digits_46 (by decide) ?_
                                refine gz_bipush (v := 10) dX12_digits_47 (by decide) ?_
                                refine gz_irem dX12_digits_49 (by decide) ?_
                                refine gz_iadd dX12_digits_50 ?_
                                refine gz_i2b dX12_digits_51 ?_
                                refine m_bast 87 hS_129 rfl (N := 1000) rfl ((by have q9 := (T_add (rfl : ((n_127 88)).toInt = ((n_127 88)).toInt) (show (1 : Int32).toInt = 1 from rfl) (by omega)); exact vin_T q9 (by omega) (by omega))) dX12_digits_52 (fun f_189 hS_189q => ?_)
                                have hS_189 : mS cy m a f0 (va_up n_127 88 ((n_127 88) + 1)) z_127 (va_up (va_up F_127 87 (upd (F_127 87) (Int32.toNatClampNeg (n_127 88)) (vp_nar .byte ((48 + ((x1 / 10000) - (x1 / 10000) / 10 * 10)).toInt8.toInt32)))) 87 (upd (upd (F_127 87) (Int32.toNatClampNeg (n_127 88)) (vp_nar .byte ((48 + ((x1 / 10000) - (x1 / 10000) / 10 * 10)).toInt8.toInt32))) (Int32.toNatClampNeg ((n_127 88) + 1)) (vp_nar .byte ((48 + ((x1 / 1) - (x1 / 1) / 10 * 10)).toInt8.toInt32)))) G_127 f_189 := hS_189q
                                refine gz_aload_n dX12_digits_53 rfl rfl ?_
                                refine gz_dup dX12_digits_54 rfl ?_
                                refine mg_541 hS_189 dX12_digits_55 ?_
                                refine gz_ev (w := .int ((n_127 88) + 1)) rfl ?_
                                refine gz_iconst (v := 1) dX12_digits_58 (by decide) ?_
                                refine gz_iadd dX12_digits_59 ?_
                                refine mp_541 hS_189 dX12_digits_60 (fun f_190 hS_190 => ?_)
                                refine gz_iload_n dX12_digits_63 rfl rfl ?_
                                refine gz_bipush (v := 10) dX12_digits_64 (by decide) ?_
                                refine gz_idiv dX12_digits_66 (by decide) ?_
                                refine gz_ev (w := .int 0) (by decide) ?_
                                refine gz_istore_n (lv' := [(2, .int 0), (0, .ref m), (1, .int x1)]) dX12_digits_67 rfl (by decide) rfl ?_
                                refine gz_goto (tgt := 17) dX12_digits_68 (by decide) ?_
                                refine gz_iload_n dX12_digits_17 rfl rfl ?_
                                refine gz_if_le (tgt := 71) dX12_digits_18 (by decide) (fun c_18_175 => ?_) (fun c_18_175 => ?_)
                                ·
                                  try simp only [mIn_0, lgc_lt, lgc_gt, lgc_le, lgc_ge, lgc_eq] at c_18_175
                                  try simp only [fl_lt, fl_le, fl_eq, fL_w, fL_lt, fL_le, tm1, tm10k, tm9, tm99, Int32.reduceToInt, Int64.reduceToInt, Int.not_lt, Int.not_le] at c_18_175
                                  refine gz_aload_n dX12_digits_71 rfl rfl ?_
                                  refine gz_iconst (v := 1) dX12_digits_72 (by decide) ?_
                                  refine mp_544 hS_190 ⟨rfl, rfl⟩ dX12_digits_73 (fun f_191 hS_191 => ?_)
                                  exact gz_vret rfl dX12_digits_76 (Nat.le_of_ble_eq_true rfl) (Nat.le_of_ble_eq_true rfl) (⟨rfl, _, _, _, _, hS_191, (fx_n (fx_n (fx_F (fx_n (fx_F (fx_tr fx_rf hx127 (by decide)) (by decide)) (by decide)) (by decide)) (by decide)) (by decide)), (by (try rw [(show (va_up (va_up (va_up n_127 88 ((n_127 88) + 1)) 88 (((n_127 88) + 1) + 1)) 89 1) 88 = (((n_127 88) + 1) + 1) from rfl)]); have q1_ := (T_add (T_add (rfl : ((n_127 88)).toInt = ((n_127 88)).toInt) (show (1 : Int32).toInt = 1 from rfl) (by omega)) (show (1 : Int32).toInt = 1 from rfl) (by omega)); omega), (by (try rw [(show (va_up (va_up (va_up n_127 88 ((n_127 88) + 1)) 88 (((n_127 88) + 1) + 1)) 89 1) 88 = (((n_127 88) + 1) + 1) from rfl)]); have q1_ := (T_add (T_add (rfl : ((n_127 88)).toInt = ((n_127 88)).toInt) (show (1 : Int32).toInt = 1 from rfl) (by omega)) (show (1 : Int32).toInt = 1 from rfl) (by omega)); omega)⟩)
                                · exact absurd c_18_175 (by decide)
                              · exact absurd c_28_174 (by decide)
      ·
        try simp only [mIn_0, lgc_lt, lgc_gt, lgc_le, lgc_ge, lgc_eq] at c_23
        try simp only [fl_lt, fl_le, fl_eq, fL_w, fL_lt, fL_le, tm1, tm10k, tm9, tm99, Int32.reduceToInt, Int64.reduceToInt, Int.not_lt, Int.not_le] at c_23
        refine gz_iload_n dX12_digits_26 rfl rfl ?_
        refine gz_iconst (v := 1) dX12_digits_27 (by decide) ?_
        refine gz_icmp_le (tgt := 34) dX12_digits_28 (by decide) (fun c_28 => ?_) (fun c_28 => ?_)
        · exact absurd c_28 (by decide)
        ·
          try simp only [mIn_0, lgc_lt, lgc_gt, lgc_le, lgc_ge, lgc_eq] at c_28
          try simp only [fl_lt, fl_le, fl_eq, fL_w, fL_lt, fL_le, tm1, tm10k, tm9, tm99, Int32.reduceToInt, Int64.reduceToInt, Int.not_lt, Int.not_le] at c_28
          refine gz_goto (tgt := 63) dX12_digits_31 (by decide) ?_
          refine gz_iload_n dX12_digits_63 rfl rfl ?_
          refine gz_bipush (v := 10) dX12_digits_64 (by decide) ?_
          refine gz_idiv dX12_digits_66 (by decide) ?_
          refine gz_ev (w := .int 1000) (by decide) ?_
          refine gz_istore_n (lv' := [(2, .int 1000), (0, .ref m), (1, .int x1)]) dX12_digits_67 rfl (by decide) rfl ?_
          refine gz_goto (tgt := 17) dX12_digits_68 (by decide) ?_
          refine gz_iload_n dX12_digits_17 rfl rfl ?_
          refine gz_if_le (tgt := 71) dX12_digits_18 (by decide) (fun c_18_176 => ?_) (fun c_18_176 => ?_)
          · exact absurd c_18_176 (by decide)
          ·
            try simp only [mIn_0, lgc_lt, lgc_gt, lgc_le, lgc_ge, lgc_eq] at c_18_176
            try simp only [fl_lt, fl_le, fl_eq, fL_w, fL_lt, fL_le, tm1, tm10k, tm9, tm99, Int32.reduceToInt, Int64.reduceToInt, Int.not_lt, Int.not_le] at c_18_176
            refine gz_iload_n dX12_digits_21 rfl rfl ?_
            refine gz_iload_n dX12_digits_22 rfl rfl ?_
            refine gz_icmp_ge (tgt := 34) dX12_digits_23 (by decide) (fun c_23_177 => ?_) (fun c_23_177 => ?_)
            ·
              try simp only [mIn_0, lgc_lt, lgc_gt, lgc_le, lgc_ge, lgc_eq] at c_23_177
              try simp only [fl_lt, fl_le, fl_eq, fL_w, fL_lt, fL_le, tm1, tm10k, tm9, tm99, Int32.reduceToInt, Int64.reduceToInt, Int.not_lt, Int.not_le] at c_23_177
              refine gz_aload_n dX12_digits_34 rfl rfl ?_
              refine mg_240 hS_127 dX12_digits_35 ?_
              refine gz_aload_n dX12_digits_38 rfl rfl ?_
              refine mg_541 hS_127 dX12_digits_39 ?_
              refine gz_ev (w := .int (n_127 88)) rfl ?_
              refine gz_bipush (v := 48) dX12_digits_42 (by decide) ?_
              refine gz_iload_n dX12_digits_44 rfl rfl ?_
              refine gz_iload_n dX12_digits_45 rfl rfl ?_
              refine gz_idiv dX12_digits_46 (by decide) ?_
              refine gz_bipush (v := 10) dX12_digits_47 (by decide) ?_
              refine gz_irem dX12_digits_49 (by decide) ?_
              refine gz_iadd dX12_digits_50 ?_
              refine gz_i2b dX12_digits_51 ?_
              refine m_bast 87 hS_127 rfl (N := 1000) rfl ((by exact vin_T (rfl : ((n_127 88)).toInt = ((n_127 88)).toInt) (by omega) (by omega))) dX12_digits_52 (fun f_192 hS_192q => ?_)
              have hS_192 : mS cy m a f0 n_127 z_127 (va_up F_127 87 (upd (F_127 87) (Int32.toNatClampNeg (n_127 88)) (vp_nar .byte ((48 + ((x1 / 1000) - (x1 / 1000) / 10 * 10)).toInt8.toInt32)))) G_127 f_192 := hS_192q
              refine gz_aload_n dX12_digits_53 rfl rfl ?_
              refine gz_dup dX12_digits_54 rfl ?_
              refine mg_541 hS_192 dX12_digits_55 ?_
              refine gz_ev (w := .int (n_127 88)) rfl ?_
              refine gz_iconst (v := 1) dX12_digits_58 (by decide) ?_
              refine gz_iadd dX12_digits_59 ?_
              refine mp_541 hS_192 dX12_digits_60 (fun f_193 hS_193 => ?_)
              refine gz_iload_n dX12_digits_63 rfl rfl ?_
              refine gz_bipush (v := 10) dX12_digits_64 (by decide) ?_
              refine gz_idiv dX12_digits_66 (by decide) ?_
              refine gz_ev (w := .int 100) (by decide) ?_
              refine gz_istore_n (lv' := [(2, .int 100), (0, .ref m), (1, .int x1)]) dX12_digits_67 rfl (by decide) rfl ?_
              refine gz_goto (tgt := 17) dX12_digits_68 (by decide) ?_
              refine gz_iload_n dX12_digits_17 rfl rfl ?_
              refine gz_if_le (tgt := 71) dX12_digits_18 (by decide) (fun c_18_178 => ?_) (fun c_18_178 => ?_)
              · exact absurd c_18_178 (by decide)
              ·
                try simp only [mIn_0, lgc_lt, lgc_gt, lgc_le, lgc_ge, lgc_eq] at c_18_178
                try simp only [fl_lt, fl_le, fl_eq, fL_w, fL_lt, fL_le, tm1, tm10k, tm9, tm99, Int32.reduceToInt, Int64.reduceToInt, Int.not_lt, Int.not_le] at c_18_178
                refine gz_iload_n dX12_digits_21 rfl rfl ?_
                refine gz_iload_n dX12_digits_22 rfl rfl ?_
                refine gz_icmp_ge (tgt := 34) dX12_digits_23 (by decide) (fun c_23_179 => ?_) (fun c_23_179 => ?_)
                ·
                  try simp only [mIn_0, lgc_lt, lgc_gt, lgc_le, lgc_ge, lgc_eq] at c_23_179
                  try simp only [fl_lt, fl_le, fl_eq, fL_w, fL_lt, fL_le, tm1, tm10k, tm9, tm99, Int32.reduceToInt, Int64.reduceToInt, Int.not_lt, Int.not_le] at c_23_179
                  refine gz_aload_n dX12_digits_34 rfl rfl ?_
                  refine mg_240 hS_193 dX12_digits_35 ?_
                  refine gz_aload_n dX12_digits_38 rfl rfl ?_
                  refine mg_541 hS_193 dX12_digits_39 ?_
                  refine gz_ev (w := .int ((n_127 88) + 1)) rfl ?_
                  refine gz_bipush (v := 48) dX12_digits_42 (by decide) ?_
                  refine gz_iload_n dX12_digits_44 rfl rfl ?_
                  refine gz_iload_n dX12_digits_45 rfl rfl ?_
                  refine gz_idiv dX12_digits_46 (by decide) ?_
                  refine gz_bipush (v := 10) dX12_digits_47 (by decide) ?_
                  refine gz_irem dX12_digits_49 (by decide) ?_
                  refine gz_iadd dX12_digits_50 ?_
                  refine gz_i2b dX12_digits_51 ?_
                  refine m_bast 87 hS_193 rfl (N := 1000) rfl ((by have q9 := (T_add (rfl : ((n_127 88)).toInt = ((n_127 88)).toInt) (show (1 : Int32).toInt = 1 from rfl) (by omega)); exact vin_T q9 (by omega) (by omega))) dX12_digits_52 (fun f_194 hS_194q => ?_)
                  have hS_194 : mS cy m a f0 (va_up n_127 88 ((n_127 88) + 1)) z_127 (va_up (va_up F_127 87 (upd (F_127 87) (Int32.toNatClampNeg (n_127 88)) (vp_nar .byte ((48 + ((x1 / 1000) - (x1 / 1000) / 10 * 10)).toInt8.toInt32)))) 87 (upd (upd (F_127 87) (Int32.toNatClampNeg (n_127 88)) (vp_nar .byte ((48 + ((x1 / 1000) - (x1 / 1000) / 10 * 10)).toInt8.toInt32))) (Int32.toNatClampNeg ((n_127 88) + 1)) (vp_nar .byte ((48 + ((x1 / 100) - (x1 / 100) / 10 * 10)).toInt8.toInt32)))) G_127 f_194 := hS_194q
                  refine gz_aload_n dX12_digits_53 rfl rfl ?_
                  refine gz_dup dX12_digits_54 rfl ?_
                  refine mg_541 hS_194 dX12_digits_55 ?_
                  refine gz_ev (w := .int ((n_127 88) + 1)) rfl ?_
                  refine gz_iconst (v := 1) dX12_digits_58 (by decide) ?_
                  refine gz_iadd dX12_digits_59 ?_
                  refine mp_541 hS_194 dX12_digits_60 (fun f_195 hS_195 => ?_)
                  refine gz_iload_n dX12_digits_63 rfl rfl ?_
                  refine gz_bipush (v := 10) dX12_digits_64 (by decide) ?_
                  refine gz_idiv dX12_digits_66 (by decide) ?_
                  refine gz_ev (w := .int 10) (by decide) ?_
                  refine gz_istore_n (lv' := [(2, .int 10), (0, .ref m), (1, .int x1)]) dX12_digits_67 rfl (by decide) rfl ?_
                  refine gz_goto (tgt := 17) dX12_digits_68 (by decide) ?_
                  refine gz_iload_n dX12_digits_17 rfl rfl ?_
                  refine gz_if_le (tgt := 71) dX12_digits_18 (by decide) (fun c_18_180 => ?_) (fun c_18_180 => ?_)
                  · exact absurd c_18_180 (by decide)
                  ·
                    try simp only [mIn_0, lgc_lt, lgc_gt, lgc_le, lgc_ge, lgc_eq] at c_18_180
                    try simp only [fl_lt, fl_le, fl_eq, fL_w, fL_lt, fL_le, tm1, tm10k, tm9, tm99, Int32.reduceToInt, Int64.reduceToInt, Int.not_lt, Int.not_le] at c_18_180
                    refine gz_iload_n dX12_digits_21 rfl rfl ?_
                    refine gz_iload_n dX12_digits_22 rfl rfl ?_
                    refine gz_icmp_ge (tgt := 34) dX12_digits_23 (by decide) (fun c_23_181 => ?_) (fun c_23_181 => ?_)
                    ·
                      try simp only [mIn_0, lgc_lt, lgc_gt, lgc_le, lgc_ge, lgc_eq] at c_23_181
                      try simp only [fl_lt, fl_le, fl_eq, fL_w, fL_lt, fL_le, tm1, tm10k, tm9, tm99, Int32.reduceToInt, Int64.reduceToInt, Int.not_lt, Int.not_le] at c_23_181
                      refine gz_aload_n dX12_digits_34 rfl rfl ?_
                      refine mg_240 hS_195 dX12_digits_35 ?_
                      refine gz_aload_n dX12_digits_38 rfl rfl ?_
                      refine mg_541 hS_195 dX12_digits_39 ?_
                      refine gz_ev (w := .int (((n_127 88) + 1) + 1)) rfl ?_
                      refine gz_bipush (v := 48) dX12_digits_42 (by decide) ?_
                      refine gz_iload_n dX12_digits_44 rfl rfl ?_
                      refine gz_iload_n dX12_digits_45 rfl rfl ?_
                      refine gz_idiv dX12_digits_46 (by decide) ?_
                      refine gz_bipush (v := 10) dX12_digits_47 (by decide) ?_
                      refine gz_irem dX12_digits_49 (by decide) ?_
                      refine gz_iadd dX12_digits_50 ?_
                      refine gz_i2b dX12_digits_51 ?_
                      refine m_bast 87 hS_195 rfl (N := 1000) rfl ((by have q9 := (T_add (T_add (rfl : ((n_127 88)).toInt = ((n_127 88)).toInt) (show (1 : Int32).toInt = 1 from rfl) (by omega)) (show (1 : Int32).toInt = 1 from rfl) (by omega)); exact vin_T q9 (by omega) (by omega))) dX12_digits_52 (fun f_196 hS_196q => ?_)
                      have hS_196 : mS cy m a f0 (va_up (va_up n_127 88 ((n_127 88) + 1)) 88 (((n_127 88) + 1) + 1)) z_127 (va_up (va_up (va_up F_127 87 (upd (F_127 87) (Int32.toNatClampNeg (n_127 88)) (vp_nar .byte ((48 + ((x1 / 1000) - (x1 / 1000) / 10 * 10)).toInt8.toInt32)))) 87 (upd (upd (F_127 87) (Int32.toNatClampNeg (n_127 88)) (vp_nar .byte ((48 + ((x1 / 1000) - (x1 / 1000) / 10 * 10)).toInt8.toInt32))) (Int32.toNatClampNeg ((n_127 88) + 1)) (vp_nar .byte ((48 + ((x1 / 100) - (x1 / 100) / 10 * 10)).toInt8.toInt32)))) 87 (upd (upd (upd (F_127 87) (Int32.toNatClampNeg (n_127 88)) (vp_nar .byte ((48 + ((x1 / 1000) - (x1 / 1000) / 10 * 10)).toInt8.toInt32))) (Int32.toNatClampNeg ((n_127 88) + 1)) (vp_nar .byte ((48 + ((x1 / 100) - (x1 / 100) / 10 * 10)).toInt8.toInt32))) (Int32.toNatClampNeg (((n_127 88) + 1) + 1)) (vp_nar .byte ((48 + ((x1 / 10) - (x1 / 10) / 10 * 10)).toInt8.toInt32)))) G_127 f_196 := hS_196q
                      refine gz_aload_n dX12_digits_53 rfl rfl ?_
                      refine gz_dup dX12_digits_54 rfl ?_
                      refine mg_541 hS_196 dX12_digits_55 ?_
                      refine gz_ev (w := .int (((n_127 88) + 1) + 1)) rfl ?_
                      refine gz_iconst (v := 1) dX12_digits_58 (by decide) ?_
                      refine gz_iadd dX12_digits_59 ?_
                      refine mp_541 hS_196 dX12_digits_60 (fun f_197 hS_197 => ?_)
                      refine gz_iload_n dX12_digits_63 rfl rfl ?_
                      refine gz_bipush (v := 10) dX12_digits_64 (by decide) ?_
                      refine gz_idiv dX12_digits_66 (by decide) ?_
                      refine gz_ev (w := .int 1) (by decide) ?_
                      refine gz_istore_n (lv' := [(2, .int 1), (0, .ref m), (1, .int x1)]) dX12_digits_67 rfl (by decide) rfl ?_
                      refine gz_goto (tgt := 17) dX12_digits_68 (by decide) ?_
                      refine gz_iload_n dX12_digits_17 rfl rfl ?_
                      refine gz_if_le (tgt := 71) dX12_digits_18 (by decide) (fun c_18_182 => ?_) (fun c_18_182 => ?_)
                      · exact absurd c_18_182 (by decide)
                      ·
                        try simp only [mIn_0, lgc_lt, lgc_gt, lgc_le, lgc_ge, lgc_eq] at c_18_182
                        try simp only [fl_lt, fl_le, fl_eq, fL_w, fL_lt, fL_le, tm1, tm10k, tm9, tm99, Int32.reduceToInt, Int64.reduceToInt, Int.not_lt, Int.not_le] at c_18_182
                        refine gz_iload_n dX12_digits_21 rfl rfl ?_
                        refine gz_iload_n dX12_digits_22 rfl rfl ?_
                        refine gz_icmp_ge (tgt := 34) dX12_digits_23 (by decide) (fun c_23_183 => ?_) (fun c_23_183 => ?_)
                        ·
                          try simp only [mIn_0, lgc_lt, lgc_gt, lgc_le, lgc_ge, lgc_eq] at c_23_183
                          try simp only [fl_lt, fl_le, fl_eq, fL_w, fL_lt, fL_le, tm1, tm10k, tm9, tm99, Int32.reduceToInt, Int64.reduceToInt, Int.not_lt, Int.not_le] at c_23_183
                          refine gz_aload_n dX12_digits_34 rfl rfl ?_
                          refine mg_240 hS_197 dX12_digits_35 ?_
                          refine gz_aload_n dX12_digits_38 rfl rfl ?_
                          refine mg_541 hS_197 dX12_digits_39 ?_
                          refine gz_ev (w := .int ((((n_127 88) + 1) + 1) + 1)) rfl ?_
                          refine gz_bipush (v := 48) dX12_digits_42 (by decide) ?_
                          refine gz_iload_n dX12_digits_44 rfl rfl ?_
                          refine gz_iload_n dX12_digits_45 rfl rfl ?_
                          refine gz_idiv dX12_digits_46 (by decide) ?_
                          refine gz_bipush (v := 10) dX12_digits_47 (by decide) ?_
                          refine gz_irem dX12_digits_49 (by decide) ?_
                          refine gz_iadd dX12_digits_50 ?_
                          refine gz_i2b dX12_digits_51 ?_
                          refine m_bast 87 hS_197 rfl (N := 1000) rfl ((by have q9 := (T_add (T_add (T_add (rfl : ((n_127 88)).toInt = ((n_127 88)).toInt) (show (1 : Int32).toInt = 1 from rfl) (by omega)) (show (1 : Int32).toInt = 1 from rfl) (by omega)) (show (1 : Int32).toInt = 1 from rfl) (by omega)); exact vin_T q9 (by omega) (by omega))) dX12_digits_52 (fun f_198 hS_198q => ?_)
                          have hS_198 : mS cy m a f0 (va_up (va_up (va_up n_127 88 ((n_127 88) + 1)) 88 (((n_127 88) + 1) + 1)) 88 ((((n_127 88) + 1) + 1) + 1)) z_127 (va_up (va_up (va_up (va_up F_127 87 (upd (F_127 87) (Int32.toNatClampNeg (n_127 88)) (vp_nar .byte ((48 + ((x1 / 1000) - (x1 / 1000) / 10 * 10)).toInt8.toInt32)))) 87 (upd (upd (F_127 87) (Int32.toNatClampNeg (n_127 88)) (vp_nar .byte ((48 + ((x1 / 1000) - (x1 / 1000) / 10 * 10)).toInt8.toInt32))) (Int32.toNatClampNeg ((n_127 88) + 1)) (vp_nar .byte ((48 + ((x1 / 100) - (x1 / 100) / 10 * 10)).toInt8.toInt32)))) 87 (upd (upd (upd (F_127 87) (Int32.toNatClampNeg (n_127 88)) (vp_nar .byte ((48 + ((x1 / 1000) - (x1 / 1000) / 10 * 10)).toInt8.toInt32))) (Int32.toNatClampNeg ((n_127 88) + 1)) (vp_nar .byte ((48 + ((x1 / 100) - (x1 / 100) / 10 * 10)).toInt8.toInt32))) (Int32.toNatClampNeg (((n_127 88) + 1) + 1)) (vp_nar .byte ((48 + ((x1 / 10) - (x1 / 10) / 10 * 10)).toInt8.toInt32)))) 87 (upd (upd (upd (upd (F_127 87) (Int32.toNatClampNeg (n_127 88)) (vp_nar .byte ((48 + ((x1 / 1000) - (x1 / 1000) / 10 * 10)).toInt8.toInt32))) (Int32.toNatClampNeg ((n_127 88) + 1)) (vp_nar .byte ((48 + ((x1 / 100) - (x1 / 100) / 10 * 10)).toInt8.toInt32))) (Int32.toNatClampNeg (((n_127 88) + 1) + 1)) (vp_nar .byte ((48 + ((x1 / 10) - (x1 / 10) / 10 * 10)).toInt8.toInt32))) (Int32.toNatClampNeg ((((n_127 88) + 1) + 1) + 1)) (vp_nar .byte ((48 + ((x1 / 1) - (x1 / 1) / 10 * 10)).toInt8.toInt32)))) G_127 f_198 := hS_198q
                          refine gz_aload_n dX12_digits_53 rfl rfl ?_
                          refine gz_dup dX12_digits_54 rfl ?_
                          refine mg_541 hS_198 dX12_digits_55 ?_
                          refine gz_ev (w := .int ((((n_127 88) + 1) + 1) + 1)) rfl ?_
                          refine gz_iconst (v := 1) dX12_digits_58 (by decide) ?_
                          refine gz_iadd dX12_digits_59 ?_
                          refine mp_541 hS_198 dX12_digits_60 (fun f_199 hS_199 => ?_)
                          refine gz_iload_n dX12_digits_63 rfl rfl ?_
                          refine gz_bipush (v := 10) dX12_digits_64 (by decide) ?_
                          refine gz_idiv dX12_digits_66 (by decide) ?_
                          refine gz_ev (w := .int 0) (by decide) ?_
                          refine gz_istore_n (lv' := [(2, .int 0), (0, .ref m), (1, .int x1)]) dX12_digits_67 rfl (by decide) rfl ?_
                          refine gz_goto (tgt := 17) dX12_digits_68 (by decide) ?_
                          refine gz_iload_n dX12_digits_17 rfl rfl ?_
                          refine gz_if_le (tgt := 71) dX12_digits_18 (by decide) (fun c_18_184 => ?_) (fun c_18_184 => ?_)
                          ·
                            try simp only [mIn_0, lgc_lt, lgc_gt, lgc_le, lgc_ge, lgc_eq] at c_18_184
                            try simp only [fl_lt, fl_le, fl_eq, fL_w, fL_lt, fL_le, tm1, tm10k, tm9, tm99, Int32.reduceToInt, Int64.reduceToInt, Int.not_lt, Int.not_le] at c_18_184
                            refine gz_aload_n dX12_digits_71 rfl rfl ?_
                            refine gz_iconst (v := 1) dX12_digits_72 (by decide) ?_
                            refine mp_544 hS_199 ⟨rfl, rfl⟩ dX12_digits_73 (fun f_200 hS_200 => ?_)
                            exact gz_vret rfl dX12_digits_76 (Nat.le_of_ble_eq_true rfl) (Nat.le_of_ble_eq_true rfl) (⟨rfl, _, _, _, _, hS_200, (fx_n (fx_n (fx_F (fx_n (fx_F (fx_n (fx_F (fx_n (fx_F (fx_tr fx_rf hx127 (by decide)) (by decide)) (by decide)) (by decide)) (by decide)) (by decide)) (by decide)) (by decide)) (by decide)) (by decide)), (by (try rw [(show (va_up (va_up (va_up (va_up (va_up n_127 88 ((n_127 88) + 1)) 88 (((n_127 88) + 1) + 1)) 88 ((((n_127 88) + 1) + 1) + 1)) 88 (((((n_127 88) + 1) + 1) + 1) + 1)) 89 1) 88 = (((((n_127 88) + 1) + 1) + 1) + 1) from rfl)]); have q1_ := (T_add (T_add (T_add (T_add (rfl : ((n_127 88)).toInt = ((n_127 88)).toInt) (show (1 : Int32).toInt = 1 from rfl) (by omega)) (show (1 : Int32).toInt = 1 from rfl) (by omega)) (show (1 : Int32).toInt = 1 from rfl) (by omega)) (show (1 : Int32).toInt = 1 from rfl) (by omega)); omega), (by (try rw [(show (va_up (va_up (va_up (va_up (va_up n_127 88 ((n_127 88) + 1)) 88 (((n_127 88) + 1) + 1)) 88 ((((n_127 88) + 1) + 1) + 1)) 88 (((((n_127 88) + 1) + 1) + 1) + 1)) 89 1) 88 = (((((n_127 88) + 1) + 1) + 1) + 1) from rfl)]); have q1_ := (T_add (T_add (T_add (T_add (rfl : ((n_127 88)).toInt = ((n_127 88)).toInt) (show (1 : Int32).toInt = 1 from rfl) (by omega)) (show (1 : Int32).toInt = 1 from rfl) (by omega)) (show (1 : Int32).toInt = 1 from rfl) (by omega)) (show (1 : Int32).toInt = 1 from rfl) (by omega)); omega)⟩)
                          · exact absurd c_18_184 (by decide)
                        ·
                          try simp only [mIn_0, lgc_lt, lgc_gt, lgc_le, lgc_ge, lgc_eq] at c_23_183
                          try simp only [fl_lt, fl_le, fl_eq, fL_w, fL_lt, fL_le, tm1, tm10k, tm9, tm99, Int32.reduceToInt, Int64.reduceToInt, Int.not_lt, Int.not_le] at c_23_183
                          refine gz_iload_n dX12_digits_26 rfl rfl ?_
                          refine gz_iconst (v := 1) dX12_digits_27 (by decide) ?_
                          refine gz_icmp_le (tgt := 34) dX12_digits_28 (by decide) (fun c_28_185 => ?_) (fun c_28_185 => ?_)
                          ·
                            try simp only [mIn_0, lgc_lt, lgc_gt, lgc_le, lgc_ge, lgc_eq] at c_28_185
                            try simp only [fl_lt, fl_le, fl_eq, fL_w, fL_lt, fL_le, tm1, tm10k, tm9, tm99, Int32.reduceToInt, Int64.reduceToInt, Int.not_lt, Int.not_le] at c_28_185
                            refine gz_aload_n dX12_digits_34 rfl rfl ?_
                            refine mg_240 hS_197 dX12_digits_35 ?_
                            refine gz_aload_n dX12_digits_38 rfl rfl ?_
                            refine mg_541 hS_197 dX12_digits_39 ?_
                            refine gz_ev (w := .int ((((n_127 88) + 1) + 1) + 1)) rfl ?_
                            refine gz_bipush (v := 48) dX12_digits_42 (by decide) ?_
                            refine gz_iload_n dX12_digits_44 rfl rfl ?_
                            refine gz_iload_n dX12_digits_45 rfl rfl ?_
                            refine gz_idiv dX12_digits_46 (by decide) ?_
                            refine gz_bipush (v := 10) dX12_digits_47 (by decide) ?_
                            refine gz_irem dX12_digits_49 (by decide) ?_
                            refine gz_iadd dX12_digits_50 ?_
                            refine gz_i2b dX12_digits_51 ?_
                            refine m_bast 87 hS_197 rfl (N := 1000) rfl ((by have q9 := (T_add (T_add (T_add (rfl : ((n_127 88)).toInt = ((n_127 88)).toInt) (show (1 : Int32).toInt = 1 from rfl) (by omega)) (show (1 : Int32).toInt = 1 from rfl) (by omega)) (show (1 : Int32).toInt = 1 from rfl) (by omega)); exact vin_T q9 (by omega) (by omega))) dX12_digits_52 (fun f_201 hS_201q => ?_)
                            have hS_201 : mS cy m a f0 (va_up (va_up (va_up n_127 88 ((n_127 88) + 1)) 88 (((n_127 88) + 1) + 1)) 88 ((((n_127 88) + 1) + 1) + 1)) z_127 (va_up (va_up (va_up (va_up F_127 87 (upd (F_127 87) (Int32.toNatClampNeg (n_127 88)) (vp_nar .byte ((48 + ((x1 / 1000) - (x1 / 1000) / 10 * 10)).toInt8.toInt32)))) 87 (upd (upd (F_127 87) (Int32.toNatClampNeg (n_127 88)) (vp_nar .byte ((48 + ((x1 / 1000) - (x1 / 1000) / 10 * 10)).toInt8.toInt32))) (Int32.toNatClampNeg ((n_127 88) + 1)) (vp_nar .byte ((48 + ((x1 / 100) - (x1 / 100) / 10 * 10)).toInt8.toInt32)))) 87 (upd (upd (upd (F_127 87) (Int32.toNatClampNeg (n_127 88)) (vp_nar .byte ((48 + ((x1 / 1000) - (x1 / 1000) / 10 * 10)).toInt8.toInt32))) (Int32.toNatClampNeg ((n_127 88) + 1)) (vp_nar .byte ((48 + ((x1 / 100) - (x1 / 100) / 10 * 10)).toInt8.toInt32))) (Int32.toNatClampNeg (((n_127 88) + 1) + 1)) (vp_nar .byte ((48 + ((x1 / 10) - (x1 / 10) / 10 * 10)).toInt8.toInt32)))) 87 (upd (upd (upd (upd (F_127 87) (Int32.toNatClampNeg (n_127 88)) (vp_nar .byte ((48 + ((x1 / 1000) - (x1 / 1000) / 10 * 10)).toInt8.toInt32))) (Int32.toNatClampNeg ((n_127 88) + 1)) (vp_nar .byte ((48 + ((x1 / 100) - (x1 / 100) / 10 * 10)).toInt8.toInt32))) (Int32.toNatClampNeg (((n_127 88) + 1) + 1)) (vp_nar .byte ((48 + ((x1 / 10) - (x1 / 10) / 10 * 10)).toInt8.toInt32))) (Int32.toNatClampNeg ((((n_127 88) + 1) + 1) + 1)) (vp_nar .byte ((48 + ((x1 / 1) - (x1 / 1) / 10 * 10)).toInt8.toInt32)))) G_127 f_201 := hS_201q
                            refine gz_aload_n dX12_digits_53 rfl rfl ?_
                            refine gz_dup dX12_digits_54 rfl ?_
                            refine mg_541 hS_201 dX12_digits_55 ?_
                            refine gz_ev (w := .int ((((n_127 88) + 1) + 1) + 1)) rfl ?_
                            refine gz_iconst (v := 1) dX12_digits_58 (by decide) ?_
                            refine gz_iadd dX12_digits_59 ?_
                            refine mp_541 hS_201 dX12_digits_60 (fun f_202 hS_202 => ?_)
                            refine gz_iload_n dX12_digits_63 rfl rfl ?_
                            refine gz_bipush (v := 10) dX12_digits_64 (by decide) ?_
                            refine gz_idiv dX12_digits_66 (by decide) ?_
                            refine gz_ev (w := .int 0) (by decide) ?_
                            refine gz_istore_n (lv' := [(2, .int 0), (0, .ref m), (1, .int x1)]) dX12_digits_67 rfl (by decide) rfl ?_
                            refine gz_goto (tgt := 17) dX12_digits_68 (by decide) ?_
                            refine gz_iload_n dX12_digits_17 rfl rfl ?_
                            refine gz_if_le (tgt := 71) dX12_digits_18 (by decide) (fun c_18_186 => ?_) (fun c_18_186 => ?_)
                            ·
                              try simp only [mIn_0, lgc_lt, lgc_gt, lgc_le, lgc_ge, lgc_eq] at c_18_186
                              try simp only [fl_lt, fl_le, fl_eq, fL_w, fL_lt, fL_le, tm1, tm10k, tm9, tm99, Int32.reduceToInt, Int64.reduceToInt, Int.not_lt, Int.not_le] at c_18_186
                              refine gz_aload_n dX12_digits_71 rfl rfl ?_
                              refine gz_iconst (v := 1) dX12_digits_72 (by decide) ?_
                              refine mp_544 hS_202 ⟨rfl, rfl⟩ dX12_digits_73 (fun f_203 hS_203 => ?_)
                              exact gz_vret rfl dX12_digits_76 (Nat.le_of_ble_eq_true rfl) (Nat.le_of_ble_eq_true rfl) (⟨rfl, _, _, _, _, hS_203, (fx_n (fx_n (fx_F (fx_n (fx_F (fx_n (fx_F (fx_n (fx_F (fx_tr fx_rf hx127 (by decide)) (by decide)) (by decide)) (by decide)) (by decide)) (by decide)) (by decide)) (by decide)) (by decide)) (by decide)), (by (try rw [(show (va_up (va_up (va_up (va_up (va_up n_127 88 ((n_127 88) + 1)) 88 (((n_127 88) + 1) + 1)) 88 ((((n_127 88) + 1) + 1) + 1)) 88 (((((n_127 88) + 1) + 1) + 1) + 1)) 89 1) 88 = (((((n_127 88) + 1) + 1) + 1) + 1) from rfl)]); have q1_ := (T_add (T_add (T_add (T_add (rfl : ((n_127 88)).toInt = ((n_127 88)).toInt) (show (1 : Int32).toInt = 1 from rfl) (by omega)) (show (1 : Int32).toInt = 1 from rfl) (by omega)) (show (1 : Int32).toInt = 1 from rfl) (by omega)) (show (1 : Int32).toInt = 1 from rfl) (by omega)); omega), (by (try rw [(show (va_up (va_up (va_up (va_up (va_up n_127 88 ((n_127 88) + 1)) 88 (((n_127 88) + 1) + 1)) 88 ((((n_127 88) + 1) + 1) + 1)) 88 (((((n_127 88) + 1) + 1) + 1) + 1)) 89 1) 88 = (((((n_127 88) + 1) + 1) + 1) + 1) from rfl)]); have q1_ := (T_add (T_add (T_add (T_add (rfl : ((n_127 88)).toInt = ((n_127 88)).toInt) (show (1 : Int32).toInt = 1 from rfl) (by omega)) (show (1 : Int32).toInt = 1 from rfl) (by omega)) (show (1 : Int32).toInt = 1 from rfl) (by omega)) (show (1 : Int32).toInt = 1 from rfl) (by omega)); omega)⟩)
                            · exact absurd c_18_186 (by decide)
                          · exact absurd c_28_185 (by decide)
                    ·
                      try simp only [mIn_0, lgc_lt, lgc_gt, lgc_le, lgc_ge, lgc_eq] at c_23_181
                      try simp only [fl_lt, fl_le, fl_eq, fL_w, fL_lt, fL_le, tm1, tm10k, tm9, tm99, Int32.reduceToInt, Int64.reduceToInt, Int.not_lt, Int.not_le] at c_23_181
                      refine gz_iload_n dX12_digits_26 rfl rfl ?_
                      refine gz_iconst (v := 1) dX12_digits_27 (by decide) ?_
                      refine gz_icmp_le (tgt := 34) dX12_digits_28 (by decide) (fun c_28_187 => ?_) (fun c_28_187 => ?_)
                      · exact absurd c_28_187 (by decide)
                      ·
                        try simp only [mIn_0, lgc_lt, lgc_gt, lgc_le, lgc_ge, lgc_eq] at c_28_187
                        try simp only [fl_lt, fl_le, fl_eq, fL_w, fL_lt, fL_le, tm1, tm10k, tm9, tm99, Int32.reduceToInt, Int64.reduceToInt, Int.not_lt, Int.not_le] at c_28_187
                        refine gz_goto (tgt := 63) dX12_digits_31 (by decide) ?_
                        refine gz_iload_n dX12_digits_63 rfl rfl ?_
                        refine gz_bipush (v := 10) dX12_digits_64 (by decide) ?_
                        refine gz_idiv dX12_digits_66 (by decide) ?_
                        refine gz_ev (w := .int 1) (by decide) ?_
                        refine gz_istore_n (lv' := [(2, .int 1), (0, .ref m), (1, .int x1)]) dX12_digits_67 rfl (by decide) rfl ?_
                        refine gz_goto (tgt := 17) dX12_digits_68 (by decide) ?_
                        refine gz_iload_n dX12_digits_17 rfl rfl ?_
                        refine gz_if_le (tgt := 71) dX12_digits_18 (by decide) (fun c_18_188 => ?_) (fun c_18_188 => ?_)
                        · exact absurd c_18_188 (by decide)
                        ·
                          try simp only [mIn_0, lgc_lt, lgc_gt, lgc_le, lgc_ge, lgc_eq] at c_18_188
                          try simp only [fl_lt, fl_le, fl_eq, fL_w, fL_lt, fL_le, tm1, tm10k, tm9, tm99, Int32.reduceToInt, Int64.reduceToInt, Int.not_lt, Int.not_le] at c_18_188
                          refine gz_iload_n dX12_digits_21 rfl rfl ?_
                          refine gz_iload_n dX12_digits_22 rfl rfl ?_
                          refine gz_icmp_ge (tgt := 34) dX12_digits_23 (by decide) (fun c_23_189 => ?_) (fun c_23_189 => ?_)
                          ·
                            try simp only [mIn_0, lgc_lt, lgc_gt, lgc_le, lgc_ge, lgc_eq] at c_23_189
                            try simp only [fl_lt, fl_le, fl_eq, fL_w, fL_lt, fL_le, tm1, tm10k, tm9, tm99, Int32.reduceToInt, Int64.reduceToInt, Int.not_lt, Int.not_le] at c_23_189
                            refine gz_aload_n dX12_digits_34 rfl rfl ?_
                            refine mg_240 hS_195 dX12_digits_35 ?_
                            refine gz_aload_n dX12_digits_38 rfl rfl ?_
                            refine mg_541 hS_195 dX12_digits_39 ?_
                            refine gz_ev (w := .int (((n_127 88) + 1) + 1)) rfl ?_
                            refine gz_bipush (v := 48) dX12_digits_42 (by decide) ?_
                            refine gz_iload_n dX12_digits_44 rfl rfl ?_
                            refine gz_iload_n dX12_digits_45 rfl rfl ?_
                            refine gz_idiv dX12_digits_46 (by decide) ?_
                            refine gz_bipush (v := 10) dX12_digits_47 (by decide) ?_
                            refine gz_irem dX12_digits_49 (by decide) ?_
                            refine gz_iadd dX12_digits_50 ?_
                            refine gz_i2b dX12_digits_51 ?_
                            refine m_bast 87 hS_195 rfl (N := 1000) rfl ((by have q9 := (T_add (T_add (rfl : ((n_127 88)).toInt = ((n_127 88)).toInt) (show (1 : Int32).toInt = 1 from rfl) (by omega)) (show (1 : Int32).toInt = 1 from rfl) (by omega)); exact vin_T q9 (by omega) (by omega))) dX12_digits_52 (fun f_204 hS_204q => ?_)
                            have hS_204 : mS cy m a f0 (va_up (va_up n_127 88 ((n_127 88) + 1)) 88 (((n_127 88) + 1) + 1)) z_127 (va_up (va_up (va_up F_127 87 (upd (F_127 87) (Int32.toNatClampNeg (n_127 88)) (vp_nar .byte ((48 + ((x1 / 1000) - (x1 / 1000) / 10 * 10)).toInt8.toInt32)))) 87 (upd (upd (F_127 87) (Int32.toNatClampNeg (n_127 88)) (vp_nar .byte ((48 + ((x1 / 1000) - (x1 / 1000) / 10 * 10)).toInt8.toInt32))) (Int32.toNatClampNeg ((n_127 88) + 1)) (vp_nar .byte ((48 + ((x1 / 100) - (x1 / 100) / 10 * 10)).toInt8.toInt32)))) 87 (upd (upd (upd (F_127 87) (Int32.toNatClampNeg (n_127 88)) (vp_nar .byte ((48 + ((x1 / 1000) - (x1 / 1000) / 10 * 10)).toInt8.toInt32))) (Int32.toNatClampNeg ((n_127 88) + 1)) (vp_nar .byte ((48 + ((x1 / 100) - (x1 / 100) / 10 * 10)).toInt8.toInt32))) (Int32.toNatClampNeg (((n_127 88) + 1) + 1)) (vp_nar .byte ((48 + ((x1 / 1) - (x1 / 1) / 10 * 10)).toInt8.toInt32)))) G_127 f_204 := hS_204q
                            refine gz_aload_n dX12_digits_53 rfl rfl ?_
                            refine gz_dup dX12_digits_54 rfl ?_
                            refine mg_541 hS_204 dX12_digits_55 ?_
                            refine gz_ev (w := .int (((n_127 88) + 1) + 1)) rfl ?_
                            refine gz_iconst (v := 1) dX12_digits_58 (by decide) ?_
                            refine gz_iadd dX12_digits_59 ?_
                            refine mp_541 hS_204 dX12_digits_60 (fun f_205 hS_205 => ?_)
                            refine gz_iload_n dX12_digits_63 rfl rfl ?_
                            refine gz_bipush (v := 10) dX12_digits_64 (by decide) ?_
                            refine gz_idiv dX12_digits_66 (by decide) ?_
                            refine gz_ev (w := .int 0) (by decide) ?_
                            refine gz_istore_n (lv' := [(2, .int 0), (0, .ref m), (1, .int x1)]) dX12_digits_67 rfl (by decide) rfl ?_
                            refine gz_goto (tgt := 17) dX12_digits_68 (by decide) ?_
                            refine gz_iload_n dX12_digits_17 rfl rfl ?_
                            refine gz_if_le (tgt := 71) dX12_digits_18 (by decide) (fun c_18_190 => ?_) (fun c_18_190 => ?_)
                            ·
                              try simp only [mIn_0, lgc_lt, lgc_gt, lgc_le, lgc_ge, lgc_eq] at c_18_190
                              try simp only [fl_lt, fl_le, fl_eq, fL_w, fL_lt, fL_le, tm1, tm10k, tm9, tm99, Int32.reduceToInt, Int64.reduceToInt, Int.not_lt, Int.not_le] at c_18_190
                              refine gz_aload_n dX12_digits_71 rfl rfl ?_
                              refine gz_iconst (v := 1) dX12_digits_72 (by decide) ?_
                              refine mp_544 hS_205 ⟨rfl, rfl⟩ dX12_digits_73 (fun f_206 hS_206 => ?_)
                              exact gz_vret rfl dX12_digits_76 (Nat.le_of_ble_eq_true rfl) (Nat.le_of_ble_eq_true rfl) (⟨rfl, _, _, _, _, hS_206, (fx_n (fx_n (fx_F (fx_n (fx_F (fx_n (fx_F (fx_tr fx_rf hx127 (by decide)) (by decide)) (by decide)) (by decide)) (by decide)) (by decide)) (by decide)) (by decide)), (by (try rw [(show (va_up (va_up (va_up (va_up n_127 88 ((n_127 88) + 1)) 88 (((n_127 88) + 1) + 1)) 88 ((((n_127 88) + 1) + 1) + 1)) 89 1) 88 = ((((n_127 88) + 1) + 1) + 1) from rfl)]); have q1_ := (T_add (T_add (T_add (rfl : ((n_127 88)).toInt = ((n_127 88)).toInt) (show (1 : Int32).toInt = 1 from rfl) (by omega)) (show (1 : Int32).toInt = 1 from rfl) (by omega)) (show (1 : Int32).toInt = 1 from rfl) (by omega)); omega), (by (try rw [(show (va_up (va_up (va_up (va_up n_127 88 ((n_127 88) + 1)) 88 (((n_127 88) + 1) + 1)) 88 ((((n_127 88) + 1) + 1) + 1)) 89 1) 88 = ((((n_127 88) + 1) + 1) + 1) from rfl)]); have q1_ := (T_add (T_add (T_add (rfl : ((n_127 88)).toInt = ((n_127 88)).toInt) (show (1 : Int32).toInt = 1 from rfl) (by omega)) (show (1 : Int32).toInt = 1 from rfl) (by omega)) (show (1 : Int32).toInt = 1 from rfl) (by omega)); omega)⟩)
                            · exact absurd c_18_190 (by decide)
                          ·
                            try simp only [mIn_0, lgc_lt, lgc_gt, lgc_le, lgc_ge, lgc_eq] at c_23_189
                            try simp only [fl_lt, fl_le, fl_eq, fL_w, fL_lt, fL_le, tm1, tm10k, tm9, tm99, Int32.reduceToInt, Int64.reduceToInt, Int.not_lt, Int.not_le] at c_23_189
                            refine gz_iload_n dX12_digits_26 rfl rfl ?_
                            refine gz_iconst (v := 1) dX12_digits_27 (by decide) ?_
                            refine gz_icmp_le (tgt := 34) dX12_digits_28 (by decide) (fun c_28_191 => ?_) (fun c_28_191 => ?_)
                            ·
                              try simp only [mIn_0, lgc_lt, lgc_gt, lgc_le, lgc_ge, lgc_eq] at c_28_191
                              try simp only [fl_lt, fl_le, fl_eq, fL_w, fL_lt, fL_le, tm1, tm10k, tm9, tm99, Int32.reduceToInt, Int64.reduceToInt, Int.not_lt, Int.not_le] at c_28_191
                              refine gz_aload_n dX12_digits_34 rfl rfl ?_
                              refine mg_240 hS_195 dX12_digits_35 ?_
                              refine gz_aload_n dX12_digits_38 rfl rfl ?_
                              refine mg_541 hS_195 dX12_digits_39 ?_
                              refine gz_ev (w := .int (((n_127 88) + 1) + 1)) rfl ?_
                              refine gz_bipush (v := 48) dX12_digits_42 (by decide) ?_
                              refine gz_iload_n dX12_digits_44 rfl rfl ?_
                              refine gz_iload_n dX12_digits_45 rfl rfl ?_
                              refine gz_idiv dX12_digits_46 (by decide) ?_
                              refine gz_bipush (v := 10) dX12_digits_47 (by decide) ?_
                              refine gz_irem dX12_digits_49 (by decide) ?_
                              refine gz_iadd dX12_digits_50 ?_
                              refine gz_i2b dX12_digits_51 ?_
                              refine m_bast 87 hS_195 rfl (N := 1000) rfl ((by have q9 := (T_add (T_add (rfl : ((n_127 88)).toInt = ((n_127 88)).toInt) (show (1 : Int32).toInt = 1 from rfl) (by omega)) (show (1 : Int32).toInt = 1 from rfl) (by omega)); exact vin_T q9 (by omega) (by omega))) dX12_digits_52 (fun f_207 hS_207q => ?_)
                              have hS_207 : mS cy m a f0 (va_up (va_up n_127 88 ((n_127 88) + 1)) 88 (((n_127 88) + 1) + 1)) z_127 (va_up (va_up (va_up F_127 87 (upd (F_127 87) (Int32.toNatClampNeg (n_127 88)) (vp_nar .byte ((48 + ((x1 / 1000) - (x1 / 1000) / 10 * 10)).toInt8.toInt32)))) 87 (upd (upd (F_127 87) (Int32.toNatClampNeg (n_127 88)) (vp_nar .byte ((48 + ((x1 / 1000) - (x1 / 1000) / 10 * 10)).toInt8.toInt32))) (Int32.toNatClampNeg ((n_127 88) + 1)) (vp_nar .byte ((48 + ((x1 / 100) - (x1 / 100) / 10 * 10)).toInt8.toInt32)))) 87 (upd (upd (upd (F_127 87) (Int32.toNatClampNeg (n_127 88)) (vp_nar .byte ((48 + ((x1 / 1000) - (x1 / 1000) / 10 * 10)).toInt8.toInt32))) (Int32.toNatClampNeg ((n_127 88) + 1)) (vp_nar .byte ((48 + ((x1 / 100) - (x1 / 100) / 10 * 10)).toInt8.toInt32))) (Int32.toNatClampNeg (((n_127 88) + 1) + 1)) (vp_nar .byte ((48 + ((x1 / 1) - (x1 / 1) / 10 * 10)).toInt8.toInt32)))) G_127 f_207 := hS_207q
                              refine gz_aload_n dX12_digits_53 rfl rfl ?_
                              refine gz_dup dX12_digits_54 rfl ?_
                              refine mg_541 hS_207 dX12_digits_55 ?_
                              refine gz_ev (w := .int (((n_127 88) + 1) + 1)) rfl ?_
                              refine gz_iconst (v := 1) dX12_digits_58 (by decide) ?_
                              refine gz_iadd dX12_digits_59 ?_
                              refine mp_541 hS_207 dX12_digits_60 (fun f_208 hS_208 => ?_)
                              refine gz_iload_n dX12_digits_63 rfl rfl ?_
                              refine gz_bipush (v := 10) dX12_digits_64 (by decide) ?_
                              refine gz_idiv dX12_digits_66 (by decide) ?_
                              refine gz_ev (w := .int 0) (by decide) ?_
                              refine gz_istore_n (lv' := [(2, .int 0), (0, .ref m), (1, .int x1)]) dX12_digits_67 rfl (by decide) rfl ?_
                              refine gz_goto (tgt := 17) dX12_digits_68 (by decide) ?_
                              refine gz_iload_n dX12_digits_17 rfl rfl ?_
                              refine gz_if_le (tgt := 71) dX12_digits_18 (by decide) (fun c_18_192 => ?_) (fun c_18_192 => ?_)
                              ·
                                try simp only [mIn_0, lgc_lt, lgc_gt, lgc_le, lgc_ge, lgc_eq] at c_18_192
                                try simp only [fl_lt, fl_le, fl_eq, fL_w, fL_lt, fL_le, tm1, tm10k, tm9, tm99, Int32.reduceToInt, Int64.reduceToInt, Int.not_lt, Int.not_le] at c_18_192
                                refine gz_aload_n dX12_digits_71 rfl rfl ?_
                                refine gz_iconst (v := 1) dX12_digits_72 (by decide) ?_
                                refine mp_544 hS_208 ⟨rfl, rfl⟩ dX12_digits_73 (fun f_209 hS_209 => ?_)
                                exact gz_vret rfl dX12_digits_76 (Nat.le_of_ble_eq_true rfl) (Nat.le_of_ble_eq_true rfl) (⟨rfl, _, _, _, _, hS_209, (fx_n (fx_n (fx_F (fx_n (fx_F (fx_n (fx_F (fx_tr fx_rf hx127 (by decide)) (by decide)) (by decide)) (by decide)) (by decide)) (by decide)) (by decide)) (by decide)), (by (try rw [(show (va_up (va_up (va_up (va_up n_127 88 ((n_127 88) + 1)) 88 (((n_127 88) + 1) + 1)) 88 ((((n_127 88) + 1) + 1) + 1)) 89 1) 88 = ((((n_127 88) + 1) + 1) + 1) from rfl)]); have q1_ := (T_add (T_add (T_add (rfl : ((n_127 88)).toInt = ((n_127 88)).toInt) (show (1 : Int32).toInt = 1 from rfl) (by omega)) (show (1 : Int32).toInt = 1 from rfl) (by omega)) (show (1 : Int32).toInt = 1 from rfl) (by omega)); omega), (by (try rw [(show (va_up (va_up (va_up (va_up n_127 88 ((n_127 88) + 1)) 88 (((n_127 88) + 1) + 1)) 88 ((((n_127 88) + 1) + 1) + 1)) 89 1) 88 = ((((n_127 88) + 1) + 1) + 1) from rfl)]); have q1_ := (T_add (T_add (T_add (rfl : ((n_127 88)).toInt = ((n_127 88)).toInt) (show (1 : Int32).toInt = 1 from rfl) (by omega)) (show (1 : Int32).toInt = 1 from rfl) (by omega)) (show (1 : Int32).toInt = 1 from rfl) (by omega)); omega)⟩)
                              · exact absurd c_18_192 (by decide)
                            · exact absurd c_28_191 (by decide)
                ·
                  try simp only [mIn_0, lgc_lt, lgc_gt, lgc_le, lgc_ge, lgc_eq] at c_23_179
                  try simp only [fl_lt, fl_le, fl_eq, fL_w, fL_lt, fL_le, tm1, tm10k, tm9, tm99, Int32.reduceToInt, Int64.reduceToInt, Int.not_lt, Int.not_le] at c_23_179
                  refine gz_iload_n dX12_digits_26 rfl rfl ?_
                  refine gz_iconst (v := 1) dX12_digits_27 (by decide) ?_
                  refine gz_icmp_le (tgt := 34) dX12_digits_28 (by decide) (fun c_28_193 => ?_) (fun c_28_193 => ?_)
                  · exact absurd c_28_193 (by decide)
                  ·
                    try simp only [mIn_0, lgc_lt, lgc_gt, lgc_le, lgc_ge, lgc_eq] at c_28_193
                    try simp only [fl_lt, fl_le, fl_eq, fL_w, fL_lt, fL_le, tm1, tm10k, tm9, tm99, Int32.reduceToInt, Int64.reduceToInt, Int.not_lt, Int.not_le] at c_28_193
                    refine gz_goto (tgt := 63) dX12_digits_31 (by decide) ?_
                    refine gz_iload_n dX12_digits_63 rfl rfl ?_
                    refine gz_bipush (v := 10) dX12_digits_64 (by decide) ?_
                    refine gz_idiv dX12_digits_66 (by decide) ?_
                    refine gz_ev (w := .int 10) (by decide) ?_
                    refine gz_istore_n (lv' := [(2, .int 10), (0, .ref m), (1, .int x1)]) dX12_digits_67 rfl (by decide) rfl ?_
                    refine gz_goto (tgt := 17) dX12_digits_68 (by decide) ?_
                    refine gz_iload_n dX12_digits_17 rfl rfl ?_
                    refine gz_if_le (tgt := 71) dX12_digits_18 (by decide) (fun c_18_194 => ?_) (fun c_18_194 => ?_)
                    · exact absurd c_18_194 (by decide)
                    ·
                      try simp only [mIn_0, lgc_lt, lgc_gt, lgc_le, lgc_ge, lgc_eq] at c_18_194
                      try simp only [fl_lt, fl_le, fl_eq, fL_w, fL_lt, fL_le, tm1, tm10k, tm9, tm99, Int32.reduceToInt, Int64.reduceToInt, Int.not_lt, Int.not_le] at c_18_194
                      refine gz_iload_n dX12_digits_21 rfl rfl ?_
                      refine gz_iload_n dX12_digits_22 rfl rfl ?_
                      refine gz_icmp_ge (tgt := 34) dX12_digits_23 (by decide) (fun c_23_195 => ?_) (fun c_23_195 => ?_)
                      ·
                        try simp only [mIn_0, lgc_lt, lgc_gt, lgc_le, lgc_ge, lgc_eq] at c_23_195
                        try simp only [fl_lt, fl_le, fl_eq, fL_w, fL_lt, fL_le, tm1, tm10k, tm9, tm99, Int32.reduceToInt, Int64.reduceToInt, Int.not_lt, Int.not_le] at c_23_195
                        refine gz_aload_n dX12_digits_34 rfl rfl ?_
                        refine mg_240 hS_193 dX12_digits_35 ?_
                        refine gz_aload_n dX12_digits_38 rfl rfl ?_
                        refine mg_541 hS_193 dX12_digits_39 ?_
                        refine gz_ev (w := .int ((n_127 88) + 1)) rfl ?_
                        refine gz_bipush (v := 48) dX12_digits_42 (by decide) ?_
                        refine gz_iload_n dX12_digits_44 rfl rfl ?_
                        refine gz_iload_n dX12_digits_45 rfl rfl ?_
                        refine gz_idiv dX12_digits_46 (by decide) ?_
                        refine gz_bipush (v := 10) dX12_digits_47 (by decide) ?_
                        refine gz_irem dX12_digits_49 (by decide) ?_
                        refine gz_iadd dX12_digits_50 ?_
                        refine gz_i2b dX12_digits_51 ?_
                        refine m_bast 87 hS_193 rfl (N := 1000) rfl ((by have q9 := (T_add (rfl : ((n_127 88)).toInt = ((n_127 88)).toInt) (show (1 : Int32).toInt = 1 from rfl) (by omega)); exact vin_T q9 (by omega) (by omega))) dX12_digits_52 (fun f_210 hS_210q => ?_)
                        have hS_210 : mS cy m a f0 (va_up n_127 88 ((n_127 88) + 1)) z_127 (va_up (va_up F_127 87 (upd (F_127 87) (Int32.toNatClampNeg (n_127 88)) (vp_nar .byte ((48 + ((x1 / 1000) - (x1 / 1000) / 10 * 10)).toInt8.toInt32)))) 87 (upd (upd (F_127 87) (Int32.toNatClampNeg (n_127 88)) (vp_nar .byte ((48 + ((x1 / 1000) - (x1 / 1000) / 10 * 10)).toInt8.toInt32))) (Int32.toNatClampNeg ((n_127 88) + 1)) (vp_nar .byte ((48 + ((x1 / 10) - (x1 / 10) / 10 * 10)).toInt8.toInt32)))) G_127 f_210 := hS_210q
                        refine gz_aload_n dX12_digits_53 rfl rfl ?_
                        refine gz_dup dX12_digits_54 rfl ?_
                        refine mg_541 hS_210 dX12_digits_55 ?_
                        refine gz_ev (w := .int ((n_127 88) + 1)) rfl ?_
                        refine gz_iconst (v := 1) dX12_digits_58 (by decide) ?_
                        refine gz_iadd dX12_digits_59 ?_
                        refine mp_541 hS_210 dX12_digits_60 (fun f_211 hS_211 => ?_)
                        refine gz_iload_n dX12_digits_63 rfl rfl ?_
                        refine gz_bipush (v := 10) dX12_digits_64 (by decide) ?_
                        refine gz_idiv dX12_digits_66 (by decide) ?_
                        refine gz_ev (w := .int 1) (by decide) ?_
                        refine gz_istore_n (lv' := [(2, .int 1), (0, .ref m), (1, .int x1)]) dX12_digits_67 rfl (by decide) rfl ?_
                        refine gz_goto (tgt := 17) dX12_digits_68 (by decide) ?_
                        refine gz_iload_n dX12_digits_17 rfl rfl ?_
                        refine gz_if_le (tgt := 71) dX12_digits_18 (by decide) (fun c_18_196 => ?_) (fun c_18_196 => ?_)
                        · exact absurd c_18_196 (by decide)
                        ·
                          try simp only [mIn_0, lgc_lt, lgc_gt, lgc_le, lgc_ge, lgc_eq] at c_18_196
                          try simp only [fl_lt, fl_le, fl_eq, fL_w, fL_lt, fL_le, tm1, tm10k, tm9, tm99, Int32.reduceToInt, Int64.reduceToInt, Int.not_lt, Int.not_le] at c_18_196
                          refine gz_iload_n dX12_digits_21 rfl rfl ?_
                          refine gz_iload_n dX12_digits_22 rfl rfl ?_
                          refine gz_icmp_ge (tgt := 34) dX12_digits_23 (by decide) (fun c_23_197 => ?_) (fun c_23_197 => ?_)
                          ·
                            try simp only [mIn_0, lgc_lt, lgc_gt, lgc_le, lgc_ge, lgc_eq] at c_23_197
                            try simp only [fl_lt, fl_le, fl_eq, fL_w, fL_lt, fL_le, tm1, tm10k, tm9, tm99, Int32.reduceToInt, Int64.reduceToInt, Int.not_lt, Int.not_le] at c_23_197
                            refine gz_aload_n dX12_digits_34 rfl rfl ?_
                            refine mg_240 hS_211 dX12_digits_35 ?_
                            refine gz_aload_n dX12_digits_38 rfl rfl ?_
                            refine mg_541 hS_211 dX12_digits_39 ?_
                            refine gz_ev (w := .int (((n_127 88) + 1) + 1)) rfl ?_
                            refine gz_bipush (v := 48) dX12_digits_42 (by decide) ?_
                            refine gz_iload_n dX12_digits_44 rfl rfl ?_
                            refine gz_iload_n dX12_digits_45 rfl rfl ?_
                            refine gz_idiv dX12_digits_46 (by decide) ?_
                            refine gz_bipush (v := 10) dX12_digits_47 (by decide) ?_
                            refine gz_irem dX12_digits_49 (by decide) ?_
                            refine gz_iadd dX12_digits_50 ?_
                            refine gz_i2b dX12_digits_51 ?_
                            refine m_bast 87 hS_211 rfl (N := 1000) rfl ((by have q9 := (T_add (T_add (rfl : ((n_127 88)).toInt = ((n_127 88)).toInt) (show (1 : Int32).toInt = 1 from rfl) (by omega)) (show (1 : Int32).toInt = 1 from rfl) (by omega)); exact vin_T q9 (by omega) (by omega))) dX12_digits_52 (fun f_212 hS_212q => ?_)
                            have hS_212 : mS cy m a f0 (va_up (va_up n_127 88 ((n_127 88) + 1)) 88 (((n_127 88) + 1) + 1)) z_127 (va_up (va_up (va_up F_127 87 (upd (F_127 87) (Int32.toNatClampNeg (n_127 88)) (vp_nar .byte ((48 + ((x1 / 1000) - (x1 / 1000) / 10 * 10)).toInt8.toInt32)))) 87 (upd (upd (F_127 87) (Int32.toNatClampNeg (n_127 88)) (vp_nar .byte ((48 + ((x1 / 1000) - (x1 / 1000) / 10 * 10)).toInt8.toInt32))) (Int32.toNatClampNeg ((n_127 88) + 1)) (vp_nar .byte ((48 + ((x1 / 10) - (x1 / 10) / 10 * 10)).toInt8.toInt32)))) 87 (upd (upd (upd (F_127 87) (Int32.toNatClampNeg (n_127 88)) (vp_nar .byte ((48 + ((x1 / 1000) - (x1 / 1000) / 10 * 10)).toInt8.toInt32))) (Int32.toNatClampNeg ((n_127 88) + 1)) (vp_nar .byte ((48 + ((x1 / 10) - (x1 / 10) / 10 * 10)).toInt8.toInt32))) (Int32.toNatClampNeg (((n_127 88) + 1) + 1)) (vp_nar .byte ((48 + ((x1 / 1) - (x1 / 1) / 10 * 10)).toInt8.toInt32)))) G_127 f_212 := hS_212q
                            refine gz_aload_n dX12_digits_53 rfl rfl ?_
                            refine gz_dup dX12_digits_54 rfl ?_
                            refine mg_541 hS_212 dX12_digits_55 ?_
                            refine gz_ev (w := .int (((n_127 88) + 1) + 1)) rfl ?_
                            refine gz_iconst (v := 1) dX12_digits_58 (by decide) ?_
                            refine gz_iadd dX12_digits_59 ?_
                            refine mp_541 hS_212 dX12_digits_60 (fun f_213 hS_213 => ?_)
                            refine gz_iload_n dX12_digits_63 rfl rfl ?_
                            refine gz_bipush (v := 10) dX12_digits_64 (by decide) ?_
                            refine gz_idiv dX12_digits_66 (by decide) ?_
                            refine gz_ev (w := .int 0) (by decide) ?_
                            refine gz_istore_n (lv' := [(2, .int 0), (0, .ref m), (1, .int x1)]) dX12_digits_67 rfl (by decide) rfl ?_
                            refine gz_goto (tgt := 17) dX12_digits_68 (by decide) ?_
                            refine gz_iload_n dX12_digits_17 rfl rfl ?_
                            refine gz_if_le (tgt := 71) dX12_digits_18 (by decide) (fun c_18_198 => ?_) (fun c_18_198 => ?_)
                            ·
                              try simp only [mIn_0, lgc_lt, lgc_gt, lgc_le, lgc_ge, lgc_eq] at c_18_198
                              try simp only [fl_lt, fl_le, fl_eq, fL_w, fL_lt, fL_le, tm1, tm10k, tm9, tm99, Int32.reduceToInt, Int64.reduceToInt, Int.not_lt, Int.not_le] at c_18_198
                              refine gz_aload_n dX12_digits_71 rfl rfl ?_
                              refine gz_iconst (v := 1) dX12_digits_72 (by decide) ?_
                              refine mp_544 hS_213 ⟨rfl, rfl⟩ dX12_digits_73 (fun f_214 hS_214 => ?_)
                              exact gz_vret rfl dX12_digits_76 (Nat.le_of_ble_eq_true rfl) (Nat.le_of_ble_eq_true rfl) (⟨rfl, _, _, _, _, hS_214, (fx_n (fx_n (fx_F (fx_n (fx_F (fx_n (fx_F (fx_tr fx_rf hx127 (by decide)) (by decide)) (by decide)) (by decide)) (by decide)) (by decide)) (by decide)) (by decide)), (by (try rw [(show (va_up (va_up (va_up (va_up n_127 88 ((n_127 88) + 1)) 88 (((n_127 88) + 1) + 1)) 88 ((((n_127 88) + 1) + 1) + 1)) 89 1) 88 = ((((n_127 88) + 1) + 1) + 1) from rfl)]); have q1_ := (T_add (T_add (T_add (rfl : ((n_127 88)).toInt = ((n_127 88)).toInt) (show (1 : Int32).toInt = 1 from rfl) (by omega)) (show (1 : Int32).toInt = 1 from rfl) (by omega)) (show (1 : Int32).toInt = 1 from rfl) (by omega)); omega), (by (try rw [(show (va_up (va_up (va_up (va_up n_127 88 ((n_127 88) + 1)) 88 (((n_127 88) + 1) + 1)) 88 ((((n_127 88) + 1) + 1) + 1)) 89 1) 88 = ((((n_127 88) + 1) + 1) + 1) from rfl)]); have q1_ := (T_add (T_add (T_add (rfl : ((n_127 88)).toInt = ((n_127 88)).toInt) (show (1 : Int32).toInt = 1 from rfl) (by omega)) (show (1 : Int32).toInt = 1 from rfl) (by omega)) (show (1 : Int32).toInt = 1 from rfl) (by omega)); omega)⟩)
                            · exact absurd c_18_198 (by decide)
                          ·
                            try simp only [mIn_0, lgc_lt, lgc_gt, lgc_le, lgc_ge, lgc_eq] at c_23_197
                            try simp only [fl_lt, fl_le, fl_eq, fL_w, fL_lt, fL_le, tm1, tm10k, tm9, tm99, Int32.reduceToInt, Int64.reduceToInt, Int.not_lt, Int.not_le] at c_23_197
                            refine gz_iload_n dX12_digits_26 rfl rfl ?_
                            refine gz_iconst (v := 1) dX12_digits_27 (by decide) ?_
                            refine gz_icmp_le (tgt := 34) dX12_digits_28 (by decide) (fun c_28_199 => ?_) (fun c_28_199 => ?_)
                            ·
                              try simp only [mIn_0, lgc_lt, lgc_gt, lgc_le, lgc_ge, lgc_eq] at c_28_199
                              try simp only [fl_lt, fl_le, fl_eq, fL_w, fL_lt, fL_le, tm1, tm10k, tm9, tm99, Int32.reduceToInt, Int64.reduceToInt, Int.not_lt, Int.not_le] at c_28_199
                              refine gz_aload_n dX12_digits_34 rfl rfl ?_
                              refine mg_240 hS_211 dX12_digits_35 ?_
                              refine gz_aload_n dX12_digits_38 rfl rfl ?_
                              refine mg_541 hS_211 dX12_digits_39 ?_
                              refine gz_ev (w := .int (((n_127 88) + 1) + 1)) rfl ?_
                              refine gz_bipush (v := 48) dX12_digits_42 (by decide) ?_
                              refine gz_iload_n dX12_digits_44 rfl rfl ?_
                              refine gz_iload_n dX12_digits_45 rfl rfl ?_
                              refine gz_idiv dX12_digits_46 (by decide) ?_
                              refine gz_bipush (v := 10) dX12_digits_47 (by decide) ?_
                              refine gz_irem dX12_digits_49 (by decide) ?_
                              refine gz_iadd dX12_digits_50 ?_
                              refine gz_i2b dX12_digits_51 ?_
                              refine m_bast 87 hS_211 rfl (N := 1000) rfl ((by have q9 := (T_add (T_add (rfl : ((n_127 88)).toInt = ((n_127 88)).toInt) (show (1 : Int32).toInt = 1 from rfl) (by omega)) (show (1 : Int32).toInt = 1 from rfl) (by omega)); exact vin_T q9 (by omega) (by omega))) dX12_digits_52 (fun f_215 hS_215q => ?_)
                              have hS_215 : mS cy m a f0 (va_up (va_up n_127 88 ((n_127 88) + 1)) 88 (((n_127 88) + 1) + 1)) z_127 (va_up (va_up (va_up F_127 87 (upd (F_127 87) (Int32.toNatClampNeg (n_127 88)) (vp_nar .byte ((48 + ((x1 / 1000) - (x1 / 1000) / 10 * 10)).toInt8.toInt32)))) 87 (upd (upd (F_127 87) (Int32.toNatClampNeg (n_127 88)) (vp_nar .byte ((48 + ((x1 / 1000) - (x1 / 1000) / 10 * 10)).toInt8.toInt32))) (Int32.toNatClampNeg ((n_127 88) + 1)) (vp_nar .byte ((48 + ((x1 / 10) - (x1 / 10) / 10 * 10)).toInt8.toInt32)))) 87 (upd (upd (upd (F_127 87) (Int32.toNatClampNeg (n_127 88)) (vp_nar .byte ((48 + ((x1 / 1000) - (x1 / 1000) / 10 * 10)).toInt8.toInt32))) (Int32.toNatClampNeg ((n_127 88) + 1)) (vp_nar .byte ((48 + ((x1 / 10) - (x1 / 10) / 10 * 10)).toInt8.toInt32))) (Int32.toNatClampNeg (((n_127 88) + 1) + 1)) (vp_nar .byte ((48 + ((x1 / 1) - (x1 / 1) / 10 * 10)).toInt8.toInt32)))) G_127 f_215 := hS_215q
                              refine gz_aload_n dX12_digits_53 rfl rfl ?_
                              refine gz_dup dX12_digits_54 rfl ?_
                              refine mg_541 hS_215 dX12_digits_55 ?_
                              refine gz_ev (w := .int (((n_127 88) + 1) + 1)) rfl ?_
                              refine gz_iconst (v := 1) dX12_digits_58 (by decide) ?_
                              refine gz_iadd dX12_digits_59 ?_
                              refine mp_541 hS_215 dX12_digits_60 (fun f_216 hS_216 => ?_)
                              refine gz_iload_n dX12_digits_63 rfl rfl ?_
                              refine gz_bipush (v := 10) dX12_digits_64 (by decide) ?_
                              refine gz_idiv dX12_digits_66 (by decide) ?_
                              refine gz_ev (w := .int 0) (by decide) ?_
                              refine gz_istore_n (lv' := [(2, .int 0), (0, .ref m), (1, .int x1)]) dX12_digits_67 rfl (by decide) rfl ?_
                              refine gz_goto (tgt := 17) dX12_digits_68 (by decide) ?_
                              refine gz_iload_n dX12_digits_17 rfl rfl ?_
                              refine gz_if_le (tgt := 71) dX12_digits_18 (by decide) (fun c_18_200 => ?_) (fun c_18_200 => ?_)
                              ·
                                try simp only [mIn_0, lgc_lt, lgc_gt, lgc_le, lgc_ge, lgc_eq] at c_18_200
                                try simp only [fl_lt, fl_le, fl_eq, fL_w, fL_lt, fL_le, tm1, tm10k, tm9, tm99, Int32.reduceToInt, Int64.reduceToInt, Int.not_lt, Int.not_le] at c_18_200
                                refine gz_aload_n dX12_digits_71 rfl rfl ?_
                                refine gz_iconst (v := 1) dX12_digits_72 (by decide) ?_
                                refine mp_544 hS_216 ⟨rfl, rfl⟩ dX12_digits_73 (fun f_217 hS_217 => ?_)
                                exact gz_vret rfl dX12_digits_76 (Nat.le_of_ble_eq_true rfl) (Nat.le_of_ble_eq_true rfl) (⟨rfl, _, _, _, _, hS_217, (fx_n (fx_n (fx_F (fx_n (fx_F (fx_n (fx_F (fx_tr fx_rf hx127 (by decide)) (by decide)) (by decide)) (by decide)) (by decide)) (by decide)) (by decide)) (by decide)), (by (try rw [(show (va_up (va_up (va_up (va_up n_127 88 ((n_127 88) + 1)) 88 (((n_127 88) + 1) + 1)) 88 ((((n_127 88) + 1) + 1) + 1)) 89 1) 88 = ((((n_127 88) + 1) + 1) + 1) from rfl)]); have q1_ := (T_add (T_add (T_add (rfl : ((n_127 88)).toInt = ((n_127 88)).toInt) (show (1 : Int32).toInt = 1 from rfl) (by omega)) (show (1 : Int32).toInt = 1 from rfl) (by omega)) (show (1 : Int32).toInt = 1 from rfl) (by omega)); omega), (by (try rw [(show (va_up (va_up (va_up (va_up n_127 88 ((n_127 88) + 1)) 88 (((n_127 88) + 1) + 1)) 88 ((((n_127 88) + 1) + 1) + 1)) 89 1) 88 = ((((n_127 88) + 1) + 1) + 1) from rfl)]); have q1_ := (T_add (T_add (T_add (rfl : ((n_127 88)).toInt = ((n_127 88)).toInt) (show (1 : Int32).toInt = 1 from rfl) (by omega)) (show (1 : Int32).toInt = 1 from rfl) (by omega)) (show (1 : Int32).toInt = 1 from rfl) (by omega)); omega)⟩)
                              · exact absurd c_18_200 (by decide)
                            · exact absurd c_28_199 (by decide)
                      ·
                        try simp only [mIn_0, lgc_lt, lgc_gt, lgc_le, lgc_ge, lgc_eq] at c_23_195
                        try simp only [fl_lt, fl_le, fl_eq, fL_w, fL_lt, fL_le, tm1, tm10k, tm9, tm99, Int32.reduceToInt, Int64.reduceToInt, Int.not_lt, Int.not_le] at c_23_195
                        refine gz_iload_n dX12_digits_26 rfl rfl ?_
                        refine gz_iconst (v := 1) dX12_digits_27 (by decide) ?_
                        refine gz_icmp_le (tgt := 34) dX12_digits_28 (by decide) (fun c_28_201 => ?_) (fun c_28_201 => ?_)
                        · exact absurd c_28_201 (by decide)
                        ·
                          try simp only [mIn_0, lgc_lt, lgc_gt, lgc_le, lgc_ge, lgc_eq] at c_28_201
                          try simp only [fl_lt, fl_le, fl_eq, fL_w, fL_lt, fL_le, tm1, tm10k, tm9, tm99, Int32.reduceToInt, Int64.reduceToInt, Int.not_lt, Int.not_le] at c_28_201
                          refine gz_goto (tgt := 63) dX12_digits_31 (by decide) ?_
                          refine gz_iload_n dX12_digits_63 rfl rfl ?_
                          refine gz_bipush (v := 10) dX12_digits_64 (by decide) ?_
                          refine gz_idiv dX12_digits_66 (by decide) ?_
                          refine gz_ev (w := .int 1) (by decide) ?_
                          refine gz_istore_n (lv' := [(2, .int 1), (0, .ref m), (1, .int x1)]) dX12_digits_67 rfl (by decide) rfl ?_
                          refine gz_goto (tgt := 17) dX12_digits_68 (by decide) ?_
                          refine gz_iload_n dX12_digits_17 rfl rfl ?_
                          refine gz_if_le (tgt := 71) dX12_digits_18 (by decide) (fun c_18_202 => ?_) (fun c_18_202 => ?_)
                          · exact absurd c_18_202 (by decide)
                          ·
                            try simp only [mIn_0, lgc_lt, lgc_gt, lgc_le, lgc_ge, lgc_eq] at c_18_202
                            try simp only [fl_lt, fl_le, fl_eq, fL_w, fL_lt, fL_le, tm1, tm10k, tm9, tm99, Int32.reduceToInt, Int64.reduceToInt, Int.not_lt, Int.not_le] at c_18_202
                            refine gz_iload_n dX12_digits_21 rfl rfl ?_
                            refine gz_iload_n dX12_digits_22 rfl rfl ?_
                            refine gz_icmp_ge (tgt := 34) dX12_digits_23 (by decide) (fun c_23_203 => ?_) (fun c_23_203 => ?_)
                            ·
                              try simp only [mIn_0, lgc_lt, lgc_gt, lgc_le, lgc_ge, lgc_eq] at c_23_203
                              try simp only [fl_lt, fl_le, fl_eq, fL_w, fL_lt, fL_le, tm1, tm10k, tm9, tm99, Int32.reduceToInt, Int64.reduceToInt, Int.not_lt, Int.not_le] at c_23_203
                              refine gz_aload_n dX12_digits_34 rfl rfl ?_
                              refine mg_240 hS_193 dX12_digits_35 ?_
                              refine gz_aload_n dX12_digits_38 rfl rfl ?_
                              refine mg_541 hS_193 dX12_digits_39 ?_
                              refine gz_ev (w := .int ((n_127 88) + 1)) rfl ?_
                              refine gz_bipush (v := 48) dX12_digits_42 (by decide) ?_
                              refine gz_iload_n dX12_digits_44 rfl rfl ?_
                              refine gz_iload_n dX12_digits_45 rfl rfl ?_
                              refine gz_idiv dX12_digits_46 (by decide) ?_
                              refine gz_bipush (v := 10) dX12_digits_47 (by decide) ?_
                              refine gz_irem dX12_digits_49 (by decide) ?_
                              refine gz_iadd dX12_digits_50 ?_
                              refine gz_i2b dX12_digits_51 ?_
                              refine m_bast 87 hS_193 rfl (N := 1000) rfl ((by have q9 := (T_add (rfl : ((n_127 88)).toInt = ((n_127 88)).toInt) (show (1 : Int32).toInt = 1 from rfl) (by omega)); exact vin_T q9 (by omega) (by omega))) dX12_digits_52 (fun f_218 hS_218q => ?_)
                              have hS_218 : mS cy m a f0 (va_up n_127 88 ((n_127 88) + 1)) z_127 (va_up (va_up F_127 87 (upd (F_127 87) (Int32.toNatClampNeg (n_127 88)) (vp_nar .byte ((48 + ((x1 / 1000) - (x1 / 1000) / 10 * 10)).toInt8.toInt32)))) 87 (upd (upd (F_127 87) (Int32.toNatClampNeg (n_127 88)) (vp_nar .byte ((48 + ((x1 / 1000) - (x1 / 1000) / 10 * 10)).toInt8.toInt32))) (Int32.toNatClampNeg ((n_127 88) + 1)) (vp_nar .byte ((48 + ((x1 / 1) - (x1 / 1) / 10 * 10)).toInt8.toInt32)))) G_127 f_218 := hS_218q
                              refine gz_aload_n dX12_digits_53 rfl rfl ?_
                              refine gz_dup dX12_digits_54 rfl ?_
                              refine mg_541 hS_218 dX12_digits_55 ?_
                              refine gz_ev (w := .int ((n_127 88) + 1)) rfl ?_
                              refine gz_iconst (v := 1) dX12_digits_58 (by decide) ?_
                              refine gz_iadd dX12_digits_59 ?_
                              refine mp_541 hS_218 dX12_digits_60 (fun f_219 hS_219 => ?_)
                              refine gz_iload_n dX12_digits_63 rfl rfl ?_
                              refine gz_bipush (v := 10) dX12_digits_64 (by decide) ?_
                              refine gz_idiv dX12_digits_66 (by decide) ?_
                              refine gz_ev (w := .int 0) (by decide) ?_
                              refine gz_istore_n (lv' := [(2, .int 0), (0, .ref m), (1, .int x1)]) dX12_digits_67 rfl (by decide) rfl ?_
                              refine gz_goto (tgt := 17) dX12_digits_68 (by decide) ?_
                              refine gz_iload_n dX12_digits_17 rfl rfl ?_
                              refine gz_if_le (tgt := 71) dX12_digits_18 (by decide) (fun c_18_204 => ?_) (fun c_18_204 => ?_)
                              ·
                                try simp only [mIn_0, lgc_lt, lgc_gt, lgc_le, lgc_ge, lgc_eq] at c_18_204
                                try simp only [fl_lt, fl_le, fl_eq, fL_w, fL_lt, fL_le, tm1, tm10k, tm9, tm99, Int32.reduceToInt, Int64.reduceToInt, Int.not_lt, Int.not_le] at c_18_204
                                refine gz_aload_n dX12_digits_71 rfl rfl ?_
                                refine gz_iconst (v := 1) dX12_digits_72 (by decide) ?_
                                refine mp_544 hS_219 ⟨rfl, rfl⟩ dX12_digits_73 (fun f_220 hS_220 => ?_)
                                exact gz_vret rfl dX12_digits_76 (Nat.le_of_ble_eq_true rfl) (Nat.le_of_ble_eq_true rfl) (⟨rfl, _, _, _, _, hS_220, (fx_n (fx_n (fx_F (fx_n (fx_F (fx_tr fx_rf hx127 (by decide)) (by decide)) (by decide)) (by decide)) (by decide)) (by decide)), (by (try rw [(show (va_up (va_up (va_up n_127 88 ((n_127 88) + 1)) 88 (((n_127 88) + 1) + 1)) 89 1) 88 = (((n_127 88) + 1) + 1) from rfl)]); have q1_ := (T_add (T_add (rfl : ((n_127 88)).toInt = ((n_127 88)).toInt) (show (1 : Int32).toInt = 1 from rfl) (by omega)) (show (1 : Int32).toInt = 1 from rfl) (by omega)); omega), (by (try rw [(show (va_up (va_up (va_up n_127 88 ((n_127 88) + 1)) 88 (((n_127 88) + 1) + 1)) 89 1) 88 = (((n_127 88) + 1) + 1) from rfl)]); have q1_ := (T_add (T_add (rfl : ((n_127 88)).toInt = ((n_127 88)).toInt) (show (1 : Int32).toInt = 1 from rfl) (by omega)) (show (1 : Int32).toInt = 1 from rfl) (by omega)); omega)⟩)
                              · exact absurd c_18_204 (by decide)
                            ·
                              try simp only [mIn_0, lgc_lt, lgc_gt, lgc_le, lgc_ge, lgc_eq] at c_23_203
                              try simp only [fl_lt, fl_le, fl_eq, fL_w, fL_lt, fL_le, tm1, tm10k, tm9, tm99, Int32.reduceToInt, Int64.reduceToInt, Int.not_lt, Int.not_le] at c_23_203
                              refine gz_iload_n dX12_digits_26 rfl rfl ?_
                              refine gz_iconst (v := 1) dX12_digits_27 (by decide) ?_
                              refine gz_icmp_le (tgt := 34) dX12_digits_28 (by decide) (fun c_28_205 => ?_) (fun c_28_205 => ?_)
                              ·
                                try simp only [mIn_0, lgc_lt, lgc_gt, lgc_le, lgc_ge, lgc_eq] at c_28_205
                                try simp only [fl_lt, fl_le, fl_eq, fL_w, fL_lt, fL_le, tm1, tm10k, tm9, tm99, Int32.reduceToInt, Int64.reduceToInt, Int.not_lt, Int.not_le] at c_28_205
                                refine gz_aload_n dX12_digits_34 rfl rfl ?_
                                refine mg_240 hS_193 dX12_digits_35 ?_
                                refine gz_aload_n dX12_digits_38 rfl rfl ?_
                                refine mg_541 hS_193 dX12_digits_39 ?_
                                refine gz_ev (w := .int ((n_127 88) + 1)) rfl ?_
                                refine gz_bipush (v := 48) dX12_digits_42 (by decide) ?_
                                refine gz_iload_n dX12_digits_44 rfl rfl ?_
                                refine gz_iload_n dX12_digits_45 rfl rfl ?_
                                refine gz_idiv dX12_digits_46 (by decide) ?_
                                refine gz_bipush (v := 10) dX12_digits_47 (by decide) ?_
                                refine gz_irem dX12_digits_49 (by decide) ?_
                                refine gz_iadd dX12_digits_50 ?_
                                refine gz_i2b dX12_digits_51 ?_
                                refine m_bast 87 hS_193 rfl (N := 1000) rfl ((by have q9 := (T_add (rfl : ((n_127 88)).toInt = ((n_127 88)).toInt) (show (1 : Int32).toInt = 1 from rfl) (by omega)); exact vin_T q9 (by omega) (by omega))) dX12_digits_52 (fun f_221 hS_221q => ?_)
                                have hS_221 : mS cy m a f0 (va_up n_127 88 ((n_127 88) + 1)) z_127 (va_up (va_up F_127 87 (upd (F_127 87) (Int32.toNatClampNeg (n_127 88)) (vp_nar .byte ((48 + ((x1 / 1000) - (x1 / 1000) / 10 * 10)).toInt8.toInt32)))) 87 (upd (upd (F_127 87) (Int32.toNatClampNeg (n_127 88)) (vp_nar .byte ((48 + ((x1 / 1000) - (x1 / 1000) / 10 * 10)).toInt8.toInt32))) (Int32.toNatClampNeg ((n_127 88) + 1)) (vp_nar .byte ((48 + ((x1 / 1) - (x1 / 1) / 10 * 10)).toInt8.toInt32)))) G_127 f_221 := hS_221q
                                refine gz_aload_n dX12_digits_53 rfl rfl ?_
                                refine gz_dup dX12_digits_54 rfl ?_
                                refine mg_541 hS_221 dX12_digits_55 ?_
                                refine gz_ev (w := .int ((n_127 88) + 1)) rfl ?_
                                refine gz_iconst (v := 1) dX12_digits_58 (by decide) ?_
                                refine gz_iadd dX12_digits_59 ?_
                                refine mp_541 hS_221 dX12_digits_60 (fun f_222 hS_222 => ?_)
                                refine gz_iload_n dX12_digits_63 rfl rfl ?_
                                refine gz_bipush (v := 10) dX12_digits_64 (by decide) ?_
                                refine gz_idiv dX12_digits_66 (by decide) ?_
                                refine gz_ev (w := .int 0) (by decide) ?_
                                refine gz_istore_n (lv' := [(2, .int 0), (0, .ref m), (1, .int x1)]) dX12_digits_67 rfl (by decide) rfl ?_
                                refine gz_goto (tgt := 17) dX12_digits_68 (by decide) ?_
                                refine gz_iload_n dX12_digits_17 rfl rfl ?_
                                refine gz_if_le (tgt := 71) dX12_digits_18 (by decide) (fun c_18_206 => ?_) (fun c_18_206 => ?_)
                                ·
                                  try simp only [mIn_0, lgc_lt, lgc_gt, lgc_le, lgc_ge, lgc_eq] at c_18_206
                                  try simp only [fl_lt, fl_le, fl_eq, fL_w, fL_lt, fL_le, tm1, tm10k, tm9, tm99, Int32.reduceToInt, Int64.reduceToInt, Int.not_lt, Int.not_le] at c_18_206
                                  refine gz_aload_n dX12_digits_71 rfl rfl ?_
                                  refine gz_iconst (v := 1) dX12_digits_72 (by decide) ?_
                                  refine mp_544 hS_222 ⟨rfl, rfl⟩ dX12_digits_73 (fun f_223 hS_223 => ?_)
                                  exact gz_vret rfl dX12_digits_76 (Nat.le_of_ble_eq_true rfl) (Nat.le_of_ble_eq_true rfl) (⟨rfl, _, _, _, _, hS_223, (fx_n (fx_n (fx_F (fx_n (fx_F (fx_tr fx_rf hx127 (by decide)) (by decide)) (by decide)) (by decide)) (by decide)) (by decide)), (by (try rw [(show (va_up (va_up (va_up n_127 88 ((n_127 88) + 1)) 88 (((n_127 88) + 1) + 1)) 89 1) 88 = (((n_127 88) + 1) + 1) from rfl)]); have q1_ := (T_add (T_add (rfl : ((n_127 88)).toInt = ((n_127 88)).toInt) (show (1 : Int32).toInt = 1 from rfl) (by omega)) (show (1 : Int32).toInt = 1 from rfl) (by omega)); omega), (by (try rw [(show (va_up (va_up (va_up n_127 88 ((n_127 88) + 1)) 88 (((n_127 88) + 1) + 1)) 89 1) 88 = (((n_127 88) + 1) + 1) from rfl)]); have q1_ := (T_add (T_add (rfl : ((n_127 88)).toInt = ((n_127 88)).toInt) (show (1 : Int32).toInt = 1 from rfl) (by omega)) (show (1 : Int32).toInt = 1 from rfl) (by omega)); omega)⟩)
                                · exact absurd c_18_206 (by decide)
                              · exact absurd c_28_205 (by decide)
            ·
              try simp only [mIn_0, lgc_lt, lgc_gt, lgc_le, lgc_ge, lgc_eq] at c_23_177
              try simp only [fl_lt, fl_le, fl_eq, fL_w, fL_lt, fL_le, tm1, tm10k, tm9, tm99, Int32.reduceToInt, Int64.reduceToInt, Int.not_lt, Int.not_le] at c_23_177
              refine gz_iload_n dX12_digits_26 rfl rfl ?_
              refine gz_iconst (v := 1) dX12_digits_27 (by decide) ?_
              refine gz_icmp_le (tgt := 34) dX12_digits_28 (by decide) (fun c_28_207 => ?_) (fun c_28_207 => ?_)
              · exact absurd c_28_207 (by decide)
              ·
                try simp only [mIn_0, lgc_lt, lgc_gt, lgc_le, lgc_ge, lgc_eq] at c_28_207
                try simp only [fl_lt, fl_le, fl_eq, fL_w, fL_lt, fL_le, tm1, tm10k, tm9, tm99, Int32.reduceToInt, Int64.reduceToInt, Int.not_lt, Int.not_le] at c_28_207
                refine gz_goto (tgt := 63) dX12_digits_31 (by decide) ?_
                refine gz_iload_n dX12_digits_63 rfl rfl ?_
                refine gz_bipush (v := 10) dX12_digits_64 (by decide) ?_
                refine gz_idiv dX12_digits_66 (by decide) ?_
                refine gz_ev (w := .int 100) (by decide) ?_
                refine gz_istore_n (lv' := [(2, .int 100), (0, .ref m), (1, .int x1)]) dX12_digits_67 rfl (by decide) rfl ?_
                refine gz_goto (tgt := 17) dX12_digits_68 (by decide) ?_
                refine gz_iload_n dX12_digits_17 rfl rfl ?_
                refine gz_if_le (tgt := 71) dX12_digits_18 (by decide) (fun c_18_208 => ?_) (fun c_18_208 => ?_)
                · exact absurd c_18_208 (by decide)
                ·
                  try simp only [mIn_0, lgc_lt, lgc_gt, lgc_le, lgc_ge, lgc_eq] at c_18_208
                  try simp only [fl_lt, fl_le, fl_eq, fL_w, fL_lt, fL_le, tm1, tm10k, tm9, tm99, Int32.reduceToInt, Int64.reduceToInt, Int.not_lt, Int.not_le] at c_18_208
                  refine gz_iload_n dX12_digits_21 rfl rfl ?_
                  refine gz_iload_n dX12_digits_22 rfl rfl ?_
                  refine gz_icmp_ge (tgt := 34) dX12_digits_23 (by decide) (fun c_23_209 => ?_) (fun c_23_209 => ?_)
                  ·
                    try simp only [mIn_0, lgc_lt, lgc_gt, lgc_le, lgc_ge, lgc_eq] at c_23_209
                    try simp only [fl_lt, fl_le, fl_eq, fL_w, fL_lt, fL_le, tm1, tm10k, tm9, tm99, Int32.reduceToInt, Int64.reduceToInt, Int.not_lt, Int.not_le] at c_23_209
                    refine gz_aload_n dX12_digits_34 rfl rfl ?_
                    refine mg_240 hS_127 dX12_digits_35 ?_
                    refine gz_aload_n dX12_digits_38 rfl rfl ?_
                    refine mg_541 hS_127 dX12_digits_39 ?_
                    refine gz_ev (w := .int (n_127 88)) rfl ?_
                    refine gz_bipush (v := 48) dX12_digits_42 (by decide) ?_
                    refine gz_iload_n dX12_digits_44 rfl rfl ?_
                    refine gz_iload_n dX12_digits_45 rfl rfl ?_
                    refine gz_idiv dX12_digits_46 (by decide) ?_
                    refine gz_bipush (v := 10) dX12_digits_47 (by decide) ?_
                    refine gz_irem dX12_digits_49 (by decide) ?_
                    refine gz_iadd dX12_digits_50 ?_
                    refine gz_i2b dX12_digits_51 ?_
                    refine m_bast 87 hS_127 rfl (N := 1000) rfl ((by exact vin_T (rfl : ((n_127 88)).toInt = ((n_127 88)).toInt) (by omega) (by omega))) dX12_digits_52 (fun f_224 hS_224q => ?_)
                    have hS_224 : mS cy m a f0 n_127 z_127 (va_up F_127 87 (upd (F_127 87) (Int32.toNatClampNeg (n_127 88)) (vp_nar .byte ((48 + ((x1 / 100) - (x1 / 100) / 10 * 10)).toInt8.toInt32)))) G_127 f_224 := hS_224q
                    refine gz_aload_n dX12_digits_53 rfl rfl ?_
                    refine gz_dup dX12_digits_54 rfl ?_
                    refine mg_541 hS_224 dX12_digits_55 ?_
                    refine gz_ev (w := .int (n_127 88)) rfl ?_
                    refine gz_iconst (v := 1) dX12_digits_58 (by decide) ?_
                    refine gz_iadd dX12_digits_59 ?_
                    refine mp_541 hS_224 dX12_digits_60 (fun f_225 hS_225 => ?_)
                    refine gz_iload_n dX12_digits_63 rfl rfl ?_
                    refine gz_bipush (v := 10) dX12_digits_64 (by decide) ?_
                    refine gz_idiv dX12_digits_66 (by decide) ?_
                    refine gz_ev (w := .int 10) (by decide) ?_
                    refine gz_istore_n (lv' := [(2, .int 10), (0, .ref m), (1, .int x1)]) dX12_digits_67 rfl (by decide) rfl ?_
                    refine gz_goto (tgt := 17) dX12_digits_68 (by decide) ?_
                    refine gz_iload_n dX12_digits_17 rfl rfl ?_
                    refine gz_if_le (tgt := 71) dX12_digits_18 (by decide) (fun c_18_210 => ?_) (fun c_18_210 => ?_)
                    · exact absurd c_18_210 (by decide)
                    ·
                      try simp only [mIn_0, lgc_lt, lgc_gt, lgc_le, lgc_ge, lgc_eq] at c_18_210
                      try simp only [fl_lt, fl_le, fl_eq, fL_w, fL_lt, fL_le, tm1, tm10k, tm9, tm99, Int32.reduceToInt, Int64.reduceToInt, Int.not_lt, Int.not_le] at c_18_210
                      refine gz_iload_n dX12_digits_21 rfl rfl ?_
                      refine gz_iload_n dX12_digits_22 rfl rfl ?_
                      refine gz_icmp_ge (tgt := 34) dX12_digits_23 (by decide) (fun c_23_211 => ?_) (fun c_23_211 => ?_)
                      ·
                        try simp only [mIn_0, lgc_lt, lgc_gt, lgc_le, lgc_ge, lgc_eq] at c_23_211
                        try simp only [fl_lt, fl_le, fl_eq, fL_w, fL_lt, fL_le, tm1, tm10k, tm9, tm99, Int32.reduceToInt, Int64.reduceToInt, Int.not_lt, Int.not_le] at c_23_211
                        refine gz_aload_n dX12_digits_34 rfl rfl ?_
                        refine mg_240 hS_225 dX12_digits_35 ?_
                        refine gz_aload_n dX12_digits_38 rfl rfl ?_
                        refine mg_541 hS_225 dX12_digits_39 ?_
                        refine gz_ev (w := .int ((n_127 88) + 1)) rfl ?_
                        refine gz_bipush (v := 48) dX12_digits_42 (by decide) ?_
                        refine gz_iload_n dX12_digits_44 rfl rfl ?_
                        refine gz_iload_n dX12_digits_45 rfl rfl ?_
                        refine gz_idiv dX12_digits_46 (by decide) ?_
                        refine gz_bipush (v := 10) dX12_digits_47 (by decide) ?_
                        refine gz_irem dX12_digits_49 (by decide) ?_
                        refine gz_iadd dX12_digits_50 ?_
                        refine gz_i2b dX12_digits_51 ?_
                        refine m_bast 87 hS_225 rfl (N := 1000) rfl ((by have q9 := (T_add (rfl : ((n_127 88)).toInt = ((n_127 88)).toInt) (show (1 : Int32).toInt = 1 from rfl) (by omega)); exact vin_T q9 (by omega) (by omega))) dX12_digits_52 (fun f_226 hS_226q => ?_)
                        have hS_226 : mS cy m a f0 (va_up n_127 88 ((n_127 88) + 1)) z_127 (va_up (va_up F_127 87 (upd (F_127 87) (Int32.toNatClampNeg (n_127 88)) (vp_nar .byte ((48 + ((x1 / 100) - (x1 / 100) / 10 * 10)).toInt8.toInt32)))) 87 (upd (upd (F_127 87) (Int32.toNatClampNeg (n_127 88)) (vp_nar .byte ((48 + ((x1 / 100) - (x1 / 100) / 10 * 10)).toInt8.toInt32))) (Int32.toNatClampNeg ((n_127 88) + 1)) (vp_nar .byte ((48 + ((x1 / 10) - (x1 / 10) / 10 * 10)).toInt8.toInt32)))) G_127 f_226 := hS_226q
                        refine gz_aload_n dX12_digits_53 rfl rfl ?_
                        refine gz_dup dX12_digits_54 rfl ?_
                        refine mg_541 hS_226 dX12_digits_55 ?_
                        refine gz_ev (w := .int ((n_127 88) + 1)) rfl ?_
                        refine gz_iconst (v := 1) dX12_digits_58 (by decide) ?_
                        refine gz_iadd dX12_digits_59 ?_
                        refine mp_541 hS_226 dX12_digits_60 (fun f_227 hS_227 => ?_)
                        refine gz_iload_n dX12_digits_63 rfl rfl ?_
                        refine gz_bipush (v := 10) dX12_digits_64 (by decide) ?_
                        refine gz_idiv dX12_digits_66 (by decide) ?_
                        refine gz_ev (w := .int 1) (by decide) ?_
                        refine gz_istore_n (lv' := [(2, .int 1), (0, .ref m), (1, .int x1)]) dX12_digits_67 rfl (by decide) rfl ?_
                        refine gz_goto (tgt := 17) dX12_digits_68 (by decide) ?_
                        refine gz_iload_n dX12_digits_17 rfl rfl ?_
                        refine gz_if_le (tgt := 71) dX12_digits_18 (by decide) (fun c_18_212 => ?_) (fun c_18_212 => ?_)
                        · exact absurd c_18_212 (by decide)
                        ·
                          try simp only [mIn_0, lgc_lt, lgc_gt, lgc_le, lgc_ge, lgc_eq] at c_18_212
                          try simp only [fl_lt, fl_le, fl_eq, fL_w, fL_lt, fL_le, tm1, tm10k, tm9, tm99, Int32.reduceToInt, Int64.reduceToInt, Int.not_lt, Int.not_le] at c_18_212
                          refine gz_iload_n dX12_digits_21 rfl rfl ?_
                          refine gz_iload_n dX12_digits_22 rfl rfl ?_
                          refine gz_icmp_ge (tgt := 34) dX12_digits_23 (by decide) (fun c_23_213 => ?_) (fun c_23_213 => ?_)
                          ·
                            try simp only [mIn_0, lgc_lt, lgc_gt, lgc_le, lgc_ge, lgc_eq] at c_23_213
                            try simp only [fl_lt, fl_le, fl_eq, fL_w, fL_lt, fL_le, tm1, tm10k, tm9, tm99, Int32.reduceToInt, Int64.reduceToInt, Int.not_lt, Int.not_le] at c_23_213
                            refine gz_aload_n dX12_digits_34 rfl rfl ?_
                            refine mg_240 hS_227 dX12_digits_35 ?_
                            refine gz_aload_n dX12_digits_38 rfl rfl ?_
                            refine mg_541 hS_227 dX12_digits_39 ?_
                            refine gz_ev (w := .int (((n_127 88) + 1) + 1)) rfl ?_
                            refine gz_bipush (v := 48) dX12_digits_42 (by decide) ?_
                            refine gz_iload_n dX12_digits_44 rfl rfl ?_
                            refine gz_iload_n dX12_digits_45 rfl rfl ?_
                            refine gz_idiv dX12_digits_46 (by decide) ?_
                            refine gz_bipush (v := 10) dX12_digits_47 (by decide) ?_
                            refine gz_irem dX12_digits_49 (by decide) ?_
                            refine gz_iadd dX12_digits_50 ?_
                            refine gz_i2b dX12_digits_51 ?_
                            refine m_bast 87 hS_227 rfl (N := 1000) rfl ((by have q9 := (T_add (T_add (rfl : ((n_127 88)).toInt = ((n_127 88)).toInt) (show (1 : Int32).toInt = 1 from rfl) (by omega)) (show (1 : Int32).toInt = 1 from rfl) (by omega)); exact vin_T q9 (by omega) (by omega))) dX12_digits_52 (fun f_228 hS_228q => ?_)
                            have hS_228 : mS cy m a f0 (va_up (va_up n_127 88 ((n_127 88) + 1)) 88 (((n_127 88) + 1) + 1)) z_127 (va_up (va_up (va_up F_127 87 (upd (F_127 87) (Int32.toNatClampNeg (n_127 88)) (vp_nar .byte ((48 + ((x1 / 100) - (x1 / 100) / 10 * 10)).toInt8.toInt32)))) 87 (upd (upd (F_127 87) (Int32.toNatClampNeg (n_127 88)) (vp_nar .byte ((48 + ((x1 / 100) - (x1 / 100) / 10 * 10)).toInt8.toInt32))) (Int32.toNatClampNeg ((n_127 88) + 1)) (vp_nar .byte ((48 + ((x1 / 10) - (x1 / 10) / 10 * 10)).toInt8.toInt32)))) 87 (upd (upd (upd (F_127 87) (Int32.toNatClampNeg (n_127 88)) (vp_nar .byte ((48 + ((x1 / 100) - (x1 / 100) / 10 * 10)).toInt8.toInt32))) (Int32.toNatClampNeg ((n_127 88) + 1)) (vp_nar .byte ((48 + ((x1 / 10) - (x1 / 10) / 10 * 10)).toInt8.toInt32))) (Int32.toNatClampNeg (((n_127 88) + 1) + 1)) (vp_nar .byte ((48 + ((x1 / 1) - (x1 / 1) / 10 * 10)).toInt8.toInt32)))) G_127 f_228 := hS_228q
                            refine gz_aload_n dX12_digits_53 rfl rfl ?_
                            refine gz_dup dX12_digits_54 rfl ?_
                            refine mg_541 hS_228 dX12_digits_55 ?_
                            refine gz_ev (w := .int (((n_127 88) + 1) + 1)) rfl ?_
                            refine gz_iconst (v := 1) dX12_digits_58 (by decide) ?_
                            refine gz_iadd dX12_digits_59 ?_
                            refine mp_541 hS_228 dX12_digits_60 (fun f_229 hS_229 => ?_)
                            refine gz_iload_n dX12_digits_63 rfl rfl ?_
                            refine gz_bipush (v := 10) dX12_digits_64 (by decide) ?_
                            refine gz_idiv dX12_digits_66 (by decide) ?_
                            refine gz_ev (w := .int 0) (by decide) ?_
                            refine gz_istore_n (lv' := [(2, .int 0), (0, .ref m), (1, .int x1)]) dX12_digits_67 rfl (by decide) rfl ?_
                            refine gz_goto (tgt := 17) dX12_digits_68 (by decide) ?_
                            refine gz_iload_n dX12_digits_17 rfl rfl ?_
                            refine gz_if_le (tgt := 71) dX12_digits_18 (by decide) (fun c_18_214 => ?_) (fun c_18_214 => ?_)
                            ·
                              try simp only [mIn_0, lgc_lt, lgc_gt, lgc_le, lgc_ge, lgc_eq] at c_18_214
                              try simp only [fl_lt, fl_le, fl_eq, fL_w, fL_lt, fL_le, tm1, tm10k, tm9, tm99, Int32.reduceToInt, Int64.reduceToInt, Int.not_lt, Int.not_le] at c_18_214
                              refine gz_aload_n dX12_digits_71 rfl rfl ?_
                              refine gz_iconst (v := 1) dX12_digits_72 (by decide) ?_
                              refine mp_544 hS_229 ⟨rfl, rfl⟩ dX12_digits_73 (fun f_230 hS_230 => ?_)
                              exact gz_vret rfl dX12_digits_76 (Nat.le_of_ble_eq_true rfl) (Nat.le_of_ble_eq_true rfl) (⟨rfl, _, _, _, _, hS_230, (fx_n (fx_n (fx_F (fx_n (fx_F (fx_n (fx_F (fx_tr fx_rf hx127 (by decide)) (by decide)) (by decide)) (by decide)) (by decide)) (by decide)) (by decide)) (by decide)), (by (try rw [(show (va_up (va_up (va_up (va_up n_127 88 ((n_127 88) + 1)) 88 (((n_127 88) + 1) + 1)) 88 ((((n_127 88) + 1) + 1) + 1)) 89 1) 88 = ((((n_127 88) + 1) + 1) + 1) from rfl)]); have q1_ := (T_add (T_add (T_add (rfl : ((n_127 88)).toInt = ((n_127 88)).toInt) (show (1 : Int32).toInt = 1 from rfl) (by omega)) (show (1 : Int32).toInt = 1 from rfl) (by omega)) (show (1 : Int32).toInt = 1 from rfl) (by omega)); omega), (by (try rw [(show (va_up (va_up (va_up (va_up n_127 88 ((n_127 88) + 1)) 88 (((n_127 88) + 1) + 1)) 88 ((((n_127 88) + 1) + 1) + 1)) 89 1) 88 = ((((n_127 88) + 1) + 1) + 1) from rfl)]); have q1_ := (T_add (T_add (T_add (rfl : ((n_127 88)).toInt = ((n_127 88)).toInt) (show (1 : Int32).toInt = 1 from rfl) (by omega)) (show (1 : Int32).toInt = 1 from rfl) (by omega)) (show (1 : Int32).toInt = 1 from rfl) (by omega)); omega)⟩)
                            · exact absurd c_18_214 (by decide)
                          ·
                            try simp only [mIn_0, lgc_lt, lgc_gt, lgc_le, lgc_ge, lgc_eq] at c_23_213
                            try simp only [fl_lt, fl_le, fl_eq, fL_w, fL_lt, fL_le, tm1, tm10k, tm9, tm99, Int32.reduceToInt, Int64.reduceToInt, Int.not_lt, Int.not_le] at c_23_213
                            refine gz_iload_n dX12_digits_26 rfl rfl ?_
                            refine gz_iconst (v := 1) dX12_digits_27 (by decide) ?_
                            refine gz_icmp_le (tgt := 34) dX12_digits_28 (by decide) (fun c_28_215 => ?_) (fun c_28_215 => ?_)
                            ·
                              try simp only [mIn_0, lgc_lt, lgc_gt, lgc_le, lgc_ge, lgc_eq] at c_28_215
                              try simp only [fl_lt, fl_le, fl_eq, fL_w, fL_lt, fL_le, tm1, tm10k, tm9, tm99, Int32.reduceToInt, Int64.reduceToInt, Int.not_lt, Int.not_le] at c_28_215
                              refine gz_aload_n dX12_digits_34 rfl rfl ?_
                              refine mg_240 hS_227 dX12_digits_35 ?_
                              refine gz_aload_n dX12_digits_38 rfl rfl ?_
                              refine mg_541 hS_227 dX12_digits_39 ?_
                              refine gz_ev (w := .int (((n_127 88) + 1) + 1)) rfl ?_
                              refine gz_bipush (v := 48) dX12_digits_42 (by decide) ?_
                              refine gz_iload_n dX12_digits_44 rfl rfl ?_
                              refine gz_iload_n dX12_digits_45 rfl rfl ?_
                              refine gz_idiv dX12_digits_46 (by decide) ?_
                              refine gz_bipush (v := 10) dX12_digits_47 (by decide) ?_
                              refine gz_irem dX12_digits_49 (by decide) ?_
                              refine gz_iadd dX12_digits_50 ?_
                              refine gz_i2b dX12_digits_51 ?_
                              refine m_bast 87 hS_227 rfl (N := 1000) rfl ((by have q9 := (T_add (T_add (rfl : ((n_127 88)).toInt = ((n_127 88)).toInt) (show (1 : Int32).toInt = 1 from rfl) (by omega)) (show (1 : Int32).toInt = 1 from rfl) (by omega)); exact vin_T q9 (by omega) (by omega))) dX12_digits_52 (fun f_231 hS_231q => ?_)
                              have hS_231 : mS cy m a f0 (va_up (va_up n_127 88 ((n_127 88) + 1)) 88 (((n_127 88) + 1) + 1)) z_127 (va_up (va_up (va_up F_127 87 (upd (F_127 87) (Int32.toNatClampNeg (n_127 88)) (vp_nar .byte ((48 + ((x1 / 100) - (x1 / 100) / 10 * 10)).toInt8.toInt32)))) 87 (upd (upd (F_127 87) (Int32.toNatClampNeg (n_127 88)) (vp_nar .byte ((48 + ((x1 / 100) - (x1 / 100) / 10 * 10)).toInt8.toInt32))) (Int32.toNatClampNeg ((n_127 88) + 1)) (vp_nar .byte ((48 + ((x1 / 10) - (x1 / 10) / 10 * 10)).toInt8.toInt32)))) 87 (upd (upd (upd (F_127 87) (Int32.toNatClampNeg (n_127 88)) (vp_nar .byte ((48 + ((x1 / 100) - (x1 / 100) / 10 * 10)).toInt8.toInt32))) (Int32.toNatClampNeg ((n_127 88) + 1)) (vp_nar .byte ((48 + ((x1 / 10) - (x1 / 10) / 10 * 10)).toInt8.toInt32))) (Int32.toNatClampNeg (((n_127 88) + 1) + 1)) (vp_nar .byte ((48 + ((x1 / 1) - (x1 / 1) / 10 * 10)).toInt8.toInt32)))) G_127 f_231 := hS_231q
                              refine gz_aload_n dX12_digits_53 rfl rfl ?_
                              refine gz_dup dX12_digits_54 rfl ?_
                              refine mg_541 hS_231 dX12_digits_55 ?_
                              refine gz_ev (w := .int (((n_127 88) + 1) + 1)) rfl ?_
                              refine gz_iconst (v := 1) dX12_digits_58 (by decide) ?_
                              refine gz_iadd dX12_digits_59 ?_
                              refine mp_541 hS_231 dX12_digits_60 (fun f_232 hS_232 => ?_)
                              refine gz_iload_n dX12_digits_63 rfl rfl ?_
                              refine gz_bipush (v := 10) dX12_digits_64 (by decide) ?_
                              refine gz_idiv dX12_digits_66 (by decide) ?_
                              refine gz_ev (w := .int 0) (by decide) ?_
                              refine gz_istore_n (lv' := [(2, .int 0), (0, .ref m), (1, .int x1)]) dX12_digits_67 rfl (by decide) rfl ?_
                              refine gz_goto (tgt := 17) dX12_digits_68 (by decide) ?_
                              refine gz_iload_n dX12_digits_17 rfl rfl ?_
                              refine gz_if_le (tgt := 71) dX12_digits_18 (by decide) (fun c_18_216 => ?_) (fun c_18_216 => ?_)
                              ·
                                try simp only [mIn_0, lgc_lt, lgc_gt, lgc_le, lgc_ge, lgc_eq] at c_18_216
                                try simp only [fl_lt, fl_le, fl_eq, fL_w, fL_lt, fL_le, tm1, tm10k, tm9, tm99, Int32.reduceToInt, Int64.reduceToInt, Int.not_lt, Int.not_le] at c_18_216
                                refine gz_aload_n dX12_digits_71 rfl rfl ?_
                                refine gz_iconst (v := 1) dX12_digits_72 (by decide) ?_
                                refine mp_544 hS_232 ⟨rfl, rfl⟩ dX12_digits_73 (fun f_233 hS_233 => ?_)
                                exact gz_vret rfl dX12_digits_76 (Nat.le_of_ble_eq_true rfl) (Nat.le_of_ble_eq_true rfl) (⟨rfl, _, _, _, _, hS_233, (fx_n (fx_n (fx_F (fx_n (fx_F (fx_n (fx_F (fx_tr fx_rf hx127 (by decide)) (by decide)) (by decide)) (by decide)) (by decide)) (by decide)) (by decide)) (by decide)), (by (try rw [(show (va_up (va_up (va_up (va_up n_127 88 ((n_127 88) + 1)) 88 (((n_127 88) + 1) + 1)) 88 ((((n_127 88) + 1) + 1) + 1)) 89 1) 88 = ((((n_127 88) + 1) + 1) + 1) from rfl)]); have q1_ := (T_add (T_add (T_add (rfl : ((n_127 88)).toInt = ((n_127 88)).toInt) (show (1 : Int32).toInt = 1 from rfl) (by omega)) (show (1 : Int32).toInt = 1 from rfl) (by omega)) (show (1 : Int32).toInt = 1 from rfl) (by omega)); omega), (by (try rw [(show (va_up (va_up (va_up (va_up n_127 88 ((n_127 88) + 1)) 88 (((n_127 88) + 1) + 1)) 88 ((((n_127 88) + 1) + 1) + 1)) 89 1) 88 = ((((n_127 88) + 1) + 1) + 1) from rfl)]); have q1_ := (T_add (T_add (T_add (rfl : ((n_127 88)).toInt = ((n_127 88)).toInt) (show (1 : Int32).toInt = 1 from rfl) (by omega)) (show (1 : Int32).toInt = 1 from rfl) (by omega)) (show (1 : Int32).toInt = 1 from rfl) (by omega)); omega)⟩)
                              · exact absurd c_18_216 (by decide)
                            · exact absurd c_28_215 (by decide)
                      ·
                        try simp only [mIn_0, lgc_lt, lgc_gt, lgc_le, lgc_ge, lgc_eq] at c_23_211
                        try simp only [fl_lt, fl_le, fl_eq, fL_w, fL_lt, fL_le, tm1, tm10k, tm9, tm99, Int32.reduceToInt, Int64.reduceToInt, Int.not_lt, Int.not_le] at c_23_211
                        refine gz_iload_n dX12_digits_26 rfl rfl ?_
                        refine gz_iconst (v := 1) dX12_digits_27 (by decide) ?_
                        refine gz_icmp_le (tgt := 34) dX12_digits_28 (by decide) (fun c_28_217 => ?_) (fun c_28_217 => ?_)
                        · exact absurd c_28_217 (by decide)
                        ·
                          try simp only [mIn_0, lgc_lt, lgc_gt, lgc_le, lgc_ge, lgc_eq] at c_28_217
                          try simp only [fl_lt, fl_le, fl_eq, fL_w, fL_lt, fL_le, tm1, tm10k, tm9, tm99, Int32.reduceToInt, Int64.reduceToInt, Int.not_lt, Int.not_le] at c_28_217
                          refine gz_goto (tgt := 63) dX12_digits_31 (by decide) ?_
                          refine gz_iload_n dX12_digits_63 rfl rfl ?_
                          refine gz_bipush (v := 10) dX12_digits_64 (by decide) ?_
                          refine gz_idiv dX12_digits_66 (by decide) ?_
                          refine gz_ev (w := .int 1) (by decide) ?_
                          refine gz_istore_n (lv' := [(2, .int 1), (0, .ref m), (1, .int x1)]) dX12_digits_67 rfl (by decide) rfl ?_
                          refine gz_goto (tgt := 17) dX12_digits_68 (by decide) ?_
                          refine gz_iload_n dX12_digits_17 rfl rfl ?_
                          refine gz_if_le (tgt := 71) dX12_digits_18 (by decide) (fun c_18_218 => ?_) (fun c_18_218 => ?_)
                          · exact absurd c_18_218 (by decide)
                          ·
                            try simp only [mIn_0, lgc_lt, lgc_gt, lgc_le, lgc_ge, lgc_eq] at c_18_218
                            try simp only [fl_lt, fl_le, fl_eq, fL_w, fL_lt, fL_le, tm1, tm10k, tm9, tm99, Int32.reduceToInt, Int64.reduceToInt, Int.not_lt, Int.not_le] at c_18_218
                            refine gz_iload_n dX12_digits_21 rfl rfl ?_
                            refine gz_iload_n dX12_digits_22 rfl rfl ?_
                            refine gz_icmp_ge (tgt := 34) dX12_digits_23 (by decide) (fun c_23_219 => ?_) (fun c_23_219 => ?_)
                            ·
                              try simp only [mIn_0, lgc_lt, lgc_gt, lgc_le, lgc_ge, lgc_eq] at c_23_219
                              try simp only [fl_lt, fl_le, fl_eq, fL_w, fL_lt, fL_le, tm1, tm10k, tm9, tm99, Int32.reduceToInt, Int64.reduceToInt, Int.not_lt, Int.not_le] at c_23_219
                              refine gz_aload_n dX12_digits_34 rfl rfl ?_
                              refine mg_240 hS_225 dX12_digits_35 ?_
                              refine gz_aload_n dX12_digits_38 rfl rfl ?_
                              refine mg_541 hS_225 dX12_digits_39 ?_
                              refine gz_ev (w := .int ((n_127 88) + 1)) rfl ?_
                              refine gz_bipush (v := 48) dX12_digits_42 (by decide) ?_
                              refine gz_iload_n dX12_digits_44 rfl rfl ?_
                              refine gz_iload_n dX12_digits_45 rfl rfl ?_
                              refine gz_idiv dX12_digits_46 (by decide) ?_
                              refine gz_bipush (v := 10) dX12_digits_47 (by decide) ?_
                              refine gz_irem dX12_digits_49 (by decide) ?_
                              refine gz_iadd dX12_digits_50 ?_
                              refine gz_i2b dX12_digits_51 ?_
                              refine m_bast 87 hS_225 rfl (N := 1000) rfl ((by have q9 := (T_add (rfl : ((n_127 88)).toInt = ((n_127 88)).toInt) (show (1 : Int32).toInt = 1 from rfl) (by omega)); exact vin_T q9 (by omega) (by omega))) dX12_digits_52 (fun f_234 hS_234q => ?_)
                              have hS_234 : mS cy m a f0 (va_up n_127 88 ((n_127 88) + 1)) z_127 (va_up (va_up F_127 87 (upd (F_127 87) (Int32.toNatClampNeg (n_127 88)) (vp_nar .byte ((48 + ((x1 / 100) - (x1 / 100) / 10 * 10)).toInt8.toInt32)))) 87 (upd (upd (F_127 87) (Int32.toNatClampNeg (n_127 88)) (vp_nar .byte ((48 + ((x1 / 100) - (x1 / 100) / 10 * 10)).toInt8.toInt32))) (Int32.toNatClampNeg ((n_127 88) + 1)) (vp_nar .byte ((48 + ((x1 / 1) - (x1 / 1) / 10 * 10)).toInt8.toInt32)))) G_127 f_234 := hS_234q
                              refine gz_aload_n dX12_digits_53 rfl rfl ?_
                              refine gz_dup dX12_digits_54 rfl ?_
                              refine mg_541 hS_234 dX12_digits_55 ?_
                              refine gz_ev (w := .int ((n_127 88) + 1)) rfl ?_
                              refine gz_iconst (v := 1) dX12_digits_58 (by decide) ?_
                              refine gz_iadd dX12_digits_59 ?_
                              refine mp_541 hS_234 dX12_digits_60 (fun f_235 hS_235 => ?_)
                              refine gz_iload_n dX12_digits_63 rfl rfl ?_
                              refine gz_bipush (v := 10) dX12_digits_64 (by decide) ?_
                              refine gz_idiv dX12_digits_66 (by decide) ?_
                              refine gz_ev (w := .int 0) (by decide) ?_
                              refine gz_istore_n (lv' := [(2, .int 0), (0, .ref m), (1, .int x1)]) dX12_digits_67 rfl (by decide) rfl ?_
                              refine gz_goto (tgt := 17) dX12_digits_68 (by decide) ?_
                              refine gz_iload_n dX12_digits_17 rfl rfl ?_
                              refine gz_if_le (tgt := 71) dX12_digits_18 (by decide) (fun c_18_220 => ?_) (fun c_18_220 => ?_)
                              ·
                                try simp only [mIn_0, lgc_lt, lgc_gt, lgc_le, lgc_ge, lgc_eq] at c_18_220
                                try simp only [fl_lt, fl_le, fl_eq, fL_w, fL_lt, fL_le, tm1, tm10k, tm9, tm99, Int32.reduceToInt, Int64.reduceToInt, Int.not_lt, Int.not_le] at c_18_220
                                refine gz_aload_n dX12_digits_71 rfl rfl ?_
                                refine gz_iconst (v := 1) dX12_digits_72 (by decide) ?_
                                refine mp_544 hS_235 ⟨rfl, rfl⟩ dX12_digits_73 (fun f_236 hS_236 => ?_)
                                exact gz_vret rfl dX12_digits_76 (Nat.le_of_ble_eq_true rfl) (Nat.le_of_ble_eq_true rfl) (⟨rfl, _, _, _, _, hS_236, (fx_n (fx_n (fx_F (fx_n (fx_F (fx_tr fx_rf hx127 (by decide)) (by decide)) (by decide)) (by decide)) (by decide)) (by decide)), (by (try rw [(show (va_up (va_up (va_up n_127 88 ((n_127 88) + 1)) 88 (((n_127 88) + 1) + 1)) 89 1) 88 = (((n_127 88) + 1) + 1) from rfl)]); have q1_ := (T_add (T_add (rfl : ((n_127 88)).toInt = ((n_127 88)).toInt) (show (1 : Int32).toInt = 1 from rfl) (by omega)) (show (1 : Int32).toInt = 1 from rfl) (by omega)); omega), (by (try rw [(show (va_up (va_up (va_up n_127 88 ((n_127 88) + 1)) 88 (((n_127 88) + 1) + 1)) 89 1) 88 = (((n_127 88) + 1) + 1) from rfl)]); have q1_ := (T_add (T_add (rfl : ((n_127 88)).toInt = ((n_127 88)).toInt) (show (1 : Int32).toInt = 1 from rfl) (by omega)) (show (1 : Int32).toInt = 1 from rfl) (by omega)); omega)⟩)
                              · exact absurd c_18_220 (by decide)
                            ·
                              try simp only [mIn_0, lgc_lt, lgc_gt, lgc_le, lgc_ge, lgc_eq] at c_23_219
                              try simp only [fl_lt, fl_le, fl_eq, fL_w, fL_lt, fL_le, tm1, tm10k, tm9, tm99, Int32.reduceToInt, Int64.reduceToInt, Int.not_lt, Int.not_le] at c_23_219
                              refine gz_iload_n dX12_digits_26 rfl rfl ?_
                              refine gz_iconst (v := 1) dX12_digits_27 (by decide) ?_
                              refine gz_icmp_le (tgt := 34) dX12_digits_28 (by decide) (fun c_28_221 => ?_) (fun c_28_221 => ?_)
                              ·
                                try simp only [mIn_0, lgc_lt, lgc_gt, lgc_le, lgc_ge, lgc_eq] at c_28_221
                                try simp only [fl_lt, fl_le, fl_eq, fL_w, fL_lt, fL_le, tm1, tm10k, tm9, tm99, Int32.reduceToInt, Int64.reduceToInt, Int.not_lt, Int.not_le] at c_28_221
                                refine gz_aload_n dX12_digits_34 rfl rfl ?_
                                refine mg_240 hS_225 dX12_digits_35 ?_
                                refine gz_aload_n dX12_digits_38 rfl rfl ?_
                                refine mg_541 hS_225 dX12_digits_39 ?_
                                refine gz_ev (w := .int ((n_127 88) + 1)) rfl ?_
                                refine gz_bipush (v := 48) dX12_digits_42 (by decide) ?_
                                refine gz_iload_n dX12_digits_44 rfl rfl ?_
                                refine gz_iload_n dX12_digits_45 rfl rfl ?_
                                refine gz_idiv dX12_digits_46 (by decide) ?_
                                refine gz_bipush (v := 10) dX12_digits_47 (by decide) ?_
                                refine gz_irem dX12_digits_49 (by decide) ?_
                                refine gz_iadd dX12_digits_50 ?_
                                refine gz_i2b dX12_digits_51 ?_
                                refine m_bast 87 hS_225 rfl (N := 1000) rfl ((by have q9 := (T_add (rfl : ((n_127 88)).toInt = ((n_127 88)).toInt) (show (1 : Int32).toInt = 1 from rfl) (by omega)); exact vin_T q9 (by omega) (by omega))) dX12_digits_52 (fun f_237 hS_237q => ?_)
                                have hS_237 : mS cy m a f0 (va_up n_127 88 ((n_127 88) + 1)) z_127 (va_up (va_up F_127 87 (upd (F_127 87) (Int32.toNatClampNeg (n_127 88)) (vp_nar .byte ((48 + ((x1 / 100) - (x1 / 100) / 10 * 10)).toInt8.toInt32)))) 87 (upd (upd (F_127 87) (Int32.toNatClampNeg (n_127 88)) (vp_nar .byte ((48 + ((x1 / 100) - (x1 / 100) / 10 * 10)).toInt8.toInt32))) (Int32.toNatClampNeg ((n_127 88) + 1)) (vp_nar .byte ((48 + ((x1 / 1) - (x1 / 1) / 10 * 10)).toInt8.toInt32)))) G_127 f_237 := hS_237q
                                refine gz_aload_n dX12_digits_53 rfl rfl ?_
                                refine gz_dup dX12_digits_54 rfl ?_
                                refine mg_541 hS_237 dX12_digits_55 ?_
                                refine gz_ev (w := .int ((n_127 88) + 1)) rfl ?_
                                refine gz_iconst (v := 1) dX12_digits_58 (by decide) ?_
                                refine gz_iadd dX12_digits_59 ?_
                                refine mp_541 hS_237 dX12_digits_60 (fun f_238 hS_238 => ?_)
                                refine gz_iload_n dX12_digits_63 rfl rfl ?_
                                refine gz_bipush (v := 10) dX12_digits_64 (by decide) ?_
                                refine gz_idiv dX12_digits_66 (by decide) ?_
                                refine gz_ev (w := .int 0) (by decide) ?_
                                refine gz_istore_n (lv' := [(2, .int 0), (0, .ref m), (1, .int x1)]) dX12_digits_67 rfl (by decide) rfl ?_
                                refine gz_goto (tgt := 17) dX12_digits_68 (by decide) ?_
                                refine gz_iload_n dX12_digits_17 rfl rfl ?_
                                refine gz_if_le (tgt := 71) dX12_digits_18 (by decide) (fun c_18_222 => ?_) (fun c_18_222 => ?_)
                                ·
                                  try simp only [mIn_0, lgc_lt, lgc_gt, lgc_le, lgc_ge, lgc_eq] at c_18_222
                                  try simp only [fl_lt, fl_le, fl_eq, fL_w, fL_lt, fL_le, tm1, tm10k, tm9, tm99, Int32.reduceToInt, Int64.reduceToInt, Int.not_lt, Int.not_le] at c_18_222
                                  refine gz_aload_n dX12_digits_71 rfl rfl ?_
                                  refine gz_iconst (v := 1) dX12_digits_72 (by decide) ?_
                                  refine mp_544 hS_238 ⟨rfl, rfl⟩ dX12_digits_73 (fun f_239 hS_239 => ?_)
                                  exact gz_vret rfl dX12_digits_76 (Nat.le_of_ble_eq_true rfl) (Nat.le_of_ble_eq_true rfl) (⟨rfl, _, _, _, _, hS_239, (fx_n (fx_n (fx_F (fx_n (fx_F (fx_tr fx_rf hx127 (by decide)) (by decide)) (by decide)) (by decide)) (by decide)) (by decide)), (by (try rw [(show (va_up (va_up (va_up n_127 88 ((n_127 88) + 1)) 88 (((n_127 88) + 1) + 1)) 89 1) 88 = (((n_127 88) + 1) + 1) from rfl)]); have q1_ := (T_add (T_add (rfl : ((n_127 88)).toInt = ((n_127 88)).toInt) (show (1 : Int32).toInt = 1 from rfl) (by omega)) (show (1 : Int32).toInt = 1 from rfl) (by omega)); omega), (by (try rw [(show (va_up (va_up (va_up n_127 88 ((n_127 88) + 1)) 88 (((n_127 88) + 1) + 1)) 89 1) 88 = (((n_127 88) + 1) + 1) from rfl)]); have q1_ := (T_add (T_add (rfl : ((n_127 88)).toInt = ((n_127 88)).toInt) (show (1 : Int32).toInt = 1 from rfl) (by omega)) (show (1 : Int32).toInt = 1 from rfl) (by omega)); omega)⟩)
                                · exact absurd c_18_222 (by decide)
                              · exact absurd c_28_221 (by decide)
                  ·
                    try simp only [mIn_0, lgc_lt, lgc_gt, lgc_le, lgc_ge, lgc_eq] at c_23_209
                    try simp only [fl_lt, fl_le, fl_eq, fL_w, fL_lt, fL_le, tm1, tm10k, tm9, tm99, Int32.reduceToInt, Int64.reduceToInt, Int.not_lt, Int.not_le] at c_23_209
                    refine gz_iload_n dX12_digits_26 rfl rfl ?_
                    refine gz_iconst (v := 1) dX12_digits_27 (by decide) ?_
                    refine gz_icmp_le (tgt := 34) dX12_digits_28 (by decide) (fun c_28_223 => ?_) (fun c_28_223 => ?_)
                    · exact absurd c_28_223 (by decide)
                    ·
                      try simp only [mIn_0, lgc_lt, lgc_gt, lgc_le, lgc_ge, lgc_eq] at c_28_223
                      try simp only [fl_lt, fl_le, fl_eq, fL_w, fL_lt, fL_le, tm1, tm10k, tm9, tm99, Int32.reduceToInt, Int64.reduceToInt, Int.not_lt, Int.not_le] at c_28_223
                      refine gz_goto (tgt := 63) dX12_digits_31 (by decide) ?_
                      refine gz_iload_n dX12_digits_63 rfl rfl ?_
                      refine gz_bipush (v := 10) dX12_digits_64 (by decide) ?_
                      refine gz_idiv dX12_digits_66 (by decide) ?_
                      refine gz_ev (w := .int 10) (by decide) ?_
                      refine gz_istore_n (lv' := [(2, .int 10), (0, .ref m), (1, .int x1)]) dX12_digits_67 rfl (by decide) rfl ?_
                      refine gz_goto (tgt := 17) dX12_digits_68 (by decide) ?_
                      refine gz_iload_n dX12_digits_17 rfl rfl ?_
                      refine gz_if_le (tgt := 71) dX12_digits_18 (by decide) (fun c_18_224 => ?_) (fun c_18_224 => ?_)
                      · exact absurd c_18_224 (by decide)
                      ·
                        try simp only [mIn_0, lgc_lt, lgc_gt, lgc_le, lgc_ge, lgc_eq] at c_18_224
                        try simp only [fl_lt, fl_le, fl_eq, fL_w, fL_lt, fL_le, tm1, tm10k, tm9, tm99, Int32.reduceToInt, Int64.reduceToInt, Int.not_lt, Int.not_le] at c_18_224
                        refine gz_iload_n dX12_digits_21 rfl rfl ?_
                        refine gz_iload_n dX12_digits_22 rfl rfl ?_
                        refine gz_icmp_ge (tgt := 34) dX12_digits_23 (by decide) (fun c_23_225 => ?_) (fun c_23_225 => ?_)
                        ·
                          try simp only [mIn_0, lgc_lt, lgc_gt, lgc_le, lgc_ge, lgc_eq] at c_23_225
                          try simp only [fl_lt, fl_le, fl_eq, fL_w, fL_lt, fL_le, tm1, tm10k, tm9, tm99, Int32.reduceToInt, Int64.reduceToInt, Int.not_lt, Int.not_le] at c_23_225
                          refine gz_aload_n dX12_digits_34 rfl rfl ?_
                          refine mg_240 hS_127 dX12_digits_35 ?_
                          refine gz_aload_n dX12_digits_38 rfl rfl ?_
                          refine mg_541 hS_127 dX12_digits_39 ?_
                          refine gz_ev (w := .int (n_127 88)) rfl ?_
                          refine gz_bipush (v := 48) dX12_digits_42 (by decide) ?_
                          refine gz_iload_n dX12_digits_44 rfl rfl ?_
                          refine gz_iload_n dX12_digits_45 rfl rfl ?_
                          refine gz_idiv dX12_digits_46 (by decide) ?_
                          refine gz_bipush (v := 10) dX12_digits_47 (by decide) ?_
                          refine gz_irem dX12_digits_49 (by decide) ?_
                          refine gz_iadd dX12_digits_50 ?_
                          refine gz_i2b dX12_digits_51 ?_
                          refine m_bast 87 hS_127 rfl (N := 1000) rfl ((by exact vin_T (rfl : ((n_127 88)).toInt = ((n_127 88)).toInt) (by omega) (by omega))) dX12_digits_52 (fun f_240 hS_240q => ?_)
                          have hS_240 : mS cy m a f0 n_127 z_127 (va_up F_127 87 (upd (F_127 87) (Int32.toNatClampNeg (n_127 88)) (vp_nar .byte ((48 + ((x1 / 10) - (x1 / 10) / 10 * 10)).toInt8.toInt32)))) G_127 f_240 := hS_240q
                          refine gz_aload_n dX12_digits_53 rfl rfl ?_
                          refine gz_dup dX12_digits_54 rfl ?_
                          refine mg_541 hS_240 dX12_digits_55 ?_
                          refine gz_ev (w := .int (n_127 88)) rfl ?_
                          refine gz_iconst (v := 1) dX12_digits_58 (by decide) ?_
                          refine gz_iadd dX12_digits_59 ?_
                          refine mp_541 hS_240 dX12_digits_60 (fun f_241 hS_241 => ?_)
                          refine gz_iload_n dX12_digits_63 rfl rfl ?_
                          refine gz_bipush (v := 10) dX12_digits_64 (by decide) ?_
                          refine gz_idiv dX12_digits_66 (by decide) ?_
                          refine gz_ev (w := .int 1) (by decide) ?_
                          refine gz_istore_n (lv' := [(2, .int 1), (0, .ref m), (1, .int x1)]) dX12_digits_67 rfl (by decide) rfl ?_
                          refine gz_goto (tgt := 17) dX12_digits_68 (by decide) ?_
                          refine gz_iload_n dX12_digits_17 rfl rfl ?_
                          refine gz_if_le (tgt := 71) dX12_digits_18 (by decide) (fun c_18_226 => ?_) (fun c_18_226 => ?_)
                          · exact absurd c_18_226 (by decide)
                          ·
                            try simp only [mIn_0, lgc_lt, lgc_gt, lgc_le, lgc_ge, lgc_eq] at c_18_226
                            try simp only [fl_lt, fl_le, fl_eq, fL_w, fL_lt, fL_le, tm1, tm10k, tm9, tm99, Int32.reduceToInt, Int64.reduceToInt, Int.not_lt, Int.not_le] at c_18_226
                            refine gz_iload_n dX12_digits_21 rfl rfl ?_
                            refine gz_iload_n dX12_digits_22 rfl rfl ?_
                            refine gz_icmp_ge (tgt := 34) dX12_digits_23 (by decide) (fun c_23_227 => ?_) (fun c_23_227 => ?_)
                            ·
                              try simp only [mIn_0, lgc_lt, lgc_gt, lgc_le, lgc_ge, lgc_eq] at c_23_227
                              try simp only [fl_lt, fl_le, fl_eq, fL_w, fL_lt, fL_le, tm1, tm10k, tm9, tm99, Int32.reduceToInt, Int64.reduceToInt, Int.not_lt, Int.not_le] at c_23_227
                              refine gz_aload_n dX12_digits_34 rfl rfl ?_
                              refine mg_240 hS_241 dX12_digits_35 ?_
                              refine gz_aload_n dX12_digits_38 rfl rfl ?_
                              refine mg_541 hS_241 dX12_digits_39 ?_
                              refine gz_ev (w := .int ((n_127 88) + 1)) rfl ?_
                              refine gz_bipush (v := 48) dX12_digits_42 (by decide) ?_
                              refine gz_iload_n dX12_digits_44 rfl rfl ?_
                              refine gz_iload_n dX12_digits_45 rfl rfl ?_
                              refine gz_idiv dX12_digits_46 (by decide) ?_
                              refine gz_bipush (v := 10) dX12_digits_47 (by decide) ?_
                              refine gz_irem dX12_digits_49 (by decide) ?_
                              refine gz_iadd dX12_digits_50 ?_
                              refine gz_i2b dX12_digits_51 ?_
                              refine m_bast 87 hS_241 rfl (N := 1000) rfl ((by have q9 := (T_add (rfl : ((n_127 88)).toInt = ((n_127 88)).toInt) (show (1 : Int32).toInt = 1 from rfl) (by omega)); exact vin_T q9 (by omega) (by omega))) dX12_digits_52 (fun f_242 hS_242q => ?_)
                              have hS_242 : mS cy m a f0 (va_up n_127 88 ((n_127 88) + 1)) z_127 (va_up (va_up F_127 87 (upd (F_127 87) (Int32.toNatClampNeg (n_127 88)) (vp_nar .byte ((48 + ((x1 / 10) - (x1 / 10) / 10 * 10)).toInt8.toInt32)))) 87 (upd (upd (F_127 87) (Int32.toNatClampNeg (n_127 88)) (vp_nar .byte ((48 + ((x1 / 10) - (x1 / 10) / 10 * 10)).toInt8.toInt32))) (Int32.toNatClampNeg ((n_127 88) + 1)) (vp_nar .byte ((48 + ((x1 / 1) - (x1 / 1) / 10 * 10)).toInt8.toInt32)))) G_127 f_242 := hS_242q
                              refine gz_aload_n dX12_digits_53 rfl rfl ?_
                              refine gz_dup dX12_digits_54 rfl ?_
                              refine mg_541 hS_242 dX12_digits_55 ?_
                              refine gz_ev (w := .int ((n_127 88) + 1)) rfl ?_
                              refine gz_iconst (v := 1) dX12_digits_58 (by decide) ?_
                              refine gz_iadd dX12_digits_59 ?_
                              refine mp_541 hS_242 dX12_digits_60 (fun f_243 hS_243 => ?_)
                              refine gz_iload_n dX12_digits_63 rfl rfl ?_
                              refine gz_bipush (v := 10) dX12_digits_64 (by decide) ?_
                              refine gz_idiv dX12_digits_66 (by decide) ?_
                              refine gz_ev (w := .int 0) (by decide) ?_
                              refine gz_istore_n (lv' := [(2, .int 0), (0, .ref m), (1, .int x1)]) dX12_digits_67 rfl (by decide) rfl ?_
                              refine gz_goto (tgt := 17) dX12_digits_68 (by decide) ?_
                              refine gz_iload_n dX12_digits_17 rfl rfl ?_
                              refine gz_if_le (tgt := 71) dX12_digits_18 (by decide) (fun c_18_228 => ?_) (fun c_18_228 => ?_)
                              ·
                                try simp only [mIn_0, lgc_lt, lgc_gt, lgc_le, lgc_ge, lgc_eq] at c_18_228
                                try simp only [fl_lt, fl_le, fl_eq, fL_w, fL_lt, fL_le, tm1, tm10k, tm9, tm99, Int32.reduceToInt, Int64.reduceToInt, Int.not_lt, Int.not_le] at c_18_228
                                refine gz_aload_n dX12_digits_71 rfl rfl ?_
                                refine gz_iconst (v := 1) dX12_digits_72 (by decide) ?_
                                refine mp_544 hS_243 ⟨rfl, rfl⟩ dX12_digits_73 (fun f_244 hS_244 => ?_)
                                exact gz_vret rfl dX12_digits_76 (Nat.le_of_ble_eq_true rfl) (Nat.le_of_ble_eq_true rfl) (⟨rfl, _, _, _, _, hS_244, (fx_n (fx_n (fx_F (fx_n (fx_F (fx_tr fx_rf hx127 (by decide)) (by decide)) (by decide)) (by decide)) (by decide)) (by decide)), (by (try rw [(show (va_up (va_up (va_up n_127 88 ((n_127 88) + 1)) 88 (((n_127 88) + 1) + 1)) 89 1) 88 = (((n_127 88) + 1) + 1) from rfl)]); have q1_ := (T_add (T_add (rfl : ((n_127 88)).toInt = ((n_127 88)).toInt) (show (1 : Int32).toInt = 1 from rfl) (by omega)) (show (1 : Int32).toInt = 1 from rfl) (by omega)); omega), (by (try rw [(show (va_up (va_up (va_up n_127 88 ((n_127 88) + 1)) 88 (((n_127 88) + 1) + 1)) 89 1) 88 = (((n_127 88) + 1) + 1) from rfl)]); have q1_ := (T_add (T_add (rfl : ((n_127 88)).toInt = ((n_127 88)).toInt) (show (1 : Int32).toInt = 1 from rfl) (by omega)) (show (1 : Int32).toInt = 1 from rfl) (by omega)); omega)⟩)
                              · exact absurd c_18_228 (by decide)
                            ·
                              try simp only [mIn_0, lgc_lt, lgc_gt, lgc_le, lgc_ge, lgc_eq] at c_23_227
                              try simp only [fl_lt, fl_le, fl_eq, fL_w, fL_lt, fL_le, tm1, tm10k, tm9, tm99, Int32.reduceToInt, Int64.reduceToInt, Int.not_lt, Int.not_le] at c_23_227
                              refine gz_iload_n dX12_digits_26 rfl rfl ?_
                              refine gz_iconst (v := 1) dX12_digits_27 (by decide) ?_
                              refine gz_icmp_le (tgt := 34) dX12_digits_28 (by decide) (fun c_28_229 => ?_) (fun c_28_229 => ?_)
                              ·
                                try simp only [mIn_0, lgc_lt, lgc_gt, lgc_le, lgc_ge, lgc_eq] at c_28_229
                                try simp only [fl_lt, fl_le, fl_eq, fL_w, fL_lt, fL_le, tm1, tm10k, tm9, tm99, Int32.reduceToInt, Int64.reduceToInt, Int.not_lt, Int.not_le] at c_28_229
                                refine gz_aload_n dX12_digits_34 rfl rfl ?_
                                refine mg_240 hS_241 dX12_digits_35 ?_
                                refine gz_aload_n dX12_digits_38 rfl rfl ?_
                                refine mg_541 hS_241 dX12_digits_39 ?_
                                refine gz_ev (w := .int ((n_127 88) + 1)) rfl ?_
                                refine gz_bipush (v := 48) dX12_digits_42 (by decide) ?_
                                refine gz_iload_n dX12_digits_44 rfl rfl ?_
                                refine gz_iload_n dX12_digits_45 rfl rfl ?_
                                refine gz_idiv dX12_digits_46 (by decide) ?_
                                refine gz_bipush (v := 10) dX12_digits_47 (by decide) ?_
                                refine gz_irem dX12_digits_49 (by decide) ?_
                                refine gz_iadd dX12_digits_50 ?_
                                refine gz_i2b dX12_digits_51 ?_
                                refine m_bast 87 hS_241 rfl (N := 1000) rfl ((by have q9 := (T_add (rfl : ((n_127 88)).toInt = ((n_127 88)).toInt) (show (1 : Int32).toInt = 1 from rfl) (by omega)); exact vin_T q9 (by omega) (by omega))) dX12_digits_52 (fun f_245 hS_245q => ?_)
                                have hS_245 : mS cy m a f0 (va_up n_127 88 ((n_127 88) + 1)) z_127 (va_up (va_up F_127 87 (upd (F_127 87) (Int32.toNatClampNeg (n_127 88)) (vp_nar .byte ((48 + ((x1 / 10) - (x1 / 10) / 10 * 10)).toInt8.toInt32)))) 87 (upd (upd (F_127 87) (Int32.toNatClampNeg (n_127 88)) (vp_nar .byte ((48 + ((x1 / 10) - (x1 / 10) / 10 * 10)).toInt8.toInt32))) (Int32.toNatClampNeg ((n_127 88) + 1)) (vp_nar .byte ((48 + ((x1 / 1) - (x1 / 1) / 10 * 10)).toInt8.toInt32)))) G_127 f_245 := hS_245q
                                refine gz_aload_n dX12_digits_53 rfl rfl ?_
                                refine gz_dup dX12_digits_54 rfl ?_
                                refine mg_541 hS_245 dX12_digits_55 ?_
                                refine gz_ev (w := .int ((n_127 88) + 1)) rfl ?_
                                refine gz_iconst (v := 1) dX12_digits_58 (by decide) ?_
                                refine gz_iadd dX12_digits_59 ?_
                                refine mp_541 hS_245 dX12_digits_60 (fun f_246 hS_246 => ?_)
                                refine gz_iload_n dX12_digits_63 rfl rfl ?_
                                refine gz_bipush (v := 10) dX12_digits_64 (by decide) ?_
                                refine gz_idiv dX12_digits_66 (by decide) ?_
                                refine gz_ev (w := .int 0) (by decide) ?_
                                refine gz_istore_n (lv' := [(2, .int 0), (0, .ref m), (1, .int x1)]) dX12_digits_67 rfl (by decide) rfl ?_
                                refine gz_goto (tgt := 17) dX12_digits_68 (by decide) ?_
                                refine gz_iload_n dX12_digits_17 rfl rfl ?_
                                refine gz_if_le (tgt := 71) dX12_digits_18 (by decide) (fun c_18_230 => ?_) (fun c_18_230 => ?_)
                                ·
                                  try simp only [mIn_0, lgc_lt, lgc_gt, lgc_le, lgc_ge, lgc_eq] at c_18_230
                                  try simp only [fl_lt, fl_le, fl_eq, fL_w, fL_lt, fL_le, tm1, tm10k, tm9, tm99, Int32.reduceToInt, Int64.reduceToInt, Int.not_lt, Int.not_le] at c_18_230
                                  refine gz_aload_n dX12_digits_71 rfl rfl ?_
                                  refine gz_iconst (v := 1) dX12_digits_72 (by decide) ?_
                                  refine mp_544 hS_246 ⟨rfl, rfl⟩ dX12_digits_73 (fun f_247 hS_247 => ?_)
                                  exact gz_vret rfl dX12_digits_76 (Nat.le_of_ble_eq_true rfl) (Nat.le_of_ble_eq_true rfl) (⟨rfl, _, _, _, _, hS_247, (fx_n (fx_n (fx_F (fx_n (fx_F (fx_tr fx_rf hx127 (by decide)) (by decide)) (by decide)) (by decide)) (by decide)) (by decide)), (by (try rw [(show (va_up (va_up (va_up n_127 88 ((n_127 88) + 1)) 88 (((n_127 88) + 1) + 1)) 89 1) 88 = (((n_127 88) + 1) + 1) from rfl)]); have q1_ := (T_add (T_add (rfl : ((n_127 88)).toInt = ((n_127 88)).toInt) (show (1 : Int32).toInt = 1 from rfl) (by omega)) (show (1 : Int32).toInt = 1 from rfl) (by omega)); omega), (by (try rw [(show (va_up (va_up (va_up n_127 88 ((n_127 88) + 1)) 88 (((n_127 88) + 1) + 1)) 89 1) 88 = (((n_127 88) + 1) + 1) from rfl)]); have q1_ := (T_add (T_add (rfl : ((n_127 88)).toInt = ((n_127 88)).toInt) (show (1 : Int32).toInt = 1 from rfl) (by omega)) (show (1 : Int32).toInt = 1 from rfl) (by omega)); omega)⟩)
                                · exact absurd c_18_230 (by decide)
                              · exact absurd c_28_229 (by decide)
                        ·
                          try simp only [mIn_0, lgc_lt, lgc_gt, lgc_le, lgc_ge, lgc_eq] at c_23_225
                          try simp only [fl_lt, fl_le, fl_eq, fL_w, fL_lt, fL_le, tm1, tm10k, tm9, tm99, Int32.reduceToInt, Int64.reduceToInt, Int.not_lt, Int.not_le] at c_23_225
                          refine gz_iload_n dX12_digits_26 rfl rfl ?_
                          refine gz_iconst (v := 1) dX12_digits_27 (by decide) ?_
                          refine gz_icmp_le (tgt := 34) dX12_digits_28 (by decide) (fun c_28_231 => ?_) (fun c_28_231 => ?_)
                          · exact absurd c_28_231 (by decide)
                          ·
                            try simp only [mIn_0, lgc_lt, lgc_gt, lgc_le, lgc_ge, lgc_eq] at c_28_231
                            try simp only [fl_lt, fl_le, fl_eq, fL_w, fL_lt, fL_le, tm1, tm10k, tm9, tm99, Int32.reduceToInt, Int64.reduceToInt, Int.not_lt, Int.not_le] at c_28_231
                            refine gz_goto (tgt := 63) dX12_digits_31 (by decide) ?_
                            refine gz_iload_n dX12_digits_63 rfl rfl ?_
                            refine gz_bipush (v := 10) dX12_digits_64 (by decide) ?_
                            refine gz_idiv dX12_digits_66 (by decide) ?_
                            refine gz_ev (w := .int 1) (by decide) ?_
                            refine gz_istore_n (lv' := [(2, .int 1), (0, .ref m), (1, .int x1)]) dX12_digits_67 rfl (by decide) rfl ?_
                            refine gz_goto (tgt := 17) dX12_digits_68 (by decide) ?_
                            refine gz_iload_n dX12_digits_17 rfl rfl ?_
                            refine gz_if_le (tgt := 71) dX12_digits_18 (by decide) (fun c_18_232 => ?_) (fun c_18_232 => ?_)
                            · exact absurd c_18_232 (by decide)
                            ·
                              try simp only [mIn_0, lgc_lt, lgc_gt, lgc_le, lgc_ge, lgc_eq] at c_18_232
                              try simp only [fl_lt, fl_le, fl_eq, fL_w, fL_lt, fL_le, tm1, tm10k, tm9, tm99, Int32.reduceToInt, Int64.reduceToInt, Int.not_lt, Int.not_le] at c_18_232
                              refine gz_iload_n dX12_digits_21 rfl rfl ?_
                              refine gz_iload_n dX12_digits_22 rfl rfl ?_
                              refine gz_icmp_ge (tgt := 34) dX12_digits_23 (by decide) (fun c_23_233 => ?_) (fun c_23_233 => ?_)
                              ·
                                try simp only [mIn_0, lgc_lt, lgc_gt, lgc_le, lgc_ge, lgc_eq] at c_23_233
                                try simp only [fl_lt, fl_le, fl_eq, fL_w, fL_lt, fL_le, tm1, tm10k, tm9, tm99, Int32.reduceToInt, Int64.reduceToInt, Int.not_lt, Int.not_le] at c_23_233
                                refine gz_aload_n dX12_digits_34 rfl rfl ?_
                                refine mg_240 hS_127 dX12_digits_35 ?_
                                refine gz_aload_n dX12_digits_38 rfl rfl ?_
                                refine mg_541 hS_127 dX12_digits_39 ?_
                                refine gz_ev (w := .int (n_127 88)) rfl ?_
                                refine gz_bipush (v := 48) dX12_digits_42 (by decide) ?_
                                refine gz_iload_n dX12_digits_44 rfl rfl ?_
                                refine gz_iload_n dX12_digits_45 rfl rfl ?_
                                refine gz_idiv dX12_digits_46 (by decide) ?_
                                refine gz_bipush (v := 10) dX12_digits_47 (by decide) ?_
                                refine gz_irem dX12_digits_49 (by decide) ?_
                                refine gz_iadd dX12_digits_50 ?_
                                refine gz_i2b dX12_digits_51 ?_
                                refine m_bast 87 hS_127 rfl (N := 1000) rfl ((by exact vin_T (rfl : ((n_127 88)).toInt = ((n_127 88)).toInt) (by omega) (by omega))) dX12_digits_52 (fun f_248 hS_248q => ?_)
                                have hS_248 : mS cy m a f0 n_127 z_127 (va_up F_127 87 (upd (F_127 87) (Int32.toNatClampNeg (n_127 88)) (vp_nar .byte ((48 + ((x1 / 1) - (x1 / 1) / 10 * 10)).toInt8.toInt32)))) G_127 f_248 := hS_248q
                                refine gz_aload_n dX12_digits_53 rfl rfl ?_
                                refine gz_dup dX12_digits_54 rfl ?_
                                refine mg_541 hS_248 dX12_digits_55 ?_
                                refine gz_ev (w := .int (n_127 88)) rfl ?_
                                refine gz_iconst (v := 1) dX12_digits_58 (by decide) ?_
                                refine gz_iadd dX12_digits_59 ?_
                                refine mp_541 hS_248 dX12_digits_60 (fun f_249 hS_249 => ?_)
                                refine gz_iload_n dX12_digits_63 rfl rfl ?_
                                refine gz_bipush (v := 10) dX12_digits_64 (by decide) ?_
                                refine gz_idiv dX12_digits_66 (by decide) ?_
                                refine gz_ev (w := .int 0) (by decide) ?_
                                refine gz_istore_n (lv' := [(2, .int 0), (0, .ref m), (1, .int x1)]) dX12_digits_67 rfl (by decide) rfl ?_
                                refine gz_goto (tgt := 17) dX12_digits_68 (by decide) ?_
                                refine gz_iload_n dX12_digits_17 rfl rfl ?_
                                refine gz_if_le (tgt := 71) dX12_digits_18 (by decide) (fun c_18_234 => ?_) (fun c_18_234 => ?_)
                                ·
                                  try simp only [mIn_0, lgc_lt, lgc_gt, lgc_le, lgc_ge, lgc_eq] at c_18_234
                                  try simp only [fl_lt, fl_le, fl_eq, fL_w, fL_lt, fL_le, tm1, tm10k, tm9, tm99, Int32.reduceToInt, Int64.reduceToInt, Int.not_lt, Int.not_le] at c_18_234
                                  refine gz_aload_n dX12_digits_71 rfl rfl ?_
                                  refine gz_iconst (v := 1) dX12_digits_72 (by decide) ?_
                                  refine mp_544 hS_249 ⟨rfl, rfl⟩ dX12_digits_73 (fun f_250 hS_250 => ?_)
                                  exact gz_vret rfl dX12_digits_76 (Nat.le_of_ble_eq_true rfl) (Nat.le_of_ble_eq_true rfl) (⟨rfl, _, _, _, _, hS_250, (fx_n (fx_n (fx_F (fx_tr fx_rf hx127 (by decide)) (by decide)) (by decide)) (by decide)), (by (try rw [(show (va_up (va_up n_127 88 ((n_127 88) + 1)) 89 1) 88 = ((n_127 88) + 1) from rfl)]); have q1_ := (T_add (rfl : ((n_127 88)).toInt = ((n_127 88)).toInt) (show (1 : Int32).toInt = 1 from rfl) (by omega)); omega), (by (try rw [(show (va_up (va_up n_127 88 ((n_127 88) + 1)) 89 1) 88 = ((n_127 88) + 1) from rfl)]); have q1_ := (T_add (rfl : ((n_127 88)).toInt = ((n_127 88)).toInt) (show (1 : Int32).toInt = 1 from rfl) (by omega)); omega)⟩)
                                · exact absurd c_18_234 (by decide)
                              ·
                                try simp only [mIn_0, lgc_lt, lgc_gt, lgc_le, lgc_ge, lgc_eq] at c_23_233
                                try simp only [fl_lt, fl_le, fl_eq, fL_w, fL_lt, fL_le, tm1, tm10k, tm9, tm99, Int32.reduceToInt, Int64.reduceToInt, Int.not_lt, Int.not_le] at c_23_233
                                refine gz_iload_n dX12_digits_26 rfl rfl ?_
                                refine gz_iconst (v := 1) dX12_digits_27 (by decide) ?_
                                refine gz_icmp_le (tgt := 34) dX12_digits_28 (by decide) (fun c_28_235 => ?_) (fun c_28_235 => ?_)
                                ·
                                  try simp only [mIn_0, lgc_lt, lgc_gt, lgc_le, lgc_ge, lgc_eq] at c_28_235
                                  try simp only [fl_lt, fl_le, fl_eq, fL_w, fL_lt, fL_le, tm1, tm10k, tm9, tm99, Int32.reduceToInt, Int64.reduceToInt, Int.not_lt, Int.not_le] at c_28_235
                                  refine gz_aload_n dX12_digits_34 rfl rfl ?_
                                  refine mg_240 hS_127 dX12_digits_35 ?_
                                  refine gz_aload_n dX12_digits_38 rfl rfl ?_
                                  refine mg_541 hS_127 dX12_digits_39 ?_
                                  refine gz_ev (w := .int (n_127 88)) rfl ?_
                                  refine gz_bipush (v := 48) dX12_digits_42 (by decide) ?_
                                  refine gz_iload_n dX12_digits_44 rfl rfl ?_
                                  refine gz_iload_n dX12_digits_45 rfl rfl ?_
                                  refine gz_idiv dX12_digits_46 (by decide) ?_
                                  refine gz_bipush (v := 10) dX12_digits_47 (by decide) ?_
                                  refine gz_irem dX12_digits_49 (by decide) ?_
                                  refine gz_iadd dX12_digits_50 ?_
                                  refine gz_i2b dX12_digits_51 ?_
                                  refine m_bast 87 hS_127 rfl (N := 1000) rfl ((by exact vin_T (rfl : ((n_127 88)).toInt = ((n_127 88)).toInt) (by omega) (by omega))) dX12_digits_52 (fun f_251 hS_251q => ?_)
                                  have hS_251 : mS cy m a f0 n_127 z_127 (va_up F_127 87 (upd (F_127 87) (Int32.toNatClampNeg (n_127 88)) (vp_nar .byte ((48 + ((x1 / 1) - (x1 / 1) / 10 * 10)).toInt8.toInt32)))) G_127 f_251 := hS_251q
                                  refine gz_aload_n dX12_digits_53 rfl rfl ?_
                                  refine gz_dup dX12_digits_54 rfl ?_
                                  refine mg_541 hS_251 dX12_digits_55 ?_
                                  refine gz_ev (w := .int (n_127 88)) rfl ?_
                                  refine gz_iconst (v := 1) dX12_digits_58 (by decide) ?_
                                  refine gz_iadd dX12_digits_59 ?_
                                  refine mp_541 hS_251 dX12_digits_60 (fun f_252 hS_252 => ?_)
                                  refine gz_iload_n dX12_digits_63 rfl rfl ?_
                                  refine gz_bipush (v := 10) dX12_digits_64 (by decide) ?_
                                  refine gz_idiv dX12_digits_66 (by decide) ?_
                                  refine gz_ev (w := .int 0) (by decide) ?_
                                  refine gz_istore_n (lv' := [(2, .int 0), (0, .ref m), (1, .int x1)]) dX12_digits_67 rfl (by decide) rfl ?_
                                  refine gz_goto (tgt := 17) dX12_digits_68 (by decide) ?_
                                  refine gz_iload_n dX12_digits_17 rfl rfl ?_
                                  refine gz_if_le (tgt := 71) dX12_digits_18 (by decide) (fun c_18_236 => ?_) (fun c_18_236 => ?_)
                                  ·
                                    try simp only [mIn_0, lgc_lt, lgc_gt, lgc_le, lgc_ge, lgc_eq] at c_18_236
                                    try simp only [fl_lt, fl_le, fl_eq, fL_w, fL_lt, fL_le, tm1, tm10k, tm9, tm99, Int32.reduceToInt, Int64.reduceToInt, Int.not_lt, Int.not_le] at c_18_236
                                    refine gz_aload_n dX12_digits_71 rfl rfl ?_
                                    refine gz_iconst (v := 1) dX12_digits_72 (by decide) ?_
                                    refine mp_544 hS_252 ⟨rfl, rfl⟩ dX12_digits_73 (fun f_253 hS_253 => ?_)
                                    exact gz_vret rfl dX12_digits_76 (Nat.le_of_ble_eq_true rfl) (Nat.le_of_ble_eq_true rfl) (⟨rfl, _, _, _, _, hS_253, (fx_n (fx_n (fx_F (fx_tr fx_rf hx127 (by decide)) (by decide)) (by decide)) (by decide)), (by (try rw [(show (va_up (va_up n_127 88 ((n_127 88) + 1)) 89 1) 88 = ((n_127 88) + 1) from rfl)]); have q1_ := (T_add (rfl : ((n_127 88)).toInt = ((n_127 88)).toInt) (show (1 : Int32).toInt = 1 from rfl) (by omega)); omega), (by (try rw [(show (va_up (va_up n_127 88 ((n_127 88) + 1)) 89 1) 88 = ((n_127 88) + 1) from rfl)]); have q1_ := (T_add (rfl : ((n_127 88)).toInt = ((n_127 88)).toInt) (show (1 : Int32).toInt = 1 from rfl) (by omega)); omega)⟩)
                                  · exact absurd c_18_236 (by decide)
                                · exact absurd c_28_235 (by decide)
