set_option maxHeartbeats 4000000 in
set_option maxRecDepth 100000 in
theorem k_X12_comes {l : Launch} {D : va_G} {cy : Nat → ClassId} {b : Nat} {f : gMem} {m : Nat} {a : Nat → Nat} {f0 : gMem} {n : Nat → Int32} {z : Nat → Int64} {F : Nat → Nat → Int32} {G : Nat → Nat → Int64}  {x1 : Int32} {y : Int64} (hS : mS cy m a f0 n z F G f) (hc : 0 ≤ (n 43).toInt ∧ (n 43).toInt < 64) : gC l D cy b yX12_comes cX12_comes 4 none 0 0 0 [.ref m, .int x1, .long y] f (pV fun f2 => ∃ (n2 : Nat → Int32) (z2 : Nat → Int64) (F2 : Nat → Nat → Int32) (G2 : Nat → Nat → Int64), mS cy m a f0 n2 z2 F2 G2 f2 ∧ fx [43] [] [44] [45] n z F G n2 z2 F2 G2 ∧ n2 43 = n 43 + 1 ∧ F2 44 = upd (F 44) (Int32.toNatClampNeg (n 43)) x1) := by
  refine gC_of (by decide) (Nat.le_of_ble_eq_true rfl) ?_
  show gG l _ _ _ D cy b cX12_comes 4 _ RX12 "comes" 0 0 f 0 [(0, .ref m), (1, .int x1), (2, .long y)] []
  refine gz_aload_n dX12_comes_0 rfl rfl ?_
  refine mg_130 hS dX12_comes_1 ?_
  refine gz_aload_n dX12_comes_4 rfl rfl ?_
  refine mg_361 hS dX12_comes_5 ?_
  refine gz_iload_n dX12_comes_8 rfl rfl ?_
  refine m_iast 44 hS rfl (N := 64) rfl ((by exact vin_T (rfl : ((n 43)).toInt = ((n 43)).toInt) (by omega) (by omega))) dX12_comes_9 (fun f_1 hS_1q => ?_)
  have hS_1 : mS cy m a f0 n z (va_up F 44 (upd (F 44) (Int32.toNatClampNeg (n 43)) x1)) G f_1 := hS_1q
  refine gz_aload_n dX12_comes_10 rfl rfl ?_
  refine mg_133 hS_1 dX12_comes_11 ?_
  refine gz_aload_n dX12_comes_14 rfl rfl ?_
  refine mg_361 hS_1 dX12_comes_15 ?_
  refine gz_ev (w := .int (n 43)) rfl ?_
  refine gz_lload_n dX12_comes_18 rfl rfl ?_
  refine m_last 45 hS_1 rfl (N := 64) rfl ((by exact vin_T (rfl : ((n 43)).toInt = ((n 43)).toInt) (by omega) (by omega))) dX12_comes_19 (fun f_2 hS_2q => ?_)
  have hS_2 : mS cy m a f0 n z (va_up F 44 (upd (F 44) (Int32.toNatClampNeg (n 43)) x1)) (va_up G 45 (vp_updL (G 45) (Int32.toNatClampNeg (n 43)) y)) f_2 := hS_2q
  refine gz_aload_n dX12_comes_20 rfl rfl ?_
  refine gz_dup dX12_comes_21 rfl ?_
  refine mg_361 hS_2 dX12_comes_22 ?_
  refine gz_ev (w := .int (n 43)) rfl ?_
  refine gz_iconst (v := 1) dX12_comes_25 (by decide) ?_
  refine gz_iadd dX12_comes_26 ?_
  refine mp_361 hS_2 dX12_comes_27 (fun f_3 hS_3 => ?_)
  have hxx : fx [43] [] [44] [45] n z F G (va_up n 43 ((n 43) + 1)) z (va_up F 44 (upd (F 44) (Int32.toNatClampNeg (n 43)) x1)) (va_up G 45 (vp_updL (G 45) (Int32.toNatClampNeg (n 43)) y)) := (fx_n (fx_G (fx_F fx_rf (by decide)) (by decide)) (by decide))
  exact gz_vret rfl dX12_comes_30 (Nat.le_of_ble_eq_true rfl) (Nat.le_of_ble_eq_true rfl) (⟨rfl, _, _, _, _, hS_3, hxx, rfl, rfl⟩)

set_option maxHeartbeats 4000000 in
set_option maxRecDepth 100000 in
theorem k_X12_pays {l : Launch} {D : va_G} {cy : Nat → ClassId} {b : Nat} {f : gMem} {m : Nat} {a : Nat → Nat} {f0 : gMem} {n : Nat → Int32} {z : Nat → Int64} {F : Nat → Nat → Int32} {G : Nat → Nat → Int64}  {x1 x2 : Int32} {y : Int64} (hS : mS cy m a f0 n z F G f) (hR : RI n F) (hl : 0 ≤ x1.toInt ∧ x1.toInt < (n 30).toInt) : gC l D cy b yX12_pays cX12_pays 5 none 0 0 0 [.ref m, .int x1, .int x2, .long y] f (pV fun f2 => ∃ (n2 : Nat → Int32) (z2 : Nat → Int64) (F2 : Nat → Nat → Int32) (G2 : Nat → Nat → Int64), mS cy m a f0 n2 z2 F2 G2 f2 ∧ fx [1, 38] [] [39, 40, 41, 42] [34] n z F G n2 z2 F2 G2 ∧ RI n2 F2) := by
  obtain ⟨a0, a4, a5, bA, bW, a30, bL, a38, bP, a53, a47, a88⟩ := id hR
  refine gC_of (by decide) (Nat.le_of_ble_eq_true rfl) ?_
  show gG l _ _ _ D cy b cX12_pays 5 _ RX12 "pays" 0 0 f 0 [(0, .ref m), (1, .int x1), (2, .int x2), (3, .long y)] []
  refine gz_lload_n dX12_pays_0 rfl rfl ?_
  refine gz_lconst (v := 0) dX12_pays_1 (by decide) ?_
  refine gz_lcmp dX12_pays_2 ?_
  refine gz_if_ne (tgt := 7) dX12_pays_3 (by decide) (fun c_3 => ?_) (fun c_3 => ?_)
  ·
    try simp only [mIn_0, lgc_lt, lgc_gt, lgc_le, lgc_ge, lgc_eq] at c_3
    try simp only [fl_lt, fl_le, fl_eq, fL_w, fL_lt, fL_le, tm1, tm10k, tm9, tm99, Int32.reduceToInt, Int64.reduceToInt, Int.not_lt, Int.not_le] at c_3
    refine gz_aload_n dX12_pays_7 rfl rfl ?_
    refine mg_364 hS dX12_pays_8 ?_
    refine gz_sipush (v := 2000) dX12_pays_11 (by decide) ?_
    refine gz_icmp_ne (tgt := 28) dX12_pays_14 (by decide) (fun c_14 => ?_) (fun c_14 => ?_)
    ·
      try simp only [mIn_0, lgc_lt, lgc_gt, lgc_le, lgc_ge, lgc_eq] at c_14
      try simp only [fl_lt, fl_le, fl_eq, fL_w, fL_lt, fL_le, tm1, tm10k, tm9, tm99, Int32.reduceToInt, Int64.reduceToInt, Int.not_lt, Int.not_le] at c_14
      refine gz_aload_n dX12_pays_28 rfl rfl ?_
      refine mg_118 hS dX12_pays_29 ?_
      refine gz_aload_n dX12_pays_32 rfl rfl ?_
      refine mg_364 hS dX12_pays_33 ?_
      refine gz_iload_n dX12_pays_36 rfl rfl ?_
      refine m_iast 39 hS rfl (N := 2000) rfl ((by exact vin_T (rfl : ((n 38)).toInt = ((n 38)).toInt) (by omega) (by omega))) dX12_pays_37 (fun f_1 hS_1q => ?_)
      have hS_1 : mS cy m a f0 n z (va_up F 39 (upd (F 39) (Int32.toNatClampNeg (n 38)) x1)) G f_1 := hS_1q
      refine gz_aload_n dX12_pays_38 rfl rfl ?_
      refine mg_121 hS_1 dX12_pays_39 ?_
      refine gz_aload_n dX12_pays_42 rfl rfl ?_
      refine mg_364 hS_1 dX12_pays_43 ?_
      refine gz_ev (w := .int (n 38)) rfl ?_
      refine gz_aload_n dX12_pays_46 rfl rfl ?_
      refine mg_249 hS_1 dX12_pays_47 ?_
      refine gz_ev (w := .int (n 0)) rfl ?_
      refine m_iast 40 hS_1 rfl (N := 2000) rfl ((by exact vin_T (rfl : ((n 38)).toInt = ((n 38)).toInt) (by omega) (by omega))) dX12_pays_50 (fun f_2 hS_2q => ?_)
      have hS_2 : mS cy m a f0 n z (va_up (va_up F 39 (upd (F 39) (Int32.toNatClampNeg (n 38)) x1)) 40 (upd (F 40) (Int32.toNatClampNeg (n 38)) (n 0))) G f_2 := hS_2q
      refine gz_aload_n dX12_pays_51 rfl rfl ?_
      refine mg_124 hS_2 dX12_pays_52 ?_
      refine gz_aload_n dX12_pays_55 rfl rfl ?_
      refine mg_364 hS_2 dX12_pays_56 ?_
      refine gz_ev (w := .int (n 38)) rfl ?_
      refine gz_lload_n dX12_pays_59 rfl rfl ?_
      refine gz_l2i dX12_pays_60 ?_
      refine m_iast 41 hS_2 rfl (N := 2000) rfl ((by exact vin_T (rfl : ((n 38)).toInt = ((n 38)).toInt) (by omega) (by omega))) dX12_pays_61 (fun f_3 hS_3q => ?_)
      have hS_3 : mS cy m a f0 n z (va_up (va_up (va_up F 39 (upd (F 39) (Int32.toNatClampNeg (n 38)) x1)) 40 (upd (F 40) (Int32.toNatClampNeg (n 38)) (n 0))) 41 (upd (F 41) (Int32.toNatClampNeg (n 38)) y.toInt32)) G f_3 := hS_3q
      refine gz_aload_n dX12_pays_62 rfl rfl ?_
      refine mg_127 hS_3 dX12_pays_63 ?_
      refine gz_aload_n dX12_pays_66 rfl rfl ?_
      refine mg_364 hS_3 dX12_pays_67 ?_
      refine gz_ev (w := .int (n 38)) rfl ?_
      refine gz_iload_n dX12_pays_70 rfl rfl ?_
      refine gz_bipush (v := 40) dX12_pays_71 (by decide) ?_
      refine gz_irem dX12_pays_73 (by decide) ?_
      refine m_iast 42 hS_3 rfl (N := 2000) rfl ((by exact vin_T (rfl : ((n 38)).toInt = ((n 38)).toInt) (by omega) (by omega))) dX12_pays_74 (fun f_4 hS_4q => ?_)
      have hS_4 : mS cy m a f0 n z (va_up (va_up (va_up (va_up F 39 (upd (F 39) (Int32.toNatClampNeg (n 38)) x1)) 40 (upd (F 40) (Int32.toNatClampNeg (n 38)) (n 0))) 41 (upd (F 41) (Int32.toNatClampNeg (n 38)) y.toInt32)) 42 (upd (F 42) (Int32.toNatClampNeg (n 38)) (x2 - x2 / 40 * 40))) G f_4 := hS_4q
      refine gz_aload_n dX12_pays_75 rfl rfl ?_
      refine gz_dup dX12_pays_76 rfl ?_
      refine mg_364 hS_4 dX12_pays_77 ?_
      refine gz_ev (w := .int (n 38)) rfl ?_
      refine gz_iconst (v := 1) dX12_pays_80 (by decide) ?_
      refine gz_iadd dX12_pays_81 ?_
      refine mp_364 hS_4 dX12_pays_82 (fun f_5 hS_5 => ?_)
      refine gz_aload_n dX12_pays_85 rfl rfl ?_
      refine mg_106 hS_5 dX12_pays_86 ?_
      refine gz_iload_n dX12_pays_89 rfl rfl ?_
      refine gz_dup2 dX12_pays_90 rfl rfl ?_
      refine m_lald 34 hS_5 rfl (N := 40) rfl ((by exact vin_T (rfl : (x1).toInt = (x1).toInt) (by omega) (by omega))) dX12_pays_91 ?_
      refine gz_ev (w := .long ((G 34) (Int32.toNatClampNeg x1))) rfl ?_
      refine gz_lload_n dX12_pays_92 rfl rfl ?_
      refine gz_ladd dX12_pays_93 ?_
      refine m_last 34 hS_5 rfl (N := 40) rfl ((by exact vin_T (rfl : (x1).toInt = (x1).toInt) (by omega) (by omega))) dX12_pays_94 (fun f_6 hS_6q => ?_)
      have hS_6 : mS cy m a f0 (va_up n 38 ((n 38) + 1)) z (va_up (va_up (va_up (va_up F 39 (upd (F 39) (Int32.toNatClampNeg (n 38)) x1)) 40 (upd (F 40) (Int32.toNatClampNeg (n 38)) (n 0))) 41 (upd (F 41) (Int32.toNatClampNeg (n 38)) y.toInt32)) 42 (upd (F 42) (Int32.toNatClampNeg (n 38)) (x2 - x2 / 40 * 40))) (va_up G 34 (vp_updL (G 34) (Int32.toNatClampNeg x1) (((G 34) (Int32.toNatClampNeg x1)) + y))) f_6 := hS_6q
      have hxx : fx [1, 38] [] [39, 40, 41, 42] [34] n z F G (va_up n 38 ((n 38) + 1)) z (va_up (va_up (va_up (va_up F 39 (upd (F 39) (Int32.toNatClampNeg (n 38)) x1)) 40 (upd (F 40) (Int32.toNatClampNeg (n 38)) (n 0))) 41 (upd (F 41) (Int32.toNatClampNeg (n 38)) y.toInt32)) 42 (upd (F 42) (Int32.toNatClampNeg (n 38)) (x2 - x2 / 40 * 40))) (va_up G 34 (vp_updL (G 34) (Int32.toNatClampNeg x1) (((G 34) (Int32.toNatClampNeg x1)) + y))) := (fx_G (fx_n (fx_F (fx_F (fx_F (fx_F fx_rf (by decide)) (by decide)) (by decide)) (by decide)) (by decide)) (by decide))
      have e38 : ((va_up n 38 ((n 38) + 1)) 38).toInt = (n 38).toInt + 1 := (by (try rw [(show (va_up n 38 ((n 38) + 1)) 38 = ((n 38) + 1) from rfl)]); have q1_ := (T_add (rfl : ((n 38)).toInt = ((n 38)).toInt) (show (1 : Int32).toInt = 1 from rfl) (by omega)); omega)
      exact gz_vret rfl dX12_pays_95 (Nat.le_of_ble_eq_true rfl) (Nat.le_of_ble_eq_true rfl) (⟨rfl, _, _, _, _, hS_6, hxx, RI_l hR (fun k hk => hxx.2.2.1 k ((by decide : ∀ k : Nat, k ∈ wK → k ∉ ([39, 40, 41, 42] : List Nat)) k hk)) (fun k hk => hxx.1 k ((by decide : ∀ k : Nat, k ∈ ([0, 4, 5, 30, 47, 53, 88] : List Nat) → k ∉ ([1, 38] : List Nat)) k hk)) (rL_cg2 (fun k hk => hxx.2.2.1 k ((by decide : ∀ k : Nat, k ∈ ([6, 7, 32, 33, 35, 36] : List Nat) → k ∉ ([39, 40, 41, 42] : List Nat)) k hk)) bL) (by rw [e38]; omega) (by rw [e38]; exact rPy_put bP (clI (by omega)) rfl hl)⟩)
    ·
      try simp only [mIn_0, lgc_lt, lgc_gt, lgc_le, lgc_ge, lgc_eq] at c_14
      try simp only [fl_lt, fl_le, fl_eq, fL_w, fL_lt, fL_le, tm1, tm10k, tm9, tm99, Int32.reduceToInt, Int64.reduceToInt, Int.not_lt, Int.not_le] at c_14
      refine gz_aload_n dX12_pays_17 rfl rfl ?_
      refine gz_dup dX12_pays_18 rfl ?_
      refine mg_367 hS dX12_pays_19 ?_
      refine gz_iconst (v := 1) dX12_pays_22 (by decide) ?_
      refine gz_iadd dX12_pays_23 ?_
      refine mp_367 hS dX12_pays_24 (fun f_7 hS_7 => ?_)
      have hxx : fx [1, 38] [] [39, 40, 41, 42] [34] n z F G (va_up n 1 ((n 1) + 1)) z F G := (fx_n fx_rf (by decide))
      have hxy : fx [1] [] [] [] n z F G (va_up n 1 ((n 1) + 1)) z F G := (fx_n fx_rf (by decide))
      exact gz_vret rfl dX12_pays_27 (Nat.le_of_ble_eq_true rfl) (Nat.le_of_ble_eq_true rfl) (⟨rfl, _, _, _, _, hS_7, hxx, RI_fx hR hxy (by decide) (by decide)⟩)
  ·
    try simp only [mIn_0, lgc_lt, lgc_gt, lgc_le, lgc_ge, lgc_eq] at c_3
    try simp only [fl_lt, fl_le, fl_eq, fL_w, fL_lt, fL_le, tm1, tm10k, tm9, tm99, Int32.reduceToInt, Int64.reduceToInt, Int.not_lt, Int.not_le] at c_3
    have hxx : fx [1, 38] [] [39, 40, 41, 42] [34] n z F G n z F G := fx_rf
    have hxy : fx [1] [] [] [] n z F G n z F G := fx_rf
    exact gz_vret rfl dX12_pays_6 (Nat.le_of_ble_eq_true rfl) (Nat.le_of_ble_eq_true rfl) (⟨rfl, _, _, _, _, hS, hxx, RI_fx hR hxy (by decide) (by decide)⟩)

set_option maxHeartbeats 4000000 in
set_option maxRecDepth 100000 in
theorem k_X12_waits {l : Launch} {D : va_G} {cy : Nat → ClassId} {b : Nat} {f : gMem} {m : Nat} {a : Nat → Nat} {f0 : gMem} {n : Nat → Int32} {z : Nat → Int64} {F : Nat → Nat → Int32} {G : Nat → Nat → Int64}  {x1 x2 : Int32} {y : Int64} (hS : mS cy m a f0 n z F G f) (hR : RI n F) (hl : 0 ≤ x1.toInt ∧ x1.toInt < (n 30).toInt) (hv : vS F (n 5).toInt x2) : gC l D cy b yX12_waits cX12_waits 6 none 0 0 0 [.ref m, .int x1, .int x2, .long y] f (pV fun f2 => ∃ (n2 : Nat → Int32) (z2 : Nat → Int64) (F2 : Nat → Nat → Int32) (G2 : Nat → Nat → Int64), mS cy m a f0 n2 z2 F2 G2 f2 ∧ fx [1] [] [35, 36] [37] n z F G n2 z2 F2 G2 ∧ RI n2 F2 ∧ ∀ l : Nat, (F 35 l).toInt ≤ (F2 35 l).toInt) := by
  obtain ⟨a0, a4, a5, bA, bW, a30, bL, a38, bP, a53, a47, a88⟩ := id hR
  have qL := bL (Int32.toNatClampNeg x1) (by have := clI (i := x1) (by omega); omega)
  refine gC_of (by decide) (Nat.le_of_ble_eq_true rfl) ?_
  show gG l _ _ _ D cy b cX12_waits 6 _ RX12 "waits" 0 0 f 0 [(0, .ref m), (1, .int x1), (2, .int x2), (3, .long y)] []
  refine gz_aload_n dX12_waits_0 rfl rfl ?_
  refine mg_109 hS dX12_waits_1 ?_
  refine gz_iload_n dX12_waits_4 rfl rfl ?_
  refine m_iald 35 hS rfl (N := 40) rfl ((by exact vin_T (rfl : (x1).toInt = (x1).toInt) (by omega) (by omega))) dX12_waits_5 ?_
  refine gz_bipush (v := 40) dX12_waits_6 (by decide) ?_
  refine gz_icmp_ne (tgt := 22) dX12_waits_8 (by decide) (fun c_8 => ?_) (fun c_8 => ?_)
  ·
    try simp only [mIn_0, lgc_lt, lgc_gt, lgc_le, lgc_ge, lgc_eq] at c_8
    try simp only [fl_lt, fl_le, fl_eq, fL_w, fL_lt, fL_le, tm1, tm10k, tm9, tm99, Int32.reduceToInt, Int64.reduceToInt, Int.not_lt, Int.not_le] at c_8
    refine gz_bipush (v := 40) dX12_waits_22 (by decide) ?_
    refine gz_iload_n dX12_waits_24 rfl rfl ?_
    refine gz_imul dX12_waits_25 ?_
    refine gz_aload_n dX12_waits_26 rfl rfl ?_
    refine mg_109 hS dX12_waits_27 ?_
    refine gz_iload_n dX12_waits_30 rfl rfl ?_
    refine m_iald 35 hS rfl (N := 40) rfl ((by exact vin_T (rfl : (x1).toInt = (x1).toInt) (by omega) (by omega))) dX12_waits_31 ?_
    refine gz_iadd dX12_waits_32 ?_
    refine gz_istore (lv' := [(5, .int ((40 * x1) + ((F 35) (Int32.toNatClampNeg x1)))), (0, .ref m), (1, .int x1), (2, .int x2), (3, .long y)]) dX12_waits_33 (by decide) rfl ?_
    refine gz_aload_n dX12_waits_35 rfl rfl ?_
    refine mg_112 hS dX12_waits_36 ?_
    refine gz_iload dX12_waits_39 rfl ?_
    refine gz_iload_n dX12_waits_41 rfl rfl ?_
    refine m_iast 36 hS rfl (N := 1600) rfl ((by have q9 := (T_add (T_mul (show (40 : Int32).toInt = 40 from rfl) (rfl : (x1).toInt = (x1).toInt) (by omega)) (rfl : (((F 35) (Int32.toNatClampNeg x1))).toInt = (((F 35) (Int32.toNatClampNeg x1))).toInt) (by omega)); exact vin_T q9 (by omega) (by omega))) dX12_waits_42 (fun f_1 hS_1q => ?_)
    have hS_1 : mS cy m a f0 n z (va_up F 36 (upd (F 36) (Int32.toNatClampNeg ((40 * x1) + ((F 35) (Int32.toNatClampNeg x1)))) x2)) G f_1 := hS_1q
    refine gz_aload_n dX12_waits_43 rfl rfl ?_
    refine mg_115 hS_1 dX12_waits_44 ?_
    refine gz_iload dX12_waits_47 rfl ?_
    refine gz_lload_n dX12_waits_49 rfl rfl ?_
    refine m_last 37 hS_1 rfl (N := 1600) rfl ((by have q9 := (T_add (T_mul (show (40 : Int32).toInt = 40 from rfl) (rfl : (x1).toInt = (x1).toInt) (by omega)) (rfl : (((F 35) (Int32.toNatClampNeg x1))).toInt = (((F 35) (Int32.toNatClampNeg x1))).toInt) (by omega)); exact vin_T q9 (by omega) (by omega))) dX12_waits_50 (fun f_2 hS_2q => ?_)
    have hS_2 : mS cy m a f0 n z (va_up F 36 (upd (F 36) (Int32.toNatClampNeg ((40 * x1) + ((F 35) (Int32.toNatClampNeg x1)))) x2)) (va_up G 37 (vp_updL (G 37) (Int32.toNatClampNeg ((40 * x1) + ((F 35) (Int32.toNatClampNeg x1)))) y)) f_2 := hS_2q
    refine gz_aload_n dX12_waits_51 rfl rfl ?_
    refine mg_109 hS_2 dX12_waits_52 ?_
    refine gz_iload_n dX12_waits_55 rfl rfl ?_
    refine gz_dup2 dX12_waits_56 rfl rfl ?_
    refine m_iald 35 hS_2 rfl (N := 40) rfl ((by exact vin_T (rfl : (x1).toInt = (x1).toInt) (by omega) (by omega))) dX12_waits_57 ?_
    refine gz_ev (w := .int ((F 35) (Int32.toNatClampNeg x1))) rfl ?_
    refine gz_iconst (v := 1) dX12_waits_58 (by decide) ?_
    refine gz_iadd dX12_waits_59 ?_
    refine m_iast 35 hS_2 rfl (N := 40) rfl ((by exact vin_T (rfl : (x1).toInt = (x1).toInt) (by omega) (by omega))) dX12_waits_60 (fun f_3 hS_3q => ?_)
    have hS_3 : mS cy m a f0 n z (va_up (va_up F 36 (upd (F 36) (Int32.toNatClampNeg ((40 * x1) + ((F 35) (Int32.toNatClampNeg x1)))) x2)) 35 (upd (F 35) (Int32.toNatClampNeg x1) (((F 35) (Int32.toNatClampNeg x1)) + 1))) (va_up G 37 (vp_updL (G 37) (Int32.toNatClampNeg ((40 * x1) + ((F 35) (Int32.toNatClampNeg x1)))) y)) f_3 := hS_3q
    have hxx : fx [1] [] [35, 36] [37] n z F G n z (va_up (va_up F 36 (upd (F 36) (Int32.toNatClampNeg ((40 * x1) + ((F 35) (Int32.toNatClampNeg x1)))) x2)) 35 (upd (F 35) (Int32.toNatClampNeg x1) (((F 35) (Int32.toNatClampNeg x1)) + 1))) (va_up G 37 (vp_updL (G 37) (Int32.toNatClampNeg ((40 * x1) + ((F 35) (Int32.toNatClampNeg x1)))) y)) := (fx_F (fx_G (fx_F fx_rf (by decide)) (by decide)) (by decide))
    have qa : (40 * x1 + (F 35 (Int32.toNatClampNeg x1))).toInt = 40 * x1.toInt + (F 35 (Int32.toNatClampNeg x1)).toInt := (T_add (T_mul (show (40 : Int32).toInt = 40 from rfl) (rfl : (x1).toInt = (x1).toInt) (by omega)) (rfl : ((F 35 (Int32.toNatClampNeg x1))).toInt = ((F 35 (Int32.toNatClampNeg x1))).toInt) (by omega))
    have qn : Int32.toNatClampNeg (40 * x1 + (F 35 (Int32.toNatClampNeg x1))) = 40 * (Int32.toNatClampNeg x1) + (F 35 (Int32.toNatClampNeg x1)).toInt.toNat := by have := clI (i := (40 * x1 + (F 35 (Int32.toNatClampNeg x1)))) (by omega); have := clI (i := x1) (by omega); omega
    have qc := clI (i := x1) (by omega)
    have qs : ((F 35 (Int32.toNatClampNeg x1)) + 1).toInt = (F 35 (Int32.toNatClampNeg x1)).toInt + 1 := T_add rfl (show (1 : Int32).toInt = 1 from rfl) (by omega)
    have r1 : rL (va_up F 36 (upd (F 36) (Int32.toNatClampNeg (40 * x1 + (F 35 (Int32.toNatClampNeg x1)))) x2)) (n 5).toInt (n 30).toInt := rL_put bL (fun k hk => up_out (K := [36]) (fun _ _ => rfl) (by decide) k ((by decide : ∀ k : Nat, k ∈ ([6, 7, 32, 33, 35] : List Nat) → k ∉ ([36] : List Nat)) k hk)) rfl hv
    obtain r2 : rL (va_up (va_up F 36 (upd (F 36) (Int32.toNatClampNeg ((40 * x1) + ((F 35) (Int32.toNatClampNeg x1)))) x2)) 35 (upd (F 35) (Int32.toNatClampNeg x1) (((F 35) (Int32.toNatClampNeg x1)) + 1))) (n 5).toInt (n 30).toInt := by
      refine rL_cnt (l0 := (Int32.toNatClampNeg x1)) (s := (F 35 (Int32.toNatClampNeg x1)) + 1) r1 (fun k hk => up_out (K := [35]) (fun _ _ => rfl) (by decide) k ((by decide : ∀ k : Nat, k ∈ ([6, 7, 32, 33, 36] : List Nat) → k ∉ ([35] : List Nat)) k hk)) rfl (by omega) (by omega) (fun k hk => ?_)
      show vS _ _ (upd (F 36) (Int32.toNatClampNeg (40 * x1 + (F 35 (Int32.toNatClampNeg x1)))) x2 (40 * (Int32.toNatClampNeg x1) + k))
      rw [updE, qn]
      by_cases e : 40 * (Int32.toNatClampNeg x1) + k = 40 * (Int32.toNatClampNeg x1) + (F 35 (Int32.toNatClampNeg x1)).toInt.toNat
      · rw [if_pos e]; exact vS_cg rfl rfl hv
      · rw [if_neg e]; exact vS_cg rfl rfl (rL_S bL (by omega) (by omega))
    have r3 : ∀ l : Nat, (F 35 l).toInt ≤ ((va_up (va_up F 36 (upd (F 36) (Int32.toNatClampNeg ((40 * x1) + ((F 35) (Int32.toNatClampNeg x1)))) x2)) 35 (upd (F 35) (Int32.toNatClampNeg x1) (((F 35) (Int32.toNatClampNeg x1)) + 1))) 35 l).toInt := by
      intro l
      show (F 35 l).toInt ≤ (upd (F 35) (Int32.toNatClampNeg x1) ((F 35 (Int32.toNatClampNeg x1)) + 1) l).toInt
      rw [updE]
      by_cases e : l = (Int32.toNatClampNeg x1)
      · rw [if_pos e, e, qs]; omega
      · rw [if_neg e]; exact Int.le_refl _
    exact gz_vret rfl dX12_waits_61 (Nat.le_of_ble_eq_true rfl) (Nat.le_of_ble_eq_true rfl) (⟨rfl, _, _, _, _, hS_3, hxx, RI_l hR (fun k hk => hxx.2.2.1 k ((by decide : ∀ k : Nat, k ∈ wK → k ∉ ([35, 36] : List Nat)) k hk)) (fun k hk => hxx.1 k ((by decide : ∀ k : Nat, k ∈ ([0, 4, 5, 30, 47, 53, 88] : List Nat) → k ∉ ([1] : List Nat)) k hk)) r2 a38 (rPy_cg2 bP rfl), r3⟩)
  ·
    try simp only [mIn_0, lgc_lt, lgc_gt, lgc_le, lgc_ge, lgc_eq] at c_8
    try simp only [fl_lt, fl_le, fl_eq, fL_w, fL_lt, fL_le, tm1, tm10k, tm9, tm99, Int32.reduceToInt, Int64.reduceToInt, Int.not_lt, Int.not_le] at c_8
    refine gz_aload_n dX12_waits_11 rfl rfl ?_
    refine gz_dup dX12_waits_12 rfl ?_
    refine mg_367 hS dX12_waits_13 ?_
    refine gz_iconst (v := 1) dX12_waits_16 (by decide) ?_
    refine gz_iadd dX12_waits_17 ?_
    refine mp_367 hS dX12_waits_18 (fun f_4 hS_4 => ?_)
    have hxx : fx [1] [] [35, 36] [37] n z F G (va_up n 1 ((n 1) + 1)) z F G := (fx_n fx_rf (by decide))
    have hxy : fx [1] [] [] [] n z F G (va_up n 1 ((n 1) + 1)) z F G := (fx_n fx_rf (by decide))
    exact gz_vret rfl dX12_waits_21 (Nat.le_of_ble_eq_true rfl) (Nat.le_of_ble_eq_true rfl) (⟨rfl, _, _, _, _, hS_4, hxx, RI_fx hR hxy (by decide) (by decide), fun l => Int.le_refl _⟩)

set_option maxHeartbeats 4000000 in
set_option maxRecDepth 100000 in
theorem l_X12_acquires {l : Launch} {D : va_G} {cy : Nat → ClassId} {b : Nat} {m : Nat} {a : Nat → Nat} {f0 : gMem} {n0 : Nat → Int32} {z0 : Nat → Int64} {F0 : Nat → Nat → Int32} {G0 : Nat → Nat → Int64}  {x1 x2 : Int32} {y : Int64}  : ∀ (k : Nat) (Sz : Nat) (n : Nat → Int32) (z : Nat → Int64) (F : Nat → Nat → Int32) (G : Nat → Nat → Int64) (fm : gMem), mS cy m a f0 n z F G fm → fx [1, 38, 43] [] [35, 36, 39, 40, 41, 42, 44] [34, 37, 45] n0 z0 F0 G0 n z F G → (RI n F) → (0 ≤ x1.toInt ∧ x1.toInt < (n 30).toInt) → (stk F (n 5).toInt (F 44) (n 43).toInt.toNat Sz ∧ 0 ≤ (n 43).toInt) → (Sz ≤ 40) → (Sz < k) → (∀ l : Nat, (F0 35 l).toInt ≤ (F 35 l).toInt) → gG l (gRm 3 0 0) (gQf D b (pV fun f2 => ∃ (n2 : Nat → Int32) (z2 : Nat → Int64) (F2 : Nat → Nat → Int32) (G2 : Nat → Nat → Int64), mS cy m a f0 n2 z2 F2 G2 f2 ∧ fx [1, 38, 43] [] [35, 36, 39, 40, 41, 42, 44] [34, 37, 45] n0 z0 F0 G0 n2 z2 F2 G2 ∧ RI n2 F2 ∧ ∀ l : Nat, (F0 35 l).toInt ≤ (F2 35 l).toInt) 0 0) gTt D cy b cX12_acquires 9 none RX12 "acquires" 0 0 fm 11 [(0, .ref m), (1, .int x1), (2, .int x2), (3, .long y)] [] := by
  intro k
  induction k with
  | zero =>
    intro Sz n z F G fm hS hx hR hl hT h40 hk hm
    exfalso; omega
  | succ k ih =>
    intro Sz n z F G fm hS hx hR hl hT h40 hk hm
    obtain ⟨a0, a4, a5, bA, bW, a30, bL, a38, bP, a53, a47, a88⟩ := id hR
    have ql := stk_len bW hT.1
    refine gz_aload_n dX12_acquires_11 rfl rfl ?_
    refine mg_361 hS dX12_acquires_12 ?_
    refine gz_if_le (tgt := 183) dX12_acquires_15 (by decide) (fun c_15 => ?_) (fun c_15 => ?_)
    ·
      try simp only [mIn_0, lgc_lt, lgc_gt, lgc_le, lgc_ge, lgc_eq] at c_15
      try simp only [fl_lt, fl_le, fl_eq, fL_w, fL_lt, fL_le, tm1, tm10k, tm9, tm99, Int32.reduceToInt, Int64.reduceToInt, Int.not_lt, Int.not_le] at c_15
      exact gz_vret rfl dX12_acquires_183 (Nat.le_of_ble_eq_true rfl) (Nat.le_of_ble_eq_true rfl) (⟨rfl, _, _, _, _, hS, hx, hR, hm⟩)
    ·
      try simp only [mIn_0, lgc_lt, lgc_gt, lgc_le, lgc_ge, lgc_eq] at c_15
      try simp only [fl_lt, fl_le, fl_eq, fL_w, fL_lt, fL_le, tm1, tm10k, tm9, tm99, Int32.reduceToInt, Int64.reduceToInt, Int.not_lt, Int.not_le] at c_15
      refine gz_aload_n dX12_acquires_18 rfl rfl ?_
      refine gz_dup dX12_acquires_19 rfl ?_
      refine mg_361 hS dX12_acquires_20 ?_
      refine gz_iconst (v := 1) dX12_acquires_23 (by decide) ?_
      refine gz_isub dX12_acquires_24 ?_
      refine mp_361 hS dX12_acquires_25 (fun f_1 hS_1 => ?_)
      refine gz_aload_n dX12_acquires_28 rfl rfl ?_
      refine mg_130 hS_1 dX12_acquires_29 ?_
      refine gz_aload_n dX12_acquires_32 rfl rfl ?_
      refine mg_361 hS_1 dX12_acquires_33 ?_
      refine gz_ev (w := .int ((n 43) - 1)) rfl ?_
      refine m_iald 44 hS_1 rfl (N := 64) rfl ((by have q9 := (T_sub (rfl : ((n 43)).toInt = ((n 43)).toInt) (show (1 : Int32).toInt = 1 from rfl) (by omega)); exact vin_T q9 (by omega) (by omega))) dX12_acquires_36 ?_
      refine gz_ev (w := .int ((F 44) (Int32.toNatClampNeg ((n 43) - 1)))) rfl ?_
      have t1 : ((n 43) - 1).toInt = (n 43).toInt - 1 := T_sub rfl (show (1 : Int32).toInt = 1 from rfl) (by omega)
      obtain ⟨wv, hwv⟩ : ∃ wv, wv = ((F 44) (Int32.toNatClampNeg ((n 43) - 1))) := ⟨_, rfl⟩
      refine gz_ev (w := .int wv) (congrArg Value.int hwv.symm) ?_
      obtain ⟨hv, S2, hT3, hS3⟩ := stk_pop (t := ((n 43) - 1).toInt.toNat) (show stk F (n 5).toInt (F 44) (((n 43) - 1).toInt.toNat + 1) Sz by rw [show ((n 43) - 1).toInt.toNat + 1 = (n 43).toInt.toNat by omega]; exact hT.1)
      have hv2 : vW F (n 5).toInt wv.toInt := by rw [hwv]; exact hv
      have hS4 : S2 + szF F wv.toInt = Sz := by rw [hwv]; exact hS3
      have qv := vW_lt bW a5 hv2
      have qz := szF_pos bW hv2
      have qk : 0 ≤ (F 7 (Int32.toNatClampNeg wv)).toInt ∧ (F 7 (Int32.toNatClampNeg wv)).toInt ≤ 10 := knd_ok bW hv2
      refine gz_istore (lv' := [(5, .int wv), (0, .ref m), (1, .int x1), (2, .int x2), (3, .long y)]) dX12_acquires_37 (by decide) rfl ?_
      refine gz_aload_n dX12_acquires_39 rfl rfl ?_
      refine mg_133 hS_1 dX12_acquires_40 ?_
      refine gz_aload_n dX12_acquires_43 rfl rfl ?_
      refine mg_361 hS_1 dX12_acquires_44 ?_
      refine gz_ev (w := .int ((n 43) - 1)) rfl ?_
      refine m_lald 45 hS_1 rfl (N := 64) rfl ((by have q9 := (T_sub (rfl : ((n 43)).toInt = ((n 43)).toInt) (show (1 : Int32).toInt = 1 from rfl) (by omega)); exact vin_T q9 (by omega) (by omega))) dX12_acquires_47 ?_
      refine gz_ev (w := .long ((G 45) (Int32.toNatClampNeg ((n 43) - 1)))) rfl ?_
      refine gz_lstore (lv' := [(6, .long ((G 45) (Int32.toNatClampNeg ((n 43) - 1)))), (5, .int wv), (0, .ref m), (1, .int x1), (2, .int x2), (3, .long y)]) dX12_acquires_48 (by decide) rfl ?_
      refine gz_aload_n dX12_acquires_50 rfl rfl ?_
      refine gz_iload dX12_acquires_51 rfl ?_
      refine scX12_374 (k_X12_isLapsed (x1 := wv) hS_1 a5 bA bW hv2) hS_1.1 ⟨(Nat.le_of_ble_eq_true rfl), (Nat.le_of_ble_eq_true rfl)⟩ ⟨(Nat.le_of_ble_eq_true rfl), (Nat.le_of_ble_eq_true rfl)⟩ rfl rfl (Nat.le_of_ble_eq_true rfl) dX12_acquires_53 ?_
      rintro r_2 f9 ⟨hb_2, y9⟩; rw [y9]
      refine gz_if_ne (tgt := 11) dX12_acquires_56 (by decide) (fun c_56 => ?_) (fun c_56 => ?_)
      ·
        try simp only [mIn_0, lgc_lt, lgc_gt, lgc_le, lgc_ge, lgc_eq] at c_56
        try simp only [fl_lt, fl_le, fl_eq, fL_w, fL_lt, fL_le, tm1, tm10k, tm9, tm99, Int32.reduceToInt, Int64.reduceToInt, Int.not_lt, Int.not_le] at c_56
        refine gz_sub (lv' := [(0, .ref m), (1, .int x1), (2, .int x2), (3, .long y)]) (by simp [List.lookup]) ?_
        have hxl : fx [1, 38, 43] [] [35, 36, 39, 40, 41, 42, 44] [34, 37, 45] n z F G (va_up n 43 ((n 43) - 1)) z F G := (fx_n fx_rf (by decide))
        have hxx : fx [43] [] [44] [45] n z F G (va_up n 43 ((n 43) - 1)) z F G := (fx_n fx_rf (by decide))
        have hR9 := RI_fx hR hxx (by decide) (by decide)
        have e43 : ((va_up n 43 ((n 43) - 1)) 43).toInt.toNat = ((n 43) - 1).toInt.toNat + 0 := (by (try rw [(show (va_up n 43 ((n 43) - 1)) 43 = ((n 43) - 1) from rfl)]); have q1_ := (T_sub (rfl : ((n 43)).toInt = ((n 43)).toInt) (show (1 : Int32).toInt = 1 from rfl) (by omega)); omega)
        have e43b : 0 ≤ ((va_up n 43 ((n 43) - 1)) 43).toInt := (by (try rw [(show (va_up n 43 ((n 43) - 1)) 43 = ((n 43) - 1) from rfl)]); have q1_ := (T_sub (rfl : ((n 43)).toInt = ((n 43)).toInt) (show (1 : Int32).toInt = 1 from rfl) (by omega)); omega)
        have e5 : (va_up n 43 ((n 43) - 1)) 5 = n 5 := hxx.1 5 (by decide)
        have e30 : (va_up n 43 ((n 43) - 1)) 30 = n 30 := hxx.1 30 (by decide)
        have e44 : F 44 = (F 44) := (show F 44 = (F 44) from rfl).trans rfl
        have hT9 : stk F ((va_up n 43 ((n 43) - 1)) 5).toInt (F 44) ((va_up n 43 ((n 43) - 1)) 43).toInt.toNat S2 := by rw [e43, e5, e44]; exact stk_w (fun k hk => hxx.2.2.1 k ((by decide : ∀ k : Nat, k ∈ wK → k ∉ ([44] : List Nat)) k hk)) hT3
        exact ih S2 _ _ _ _ _ hS_1 (fx_n hx (by decide)) (hR9) (by rw [e30]; exact hl) (⟨hT9, e43b⟩) (by omega) (by omega) (fun l => by rw [hxx.2.2.1 35 (by decide)]; exact hm l)
      ·
        try simp only [mIn_0, lgc_lt, lgc_gt, lgc_le, lgc_ge, lgc_eq] at c_56
        try simp only [fl_lt, fl_le, fl_eq, fL_w, fL_lt, fL_le, tm1, tm10k, tm9, tm99, Int32.reduceToInt, Int64.reduceToInt, Int.not_lt, Int.not_le] at c_56
        refine gz_aload_n dX12_acquires_59 rfl rfl ?_
        refine mg_20 hS_1 dX12_acquires_60 ?_
        refine gz_iload dX12_acquires_63 rfl ?_
        refine m_iald 7 hS_1 rfl (N := 880) rfl ((by exact vin_T (rfl : (wv).toInt = (wv).toInt) (by omega) (by omega))) dX12_acquires_65 ?_
        refine gz_ev (w := .int ((F 7) (Int32.toNatClampNeg wv))) rfl ?_
        refine gz_if_ne (tgt := 72) dX12_acquires_66 (by decide) (fun c_66 => ?_) (fun c_66 => ?_)
        ·
          try simp only [mIn_0, lgc_lt, lgc_gt, lgc_le, lgc_ge, lgc_eq] at c_66
          try simp only [fl_lt, fl_le, fl_eq, fL_w, fL_lt, fL_le, tm1, tm10k, tm9, tm99, Int32.reduceToInt, Int64.reduceToInt, Int.not_lt, Int.not_le] at c_66
          refine gz_aload_n dX12_acquires_72 rfl rfl ?_
          refine gz_iload dX12_acquires_73 rfl ?_
          refine scX12_377 (k_X12_leadsTo (x1 := wv) hS_1 a5 bA bW hv2) hS_1.1 ⟨(Nat.le_of_ble_eq_true rfl), (Nat.le_of_ble_eq_true rfl)⟩ ⟨(Nat.le_of_ble_eq_true rfl), (Nat.le_of_ble_eq_true rfl)⟩ rfl rfl (Nat.le_of_ble_eq_true rfl) dX12_acquires_75 ?_
          rintro r_3 f9 ⟨hb_3, y9⟩; rw [y9]
          refine gz_istore (lv' := [(8, .int r_3), (6, .long ((G 45) (Int32.toNatClampNeg ((n 43) - 1)))), (5, .int wv), (0, .ref m), (1, .int x1), (2, .int x2), (3, .long y)]) dX12_acquires_78 (by decide) rfl ?_
          refine gz_iload dX12_acquires_80 rfl ?_
          refine gz_if_lt (tgt := 102) dX12_acquires_82 (by decide) (fun c_82 => ?_) (fun c_82 => ?_)
          ·
            try simp only [mIn_0, lgc_lt, lgc_gt, lgc_le, lgc_ge, lgc_eq] at c_82
            try simp only [fl_lt, fl_le, fl_eq, fL_w, fL_lt, fL_le, tm1, tm10k, tm9, tm99, Int32.reduceToInt, Int64.reduceToInt, Int.not_lt, Int.not_le] at c_82
            refine gz_aload_n dX12_acquires_102 rfl rfl ?_
            refine mg_20 hS_1 dX12_acquires_103 ?_
            refine gz_iload dX12_acquires_106 rfl ?_
            refine m_iald 7 hS_1 rfl (N := 880) rfl ((by exact vin_T (rfl : (wv).toInt = (wv).toInt) (by omega) (by omega))) dX12_acquires_108 ?_
            refine gz_ev (w := .int ((F 7) (Int32.toNatClampNeg wv))) rfl ?_
            refine gz_iconst (v := 1) dX12_acquires_109 (by decide) ?_
            refine gz_icmp_ne (tgt := 131) dX12_acquires_110 (by decide) (fun c_110 => ?_) (fun c_110 => ?_)
            ·
              try simp only [mIn_0, lgc_lt, lgc_gt, lgc_le, lgc_ge, lgc_eq] at c_110
              try simp only [fl_lt, fl_le, fl_eq, fL_w, fL_lt, fL_le, tm1, tm10k, tm9, tm99, Int32.reduceToInt, Int64.reduceToInt, Int.not_lt, Int.not_le] at c_110
              refine gz_aload_n dX12_acquires_131 rfl rfl ?_
              refine mg_20 hS_1 dX12_acquires_132 ?_
              refine gz_iload dX12_acquires_135 rfl ?_
              refine m_iald 7 hS_1 rfl (N := 880) rfl ((by exact vin_T (rfl : (wv).toInt = (wv).toInt) (by omega) (by omega))) dX12_acquires_137 ?_
              refine gz_ev (w := .int ((F 7) (Int32.toNatClampNeg wv))) rfl ?_
              refine gz_iconst (v := 3) dX12_acquires_138 (by decide) ?_
              refine gz_icmp_ne (tgt := 171) dX12_acquires_139 (by decide) (fun c_139 => ?_) (fun c_139 => ?_)
              ·
                try simp only [mIn_0, lgc_lt, lgc_gt, lgc_le, lgc_ge, lgc_eq] at c_139
                try simp only [fl_lt, fl_le, fl_eq, fL_w, fL_lt, fL_le, tm1, tm10k, tm9, tm99, Int32.reduceToInt, Int64.reduceToInt, Int.not_lt, Int.not_le] at c_139
                refine gz_aload_n dX12_acquires_171 rfl rfl ?_
                refine gz_iload_n dX12_acquires_172 rfl rfl ?_
                refine gz_iload dX12_acquires_173 rfl ?_
                refine gz_lload dX12_acquires_175 rfl ?_
                refine scX12_391 (k_X12_waits (x1 := x1) (x2 := wv) hS_1 (RI_fx hR ((fx_n fx_rf (by decide)) : fx [43] [] [] [] n z F G (va_up n 43 ((n 43) - 1)) z F G) (by decide) (by decide)) hl ⟨hv2, (by show (F 7 (Int32.toNatClampNeg wv)).toInt = 4 ∨ (F 7 (Int32.toNatClampNeg wv)).toInt = 6 ∨ (F 7 (Int32.toNatClampNeg wv)).toInt = 7; omega)⟩) hS_1.1 ⟨(Nat.le_of_ble_eq_true rfl), (Nat.le_of_ble_eq_true rfl)⟩ ⟨(Nat.le_of_ble_eq_true rfl), (Nat.le_of_ble_eq_true rfl)⟩ rfl rfl (Nat.le_of_ble_eq_true rfl) dX12_acquires_177 ?_
                rintro f_4 ⟨n_4, z_4, F_4, G_4, hS_4, hx4, hR_4, hm_4⟩
                refine gz_goto (tgt := 11) dX12_acquires_180 (by decide) ?_
                refine gz_sub (lv' := [(0, .ref m), (1, .int x1), (2, .int x2), (3, .long y)]) (by simp [List.lookup]) ?_
                have hxl : fx [1, 38, 43] [] [35, 36, 39, 40, 41, 42, 44] [34, 37, 45] n z F G n_4 z_4 F_4 G_4 := (fx_tr (fx_n fx_rf (by decide)) hx4 (by decide))
                have hxx : fx [1, 43] [] [35, 36] [37] n z F G n_4 z_4 F_4 G_4 := (fx_tr (fx_n fx_rf (by decide)) hx4 (by decide))
                have e43 : (n_4 43).toInt.toNat = ((n 43) - 1).toInt.toNat + 0 := (by (try rw [(show n_4 43 = ((n 43) - 1) from (hx4.1 43 (by decide)))]); have q1_ := (T_sub (rfl : ((n 43)).toInt = ((n 43)).toInt) (show (1 : Int32).toInt = 1 from rfl) (by omega)); omega)
                have e43b : 0 ≤ (n_4 43).toInt := (by (try rw [(show n_4 43 = ((n 43) - 1) from (hx4.1 43 (by decide)))]); have q1_ := (T_sub (rfl : ((n 43)).toInt = ((n 43)).toInt) (show (1 : Int32).toInt = 1 from rfl) (by omega)); omega)
                have e5 : n_4 5 = n 5 := hxx.1 5 (by decide)
                have e30 : n_4 30 = n 30 := hxx.1 30 (by decide)
                have e44 : F_4 44 = (F 44) := (show F_4 44 = (F 44) from (hx4.2.2.1 44 (by decide))).trans rfl
                have hT9 : stk F_4 (n_4 5).toInt (F_4 44) (n_4 43).toInt.toNat S2 := by rw [e43, e5, e44]; exact stk_w (fun k hk => hxx.2.2.1 k ((by decide : ∀ k : Nat, k ∈ wK → k ∉ ([35, 36] : List Nat)) k hk)) hT3
                exact ih S2 _ _ _ _ _ hS_4 (fx_tr (fx_n hx (by decide)) hx4 (by decide)) (hR_4) (by rw [e30]; exact hl) (⟨hT9, e43b⟩) (by omega) (by omega) (fun l => Int.le_trans (hm l) (hm_4 l))
              ·
                try simp only [mIn_0, lgc_lt, lgc_gt, lgc_le, lgc_ge, lgc_eq] at c_139
                try simp only [fl_lt, fl_le, fl_eq, fL_w, fL_lt, fL_le, tm1, tm10k, tm9, tm99, Int32.reduceToInt, Int64.reduceToInt, Int.not_lt, Int.not_le] at c_139
                refine gz_aload_n dX12_acquires_142 rfl rfl ?_
                refine gz_aload_n dX12_acquires_143 rfl rfl ?_
                refine mg_35 hS_1 dX12_acquires_144 ?_
                refine gz_iload dX12_acquires_147 rfl ?_
                refine m_iald 12 hS_1 rfl (N := 880) rfl ((by exact vin_T (rfl : (wv).toInt = (wv).toInt) (by omega) (by omega))) dX12_acquires_149 ?_
                refine gz_ev (w := .int ((F 12) (Int32.toNatClampNeg wv))) rfl ?_
                refine gz_lload dX12_acquires_150 rfl ?_
                have q_1 : vW F (n 5).toInt (F 11 (Int32.toNatClampNeg wv)).toInt ∧ szF F (F 11 (Int32.toNatClampNeg wv)).toInt + 1 ≤ szF F wv.toInt := one_ok bW hv2 (show 2 ≤ (F 7 (Int32.toNatClampNeg wv)).toInt by omega)
                have q_2 : vW F (n 5).toInt (F 12 (Int32.toNatClampNeg wv)).toInt ∧ szF F (F 11 (Int32.toNatClampNeg wv)).toInt + szF F (F 12 (Int32.toNatClampNeg wv)).toInt + 1 ≤ szF F wv.toInt := two_ok bW hv2 (show 3 ≤ (F 7 (Int32.toNatClampNeg wv)).toInt ∧ (F 7 (Int32.toNatClampNeg wv)).toInt ≤ 5 by omega)
                refine scX12_370 (k_X12_comes (x1 := ((F 12) (Int32.toNatClampNeg wv))) hS_1 (by (try rw [(show (va_up n 43 ((n 43) - 1)) 43 = ((n 43) - 1) from rfl)]); have q1_ := (T_sub (rfl : ((n 43)).toInt = ((n 43)).toInt) (show (1 : Int32).toInt = 1 from rfl) (by omega)); omega)) hS_1.1 ⟨(Nat.le_of_ble_eq_true rfl), (Nat.le_of_ble_eq_true rfl)⟩ ⟨(Nat.le_of_ble_eq_true rfl), (Nat.le_of_ble_eq_true rfl)⟩ rfl rfl (Nat.le_of_ble_eq_true rfl) dX12_acquires_152 ?_
                rintro f_5 ⟨n_5, z_5, F_5, G_5, hS_5, hx5, h43_5, h44_5⟩
                refine gz_aload_n dX12_acquires_155 rfl rfl ?_
                refine gz_aload_n dX12_acquires_156 rfl rfl ?_
                refine mg_32 hS_5 dX12_acquires_157 ?_
                refine gz_iload dX12_acquires_160 rfl ?_
                refine m_iald 11 hS_5 rfl (N := 880) rfl ((by exact vin_T (rfl : (wv).toInt = (wv).toInt) (by omega) (by omega))) dX12_acquires_162 ?_
                refine gz_ev (w := .int ((F 11) (Int32.toNatClampNeg wv))) (congrArg Value.int (congrFun (hx5.2.2.1 11 (by decide)) _)) ?_
                refine gz_lload dX12_acquires_163 rfl ?_
                refine scX12_370 (k_X12_comes (x1 := ((F 11) (Int32.toNatClampNeg wv))) hS_5 (by (try rw [(show n_5 43 = (((n 43) - 1) + 1) from h43_5)]); have q1_ := (T_add (T_sub (rfl : ((n 43)).toInt = ((n 43)).toInt) (show (1 : Int32).toInt = 1 from rfl) (by omega)) (show (1 : Int32).toInt = 1 from rfl) (by omega)); omega)) hS_5.1 ⟨(Nat.le_of_ble_eq_true rfl), (Nat.le_of_ble_eq_true rfl)⟩ ⟨(Nat.le_of_ble_eq_true rfl), (Nat.le_of_ble_eq_true rfl)⟩ rfl rfl (Nat.le_of_ble_eq_true rfl) dX12_acquires_165 ?_
                rintro f_6 ⟨n_6, z_6, F_6, G_6, hS_6, hx6, h43_6, h44_6⟩
                rw [(show F_5 44 = (upd (F 44) (Int32.toNatClampNeg ((n 43) - 1)) ((F 12) (Int32.toNatClampNeg wv))) from h44_5)] at h44_6
                rw [(show n_5 43 = (((n 43) - 1) + 1) from h43_5)] at h44_6
                refine gz_goto (tgt := 180) dX12_acquires_168 (by decide) ?_
                refine gz_goto (tgt := 11) dX12_acquires_180 (by decide) ?_
                refine gz_sub (lv' := [(0, .ref m), (1, .int x1), (2, .int x2), (3, .long y)]) (by simp [List.lookup]) ?_
                have hxl : fx [1, 38, 43] [] [35, 36, 39, 40, 41, 42, 44] [34, 37, 45] n z F G n_6 z_6 F_6 G_6 := (fx_tr (fx_tr (fx_n fx_rf (by decide)) hx5 (by decide)) hx6 (by decide))
                have hxx : fx [43] [] [44] [45] n z F G n_6 z_6 F_6 G_6 := (fx_tr (fx_tr (fx_n fx_rf (by decide)) hx5 (by decide)) hx6 (by decide))
                have hR9 := RI_fx hR hxx (by decide) (by decide)
                have hp0 := stk_push (x := ((F 12) (Int32.toNatClampNeg wv))) hT3 q_2.1
                have hp1 := stk_push (x := ((F 11) (Int32.toNatClampNeg wv))) hp0 q_1.1
                have e43 : (n_6 43).toInt.toNat = ((n 43) - 1).toInt.toNat + 2 := (by (try rw [(show n_6 43 = ((((n 43) - 1) + 1) + 1) from (h43_6.trans (congrArg (· + 1) h43_5)))]); have q1_ := (T_add (T_add (T_sub (rfl : ((n 43)).toInt = ((n 43)).toInt) (show (1 : Int32).toInt = 1 from rfl) (by omega)) (show (1 : Int32).toInt = 1 from rfl) (by omega)) (show (1 : Int32).toInt = 1 from rfl) (by omega)); omega)
                have e43b : 0 ≤ (n_6 43).toInt := (by (try rw [(show n_6 43 = ((((n 43) - 1) + 1) + 1) from (h43_6.trans (congrArg (· + 1) h43_5)))]); have q1_ := (T_add (T_add (T_sub (rfl : ((n 43)).toInt = ((n 43)).toInt) (show (1 : Int32).toInt = 1 from rfl) (by omega)) (show (1 : Int32).toInt = 1 from rfl) (by omega)) (show (1 : Int32).toInt = 1 from rfl) (by omega)); omega)
                have e5 : n_6 5 = n 5 := hxx.1 5 (by decide)
                have e30 : n_6 30 = n 30 := hxx.1 30 (by decide)
                have e44 : F_6 44 = (upd (upd (F 44) (((n 43) - 1).toInt.toNat) ((F 12) (Int32.toNatClampNeg wv))) (((n 43) - 1).toInt.toNat + 1) ((F 11) (Int32.toNatClampNeg wv))) := (show F_6 44 = (upd (upd (F 44) (Int32.toNatClampNeg ((n 43) - 1)) ((F 12) (Int32.toNatClampNeg wv))) (Int32.toNatClampNeg (((n 43) - 1) + 1)) ((F 11) (Int32.toNatClampNeg wv))) from h44_6).trans (by rw [show Int32.toNatClampNeg (((n 43) - 1) + 1) = ((n 43) - 1).toInt.toNat + 1 from by have q := T_add (rfl : ((n 43) - 1).toInt = ((n 43) - 1).toInt) (show (1 : Int32).toInt = 1 from rfl) (by omega); rw [clN, q]; omega]; rfl)
                have hT9 : stk F_6 (n_6 5).toInt (F_6 44) (n_6 43).toInt.toNat ((S2 + szF F ((F 12) (Int32.toNatClampNeg wv)).toInt) + szF F ((F 11) (Int32.toNatClampNeg wv)).toInt) := by rw [e43, e5, e44]; exact stk_w (fun k hk => hxx.2.2.1 k ((by decide : ∀ k : Nat, k ∈ wK → k ∉ ([44] : List Nat)) k hk)) hp1
                exact ih ((S2 + szF F ((F 12) (Int32.toNatClampNeg wv)).toInt) + szF F ((F 11) (Int32.toNatClampNeg wv)).toInt) _ _ _ _ _ hS_6 (fx_tr (fx_tr (fx_n hx (by decide)) hx5 (by decide)) hx6 (by decide)) (hR9) (by rw [e30]; exact hl) (⟨hT9, e43b⟩) (by omega) (by omega) (fun l => by rw [hxx.2.2.1 35 (by decide)]; exact hm l)
            ·
              try simp only [mIn_0, lgc_lt, lgc_gt, lgc_le, lgc_ge, lgc_eq] at c_110
              try simp only [fl_lt, fl_le, fl_eq, fL_w, fL_lt, fL_le, tm1, tm10k, tm9, tm99, Int32.reduceToInt, Int64.reduceToInt, Int.not_lt, Int.not_le] at c_110
              refine gz_aload_n dX12_acquires_113 rfl rfl ?_
              refine gz_iload_n dX12_acquires_114 rfl rfl ?_
              refine gz_iload dX12_acquires_115 rfl ?_
              refine gz_aload_n dX12_acquires_117 rfl rfl ?_
              refine gz_iload dX12_acquires_118 rfl ?_
              refine gz_lload dX12_acquires_120 rfl ?_
              refine scX12_384 (k_X12_paysOf (x1 := wv) hS_1 a5 bA bW hv2) hS_1.1 ⟨(Nat.le_of_ble_eq_true rfl), (Nat.le_of_ble_eq_true rfl)⟩ ⟨(Nat.le_of_ble_eq_true rfl), (Nat.le_of_ble_eq_true rfl)⟩ rfl rfl (Nat.le_of_ble_eq_true rfl) dX12_acquires_122 ?_
              rintro r_7 f9 ⟨-, y9⟩; rw [y9]
              refine scX12_387 (k_X12_pays (x1 := x1) (x2 := wv) hS_1 (RI_fx hR ((fx_n fx_rf (by decide)) : fx [43] [] [] [] n z F G (va_up n 43 ((n 43) - 1)) z F G) (by decide) (by decide)) hl) hS_1.1 ⟨(Nat.le_of_ble_eq_true rfl), (Nat.le_of_ble_eq_true rfl)⟩ ⟨(Nat.le_of_ble_eq_true rfl), (Nat.le_of_ble_eq_true rfl)⟩ rfl rfl (Nat.le_of_ble_eq_true rfl) dX12_acquires_125 ?_
              rintro f_8 ⟨n_8, z_8, F_8, G_8, hS_8, hx8, hR_8⟩
              refine gz_goto (tgt := 180) dX12_acquires_128 (by decide) ?_
              refine gz_goto (tgt := 11) dX12_acquires_180 (by decide) ?_
              refine gz_sub (lv' := [(0, .ref m), (1, .int x1), (2, .int x2), (3, .long y)]) (by simp [List.lookup]) ?_
              have hxl : fx [1, 38, 43] [] [35, 36, 39, 40, 41, 42, 44] [34, 37, 45] n z F G n_8 z_8 F_8 G_8 := (fx_tr (fx_n fx_rf (by decide)) hx8 (by decide))
              have hxx : fx [1, 38, 43] [] [39, 40, 41, 42] [34] n z F G n_8 z_8 F_8 G_8 := (fx_tr (fx_n fx_rf (by decide)) hx8 (by decide))
              have e43 : (n_8 43).toInt.toNat = ((n 43) - 1).toInt.toNat + 0 := (by (try rw [(show n_8 43 = ((n 43) - 1) from (hx8.1 43 (by decide)))]); have q1_ := (T_sub (rfl : ((n 43)).toInt = ((n 43)).toInt) (show (1 : Int32).toInt = 1 from rfl) (by omega)); omega)
              have e43b : 0 ≤ (n_8 43).toInt := (by (try rw [(show n_8 43 = ((n 43) - 1) from (hx8.1 43 (by decide)))]); have q1_ := (T_sub (rfl : ((n 43)).toInt = ((n 43)).toInt) (show (1 : Int32).toInt = 1 from rfl) (by omega)); omega)
              have e5 : n_8 5 = n 5 := hxx.1 5 (by decide)
              have e30 : n_8 30 = n 30 := hxx.1 30 (by decide)
              have e44 : F_8 44 = (F 44) := (show F_8 44 = (F 44) from (hx8.2.2.1 44 (by decide))).trans rfl
              have hT9 : stk F_8 (n_8 5).toInt (F_8 44) (n_8 43).toInt.toNat S2 := by rw [e43, e5, e44]; exact stk_w (fun k hk => hxx.2.2.1 k ((by decide : ∀ k : Nat, k ∈ wK → k ∉ ([39, 40, 41, 42] : List Nat)) k hk)) hT3
              exact ih S2 _ _ _ _ _ hS_8 (fx_tr (fx_n hx (by decide)) hx8 (by decide)) (hR_8) (by rw [e30]; exact hl) (⟨hT9, e43b⟩) (by omega) (by omega) (fun l => by rw [hxx.2.2.1 35 (by decide)]; exact hm l)
          ·
            try simp only [mIn_0, lgc_lt, lgc_gt, lgc_le, lgc_ge, lgc_eq] at c_82
            try simp only [fl_lt, fl_le, fl_eq, fL_w, fL_lt, fL_le, tm1, tm10k, tm9, tm99, Int32.reduceToInt, Int64.reduceToInt, Int.not_lt, Int.not_le] at c_82
            refine gz_aload_n dX12_acquires_85 rfl rfl ?_
            refine gz_iload dX12_acquires_86 rfl ?_
            refine gz_aload_n dX12_acquires_88 rfl rfl ?_
            refine gz_iload dX12_acquires_89 rfl ?_
            refine gz_lload dX12_acquires_91 rfl ?_
            refine scX12_380 (k_X12_factorBehind (x1 := wv) hS_1 a5 bA bW hv2) hS_1.1 ⟨(Nat.le_of_ble_eq_true rfl), (Nat.le_of_ble_eq_true rfl)⟩ ⟨(Nat.le_of_ble_eq_true rfl), (Nat.le_of_ble_eq_true rfl)⟩ rfl rfl (Nat.le_of_ble_eq_true rfl) dX12_acquires_93 ?_
            rintro r_9 f9 ⟨-, y9⟩; rw [y9]
            have q_vx : 0 ≤ r_3.toInt ∧ vW F (n 5).toInt r_3.toInt ∧ szF F r_3.toInt + 1 ≤ szF F wv.toInt := by rcases hb_3 with z9 | z9 <;> first | exact z9 | (exfalso; omega)
            refine scX12_370 (k_X12_comes (x1 := r_3) hS_1 (by (try rw [(show (va_up n 43 ((n 43) - 1)) 43 = ((n 43) - 1) from rfl)]); have q1_ := (T_sub (rfl : ((n 43)).toInt = ((n 43)).toInt) (show (1 : Int32).toInt = 1 from rfl) (by omega)); omega)) hS_1.1 ⟨(Nat.le_of_ble_eq_true rfl), (Nat.le_of_ble_eq_true rfl)⟩ ⟨(Nat.le_of_ble_eq_true rfl), (Nat.le_of_ble_eq_true rfl)⟩ rfl rfl (Nat.le_of_ble_eq_true rfl) dX12_acquires_96 ?_
            rintro f_10 ⟨n_10, z_10, F_10, G_10, hS_10, hx10, h43_10, h44_10⟩
            refine gz_goto (tgt := 180) dX12_acquires_99 (by decide) ?_
            refine gz_goto (tgt := 11) dX12_acquires_180 (by decide) ?_
            refine gz_sub (lv' := [(0, .ref m), (1, .int x1), (2, .int x2), (3, .long y)]) (by simp [List.lookup]) ?_
            have hxl : fx [1, 38, 43] [] [35, 36, 39, 40, 41, 42, 44] [34, 37, 45] n z F G n_10 z_10 F_10 G_10 := (fx_tr (fx_n fx_rf (by decide)) hx10 (by decide))
            have hxx : fx [43] [] [44] [45] n z F G n_10 z_10 F_10 G_10 := (fx_tr (fx_n fx_rf (by decide)) hx10 (by decide))
            have hR9 := RI_fx hR hxx (by decide) (by decide)
            have hp0 := stk_push (x := r_3) hT3 q_vx.2.1
            have e43 : (n_10 43).toInt.toNat = ((n 43) - 1).toInt.toNat + 1 := (by (try rw [(show n_10 43 = (((n 43) - 1) + 1) from h43_10)]); have q1_ := (T_add (T_sub (rfl : ((n 43)).toInt = ((n 43)).toInt) (show (1 : Int32).toInt = 1 from rfl) (by omega)) (show (1 : Int32).toInt = 1 from rfl) (by omega)); omega)
            have e43b : 0 ≤ (n_10 43).toInt := (by (try rw [(show n_10 43 = (((n 43) - 1) + 1) from h43_10)]); have q1_ := (T_add (T_sub (rfl : ((n 43)).toInt = ((n 43)).toInt) (show (1 : Int32).toInt = 1 from rfl) (by omega)) (show (1 : Int32).toInt = 1 from rfl) (by omega)); omega)
            have e5 : n_10 5 = n 5 := hxx.1 5 (by decide)
            have e30 : n_10 30 = n 30 := hxx.1 30 (by decide)
            have e44 : F_10 44 = (upd (F 44) (((n 43) - 1).toInt.toNat) r_3) := (show F_10 44 = (upd (F 44) (Int32.toNatClampNeg ((n 43) - 1)) r_3) from h44_10).trans rfl
            have hT9 : stk F_10 (n_10 5).toInt (F_10 44) (n_10 43).toInt.toNat (S2 + szF F r_3.toInt) := by rw [e43, e5, e44]; exact stk_w (fun k hk => hxx.2.2.1 k ((by decide : ∀ k : Nat, k ∈ wK → k ∉ ([44] : List Nat)) k hk)) hp0
            exact ih (S2 + szF F r_3.toInt) _ _ _ _ _ hS_10 (fx_tr (fx_n hx (by decide)) hx10 (by decide)) (hR9) (by rw [e30]; exact hl) (⟨hT9, e43b⟩) (by omega) (by omega) (fun l => by rw [hxx.2.2.1 35 (by decide)]; exact hm l)
        ·
          try simp only [mIn_0, lgc_lt, lgc_gt, lgc_le, lgc_ge, lgc_eq] at c_66
          try simp only [fl_lt, fl_le, fl_eq, fL_w, fL_lt, fL_le, tm1, tm10k, tm9, tm99, Int32.reduceToInt, Int64.reduceToInt, Int.not_lt, Int.not_le] at c_66
          refine gz_goto (tgt := 11) dX12_acquires_69 (by decide) ?_
          refine gz_sub (lv' := [(0, .ref m), (1, .int x1), (2, .int x2), (3, .long y)]) (by simp [List.lookup]) ?_
          have hxl : fx [1, 38, 43] [] [35, 36, 39, 40, 41, 42, 44] [34, 37, 45] n z F G (va_up n 43 ((n 43) - 1)) z F G := (fx_n fx_rf (by decide))
          have hxx : fx [43] [] [44] [45] n z F G (va_up n 43 ((n 43) - 1)) z F G := (fx_n fx_rf (by decide))
          have hR9 := RI_fx hR hxx (by decide) (by decide)
          have e43 : ((va_up n 43 ((n 43) - 1)) 43).toInt.toNat = ((n 43) - 1).toInt.toNat + 0 := (by (try rw [(show (va_up n 43 ((n 43) - 1)) 43 = ((n 43) - 1) from rfl)]); have q1_ := (T_sub (rfl : ((n 43)).toInt = ((n 43)).toInt) (show (1 : Int32).toInt = 1 from rfl) (by omega)); omega)
          have e43b : 0 ≤ ((va_up n 43 ((n 43) - 1)) 43).toInt := (by (try rw [(show (va_up n 43 ((n 43) - 1)) 43 = ((n 43) - 1) from rfl)]); have q1_ := (T_sub (rfl : ((n 43)).toInt = ((n 43)).toInt) (show (1 : Int32).toInt = 1 from rfl) (by omega)); omega)
          have e5 : (va_up n 43 ((n 43) - 1)) 5 = n 5 := hxx.1 5 (by decide)
          have e30 : (va_up n 43 ((n 43) - 1)) 30 = n 30 := hxx.1 30 (by decide)
          have e44 : F 44 = (F 44) := (show F 44 = (F 44) from rfl).trans rfl
          have hT9 : stk F ((va_up n 43 ((n 43) - 1)) 5).toInt (F 44) ((va_up n 43 ((n 43) - 1)) 43).toInt.toNat S2 := by rw [e43, e5, e44]; exact stk_w (fun k hk => hxx.2.2.1 k ((by decide : ∀ k : Nat, k ∈ wK → k ∉ ([44] : List Nat)) k hk)) hT3
          exact ih S2 _ _ _ _ _ hS_1 (fx_n hx (by decide)) (hR9) (by rw [e30]; exact hl) (⟨hT9, e43b⟩) (by omega) (by omega) (fun l => by rw [hxx.2.2.1 35 (by decide)]; exact hm l)

set_option maxHeartbeats 4000000 in
set_option maxRecDepth 100000 in
theorem k_X12_acquires {l : Launch} {D : va_G} {cy : Nat → ClassId} {b : Nat} {f : gMem} {m : Nat} {a : Nat → Nat} {f0 : gMem} {n : Nat → Int32} {z : Nat → Int64} {F : Nat → Nat → Int32} {G : Nat → Nat → Int64}  {x1 x2 : Int32} {y : Int64} (hS : mS cy m a f0 n z F G f) (hR : RI n F) (hl : 0 ≤ x1.toInt ∧ x1.toInt < (n 30).toInt) (hv : vW F (n 5).toInt x2.toInt) : gC l D cy b yX12_acquires cX12_acquires 9 none 3 0 0 [.ref m, .int x1, .int x2, .long y] f (pV fun f2 => ∃ (n2 : Nat → Int32) (z2 : Nat → Int64) (F2 : Nat → Nat → Int32) (G2 : Nat → Nat → Int64), mS cy m a f0 n2 z2 F2 G2 f2 ∧ fx [1, 38, 43] [] [35, 36, 39, 40, 41, 42, 44] [34, 37, 45] n z F G n2 z2 F2 G2 ∧ RI n2 F2 ∧ ∀ l : Nat, (F 35 l).toInt ≤ (F2 35 l).toInt) := by
  obtain ⟨a0, a4, a5, bA, bW, a30, bL, a38, bP, a53, a47, a88⟩ := id hR
  refine gC_of (by decide) (Nat.le_of_ble_eq_true rfl) ?_
  show gG l _ _ _ D cy b cX12_acquires 9 _ RX12 "acquires" 0 0 f 0 [(0, .ref m), (1, .int x1), (2, .int x2), (3, .long y)] []
  refine gz_aload_n dX12_acquires_0 rfl rfl ?_
  refine gz_iconst (v := 0) dX12_acquires_1 (by decide) ?_
  refine mp_361 hS dX12_acquires_2 (fun f_1 hS_1 => ?_)
  refine gz_aload_n dX12_acquires_5 rfl rfl ?_
  refine gz_iload_n dX12_acquires_6 rfl rfl ?_
  refine gz_lload_n dX12_acquires_7 rfl rfl ?_
  refine scX12_370 (k_X12_comes (x1 := x2) hS_1 (show 0 ≤ (0 : Int32).toInt ∧ (0 : Int32).toInt < 64 by decide)) hS_1.1 ⟨(Nat.le_of_ble_eq_true rfl), (Nat.le_of_ble_eq_true rfl)⟩ ⟨(Nat.le_of_ble_eq_true rfl), (Nat.le_of_ble_eq_true rfl)⟩ rfl rfl (Nat.le_of_ble_eq_true rfl) dX12_acquires_8 ?_
  rintro f_2 ⟨n_2, z_2, F_2, G_2, hS_2, hx2, h43_2, h44_2⟩
  have hxx : fx [43] [] [44] [45] n z F G n_2 z_2 F_2 G_2 := (fx_tr (fx_n fx_rf (by decide)) hx2 (by decide))
  have e43 : (n_2 43).toInt = 1 := by rw [h43_2]; rfl
  have hT9 : stk F_2 (n_2 5).toInt (F_2 44) (n_2 43).toInt.toNat (0 + szF F x2.toInt) := by rw [e43, h44_2, hxx.1 5 (by decide)]; exact stk_w (fun k hk => hxx.2.2.1 k ((by decide : ∀ k : Nat, k ∈ wK → k ∉ ([44] : List Nat)) k hk)) (stk_push stk_0 hv)
  have qz := szF_pos bW hv
  refine gz_sub (lv' := [(0, .ref m), (1, .int x1), (2, .int x2), (3, .long y)]) (by simp [List.lookup]) ?_
  exact l_X12_acquires 41 _ _ _ _ _ _ hS_2 (fx_tr fx_rf hxx (by decide)) (RI_fx hR hxx (by decide) (by decide)) (by rw [hxx.1 30 (by decide)]; exact hl) ⟨hT9, by omega⟩ (by omega) (by omega) (fun l => by rw [hxx.2.2.1 35 (by decide)]; exact Int.le_refl _)
