set_option maxHeartbeats 4000000 in
set_option maxRecDepth 100000 in
theorem k_X12_four {l : Launch} {D : va_G} {cy : Nat → ClassId} {b : Nat} {f : gMem} {m : Nat} {a : Nat → Nat} {f0 : gMem} {n : Nat → Int32} {z : Nat → Int64} {F : Nat → Nat → Int32} {G : Nat → Nat → Int64}  {x : Int32} (hS : mS cy m a f0 n z F G f) (ht : 0 ≤ (n 4).toInt ∧ (n 4).toInt + 4 ≤ 400) : gC l D cy b yX12_four cX12_four 3 none 0 0 0 [.ref m, .int x] f (pV fun f2 => ∃ (n2 : Nat → Int32) (z2 : Nat → Int64) (F2 : Nat → Nat → Int32) (G2 : Nat → Nat → Int64), mS cy m a f0 n2 z2 F2 G2 f2 ∧ fx [4] [] [3] [] n z F G n2 z2 F2 G2 ∧ (n2 4).toInt = (n 4).toInt + 4) := by
  refine gC_of (by decide) (Nat.le_of_ble_eq_true rfl) ?_
  show gG l _ _ _ D cy b cX12_four 3 _ RX12 "four" 0 0 f 0 [(0, .ref m), (1, .int x)] []
  refine gz_bipush (v := 24) dX12_four_0 (by decide) ?_
  refine gz_istore_n (lv' := [(2, .int 24), (0, .ref m), (1, .int x)]) dX12_four_2 rfl (by decide) rfl ?_
  refine gz_iload_n dX12_four_3 rfl rfl ?_
  refine gz_if_lt (tgt := 36) dX12_four_4 (by decide) (fun c_4 => ?_) (fun c_4 => ?_)
  · exact absurd c_4 (by decide)
  ·
    try simp only [mIn_0, lgc_lt, lgc_gt, lgc_le, lgc_ge, lgc_eq] at c_4
    try simp only [fl_lt, fl_le, fl_eq, fL_w, fL_lt, fL_le, tm1, tm10k, tm9, tm99, Int32.reduceToInt, Int64.reduceToInt, Int.not_lt, Int.not_le] at c_4
    refine gz_aload_n dX12_four_7 rfl rfl ?_
    refine mg_13 hS dX12_four_8 ?_
    refine gz_aload_n dX12_four_11 rfl rfl ?_
    refine mg_262 hS dX12_four_12 ?_
    refine gz_iload_n dX12_four_15 rfl rfl ?_
    refine gz_iload_n dX12_four_16 rfl rfl ?_
    refine gz_ishr dX12_four_17 ?_
    refine gz_i2b dX12_four_18 ?_
    refine m_bast 3 hS rfl (N := 400) rfl ((by exact vin_T (rfl : ((n 4)).toInt = ((n 4)).toInt) (by omega) (by omega))) dX12_four_19 (fun f_1 hS_1q => ?_)
    have hS_1 : mS cy m a f0 n z (va_up F 3 (upd (F 3) (Int32.toNatClampNeg (n 4)) (vp_nar .byte ((x >>> (24 &&& 31)).toInt8.toInt32)))) G f_1 := hS_1q
    refine gz_aload_n dX12_four_20 rfl rfl ?_
    refine gz_dup dX12_four_21 rfl ?_
    refine mg_262 hS_1 dX12_four_22 ?_
    refine gz_ev (w := .int (n 4)) rfl ?_
    refine gz_iconst (v := 1) dX12_four_25 (by decide) ?_
    refine gz_iadd dX12_four_26 ?_
    refine mp_262 hS_1 dX12_four_27 (fun f_2 hS_2 => ?_)
    refine gz_iinc (v := 16) (lv' := [(2, .int 16), (0, .ref m), (1, .int x)]) dX12_four_30 rfl (by decide) (by decide) rfl ?_
    refine gz_goto (tgt := 3) dX12_four_33 (by decide) ?_
    refine gz_iload_n dX12_four_3 rfl rfl ?_
    refine gz_if_lt (tgt := 36) dX12_four_4 (by decide) (fun c_4_1 => ?_) (fun c_4_1 => ?_)
    · exact absurd c_4_1 (by decide)
    ·
      try simp only [mIn_0, lgc_lt, lgc_gt, lgc_le, lgc_ge, lgc_eq] at c_4_1
      try simp only [fl_lt, fl_le, fl_eq, fL_w, fL_lt, fL_le, tm1, tm10k, tm9, tm99, Int32.reduceToInt, Int64.reduceToInt, Int.not_lt, Int.not_le] at c_4_1
      refine gz_aload_n dX12_four_7 rfl rfl ?_
      refine mg_13 hS_2 dX12_four_8 ?_
      refine gz_aload_n dX12_four_11 rfl rfl ?_
      refine mg_262 hS_2 dX12_four_12 ?_
      refine gz_ev (w := .int ((n 4) + 1)) rfl ?_
      refine gz_iload_n dX12_four_15 rfl rfl ?_
      refine gz_iload_n dX12_four_16 rfl rfl ?_
      refine gz_ishr dX12_four_17 ?_
      refine gz_i2b dX12_four_18 ?_
      refine m_bast 3 hS_2 rfl (N := 400) rfl ((by have q9 := (T_add (rfl : ((n 4)).toInt = ((n 4)).toInt) (show (1 : Int32).toInt = 1 from rfl) (by omega)); exact vin_T q9 (by omega) (by omega))) dX12_four_19 (fun f_3 hS_3q => ?_)
      have hS_3 : mS cy m a f0 (va_up n 4 ((n 4) + 1)) z (va_up (va_up F 3 (upd (F 3) (Int32.toNatClampNeg (n 4)) (vp_nar .byte ((x >>> (24 &&& 31)).toInt8.toInt32)))) 3 (upd (upd (F 3) (Int32.toNatClampNeg (n 4)) (vp_nar .byte ((x >>> (24 &&& 31)).toInt8.toInt32))) (Int32.toNatClampNeg ((n 4) + 1)) (vp_nar .byte ((x >>> (16 &&& 31)).toInt8.toInt32)))) G f_3 := hS_3q
      refine gz_aload_n dX12_four_20 rfl rfl ?_
      refine gz_dup dX12_four_21 rfl ?_
      refine mg_262 hS_3 dX12_four_22 ?_
      refine gz_ev (w := .int ((n 4) + 1)) rfl ?_
      refine gz_iconst (v := 1) dX12_four_25 (by decide) ?_
      refine gz_iadd dX12_four_26 ?_
      refine mp_262 hS_3 dX12_four_27 (fun f_4 hS_4 => ?_)
      refine gz_iinc (v := 8) (lv' := [(2, .int 8), (0, .ref m), (1, .int x)]) dX12_four_30 rfl (by decide) (by decide) rfl ?_
      refine gz_goto (tgt := 3) dX12_four_33 (by decide) ?_
      refine gz_iload_n dX12_four_3 rfl rfl ?_
      refine gz_if_lt (tgt := 36) dX12_four_4 (by decide) (fun c_4_2 => ?_) (fun c_4_2 => ?_)
      · exact absurd c_4_2 (by decide)
      ·
        try simp only [mIn_0, lgc_lt, lgc_gt, lgc_le, lgc_ge, lgc_eq] at c_4_2
        try simp only [fl_lt, fl_le, fl_eq, fL_w, fL_lt, fL_le, tm1, tm10k, tm9, tm99, Int32.reduceToInt, Int64.reduceToInt, Int.not_lt, Int.not_le] at c_4_2
        refine gz_aload_n dX12_four_7 rfl rfl ?_
        refine mg_13 hS_4 dX12_four_8 ?_
        refine gz_aload_n dX12_four_11 rfl rfl ?_
        refine mg_262 hS_4 dX12_four_12 ?_
        refine gz_ev (w := .int (((n 4) + 1) + 1)) rfl ?_
        refine gz_iload_n dX12_four_15 rfl rfl ?_
        refine gz_iload_n dX12_four_16 rfl rfl ?_
        refine gz_ishr dX12_four_17 ?_
        refine gz_i2b dX12_four_18 ?_
        refine m_bast 3 hS_4 rfl (N := 400) rfl ((by have q9 := (T_add (T_add (rfl : ((n 4)).toInt = ((n 4)).toInt) (show (1 : Int32).toInt = 1 from rfl) (by omega)) (show (1 : Int32).toInt = 1 from rfl) (by omega)); exact vin_T q9 (by omega) (by omega))) dX12_four_19 (fun f_5 hS_5q => ?_)
        have hS_5 : mS cy m a f0 (va_up (va_up n 4 ((n 4) + 1)) 4 (((n 4) + 1) + 1)) z (va_up (va_up (va_up F 3 (upd (F 3) (Int32.toNatClampNeg (n 4)) (vp_nar .byte ((x >>> (24 &&& 31)).toInt8.toInt32)))) 3 (upd (upd (F 3) (Int32.toNatClampNeg (n 4)) (vp_nar .byte ((x >>> (24 &&& 31)).toInt8.toInt32))) (Int32.toNatClampNeg ((n 4) + 1)) (vp_nar .byte ((x >>> (16 &&& 31)).toInt8.toInt32)))) 3 (upd (upd (upd (F 3) (Int32.toNatClampNeg (n 4)) (vp_nar .byte ((x >>> (24 &&& 31)).toInt8.toInt32))) (Int32.toNatClampNeg ((n 4) + 1)) (vp_nar .byte ((x >>> (16 &&& 31)).toInt8.toInt32))) (Int32.toNatClampNeg (((n 4) + 1) + 1)) (vp_nar .byte ((x >>> (8 &&& 31)).toInt8.toInt32)))) G f_5 := hS_5q
        refine gz_aload_n dX12_four_20 rfl rfl ?_
        refine gz_dup dX12_four_21 rfl ?_
        refine mg_262 hS_5 dX12_four_22 ?_
        refine gz_ev (w := .int (((n 4) + 1) + 1)) rfl ?_
        refine gz_iconst (v := 1) dX12_four_25 (by decide) ?_
        refine gz_iadd dX12_four_26 ?_
        refine mp_262 hS_5 dX12_four_27 (fun f_6 hS_6 => ?_)
        refine gz_iinc (v := 0) (lv' := [(2, .int 0), (0, .ref m), (1, .int x)]) dX12_four_30 rfl (by decide) (by decide) rfl ?_
        refine gz_goto (tgt := 3) dX12_four_33 (by decide) ?_
        refine gz_iload_n dX12_four_3 rfl rfl ?_
        refine gz_if_lt (tgt := 36) dX12_four_4 (by decide) (fun c_4_3 => ?_) (fun c_4_3 => ?_)
        · exact absurd c_4_3 (by decide)
        ·
          try simp only [mIn_0, lgc_lt, lgc_gt, lgc_le, lgc_ge, lgc_eq] at c_4_3
          try simp only [fl_lt, fl_le, fl_eq, fL_w, fL_lt, fL_le, tm1, tm10k, tm9, tm99, Int32.reduceToInt, Int64.reduceToInt, Int.not_lt, Int.not_le] at c_4_3
          refine gz_aload_n dX12_four_7 rfl rfl ?_
          refine mg_13 hS_6 dX12_four_8 ?_
          refine gz_aload_n dX12_four_11 rfl rfl ?_
          refine mg_262 hS_6 dX12_four_12 ?_
          refine gz_ev (w := .int ((((n 4) + 1) + 1) + 1)) rfl ?_
          refine gz_iload_n dX12_four_15 rfl rfl ?_
          refine gz_iload_n dX12_four_16 rfl rfl ?_
          refine gz_ishr dX12_four_17 ?_
          refine gz_i2b dX12_four_18 ?_
          refine m_bast 3 hS_6 rfl (N := 400) rfl ((by have q9 := (T_add (T_add (T_add (rfl : ((n 4)).toInt = ((n 4)).toInt) (show (1 : Int32).toInt = 1 from rfl) (by omega)) (show (1 : Int32).toInt = 1 from rfl) (by omega)) (show (1 : Int32).toInt = 1 from rfl) (by omega)); exact vin_T q9 (by omega) (by omega))) dX12_four_19 (fun f_7 hS_7q => ?_)
          have hS_7 : mS cy m a f0 (va_up (va_up (va_up n 4 ((n 4) + 1)) 4 (((n 4) + 1) + 1)) 4 ((((n 4) + 1) + 1) + 1)) z (va_up (va_up (va_up (va_up F 3 (upd (F 3) (Int32.toNatClampNeg (n 4)) (vp_nar .byte ((x >>> (24 &&& 31)).toInt8.toInt32)))) 3 (upd (upd (F 3) (Int32.toNatClampNeg (n 4)) (vp_nar .byte ((x >>> (24 &&& 31)).toInt8.toInt32))) (Int32.toNatClampNeg ((n 4) + 1)) (vp_nar .byte ((x >>> (16 &&& 31)).toInt8.toInt32)))) 3 (upd (upd (upd (F 3) (Int32.toNatClampNeg (n 4)) (vp_nar .byte ((x >>> (24 &&& 31)).toInt8.toInt32))) (Int32.toNatClampNeg ((n 4) + 1)) (vp_nar .byte ((x >>> (16 &&& 31)).toInt8.toInt32))) (Int32.toNatClampNeg (((n 4) + 1) + 1)) (vp_nar .byte ((x >>> (8 &&& 31)).toInt8.toInt32)))) 3 (upd (upd (upd (upd (F 3) (Int32.toNatClampNeg (n 4)) (vp_nar .byte ((x >>> (24 &&& 31)).toInt8.toInt32))) (Int32.toNatClampNeg ((n 4) + 1)) (vp_nar .byte ((x >>> (16 &&& 31)).toInt8.toInt32))) (Int32.toNatClampNeg (((n 4) + 1) + 1)) (vp_nar .byte ((x >>> (8 &&& 31)).toInt8.toInt32))) (Int32.toNatClampNeg ((((n 4) + 1) + 1) + 1)) (vp_nar .byte ((x >>> (0 &&& 31)).toInt8.toInt32)))) G f_7 := hS_7q
          refine gz_aload_n dX12_four_20 rfl rfl ?_
          refine gz_dup dX12_four_21 rfl ?_
          refine mg_262 hS_7 dX12_four_22 ?_
          refine gz_ev (w := .int ((((n 4) + 1) + 1) + 1)) rfl ?_
          refine gz_iconst (v := 1) dX12_four_25 (by decide) ?_
          refine gz_iadd dX12_four_26 ?_
          refine mp_262 hS_7 dX12_four_27 (fun f_8 hS_8 => ?_)
          refine gz_iinc (v := (-8)) (lv' := [(2, .int (-8)), (0, .ref m), (1, .int x)]) dX12_four_30 rfl (by decide) (by decide) rfl ?_
          refine gz_goto (tgt := 3) dX12_four_33 (by decide) ?_
          refine gz_iload_n dX12_four_3 rfl rfl ?_
          refine gz_if_lt (tgt := 36) dX12_four_4 (by decide) (fun c_4_4 => ?_) (fun c_4_4 => ?_)
          ·
            try simp only [mIn_0, lgc_lt, lgc_gt, lgc_le, lgc_ge, lgc_eq] at c_4_4
            try simp only [fl_lt, fl_le, fl_eq, fL_w, fL_lt, fL_le, tm1, tm10k, tm9, tm99, Int32.reduceToInt, Int64.reduceToInt, Int.not_lt, Int.not_le] at c_4_4
            exact gz_vret rfl dX12_four_36 (Nat.le_of_ble_eq_true rfl) (Nat.le_of_ble_eq_true rfl) (⟨rfl, _, _, _, _, hS_8, (fx_n (fx_F (fx_n (fx_F (fx_n (fx_F (fx_n (fx_F fx_rf (by decide)) (by decide)) (by decide)) (by decide)) (by decide)) (by decide)) (by decide)) (by decide)), (by (try rw [(show (va_up (va_up (va_up (va_up n 4 ((n 4) + 1)) 4 (((n 4) + 1) + 1)) 4 ((((n 4) + 1) + 1) + 1)) 4 (((((n 4) + 1) + 1) + 1) + 1)) 4 = (((((n 4) + 1) + 1) + 1) + 1) from rfl)]); have q1_ := (T_add (T_add (T_add (T_add (rfl : ((n 4)).toInt = ((n 4)).toInt) (show (1 : Int32).toInt = 1 from rfl) (by omega)) (show (1 : Int32).toInt = 1 from rfl) (by omega)) (show (1 : Int32).toInt = 1 from rfl) (by omega)) (show (1 : Int32).toInt = 1 from rfl) (by omega)); omega)⟩)
          · exact absurd c_4_4 (by decide)

set_option maxHeartbeats 4000000 in
set_option maxRecDepth 100000 in
theorem k_X12_feed {l : Launch} {D : va_G} {cy : Nat → ClassId} {b : Nat} {f : gMem} {m : Nat} {a : Nat → Nat} {f0 : gMem} {n : Nat → Int32} {z : Nat → Int64} {F : Nat → Nat → Int32} {G : Nat → Nat → Int64}  {x1 x2 x3 x4 x5 : Int32} (hS : mS cy m a f0 n z F G f) (ht : 0 ≤ (n 4).toInt ∧ (n 4).toInt ≤ 400) : gC l D cy b yX12_feed cX12_feed 6 (some .int) 1 0 0 [.ref m, .int x1, .int x2, .int x3, .int x4, .int x5] f (pI fun r f2 => ∃ (n2 : Nat → Int32) (z2 : Nat → Int64) (F2 : Nat → Nat → Int32) (G2 : Nat → Nat → Int64), mS cy m a f0 n2 z2 F2 G2 f2 ∧ fx [4] [] [3] [] n z F G n2 z2 F2 G2 ∧ 0 ≤ (n2 4).toInt ∧ (n2 4).toInt ≤ 400) := by
  refine gC_of (by decide) (Nat.le_of_ble_eq_true rfl) ?_
  show gG l _ _ _ D cy b cX12_feed 6 _ RX12 "feed" 0 0 f 0 [(0, .ref m), (1, .int x1), (2, .int x2), (3, .int x3), (4, .int x4), (5, .int x5)] []
  refine gz_aload_n dX12_feed_0 rfl rfl ?_
  refine mg_262 hS dX12_feed_1 ?_
  refine gz_bipush (v := 20) dX12_feed_4 (by decide) ?_
  refine gz_iadd dX12_feed_6 ?_
  refine gz_sipush (v := 400) dX12_feed_7 (by decide) ?_
  refine gz_icmp_le (tgt := 15) dX12_feed_10 (by decide) (fun c_10 => ?_) (fun c_10 => ?_)
  ·
    try simp only [mIn_0, lgc_lt, lgc_gt, lgc_le, lgc_ge, lgc_eq] at c_10
    try simp only [fl_lt, fl_le, fl_eq, fL_w, fL_lt, fL_le, tm1, tm10k, tm9, tm99, Int32.reduceToInt, Int64.reduceToInt, Int.not_lt, Int.not_le] at c_10
    try have u_10t1 := (T_add (rfl : ((n 4)).toInt = ((n 4)).toInt) (show (20 : Int32).toInt = 20 from rfl) (by omega))
    refine gz_aload_n dX12_feed_15 rfl rfl ?_
    refine gz_iload_n dX12_feed_16 rfl rfl ?_
    refine scX12_265 (k_X12_four (x := x1) hS (by omega)) hS.1 ⟨(Nat.le_of_ble_eq_true rfl), (Nat.le_of_ble_eq_true rfl)⟩ ⟨(Nat.le_of_ble_eq_true rfl), (Nat.le_of_ble_eq_true rfl)⟩ rfl rfl (Nat.le_of_ble_eq_true rfl) dX12_feed_17 ?_
    rintro f_1 ⟨n_1, z_1, F_1, G_1, hS_1, hx1, h4_1⟩
    refine gz_aload_n dX12_feed_20 rfl rfl ?_
    refine gz_iload_n dX12_feed_21 rfl rfl ?_
    refine scX12_265 (k_X12_four (x := x2) hS_1 (by (try rw [(show n_1 4 = (n_1 4) from rfl)]); omega)) hS_1.1 ⟨(Nat.le_of_ble_eq_true rfl), (Nat.le_of_ble_eq_true rfl)⟩ ⟨(Nat.le_of_ble_eq_true rfl), (Nat.le_of_ble_eq_true rfl)⟩ rfl rfl (Nat.le_of_ble_eq_true rfl) dX12_feed_22 ?_
    rintro f_2 ⟨n_2, z_2, F_2, G_2, hS_2, hx2, h4_2⟩
    refine gz_aload_n dX12_feed_25 rfl rfl ?_
    refine gz_iload_n dX12_feed_26 rfl rfl ?_
    refine scX12_265 (k_X12_four (x := x3) hS_2 (by (try rw [(show n_2 4 = (n_2 4) from rfl)]); omega)) hS_2.1 ⟨(Nat.le_of_ble_eq_true rfl), (Nat.le_of_ble_eq_true rfl)⟩ ⟨(Nat.le_of_ble_eq_true rfl), (Nat.le_of_ble_eq_true rfl)⟩ rfl rfl (Nat.le_of_ble_eq_true rfl) dX12_feed_27 ?_
    rintro f_3 ⟨n_3, z_3, F_3, G_3, hS_3, hx3, h4_3⟩
    refine gz_aload_n dX12_feed_30 rfl rfl ?_
    refine gz_iload dX12_feed_31 rfl ?_
    refine scX12_265 (k_X12_four (x := x4) hS_3 (by (try rw [(show n_3 4 = (n_3 4) from rfl)]); omega)) hS_3.1 ⟨(Nat.le_of_ble_eq_true rfl), (Nat.le_of_ble_eq_true rfl)⟩ ⟨(Nat.le_of_ble_eq_true rfl), (Nat.le_of_ble_eq_true rfl)⟩ rfl rfl (Nat.le_of_ble_eq_true rfl) dX12_feed_33 ?_
    rintro f_4 ⟨n_4, z_4, F_4, G_4, hS_4, hx4, h4_4⟩
    refine gz_aload_n dX12_feed_36 rfl rfl ?_
    refine gz_iload dX12_feed_37 rfl ?_
    refine scX12_265 (k_X12_four (x := x5) hS_4 (by (try rw [(show n_4 4 = (n_4 4) from rfl)]); omega)) hS_4.1 ⟨(Nat.le_of_ble_eq_true rfl), (Nat.le_of_ble_eq_true rfl)⟩ ⟨(Nat.le_of_ble_eq_true rfl), (Nat.le_of_ble_eq_true rfl)⟩ rfl rfl (Nat.le_of_ble_eq_true rfl) dX12_feed_39 ?_
    rintro f_5 ⟨n_5, z_5, F_5, G_5, hS_5, hx5, h4_5⟩
    refine gz_aload_n dX12_feed_42 rfl rfl ?_
    refine mg_262 hS_5 dX12_feed_43 ?_
    refine gz_ev (w := .int (n_5 4)) rfl ?_
    exact gz_iret rfl dX12_feed_46 (Nat.le_of_ble_eq_true rfl) (Nat.le_of_ble_eq_true rfl) (⟨_, rfl, _, _, _, _, hS_5, (fx_tr (fx_tr (fx_tr (fx_tr (fx_tr fx_rf hx1 (by decide)) hx2 (by decide)) hx3 (by decide)) hx4 (by decide)) hx5 (by decide)), (by (try rw [(show n_5 4 = (n_5 4) from rfl)]); omega)⟩)
  ·
    try simp only [mIn_0, lgc_lt, lgc_gt, lgc_le, lgc_ge, lgc_eq] at c_10
    try simp only [fl_lt, fl_le, fl_eq, fL_w, fL_lt, fL_le, tm1, tm10k, tm9, tm99, Int32.reduceToInt, Int64.reduceToInt, Int.not_lt, Int.not_le] at c_10
    try have u_10t1 := (T_add (rfl : ((n 4)).toInt = ((n 4)).toInt) (show (20 : Int32).toInt = 20 from rfl) (by omega))
    refine gz_iconst (v := (-1)) dX12_feed_13 (by decide) ?_
    exact gz_iret rfl dX12_feed_14 (Nat.le_of_ble_eq_true rfl) (Nat.le_of_ble_eq_true rfl) (⟨_, rfl, _, _, _, _, hS, fx_rf, (by omega)⟩)

set_option maxHeartbeats 4000000 in
set_option maxRecDepth 100000 in
theorem k_X12_end {l : Launch} {D : va_G} {cy : Nat → ClassId} {b : Nat} {f : gMem} {m : Nat} {a : Nat → Nat} {f0 : gMem} {n : Nat → Int32} {z : Nat → Int64} {F : Nat → Nat → Int32} {G : Nat → Nat → Int64}  {x : Int32} (hS : mS cy m a f0 n z F G f) (ht : 0 ≤ (n 4).toInt ∧ (n 4).toInt ≤ 400) : gC l D cy b yX12_end cX12_end 2 (some .int) 0 0 0 [.ref m, .int x] f (pI fun r f2 => ∃ (n2 : Nat → Int32) (z2 : Nat → Int64) (F2 : Nat → Nat → Int32) (G2 : Nat → Nat → Int64), mS cy m a f0 n2 z2 F2 G2 f2 ∧ fx [4] [] [] [] n z F G n2 z2 F2 G2 ∧ 0 ≤ (n2 4).toInt ∧ (n2 4).toInt ≤ 400) := by
  refine gC_of (by decide) (Nat.le_of_ble_eq_true rfl) ?_
  show gG l _ _ _ D cy b cX12_end 2 _ RX12 "end" 0 0 f 0 [(0, .ref m), (1, .int x)] []
  refine gz_iload_n dX12_end_0 rfl rfl ?_
  refine gz_if_lt (tgt := 12) dX12_end_1 (by decide) (fun c_1 => ?_) (fun c_1 => ?_)
  ·
    try simp only [mIn_0, lgc_lt, lgc_gt, lgc_le, lgc_ge, lgc_eq] at c_1
    try simp only [fl_lt, fl_le, fl_eq, fL_w, fL_lt, fL_le, tm1, tm10k, tm9, tm99, Int32.reduceToInt, Int64.reduceToInt, Int.not_lt, Int.not_le] at c_1
    refine gz_iconst (v := (-1)) dX12_end_12 (by decide) ?_
    exact gz_iret rfl dX12_end_13 (Nat.le_of_ble_eq_true rfl) (Nat.le_of_ble_eq_true rfl) (⟨_, rfl, _, _, _, _, hS, fx_rf, (by omega)⟩)
  ·
    try simp only [mIn_0, lgc_lt, lgc_gt, lgc_le, lgc_ge, lgc_eq] at c_1
    try simp only [fl_lt, fl_le, fl_eq, fL_w, fL_lt, fL_le, tm1, tm10k, tm9, tm99, Int32.reduceToInt, Int64.reduceToInt, Int.not_lt, Int.not_le] at c_1
    refine gz_iload_n dX12_end_4 rfl rfl ?_
    refine gz_aload_n dX12_end_5 rfl rfl ?_
    refine mg_262 hS dX12_end_6 ?_
    refine gz_icmp_le (tgt := 14) dX12_end_9 (by decide) (fun c_9 => ?_) (fun c_9 => ?_)
    ·
      try simp only [mIn_0, lgc_lt, lgc_gt, lgc_le, lgc_ge, lgc_eq] at c_9
      try simp only [fl_lt, fl_le, fl_eq, fL_w, fL_lt, fL_le, tm1, tm10k, tm9, tm99, Int32.reduceToInt, Int64.reduceToInt, Int.not_lt, Int.not_le] at c_9
      refine gz_aload_n dX12_end_14 rfl rfl ?_
      refine gz_iload_n dX12_end_15 rfl rfl ?_
      refine mp_262 hS dX12_end_16 (fun f_1 hS_1 => ?_)
      refine gz_iload_n dX12_end_19 rfl rfl ?_
      exact gz_iret rfl dX12_end_20 (Nat.le_of_ble_eq_true rfl) (Nat.le_of_ble_eq_true rfl) (⟨_, rfl, _, _, _, _, hS_1, (fx_n fx_rf (by decide)), (by (try rw [(show (va_up n 4 x) 4 = x from rfl)]); omega)⟩)
    ·
      try simp only [mIn_0, lgc_lt, lgc_gt, lgc_le, lgc_ge, lgc_eq] at c_9
      try simp only [fl_lt, fl_le, fl_eq, fL_w, fL_lt, fL_le, tm1, tm10k, tm9, tm99, Int32.reduceToInt, Int64.reduceToInt, Int.not_lt, Int.not_le] at c_9
      refine gz_iconst (v := (-1)) dX12_end_12 (by decide) ?_
      exact gz_iret rfl dX12_end_13 (Nat.le_of_ble_eq_true rfl) (Nat.le_of_ble_eq_true rfl) (⟨_, rfl, _, _, _, _, hS, fx_rf, (by omega)⟩)

set_option maxHeartbeats 4000000 in
set_option maxRecDepth 100000 in
theorem k_X12_fails {l : Launch} {D : va_G} {cy : Nat → ClassId} {b : Nat} {f : gMem} {m : Nat} {a : Nat → Nat} {f0 : gMem} {n : Nat → Int32} {z : Nat → Int64} {F : Nat → Nat → Int32} {G : Nat → Nat → Int64}  {x y : Int32} (hS : mS cy m a f0 n z F G f)  : gC l D cy b yX12_fails cX12_fails 3 (some .boolean) 0 0 0 [.ref m, .int x, .int y] f (pI fun r f2 => ∃ (n2 : Nat → Int32) (z2 : Nat → Int64) (F2 : Nat → Nat → Int32) (G2 : Nat → Nat → Int64), mS cy m a f0 n2 z2 F2 G2 f2 ∧ fx [22] [] [] [] n z F G n2 z2 F2 G2 ∧ r = 0) := by
  refine gC_of (by decide) (Nat.le_of_ble_eq_true rfl) ?_
  show gG l _ _ _ D cy b cX12_fails 3 _ RX12 "fails" 0 0 f 0 [(0, .ref m), (1, .int x), (2, .int y)] []
  refine gz_aload_n dX12_fails_0 rfl rfl ?_
  refine mg_269 hS dX12_fails_1 ?_
  refine gz_if_ne (tgt := 19) dX12_fails_4 (by decide) (fun c_4 => ?_) (fun c_4 => ?_)
  ·
    try simp only [mIn_0, lgc_lt, lgc_gt, lgc_le, lgc_ge, lgc_eq] at c_4
    try simp only [fl_lt, fl_le, fl_eq, fL_w, fL_lt, fL_le, tm1, tm10k, tm9, tm99, Int32.reduceToInt, Int64.reduceToInt, Int.not_lt, Int.not_le] at c_4
    refine gz_iconst (v := 0) dX12_fails_19 (by decide) ?_
    exact gz_zret rfl (by first | decide | exact nrb (by assumption) | exact nrb (Or.inl rfl) | exact nrb (Or.inr rfl)) dX12_fails_20 (Nat.le_of_ble_eq_true rfl) (Nat.le_of_ble_eq_true rfl) (⟨_, rfl, _, _, _, _, hS, fx_rf, rfl⟩)
  ·
    try simp only [mIn_0, lgc_lt, lgc_gt, lgc_le, lgc_ge, lgc_eq] at c_4
    try simp only [fl_lt, fl_le, fl_eq, fL_w, fL_lt, fL_le, tm1, tm10k, tm9, tm99, Int32.reduceToInt, Int64.reduceToInt, Int.not_lt, Int.not_le] at c_4
    refine gz_aload_n dX12_fails_7 rfl rfl ?_
    refine gz_iconst (v := 1) dX12_fails_8 (by decide) ?_
    refine gz_bipush (v := 8) dX12_fails_9 (by decide) ?_
    refine gz_iload_n dX12_fails_11 rfl rfl ?_
    refine gz_imul dX12_fails_12 ?_
    refine gz_iadd dX12_fails_13 ?_
    refine gz_iload_n dX12_fails_14 rfl rfl ?_
    refine gz_iadd dX12_fails_15 ?_
    refine mp_269 hS dX12_fails_16 (fun f_1 hS_1 => ?_)
    refine gz_iconst (v := 0) dX12_fails_19 (by decide) ?_
    exact gz_zret rfl (by first | decide | exact nrb (by assumption) | exact nrb (Or.inl rfl) | exact nrb (Or.inr rfl)) dX12_fails_20 (Nat.le_of_ble_eq_true rfl) (Nat.le_of_ble_eq_true rfl) (⟨_, rfl, _, _, _, _, hS_1, (fx_n fx_rf (by decide)), rfl⟩)

set_option maxHeartbeats 4000000 in
set_option maxRecDepth 100000 in
theorem l_X12_see_ {l : Launch} {D : va_G} {cy : Nat → ClassId} {b : Nat} {m : Nat} {a : Nat → Nat} {f0 : gMem} {n0 : Nat → Int32} {z0 : Nat → Int64} {F0 : Nat → Nat → Int32} {G0 : Nat → Nat → Int64}    : ∀ (k : Nat)  (n : Nat → Int32) (z : Nat → Int64) (F : Nat → Nat → Int32) (G : Nat → Nat → Int64) (fm : gMem), mS cy m a f0 n z F G fm → fx [21] [] [] [] n0 z0 F0 G0 n z F G → ((0 ≤ (n 21).toInt ∧ (n 21).toInt ≤ (n 4).toInt ∧ (n 4).toInt ≤ 400)) → ((n0 21).toInt ≤ (n 21).toInt) → ((n 4).toInt - (n 21).toInt < (k : Int)) → gG l (gRm 0 0 0) (gQf D b (pI fun r f2 => ∃ (n2 : Nat → Int32) (z2 : Nat → Int64) (F2 : Nat → Nat → Int32) (G2 : Nat → Nat → Int64), mS cy m a f0 n2 z2 F2 G2 f2 ∧ fx [21] [] [] [] n0 z0 F0 G0 n2 z2 F2 G2 ∧ (0 ≤ (n2 21).toInt ∧ (n2 21).toInt ≤ (n2 4).toInt ∧ (n2 4).toInt ≤ 400) ∧ (n0 21).toInt ≤ (n2 21).toInt ∧ (r.toInt = -1 ∨ (n2 21).toInt < (n2 4).toInt)) 0 0) gTt D cy b cX12_see_ 1 (some .int) RX12 "see" 0 0 fm 0 [(0, .ref m)] [] := by
  intro k
  induction k with
  | zero =>
    intro n z F G fm hS hx hT hm hk
    exfalso; omega
  | succ k ih =>
    intro n z F G fm hS hx hT hm hk
    refine gz_aload_n dX12_see__0 rfl rfl ?_
    refine mg_272 hS dX12_see__1 ?_
    refine gz_aload_n dX12_see__4 rfl rfl ?_
    refine mg_262 hS dX12_see__5 ?_
    refine gz_icmp_ge (tgt := 38) dX12_see__8 (by decide) (fun c_8 => ?_) (fun c_8 => ?_)
    ·
      try simp only [mIn_0, lgc_lt, lgc_gt, lgc_le, lgc_ge, lgc_eq] at c_8
      try simp only [fl_lt, fl_le, fl_eq, fL_w, fL_lt, fL_le, tm1, tm10k, tm9, tm99, Int32.reduceToInt, Int64.reduceToInt, Int.not_lt, Int.not_le] at c_8
      refine gz_aload_n dX12_see__38 rfl rfl ?_
      refine mg_272 hS dX12_see__39 ?_
      refine gz_aload_n dX12_see__42 rfl rfl ?_
      refine mg_262 hS dX12_see__43 ?_
      refine gz_icmp_ge (tgt := 65) dX12_see__46 (by decide) (fun c_46 => ?_) (fun c_46 => ?_)
      ·
        try simp only [mIn_0, lgc_lt, lgc_gt, lgc_le, lgc_ge, lgc_eq] at c_46
        try simp only [fl_lt, fl_le, fl_eq, fL_w, fL_lt, fL_le, tm1, tm10k, tm9, tm99, Int32.reduceToInt, Int64.reduceToInt, Int.not_lt, Int.not_le] at c_46
        refine gz_iconst (v := (-1)) dX12_see__65 (by decide) ?_
        exact gz_iret rfl dX12_see__66 (Nat.le_of_ble_eq_true rfl) (Nat.le_of_ble_eq_true rfl) (⟨_, rfl, _, _, _, _, hS, hx, hT, hm, (by first | (left; rfl) | (right; omega))⟩)
      ·
        try simp only [mIn_0, lgc_lt, lgc_gt, lgc_le, lgc_ge, lgc_eq] at c_46
        try simp only [fl_lt, fl_le, fl_eq, fL_w, fL_lt, fL_le, tm1, tm10k, tm9, tm99, Int32.reduceToInt, Int64.reduceToInt, Int.not_lt, Int.not_le] at c_46
        refine gz_aload_n dX12_see__49 rfl rfl ?_
        refine mg_13 hS dX12_see__50 ?_
        refine gz_aload_n dX12_see__53 rfl rfl ?_
        refine mg_272 hS dX12_see__54 ?_
        refine m_bald 3 hS rfl (N := 400) rfl ((by exact vin_T (rfl : ((n 21)).toInt = ((n 21)).toInt) (by omega) (by omega))) dX12_see__57 ?_
        refine gz_sipush (v := 255) dX12_see__58 (by decide) ?_
        refine gz_iand dX12_see__61 ?_
        refine gz_goto (tgt := 66) dX12_see__62 (by decide) ?_
        exact gz_iret rfl dX12_see__66 (Nat.le_of_ble_eq_true rfl) (Nat.le_of_ble_eq_true rfl) (⟨_, rfl, _, _, _, _, hS, hx, hT, hm, (by first | (left; rfl) | (right; omega))⟩)
    ·
      try simp only [mIn_0, lgc_lt, lgc_gt, lgc_le, lgc_ge, lgc_eq] at c_8
      try simp only [fl_lt, fl_le, fl_eq, fL_w, fL_lt, fL_le, tm1, tm10k, tm9, tm99, Int32.reduceToInt, Int64.reduceToInt, Int.not_lt, Int.not_le] at c_8
      refine gz_aload_n dX12_see__11 rfl rfl ?_
      refine mg_13 hS dX12_see__12 ?_
      refine gz_aload_n dX12_see__15 rfl rfl ?_
      refine mg_272 hS dX12_see__16 ?_
      refine m_bald 3 hS rfl (N := 400) rfl ((by exact vin_T (rfl : ((n 21)).toInt = ((n 21)).toInt) (by omega) (by omega))) dX12_see__19 ?_
      refine gz_bipush (v := 32) dX12_see__20 (by decide) ?_
      refine gz_icmp_ne (tgt := 38) dX12_see__22 (by decide) (fun c_22 => ?_) (fun c_22 => ?_)
      ·
        try simp only [mIn_0, lgc_lt, lgc_gt, lgc_le, lgc_ge, lgc_eq] at c_22
        try simp only [fl_lt, fl_le, fl_eq, fL_w, fL_lt, fL_le, tm1, tm10k, tm9, tm99, Int32.reduceToInt, Int64.reduceToInt, Int.not_lt, Int.not_le] at c_22
        refine gz_aload_n dX12_see__38 rfl rfl ?_
        refine mg_272 hS dX12_see__39 ?_
        refine gz_aload_n dX12_see__42 rfl rfl ?_
        refine mg_262 hS dX12_see__43 ?_
        refine gz_icmp_ge (tgt := 65) dX12_see__46 (by decide) (fun c_46 => ?_) (fun c_46 => ?_)
        ·
          try simp only [mIn_0, lgc_lt, lgc_gt, lgc_le, lgc_ge, lgc_eq] at c_46
          try simp only [fl_lt, fl_le, fl_eq, fL_w, fL_lt, fL_le, tm1, tm10k, tm9, tm99, Int32.reduceToInt, Int64.reduceToInt, Int.not_lt, Int.not_le] at c_46
          refine gz_iconst (v := (-1)) dX12_see__65 (by decide) ?_
          exact gz_iret rfl dX12_see__66 (Nat.le_of_ble_eq_true rfl) (Nat.le_of_ble_eq_true rfl) (⟨_, rfl, _, _, _, _, hS, hx, hT, hm, (by first | (left; rfl) | (right; omega))⟩)
        ·
          try simp only [mIn_0, lgc_lt, lgc_gt, lgc_le, lgc_ge, lgc_eq] at c_46
          try simp only [fl_lt, fl_le, fl_eq, fL_w, fL_lt, fL_le, tm1, tm10k, tm9, tm99, Int32.reduceToInt, Int64.reduceToInt, Int.not_lt, Int.not_le] at c_46
          refine gz_aload_n dX12_see__49 rfl rfl ?_
          refine mg_13 hS dX12_see__50 ?_
          refine gz_aload_n dX12_see__53 rfl rfl ?_
          refine mg_272 hS dX12_see__54 ?_
          refine m_bald 3 hS rfl (N := 400) rfl ((by exact vin_T (rfl : ((n 21)).toInt = ((n 21)).toInt) (by omega) (by omega))) dX12_see__57 ?_
          refine gz_sipush (v := 255) dX12_see__58 (by decide) ?_
          refine gz_iand dX12_see__61 ?_
          refine gz_goto (tgt := 66) dX12_see__62 (by decide) ?_
          exact gz_iret rfl dX12_see__66 (Nat.le_of_ble_eq_true rfl) (Nat.le_of_ble_eq_true rfl) (⟨_, rfl, _, _, _, _, hS, hx, hT, hm, (by first | (left; rfl) | (right; omega))⟩)
      ·
        try simp only [mIn_0, lgc_lt, lgc_gt, lgc_le, lgc_ge, lgc_eq] at c_22
        try simp only [fl_lt, fl_le, fl_eq, fL_w, fL_lt, fL_le, tm1, tm10k, tm9, tm99, Int32.reduceToInt, Int64.reduceToInt, Int.not_lt, Int.not_le] at c_22
        refine gz_aload_n dX12_see__25 rfl rfl ?_
        refine gz_dup dX12_see__26 rfl ?_
        refine mg_272 hS dX12_see__27 ?_
        refine gz_iconst (v := 1) dX12_see__30 (by decide) ?_
        refine gz_iadd dX12_see__31 ?_
        refine mp_272 hS dX12_see__32 (fun f_1 hS_1 => ?_)
        refine gz_goto (tgt := 0) dX12_see__35 (by decide) ?_
        refine gz_sub (lv' := [(0, .ref m)]) (by simp [List.lookup]) ?_
        exact ih  _ _ _ _ _ hS_1 (fx_n hx (by decide)) ((by (try rw [(show (va_up n 21 ((n 21) + 1)) 21 = ((n 21) + 1) from rfl)]); (try rw [(show (va_up n 21 ((n 21) + 1)) 4 = (n 4) from rfl)]); have q1_ := (T_add (rfl : ((n 21)).toInt = ((n 21)).toInt) (show (1 : Int32).toInt = 1 from rfl) (by omega)); omega)) ((by (try rw [(show (va_up n 21 ((n 21) + 1)) 21 = ((n 21) + 1) from rfl)]); have q1_ := (T_add (rfl : ((n 21)).toInt = ((n 21)).toInt) (show (1 : Int32).toInt = 1 from rfl) (by omega)); omega)) ((by (try rw [(show (va_up n 21 ((n 21) + 1)) 21 = ((n 21) + 1) from rfl)]); (try rw [(show (va_up n 21 ((n 21) + 1)) 4 = (n 4) from rfl)]); have q1_ := (T_add (rfl : ((n 21)).toInt = ((n 21)).toInt) (show (1 : Int32).toInt = 1 from rfl) (by omega)); omega))

set_option maxHeartbeats 4000000 in
set_option maxRecDepth 100000 in
theorem k_X12_see_ {l : Launch} {D : va_G} {cy : Nat → ClassId} {b : Nat} {f : gMem} {m : Nat} {a : Nat → Nat} {f0 : gMem} {n : Nat → Int32} {z : Nat → Int64} {F : Nat → Nat → Int32} {G : Nat → Nat → Int64}   (hS : mS cy m a f0 n z F G f) (hT : (0 ≤ (n 21).toInt ∧ (n 21).toInt ≤ (n 4).toInt ∧ (n 4).toInt ≤ 400)) : gC l D cy b yX12_see_ cX12_see_ 1 (some .int) 0 0 0 [.ref m] f (pI fun r f2 => ∃ (n2 : Nat → Int32) (z2 : Nat → Int64) (F2 : Nat → Nat → Int32) (G2 : Nat → Nat → Int64), mS cy m a f0 n2 z2 F2 G2 f2 ∧ fx [21] [] [] [] n z F G n2 z2 F2 G2 ∧ (0 ≤ (n2 21).toInt ∧ (n2 21).toInt ≤ (n2 4).toInt ∧ (n2 4).toInt ≤ 400) ∧ (n 21).toInt ≤ (n2 21).toInt ∧ (r.toInt = -1 ∨ (n2 21).toInt < (n2 4).toInt)) := by
  refine gC_of (by decide) (Nat.le_of_ble_eq_true rfl) ?_
  show gG l _ _ _ D cy b cX12_see_ 1 _ RX12 "see" 0 0 f 0 [(0, .ref m)] []
  refine gz_sub (lv' := [(0, .ref m)]) (by simp [List.lookup]) ?_
  exact l_X12_see_ 402  _ _ _ _ _ hS fx_rf (hT) (Int.le_refl _) (by omega)

set_option maxHeartbeats 4000000 in
set_option maxRecDepth 100000 in
theorem k_X12_isDigit {l : Launch} {D : va_G} {cy : Nat → ClassId} {b : Nat} {f : gMem} {m : Nat} {a : Nat → Nat} {f0 : gMem} {n : Nat → Int32} {z : Nat → Int64} {F : Nat → Nat → Int32} {G : Nat → Nat → Int64}  {x : Int32} (hS : mS cy m a f0 n z F G f) (hx : 0 ≤ x.toInt) (h4 : (n 4).toInt ≤ 400) : gC l D cy b yX12_isDigit cX12_isDigit 2 (some .boolean) 0 0 0 [.ref m, .int x] f (pI fun r f2 => (r = 0 ∨ (r = 1 ∧ x.toInt < (n 4).toInt)) ∧ f2 = f) := by
  refine gC_of (by decide) (Nat.le_of_ble_eq_true rfl) ?_
  show gG l _ _ _ D cy b cX12_isDigit 2 _ RX12 "isDigit" 0 0 f 0 [(0, .ref m), (1, .int x)] []
  refine gz_iload_n dX12_isDigit_0 rfl rfl ?_
  refine gz_aload_n dX12_isDigit_1 rfl rfl ?_
  refine mg_262 hS dX12_isDigit_2 ?_
  refine gz_icmp_ge (tgt := 34) dX12_isDigit_5 (by decide) (fun c_5 => ?_) (fun c_5 => ?_)
  ·
    try simp only [mIn_0, lgc_lt, lgc_gt, lgc_le, lgc_ge, lgc_eq] at c_5
    try simp only [fl_lt, fl_le, fl_eq, fL_w, fL_lt, fL_le, tm1, tm10k, tm9, tm99, Int32.reduceToInt, Int64.reduceToInt, Int.not_lt, Int.not_le] at c_5
    refine gz_iconst (v := 0) dX12_isDigit_34 (by decide) ?_
    exact gz_zret rfl (by first | decide | exact nrb (by assumption) | exact nrb (Or.inl rfl) | exact nrb (Or.inr rfl)) dX12_isDigit_35 (Nat.le_of_ble_eq_true rfl) (Nat.le_of_ble_eq_true rfl) (⟨_, rfl, (by first | exact Or.inl rfl | exact Or.inr ⟨rfl, by omega⟩), rfl⟩)
  ·
    try simp only [mIn_0, lgc_lt, lgc_gt, lgc_le, lgc_ge, lgc_eq] at c_5
    try simp only [fl_lt, fl_le, fl_eq, fL_w, fL_lt, fL_le, tm1, tm10k, tm9, tm99, Int32.reduceToInt, Int64.reduceToInt, Int.not_lt, Int.not_le] at c_5
    refine gz_aload_n dX12_isDigit_8 rfl rfl ?_
    refine mg_13 hS dX12_isDigit_9 ?_
    refine gz_iload_n dX12_isDigit_12 rfl rfl ?_
    refine m_bald 3 hS rfl (N := 400) rfl ((by exact vin_T (rfl : (x).toInt = (x).toInt) (by omega) (by omega))) dX12_isDigit_13 ?_
    refine gz_bipush (v := 48) dX12_isDigit_14 (by decide) ?_
    refine gz_icmp_lt (tgt := 34) dX12_isDigit_16 (by decide) (fun c_16 => ?_) (fun c_16 => ?_)
    ·
      try simp only [mIn_0, lgc_lt, lgc_gt, lgc_le, lgc_ge, lgc_eq] at c_16
      try simp only [fl_lt, fl_le, fl_eq, fL_w, fL_lt, fL_le, tm1, tm10k, tm9, tm99, Int32.reduceToInt, Int64.reduceToInt, Int.not_lt, Int.not_le] at c_16
      refine gz_iconst (v := 0) dX12_isDigit_34 (by decide) ?_
      exact gz_zret rfl (by first | decide | exact nrb (by assumption) | exact nrb (Or.inl rfl) | exact nrb (Or.inr rfl)) dX12_isDigit_35 (Nat.le_of_ble_eq_true rfl) (Nat.le_of_ble_eq_true rfl) (⟨_, rfl, (by first | exact Or.inl rfl | exact Or.inr ⟨rfl, by omega⟩), rfl⟩)
    ·
      try simp only [mIn_0, lgc_lt, lgc_gt, lgc_le, lgc_ge, lgc_eq] at c_16
      try simp only [fl_lt, fl_le, fl_eq, fL_w, fL_lt, fL_le, tm1, tm10k, tm9, tm99, Int32.reduceToInt, Int64.reduceToInt, Int.not_lt, Int.not_le] at c_16
      refine gz_aload_n dX12_isDigit_19 rfl rfl ?_
      refine mg_13 hS dX12_isDigit_20 ?_
      refine gz_iload_n dX12_isDigit_23 rfl rfl ?_
      refine m_bald 3 hS rfl (N := 400) rfl ((by exact vin_T (rfl : (x).toInt = (x).toInt) (by omega) (by omega))) dX12_isDigit_24 ?_
      refine gz_bipush (v := 57) dX12_isDigit_25 (by decide) ?_
      refine gz_icmp_gt (tgt := 34) dX12_isDigit_27 (by decide) (fun c_27 => ?_) (fun c_27 => ?_)
      ·
        try simp only [mIn_0, lgc_lt, lgc_gt, lgc_le, lgc_ge, lgc_eq] at c_27
        try simp only [fl_lt, fl_le, fl_eq, fL_w, fL_lt, fL_le, tm1, tm10k, tm9, tm99, Int32.reduceToInt, Int64.reduceToInt, Int.not_lt, Int.not_le] at c_27
        refine gz_iconst (v := 0) dX12_isDigit_34 (by decide) ?_
        exact gz_zret rfl (by first | decide | exact nrb (by assumption) | exact nrb (Or.inl rfl) | exact nrb (Or.inr rfl)) dX12_isDigit_35 (Nat.le_of_ble_eq_true rfl) (Nat.le_of_ble_eq_true rfl) (⟨_, rfl, (by first | exact Or.inl rfl | exact Or.inr ⟨rfl, by omega⟩), rfl⟩)
      ·
        try simp only [mIn_0, lgc_lt, lgc_gt, lgc_le, lgc_ge, lgc_eq] at c_27
        try simp only [fl_lt, fl_le, fl_eq, fL_w, fL_lt, fL_le, tm1, tm10k, tm9, tm99, Int32.reduceToInt, Int64.reduceToInt, Int.not_lt, Int.not_le] at c_27
        refine gz_iconst (v := 1) dX12_isDigit_30 (by decide) ?_
        refine gz_goto (tgt := 35) dX12_isDigit_31 (by decide) ?_
        exact gz_zret rfl (by first | decide | exact nrb (by assumption) | exact nrb (Or.inl rfl) | exact nrb (Or.inr rfl)) dX12_isDigit_35 (Nat.le_of_ble_eq_true rfl) (Nat.le_of_ble_eq_true rfl) (⟨_, rfl, (by first | exact Or.inl rfl | exact Or.inr ⟨rfl, by omega⟩), rfl⟩)

set_option maxHeartbeats 4000000 in
set_option maxRecDepth 100000 in
theorem k_X12_isLetter {l : Launch} {D : va_G} {cy : Nat → ClassId} {b : Nat} {f : gMem} {m : Nat} {a : Nat → Nat} {f0 : gMem} {n : Nat → Int32} {z : Nat → Int64} {F : Nat → Nat → Int32} {G : Nat → Nat → Int64}  {x : Int32} (hS : mS cy m a f0 n z F G f) (hx : 0 ≤ x.toInt) (h4 : (n 4).toInt ≤ 400) : gC l D cy b yX12_isLetter cX12_isLetter 2 (some .boolean) 0 0 0 [.ref m, .int x] f (pI fun r f2 => (r = 0 ∨ (r = 1 ∧ x.toInt < (n 4).toInt)) ∧ f2 = f) := by
  refine gC_of (by decide) (Nat.le_of_ble_eq_true rfl) ?_
  show gG l _ _ _ D cy b cX12_isLetter 2 _ RX12 "isLetter" 0 0 f 0 [(0, .ref m), (1, .int x)] []
  refine gz_iload_n dX12_isLetter_0 rfl rfl ?_
  refine gz_aload_n dX12_isLetter_1 rfl rfl ?_
  refine mg_262 hS dX12_isLetter_2 ?_
  refine gz_icmp_ge (tgt := 34) dX12_isLetter_5 (by decide) (fun c_5 => ?_) (fun c_5 => ?_)
  ·
    try simp only [mIn_0, lgc_lt, lgc_gt, lgc_le, lgc_ge, lgc_eq] at c_5
    try simp only [fl_lt, fl_le, fl_eq, fL_w, fL_lt, fL_le, tm1, tm10k, tm9, tm99, Int32.reduceToInt, Int64.reduceToInt, Int.not_lt, Int.not_le] at c_5
    refine gz_iconst (v := 0) dX12_isLetter_34 (by decide) ?_
    exact gz_zret rfl (by first | decide | exact nrb (by assumption) | exact nrb (Or.inl rfl) | exact nrb (Or.inr rfl)) dX12_isLetter_35 (Nat.le_of_ble_eq_true rfl) (Nat.le_of_ble_eq_true rfl) (⟨_, rfl, (by first | exact Or.inl rfl | exact Or.inr ⟨rfl, by omega⟩), rfl⟩)
  ·
    try simp only [mIn_0, lgc_lt, lgc_gt, lgc_le, lgc_ge, lgc_eq] at c_5
    try simp only [fl_lt, fl_le, fl_eq, fL_w, fL_lt, fL_le, tm1, tm10k, tm9, tm99, Int32.reduceToInt, Int64.reduceToInt, Int.not_lt, Int.not_le] at c_5
    refine gz_aload_n dX12_isLetter_8 rfl rfl ?_
    refine mg_13 hS dX12_isLetter_9 ?_
    refine gz_iload_n dX12_isLetter_12 rfl rfl ?_
    refine m_bald 3 hS rfl (N := 400) rfl ((by exact vin_T (rfl : (x).toInt = (x).toInt) (by omega) (by omega))) dX12_isLetter_13 ?_
    refine gz_bipush (v := 97) dX12_isLetter_14 (by decide) ?_
    refine gz_icmp_lt (tgt := 34) dX12_isLetter_16 (by decide) (fun c_16 => ?_) (fun c_16 => ?_)
    ·
      try simp only [mIn_0, lgc_lt, lgc_gt, lgc_le, lgc_ge, lgc_eq] at c_16
      try simp only [fl_lt, fl_le, fl_eq, fL_w, fL_lt, fL_le, tm1, tm10k, tm9, tm99, Int32.reduceToInt, Int64.reduceToInt, Int.not_lt, Int.not_le] at c_16
      refine gz_iconst (v := 0) dX12_isLetter_34 (by decide) ?_
      exact gz_zret rfl (by first | decide | exact nrb (by assumption) | exact nrb (Or.inl rfl) | exact nrb (Or.inr rfl)) dX12_isLetter_35 (Nat.le_of_ble_eq_true rfl) (Nat.le_of_ble_eq_true rfl) (⟨_, rfl, (by first | exact Or.inl rfl | exact Or.inr ⟨rfl, by omega⟩), rfl⟩)
    ·
      try simp only [mIn_0, lgc_lt, lgc_gt, lgc_le, lgc_ge, lgc_eq] at c_16
      try simp only [fl_lt, fl_le, fl_eq, fL_w, fL_lt, fL_le, tm1, tm10k, tm9, tm99, Int32.reduceToInt, Int64.reduceToInt, Int.not_lt, Int.not_le] at c_16
      refine gz_aload_n dX12_isLetter_19 rfl rfl ?_
      refine mg_13 hS dX12_isLetter_20 ?_
      refine gz_iload_n dX12_isLetter_23 rfl rfl ?_
      refine m_bald 3 hS rfl (N := 400) rfl ((by exact vin_T (rfl : (x).toInt = (x).toInt) (by omega) (by omega))) dX12_isLetter_24 ?_
      refine gz_bipush (v := 122) dX12_isLetter_25 (by decide) ?_
      refine gz_icmp_gt (tgt := 34) dX12_isLetter_27 (by decide) (fun c_27 => ?_) (fun c_27 => ?_)
      ·
        try simp only [mIn_0, lgc_lt, lgc_gt, lgc_le, lgc_ge, lgc_eq] at c_27
        try simp only [fl_lt, fl_le, fl_eq, fL_w, fL_lt, fL_le, tm1, tm10k, tm9, tm99, Int32.reduceToInt, Int64.reduceToInt, Int.not_lt, Int.not_le] at c_27
        refine gz_iconst (v := 0) dX12_isLetter_34 (by decide) ?_
        exact gz_zret rfl (by first | decide | exact nrb (by assumption) | exact nrb (Or.inl rfl) | exact nrb (Or.inr rfl)) dX12_isLetter_35 (Nat.le_of_ble_eq_true rfl) (Nat.le_of_ble_eq_true rfl) (⟨_, rfl, (by first | exact Or.inl rfl | exact Or.inr ⟨rfl, by omega⟩), rfl⟩)
      ·
        try simp only [mIn_0, lgc_lt, lgc_gt, lgc_le, lgc_ge, lgc_eq] at c_27
        try simp only [fl_lt, fl_le, fl_eq, fL_w, fL_lt, fL_le, tm1, tm10k, tm9, tm99, Int32.reduceToInt, Int64.reduceToInt, Int.not_lt, Int.not_le] at c_27
        refine gz_iconst (v := 1) dX12_isLetter_30 (by decide) ?_
        refine gz_goto (tgt := 35) dX12_isLetter_31 (by decide) ?_
        exact gz_zret rfl (by first | decide | exact nrb (by assumption) | exact nrb (Or.inl rfl) | exact nrb (Or.inr rfl)) dX12_isLetter_35 (Nat.le_of_ble_eq_true rfl) (Nat.le_of_ble_eq_true rfl) (⟨_, rfl, (by first | exact Or.inl rfl | exact Or.inr ⟨rfl, by omega⟩), rfl⟩)

set_option maxHeartbeats 4000000 in
set_option maxRecDepth 100000 in
theorem k_X12_takes {l : Launch} {D : va_G} {cy : Nat → ClassId} {b : Nat} {f : gMem} {m : Nat} {a : Nat → Nat} {f0 : gMem} {n : Nat → Int32} {z : Nat → Int64} {F : Nat → Nat → Int32} {G : Nat → Nat → Int64}  {x : Int32} (hS : mS cy m a f0 n z F G f) (hT : (0 ≤ (n 21).toInt ∧ (n 21).toInt ≤ (n 4).toInt ∧ (n 4).toInt ≤ 400)) (hx : x.toInt ≠ -1) : gC l D cy b yX12_takes cX12_takes 2 (some .boolean) 1 0 0 [.ref m, .int x] f (pI fun r f2 => ∃ (n2 : Nat → Int32) (z2 : Nat → Int64) (F2 : Nat → Nat → Int32) (G2 : Nat → Nat → Int64), mS cy m a f0 n2 z2 F2 G2 f2 ∧ fx [21, 22] [] [] [] n z F G n2 z2 F2 G2 ∧ (r = 0 ∨ r = 1) ∧ (0 ≤ (n2 21).toInt ∧ (n2 21).toInt ≤ (n2 4).toInt ∧ (n2 4).toInt ≤ 400) ∧ (n 21).toInt ≤ (n2 21).toInt) := by
  refine gC_of (by decide) (Nat.le_of_ble_eq_true rfl) ?_
  show gG l _ _ _ D cy b cX12_takes 2 _ RX12 "takes" 0 0 f 0 [(0, .ref m), (1, .int x)] []
  refine gz_aload_n dX12_takes_0 rfl rfl ?_
  refine scX12_275 (k_X12_see_ hS (by omega)) hS.1 ⟨(Nat.le_of_ble_eq_true rfl), (Nat.le_of_ble_eq_true rfl)⟩ ⟨(Nat.le_of_ble_eq_true rfl), (Nat.le_of_ble_eq_true rfl)⟩ rfl rfl (Nat.le_of_ble_eq_true rfl) dX12_takes_1 ?_
  rintro r_1 f_1 ⟨n_1, z_1, F_1, G_1, hS_1, hx1, hT_1, hm_1, hq_1⟩
  try simp only [(show n_1 4 = (n 4) from (hx1.1 4 (by decide)))] at hT_1 hm_1 hq_1
  refine gz_iload_n dX12_takes_4 rfl rfl ?_
  refine gz_icmp_eq (tgt := 18) dX12_takes_5 (by decide) (fun c_5 => ?_) (fun c_5 => ?_)
  ·
    try simp only [mIn_0, lgc_lt, lgc_gt, lgc_le, lgc_ge, lgc_eq] at c_5
    try simp only [fl_lt, fl_le, fl_eq, fL_w, fL_lt, fL_le, tm1, tm10k, tm9, tm99, Int32.reduceToInt, Int64.reduceToInt, Int.not_lt, Int.not_le] at c_5
    refine gz_aload_n dX12_takes_18 rfl rfl ?_
    refine gz_dup dX12_takes_19 rfl ?_
    refine mg_272 hS_1 dX12_takes_20 ?_
    refine gz_ev (w := .int (n_1 21)) rfl ?_
    refine gz_iconst (v := 1) dX12_takes_23 (by decide) ?_
    refine gz_iadd dX12_takes_24 ?_
    refine mp_272 hS_1 dX12_takes_25 (fun f_2 hS_2 => ?_)
    refine gz_iconst (v := 1) dX12_takes_28 (by decide) ?_
    exact gz_zret rfl (by first | decide | exact nrb (Or.inl (by assumption)) | exact nrb (by assumption)) dX12_takes_29 (Nat.le_of_ble_eq_true rfl) (Nat.le_of_ble_eq_true rfl) (⟨_, rfl, _, _, _, _, hS_2, (fx_n (fx_tr fx_rf hx1 (by decide)) (by decide)), (by first | exact Or.inl rfl | exact Or.inr rfl | assumption | (left; assumption)), (by (try rw [(show (va_up n_1 21 ((n_1 21) + 1)) 21 = ((n_1 21) + 1) from rfl)]); (try rw [(show (va_up n_1 21 ((n_1 21) + 1)) 4 = (n 4) from (hx1.1 4 (by decide)))]); have q1_ := (T_add (rfl : ((n_1 21)).toInt = ((n_1 21)).toInt) (show (1 : Int32).toInt = 1 from rfl) (by omega)); omega), (by (try rw [(show (va_up n_1 21 ((n_1 21) + 1)) 21 = ((n_1 21) + 1) from rfl)]); have q1_ := (T_add (rfl : ((n_1 21)).toInt = ((n_1 21)).toInt) (show (1 : Int32).toInt = 1 from rfl) (by omega)); omega)⟩)
  ·
    try simp only [mIn_0, lgc_lt, lgc_gt, lgc_le, lgc_ge, lgc_eq] at c_5
    try simp only [fl_lt, fl_le, fl_eq, fL_w, fL_lt, fL_le, tm1, tm10k, tm9, tm99, Int32.reduceToInt, Int64.reduceToInt, Int.not_lt, Int.not_le] at c_5
    refine gz_aload_n dX12_takes_8 rfl rfl ?_
    refine gz_iconst (v := 0) dX12_takes_9 (by decide) ?_
    refine gz_aload_n dX12_takes_10 rfl rfl ?_
    refine mg_272 hS_1 dX12_takes_11 ?_
    refine gz_ev (w := .int (n_1 21)) rfl ?_
    refine scX12_279 (k_X12_fails (x := 0) (y := (n_1 21)) hS_1) hS_1.1 ⟨(Nat.le_of_ble_eq_true rfl), (Nat.le_of_ble_eq_true rfl)⟩ ⟨(Nat.le_of_ble_eq_true rfl), (Nat.le_of_ble_eq_true rfl)⟩ rfl rfl (Nat.le_of_ble_eq_true rfl) dX12_takes_14 ?_
    rintro r_3 f_3 ⟨n_3, z_3, F_3, G_3, hS_3, hx3, hr_3⟩
    exact gz_zret rfl (by first | decide | exact nrb (Or.inl (by assumption)) | exact nrb (by assumption)) dX12_takes_17 (Nat.le_of_ble_eq_true rfl) (Nat.le_of_ble_eq_true rfl) (⟨_, rfl, _, _, _, _, hS_3, (fx_tr (fx_tr fx_rf hx1 (by decide)) hx3 (by decide)), (by first | exact Or.inl rfl | exact Or.inr rfl | assumption | (left; assumption)), (by (try rw [(show n_3 21 = (n_1 21) from (hx3.1 21 (by decide)))]); (try rw [(show n_3 4 = (n 4) from ((hx3.1 4 (by decide)).trans (hx1.1 4 (by decide))))]); omega), (by (try rw [(show n_3 21 = (n_1 21) from (hx3.1 21 (by decide)))]); omega)⟩)

set_option maxHeartbeats 4000000 in
set_option maxRecDepth 100000 in
theorem l_X12_skips {l : Launch} {D : va_G} {cy : Nat → ClassId} {b : Nat} {m : Nat} {a : Nat → Nat} {f0 : gMem} {n0 : Nat → Int32} {z0 : Nat → Int64} {F0 : Nat → Nat → Int32} {G0 : Nat → Nat → Int64}    : ∀ (k : Nat)  (n : Nat → Int32) (z : Nat → Int64) (F : Nat → Nat → Int32) (G : Nat → Nat → Int64) (fm : gMem), mS cy m a f0 n z F G fm → fx [21] [] [] [] n0 z0 F0 G0 n z F G → ((0 ≤ (n 21).toInt ∧ (n 21).toInt ≤ (n 4).toInt ∧ (n 4).toInt ≤ 400)) → ((n0 21).toInt ≤ (n 21).toInt) → ((n 4).toInt - (n 21).toInt < (k : Int)) → gG l (gRm 1 0 0) (gQf D b (pV fun f2 => ∃ (n2 : Nat → Int32) (z2 : Nat → Int64) (F2 : Nat → Nat → Int32) (G2 : Nat → Nat → Int64), mS cy m a f0 n2 z2 F2 G2 f2 ∧ fx [21] [] [] [] n0 z0 F0 G0 n2 z2 F2 G2 ∧ (0 ≤ (n2 21).toInt ∧ (n2 21).toInt ≤ (n2 4).toInt ∧ (n2 4).toInt ≤ 400) ∧ (n0 21).toInt ≤ (n2 21).toInt) 0 0) gTt D cy b cX12_skips 1 none RX12 "skips" 0 0 fm 0 [(0, .ref m)] [] := by
  intro k
  induction k with
  | zero =>
    intro n z F G fm hS hx hT hm hk
    exfalso; omega
  | succ k ih =>
    intro n z F G fm hS hx hT hm hk
    refine gz_aload_n dX12_skips_0 rfl rfl ?_
    refine gz_aload_n dX12_skips_1 rfl rfl ?_
    refine mg_272 hS dX12_skips_2 ?_
    refine scX12_290 (k_X12_isLetter (x := (n 21)) hS (by omega) (by omega)) hS.1 ⟨(Nat.le_of_ble_eq_true rfl), (Nat.le_of_ble_eq_true rfl)⟩ ⟨(Nat.le_of_ble_eq_true rfl), (Nat.le_of_ble_eq_true rfl)⟩ rfl rfl (Nat.le_of_ble_eq_true rfl) dX12_skips_5 ?_
    rintro r_1 f9 ⟨hb_1, y9⟩; rw [y9]; rw [(show n 4 = (n 4) from rfl)] at hb_1
    have hbb_1 : r_1 = 0 ∨ r_1 = 1 := hb_1.imp_right And.left
    simp only [fl_eq, Int32.reduceToInt] at hb_1
    refine gz_if_eq (tgt := 24) dX12_skips_8 (by decide) (fun c_8 => ?_) (fun c_8 => ?_)
    ·
      try simp only [mIn_0, lgc_lt, lgc_gt, lgc_le, lgc_ge, lgc_eq] at c_8
      try simp only [fl_lt, fl_le, fl_eq, fL_w, fL_lt, fL_le, tm1, tm10k, tm9, tm99, Int32.reduceToInt, Int64.reduceToInt, Int.not_lt, Int.not_le] at c_8
      exact gz_vret rfl dX12_skips_24 (Nat.le_of_ble_eq_true rfl) (Nat.le_of_ble_eq_true rfl) (⟨rfl, _, _, _, _, hS, hx, hT, hm⟩)
    ·
      try simp only [mIn_0, lgc_lt, lgc_gt, lgc_le, lgc_ge, lgc_eq] at c_8
      try simp only [fl_lt, fl_le, fl_eq, fL_w, fL_lt, fL_le, tm1, tm10k, tm9, tm99, Int32.reduceToInt, Int64.reduceToInt, Int.not_lt, Int.not_le] at c_8
      refine gz_aload_n dX12_skips_11 rfl rfl ?_
      refine gz_dup dX12_skips_12 rfl ?_
      refine mg_272 hS dX12_skips_13 ?_
      refine gz_iconst (v := 1) dX12_skips_16 (by decide) ?_
      refine gz_iadd dX12_skips_17 ?_
      refine mp_272 hS dX12_skips_18 (fun f_2 hS_2 => ?_)
      refine gz_goto (tgt := 0) dX12_skips_21 (by decide) ?_
      refine gz_sub (lv' := [(0, .ref m)]) (by simp [List.lookup]) ?_
      exact ih  _ _ _ _ _ hS_2 (fx_n hx (by decide)) ((by (try rw [(show (va_up n 21 ((n 21) + 1)) 21 = ((n 21) + 1) from rfl)]); (try rw [(show (va_up n 21 ((n 21) + 1)) 4 = (n 4) from rfl)]); have q1_ := (T_add (rfl : ((n 21)).toInt = ((n 21)).toInt) (show (1 : Int32).toInt = 1 from rfl) (by omega)); omega)) ((by (try rw [(show (va_up n 21 ((n 21) + 1)) 21 = ((n 21) + 1) from rfl)]); have q1_ := (T_add (rfl : ((n 21)).toInt = ((n 21)).toInt) (show (1 : Int32).toInt = 1 from rfl) (by omega)); omega)) ((by (try rw [(show (va_up n 21 ((n 21) + 1)) 21 = ((n 21) + 1) from rfl)]); (try rw [(show (va_up n 21 ((n 21) + 1)) 4 = (n 4) from rfl)]); have q1_ := (T_add (rfl : ((n 21)).toInt = ((n 21)).toInt) (show (1 : Int32).toInt = 1 from rfl) (by omega)); omega))

set_option maxHeartbeats 4000000 in
set_option maxRecDepth 100000 in
theorem k_X12_skips {l : Launch} {D : va_G} {cy : Nat → ClassId} {b : Nat} {f : gMem} {m : Nat} {a : Nat → Nat} {f0 : gMem} {n : Nat → Int32} {z : Nat → Int64} {F : Nat → Nat → Int32} {G : Nat → Nat → Int64}   (hS : mS cy m a f0 n z F G f) (hT : (0 ≤ (n 21).toInt ∧ (n 21).toInt ≤ (n 4).toInt ∧ (n 4).toInt ≤ 400)) : gC l D cy b yX12_skips cX12_skips 1 none 1 0 0 [.ref m] f (pV fun f2 => ∃ (n2 : Nat → Int32) (z2 : Nat → Int64) (F2 : Nat → Nat → Int32) (G2 : Nat → Nat → Int64), mS cy m a f0 n2 z2 F2 G2 f2 ∧ fx [21] [] [] [] n z F G n2 z2 F2 G2 ∧ (0 ≤ (n2 21).toInt ∧ (n2 21).toInt ≤ (n2 4).toInt ∧ (n2 4).toInt ≤ 400) ∧ (n 21).toInt ≤ (n2 21).toInt) := by
  refine gC_of (by decide) (Nat.le_of_ble_eq_true rfl) ?_
  show gG l _ _ _ D cy b cX12_skips 1 _ RX12 "skips" 0 0 f 0 [(0, .ref m)] []
  refine gz_sub (lv' := [(0, .ref m)]) (by simp [List.lookup]) ?_
  exact l_X12_skips 402  _ _ _ _ _ hS fx_rf (hT) (Int.le_refl _) (by omega)

set_option maxHeartbeats 4000000 in
set_option maxRecDepth 100000 in
theorem l_X12_letters {l : Launch} {D : va_G} {cy : Nat → ClassId} {b : Nat} {m : Nat} {a : Nat → Nat} {f0 : gMem} {n0 : Nat → Int32} {z0 : Nat → Int64} {F0 : Nat → Nat → Int32} {G0 : Nat → Nat → Int64}    : ∀ (k : Nat) (i : Int32) (v : Int64) (n : Nat → Int32) (z : Nat → Int64) (F : Nat → Nat → Int32) (G : Nat → Nat → Int64) (fm : gMem), mS cy m a f0 n z F G fm → fx [21] [] [] [] n0 z0 F0 G0 n z F G → ((0 ≤ (n 21).toInt ∧ (n 21).toInt ≤ (n 4).toInt ∧ (n 4).toInt ≤ 400)) → ((n0 21).toInt ≤ (n 21).toInt) → (0 ≤ i.toInt ∧ (n 21).toInt + i.toInt ≤ 400 ∧ 400 - (n 21).toInt - i.toInt < (k : Int)) → gG l (gRm 1 0 0) (gQf D b (pL fun r f2 => ∃ (n2 : Nat → Int32) (z2 : Nat → Int64) (F2 : Nat → Nat → Int32) (G2 : Nat → Nat → Int64), mS cy m a f0 n2 z2 F2 G2 f2 ∧ fx [21] [] [] [] n0 z0 F0 G0 n2 z2 F2 G2 ∧ (0 ≤ (n2 21).toInt ∧ (n2 21).toInt ≤ (n2 4).toInt ∧ (n2 4).toInt ≤ 400) ∧ (n0 21).toInt ≤ (n2 21).toInt) 0 0) gTt D cy b cX12_letters 4 (some .long) RX12 "letters" 0 0 fm 9 [(3, .int i), (1, .long v), (0, .ref m)] [] := by
  intro k
  induction k with
  | zero =>
    intro i v n z F G fm hS hx hT hm hk
    exfalso; omega
  | succ k ih =>
    intro i v n z F G fm hS hx hT hm hk
    refine gz_aload_n dX12_letters_9 rfl rfl ?_
    refine gz_aload_n dX12_letters_10 rfl rfl ?_
    refine mg_272 hS dX12_letters_11 ?_
    refine gz_iload_n dX12_letters_14 rfl rfl ?_
    refine gz_iadd dX12_letters_15 ?_
    refine scX12_290 (k_X12_isLetter (x := ((n 21) + i)) hS (by have q1_ := (T_add (rfl : ((n 21)).toInt = ((n 21)).toInt) (rfl : (i).toInt = (i).toInt) (by omega)); omega) (by omega)) hS.1 ⟨(Nat.le_of_ble_eq_true rfl), (Nat.le_of_ble_eq_true rfl)⟩ ⟨(Nat.le_of_ble_eq_true rfl), (Nat.le_of_ble_eq_true rfl)⟩ rfl rfl (Nat.le_of_ble_eq_true rfl) dX12_letters_16 ?_
    rintro r_1 f9 ⟨hb_1, y9⟩; rw [y9]; rw [(show n 4 = (n 4) from rfl)] at hb_1
    have hbb_1 : r_1 = 0 ∨ r_1 = 1 := hb_1.imp_right And.left
    simp only [fl_eq, Int32.reduceToInt] at hb_1
    refine gz_if_eq (tgt := 52) dX12_letters_19 (by decide) (fun c_19 => ?_) (fun c_19 => ?_)
    ·
      try simp only [mIn_0, lgc_lt, lgc_gt, lgc_le, lgc_ge, lgc_eq] at c_19
      try simp only [fl_lt, fl_le, fl_eq, fL_w, fL_lt, fL_le, tm1, tm10k, tm9, tm99, Int32.reduceToInt, Int64.reduceToInt, Int.not_lt, Int.not_le] at c_19
      refine gz_iload_n dX12_letters_52 rfl rfl ?_
      refine gz_bipush (v := 7) dX12_letters_53 (by decide) ?_
      refine gz_icmp_le (tgt := 64) dX12_letters_55 (by decide) (fun c_55 => ?_) (fun c_55 => ?_)
      ·
        try simp only [mIn_0, lgc_lt, lgc_gt, lgc_le, lgc_ge, lgc_eq] at c_55
        try simp only [fl_lt, fl_le, fl_eq, fL_w, fL_lt, fL_le, tm1, tm10k, tm9, tm99, Int32.reduceToInt, Int64.reduceToInt, Int.not_lt, Int.not_le] at c_55
        refine gz_lload_n dX12_letters_64 rfl rfl ?_
        exact gz_lret rfl dX12_letters_65 (Nat.le_of_ble_eq_true rfl) (Nat.le_of_ble_eq_true rfl) (⟨_, rfl, _, _, _, _, hS, hx, hT, hm⟩)
      ·
        try simp only [mIn_0, lgc_lt, lgc_gt, lgc_le, lgc_ge, lgc_eq] at c_55
        try simp only [fl_lt, fl_le, fl_eq, fL_w, fL_lt, fL_le, tm1, tm10k, tm9, tm99, Int32.reduceToInt, Int64.reduceToInt, Int.not_lt, Int.not_le] at c_55
        refine gz_ldc2 (v := (-1)) wd_815 dX12_letters_58 ?_
        refine gz_goto (tgt := 65) dX12_letters_61 (by decide) ?_
        exact gz_lret rfl dX12_letters_65 (Nat.le_of_ble_eq_true rfl) (Nat.le_of_ble_eq_true rfl) (⟨_, rfl, _, _, _, _, hS, hx, hT, hm⟩)
    ·
      try simp only [mIn_0, lgc_lt, lgc_gt, lgc_le, lgc_ge, lgc_eq] at c_19
      try simp only [fl_lt, fl_le, fl_eq, fL_w, fL_lt, fL_le, tm1, tm10k, tm9, tm99, Int32.reduceToInt, Int64.reduceToInt, Int.not_lt, Int.not_le] at c_19
      refine gz_iload_n dX12_letters_22 rfl rfl ?_
      refine gz_bipush (v := 7) dX12_letters_23 (by decide) ?_
      refine gz_icmp_ge (tgt := 46) dX12_letters_25 (by decide) (fun c_25 => ?_) (fun c_25 => ?_)
      ·
        try simp only [mIn_0, lgc_lt, lgc_gt, lgc_le, lgc_ge, lgc_eq] at c_25
        try simp only [fl_lt, fl_le, fl_eq, fL_w, fL_lt, fL_le, tm1, tm10k, tm9, tm99, Int32.reduceToInt, Int64.reduceToInt, Int.not_lt, Int.not_le] at c_25
        refine gz_iinc (v := (i + 1)) (lv' := [(3, .int (i + 1)), (1, .long v), (0, .ref m)]) dX12_letters_46 rfl rfl (by decide) rfl ?_
        refine gz_goto (tgt := 9) dX12_letters_49 (by decide) ?_
        refine gz_sub (lv' := [(3, .int (i + 1)), (1, .long v), (0, .ref m)]) (by simp [List.lookup]) ?_
        exact ih (i + 1) v _ _ _ _ _ hS hx (hT) (hm) ((by have q1_ := (T_add (rfl : (i).toInt = (i).toInt) (show (1 : Int32).toInt = 1 from rfl) (by omega)); have q2_ := (T_add (rfl : ((n 21)).toInt = ((n 21)).toInt) (rfl : (i).toInt = (i).toInt) (by omega)); omega))
      ·
        try simp only [mIn_0, lgc_lt, lgc_gt, lgc_le, lgc_ge, lgc_eq] at c_25
        try simp only [fl_lt, fl_le, fl_eq, fL_w, fL_lt, fL_le, tm1, tm10k, tm9, tm99, Int32.reduceToInt, Int64.reduceToInt, Int.not_lt, Int.not_le] at c_25
        refine gz_lload_n dX12_letters_28 rfl rfl ?_
        refine gz_bipush (v := 8) dX12_letters_29 (by decide) ?_
        refine gz_lshl dX12_letters_31 ?_
        refine gz_aload_n dX12_letters_32 rfl rfl ?_
        refine mg_13 hS dX12_letters_33 ?_
        refine gz_aload_n dX12_letters_36 rfl rfl ?_
        refine mg_272 hS dX12_letters_37 ?_
        refine gz_iload_n dX12_letters_40 rfl rfl ?_
        refine gz_iadd dX12_letters_41 ?_
        refine m_bald 3 hS rfl (N := 400) rfl ((by have q9 := (T_add (rfl : ((n 21)).toInt = ((n 21)).toInt) (rfl : (i).toInt = (i).toInt) (by omega)); exact vin_T q9 (by omega) (by omega))) dX12_letters_42 ?_
        refine gz_i2l dX12_letters_43 ?_
        refine gz_lor dX12_letters_44 ?_
        refine gz_lstore_n (lv' := [(1, .long ((v <<< ((8 : Int32).toInt64 &&& 63)) ||| (((F 3) (Int32.toNatClampNeg ((n 21) + i))).toInt64))), (3, .int i), (0, .ref m)]) dX12_letters_45 rfl (by decide) rfl ?_
        refine gz_iinc (v := (i + 1)) (lv' := [(3, .int (i + 1)), (1, .long ((v <<< ((8 : Int32).toInt64 &&& 63)) ||| (((F 3) (Int32.toNatClampNeg ((n 21) + i))).toInt64))), (0, .ref m)]) dX12_letters_46 rfl rfl (by decide) rfl ?_
        refine gz_goto (tgt := 9) dX12_letters_49 (by decide) ?_
        refine gz_sub (lv' := [(3, .int (i + 1)), (1, .long ((v <<< ((8 : Int32).toInt64 &&& 63)) ||| (((F 3) (Int32.toNatClampNeg ((n 21) + i))).toInt64))), (0, .ref m)]) (by simp [List.lookup]) ?_
        exact ih (i + 1) ((v <<< ((8 : Int32).toInt64 &&& 63)) ||| (((F 3) (Int32.toNatClampNeg ((n 21) + i))).toInt64)) _ _ _ _ _ hS hx (hT) (hm) ((by have q1_ := (T_add (rfl : (i).toInt = (i).toInt) (show (1 : Int32).toInt = 1 from rfl) (by omega)); have q2_ := (T_add (rfl : ((n 21)).toInt = ((n 21)).toInt) (rfl : (i).toInt = (i).toInt) (by omega)); omega))

set_option maxHeartbeats 4000000 in
set_option maxRecDepth 100000 in
theorem k_X12_letters {l : Launch} {D : va_G} {cy : Nat → ClassId} {b : Nat} {f : gMem} {m : Nat} {a : Nat → Nat} {f0 : gMem} {n : Nat → Int32} {z : Nat → Int64} {F : Nat → Nat → Int32} {G : Nat → Nat → Int64}   (hS : mS cy m a f0 n z F G f) (hT : (0 ≤ (n 21).toInt ∧ (n 21).toInt ≤ (n 4).toInt ∧ (n 4).toInt ≤ 400)) : gC l D cy b yX12_letters cX12_letters 4 (some .long) 1 0 0 [.ref m] f (pL fun r f2 => ∃ (n2 : Nat → Int32) (z2 : Nat → Int64) (F2 : Nat → Nat → Int32) (G2 : Nat → Nat → Int64), mS cy m a f0 n2 z2 F2 G2 f2 ∧ fx [21] [] [] [] n z F G n2 z2 F2 G2 ∧ (0 ≤ (n2 21).toInt ∧ (n2 21).toInt ≤ (n2 4).toInt ∧ (n2 4).toInt ≤ 400) ∧ (n 21).toInt ≤ (n2 21).toInt) := by
  refine gC_of (by decide) (Nat.le_of_ble_eq_true rfl) ?_
  show gG l _ _ _ D cy b cX12_letters 4 _ RX12 "letters" 0 0 f 0 [(0, .ref m)] []
  refine gz_aload_n dX12_letters_0 rfl rfl ?_
  refine scX12_275 (k_X12_see_ hS (by omega)) hS.1 ⟨(Nat.le_of_ble_eq_true rfl), (Nat.le_of_ble_eq_true rfl)⟩ ⟨(Nat.le_of_ble_eq_true rfl), (Nat.le_of_ble_eq_true rfl)⟩ rfl rfl (Nat.le_of_ble_eq_true rfl) dX12_letters_1 ?_
  rintro r_1 f_1 ⟨n_1, z_1, F_1, G_1, hS_1, hx1, hT_1, hm_1, hq_1⟩
  try simp only [(show n_1 4 = (n 4) from (hx1.1 4 (by decide)))] at hT_1 hm_1 hq_1
  refine gz_pop dX12_letters_4 rfl ?_
  refine gz_lconst (v := 0) dX12_letters_5 (by decide) ?_
  refine gz_lstore_n (lv' := [(1, .long 0), (0, .ref m)]) dX12_letters_6 rfl (by decide) rfl ?_
  refine gz_iconst (v := 0) dX12_letters_7 (by decide) ?_
  refine gz_istore_n (lv' := [(3, .int 0), (1, .long 0), (0, .ref m)]) dX12_letters_8 rfl (by decide) rfl ?_
  refine gz_sub (lv' := [(3, .int 0), (1, .long 0), (0, .ref m)]) (by simp [List.lookup]) ?_
  exact l_X12_letters 402 0 0 _ _ _ _ _ hS_1 (fx_tr fx_rf hx1 (by decide)) ((by (try rw [(show n_1 21 = (n_1 21) from rfl)]); (try rw [(show n_1 4 = (n 4) from (hx1.1 4 (by decide)))]); omega)) ((by (try rw [(show n_1 21 = (n_1 21) from rfl)]); omega)) ((by (try rw [(show n_1 21 = (n_1 21) from rfl)]); (try rw [(show n_1 4 = (n 4) from (hx1.1 4 (by decide)))]); have e0 : (0 : Int32).toInt = 0 := rfl; omega))

set_option maxHeartbeats 4000000 in
set_option maxRecDepth 100000 in
theorem l_X12_reads {l : Launch} {D : va_G} {cy : Nat → ClassId} {b : Nat} {m : Nat} {a : Nat → Nat} {f0 : gMem} {n0 : Nat → Int32} {z0 : Nat → Int64} {F0 : Nat → Nat → Int32} {G0 : Nat → Nat → Int64}  {at_ : Int32}  : ∀ (k : Nat) (v : Int32) (n : Nat → Int32) (z : Nat → Int64) (F : Nat → Nat → Int32) (G : Nat → Nat → Int64) (fm : gMem), mS cy m a f0 n z F G fm → fx [21, 22, 23] [] [] [] n0 z0 F0 G0 n z F G → ((0 ≤ (n 21).toInt ∧ (n 21).toInt ≤ (n 4).toInt ∧ (n 4).toInt ≤ 400)) → ((n0 21).toInt ≤ (n 21).toInt) → (0 ≤ at_.toInt ∧ at_.toInt ≤ (n 21).toInt) → ((n 4).toInt - (n 21).toInt < (k : Int)) → gG l (gRm 1 0 0) (gQf D b (pI fun r f2 => ∃ (n2 : Nat → Int32) (z2 : Nat → Int64) (F2 : Nat → Nat → Int32) (G2 : Nat → Nat → Int64), mS cy m a f0 n2 z2 F2 G2 f2 ∧ fx [21, 22, 23] [] [] [] n0 z0 F0 G0 n2 z2 F2 G2 ∧ (r = 0 ∨ r = 1) ∧ (0 ≤ (n2 21).toInt ∧ (n2 21).toInt ≤ (n2 4).toInt ∧ (n2 4).toInt ≤ 400) ∧ (n0 21).toInt ≤ (n2 21).toInt) 0 0) gTt D cy b cX12_reads 3 (some .boolean) RX12 "reads" 0 0 fm 33 [(1, .int at_), (2, .int v), (0, .ref m)] [] := by
  intro k
  induction k with
  | zero =>
    intro v n z F G fm hS hx hT hm ha hk
    exfalso; omega
  | succ k ih =>
    intro v n z F G fm hS hx hT hm ha hk
    refine gz_aload_n dX12_reads_33 rfl rfl ?_
    refine gz_aload_n dX12_reads_34 rfl rfl ?_
    refine mg_272 hS dX12_reads_35 ?_
    refine scX12_283 (k_X12_isDigit (x := (n 21)) hS (by omega) (by omega)) hS.1 ⟨(Nat.le_of_ble_eq_true rfl), (Nat.le_of_ble_eq_true rfl)⟩ ⟨(Nat.le_of_ble_eq_true rfl), (Nat.le_of_ble_eq_true rfl)⟩ rfl rfl (Nat.le_of_ble_eq_true rfl) dX12_reads_38 ?_
    rintro r_1 f9 ⟨hb_1, y9⟩; rw [y9]; rw [(show n 4 = (n 4) from rfl)] at hb_1
    have hbb_1 : r_1 = 0 ∨ r_1 = 1 := hb_1.imp_right And.left
    simp only [fl_eq, Int32.reduceToInt] at hb_1
    refine gz_if_eq (tgt := 85) dX12_reads_41 (by decide) (fun c_41 => ?_) (fun c_41 => ?_)
    ·
      try simp only [mIn_0, lgc_lt, lgc_gt, lgc_le, lgc_ge, lgc_eq] at c_41
      try simp only [fl_lt, fl_le, fl_eq, fL_w, fL_lt, fL_le, tm1, tm10k, tm9, tm99, Int32.reduceToInt, Int64.reduceToInt, Int.not_lt, Int.not_le] at c_41
      refine gz_aload_n dX12_reads_85 rfl rfl ?_
      refine gz_iload_n dX12_reads_86 rfl rfl ?_
      refine mp_287 hS dX12_reads_87 (fun f_2 hS_2 => ?_)
      refine gz_aload_n dX12_reads_90 rfl rfl ?_
      refine mg_272 hS_2 dX12_reads_91 ?_
      refine gz_ev (w := .int (n 21)) rfl ?_
      refine gz_iload_n dX12_reads_94 rfl rfl ?_
      refine gz_isub dX12_reads_95 ?_
      refine gz_iconst (v := 5) dX12_reads_96 (by decide) ?_
      refine gz_icmp_le (tgt := 109) dX12_reads_97 (by decide) (fun c_97 => ?_) (fun c_97 => ?_)
      ·
        try simp only [mIn_0, lgc_lt, lgc_gt, lgc_le, lgc_ge, lgc_eq] at c_97
        try simp only [fl_lt, fl_le, fl_eq, fL_w, fL_lt, fL_le, tm1, tm10k, tm9, tm99, Int32.reduceToInt, Int64.reduceToInt, Int.not_lt, Int.not_le] at c_97
        try have u_97t1 := (T_sub (rfl : ((n 21)).toInt = ((n 21)).toInt) (rfl : (at_).toInt = (at_).toInt) (by omega))
        refine gz_iconst (v := 1) dX12_reads_109 (by decide) ?_
        refine gz_goto (tgt := 114) dX12_reads_110 (by decide) ?_
        exact gz_zret rfl (by first | decide | exact nrb (Or.inl (by assumption)) | exact nrb (by assumption)) dX12_reads_114 (Nat.le_of_ble_eq_true rfl) (Nat.le_of_ble_eq_true rfl) (⟨_, rfl, _, _, _, _, hS_2, (fx_n hx (by decide)), (by first | exact Or.inl rfl | exact Or.inr rfl | assumption | (left; assumption)), (by (try rw [(show (va_up n 23 v) 21 = (n 21) from rfl)]); (try rw [(show (va_up n 23 v) 4 = (n 4) from rfl)]); omega), (by (try rw [(show (va_up n 23 v) 21 = (n 21) from rfl)]); omega)⟩)
      ·
        try simp only [mIn_0, lgc_lt, lgc_gt, lgc_le, lgc_ge, lgc_eq] at c_97
        try simp only [fl_lt, fl_le, fl_eq, fL_w, fL_lt, fL_le, tm1, tm10k, tm9, tm99, Int32.reduceToInt, Int64.reduceToInt, Int.not_lt, Int.not_le] at c_97
        try have u_97t1 := (T_sub (rfl : ((n 21)).toInt = ((n 21)).toInt) (rfl : (at_).toInt = (at_).toInt) (by omega))
        refine gz_aload_n dX12_reads_100 rfl rfl ?_
        refine gz_iconst (v := 1) dX12_reads_101 (by decide) ?_
        refine gz_iload_n dX12_reads_102 rfl rfl ?_
        refine scX12_279 (k_X12_fails (x := 1) (y := at_) hS_2) hS_2.1 ⟨(Nat.le_of_ble_eq_true rfl), (Nat.le_of_ble_eq_true rfl)⟩ ⟨(Nat.le_of_ble_eq_true rfl), (Nat.le_of_ble_eq_true rfl)⟩ rfl rfl (Nat.le_of_ble_eq_true rfl) dX12_reads_103 ?_
        rintro r_3 f_3 ⟨n_3, z_3, F_3, G_3, hS_3, hx3, hr_3⟩
        refine gz_if_eq (tgt := 113) dX12_reads_106 (by decide) (fun c_106 => ?_) (fun c_106 => ?_)
        ·
          try simp only [mIn_0, lgc_lt, lgc_gt, lgc_le, lgc_ge, lgc_eq] at c_106
          try simp only [fl_lt, fl_le, fl_eq, fL_w, fL_lt, fL_le, tm1, tm10k, tm9, tm99, Int32.reduceToInt, Int64.reduceToInt, Int.not_lt, Int.not_le] at c_106
          refine gz_iconst (v := 0) dX12_reads_113 (by decide) ?_
          exact gz_zret rfl (by first | decide | exact nrb (Or.inl (by assumption)) | exact nrb (by assumption)) dX12_reads_114 (Nat.le_of_ble_eq_true rfl) (Nat.le_of_ble_eq_true rfl) (⟨_, rfl, _, _, _, _, hS_3, (fx_tr (fx_n hx (by decide)) hx3 (by decide)), (by first | exact Or.inl rfl | exact Or.inr rfl | assumption | (left; assumption)), (by (try rw [(show n_3 21 = (n 21) from (hx3.1 21 (by decide)))]); (try rw [(show n_3 4 = (n 4) from (hx3.1 4 (by decide)))]); omega), (by (try rw [(show n_3 21 = (n 21) from (hx3.1 21 (by decide)))]); omega)⟩)
        ·
          try simp only [mIn_0, lgc_lt, lgc_gt, lgc_le, lgc_ge, lgc_eq] at c_106
          try simp only [fl_lt, fl_le, fl_eq, fL_w, fL_lt, fL_le, tm1, tm10k, tm9, tm99, Int32.reduceToInt, Int64.reduceToInt, Int.not_lt, Int.not_le] at c_106
          refine gz_iconst (v := 1) dX12_reads_109 (by decide) ?_
          refine gz_goto (tgt := 114) dX12_reads_110 (by decide) ?_
          exact gz_zret rfl (by first | decide | exact nrb (Or.inl (by assumption)) | exact nrb (by assumption)) dX12_reads_114 (Nat.le_of_ble_eq_true rfl) (Nat.le_of_ble_eq_true rfl) (⟨_, rfl, _, _, _, _, hS_3, (fx_tr (fx_n hx (by decide)) hx3 (by decide)), (by first | exact Or.inl rfl | exact Or.inr rfl | assumption | (left; assumption)), (by (try rw [(show n_3 21 = (n 21) from (hx3.1 21 (by decide)))]); (try rw [(show n_3 4 = (n 4) from (hx3.1 4 (by decide)))]); omega), (by (try rw [(show n_3 21 = (n 21) from (hx3.1 21 (by decide)))]); omega)⟩)
    ·
      try simp only [mIn_0, lgc_lt, lgc_gt, lgc_le, lgc_ge, lgc_eq] at c_41
      try simp only [fl_lt, fl_le, fl_eq, fL_w, fL_lt, fL_le, tm1, tm10k, tm9, tm99, Int32.reduceToInt, Int64.reduceToInt, Int.not_lt, Int.not_le] at c_41
      refine gz_aload_n dX12_reads_44 rfl rfl ?_
      refine mg_272 hS dX12_reads_45 ?_
      refine gz_iload_n dX12_reads_48 rfl rfl ?_
      refine gz_isub dX12_reads_49 ?_
      refine gz_iconst (v := 5) dX12_reads_50 (by decide) ?_
      refine gz_icmp_ge (tgt := 72) dX12_reads_51 (by decide) (fun c_51 => ?_) (fun c_51 => ?_)
      ·
        try simp only [mIn_0, lgc_lt, lgc_gt, lgc_le, lgc_ge, lgc_eq] at c_51
        try simp only [fl_lt, fl_le, fl_eq, fL_w, fL_lt, fL_le, tm1, tm10k, tm9, tm99, Int32.reduceToInt, Int64.reduceToInt, Int.not_lt, Int.not_le] at c_51
        try have u_51t1 := (T_sub (rfl : ((n 21)).toInt = ((n 21)).toInt) (rfl : (at_).toInt = (at_).toInt) (by omega))
        refine gz_aload_n dX12_reads_72 rfl rfl ?_
        refine gz_dup dX12_reads_73 rfl ?_
        refine mg_272 hS dX12_reads_74 ?_
        refine gz_iconst (v := 1) dX12_reads_77 (by decide) ?_
        refine gz_iadd dX12_reads_78 ?_
        refine mp_272 hS dX12_reads_79 (fun f_4 hS_4 => ?_)
        refine gz_goto (tgt := 33) dX12_reads_82 (by decide) ?_
        refine gz_sub (lv' := [(1, .int at_), (2, .int v), (0, .ref m)]) (by simp [List.lookup]) ?_
        exact ih v _ _ _ _ _ hS_4 (fx_n hx (by decide)) ((by (try rw [(show (va_up n 21 ((n 21) + 1)) 21 = ((n 21) + 1) from rfl)]); (try rw [(show (va_up n 21 ((n 21) + 1)) 4 = (n 4) from rfl)]); have q1_ := (T_add (rfl : ((n 21)).toInt = ((n 21)).toInt) (show (1 : Int32).toInt = 1 from rfl) (by omega)); omega)) ((by (try rw [(show (va_up n 21 ((n 21) + 1)) 21 = ((n 21) + 1) from rfl)]); have q1_ := (T_add (rfl : ((n 21)).toInt = ((n 21)).toInt) (show (1 : Int32).toInt = 1 from rfl) (by omega)); omega)) ((by (try rw [(show (va_up n 21 ((n 21) + 1)) 21 = ((n 21) + 1) from rfl)]); have q1_ := (T_add (rfl : ((n 21)).toInt = ((n 21)).toInt) (show (1 : Int32).toInt = 1 from rfl) (by omega)); omega)) ((by (try rw [(show (va_up n 21 ((n 21) + 1)) 21 = ((n 21) + 1) from rfl)]); (try rw [(show (va_up n 21 ((n 21) + 1)) 4 = (n 4) from rfl)]); have q1_ := (T_add (rfl : ((n 21)).toInt = ((n 21)).toInt) (show (1 : Int32).toInt = 1 from rfl) (by omega)); omega))
      ·
        try simp only [mIn_0, lgc_lt, lgc_gt, lgc_le, lgc_ge, lgc_eq] at c_51
        try simp only [fl_lt, fl_le, fl_eq, fL_w, fL_lt, fL_le, tm1, tm10k, tm9, tm99, Int32.reduceToInt, Int64.reduceToInt, Int.not_lt, Int.not_le] at c_51
        try have u_51t1 := (T_sub (rfl : ((n 21)).toInt = ((n 21)).toInt) (rfl : (at_).toInt = (at_).toInt) (by omega))
        refine gz_bipush (v := 10) dX12_reads_54 (by decide) ?_
        refine gz_iload_n dX12_reads_56 rfl rfl ?_
        refine gz_imul dX12_reads_57 ?_
        refine gz_aload_n dX12_reads_58 rfl rfl ?_
        refine mg_13 hS dX12_reads_59 ?_
        refine gz_aload_n dX12_reads_62 rfl rfl ?_
        refine mg_272 hS dX12_reads_63 ?_
        refine m_bald 3 hS rfl (N := 400) rfl ((by exact vin_T (rfl : ((n 21)).toInt = ((n 21)).toInt) (by omega) (by omega))) dX12_reads_66 ?_
        refine gz_iadd dX12_reads_67 ?_
        refine gz_bipush (v := 48) dX12_reads_68 (by decide) ?_
        refine gz_isub dX12_reads_70 ?_
        refine gz_istore_n (lv' := [(2, .int (((10 * v) + ((F 3) (Int32.toNatClampNeg (n 21)))) - 48)), (1, .int at_), (0, .ref m)]) dX12_reads_71 rfl (by decide) rfl ?_
        refine gz_aload_n dX12_reads_72 rfl rfl ?_
        refine gz_dup dX12_reads_73 rfl ?_
        refine mg_272 hS dX12_reads_74 ?_
        refine gz_iconst (v := 1) dX12_reads_77 (by decide) ?_
        refine gz_iadd dX12_reads_78 ?_
        refine mp_272 hS dX12_reads_79 (fun f_5 hS_5 => ?_)
        refine gz_goto (tgt := 33) dX12_reads_82 (by decide) ?_
        refine gz_sub (lv' := [(1, .int at_), (2, .int (((10 * v) + ((F 3) (Int32.toNatClampNeg (n 21)))) - 48)), (0, .ref m)]) (by simp [List.lookup]) ?_
        exact ih (((10 * v) + ((F 3) (Int32.toNatClampNeg (n 21)))) - 48) _ _ _ _ _ hS_5 (fx_n hx (by decide)) ((by (try rw [(show (va_up n 21 ((n 21) + 1)) 21 = ((n 21) + 1) from rfl)]); (try rw [(show (va_up n 21 ((n 21) + 1)) 4 = (n 4) from rfl)]); have q1_ := (T_add (rfl : ((n 21)).toInt = ((n 21)).toInt) (show (1 : Int32).toInt = 1 from rfl) (by omega)); omega)) ((by (try rw [(show (va_up n 21 ((n 21) + 1)) 21 = ((n 21) + 1) from rfl)]); have q1_ := (T_add (rfl : ((n 21)).toInt = ((n 21)).toInt) (show (1 : Int32).toInt = 1 from rfl) (by omega)); omega)) ((by (try rw [(show (va_up n 21 ((n 21) + 1)) 21 = ((n 21) + 1) from rfl)]); have q1_ := (T_add (rfl : ((n 21)).toInt = ((n 21)).toInt) (show (1 : Int32).toInt = 1 from rfl) (by omega)); omega)) ((by (try rw [(show (va_up n 21 ((n 21) + 1)) 21 = ((n 21) + 1) from rfl)]); (try rw [(show (va_up n 21 ((n 21) + 1)) 4 = (n 4) from rfl)]); have q1_ := (T_add (rfl : ((n 21)).toInt = ((n 21)).toInt) (show (1 : Int32).toInt = 1 from rfl) (by omega)); omega))

set_option maxHeartbeats 4000000 in
set_option maxRecDepth 100000 in
theorem k_X12_reads {l : Launch} {D : va_G} {cy : Nat → ClassId} {b : Nat} {f : gMem} {m : Nat} {a : Nat → Nat} {f0 : gMem} {n : Nat → Int32} {z : Nat → Int64} {F : Nat → Nat → Int32} {G : Nat → Nat → Int64}   (hS : mS cy m a f0 n z F G f) (hT : (0 ≤ (n 21).toInt ∧ (n 21).toInt ≤ (n 4).toInt ∧ (n 4).toInt ≤ 400)) : gC l D cy b yX12_reads cX12_reads 3 (some .boolean) 1 0 0 [.ref m] f (pI fun r f2 => ∃ (n2 : Nat → Int32) (z2 : Nat → Int64) (F2 : Nat → Nat → Int32) (G2 : Nat → Nat → Int64), mS cy m a f0 n2 z2 F2 G2 f2 ∧ fx [21, 22, 23] [] [] [] n z F G n2 z2 F2 G2 ∧ (r = 0 ∨ r = 1) ∧ (0 ≤ (n2 21).toInt ∧ (n2 21).toInt ≤ (n2 4).toInt ∧ (n2 4).toInt ≤ 400) ∧ (n 21).toInt ≤ (n2 21).toInt) := by
  refine gC_of (by decide) (Nat.le_of_ble_eq_true rfl) ?_
  show gG l _ _ _ D cy b cX12_reads 3 _ RX12 "reads" 0 0 f 0 [(0, .ref m)] []
  refine gz_aload_n dX12_reads_0 rfl rfl ?_
  refine scX12_275 (k_X12_see_ hS (by omega)) hS.1 ⟨(Nat.le_of_ble_eq_true rfl), (Nat.le_of_ble_eq_true rfl)⟩ ⟨(Nat.le_of_ble_eq_true rfl), (Nat.le_of_ble_eq_true rfl)⟩ rfl rfl (Nat.le_of_ble_eq_true rfl) dX12_reads_1 ?_
  rintro r_1 f_1 ⟨n_1, z_1, F_1, G_1, hS_1, hx1, hT_1, hm_1, hq_1⟩
  try simp only [(show n_1 4 = (n 4) from (hx1.1 4 (by decide)))] at hT_1 hm_1 hq_1
  refine gz_pop dX12_reads_4 rfl ?_
  refine gz_aload_n dX12_reads_5 rfl rfl ?_
  refine gz_aload_n dX12_reads_6 rfl rfl ?_
  refine mg_272 hS_1 dX12_reads_7 ?_
  refine gz_ev (w := .int (n_1 21)) rfl ?_
  refine scX12_283 (k_X12_isDigit (x := (n_1 21)) hS_1 (by (try rw [(show n_1 21 = (n_1 21) from rfl)]); (try rw [(show n_1 4 = (n 4) from (hx1.1 4 (by decide)))]); omega) (by (try rw [(show n_1 21 = (n_1 21) from rfl)]); (try rw [(show n_1 4 = (n 4) from (hx1.1 4 (by decide)))]); omega)) hS_1.1 ⟨(Nat.le_of_ble_eq_true rfl), (Nat.le_of_ble_eq_true rfl)⟩ ⟨(Nat.le_of_ble_eq_true rfl), (Nat.le_of_ble_eq_true rfl)⟩ rfl rfl (Nat.le_of_ble_eq_true rfl) dX12_reads_10 ?_
  rintro r_2 f9 ⟨hb_2, y9⟩; rw [y9]; rw [(show n_1 4 = (n 4) from (hx1.1 4 (by decide)))] at hb_2
  have hbb_2 : r_2 = 0 ∨ r_2 = 1 := hb_2.imp_right And.left
  simp only [fl_eq, Int32.reduceToInt] at hb_2
  refine gz_if_ne (tgt := 26) dX12_reads_13 (by decide) (fun c_13 => ?_) (fun c_13 => ?_)
  ·
    try simp only [mIn_0, lgc_lt, lgc_gt, lgc_le, lgc_ge, lgc_eq] at c_13
    try simp only [fl_lt, fl_le, fl_eq, fL_w, fL_lt, fL_le, tm1, tm10k, tm9, tm99, Int32.reduceToInt, Int64.reduceToInt, Int.not_lt, Int.not_le] at c_13
    refine gz_aload_n dX12_reads_26 rfl rfl ?_
    refine mg_272 hS_1 dX12_reads_27 ?_
    refine gz_ev (w := .int (n_1 21)) rfl ?_
    refine gz_istore_n (lv' := [(1, .int (n_1 21)), (0, .ref m)]) dX12_reads_30 rfl (by decide) rfl ?_
    refine gz_iconst (v := 0) dX12_reads_31 (by decide) ?_
    refine gz_istore_n (lv' := [(2, .int 0), (1, .int (n_1 21)), (0, .ref m)]) dX12_reads_32 rfl (by decide) rfl ?_
    refine gz_sub (lv' := [(1, .int (n_1 21)), (2, .int 0), (0, .ref m)]) (by simp [List.lookup]) ?_
    exact l_X12_reads 402 0 _ _ _ _ _ hS_1 (fx_tr fx_rf hx1 (by decide)) ((by (try rw [(show n_1 21 = (n_1 21) from rfl)]); (try rw [(show n_1 4 = (n 4) from (hx1.1 4 (by decide)))]); omega)) ((by (try rw [(show n_1 21 = (n_1 21) from rfl)]); omega)) ((by (try rw [(show n_1 21 = (n_1 21) from rfl)]); omega)) ((by (try rw [(show n_1 21 = (n_1 21) from rfl)]); (try rw [(show n_1 4 = (n 4) from (hx1.1 4 (by decide)))]); omega))
  ·
    try simp only [mIn_0, lgc_lt, lgc_gt, lgc_le, lgc_ge, lgc_eq] at c_13
    try simp only [fl_lt, fl_le, fl_eq, fL_w, fL_lt, fL_le, tm1, tm10k, tm9, tm99, Int32.reduceToInt, Int64.reduceToInt, Int.not_lt, Int.not_le] at c_13
    refine gz_aload_n dX12_reads_16 rfl rfl ?_
    refine gz_iconst (v := 0) dX12_reads_17 (by decide) ?_
    refine gz_aload_n dX12_reads_18 rfl rfl ?_
    refine mg_272 hS_1 dX12_reads_19 ?_
    refine gz_ev (w := .int (n_1 21)) rfl ?_
    refine scX12_279 (k_X12_fails (x := 0) (y := (n_1 21)) hS_1) hS_1.1 ⟨(Nat.le_of_ble_eq_true rfl), (Nat.le_of_ble_eq_true rfl)⟩ ⟨(Nat.le_of_ble_eq_true rfl), (Nat.le_of_ble_eq_true rfl)⟩ rfl rfl (Nat.le_of_ble_eq_true rfl) dX12_reads_22 ?_
    rintro r_3 f_3 ⟨n_3, z_3, F_3, G_3, hS_3, hx3, hr_3⟩
    exact gz_zret rfl (by first | decide | exact nrb (Or.inl (by assumption)) | exact nrb (by assumption)) dX12_reads_25 (Nat.le_of_ble_eq_true rfl) (Nat.le_of_ble_eq_true rfl) (⟨_, rfl, _, _, _, _, hS_3, (fx_tr (fx_tr fx_rf hx1 (by decide)) hx3 (by decide)), (by first | exact Or.inl rfl | exact Or.inr rfl | assumption | (left; assumption)), (by (try rw [(show n_3 21 = (n_1 21) from (hx3.1 21 (by decide)))]); (try rw [(show n_3 4 = (n 4) from ((hx3.1 4 (by decide)).trans (hx1.1 4 (by decide))))]); omega), (by (try rw [(show n_3 21 = (n_1 21) from (hx3.1 21 (by decide)))]); omega)⟩)
