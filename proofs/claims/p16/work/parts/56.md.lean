set_option maxHeartbeats 4000000 in
set_option maxRecDepth 100000 in
theorem k_X12_asNow {l : Launch} {D : va_G} {cy : Nat → ClassId} {b : Nat} {f : gMem} {m : Nat} {a : Nat → Nat} {f0 : gMem} {n : Nat → Int32} {z : Nat → Int64} {F : Nat → Nat → Int32} {G : Nat → Nat → Int64}   (hS : mS cy m a f0 n z F G f) (a0 : 0 ≤ (n 0).toInt ∧ (n 0).toInt ≤ 399) : gC l D cy b yX12_asNow cX12_asNow 2 none 1 0 0 [.ref m] f (pV fun f2 => ∃ (n2 : Nat → Int32) (z2 : Nat → Int64) (F2 : Nat → Nat → Int32) (G2 : Nat → Nat → Int64), mS cy m a f0 n2 z2 F2 G2 f2 ∧ fx [] [29] [] [28] n z F G n2 z2 F2 G2) := by
  refine gC_of (by decide) (Nat.le_of_ble_eq_true rfl) ?_
  show gG l _ _ _ D cy b cX12_asNow 2 _ RX12 "asNow" 0 0 f 0 [(0, .ref m)] []
  refine gz_aload_n dX12_asNow_0 rfl rfl ?_
  refine gz_aload_n dX12_asNow_1 rfl rfl ?_
  refine mg_249 hS dX12_asNow_2 ?_
  refine gz_i2l dX12_asNow_5 ?_
  refine mp_340 hS dX12_asNow_6 (fun f_1 hS_1 => ?_)
  refine gz_iconst (v := 0) dX12_asNow_9 (by decide) ?_
  refine gz_istore_n (lv' := [(1, .int 0), (0, .ref m)]) dX12_asNow_10 rfl (by decide) rfl ?_
  refine gz_iload_n dX12_asNow_11 rfl rfl ?_
  refine gz_bipush (v := 6) dX12_asNow_12 (by decide) ?_
  refine gz_icmp_ge (tgt := 39) dX12_asNow_14 (by decide) (fun c_14 => ?_) (fun c_14 => ?_)
  · exact absurd c_14 (by decide)
  ·
    try simp only [mIn_0, lgc_lt, lgc_gt, lgc_le, lgc_ge, lgc_eq] at c_14
    try simp only [fl_lt, fl_le, fl_eq, fL_w, fL_lt, fL_le, tm1, tm10k, tm9, tm99, Int32.reduceToInt, Int64.reduceToInt, Int.not_lt, Int.not_le] at c_14
    refine gz_aload_n dX12_asNow_17 rfl rfl ?_
    refine mg_94 hS_1 dX12_asNow_18 ?_
    refine gz_iload_n dX12_asNow_21 rfl rfl ?_
    refine gz_aload_n dX12_asNow_22 rfl rfl ?_
    refine gz_iload_n dX12_asNow_23 rfl rfl ?_
    refine gz_aload_n dX12_asNow_24 rfl rfl ?_
    refine mg_249 hS_1 dX12_asNow_25 ?_
    refine gz_ev (w := .int (n 0)) rfl ?_
    refine scX12_258 (k_X12_thingOn (x := 0) (y := (n 0)) hS_1 (by decide) (by omega)) hS_1.1 ⟨(Nat.le_of_ble_eq_true rfl), (Nat.le_of_ble_eq_true rfl)⟩ ⟨(Nat.le_of_ble_eq_true rfl), (Nat.le_of_ble_eq_true rfl)⟩ rfl rfl (Nat.le_of_ble_eq_true rfl) dX12_asNow_28 ?_
    rintro r_2 f9 ⟨-, y9⟩; rw [y9]
    refine gz_i2l dX12_asNow_31 ?_
    refine m_last 28 hS_1 rfl (N := 6) rfl (vin_T (v := 0) rfl (by decide) (by decide)) dX12_asNow_32 (fun f_3 hS_3q => ?_)
    have hS_3 : mS cy m a f0 n (va_up z 29 ((n 0).toInt64)) F (va_up G 28 (vp_updL (G 28) (Int32.toNatClampNeg 0) r_2.toInt64)) f_3 := hS_3q
    refine gz_iinc (v := 1) (lv' := [(1, .int 1), (0, .ref m)]) dX12_asNow_33 rfl (by decide) (by decide) rfl ?_
    refine gz_goto (tgt := 11) dX12_asNow_36 (by decide) ?_
    refine gz_iload_n dX12_asNow_11 rfl rfl ?_
    refine gz_bipush (v := 6) dX12_asNow_12 (by decide) ?_
    refine gz_icmp_ge (tgt := 39) dX12_asNow_14 (by decide) (fun c_14_1 => ?_) (fun c_14_1 => ?_)
    · exact absurd c_14_1 (by decide)
    ·
      try simp only [mIn_0, lgc_lt, lgc_gt, lgc_le, lgc_ge, lgc_eq] at c_14_1
      try simp only [fl_lt, fl_le, fl_eq, fL_w, fL_lt, fL_le, tm1, tm10k, tm9, tm99, Int32.reduceToInt, Int64.reduceToInt, Int.not_lt, Int.not_le] at c_14_1
      refine gz_aload_n dX12_asNow_17 rfl rfl ?_
      refine mg_94 hS_3 dX12_asNow_18 ?_
      refine gz_iload_n dX12_asNow_21 rfl rfl ?_
      refine gz_aload_n dX12_asNow_22 rfl rfl ?_
      refine gz_iload_n dX12_asNow_23 rfl rfl ?_
      refine gz_aload_n dX12_asNow_24 rfl rfl ?_
      refine mg_249 hS_3 dX12_asNow_25 ?_
      refine gz_ev (w := .int (n 0)) rfl ?_
      refine scX12_258 (k_X12_thingOn (x := 1) (y := (n 0)) hS_3 (by decide) (by omega)) hS_3.1 ⟨(Nat.le_of_ble_eq_true rfl), (Nat.le_of_ble_eq_true rfl)⟩ ⟨(Nat.le_of_ble_eq_true rfl), (Nat.le_of_ble_eq_true rfl)⟩ rfl rfl (Nat.le_of_ble_eq_true rfl) dX12_asNow_28 ?_
      rintro r_4 f9 ⟨-, y9⟩; rw [y9]
      refine gz_i2l dX12_asNow_31 ?_
      refine m_last 28 hS_3 rfl (N := 6) rfl (vin_T (v := 1) rfl (by decide) (by decide)) dX12_asNow_32 (fun f_5 hS_5q => ?_)
      have hS_5 : mS cy m a f0 n (va_up z 29 ((n 0).toInt64)) F (va_up (va_up G 28 (vp_updL (G 28) (Int32.toNatClampNeg 0) r_2.toInt64)) 28 (vp_updL (vp_updL (G 28) (Int32.toNatClampNeg 0) r_2.toInt64) (Int32.toNatClampNeg 1) r_4.toInt64)) f_5 := hS_5q
      refine gz_iinc (v := 2) (lv' := [(1, .int 2), (0, .ref m)]) dX12_asNow_33 rfl (by decide) (by decide) rfl ?_
      refine gz_goto (tgt := 11) dX12_asNow_36 (by decide) ?_
      refine gz_iload_n dX12_asNow_11 rfl rfl ?_
      refine gz_bipush (v := 6) dX12_asNow_12 (by decide) ?_
      refine gz_icmp_ge (tgt := 39) dX12_asNow_14 (by decide) (fun c_14_2 => ?_) (fun c_14_2 => ?_)
      · exact absurd c_14_2 (by decide)
      ·
        try simp only [mIn_0, lgc_lt, lgc_gt, lgc_le, lgc_ge, lgc_eq] at c_14_2
        try simp only [fl_lt, fl_le, fl_eq, fL_w, fL_lt, fL_le, tm1, tm10k, tm9, tm99, Int32.reduceToInt, Int64.reduceToInt, Int.not_lt, Int.not_le] at c_14_2
        refine gz_aload_n dX12_asNow_17 rfl rfl ?_
        refine mg_94 hS_5 dX12_asNow_18 ?_
        refine gz_iload_n dX12_asNow_21 rfl rfl ?_
        refine gz_aload_n dX12_asNow_22 rfl rfl ?_
        refine gz_iload_n dX12_asNow_23 rfl rfl ?_
        refine gz_aload_n dX12_asNow_24 rfl rfl ?_
        refine mg_249 hS_5 dX12_asNow_25 ?_
        refine gz_ev (w := .int (n 0)) rfl ?_
        refine scX12_258 (k_X12_thingOn (x := 2) (y := (n 0)) hS_5 (by decide) (by omega)) hS_5.1 ⟨(Nat.le_of_ble_eq_true rfl), (Nat.le_of_ble_eq_true rfl)⟩ ⟨(Nat.le_of_ble_eq_true rfl), (Nat.le_of_ble_eq_true rfl)⟩ rfl rfl (Nat.le_of_ble_eq_true rfl) dX12_asNow_28 ?_
        rintro r_6 f9 ⟨-, y9⟩; rw [y9]
        refine gz_i2l dX12_asNow_31 ?_
        refine m_last 28 hS_5 rfl (N := 6) rfl (vin_T (v := 2) rfl (by decide) (by decide)) dX12_asNow_32 (fun f_7 hS_7q => ?_)
        have hS_7 : mS cy m a f0 n (va_up z 29 ((n 0).toInt64)) F (va_up (va_up (va_up G 28 (vp_updL (G 28) (Int32.toNatClampNeg 0) r_2.toInt64)) 28 (vp_updL (vp_updL (G 28) (Int32.toNatClampNeg 0) r_2.toInt64) (Int32.toNatClampNeg 1) r_4.toInt64)) 28 (vp_updL (vp_updL (vp_updL (G 28) (Int32.toNatClampNeg 0) r_2.toInt64) (Int32.toNatClampNeg 1) r_4.toInt64) (Int32.toNatClampNeg 2) r_6.toInt64)) f_7 := hS_7q
        refine gz_iinc (v := 3) (lv' := [(1, .int 3), (0, .ref m)]) dX12_asNow_33 rfl (by decide) (by decide) rfl ?_
        refine gz_goto (tgt := 11) dX12_asNow_36 (by decide) ?_
        refine gz_iload_n dX12_asNow_11 rfl rfl ?_
        refine gz_bipush (v := 6) dX12_asNow_12 (by decide) ?_
        refine gz_icmp_ge (tgt := 39) dX12_asNow_14 (by decide) (fun c_14_3 => ?_) (fun c_14_3 => ?_)
        · exact absurd c_14_3 (by decide)
        ·
          try simp only [mIn_0, lgc_lt, lgc_gt, lgc_le, lgc_ge, lgc_eq] at c_14_3
          try simp only [fl_lt, fl_le, fl_eq, fL_w, fL_lt, fL_le, tm1, tm10k, tm9, tm99, Int32.reduceToInt, Int64.reduceToInt, Int.not_lt, Int.not_le] at c_14_3
          refine gz_aload_n dX12_asNow_17 rfl rfl ?_
          refine mg_94 hS_7 dX12_asNow_18 ?_
          refine gz_iload_n dX12_asNow_21 rfl rfl ?_
          refine gz_aload_n dX12_asNow_22 rfl rfl ?_
          refine gz_iload_n dX12_asNow_23 rfl rfl ?_
          refine gz_aload_n dX12_asNow_24 rfl rfl ?_
          refine mg_249 hS_7 dX12_asNow_25 ?_
          refine gz_ev (w := .int (n 0)) rfl ?_
          refine scX12_258 (k_X12_thingOn (x := 3) (y := (n 0)) hS_7 (by decide) (by omega)) hS_7.1 ⟨(Nat.le_of_ble_eq_true rfl), (Nat.le_of_ble_eq_true rfl)⟩ ⟨(Nat.le_of_ble_eq_true rfl), (Nat.le_of_ble_eq_true rfl)⟩ rfl rfl (Nat.le_of_ble_eq_true rfl) dX12_asNow_28 ?_
          rintro r_8 f9 ⟨-, y9⟩; rw [y9]
          refine gz_i2l dX12_asNow_31 ?_
          refine m_last 28 hS_7 rfl (N := 6) rfl (vin_T (v := 3) rfl (by decide) (by decide)) dX12_asNow_32 (fun f_9 hS_9q => ?_)
          have hS_9 : mS cy m a f0 n (va_up z 29 ((n 0).toInt64)) F (va_up (va_up (va_up (va_up G 28 (vp_updL (G 28) (Int32.toNatClampNeg 0) r_2.toInt64)) 28 (vp_updL (vp_updL (G 28) (Int32.toNatClampNeg 0) r_2.toInt64) (Int32.toNatClampNeg 1) r_4.toInt64)) 28 (vp_updL (vp_updL (vp_updL (G 28) (Int32.toNatClampNeg 0) r_2.toInt64) (Int32.toNatClampNeg 1) r_4.toInt64) (Int32.toNatClampNeg 2) r_6.toInt64)) 28 (vp_updL (vp_updL (vp_updL (vp_updL (G 28) (Int32.toNatClampNeg 0) r_2.toInt64) (Int32.toNatClampNeg 1) r_4.toInt64) (Int32.toNatClampNeg 2) r_6.toInt64) (Int32.toNatClampNeg 3) r_8.toInt64)) f_9 := hS_9q
          refine gz_iinc (v := 4) (lv' := [(1, .int 4), (0, .ref m)]) dX12_asNow_33 rfl (by decide) (by decide) rfl ?_
          refine gz_goto (tgt := 11) dX12_asNow_36 (by decide) ?_
          refine gz_iload_n dX12_asNow_11 rfl rfl ?_
          refine gz_bipush (v := 6) dX12_asNow_12 (by decide) ?_
          refine gz_icmp_ge (tgt := 39) dX12_asNow_14 (by decide) (fun c_14_4 => ?_) (fun c_14_4 => ?_)
          · exact absurd c_14_4 (by decide)
          ·
            try simp only [mIn_0, lgc_lt, lgc_gt, lgc_le, lgc_ge, lgc_eq] at c_14_4
            try simp only [fl_lt, fl_le, fl_eq, fL_w, fL_lt, fL_le, tm1, tm10k, tm9, tm99, Int32.reduceToInt, Int64.reduceToInt, Int.not_lt, Int.not_le] at c_14_4
            refine gz_aload_n dX12_asNow_17 rfl rfl ?_
            refine mg_94 hS_9 dX12_asNow_18 ?_
            refine gz_iload_n dX12_asNow_21 rfl rfl ?_
            refine gz_aload_n dX12_asNow_22 rfl rfl ?_
            refine gz_iload_n dX12_asNow_23 rfl rfl ?_
            refine gz_aload_n dX12_asNow_24 rfl rfl ?_
            refine mg_249 hS_9 dX12_asNow_25 ?_
            refine gz_ev (w := .int (n 0)) rfl ?_
            refine scX12_258 (k_X12_thingOn (x := 4) (y := (n 0)) hS_9 (by decide) (by omega)) hS_9.1 ⟨(Nat.le_of_ble_eq_true rfl), (Nat.le_of_ble_eq_true rfl)⟩ ⟨(Nat.le_of_ble_eq_true rfl), (Nat.le_of_ble_eq_true rfl)⟩ rfl rfl (Nat.le_of_ble_eq_true rfl) dX12_asNow_28 ?_
            rintro r_10 f9 ⟨-, y9⟩; rw [y9]
            refine gz_i2l dX12_asNow_31 ?_
            refine m_last 28 hS_9 rfl (N := 6) rfl (vin_T (v := 4) rfl (by decide) (by decide)) dX12_asNow_32 (fun f_11 hS_11q => ?_)
            have hS_11 : mS cy m a f0 n (va_up z 29 ((n 0).toInt64)) F (va_up (va_up (va_up (va_up (va_up G 28 (vp_updL (G 28) (Int32.toNatClampNeg 0) r_2.toInt64)) 28 (vp_updL (vp_updL (G 28) (Int32.toNatClampNeg 0) r_2.toInt64) (Int32.toNatClampNeg 1) r_4.toInt64)) 28 (vp_updL (vp_updL (vp_updL (G 28) (Int32.toNatClampNeg 0) r_2.toInt64) (Int32.toNatClampNeg 1) r_4.toInt64) (Int32.toNatClampNeg 2) r_6.toInt64)) 28 (vp_updL (vp_updL (vp_updL (vp_updL (G 28) (Int32.toNatClampNeg 0) r_2.toInt64) (Int32.toNatClampNeg 1) r_4.toInt64) (Int32.toNatClampNeg 2) r_6.toInt64) (Int32.toNatClampNeg 3) r_8.toInt64)) 28 (vp_updL (vp_updL (vp_updL (vp_updL (vp_updL (G 28) (Int32.toNatClampNeg 0) r_2.toInt64) (Int32.toNatClampNeg 1) r_4.toInt64) (Int32.toNatClampNeg 2) r_6.toInt64) (Int32.toNatClampNeg 3) r_8.toInt64) (Int32.toNatClampNeg 4) r_10.toInt64)) f_11 := hS_11q
            refine gz_iinc (v := 5) (lv' := [(1, .int 5), (0, .ref m)]) dX12_asNow_33 rfl (by decide) (by decide) rfl ?_
            refine gz_goto (tgt := 11) dX12_asNow_36 (by decide) ?_
            refine gz_iload_n dX12_asNow_11 rfl rfl ?_
            refine gz_bipush (v := 6) dX12_asNow_12 (by decide) ?_
            refine gz_icmp_ge (tgt := 39) dX12_asNow_14 (by decide) (fun c_14_5 => ?_) (fun c_14_5 => ?_)
            · exact absurd c_14_5 (by decide)
            ·
              try simp only [mIn_0, lgc_lt, lgc_gt, lgc_le, lgc_ge, lgc_eq] at c_14_5
              try simp only [fl_lt, fl_le, fl_eq, fL_w, fL_lt, fL_le, tm1, tm10k, tm9, tm99, Int32.reduceToInt, Int64.reduceToInt, Int.not_lt, Int.not_le] at c_14_5
              refine gz_aload_n dX12_asNow_17 rfl rfl ?_
              refine mg_94 hS_11 dX12_asNow_18 ?_
              refine gz_iload_n dX12_asNow_21 rfl rfl ?_
              refine gz_aload_n dX12_asNow_22 rfl rfl ?_
              refine gz_iload_n dX12_asNow_23 rfl rfl ?_
              refine gz_aload_n dX12_asNow_24 rfl rfl ?_
              refine mg_249 hS_11 dX12_asNow_25 ?_
              refine gz_ev (w := .int (n 0)) rfl ?_
              refine scX12_258 (k_X12_thingOn (x := 5) (y := (n 0)) hS_11 (by decide) (by omega)) hS_11.1 ⟨(Nat.le_of_ble_eq_true rfl), (Nat.le_of_ble_eq_true rfl)⟩ ⟨(Nat.le_of_ble_eq_true rfl), (Nat.le_of_ble_eq_true rfl)⟩ rfl rfl (Nat.le_of_ble_eq_true rfl) dX12_asNow_28 ?_
              rintro r_12 f9 ⟨-, y9⟩; rw [y9]
              refine gz_i2l dX12_asNow_31 ?_
              refine m_last 28 hS_11 rfl (N := 6) rfl (vin_T (v := 5) rfl (by decide) (by decide)) dX12_asNow_32 (fun f_13 hS_13q => ?_)
              have hS_13 : mS cy m a f0 n (va_up z 29 ((n 0).toInt64)) F (va_up (va_up (va_up (va_up (va_up (va_up G 28 (vp_updL (G 28) (Int32.toNatClampNeg 0) r_2.toInt64)) 28 (vp_updL (vp_updL (G 28) (Int32.toNatClampNeg 0) r_2.toInt64) (Int32.toNatClampNeg 1) r_4.toInt64)) 28 (vp_updL (vp_updL (vp_updL (G 28) (Int32.toNatClampNeg 0) r_2.toInt64) (Int32.toNatClampNeg 1) r_4.toInt64) (Int32.toNatClampNeg 2) r_6.toInt64)) 28 (vp_updL (vp_updL (vp_updL (vp_updL (G 28) (Int32.toNatClampNeg 0) r_2.toInt64) (Int32.toNatClampNeg 1) r_4.toInt64) (Int32.toNatClampNeg 2) r_6.toInt64) (Int32.toNatClampNeg 3) r_8.toInt64)) 28 (vp_updL (vp_updL (vp_updL (vp_updL (vp_updL (G 28) (Int32.toNatClampNeg 0) r_2.toInt64) (Int32.toNatClampNeg 1) r_4.toInt64) (Int32.toNatClampNeg 2) r_6.toInt64) (Int32.toNatClampNeg 3) r_8.toInt64) (Int32.toNatClampNeg 4) r_10.toInt64)) 28 (vp_updL (vp_updL (vp_updL (vp_updL (vp_updL (vp_updL (G 28) (Int32.toNatClampNeg 0) r_2.toInt64) (Int32.toNatClampNeg 1) r_4.toInt64) (Int32.toNatClampNeg 2) r_6.toInt64) (Int32.toNatClampNeg 3) r_8.toInt64) (Int32.toNatClampNeg 4) r_10.toInt64) (Int32.toNatClampNeg 5) r_12.toInt64)) f_13 := hS_13q
              refine gz_iinc (v := 6) (lv' := [(1, .int 6), (0, .ref m)]) dX12_asNow_33 rfl (by decide) (by decide) rfl ?_
              refine gz_goto (tgt := 11) dX12_asNow_36 (by decide) ?_
              refine gz_iload_n dX12_asNow_11 rfl rfl ?_
              refine gz_bipush (v := 6) dX12_asNow_12 (by decide) ?_
              refine gz_icmp_ge (tgt := 39) dX12_asNow_14 (by decide) (fun c_14_6 => ?_) (fun c_14_6 => ?_)
              ·
                try simp only [mIn_0, lgc_lt, lgc_gt, lgc_le, lgc_ge, lgc_eq] at c_14_6
                try simp only [fl_lt, fl_le, fl_eq, fL_w, fL_lt, fL_le, tm1, tm10k, tm9, tm99, Int32.reduceToInt, Int64.reduceToInt, Int.not_lt, Int.not_le] at c_14_6
                exact gz_vret rfl dX12_asNow_39 (Nat.le_of_ble_eq_true rfl) (Nat.le_of_ble_eq_true rfl) (⟨rfl, _, _, _, _, hS_13, (fx_G (fx_G (fx_G (fx_G (fx_G (fx_G (fx_z fx_rf (by decide)) (by decide)) (by decide)) (by decide)) (by decide)) (by decide)) (by decide))⟩)
              · exact absurd c_14_6 (by decide)

set_option maxHeartbeats 4000000 in
set_option maxRecDepth 100000 in
theorem k_X12_starts {l : Launch} {D : va_G} {cy : Nat → ClassId} {b : Nat} {f : gMem} {m : Nat} {a : Nat → Nat} {f0 : gMem} {n : Nat → Int32} {z : Nat → Int64} {F : Nat → Nat → Int32} {G : Nat → Nat → Int64}   (hS : mS cy m a f0 n z F G f) (a0 : 0 ≤ (n 0).toInt ∧ (n 0).toInt ≤ 399) : gC l D cy b yX12_starts cX12_starts 2 none 1 0 0 [.ref m] f (pV fun f2 => ∃ (n2 : Nat → Int32) (z2 : Nat → Int64) (F2 : Nat → Nat → Int32) (G2 : Nat → Nat → Int64), mS cy m a f0 n2 z2 F2 G2 f2 ∧ fx [] [] [56] [] n z F G n2 z2 F2 G2) := by
  refine gC_of (by decide) (Nat.le_of_ble_eq_true rfl) ?_
  show gG l _ _ _ D cy b cX12_starts 2 _ RX12 "starts" 0 0 f 0 [(0, .ref m)] []
  refine gz_iconst (v := 0) dX12_starts_0 (by decide) ?_
  refine gz_istore_n (lv' := [(1, .int 0), (0, .ref m)]) dX12_starts_1 rfl (by decide) rfl ?_
  refine gz_iload_n dX12_starts_2 rfl rfl ?_
  refine gz_bipush (v := 6) dX12_starts_3 (by decide) ?_
  refine gz_icmp_ge (tgt := 29) dX12_starts_5 (by decide) (fun c_5 => ?_) (fun c_5 => ?_)
  · exact absurd c_5 (by decide)
  ·
    try simp only [mIn_0, lgc_lt, lgc_gt, lgc_le, lgc_ge, lgc_eq] at c_5
    try simp only [fl_lt, fl_le, fl_eq, fL_w, fL_lt, fL_le, tm1, tm10k, tm9, tm99, Int32.reduceToInt, Int64.reduceToInt, Int.not_lt, Int.not_le] at c_5
    refine gz_aload_n dX12_starts_8 rfl rfl ?_
    refine mg_161 hS dX12_starts_9 ?_
    refine gz_iload_n dX12_starts_12 rfl rfl ?_
    refine gz_aload_n dX12_starts_13 rfl rfl ?_
    refine gz_iload_n dX12_starts_14 rfl rfl ?_
    refine gz_aload_n dX12_starts_15 rfl rfl ?_
    refine mg_249 hS dX12_starts_16 ?_
    refine scX12_258 (k_X12_thingOn (x := 0) (y := (n 0)) hS (by decide) (by omega)) hS.1 ⟨(Nat.le_of_ble_eq_true rfl), (Nat.le_of_ble_eq_true rfl)⟩ ⟨(Nat.le_of_ble_eq_true rfl), (Nat.le_of_ble_eq_true rfl)⟩ rfl rfl (Nat.le_of_ble_eq_true rfl) dX12_starts_19 ?_
    rintro r_1 f9 ⟨-, y9⟩; rw [y9]
    refine m_iast 56 hS rfl (N := 6) rfl (vin_T (v := 0) rfl (by decide) (by decide)) dX12_starts_22 (fun f_2 hS_2q => ?_)
    have hS_2 : mS cy m a f0 n z (va_up F 56 (upd (F 56) (Int32.toNatClampNeg 0) r_1)) G f_2 := hS_2q
    refine gz_iinc (v := 1) (lv' := [(1, .int 1), (0, .ref m)]) dX12_starts_23 rfl (by decide) (by decide) rfl ?_
    refine gz_goto (tgt := 2) dX12_starts_26 (by decide) ?_
    refine gz_iload_n dX12_starts_2 rfl rfl ?_
    refine gz_bipush (v := 6) dX12_starts_3 (by decide) ?_
    refine gz_icmp_ge (tgt := 29) dX12_starts_5 (by decide) (fun c_5_1 => ?_) (fun c_5_1 => ?_)
    · exact absurd c_5_1 (by decide)
    ·
      try simp only [mIn_0, lgc_lt, lgc_gt, lgc_le, lgc_ge, lgc_eq] at c_5_1
      try simp only [fl_lt, fl_le, fl_eq, fL_w, fL_lt, fL_le, tm1, tm10k, tm9, tm99, Int32.reduceToInt, Int64.reduceToInt, Int.not_lt, Int.not_le] at c_5_1
      refine gz_aload_n dX12_starts_8 rfl rfl ?_
      refine mg_161 hS_2 dX12_starts_9 ?_
      refine gz_iload_n dX12_starts_12 rfl rfl ?_
      refine gz_aload_n dX12_starts_13 rfl rfl ?_
      refine gz_iload_n dX12_starts_14 rfl rfl ?_
      refine gz_aload_n dX12_starts_15 rfl rfl ?_
      refine mg_249 hS_2 dX12_starts_16 ?_
      refine gz_ev (w := .int (n 0)) rfl ?_
      refine scX12_258 (k_X12_thingOn (x := 1) (y := (n 0)) hS_2 (by decide) (by omega)) hS_2.1 ⟨(Nat.le_of_ble_eq_true rfl), (Nat.le_of_ble_eq_true rfl)⟩ ⟨(Nat.le_of_ble_eq_true rfl), (Nat.le_of_ble_eq_true rfl)⟩ rfl rfl (Nat.le_of_ble_eq_true rfl) dX12_starts_19 ?_
      rintro r_3 f9 ⟨-, y9⟩; rw [y9]
      refine m_iast 56 hS_2 rfl (N := 6) rfl (vin_T (v := 1) rfl (by decide) (by decide)) dX12_starts_22 (fun f_4 hS_4q => ?_)
      have hS_4 : mS cy m a f0 n z (va_up (va_up F 56 (upd (F 56) (Int32.toNatClampNeg 0) r_1)) 56 (upd (upd (F 56) (Int32.toNatClampNeg 0) r_1) (Int32.toNatClampNeg 1) r_3)) G f_4 := hS_4q
      refine gz_iinc (v := 2) (lv' := [(1, .int 2), (0, .ref m)]) dX12_starts_23 rfl (by decide) (by decide) rfl ?_
      refine gz_goto (tgt := 2) dX12_starts_26 (by decide) ?_
      refine gz_iload_n dX12_starts_2 rfl rfl ?_
      refine gz_bipush (v := 6) dX12_starts_3 (by decide) ?_
      refine gz_icmp_ge (tgt := 29) dX12_starts_5 (by decide) (fun c_5_2 => ?_) (fun c_5_2 => ?_)
      · exact absurd c_5_2 (by decide)
      ·
        try simp only [mIn_0, lgc_lt, lgc_gt, lgc_le, lgc_ge, lgc_eq] at c_5_2
        try simp only [fl_lt, fl_le, fl_eq, fL_w, fL_lt, fL_le, tm1, tm10k, tm9, tm99, Int32.reduceToInt, Int64.reduceToInt, Int.not_lt, Int.not_le] at c_5_2
        refine gz_aload_n dX12_starts_8 rfl rfl ?_
        refine mg_161 hS_4 dX12_starts_9 ?_
        refine gz_iload_n dX12_starts_12 rfl rfl ?_
        refine gz_aload_n dX12_starts_13 rfl rfl ?_
        refine gz_iload_n dX12_starts_14 rfl rfl ?_
        refine gz_aload_n dX12_starts_15 rfl rfl ?_
        refine mg_249 hS_4 dX12_starts_16 ?_
        refine gz_ev (w := .int (n 0)) rfl ?_
        refine scX12_258 (k_X12_thingOn (x := 2) (y := (n 0)) hS_4 (by decide) (by omega)) hS_4.1 ⟨(Nat.le_of_ble_eq_true rfl), (Nat.le_of_ble_eq_true rfl)⟩ ⟨(Nat.le_of_ble_eq_true rfl), (Nat.le_of_ble_eq_true rfl)⟩ rfl rfl (Nat.le_of_ble_eq_true rfl) dX12_starts_19 ?_
        rintro r_5 f9 ⟨-, y9⟩; rw [y9]
        refine m_iast 56 hS_4 rfl (N := 6) rfl (vin_T (v := 2) rfl (by decide) (by decide)) dX12_starts_22 (fun f_6 hS_6q => ?_)
        have hS_6 : mS cy m a f0 n z (va_up (va_up (va_up F 56 (upd (F 56) (Int32.toNatClampNeg 0) r_1)) 56 (upd (upd (F 56) (Int32.toNatClampNeg 0) r_1) (Int32.toNatClampNeg 1) r_3)) 56 (upd (upd (upd (F 56) (Int32.toNatClampNeg 0) r_1) (Int32.toNatClampNeg 1) r_3) (Int32.toNatClampNeg 2) r_5)) G f_6 := hS_6q
        refine gz_iinc (v := 3) (lv' := [(1, .int 3), (0, .ref m)]) dX12_starts_23 rfl (by decide) (by decide) rfl ?_
        refine gz_goto (tgt := 2) dX12_starts_26 (by decide) ?_
        refine gz_iload_n dX12_starts_2 rfl rfl ?_
        refine gz_bipush (v := 6) dX12_starts_3 (by decide) ?_
        refine gz_icmp_ge (tgt := 29) dX12_starts_5 (by decide) (fun c_5_3 => ?_) (fun c_5_3 => ?_)
        · exact absurd c_5_3 (by decide)
        ·
          try simp only [mIn_0, lgc_lt, lgc_gt, lgc_le, lgc_ge, lgc_eq] at c_5_3
          try simp only [fl_lt, fl_le, fl_eq, fL_w, fL_lt, fL_le, tm1, tm10k, tm9, tm99, Int32.reduceToInt, Int64.reduceToInt, Int.not_lt, Int.not_le] at c_5_3
          refine gz_aload_n dX12_starts_8 rfl rfl ?_
          refine mg_161 hS_6 dX12_starts_9 ?_
          refine gz_iload_n dX12_starts_12 rfl rfl ?_
          refine gz_aload_n dX12_starts_13 rfl rfl ?_
          refine gz_iload_n dX12_starts_14 rfl rfl ?_
          refine gz_aload_n dX12_starts_15 rfl rfl ?_
          refine mg_249 hS_6 dX12_starts_16 ?_
          refine gz_ev (w := .int (n 0)) rfl ?_
          refine scX12_258 (k_X12_thingOn (x := 3) (y := (n 0)) hS_6 (by decide) (by omega)) hS_6.1 ⟨(Nat.le_of_ble_eq_true rfl), (Nat.le_of_ble_eq_true rfl)⟩ ⟨(Nat.le_of_ble_eq_true rfl), (Nat.le_of_ble_eq_true rfl)⟩ rfl rfl (Nat.le_of_ble_eq_true rfl) dX12_starts_19 ?_
          rintro r_7 f9 ⟨-, y9⟩; rw [y9]
          refine m_iast 56 hS_6 rfl (N := 6) rfl (vin_T (v := 3) rfl (by decide) (by decide)) dX12_starts_22 (fun f_8 hS_8q => ?_)
          have hS_8 : mS cy m a f0 n z (va_up (va_up (va_up (va_up F 56 (upd (F 56) (Int32.toNatClampNeg 0) r_1)) 56 (upd (upd (F 56) (Int32.toNatClampNeg 0) r_1) (Int32.toNatClampNeg 1) r_3)) 56 (upd (upd (upd (F 56) (Int32.toNatClampNeg 0) r_1) (Int32.toNatClampNeg 1) r_3) (Int32.toNatClampNeg 2) r_5)) 56 (upd (upd (upd (upd (F 56) (Int32.toNatClampNeg 0) r_1) (Int32.toNatClampNeg 1) r_3) (Int32.toNatClampNeg 2) r_5) (Int32.toNatClampNeg 3) r_7)) G f_8 := hS_8q
          refine gz_iinc (v := 4) (lv' := [(1, .int 4), (0, .ref m)]) dX12_starts_23 rfl (by decide) (by decide) rfl ?_
          refine gz_goto (tgt := 2) dX12_starts_26 (by decide) ?_
          refine gz_iload_n dX12_starts_2 rfl rfl ?_
          refine gz_bipush (v := 6) dX12_starts_3 (by decide) ?_
          refine gz_icmp_ge (tgt := 29) dX12_starts_5 (by decide) (fun c_5_4 => ?_) (fun c_5_4 => ?_)
          · exact absurd c_5_4 (by decide)
          ·
            try simp only [mIn_0, lgc_lt, lgc_gt, lgc_le, lgc_ge, lgc_eq] at c_5_4
            try simp only [fl_lt, fl_le, fl_eq, fL_w, fL_lt, fL_le, tm1, tm10k, tm9, tm99, Int32.reduceToInt, Int64.reduceToInt, Int.not_lt, Int.not_le] at c_5_4
            refine gz_aload_n dX12_starts_8 rfl rfl ?_
            refine mg_161 hS_8 dX12_starts_9 ?_
            refine gz_iload_n dX12_starts_12 rfl rfl ?_
            refine gz_aload_n dX12_starts_13 rfl rfl ?_
            refine gz_iload_n dX12_starts_14 rfl rfl ?_
            refine gz_aload_n dX12_starts_15 rfl rfl ?_
            refine mg_249 hS_8 dX12_starts_16 ?_
            refine gz_ev (w := .int (n 0)) rfl ?_
            refine scX12_258 (k_X12_thingOn (x := 4) (y := (n 0)) hS_8 (by decide) (by omega)) hS_8.1 ⟨(Nat.le_of_ble_eq_true rfl), (Nat.le_of_ble_eq_true rfl)⟩ ⟨(Nat.le_of_ble_eq_true rfl), (Nat.le_of_ble_eq_true rfl)⟩ rfl rfl (Nat.le_of_ble_eq_true rfl) dX12_starts_19 ?_
            rintro r_9 f9 ⟨-, y9⟩; rw [y9]
            refine m_iast 56 hS_8 rfl (N := 6) rfl (vin_T (v := 4) rfl (by decide) (by decide)) dX12_starts_22 (fun f_10 hS_10q => ?_)
            have hS_10 : mS cy m a f0 n z (va_up (va_up (va_up (va_up (va_up F 56 (upd (F 56) (Int32.toNatClampNeg 0) r_1)) 56 (upd (upd (F 56) (Int32.toNatClampNeg 0) r_1) (Int32.toNatClampNeg 1) r_3)) 56 (upd (upd (upd (F 56) (Int32.toNatClampNeg 0) r_1) (Int32.toNatClampNeg 1) r_3) (Int32.toNatClampNeg 2) r_5)) 56 (upd (upd (upd (upd (F 56) (Int32.toNatClampNeg 0) r_1) (Int32.toNatClampNeg 1) r_3) (Int32.toNatClampNeg 2) r_5) (Int32.toNatClampNeg 3) r_7)) 56 (upd (upd (upd (upd (upd (F 56) (Int32.toNatClampNeg 0) r_1) (Int32.toNatClampNeg 1) r_3) (Int32.toNatClampNeg 2) r_5) (Int32.toNatClampNeg 3) r_7) (Int32.toNatClampNeg 4) r_9)) G f_10 := hS_10q
            refine gz_iinc (v := 5) (lv' := [(1, .int 5), (0, .ref m)]) dX12_starts_23 rfl (by decide) (by decide) rfl ?_
            refine gz_goto (tgt := 2) dX12_starts_26 (by decide) ?_
            refine gz_iload_n dX12_starts_2 rfl rfl ?_
            refine gz_bipush (v := 6) dX12_starts_3 (by decide) ?_
            refine gz_icmp_ge (tgt := 29) dX12_starts_5 (by decide) (fun c_5_5 => ?_) (fun c_5_5 => ?_)
            · exact absurd c_5_5 (by decide)
            ·
              try simp only [mIn_0, lgc_lt, lgc_gt, lgc_le, lgc_ge, lgc_eq] at c_5_5
              try simp only [fl_lt, fl_le, fl_eq, fL_w, fL_lt, fL_le, tm1, tm10k, tm9, tm99, Int32.reduceToInt, Int64.reduceToInt, Int.not_lt, Int.not_le] at c_5_5
              refine gz_aload_n dX12_starts_8 rfl rfl ?_
              refine mg_161 hS_10 dX12_starts_9 ?_
              refine gz_iload_n dX12_starts_12 rfl rfl ?_
              refine gz_aload_n dX12_starts_13 rfl rfl ?_
              refine gz_iload_n dX12_starts_14 rfl rfl ?_
              refine gz_aload_n dX12_starts_15 rfl rfl ?_
              refine mg_249 hS_10 dX12_starts_16 ?_
              refine gz_ev (w := .int (n 0)) rfl ?_
              refine scX12_258 (k_X12_thingOn (x := 5) (y := (n 0)) hS_10 (by decide) (by omega)) hS_10.1 ⟨(Nat.le_of_ble_eq_true rfl), (Nat.le_of_ble_eq_true rfl)⟩ ⟨(Nat.le_of_ble_eq_true rfl), (Nat.le_of_ble_eq_true rfl)⟩ rfl rfl (Nat.le_of_ble_eq_true rfl) dX12_starts_19 ?_
              rintro r_11 f9 ⟨-, y9⟩; rw [y9]
              refine m_iast 56 hS_10 rfl (N := 6) rfl (vin_T (v := 5) rfl (by decide) (by decide)) dX12_starts_22 (fun f_12 hS_12q => ?_)
              have hS_12 : mS cy m a f0 n z (va_up (va_up (va_up (va_up (va_up (va_up F 56 (upd (F 56) (Int32.toNatClampNeg 0) r_1)) 56 (upd (upd (F 56) (Int32.toNatClampNeg 0) r_1) (Int32.toNatClampNeg 1) r_3)) 56 (upd (upd (upd (F 56) (Int32.toNatClampNeg 0) r_1) (Int32.toNatClampNeg 1) r_3) (Int32.toNatClampNeg 2) r_5)) 56 (upd (upd (upd (upd (F 56) (Int32.toNatClampNeg 0) r_1) (Int32.toNatClampNeg 1) r_3) (Int32.toNatClampNeg 2) r_5) (Int32.toNatClampNeg 3) r_7)) 56 (upd (upd (upd (upd (upd (F 56) (Int32.toNatClampNeg 0) r_1) (Int32.toNatClampNeg 1) r_3) (Int32.toNatClampNeg 2) r_5) (Int32.toNatClampNeg 3) r_7) (Int32.toNatClampNeg 4) r_9)) 56 (upd (upd (upd (upd (upd (upd (F 56) (Int32.toNatClampNeg 0) r_1) (Int32.toNatClampNeg 1) r_3) (Int32.toNatClampNeg 2) r_5) (Int32.toNatClampNeg 3) r_7) (Int32.toNatClampNeg 4) r_9) (Int32.toNatClampNeg 5) r_11)) G f_12 := hS_12q
              refine gz_iinc (v := 6) (lv' := [(1, .int 6), (0, .ref m)]) dX12_starts_23 rfl (by decide) (by decide) rfl ?_
              refine gz_goto (tgt := 2) dX12_starts_26 (by decide) ?_
              refine gz_iload_n dX12_starts_2 rfl rfl ?_
              refine gz_bipush (v := 6) dX12_starts_3 (by decide) ?_
              refine gz_icmp_ge (tgt := 29) dX12_starts_5 (by decide) (fun c_5_6 => ?_) (fun c_5_6 => ?_)
              ·
                try simp only [mIn_0, lgc_lt, lgc_gt, lgc_le, lgc_ge, lgc_eq] at c_5_6
                try simp only [fl_lt, fl_le, fl_eq, fL_w, fL_lt, fL_le, tm1, tm10k, tm9, tm99, Int32.reduceToInt, Int64.reduceToInt, Int.not_lt, Int.not_le] at c_5_6
                exact gz_vret rfl dX12_starts_29 (Nat.le_of_ble_eq_true rfl) (Nat.le_of_ble_eq_true rfl) (⟨rfl, _, _, _, _, hS_12, (fx_F (fx_F (fx_F (fx_F (fx_F (fx_F fx_rf (by decide)) (by decide)) (by decide)) (by decide)) (by decide)) (by decide))⟩)
              · exact absurd c_5_6 (by decide)

set_option maxHeartbeats 4000000 in
set_option maxRecDepth 100000 in
theorem l_X12_power {l : Launch} {D : va_G} {cy : Nat → ClassId} {b : Nat} {f : gMem} {x1 x2 : Int32}  : ∀ (k : Nat) (i v : Int32) (fm : gMem), fr [] f fm → (fm = f) → (0 ≤ i.toInt ∧ 0 < k ∧ (i.toInt < x2.toInt → x2.toInt - i.toInt < (k : Int))) → gG l (gRm 0 0 0) (gQf D b (pI fun r f2 => True ∧ f2 = f) 0 0) gTt D cy b cX12_power 4 (some .int) RX12 "power" (0) (0) fm 4 [(3, .int i), (2, .int v), (0, .int x1), (1, .int x2)] [] := by
  intro k
  induction k with
  | zero =>
    intro i v fm hfr hf hk
    exfalso; omega
  | succ k ih =>
    intro i v fm hfr hf hk
    refine gz_iload_n dX12_power_4 rfl rfl ?_
    refine gz_iload_n dX12_power_5 rfl rfl ?_
    refine gz_icmp_ge (tgt := 19) dX12_power_6 (by decide) (fun c_6 => ?_) (fun c_6 => ?_)
    ·
      refine gz_iload_n dX12_power_19 rfl rfl ?_
      exact gz_iret rfl dX12_power_20 (Nat.le_of_ble_eq_true rfl) (Nat.le_of_ble_eq_true rfl) (⟨_, rfl, trivial, hf⟩)
    ·
      refine gz_iload_n dX12_power_9 rfl rfl ?_
      refine gz_iload_n dX12_power_10 rfl rfl ?_
      refine gz_imul dX12_power_11 ?_
      refine gz_istore_n (lv' := [(2, .int (v * x1)), (3, .int i), (0, .int x1), (1, .int x2)]) dX12_power_12 rfl (by decide) rfl ?_
      refine gz_iinc (v := (i + 1)) (lv' := [(3, .int (i + 1)), (2, .int (v * x1)), (0, .int x1), (1, .int x2)]) dX12_power_13 rfl rfl (by decide) rfl ?_
      refine gz_goto (tgt := 4) dX12_power_16 (by decide) ?_
      refine gz_sub (lv' := [(3, .int (i + 1)), (2, .int (v * x1)), (0, .int x1), (1, .int x2)]) (by simp [List.lookup]) ?_
      exact ih (i + 1) (v * x1) _ hfr  (hf) (by have e1 : (1 : Int32).toInt = 1 := rfl; have hb := i32_hi x2; simp only [fl_le] at c_6; have hx := T_add (rfl : i.toInt = i.toInt) e1 (by omega); omega)

set_option maxHeartbeats 4000000 in
set_option maxRecDepth 100000 in
theorem k_X12_power {l : Launch} {D : va_G} {cy : Nat → ClassId} {b : Nat} {f : gMem} {x1 x2 : Int32}   : gC l D cy b yX12_power cX12_power 4 (some .int) 0 0 0 [.int x1, .int x2] f (pI fun r f2 => True ∧ f2 = f) := by
  refine gC_of (by decide) (Nat.le_of_ble_eq_true rfl) ?_
  show gG l _ _ _ D cy b cX12_power 4 _ RX12 "power" 0 0 f 0 [(0, .int x1), (1, .int x2)] []
  refine gz_iconst (v := 1) dX12_power_0 (by decide) ?_
  refine gz_istore_n (lv' := [(2, .int 1), (0, .int x1), (1, .int x2)]) dX12_power_1 rfl (by decide) rfl ?_
  refine gz_iconst (v := 0) dX12_power_2 (by decide) ?_
  refine gz_istore_n (lv' := [(3, .int 0), (2, .int 1), (0, .int x1), (1, .int x2)]) dX12_power_3 rfl (by decide) rfl ?_
  refine gz_sub (lv' := [(3, .int 0), (2, .int 1), (0, .int x1), (1, .int x2)]) (by simp [List.lookup]) ?_
  exact l_X12_power (x2.toInt.toNat + 1) 0 1 _ fr_rf  (rfl) (⟨by decide, by omega, fun _ => by have e0 : (0 : Int32).toInt = 0 := rfl; omega⟩)

theorem pw_le {b : Int} (h : 1 ≤ b ∧ b ≤ 3) : ∀ e : Nat, e ≤ 4 → 1 ≤ b ^ e ∧ b ^ e ≤ 81 := by
  intro e he
  have c : b = 1 ∨ b = 2 ∨ b = 3 := by omega
  have d : e = 0 ∨ e = 1 ∨ e = 2 ∨ e = 3 ∨ e = 4 := by omega
  rcases c with rfl | rfl | rfl <;> rcases d with rfl | rfl | rfl | rfl | rfl <;> decide

set_option maxHeartbeats 4000000 in
set_option maxRecDepth 100000 in
theorem l_X12_powerW {l : Launch} {D : va_G} {cy : Nat → ClassId} {b : Nat} {f : gMem} {x1 x2 : Int32} (hb : 1 ≤ x1.toInt ∧ x1.toInt ≤ 3) (he : 0 ≤ x2.toInt ∧ x2.toInt ≤ 4) : ∀ (k : Nat) (i v : Int32) (fm : gMem), fr [] f fm → (fm = f) → (v.toInt = x1.toInt ^ i.toInt.toNat) → (0 ≤ i.toInt ∧ i.toInt ≤ x2.toInt ∧ i.toInt + (k : Int) = x2.toInt + 1) → gG l (gRm 0 0 0) (gQf D b (pI fun r f2 => (r.toInt = x1.toInt ^ x2.toInt.toNat ∧ 1 ≤ r.toInt ∧ r.toInt ≤ 81) ∧ f2 = f) 0 0) gTt D cy b cX12_power 4 (some .int) RX12 "power" (0) (0) fm 4 [(3, .int i), (2, .int v), (0, .int x1), (1, .int x2)] [] := by
  intro k
  induction k with
  | zero =>
    intro i v fm hfr hf hp hk
    exfalso; omega
  | succ k ih =>
    intro i v fm hfr hf hp hk
    refine gz_iload_n dX12_power_4 rfl rfl ?_
    refine gz_iload_n dX12_power_5 rfl rfl ?_
    refine gz_icmp_ge (tgt := 19) dX12_power_6 (by decide) (fun c_6 => ?_) (fun c_6 => ?_)
    ·
      refine gz_iload_n dX12_power_19 rfl rfl ?_
      exact gz_iret rfl dX12_power_20 (Nat.le_of_ble_eq_true rfl) (Nat.le_of_ble_eq_true rfl) (⟨_, rfl, (by simp only [fl_le] at c_6; have h1 := pw_le hb i.toInt.toNat (by omega); rw [← hp] at h1; exact ⟨by rw [hp]; congr 1; omega, h1⟩), hf⟩)
    ·
      refine gz_iload_n dX12_power_9 rfl rfl ?_
      refine gz_iload_n dX12_power_10 rfl rfl ?_
      refine gz_imul dX12_power_11 ?_
      refine gz_istore_n (lv' := [(2, .int (v * x1)), (3, .int i), (0, .int x1), (1, .int x2)]) dX12_power_12 rfl (by decide) rfl ?_
      refine gz_iinc (v := (i + 1)) (lv' := [(3, .int (i + 1)), (2, .int (v * x1)), (0, .int x1), (1, .int x2)]) dX12_power_13 rfl rfl (by decide) rfl ?_
      refine gz_goto (tgt := 4) dX12_power_16 (by decide) ?_
      refine gz_sub (lv' := [(3, .int (i + 1)), (2, .int (v * x1)), (0, .int x1), (1, .int x2)]) (by simp [List.lookup]) ?_
      exact ih (i + 1) (v * x1) _ hfr  (hf) (by have e1 : (1 : Int32).toInt = 1 := rfl; simp only [fl_le] at c_6; have hx := T_add (rfl : i.toInt = i.toInt) e1 (by omega); have h1 := pw_le hb (i.toInt.toNat + 1) (by omega); rw [Int.pow_succ, ← hp] at h1; have h2 : (v * x1).toInt = v.toInt * x1.toInt := mulT (by omega) (by omega); rw [h2, hp, hx, ← Int.pow_succ]; congr 1; omega) (by have e1 : (1 : Int32).toInt = 1 := rfl; simp only [fl_le] at c_6; have hx := T_add (rfl : i.toInt = i.toInt) e1 (by omega); omega)

set_option maxHeartbeats 4000000 in
set_option maxRecDepth 100000 in
theorem k_X12_powerW {l : Launch} {D : va_G} {cy : Nat → ClassId} {b : Nat} {f : gMem} {x1 x2 : Int32}  (hb : 1 ≤ x1.toInt ∧ x1.toInt ≤ 3) (he : 0 ≤ x2.toInt ∧ x2.toInt ≤ 4) : gC l D cy b yX12_power cX12_power 4 (some .int) 0 0 0 [.int x1, .int x2] f (pI fun r f2 => (r.toInt = x1.toInt ^ x2.toInt.toNat ∧ 1 ≤ r.toInt ∧ r.toInt ≤ 81) ∧ f2 = f) := by
  refine gC_of (by decide) (Nat.le_of_ble_eq_true rfl) ?_
  show gG l _ _ _ D cy b cX12_power 4 _ RX12 "power" 0 0 f 0 [(0, .int x1), (1, .int x2)] []
  refine gz_iconst (v := 1) dX12_power_0 (by decide) ?_
  refine gz_istore_n (lv' := [(2, .int 1), (0, .int x1), (1, .int x2)]) dX12_power_1 rfl (by decide) rfl ?_
  refine gz_iconst (v := 0) dX12_power_2 (by decide) ?_
  refine gz_istore_n (lv' := [(3, .int 0), (2, .int 1), (0, .int x1), (1, .int x2)]) dX12_power_3 rfl (by decide) rfl ?_
  refine gz_sub (lv' := [(3, .int 0), (2, .int 1), (0, .int x1), (1, .int x2)]) (by simp [List.lookup]) ?_
  exact l_X12_powerW hb he (x2.toInt.toNat + 1) 0 1 _ fr_rf  (rfl) (by show (1 : Int) = x1.toInt ^ (0 : Nat); rw [Int.pow_zero]) (⟨by decide, by have e0 : (0 : Int32).toInt = 0 := rfl; omega, by have e0 : (0 : Int32).toInt = 0 := rfl; omega⟩)

set_option maxHeartbeats 4000000 in
set_option maxRecDepth 100000 in
theorem l_X12_allWeights {l : Launch} {D : va_G} {cy : Nat → ClassId} {b : Nat} {m : Nat} {a : Nat → Nat} {f0 : gMem} {n0 : Nat → Int32} {z0 : Nat → Int64} {F0 : Nat → Nat → Int32} {G0 : Nat → Nat → Int64}  {f : gMem}  : ∀ (k : Nat) (i v : Int32) (n : Nat → Int32) (z : Nat → Int64) (F : Nat → Nat → Int32) (G : Nat → Nat → Int64) (fm : gMem), mS cy m a f0 n z F G fm → fx [] [] [] [] n0 z0 F0 G0 n z F G → (1 ≤ (n 53).toInt ∧ (n 53).toInt ≤ 3) → (0 ≤ i.toInt ∧ i.toInt ≤ 3 ∧ i.toInt + (k : Int) = 4) → (fm = f) → gG l (gRm 0 0 0) (gQf D b (pI fun r f2 => True ∧ f2 = f) 0 0) gTt D cy b cX12_allWeights 3 (some .int) RX12 "allWeights" 0 0 fm 4 [(2, .int i), (1, .int v), (0, .ref m)] [] := by
  intro k
  induction k with
  | zero =>
    intro i v n z F G fm hS hx a53 hk hf
    exfalso; omega
  | succ k ih =>
    intro i v n z F G fm hS hx a53 hk hf
    refine gz_iload_n dX12_allWeights_4 rfl rfl ?_
    refine gz_aload_n dX12_allWeights_5 rfl rfl ?_
    refine mg_151 hS dX12_allWeights_6 ?_
    refine gz_icmp_ge (tgt := 27) dX12_allWeights_9 (by decide) (fun c_9 => ?_) (fun c_9 => ?_)
    ·
      try simp only [mIn_0, lgc_lt, lgc_gt, lgc_le, lgc_ge, lgc_eq] at c_9
      try simp only [fl_lt, fl_le, fl_eq, fL_w, fL_lt, fL_le, tm1, tm10k, tm9, tm99, Int32.reduceToInt, Int64.reduceToInt, Int.not_lt, Int.not_le] at c_9
      refine gz_iload_n dX12_allWeights_27 rfl rfl ?_
      exact gz_iret rfl dX12_allWeights_28 (Nat.le_of_ble_eq_true rfl) (Nat.le_of_ble_eq_true rfl) (⟨_, rfl, trivial, hf⟩)
    ·
      try simp only [mIn_0, lgc_lt, lgc_gt, lgc_le, lgc_ge, lgc_eq] at c_9
      try simp only [fl_lt, fl_le, fl_eq, fL_w, fL_lt, fL_le, tm1, tm10k, tm9, tm99, Int32.reduceToInt, Int64.reduceToInt, Int.not_lt, Int.not_le] at c_9
      refine gz_iload_n dX12_allWeights_12 rfl rfl ?_
      refine gz_aload_n dX12_allWeights_13 rfl rfl ?_
      refine mg_155 hS dX12_allWeights_14 ?_
      refine gz_iload_n dX12_allWeights_17 rfl rfl ?_
      refine m_iald 54 hS rfl (N := 3) rfl ((by exact vin_T (rfl : (i).toInt = (i).toInt) (by omega) (by omega))) dX12_allWeights_18 ?_
      refine gz_iadd dX12_allWeights_19 ?_
      refine gz_istore_n (lv' := [(1, .int (v + ((F 54) (Int32.toNatClampNeg i)))), (2, .int i), (0, .ref m)]) dX12_allWeights_20 rfl (by decide) rfl ?_
      refine gz_iinc (v := (i + 1)) (lv' := [(2, .int (i + 1)), (1, .int (v + ((F 54) (Int32.toNatClampNeg i)))), (0, .ref m)]) dX12_allWeights_21 rfl rfl (by decide) rfl ?_
      refine gz_goto (tgt := 4) dX12_allWeights_24 (by decide) ?_
      refine gz_sub (lv' := [(2, .int (i + 1)), (1, .int (v + ((F 54) (Int32.toNatClampNeg i)))), (0, .ref m)]) (by simp [List.lookup]) ?_
      exact ih (i + 1) (v + ((F 54) (Int32.toNatClampNeg i))) _ _ _ _ _ hS hx (a53) ((by have q1_ := (T_add (rfl : (i).toInt = (i).toInt) (show (1 : Int32).toInt = 1 from rfl) (by omega)); omega)) (hf)

set_option maxHeartbeats 4000000 in
set_option maxRecDepth 100000 in
theorem k_X12_allWeights {l : Launch} {D : va_G} {cy : Nat → ClassId} {b : Nat} {f : gMem} {m : Nat} {a : Nat → Nat} {f0 : gMem} {n : Nat → Int32} {z : Nat → Int64} {F : Nat → Nat → Int32} {G : Nat → Nat → Int64}   (hS : mS cy m a f0 n z F G f) (a53 : 1 ≤ (n 53).toInt ∧ (n 53).toInt ≤ 3) : gC l D cy b yX12_allWeights cX12_allWeights 3 (some .int) 0 0 0 [.ref m] f (pI fun r f2 => True ∧ f2 = f) := by
  refine gC_of (by decide) (Nat.le_of_ble_eq_true rfl) ?_
  show gG l _ _ _ D cy b cX12_allWeights 3 _ RX12 "allWeights" 0 0 f 0 [(0, .ref m)] []
  refine gz_iconst (v := 0) dX12_allWeights_0 (by decide) ?_
  refine gz_istore_n (lv' := [(1, .int 0), (0, .ref m)]) dX12_allWeights_1 rfl (by decide) rfl ?_
  refine gz_iconst (v := 0) dX12_allWeights_2 (by decide) ?_
  refine gz_istore_n (lv' := [(2, .int 0), (1, .int 0), (0, .ref m)]) dX12_allWeights_3 rfl (by decide) rfl ?_
  refine gz_sub (lv' := [(2, .int 0), (1, .int 0), (0, .ref m)]) (by simp [List.lookup]) ?_
  exact l_X12_allWeights 4 0 0 _ _ _ _ _ hS fx_rf (a53) (⟨by decide, by decide, by decide⟩) (rfl)

set_option maxHeartbeats 4000000 in
set_option maxRecDepth 100000 in
theorem l_X12_asIn2 {l : Launch} {D : va_G} {cy : Nat → ClassId} {b : Nat} {m : Nat} {a : Nat → Nat} {f0 : gMem} {n0 : Nat → Int32} {z0 : Nat → Int64} {F0 : Nat → Nat → Int32} {G0 : Nat → Nat → Int64}  {x1 x2 : Int32} {i left : Int32} (hl : 0 ≤ left.toInt) (hq : ∀  (n : Nat → Int32) (z : Nat → Int64) (F : Nat → Nat → Int32) (G : Nat → Nat → Int64) (fm : gMem), mS cy m a f0 n z F G fm → fx [] [29] [] [28] n0 z0 F0 G0 n z F G → (1 ≤ (n 53).toInt ∧ (n 53).toInt ≤ 3) → gG l (gRm 0 0 0) (gQf D b (pV fun f2 => ∃ (n2 : Nat → Int32) (z2 : Nat → Int64) (F2 : Nat → Nat → Int32) (G2 : Nat → Nat → Int64), mS cy m a f0 n2 z2 F2 G2 f2 ∧ fx [] [29] [] [28] n0 z0 F0 G0 n2 z2 F2 G2) 0 0) gTt D cy b cX12_asIn 6 none RX12 "asIn" 0 0 fm 93 [(4, .int i), (3, .int left), (0, .ref m), (1, .int x1), (2, .int x2)] []) : ∀ (k : Nat) (t : Int32) (n : Nat → Int32) (z : Nat → Int64) (F : Nat → Nat → Int32) (G : Nat → Nat → Int64) (fm : gMem), mS cy m a f0 n z F G fm → fx [] [29] [] [28] n0 z0 F0 G0 n z F G → (1 ≤ (n 53).toInt ∧ (n 53).toInt ≤ 3) → (0 ≤ t.toInt ∧ t.toInt ≤ 6 ∧ t.toInt + (k : Int) = 7) → gG l (gRm 0 0 0) (gQf D b (pV fun f2 => ∃ (n2 : Nat → Int32) (z2 : Nat → Int64) (F2 : Nat → Nat → Int32) (G2 : Nat → Nat → Int64), mS cy m a f0 n2 z2 F2 G2 f2 ∧ fx [] [29] [] [28] n0 z0 F0 G0 n2 z2 F2 G2) 0 0) gTt D cy b cX12_asIn 6 none RX12 "asIn" 0 0 fm 52 [(5, .int t), (4, .int i), (3, .int left), (0, .ref m), (1, .int x1), (2, .int x2)] [] := by
  intro k
  induction k with
  | zero =>
    intro t n z F G fm hS hx a53 hk
    exfalso; omega
  | succ k ih =>
    intro t n z F G fm hS hx a53 hk
    refine gz_iload dX12_asIn_52 rfl ?_
    refine gz_bipush (v := 6) dX12_asIn_54 (by decide) ?_
    refine gz_icmp_ge (tgt := 93) dX12_asIn_56 (by decide) (fun c_56 => ?_) (fun c_56 => ?_)
    ·
      try simp only [mIn_0, lgc_lt, lgc_gt, lgc_le, lgc_ge, lgc_eq] at c_56
      try simp only [fl_lt, fl_le, fl_eq, fL_w, fL_lt, fL_le, tm1, tm10k, tm9, tm99, Int32.reduceToInt, Int64.reduceToInt, Int.not_lt, Int.not_le] at c_56
      refine gz_sub (lv' := [(4, .int i), (3, .int left), (0, .ref m), (1, .int x1), (2, .int x2)]) (by simp [List.lookup]) ?_
      exact hq  _ _ _ _ _ hS hx (a53)
    ·
      try simp only [mIn_0, lgc_lt, lgc_gt, lgc_le, lgc_ge, lgc_eq] at c_56
      try simp only [fl_lt, fl_le, fl_eq, fL_w, fL_lt, fL_le, tm1, tm10k, tm9, tm99, Int32.reduceToInt, Int64.reduceToInt, Int.not_lt, Int.not_le] at c_56
      refine gz_aload_n dX12_asIn_59 rfl rfl ?_
      refine mg_94 hS dX12_asIn_60 ?_
      refine gz_iload dX12_asIn_63 rfl ?_
      refine gz_dup2 dX12_asIn_65 rfl rfl ?_
      refine m_lald 28 hS rfl (N := 6) rfl ((by exact vin_T (rfl : (t).toInt = (t).toInt) (by omega) (by omega))) dX12_asIn_66 ?_
      refine gz_aload_n dX12_asIn_67 rfl rfl ?_
      refine mg_158 hS dX12_asIn_68 ?_
      refine gz_bipush (v := 6) dX12_asIn_71 (by decide) ?_
      refine gz_iload_n dX12_asIn_73 rfl rfl ?_
      refine gz_aload_n dX12_asIn_74 rfl rfl ?_
      refine mg_151 hS dX12_asIn_75 ?_
      refine gz_irem dX12_asIn_78 (by intro e; rw [e] at a53; have e0 : (0 : Int32).toInt = 0 := rfl; omega) ?_
      refine gz_imul dX12_asIn_79 ?_
      refine gz_iload dX12_asIn_80 rfl ?_
      refine gz_iadd dX12_asIn_82 ?_
      refine m_iald 55 hS rfl (N := 18) rfl ((by have q8 := rem_ok (x := left) (y := n 53) (by omega) (by omega); have q9 := T_add (T_mul (show (6 : Int32).toInt = 6 from rfl) (rfl : (left - left / (n 53) * (n 53)).toInt = (left - left / (n 53) * (n 53)).toInt) (by omega)) (rfl : t.toInt = t.toInt) (by omega); exact vin_T q9 (by omega) (by omega))) dX12_asIn_83 ?_
      refine gz_i2l dX12_asIn_84 ?_
      refine gz_ladd dX12_asIn_85 ?_
      refine m_last 28 hS rfl (N := 6) rfl ((by exact vin_T (rfl : (t).toInt = (t).toInt) (by omega) (by omega))) dX12_asIn_86 (fun f_1 hS_1q => ?_)
      have hS_1 : mS cy m a f0 n z F (va_up G 28 (vp_updL (G 28) (Int32.toNatClampNeg t) (((G 28) (Int32.toNatClampNeg t)) + (((F 55) (Int32.toNatClampNeg ((6 * (left - left / (n 53) * (n 53))) + t))).toInt64)))) f_1 := hS_1q
      refine gz_iinc (v := (t + 1)) (lv' := [(5, .int (t + 1)), (4, .int i), (3, .int left), (0, .ref m), (1, .int x1), (2, .int x2)]) dX12_asIn_87 rfl rfl (by decide) rfl ?_
      refine gz_goto (tgt := 52) dX12_asIn_90 (by decide) ?_
      refine gz_sub (lv' := [(5, .int (t + 1)), (4, .int i), (3, .int left), (0, .ref m), (1, .int x1), (2, .int x2)]) (by simp [List.lookup]) ?_
      exact ih (t + 1) _ _ _ _ _ hS_1 (fx_G hx (by decide)) ((by omega)) ((by have q1_ := (T_add (rfl : (t).toInt = (t).toInt) (show (1 : Int32).toInt = 1 from rfl) (by omega)); omega))

set_option maxHeartbeats 4000000 in
set_option maxRecDepth 100000 in
theorem l_X12_asIn {l : Launch} {D : va_G} {cy : Nat → ClassId} {b : Nat} {m : Nat} {a : Nat → Nat} {f0 : gMem} {n0 : Nat → Int32} {z0 : Nat → Int64} {F0 : Nat → Nat → Int32} {G0 : Nat → Nat → Int64}  {x1 x2 : Int32} (hd : x1.toInt ≤ 4) : ∀ (k : Nat) (i left : Int32) (n : Nat → Int32) (z : Nat → Int64) (F : Nat → Nat → Int32) (G : Nat → Nat → Int64) (fm : gMem), mS cy m a f0 n z F G fm → fx [] [29] [] [28] n0 z0 F0 G0 n z F G → (1 ≤ (n 53).toInt ∧ (n 53).toInt ≤ 3) → (0 ≤ left.toInt) → (0 ≤ i.toInt ∧ i.toInt ≤ 4 ∧ i.toInt + (k : Int) = 5) → gG l (gRm 0 0 0) (gQf D b (pV fun f2 => ∃ (n2 : Nat → Int32) (z2 : Nat → Int64) (F2 : Nat → Nat → Int32) (G2 : Nat → Nat → Int64), mS cy m a f0 n2 z2 F2 G2 f2 ∧ fx [] [29] [] [28] n0 z0 F0 G0 n2 z2 F2 G2) 0 0) gTt D cy b cX12_asIn 6 none RX12 "asIn" 0 0 fm 43 [(4, .int i), (3, .int left), (0, .ref m), (1, .int x1), (2, .int x2)] [] := by
  intro k
  induction k with
  | zero =>
    intro i left n z F G fm hS hx a53 hl hk
    exfalso; omega
  | succ k ih =>
    intro i left n z F G fm hS hx a53 hl hk
    refine gz_iload dX12_asIn_43 rfl ?_
    refine gz_iload_n dX12_asIn_45 rfl rfl ?_
    refine gz_icmp_ge (tgt := 106) dX12_asIn_46 (by decide) (fun c_46 => ?_) (fun c_46 => ?_)
    ·
      try simp only [mIn_0, lgc_lt, lgc_gt, lgc_le, lgc_ge, lgc_eq] at c_46
      try simp only [fl_lt, fl_le, fl_eq, fL_w, fL_lt, fL_le, tm1, tm10k, tm9, tm99, Int32.reduceToInt, Int64.reduceToInt, Int.not_lt, Int.not_le] at c_46
      exact gz_vret rfl dX12_asIn_106 (Nat.le_of_ble_eq_true rfl) (Nat.le_of_ble_eq_true rfl) (⟨rfl, _, _, _, _, hS, hx⟩)
    ·
      try simp only [mIn_0, lgc_lt, lgc_gt, lgc_le, lgc_ge, lgc_eq] at c_46
      try simp only [fl_lt, fl_le, fl_eq, fL_w, fL_lt, fL_le, tm1, tm10k, tm9, tm99, Int32.reduceToInt, Int64.reduceToInt, Int.not_lt, Int.not_le] at c_46
      refine gz_iconst (v := 0) dX12_asIn_49 (by decide) ?_
      refine gz_istore (lv' := [(5, .int 0), (4, .int i), (3, .int left), (0, .ref m), (1, .int x1), (2, .int x2)]) dX12_asIn_50 (by decide) rfl ?_
      refine gz_sub (lv' := [(5, .int 0), (4, .int i), (3, .int left), (0, .ref m), (1, .int x1), (2, .int x2)]) (by simp [List.lookup]) ?_
      refine l_X12_asIn2 (i := i) (left := left) hl ?_ 7 0 _ _ _ _ _ hS hx a53 ⟨by decide, by decide, by decide⟩
      clear hS hx a53
      intro n z F G fm hS hx a53
      refine gz_iload_n dX12_asIn_93 rfl rfl ?_
      refine gz_aload_n dX12_asIn_94 rfl rfl ?_
      refine mg_151 hS dX12_asIn_95 ?_
      refine gz_idiv dX12_asIn_98 (by intro e; rw [e] at a53; have e0 : (0 : Int32).toInt = 0 := rfl; omega) ?_
      refine gz_istore_n (lv' := [(3, .int (left / (n 53))), (4, .int i), (0, .ref m), (1, .int x1), (2, .int x2)]) dX12_asIn_99 rfl (by decide) rfl ?_
      refine gz_iinc (v := (i + 1)) (lv' := [(4, .int (i + 1)), (3, .int (left / (n 53))), (0, .ref m), (1, .int x1), (2, .int x2)]) dX12_asIn_100 rfl rfl (by decide) rfl ?_
      refine gz_goto (tgt := 43) dX12_asIn_103 (by decide) ?_
      refine gz_sub (lv' := [(4, .int (i + 1)), (3, .int (left / (n 53))), (0, .ref m), (1, .int x1), (2, .int x2)]) (by simp [List.lookup]) ?_
      exact ih (i + 1) (left / (n 53)) _ _ _ _ _ hS hx ((by omega)) ((div_ok (by omega) (by omega)).1) ((by have q1_ := (T_add (rfl : (i).toInt = (i).toInt) (show (1 : Int32).toInt = 1 from rfl) (by omega)); omega))

set_option maxHeartbeats 4000000 in
set_option maxRecDepth 100000 in
theorem k_X12_asIn {l : Launch} {D : va_G} {cy : Nat → ClassId} {b : Nat} {f : gMem} {m : Nat} {a : Nat → Nat} {f0 : gMem} {n : Nat → Int32} {z : Nat → Int64} {F : Nat → Nat → Int32} {G : Nat → Nat → Int64}  {x1 x2 : Int32} (hS : mS cy m a f0 n z F G f) (a53 : 1 ≤ (n 53).toInt ∧ (n 53).toInt ≤ 3) (hd : x1.toInt ≤ 4) (hw : 0 ≤ x2.toInt) : gC l D cy b yX12_asIn cX12_asIn 6 none 0 0 0 [.ref m, .int x1, .int x2] f (pV fun f2 => ∃ (n2 : Nat → Int32) (z2 : Nat → Int64) (F2 : Nat → Nat → Int32) (G2 : Nat → Nat → Int64), mS cy m a f0 n2 z2 F2 G2 f2 ∧ fx [] [29] [] [28] n z F G n2 z2 F2 G2) := by
  refine gC_of (by decide) (Nat.le_of_ble_eq_true rfl) ?_
  show gG l _ _ _ D cy b cX12_asIn 6 _ RX12 "asIn" 0 0 f 0 [(0, .ref m), (1, .int x1), (2, .int x2)] []
  refine gz_aload_n dX12_asIn_0 rfl rfl ?_
  refine gz_aload_n dX12_asIn_1 rfl rfl ?_
  refine mg_249 hS dX12_asIn_2 ?_
  refine gz_iload_n dX12_asIn_5 rfl rfl ?_
  refine gz_iadd dX12_asIn_6 ?_
  refine gz_i2l dX12_asIn_7 ?_
  refine mp_340 hS dX12_asIn_8 (fun f_1 hS_1 => ?_)
  refine gz_iconst (v := 0) dX12_asIn_11 (by decide) ?_
  refine gz_istore_n (lv' := [(3, .int 0), (0, .ref m), (1, .int x1), (2, .int x2)]) dX12_asIn_12 rfl (by decide) rfl ?_
  refine gz_iload_n dX12_asIn_13 rfl rfl ?_
  refine gz_bipush (v := 6) dX12_asIn_14 (by decide) ?_
  refine gz_icmp_ge (tgt := 38) dX12_asIn_16 (by decide) (fun c_16 => ?_) (fun c_16 => ?_)
  · exact absurd c_16 (by decide)
  ·
    try simp only [mIn_0, lgc_lt, lgc_gt, lgc_le, lgc_ge, lgc_eq] at c_16
    try simp only [fl_lt, fl_le, fl_eq, fL_w, fL_lt, fL_le, tm1, tm10k, tm9, tm99, Int32.reduceToInt, Int64.reduceToInt, Int.not_lt, Int.not_le] at c_16
    refine gz_aload_n dX12_asIn_19 rfl rfl ?_
    refine mg_94 hS_1 dX12_asIn_20 ?_
    refine gz_iload_n dX12_asIn_23 rfl rfl ?_
    refine gz_aload_n dX12_asIn_24 rfl rfl ?_
    refine mg_161 hS_1 dX12_asIn_25 ?_
    refine gz_iload_n dX12_asIn_28 rfl rfl ?_
    refine m_iald 56 hS_1 rfl (N := 6) rfl (vin_T (v := 0) rfl (by decide) (by decide)) dX12_asIn_29 ?_
    refine gz_ev (w := .int ((F 56) (Int32.toNatClampNeg 0))) rfl ?_
    refine gz_i2l dX12_asIn_30 ?_
    refine m_last 28 hS_1 rfl (N := 6) rfl (vin_T (v := 0) rfl (by decide) (by decide)) dX12_asIn_31 (fun f_2 hS_2q => ?_)
    have hS_2 : mS cy m a f0 n (va_up z 29 (((n 0) + x1).toInt64)) F (va_up G 28 (vp_updL (G 28) (Int32.toNatClampNeg 0) (((F 56) (Int32.toNatClampNeg 0)).toInt64))) f_2 := hS_2q
    refine gz_iinc (v := 1) (lv' := [(3, .int 1), (0, .ref m), (1, .int x1), (2, .int x2)]) dX12_asIn_32 rfl (by decide) (by decide) rfl ?_
    refine gz_goto (tgt := 13) dX12_asIn_35 (by decide) ?_
    refine gz_iload_n dX12_asIn_13 rfl rfl ?_
    refine gz_bipush (v := 6) dX12_asIn_14 (by decide) ?_
    refine gz_icmp_ge (tgt := 38) dX12_asIn_16 (by decide) (fun c_16_1 => ?_) (fun c_16_1 => ?_)
    · exact absurd c_16_1 (by decide)
    ·
      try simp only [mIn_0, lgc_lt, lgc_gt, lgc_le, lgc_ge, lgc_eq] at c_16_1
      try simp only [fl_lt, fl_le, fl_eq, fL_w, fL_lt, fL_le, tm1, tm10k, tm9, tm99, Int32.reduceToInt, Int64.reduceToInt, Int.not_lt, Int.not_le] at c_16_1
      refine gz_aload_n dX12_asIn_19 rfl rfl ?_
      refine mg_94 hS_2 dX12_asIn_20 ?_
      refine gz_iload_n dX12_asIn_23 rfl rfl ?_
      refine gz_aload_n dX12_asIn_24 rfl rfl ?_
      refine mg_161 hS_2 dX12_asIn_25 ?_
      refine gz_iload_n dX12_asIn_28 rfl rfl ?_
      refine m_iald 56 hS_2 rfl (N := 6) rfl (vin_T (v := 1) rfl (by decide) (by decide)) dX12_asIn_29 ?_
      refine gz_ev (w := .int ((F 56) (Int32.toNatClampNeg 1))) rfl ?_
      refine gz_i2l dX12_asIn_30 ?_
      refine m_last 28 hS_2 rfl (N := 6) rfl (vin_T (v := 1) rfl (by decide) (by decide)) dX12_asIn_31 (fun f_3 hS_3q => ?_)
      have hS_3 : mS cy m a f0 n (va_up z 29 (((n 0) + x1).toInt64)) F (va_up (va_up G 28 (vp_updL (G 28) (Int32.toNatClampNeg 0) (((F 56) (Int32.toNatClampNeg 0)).toInt64))) 28 (vp_updL (vp_updL (G 28) (Int32.toNatClampNeg 0) (((F 56) (Int32.toNatClampNeg 0)).toInt64)) (Int32.toNatClampNeg 1) (((F 56) (Int32.toNatClampNeg 1)).toInt64))) f_3 := hS_3q
      refine gz_iinc (v := 2) (lv' := [(3, .int 2), (0, .ref m), (1, .int x1), (2, .int x2)]) dX12_asIn_32 rfl (by decide) (by decide) rfl ?_
      refine gz_goto (tgt := 13) dX12_asIn_35 (by decide) ?_
      refine gz_iload_n dX12_asIn_13 rfl rfl ?_
      refine gz_bipush (v := 6) dX12_asIn_14 (by decide) ?_
      refine gz_icmp_ge (tgt := 38) dX12_asIn_16 (by decide) (fun c_16_2 => ?_) (fun c_16_2 => ?_)
      · exact absurd c_16_2 (by decide)
      ·
        try simp only [mIn_0, lgc_lt, lgc_gt, lgc_le, lgc_ge, lgc_eq] at c_16_2
        try simp only [fl_lt, fl_le, fl_eq, fL_w, fL_lt, fL_le, tm1, tm10k, tm9, tm99, Int32.reduceToInt, Int64.reduceToInt, Int.not_lt, Int.not_le] at c_16_2
        refine gz_aload_n dX12_asIn_19 rfl rfl ?_
        refine mg_94 hS_3 dX12_asIn_20 ?_
        refine gz_iload_n dX12_asIn_23 rfl rfl ?_
        refine gz_aload_n dX12_asIn_24 rfl rfl ?_
        refine mg_161 hS_3 dX12_asIn_25 ?_
        refine gz_iload_n dX12_asIn_28 rfl rfl ?_
        refine m_iald 56 hS_3 rfl (N := 6) rfl (vin_T (v := 2) rfl (by decide) (by decide)) dX12_asIn_29 ?_
        refine gz_ev (w := .int ((F 56) (Int32.toNatClampNeg 2))) rfl ?_
        refine gz_i2l dX12_asIn_30 ?_
        refine m_last 28 hS_3 rfl (N := 6) rfl (vin_T (v := 2) rfl (by decide) (by decide)) dX12_asIn_31 (fun f_4 hS_4q => ?_)
        have hS_4 : mS cy m a f0 n (va_up z 29 (((n 0) + x1).toInt64)) F (va_up (va_up (va_up G 28 (vp_updL (G 28) (Int32.toNatClampNeg 0) (((F 56) (Int32.toNatClampNeg 0)).toInt64))) 28 (vp_updL (vp_updL (G 28) (Int32.toNatClampNeg 0) (((F 56) (Int32.toNatClampNeg 0)).toInt64)) (Int32.toNatClampNeg 1) (((F 56) (Int32.toNatClampNeg 1)).toInt64))) 28 (vp_updL (vp_updL (vp_updL (G 28) (Int32.toNatClampNeg 0) (((F 56) (Int32.toNatClampNeg 0)).toInt64)) (Int32.toNatClampNeg 1) (((F 56) (Int32.toNatClampNeg 1)).toInt64)) (Int32.toNatClampNeg 2) (((F 56) (Int32.toNatClampNeg 2)).toInt64))) f_4 := hS_4q
        refine gz_iinc (v := 3) (lv' := [(3, .int 3), (0, .ref m), (1, .int x1), (2, .int x2)]) dX12_asIn_32 rfl (by decide) (by decide) rfl ?_
        refine gz_goto (tgt := 13) dX12_asIn_35 (by decide) ?_
        refine gz_iload_n dX12_asIn_13 rfl rfl ?_
        refine gz_bipush (v := 6) dX12_asIn_14 (by decide) ?_
        refine gz_icmp_ge (tgt := 38) dX12_asIn_16 (by decide) (fun c_16_3 => ?_) (fun c_16_3 => ?_)
        · exact absurd c_16_3 (by decide)
        ·
          try simp only [mIn_0, lgc_lt, lgc_gt, lgc_le, lgc_ge, lgc_eq] at c_16_3
          try simp only [fl_lt, fl_le, fl_eq, fL_w, fL_lt, fL_le, tm1, tm10k, tm9, tm99, Int32.reduceToInt, Int64.reduceToInt, Int.not_lt, Int.not_le] at c_16_3
          refine gz_aload_n dX12_asIn_19 rfl rfl ?_
          refine mg_94 hS_4 dX12_asIn_20 ?_
          refine gz_iload_n dX12_asIn_23 rfl rfl ?_
          refine gz_aload_n dX12_asIn_24 rfl rfl ?_
          refine mg_161 hS_4 dX12_asIn_25 ?_
          refine gz_iload_n dX12_asIn_28 rfl rfl ?_
          refine m_iald 56 hS_4 rfl (N := 6) rfl (vin_T (v := 3) rfl (by decide) (by decide)) dX12_asIn_29 ?_
          refine gz_ev (w := .int ((F 56) (Int32.toNatClampNeg 3))) rfl ?_
          refine gz_i2l dX12_asIn_30 ?_
          refine m_last 28 hS_4 rfl (N := 6) rfl (vin_T (v := 3) rfl (by decide) (by decide)) dX12_asIn_31 (fun f_5 hS_5q => ?_)
          have hS_5 : mS cy m a f0 n (va_up z 29 (((n 0) + x1).toInt64)) F (va_up (va_up (va_up (va_up G 28 (vp_updL (G 28) (Int32.toNatClampNeg 0) (((F 56) (Int32.toNatClampNeg 0)).toInt64))) 28 (vp_updL (vp_updL (G 28) (Int32.toNatClampNeg 0) (((F 56) (Int32.toNatClampNeg 0)).toInt64)) (Int32.toNatClampNeg 1) (((F 56) (Int32.toNatClampNeg 1)).toInt64))) 28 (vp_updL (vp_updL (vp_updL (G 28) (Int32.toNatClampNeg 0) (((F 56) (Int32.toNatClampNeg 0)).toInt64)) (Int32.toNatClampNeg 1) (((F 56) (Int32.toNatClampNeg 1)).toInt64)) (Int32.toNatClampNeg 2) (((F 56) (Int32.toNatClampNeg 2)).toInt64))) 28 (vp_updL (vp_updL (vp_updL (vp_updL (G 28) (Int32.toNatClampNeg 0) (((F 56) (Int32.toNatClampNeg 0)).toInt64)) (Int32.toNatClampNeg 1) (((F 56) (Int32.toNatClampNeg 1)).toInt64)) (Int32.toNatClampNeg 2) (((F 56) (Int32.toNatClampNeg 2)).toInt64)) (Int32.toNatClampNeg 3) (((F 56) (Int32.toNatClampNeg 3)).toInt64))) f_5 := hS_5q
          refine gz_iinc (v := 4) (lv' := [(3, .int 4), (0, .ref m), (1, .int x1), (2, .int x2)]) dX12_asIn_32 rfl (by decide) (by decide) rfl ?_
          refine gz_goto (tgt := 13) dX12_asIn_35 (by decide) ?_
          refine gz_iload_n dX12_asIn_13 rfl rfl ?_
          refine gz_bipush (v := 6) dX12_asIn_14 (by decide) ?_
          refine gz_icmp_ge (tgt := 38) dX12_asIn_16 (by decide) (fun c_16_4 => ?_) (fun c_16_4 => ?_)
          · exact absurd c_16_4 (by decide)
          ·
            try simp only [mIn_0, lgc_lt, lgc_gt, lgc_le, lgc_ge, lgc_eq] at c_16_4
            try simp only [fl_lt, fl_le, fl_eq, fL_w, fL_lt, fL_le, tm1, tm10k, tm9, tm99, Int32.reduceToInt, Int64.reduceToInt, Int.not_lt, Int.not_le] at c_16_4
            refine gz_aload_n dX12_asIn_19 rfl rfl ?_
            refine mg_94 hS_5 dX12_asIn_20 ?_
            refine gz_iload_n dX12_asIn_23 rfl rfl ?_
            refine gz_aload_n dX12_asIn_24 rfl rfl ?_
            refine mg_161 hS_5 dX12_asIn_25 ?_
            refine gz_iload_n dX12_asIn_28 rfl rfl ?_
            refine m_iald 56 hS_5 rfl (N := 6) rfl (vin_T (v := 4) rfl (by decide) (by decide)) dX12_asIn_29 ?_
            refine gz_ev (w := .int ((F 56) (Int32.toNatClampNeg 4))) rfl ?_
            refine gz_i2l dX12_asIn_30 ?_
            refine m_last 28 hS_5 rfl (N := 6) rfl (vin_T (v := 4) rfl (by decide) (by decide)) dX12_asIn_31 (fun f_6 hS_6q => ?_)
            have hS_6 : mS cy m a f0 n (va_up z 29 (((n 0) + x1).toInt64)) F (va_up (va_up (va_up (va_up (va_up G 28 (vp_updL (G 28) (Int32.toNatClampNeg 0) (((F 56) (Int32.toNatClampNeg 0)).toInt64))) 28 (vp_updL (vp_updL (G 28) (Int32.toNatClampNeg 0) (((F 56) (Int32.toNatClampNeg 0)).toInt64)) (Int32.toNatClampNeg 1) (((F 56) (Int32.toNatClampNeg 1)).toInt64))) 28 (vp_updL (vp_updL (vp_updL (G 28) (Int32.toNatClampNeg 0) (((F 56) (Int32.toNatClampNeg 0)).toInt64)) (Int32.toNatClampNeg 1) (((F 56) (Int32.toNatClampNeg 1)).toInt64)) (Int32.toNatClampNeg 2) (((F 56) (Int32.toNatClampNeg 2)).toInt64))) 28 (vp_updL (vp_updL (vp_updL (vp_updL (G 28) (Int32.toNatClampNeg 0) (((F 56) (Int32.toNatClampNeg 0)).toInt64)) (Int32.toNatClampNeg 1) (((F 56) (Int32.toNatClampNeg 1)).toInt64)) (Int32.toNatClampNeg 2) (((F 56) (Int32.toNatClampNeg 2)).toInt64)) (Int32.toNatClampNeg 3) (((F 56) (Int32.toNatClampNeg 3)).toInt64))) 28 (vp_updL (vp_updL (vp_updL (vp_updL (vp_updL (G 28) (Int32.toNatClampNeg 0) (((F 56) (Int32.toNatClampNeg 0)).toInt64)) (Int32.toNatClampNeg 1) (((F 56) (Int32.toNatClampNeg 1)).toInt64)) (Int32.toNatClampNeg 2) (((F 56) (Int32.toNatClampNeg 2)).toInt64)) (Int32.toNatClampNeg 3) (((F 56) (Int32.toNatClampNeg 3)).toInt64)) (Int32.toNatClampNeg 4) (((F 56) (Int32.toNatClampNeg 4)).toInt64))) f_6 := hS_6q
            refine gz_iinc (v := 5) (lv' := [(3, .int 5), (0, .ref m), (1, .int x1), (2, .int x2)]) dX12_asIn_32 rfl (by decide) (by decide) rfl ?_
            refine gz_goto (tgt := 13) dX12_asIn_35 (by decide) ?_
            refine gz_iload_n dX12_asIn_13 rfl rfl ?_
            refine gz_bipush (v := 6) dX12_asIn_14 (by decide) ?_
            refine gz_icmp_ge (tgt := 38) dX12_asIn_16 (by decide) (fun c_16_5 => ?_) (fun c_16_5 => ?_)
            · exact absurd c_16_5 (by decide)
            ·
              try simp only [mIn_0, lgc_lt, lgc_gt, lgc_le, lgc_ge, lgc_eq] at c_16_5
              try simp only [fl_lt, fl_le, fl_eq, fL_w, fL_lt, fL_le, tm1, tm10k, tm9, tm99, Int32.reduceToInt, Int64.reduceToInt, Int.not_lt, Int.not_le] at c_16_5
              refine gz_aload_n dX12_asIn_19 rfl rfl ?_
              refine mg_94 hS_6 dX12_asIn_20 ?_
              refine gz_iload_n dX12_asIn_23 rfl rfl ?_
              refine gz_aload_n dX12_asIn_24 rfl rfl ?_
              refine mg_161 hS_6 dX12_asIn_25 ?_
              refine gz_iload_n dX12_asIn_28 rfl rfl ?_
              refine m_iald 56 hS_6 rfl (N := 6) rfl (vin_T (v := 5) rfl (by decide) (by decide)) dX12_asIn_29 ?_
              refine gz_ev (w := .int ((F 56) (Int32.toNatClampNeg 5))) rfl ?_
              refine gz_i2l dX12_asIn_30 ?_
              refine m_last 28 hS_6 rfl (N := 6) rfl (vin_T (v := 5) rfl (by decide) (by decide)) dX12_asIn_31 (fun f_7 hS_7q => ?_)
              have hS_7 : mS cy m a f0 n (va_up z 29 (((n 0) + x1).toInt64)) F (va_up (va_up (va_up (va_up (va_up (va_up G 28 (vp_updL (G 28) (Int32.toNatClampNeg 0) (((F 56) (Int32.toNatClampNeg 0)).toInt64))) 28 (vp_updL (vp_updL (G 28) (Int32.toNatClampNeg 0) (((F 56) (Int32.toNatClampNeg 0)).toInt64)) (Int32.toNatClampNeg 1) (((F 56) (Int32.toNatClampNeg 1)).toInt64))) 28 (vp_updL (vp_updL (vp_updL (G 28) (Int32.toNatClampNeg 0) (((F 56) (Int32.toNatClampNeg 0)).toInt64)) (Int32.toNatClampNeg 1) (((F 56) (Int32.toNatClampNeg 1)).toInt64)) (Int32.toNatClampNeg 2) (((F 56) (Int32.toNatClampNeg 2)).toInt64))) 28 (vp_updL (vp_updL (vp_updL (vp_updL (G 28) (Int32.toNatClampNeg 0) (((F 56) (Int32.toNatClampNeg 0)).toInt64)) (Int32.toNatClampNeg 1) (((F 56) (Int32.toNatClampNeg 1)).toInt64)) (Int32.toNatClampNeg 2) (((F 56) (Int32.toNatClampNeg 2)).toInt64)) (Int32.toNatClampNeg 3) (((F 56) (Int32.toNatClampNeg 3)).toInt64))) 28 (vp_updL (vp_updL (vp_updL (vp_updL (vp_updL (G 28) (Int32.toNatClampNeg 0) (((F 56) (Int32.toNatClampNeg 0)).toInt64)) (Int32.toNatClampNeg 1) (((F 56) (Int32.toNatClampNeg 1)).toInt64)) (Int32.toNatClampNeg 2) (((F 56) (Int32.toNatClampNeg 2)).toInt64)) (Int32.toNatClampNeg 3) (((F 56) (Int32.toNatClampNeg 3)).toInt64)) (Int32.toNatClampNeg 4) (((F 56) (Int32.toNatClampNeg 4)).toInt64))) 28 (vp_updL (vp_updL (vp_updL (vp_updL (vp_updL (vp_updL (G 28) (Int32.toNatClampNeg 0) (((F 56) (Int32.toNatClampNeg 0)).toInt64)) (Int32.toNatClampNeg 1) (((F 56) (Int32.toNatClampNeg 1)).toInt64)) (Int32.toNatClampNeg 2) (((F 56) (Int32.toNatClampNeg 2)).toInt64)) (Int32.toNatClampNeg 3) (((F 56) (Int32.toNatClampNeg 3)).toInt64)) (Int32.toNatClampNeg 4) (((F 56) (Int32.toNatClampNeg 4)).toInt64)) (Int32.toNatClampNeg 5) (((F 56) (Int32.toNatClampNeg 5)).toInt64))) f_7 := hS_7q
              refine gz_iinc (v := 6) (lv' := [(3, .int 6), (0, .ref m), (1, .int x1), (2, .int x2)]) dX12_asIn_32 rfl (by decide) (by decide) rfl ?_
              refine gz_goto (tgt := 13) dX12_asIn_35 (by decide) ?_
              refine gz_iload_n dX12_asIn_13 rfl rfl ?_
              refine gz_bipush (v := 6) dX12_asIn_14 (by decide) ?_
              refine gz_icmp_ge (tgt := 38) dX12_asIn_16 (by decide) (fun c_16_6 => ?_) (fun c_16_6 => ?_)
              ·
                try simp only [mIn_0, lgc_lt, lgc_gt, lgc_le, lgc_ge, lgc_eq] at c_16_6
                try simp only [fl_lt, fl_le, fl_eq, fL_w, fL_lt, fL_le, tm1, tm10k, tm9, tm99, Int32.reduceToInt, Int64.reduceToInt, Int.not_lt, Int.not_le] at c_16_6
                refine gz_iload_n dX12_asIn_38 rfl rfl ?_
                refine gz_istore_n (lv' := [(3, .int x2), (0, .ref m), (1, .int x1), (2, .int x2)]) dX12_asIn_39 rfl (by decide) rfl ?_
                refine gz_iconst (v := 0) dX12_asIn_40 (by decide) ?_
                refine gz_istore (lv' := [(4, .int 0), (3, .int x2), (0, .ref m), (1, .int x1), (2, .int x2)]) dX12_asIn_41 (by decide) rfl ?_
                refine gz_sub (lv' := [(4, .int 0), (3, .int x2), (0, .ref m), (1, .int x1), (2, .int x2)]) (by simp [List.lookup]) ?_
                exact l_X12_asIn hd 5 0 x2 _ _ _ _ _ hS_7 (fx_G (fx_G (fx_G (fx_G (fx_G (fx_G (fx_z fx_rf (by decide)) (by decide)) (by decide)) (by decide)) (by decide)) (by decide)) (by decide)) ((by omega)) (hw) (⟨by decide, by decide, by decide⟩)
              · exact absurd c_16_6 (by decide)

set_option maxHeartbeats 4000000 in
set_option maxRecDepth 100000 in
theorem l_X12_sumOf {l : Launch} {D : va_G} {cy : Nat → ClassId} {b : Nat} {m : Nat} {a : Nat → Nat} {f0 : gMem} {n0 : Nat → Int32} {z0 : Nat → Int64} {F0 : Nat → Nat → Int32} {G0 : Nat → Nat → Int64}  {x1 x2 x3 : Int32} {f : gMem} (hb : 0 ≤ x1.toInt ∧ x1.toInt ≤ 840) (hlo : 0 ≤ x2.toInt ∧ x2.toInt ≤ 40) (hhi : 0 ≤ x3.toInt ∧ x3.toInt ≤ 40) : ∀ (k : Nat) (i : Int32) (u v : Int64) (n : Nat → Int32) (z : Nat → Int64) (F : Nat → Nat → Int32) (G : Nat → Nat → Int64) (fm : gMem), mS cy m a f0 n z F G fm → fx [] [] [] [] n0 z0 F0 G0 n z F G → (rAll F) → (0 ≤ i.toInt ∧ i.toInt ≤ 880 ∧ 881 ≤ i.toInt + (k : Int)) → (fm = f) → gG l (gRm 0 0 0) (gQf D b (pL fun r f2 => True ∧ f2 = f) 0 0) gTt D cy b cX12_sumOf 11 (some .long) RX12 "sumOf" 0 0 fm 11 [(8, .int i), (4, .long u), (6, .long v), (0, .ref m), (1, .int x1), (2, .int x2), (3, .int x3)] [] := by
  intro k
  induction k with
  | zero =>
    intro i u v n z F G fm hS hx bA hk hf
    exfalso; omega
  | succ k ih =>
    intro i u v n z F G fm hS hx bA hk hf
    have q13 : (x1 + x3).toInt = x1.toInt + x3.toInt := T_add rfl rfl (by omega)
    refine gz_iload dX12_sumOf_11 rfl ?_
    refine gz_iload_n dX12_sumOf_13 rfl rfl ?_
    refine gz_iload_n dX12_sumOf_14 rfl rfl ?_
    refine gz_iadd dX12_sumOf_15 ?_
    refine gz_icmp_ge (tgt := 130) dX12_sumOf_16 (by decide) (fun c_16 => ?_) (fun c_16 => ?_)
    ·
      try simp only [mIn_0, lgc_lt, lgc_gt, lgc_le, lgc_ge, lgc_eq] at c_16
      try simp only [fl_lt, fl_le, fl_eq, fL_w, fL_lt, fL_le, tm1, tm10k, tm9, tm99, Int32.reduceToInt, Int64.reduceToInt, Int.not_lt, Int.not_le] at c_16
      try have u_16t0 := (T_add (rfl : (x1).toInt = (x1).toInt) (rfl : (x3).toInt = (x3).toInt) (by omega))
      refine gz_lload dX12_sumOf_130 rfl ?_
      refine gz_lload dX12_sumOf_132 rfl ?_
      refine gz_ladd dX12_sumOf_134 ?_
      exact gz_lret rfl dX12_sumOf_135 (Nat.le_of_ble_eq_true rfl) (Nat.le_of_ble_eq_true rfl) (⟨_, rfl, trivial, hf⟩)
    ·
      try simp only [mIn_0, lgc_lt, lgc_gt, lgc_le, lgc_ge, lgc_eq] at c_16
      try simp only [fl_lt, fl_le, fl_eq, fL_w, fL_lt, fL_le, tm1, tm10k, tm9, tm99, Int32.reduceToInt, Int64.reduceToInt, Int.not_lt, Int.not_le] at c_16
      try have u_16t0 := (T_add (rfl : (x1).toInt = (x1).toInt) (rfl : (x3).toInt = (x3).toInt) (by omega))
      refine gz_aload_n dX12_sumOf_19 rfl rfl ?_
      refine mg_56 hS dX12_sumOf_20 ?_
      refine gz_iload dX12_sumOf_23 rfl ?_
      refine m_iald 19 hS rfl (N := 880) rfl ((by exact vin_T (rfl : (i).toInt = (i).toInt) (by omega) (by omega))) dX12_sumOf_25 ?_
      refine gz_if_ge (tgt := 40) dX12_sumOf_26 (by decide) (fun c_26 => ?_) (fun c_26 => ?_)
      ·
        try simp only [mIn_0, lgc_lt, lgc_gt, lgc_le, lgc_ge, lgc_eq] at c_26
        try simp only [fl_lt, fl_le, fl_eq, fL_w, fL_lt, fL_le, tm1, tm10k, tm9, tm99, Int32.reduceToInt, Int64.reduceToInt, Int.not_lt, Int.not_le] at c_26
        refine gz_aload_n dX12_sumOf_40 rfl rfl ?_
        refine mg_56 hS dX12_sumOf_41 ?_
        refine gz_iload dX12_sumOf_44 rfl ?_
        refine m_iald 19 hS rfl (N := 880) rfl ((by exact vin_T (rfl : (i).toInt = (i).toInt) (by omega) (by omega))) dX12_sumOf_46 ?_
        refine gz_bipush (v := 6) dX12_sumOf_47 (by decide) ?_
        refine gz_icmp_ne (tgt := 59) dX12_sumOf_49 (by decide) (fun c_49 => ?_) (fun c_49 => ?_)
        ·
          try simp only [mIn_0, lgc_lt, lgc_gt, lgc_le, lgc_ge, lgc_eq] at c_49
          try simp only [fl_lt, fl_le, fl_eq, fL_w, fL_lt, fL_le, tm1, tm10k, tm9, tm99, Int32.reduceToInt, Int64.reduceToInt, Int.not_lt, Int.not_le] at c_49
          refine gz_aload_n dX12_sumOf_59 rfl rfl ?_
          refine mg_94 hS dX12_sumOf_60 ?_
          refine gz_aload_n dX12_sumOf_63 rfl rfl ?_
          refine mg_56 hS dX12_sumOf_64 ?_
          refine gz_iload dX12_sumOf_67 rfl ?_
          refine m_iald 19 hS rfl (N := 880) rfl ((by exact vin_T (rfl : (i).toInt = (i).toInt) (by omega) (by omega))) dX12_sumOf_69 ?_
          refine m_lald 28 hS rfl (N := 6) rfl ((by have q8 := all_ok bA (w := i) (by omega); have q7 := trivial; exact vin_T (rfl : (F 19 (Int32.toNatClampNeg i)).toInt = _) (by omega) (by omega))) dX12_sumOf_70 ?_
          refine gz_lstore (lv' := [(9, .long ((G 28) (Int32.toNatClampNeg ((F 19) (Int32.toNatClampNeg i))))), (8, .int i), (4, .long u), (6, .long v), (0, .ref m), (1, .int x1), (2, .int x2), (3, .int x3)]) dX12_sumOf_71 (by decide) rfl ?_
          refine gz_aload_n dX12_sumOf_73 rfl rfl ?_
          refine mg_53 hS dX12_sumOf_74 ?_
          refine gz_iload dX12_sumOf_77 rfl ?_
          refine m_iald 18 hS rfl (N := 880) rfl ((by exact vin_T (rfl : (i).toInt = (i).toInt) (by omega) (by omega))) dX12_sumOf_79 ?_
          refine gz_bipush (v := 42) dX12_sumOf_80 (by decide) ?_
          refine gz_icmp_ne (tgt := 95) dX12_sumOf_82 (by decide) (fun c_82 => ?_) (fun c_82 => ?_)
          ·
            try simp only [mIn_0, lgc_lt, lgc_gt, lgc_le, lgc_ge, lgc_eq] at c_82
            try simp only [fl_lt, fl_le, fl_eq, fL_w, fL_lt, fL_le, tm1, tm10k, tm9, tm99, Int32.reduceToInt, Int64.reduceToInt, Int.not_lt, Int.not_le] at c_82
            refine gz_lload dX12_sumOf_95 rfl ?_
            refine gz_lload dX12_sumOf_97 rfl ?_
            refine gz_ladd dX12_sumOf_99 ?_
            refine gz_lstore (lv' := [(4, .long (u + v)), (9, .long ((G 28) (Int32.toNatClampNeg ((F 19) (Int32.toNatClampNeg i))))), (8, .int i), (6, .long v), (0, .ref m), (1, .int x1), (2, .int x2), (3, .int x3)]) dX12_sumOf_100 (by decide) rfl ?_
            refine gz_aload_n dX12_sumOf_102 rfl rfl ?_
            refine mg_53 hS dX12_sumOf_103 ?_
            refine gz_iload dX12_sumOf_106 rfl ?_
            refine m_iald 18 hS rfl (N := 880) rfl ((by exact vin_T (rfl : (i).toInt = (i).toInt) (by omega) (by omega))) dX12_sumOf_108 ?_
            refine gz_bipush (v := 45) dX12_sumOf_109 (by decide) ?_
            refine gz_icmp_ne (tgt := 120) dX12_sumOf_111 (by decide) (fun c_111 => ?_) (fun c_111 => ?_)
            ·
              try simp only [mIn_0, lgc_lt, lgc_gt, lgc_le, lgc_ge, lgc_eq] at c_111
              try simp only [fl_lt, fl_le, fl_eq, fL_w, fL_lt, fL_le, tm1, tm10k, tm9, tm99, Int32.reduceToInt, Int64.reduceToInt, Int.not_lt, Int.not_le] at c_111
              refine gz_lload dX12_sumOf_120 rfl ?_
              refine gz_lstore (lv' := [(6, .long ((G 28) (Int32.toNatClampNeg ((F 19) (Int32.toNatClampNeg i))))), (4, .long (u + v)), (9, .long ((G 28) (Int32.toNatClampNeg ((F 19) (Int32.toNatClampNeg i))))), (8, .int i), (0, .ref m), (1, .int x1), (2, .int x2), (3, .int x3)]) dX12_sumOf_122 (by decide) rfl ?_
              refine gz_iinc (v := (i + 1)) (lv' := [(8, .int (i + 1)), (6, .long ((G 28) (Int32.toNatClampNeg ((F 19) (Int32.toNatClampNeg i))))), (4, .long (u + v)), (9, .long ((G 28) (Int32.toNatClampNeg ((F 19) (Int32.toNatClampNeg i))))), (0, .ref m), (1, .int x1), (2, .int x2), (3, .int x3)]) dX12_sumOf_124 rfl rfl (by decide) rfl ?_
              refine gz_goto (tgt := 11) dX12_sumOf_127 (by decide) ?_
              refine gz_sub (lv' := [(8, .int (i + 1)), (4, .long (u + v)), (6, .long ((G 28) (Int32.toNatClampNeg ((F 19) (Int32.toNatClampNeg i))))), (0, .ref m), (1, .int x1), (2, .int x2), (3, .int x3)]) (by simp [List.lookup]) ?_
              exact ih (i + 1) (u + v) ((G 28) (Int32.toNatClampNeg ((F 19) (Int32.toNatClampNeg i)))) _ _ _ _ _ hS hx (bA) ((by have q1_ := (T_add (rfl : (i).toInt = (i).toInt) (show (1 : Int32).toInt = 1 from rfl) (by omega)); omega)) (hf)
            ·
              try simp only [mIn_0, lgc_lt, lgc_gt, lgc_le, lgc_ge, lgc_eq] at c_111
              try simp only [fl_lt, fl_le, fl_eq, fL_w, fL_lt, fL_le, tm1, tm10k, tm9, tm99, Int32.reduceToInt, Int64.reduceToInt, Int.not_lt, Int.not_le] at c_111
              refine gz_lload dX12_sumOf_114 rfl ?_
              refine gz_lneg dX12_sumOf_116 ?_
              refine gz_goto (tgt := 122) dX12_sumOf_117 (by decide) ?_
              refine gz_lstore (lv' := [(6, .long (-((G 28) (Int32.toNatClampNeg ((F 19) (Int32.toNatClampNeg i)))))), (4, .long (u + v)), (9, .long ((G 28) (Int32.toNatClampNeg ((F 19) (Int32.toNatClampNeg i))))), (8, .int i), (0, .ref m), (1, .int x1), (2, .int x2), (3, .int x3)]) dX12_sumOf_122 (by decide) rfl ?_
              refine gz_iinc (v := (i + 1)) (lv' := [(8, .int (i + 1)), (6, .long (-((G 28) (Int32.toNatClampNeg ((F 19) (Int32.toNatClampNeg i)))))), (4, .long (u + v)), (9, .long ((G 28) (Int32.toNatClampNeg ((F 19) (Int32.toNatClampNeg i))))), (0, .ref m), (1, .int x1), (2, .int x2), (3, .int x3)]) dX12_sumOf_124 rfl rfl (by decide) rfl ?_
              refine gz_goto (tgt := 11) dX12_sumOf_127 (by decide) ?_
              refine gz_sub (lv' := [(8, .int (i + 1)), (4, .long (u + v)), (6, .long (-((G 28) (Int32.toNatClampNeg ((F 19) (Int32.toNatClampNeg i)))))), (0, .ref m), (1, .int x1), (2, .int x2), (3, .int x3)]) (by simp [List.lookup]) ?_
              exact ih (i + 1) (u + v) (-((G 28) (Int32.toNatClampNeg ((F 19) (Int32.toNatClampNeg i))))) _ _ _ _ _ hS hx (bA) ((by have q1_ := (T_add (rfl : (i).toInt = (i).toInt) (show (1 : Int32).toInt = 1 from rfl) (by omega)); omega)) (hf)
          ·
            try simp only [mIn_0, lgc_lt, lgc_gt, lgc_le, lgc_ge, lgc_eq] at c_82
            try simp only [fl_lt, fl_le, fl_eq, fL_w, fL_lt, fL_le, tm1, tm10k, tm9, tm99, Int32.reduceToInt, Int64.reduceToInt, Int.not_lt, Int.not_le] at c_82
            refine gz_lload dX12_sumOf_85 rfl ?_
            refine gz_lload dX12_sumOf_87 rfl ?_
            refine gz_lmul dX12_sumOf_89 ?_
            refine gz_lstore (lv' := [(6, .long (v * ((G 28) (Int32.toNatClampNeg ((F 19) (Int32.toNatClampNeg i)))))), (9, .long ((G 28) (Int32.toNatClampNeg ((F 19) (Int32.toNatClampNeg i))))), (8, .int i), (4, .long u), (0, .ref m), (1, .int x1), (2, .int x2), (3, .int x3)]) dX12_sumOf_90 (by decide) rfl ?_
            refine gz_goto (tgt := 124) dX12_sumOf_92 (by decide) ?_
            refine gz_iinc (v := (i + 1)) (lv' := [(8, .int (i + 1)), (6, .long (v * ((G 28) (Int32.toNatClampNeg ((F 19) (Int32.toNatClampNeg i)))))), (9, .long ((G 28) (Int32.toNatClampNeg ((F 19) (Int32.toNatClampNeg i))))), (4, .long u), (0, .ref m), (1, .int x1), (2, .int x2), (3, .int x3)]) dX12_sumOf_124 rfl rfl (by decide) rfl ?_
            refine gz_goto (tgt := 11) dX12_sumOf_127 (by decide) ?_
            refine gz_sub (lv' := [(8, .int (i + 1)), (4, .long u), (6, .long (v * ((G 28) (Int32.toNatClampNeg ((F 19) (Int32.toNatClampNeg i)))))), (0, .ref m), (1, .int x1), (2, .int x2), (3, .int x3)]) (by simp [List.lookup]) ?_
            exact ih (i + 1) u (v * ((G 28) (Int32.toNatClampNeg ((F 19) (Int32.toNatClampNeg i))))) _ _ _ _ _ hS hx (bA) ((by have q1_ := (T_add (rfl : (i).toInt = (i).toInt) (show (1 : Int32).toInt = 1 from rfl) (by omega)); omega)) (hf)
        ·
          try simp only [mIn_0, lgc_lt, lgc_gt, lgc_le, lgc_ge, lgc_eq] at c_49
          try simp only [fl_lt, fl_le, fl_eq, fL_w, fL_lt, fL_le, tm1, tm10k, tm9, tm99, Int32.reduceToInt, Int64.reduceToInt, Int.not_lt, Int.not_le] at c_49
          refine gz_aload_n dX12_sumOf_52 rfl rfl ?_
          refine mg_340 hS dX12_sumOf_53 ?_
          refine gz_goto (tgt := 71) dX12_sumOf_56 (by decide) ?_
          refine gz_lstore (lv' := [(9, .long (z 29)), (8, .int i), (4, .long u), (6, .long v), (0, .ref m), (1, .int x1), (2, .int x2), (3, .int x3)]) dX12_sumOf_71 (by decide) rfl ?_
          refine gz_aload_n dX12_sumOf_73 rfl rfl ?_
          refine mg_53 hS dX12_sumOf_74 ?_
          refine gz_iload dX12_sumOf_77 rfl ?_
          refine m_iald 18 hS rfl (N := 880) rfl ((by exact vin_T (rfl : (i).toInt = (i).toInt) (by omega) (by omega))) dX12_sumOf_79 ?_
          refine gz_bipush (v := 42) dX12_sumOf_80 (by decide) ?_
          refine gz_icmp_ne (tgt := 95) dX12_sumOf_82 (by decide) (fun c_82 => ?_) (fun c_82 => ?_)
          ·
            try simp only [mIn_0, lgc_lt, lgc_gt, lgc_le, lgc_ge, lgc_eq] at c_82
            try simp only [fl_lt, fl_le, fl_eq, fL_w, fL_lt, fL_le, tm1, tm10k, tm9, tm99, Int32.reduceToInt, Int64.reduceToInt, Int.not_lt, Int.not_le] at c_82
            refine gz_lload dX12_sumOf_95 rfl ?_
            refine gz_lload dX12_sumOf_97 rfl ?_
            refine gz_ladd dX12_sumOf_99 ?_
            refine gz_lstore (lv' := [(4, .long (u + v)), (9, .long (z 29)), (8, .int i), (6, .long v), (0, .ref m), (1, .int x1), (2, .int x2), (3, .int x3)]) dX12_sumOf_100 (by decide) rfl ?_
            refine gz_aload_n dX12_sumOf_102 rfl rfl ?_
            refine mg_53 hS dX12_sumOf_103 ?_
            refine gz_iload dX12_sumOf_106 rfl ?_
            refine m_iald 18 hS rfl (N := 880) rfl ((by exact vin_T (rfl : (i).toInt = (i).toInt) (by omega) (by omega))) dX12_sumOf_108 ?_
            refine gz_bipush (v := 45) dX12_sumOf_109 (by decide) ?_
            refine gz_icmp_ne (tgt := 120) dX12_sumOf_111 (by decide) (fun c_111 => ?_) (fun c_111 => ?_)
            ·
              try simp only [mIn_0, lgc_lt, lgc_gt, lgc_le, lgc_ge, lgc_eq] at c_111
              try simp only [fl_lt, fl_le, fl_eq, fL_w, fL_lt, fL_le, tm1, tm10k, tm9, tm99, Int32.reduceToInt, Int64.reduceToInt, Int.not_lt, Int.not_le] at c_111
              refine gz_lload dX12_sumOf_120 rfl ?_
              refine gz_lstore (lv' := [(6, .long (z 29)), (4, .long (u + v)), (9, .long (z 29)), (8, .int i), (0, .ref m), (1, .int x1), (2, .int x2), (3, .int x3)]) dX12_sumOf_122 (by decide) rfl ?_
              refine gz_iinc (v := (i + 1)) (lv' := [(8, .int (i + 1)), (6, .long (z 29)), (4, .long (u + v)), (9, .long (z 29)), (0, .ref m), (1, .int x1), (2, .int x2), (3, .int x3)]) dX12_sumOf_124 rfl rfl (by decide) rfl ?_
              refine gz_goto (tgt := 11) dX12_sumOf_127 (by decide) ?_
              refine gz_sub (lv' := [(8, .int (i + 1)), (4, .long (u + v)), (6, .long (z 29)), (0, .ref m), (1, .int x1), (2, .int x2), (3, .int x3)]) (by simp [List.lookup]) ?_
              exact ih (i + 1) (u + v) (z 29) _ _ _ _ _ hS hx (bA) ((by have q1_ := (T_add (rfl : (i).toInt = (i).toInt) (show (1 : Int32).toInt = 1 from rfl) (by omega)); omega)) (hf)
            ·
              try simp only [mIn_0, lgc_lt, lgc_gt, lgc_le, lgc_ge, lgc_eq] at c_111
              try simp only [fl_lt, fl_le, fl_eq, fL_w, fL_lt, fL_le, tm1, tm10k, tm9, tm99, Int32.reduceToInt, Int64.reduceToInt, Int.not_lt, Int.not_le] at c_111
              refine gz_lload dX12_sumOf_114 rfl ?_
              refine gz_lneg dX12_sumOf_116 ?_
              refine gz_goto (tgt := 122) dX12_sumOf_117 (by decide) ?_
              refine gz_lstore (lv' := [(6, .long (-(z 29))), (4, .long (u + v)), (9, .long (z 29)), (8, .int i), (0, .ref m), (1, .int x1), (2, .int x2), (3, .int x3)]) dX12_sumOf_122 (by decide) rfl ?_
              refine gz_iinc (v := (i + 1)) (lv' := [(8, .int (i + 1)), (6, .long (-(z 29))), (4, .long (u + v)), (9, .long (z 29)), (0, .ref m), (1, .int x1), (2, .int x2), (3, .int x3)]) dX12_sumOf_124 rfl rfl (by decide) rfl ?_
              refine gz_goto (tgt := 11) dX12_sumOf_127 (by decide) ?_
              refine gz_sub (lv' := [(8, .int (i + 1)), (4, .long (u + v)), (6, .long (-(z 29))), (0, .ref m), (1, .int x1), (2, .int x2), (3, .int x3)]) (by simp [List.lookup]) ?_
              exact ih (i + 1) (u + v) (-(z 29)) _ _ _ _ _ hS hx (bA) ((by have q1_ := (T_add (rfl : (i).toInt = (i).toInt) (show (1 : Int32).toInt = 1 from rfl) (by omega)); omega)) (hf)
          ·
            try simp only [mIn_0, lgc_lt, lgc_gt, lgc_le, lgc_ge, lgc_eq] at c_82
            try simp only [fl_lt, fl_le, fl_eq, fL_w, fL_lt, fL_le, tm1, tm10k, tm9, tm99, Int32.reduceToInt, Int64.reduceToInt, Int.not_lt, Int.not_le] at c_82
            refine gz_lload dX12_sumOf_85 rfl ?_
            refine gz_lload dX12_sumOf_87 rfl ?_
            refine gz_lmul dX12_sumOf_89 ?_
            refine gz_lstore (lv' := [(6, .long (v * (z 29))), (9, .long (z 29)), (8, .int i), (4, .long u), (0, .ref m), (1, .int x1), (2, .int x2), (3, .int x3)]) dX12_sumOf_90 (by decide) rfl ?_
            refine gz_goto (tgt := 124) dX12_sumOf_92 (by decide) ?_
            refine gz_iinc (v := (i + 1)) (lv' := [(8, .int (i + 1)), (6, .long (v * (z 29))), (9, .long (z 29)), (4, .long u), (0, .ref m), (1, .int x1), (2, .int x2), (3, .int x3)]) dX12_sumOf_124 rfl rfl (by decide) rfl ?_
            refine gz_goto (tgt := 11) dX12_sumOf_127 (by decide) ?_
            refine gz_sub (lv' := [(8, .int (i + 1)), (4, .long u), (6, .long (v * (z 29))), (0, .ref m), (1, .int x1), (2, .int x2), (3, .int x3)]) (by simp [List.lookup]) ?_
            exact ih (i + 1) u (v * (z 29)) _ _ _ _ _ hS hx (bA) ((by have q1_ := (T_add (rfl : (i).toInt = (i).toInt) (show (1 : Int32).toInt = 1 from rfl) (by omega)); omega)) (hf)
      ·
        try simp only [mIn_0, lgc_lt, lgc_gt, lgc_le, lgc_ge, lgc_eq] at c_26
        try simp only [fl_lt, fl_le, fl_eq, fL_w, fL_lt, fL_le, tm1, tm10k, tm9, tm99, Int32.reduceToInt, Int64.reduceToInt, Int.not_lt, Int.not_le] at c_26
        refine gz_aload_n dX12_sumOf_29 rfl rfl ?_
        refine mg_59 hS dX12_sumOf_30 ?_
        refine gz_iload dX12_sumOf_33 rfl ?_
        refine m_iald 20 hS rfl (N := 880) rfl ((by exact vin_T (rfl : (i).toInt = (i).toInt) (by omega) (by omega))) dX12_sumOf_35 ?_
        refine gz_i2l dX12_sumOf_36 ?_
        refine gz_goto (tgt := 71) dX12_sumOf_37 (by decide) ?_
        refine gz_lstore (lv' := [(9, .long ((F 20) (Int32.toNatClampNeg i)).toInt64), (8, .int i), (4, .long u), (6, .long v), (0, .ref m), (1, .int x1), (2, .int x2), (3, .int x3)]) dX12_sumOf_71 (by decide) rfl ?_
        refine gz_aload_n dX12_sumOf_73 rfl rfl ?_
        refine mg_53 hS dX12_sumOf_74 ?_
        refine gz_iload dX12_sumOf_77 rfl ?_
        refine m_iald 18 hS rfl (N := 880) rfl ((by exact vin_T (rfl : (i).toInt = (i).toInt) (by omega) (by omega))) dX12_sumOf_79 ?_
        refine gz_bipush (v := 42) dX12_sumOf_80 (by decide) ?_
        refine gz_icmp_ne (tgt := 95) dX12_sumOf_82 (by decide) (fun c_82 => ?_) (fun c_82 => ?_)
        ·
          try simp only [mIn_0, lgc_lt, lgc_gt, lgc_le, lgc_ge, lgc_eq] at c_82
          try simp only [fl_lt, fl_le, fl_eq, fL_w, fL_lt, fL_le, tm1, tm10k, tm9, tm99, Int32.reduceToInt, Int64.reduceToInt, Int.not_lt, Int.not_le] at c_82
          refine gz_lload dX12_sumOf_95 rfl ?_
          refine gz_lload dX12_sumOf_97 rfl ?_
          refine gz_ladd dX12_sumOf_99 ?_
          refine gz_lstore (lv' := [(4, .long (u + v)), (9, .long ((F 20) (Int32.toNatClampNeg i)).toInt64), (8, .int i), (6, .long v), (0, .ref m), (1, .int x1), (2, .int x2), (3, .int x3)]) dX12_sumOf_100 (by decide) rfl ?_
          refine gz_aload_n dX12_sumOf_102 rfl rfl ?_
          refine mg_53 hS dX12_sumOf_103 ?_
          refine gz_iload dX12_sumOf_106 rfl ?_
          refine m_iald 18 hS rfl (N := 880) rfl ((by exact vin_T (rfl : (i).toInt = (i).toInt) (by omega) (by omega))) dX12_sumOf_108 ?_
          refine gz_bipush (v := 45) dX12_sumOf_109 (by decide) ?_
          refine gz_icmp_ne (tgt := 120) dX12_sumOf_111 (by decide) (fun c_111 => ?_) (fun c_111 => ?_)
          ·
            try simp only [mIn_0, lgc_lt, lgc_gt, lgc_le, lgc_ge, lgc_eq] at c_111
            try simp only [fl_lt, fl_le, fl_eq, fL_w, fL_lt, fL_le, tm1, tm10k, tm9, tm99, Int32.reduceToInt, Int64.reduceToInt, Int.not_lt, Int.not_le] at c_111
            refine gz_lload dX12_sumOf_120 rfl ?_
            refine gz_lstore (lv' := [(6, .long ((F 20) (Int32.toNatClampNeg i)).toInt64), (4, .long (u + v)), (9, .long ((F 20) (Int32.toNatClampNeg i)).toInt64), (8, .int i), (0, .ref m), (1, .int x1), (2, .int x2), (3, .int x3)]) dX12_sumOf_122 (by decide) rfl ?_
            refine gz_iinc (v := (i + 1)) (lv' := [(8, .int (i + 1)), (6, .long ((F 20) (Int32.toNatClampNeg i)).toInt64), (4, .long (u + v)), (9, .long ((F 20) (Int32.toNatClampNeg i)).toInt64), (0, .ref m), (1, .int x1), (2, .int x2), (3, .int x3)]) dX12_sumOf_124 rfl rfl (by decide) rfl ?_
            refine gz_goto (tgt := 11) dX12_sumOf_127 (by decide) ?_
            refine gz_sub (lv' := [(8, .int (i + 1)), (4, .long (u + v)), (6, .long ((F 20) (Int32.toNatClampNeg i)).toInt64), (0, .ref m), (1, .int x1), (2, .int x2), (3, .int x3)]) (by simp [List.lookup]) ?_
            exact ih (i + 1) (u + v) (((F 20) (Int32.toNatClampNeg i)).toInt64) _ _ _ _ _ hS hx (bA) ((by have q1_ := (T_add (rfl : (i).toInt = (i).toInt) (show (1 : Int32).toInt = 1 from rfl) (by omega)); omega)) (hf)
          ·
            try simp only [mIn_0, lgc_lt, lgc_gt, lgc_le, lgc_ge, lgc_eq] at c_111
            try simp only [fl_lt, fl_le, fl_eq, fL_w, fL_lt, fL_le, tm1, tm10k, tm9, tm99, Int32.reduceToInt, Int64.reduceToInt, Int.not_lt, Int.not_le] at c_111
            refine gz_lload dX12_sumOf_114 rfl ?_
            refine gz_lneg dX12_sumOf_116 ?_
            refine gz_goto (tgt := 122) dX12_sumOf_117 (by decide) ?_
            refine gz_lstore (lv' := [(6, .long (-(((F 20) (Int32.toNatClampNeg i)).toInt64))), (4, .long (u + v)), (9, .long ((F 20) (Int32.toNatClampNeg i)).toInt64), (8, .int i), (0, .ref m), (1, .int x1), (2, .int x2), (3, .int x3)]) dX12_sumOf_122 (by decide) rfl ?_
            refine gz_iinc (v := (i + 1)) (lv' := [(8, .int (i + 1)), (6, .long (-(((F 20) (Int32.toNatClampNeg i)).toInt64))), (4, .long (u + v)), (9, .long ((F 20) (Int32.toNatClampNeg i)).toInt64), (0, .ref m), (1, .int x1), (2, .int x2), (3, .int x3)]) dX12_sumOf_124 rfl rfl (by decide) rfl ?_
            refine gz_goto (tgt := 11) dX12_sumOf_127 (by decide) ?_
            refine gz_sub (lv' := [(8, .int (i + 1)), (4, .long (u + v)), (6, .long (-(((F 20) (Int32.toNatClampNeg i)).toInt64))), (0, .ref m), (1, .int x1), (2, .int x2), (3, .int x3)]) (by simp [List.lookup]) ?_
            exact ih (i + 1) (u + v) (-(((F 20) (Int32.toNatClampNeg i)).toInt64)) _ _ _ _ _ hS hx (bA) ((by have q1_ := (T_add (rfl : (i).toInt = (i).toInt) (show (1 : Int32).toInt = 1 from rfl) (by omega)); omega)) (hf)
        ·
          try simp only [mIn_0, lgc_lt, lgc_gt, lgc_le, lgc_ge, lgc_eq] at c_82
          try simp only [fl_lt, fl_le, fl_eq, fL_w, fL_lt, fL_le, tm1, tm10k, tm9, tm99, Int32.reduceToInt, Int64.reduceToInt, Int.not_lt, Int.not_le] at c_82
          refine gz_lload dX12_sumOf_85 rfl ?_
          refine gz_lload dX12_sumOf_87 rfl ?_
          refine gz_lmul dX12_sumOf_89 ?_
          refine gz_lstore (lv' := [(6, .long (v * (((F 20) (Int32.toNatClampNeg i)).toInt64))), (9, .long ((F 20) (Int32.toNatClampNeg i)).toInt64), (8, .int i), (4, .long u), (0, .ref m), (1, .int x1), (2, .int x2), (3, .int x3)]) dX12_sumOf_90 (by decide) rfl ?_
          refine gz_goto (tgt := 124) dX12_sumOf_92 (by decide) ?_
          refine gz_iinc (v := (i + 1)) (lv' := [(8, .int (i + 1)), (6, .long (v * (((F 20) (Int32.toNatClampNeg i)).toInt64))), (9, .long ((F 20) (Int32.toNatClampNeg i)).toInt64), (4, .long u), (0, .ref m), (1, .int x1), (2, .int x2), (3, .int x3)]) dX12_sumOf_124 rfl rfl (by decide) rfl ?_
          refine gz_goto (tgt := 11) dX12_sumOf_127 (by decide) ?_
          refine gz_sub (lv' := [(8, .int (i + 1)), (4, .long u), (6, .long (v * (((F 20) (Int32.toNatClampNeg i)).toInt64))), (0, .ref m), (1, .int x1), (2, .int x2), (3, .int x3)]) (by simp [List.lookup]) ?_
          exact ih (i + 1) u (v * (((F 20) (Int32.toNatClampNeg i)).toInt64)) _ _ _ _ _ hS hx (bA) ((by have q1_ := (T_add (rfl : (i).toInt = (i).toInt) (show (1 : Int32).toInt = 1 from rfl) (by omega)); omega)) (hf)

set_option maxHeartbeats 4000000 in
set_option maxRecDepth 100000 in
theorem k_X12_sumOf {l : Launch} {D : va_G} {cy : Nat → ClassId} {b : Nat} {f : gMem} {m : Nat} {a : Nat → Nat} {f0 : gMem} {n : Nat → Int32} {z : Nat → Int64} {F : Nat → Nat → Int32} {G : Nat → Nat → Int64}  {x1 x2 x3 : Int32} (hS : mS cy m a f0 n z F G f) (bA : rAll F) (hb : 0 ≤ x1.toInt ∧ x1.toInt ≤ 840) (hlo : 0 ≤ x2.toInt ∧ x2.toInt ≤ 40) (hhi : 0 ≤ x3.toInt ∧ x3.toInt ≤ 40) : gC l D cy b yX12_sumOf cX12_sumOf 11 (some .long) 0 0 0 [.ref m, .int x1, .int x2, .int x3] f (pL fun r f2 => True ∧ f2 = f) := by
  refine gC_of (by decide) (Nat.le_of_ble_eq_true rfl) ?_
  show gG l _ _ _ D cy b cX12_sumOf 11 _ RX12 "sumOf" 0 0 f 0 [(0, .ref m), (1, .int x1), (2, .int x2), (3, .int x3)] []
  refine gz_lconst (v := 0) dX12_sumOf_0 (by decide) ?_
  refine gz_lstore (lv' := [(4, .long 0), (0, .ref m), (1, .int x1), (2, .int x2), (3, .int x3)]) dX12_sumOf_1 (by decide) rfl ?_
  refine gz_lconst (v := 0) dX12_sumOf_3 (by decide) ?_
  refine gz_lstore (lv' := [(6, .long 0), (4, .long 0), (0, .ref m), (1, .int x1), (2, .int x2), (3, .int x3)]) dX12_sumOf_4 (by decide) rfl ?_
  refine gz_iload_n dX12_sumOf_6 rfl rfl ?_
  refine gz_iload_n dX12_sumOf_7 rfl rfl ?_
  refine gz_iadd dX12_sumOf_8 ?_
  refine gz_istore (lv' := [(8, .int (x1 + x2)), (6, .long 0), (4, .long 0), (0, .ref m), (1, .int x1), (2, .int x2), (3, .int x3)]) dX12_sumOf_9 (by decide) rfl ?_
  refine gz_sub (lv' := [(8, .int (x1 + x2)), (4, .long 0), (6, .long 0), (0, .ref m), (1, .int x1), (2, .int x2), (3, .int x3)]) (by simp [List.lookup]) ?_
  exact l_X12_sumOf hb hlo hhi 881 (x1 + x2) 0 0 _ _ _ _ _ hS fx_rf (bA) (by have q := T_add (rfl : x1.toInt = x1.toInt) (rfl : x2.toInt = x2.toInt) (by omega); omega) (rfl)

set_option maxHeartbeats 4000000 in
set_option maxRecDepth 100000 in
theorem k_X12_holds {l : Launch} {D : va_G} {cy : Nat → ClassId} {b : Nat} {f : gMem} {m : Nat} {a : Nat → Nat} {f0 : gMem} {n : Nat → Int32} {z : Nat → Int64} {F : Nat → Nat → Int32} {G : Nat → Nat → Int64}  {x1 : Int32} (hS : mS cy m a f0 n z F G f) (bA : rAll F) (hw : 0 ≤ x1.toInt ∧ x1.toInt < 880) : gC l D cy b yX12_holds cX12_holds 7 (some .boolean) 1 0 0 [.ref m, .int x1] f (pI fun r f2 => (r = 0 ∨ r = 1) ∧ f2 = f) := by
  have qA := all_ok bA hw
  refine gC_of (by decide) (Nat.le_of_ble_eq_true rfl) ?_
  show gG l _ _ _ D cy b cX12_holds 7 _ RX12 "holds" 0 0 f 0 [(0, .ref m), (1, .int x1)] []
  refine gz_bipush (v := 40) dX12_holds_0 (by decide) ?_
  refine gz_iload_n dX12_holds_2 rfl rfl ?_
  refine gz_bipush (v := 40) dX12_holds_3 (by decide) ?_
  refine gz_idiv dX12_holds_5 (by decide) ?_
  refine gz_imul dX12_holds_6 ?_
  refine gz_istore_n (lv' := [(2, .int (40 * (x1 / 40))), (0, .ref m), (1, .int x1)]) dX12_holds_7 rfl (by decide) rfl ?_
  refine gz_aload_n dX12_holds_8 rfl rfl ?_
  refine gz_iload_n dX12_holds_9 rfl rfl ?_
  refine gz_aload_n dX12_holds_10 rfl rfl ?_
  refine mg_38 hS dX12_holds_11 ?_
  refine gz_iload_n dX12_holds_14 rfl rfl ?_
  refine m_iald 13 hS rfl (N := 880) rfl ((by exact vin_T (rfl : (x1).toInt = (x1).toInt) (by omega) (by omega))) dX12_holds_15 ?_
  refine gz_aload_n dX12_holds_16 rfl rfl ?_
  refine mg_41 hS dX12_holds_17 ?_
  refine gz_iload_n dX12_holds_20 rfl rfl ?_
  refine m_iald 14 hS rfl (N := 880) rfl ((by exact vin_T (rfl : (x1).toInt = (x1).toInt) (by omega) (by omega))) dX12_holds_21 ?_
  refine scX12_344 (k_X12_sumOf (x1 := (40 * (x1 / 40))) (x2 := ((F 13) (Int32.toNatClampNeg x1))) (x3 := ((F 14) (Int32.toNatClampNeg x1))) hS bA ⟨by have q := (T_mul (show (40 : Int32).toInt = 40 from rfl) (T_div (rfl : (x1).toInt = (x1).toInt) (show (40 : Int32).toInt = 40 from rfl) (by omega) (by omega)) (by omega)); omega, by have q := (T_mul (show (40 : Int32).toInt = 40 from rfl) (T_div (rfl : (x1).toInt = (x1).toInt) (show (40 : Int32).toInt = 40 from rfl) (by omega) (by omega)) (by omega)); omega⟩ (by omega) (by omega)) hS.1 ⟨(Nat.le_of_ble_eq_true rfl), (Nat.le_of_ble_eq_true rfl)⟩ ⟨(Nat.le_of_ble_eq_true rfl), (Nat.le_of_ble_eq_true rfl)⟩ rfl rfl (Nat.le_of_ble_eq_true rfl) dX12_holds_22 ?_
  rintro r_1 f9 ⟨-, y9⟩; rw [y9]
  refine gz_lstore_n (lv' := [(3, .long r_1), (2, .int (40 * (x1 / 40))), (0, .ref m), (1, .int x1)]) dX12_holds_25 rfl (by decide) rfl ?_
  refine gz_aload_n dX12_holds_26 rfl rfl ?_
  refine gz_iload_n dX12_holds_27 rfl rfl ?_
  refine gz_aload_n dX12_holds_28 rfl rfl ?_
  refine mg_41 hS dX12_holds_29 ?_
  refine gz_iload_n dX12_holds_32 rfl rfl ?_
  refine m_iald 14 hS rfl (N := 880) rfl ((by exact vin_T (rfl : (x1).toInt = (x1).toInt) (by omega) (by omega))) dX12_holds_33 ?_
  refine gz_aload_n dX12_holds_34 rfl rfl ?_
  refine mg_44 hS dX12_holds_35 ?_
  refine gz_iload_n dX12_holds_38 rfl rfl ?_
  refine m_iald 15 hS rfl (N := 880) rfl ((by exact vin_T (rfl : (x1).toInt = (x1).toInt) (by omega) (by omega))) dX12_holds_39 ?_
  refine scX12_344 (k_X12_sumOf (x1 := (40 * (x1 / 40))) (x2 := ((F 14) (Int32.toNatClampNeg x1))) (x3 := ((F 15) (Int32.toNatClampNeg x1))) hS bA ⟨by have q := (T_mul (show (40 : Int32).toInt = 40 from rfl) (T_div (rfl : (x1).toInt = (x1).toInt) (show (40 : Int32).toInt = 40 from rfl) (by omega) (by omega)) (by omega)); omega, by have q := (T_mul (show (40 : Int32).toInt = 40 from rfl) (T_div (rfl : (x1).toInt = (x1).toInt) (show (40 : Int32).toInt = 40 from rfl) (by omega) (by omega)) (by omega)); omega⟩ (by omega) (by omega)) hS.1 ⟨(Nat.le_of_ble_eq_true rfl), (Nat.le_of_ble_eq_true rfl)⟩ ⟨(Nat.le_of_ble_eq_true rfl), (Nat.le_of_ble_eq_true rfl)⟩ rfl rfl (Nat.le_of_ble_eq_true rfl) dX12_holds_40 ?_
  rintro r_2 f9 ⟨-, y9⟩; rw [y9]
  refine gz_lstore (lv' := [(5, .long r_2), (3, .long r_1), (2, .int (40 * (x1 / 40))), (0, .ref m), (1, .int x1)]) dX12_holds_43 (by decide) rfl ?_
  refine gz_aload_n dX12_holds_45 rfl rfl ?_
  refine mg_47 hS dX12_holds_46 ?_
  refine gz_iload_n dX12_holds_49 rfl rfl ?_
  refine m_iald 16 hS rfl (N := 880) rfl ((by exact vin_T (rfl : (x1).toInt = (x1).toInt) (by omega) (by omega))) dX12_holds_50 ?_
  by_cases hw_51_0 : ((F 16) (Int32.toNatClampNeg x1)) = 0
  ·
    refine gz_ev (w := .int 0) (congrArg Value.int hw_51_0) ?_
    refine gz_tableIn (off := 29) (tgt := 80) dX12_holds_51 (by decide) (by decide) rfl (by decide) ?_
    refine gz_lload_n dX12_holds_80 rfl rfl ?_
    refine gz_lload dX12_holds_81 rfl ?_
    refine gz_lcmp dX12_holds_83 ?_
    refine gz_if_ge (tgt := 91) dX12_holds_84 (by decide) (fun c_84 => ?_) (fun c_84 => ?_)
    ·
      try simp only [mIn_0, lgc_lt, lgc_gt, lgc_le, lgc_ge, lgc_eq] at c_84
      try simp only [fl_lt, fl_le, fl_eq, fL_w, fL_lt, fL_le, tm1, tm10k, tm9, tm99, Int32.reduceToInt, Int64.reduceToInt, Int.not_lt, Int.not_le] at c_84
      refine gz_iconst (v := 0) dX12_holds_91 (by decide) ?_
      exact gz_zret rfl (by first | decide | exact nrb (by assumption) | exact nrb (Or.inl rfl) | exact nrb (Or.inr rfl)) dX12_holds_92 (Nat.le_of_ble_eq_true rfl) (Nat.le_of_ble_eq_true rfl) (⟨_, rfl, (by first | exact Or.inl rfl | exact Or.inr rfl), rfl⟩)
    ·
      try simp only [mIn_0, lgc_lt, lgc_gt, lgc_le, lgc_ge, lgc_eq] at c_84
      try simp only [fl_lt, fl_le, fl_eq, fL_w, fL_lt, fL_le, tm1, tm10k, tm9, tm99, Int32.reduceToInt, Int64.reduceToInt, Int.not_lt, Int.not_le] at c_84
      refine gz_iconst (v := 1) dX12_holds_87 (by decide) ?_
      refine gz_goto (tgt := 92) dX12_holds_88 (by decide) ?_
      exact gz_zret rfl (by first | decide | exact nrb (by assumption) | exact nrb (Or.inl rfl) | exact nrb (Or.inr rfl)) dX12_holds_92 (Nat.le_of_ble_eq_true rfl) (Nat.le_of_ble_eq_true rfl) (⟨_, rfl, (by first | exact Or.inl rfl | exact Or.inr rfl), rfl⟩)
  ·
    by_cases hw_51_1 : ((F 16) (Int32.toNatClampNeg x1)) = 1
    ·
      refine gz_ev (w := .int 1) (congrArg Value.int hw_51_1) ?_
      refine gz_tableIn (off := 42) (tgt := 93) dX12_holds_51 (by decide) (by decide) rfl (by decide) ?_
      refine gz_lload_n dX12_holds_93 rfl rfl ?_
      refine gz_lload dX12_holds_94 rfl ?_
      refine gz_lcmp dX12_holds_96 ?_
      refine gz_if_gt (tgt := 104) dX12_holds_97 (by decide) (fun c_97 => ?_) (fun c_97 => ?_)
      ·
        try simp only [mIn_0, lgc_lt, lgc_gt, lgc_le, lgc_ge, lgc_eq] at c_97
        try simp only [fl_lt, fl_le, fl_eq, fL_w, fL_lt, fL_le, tm1, tm10k, tm9, tm99, Int32.reduceToInt, Int64.reduceToInt, Int.not_lt, Int.not_le] at c_97
        refine gz_iconst (v := 0) dX12_holds_104 (by decide) ?_
        exact gz_zret rfl (by first | decide | exact nrb (by assumption) | exact nrb (Or.inl rfl) | exact nrb (Or.inr rfl)) dX12_holds_105 (Nat.le_of_ble_eq_true rfl) (Nat.le_of_ble_eq_true rfl) (⟨_, rfl, (by first | exact Or.inl rfl | exact Or.inr rfl), rfl⟩)
      ·
        try simp only [mIn_0, lgc_lt, lgc_gt, lgc_le, lgc_ge, lgc_eq] at c_97
        try simp only [fl_lt, fl_le, fl_eq, fL_w, fL_lt, fL_le, tm1, tm10k, tm9, tm99, Int32.reduceToInt, Int64.reduceToInt, Int.not_lt, Int.not_le] at c_97
        refine gz_iconst (v := 1) dX12_holds_100 (by decide) ?_
        refine gz_goto (tgt := 105) dX12_holds_101 (by decide) ?_
        exact gz_zret rfl (by first | decide | exact nrb (by assumption) | exact nrb (Or.inl rfl) | exact nrb (Or.inr rfl)) dX12_holds_105 (Nat.le_of_ble_eq_true rfl) (Nat.le_of_ble_eq_true rfl) (⟨_, rfl, (by first | exact Or.inl rfl | exact Or.inr rfl), rfl⟩)
    ·
      by_cases hw_51_2 : ((F 16) (Int32.toNatClampNeg x1)) = 2
      ·
        refine gz_ev (w := .int 2) (congrArg Value.int hw_51_2) ?_
        refine gz_tableIn (off := 55) (tgt := 106) dX12_holds_51 (by decide) (by decide) rfl (by decide) ?_
        refine gz_lload_n dX12_holds_106 rfl rfl ?_
        refine gz_lload dX12_holds_107 rfl ?_
        refine gz_lcmp dX12_holds_109 ?_
        refine gz_if_ne (tgt := 117) dX12_holds_110 (by decide) (fun c_110 => ?_) (fun c_110 => ?_)
        ·
          try simp only [mIn_0, lgc_lt, lgc_gt, lgc_le, lgc_ge, lgc_eq] at c_110
          try simp only [fl_lt, fl_le, fl_eq, fL_w, fL_lt, fL_le, tm1, tm10k, tm9, tm99, Int32.reduceToInt, Int64.reduceToInt, Int.not_lt, Int.not_le] at c_110
          refine gz_iconst (v := 0) dX12_holds_117 (by decide) ?_
          exact gz_zret rfl (by first | decide | exact nrb (by assumption) | exact nrb (Or.inl rfl) | exact nrb (Or.inr rfl)) dX12_holds_118 (Nat.le_of_ble_eq_true rfl) (Nat.le_of_ble_eq_true rfl) (⟨_, rfl, (by first | exact Or.inl rfl | exact Or.inr rfl), rfl⟩)
        ·
          try simp only [mIn_0, lgc_lt, lgc_gt, lgc_le, lgc_ge, lgc_eq] at c_110
          try simp only [fl_lt, fl_le, fl_eq, fL_w, fL_lt, fL_le, tm1, tm10k, tm9, tm99, Int32.reduceToInt, Int64.reduceToInt, Int.not_lt, Int.not_le] at c_110
          refine gz_iconst (v := 1) dX12_holds_113 (by decide) ?_
          refine gz_goto (tgt := 118) dX12_holds_114 (by decide) ?_
          exact gz_zret rfl (by first | decide | exact nrb (by assumption) | exact nrb (Or.inl rfl) | exact nrb (Or.inr rfl)) dX12_holds_118 (Nat.le_of_ble_eq_true rfl) (Nat.le_of_ble_eq_true rfl) (⟨_, rfl, (by first | exact Or.inl rfl | exact Or.inr rfl), rfl⟩)
      ·
        by_cases hw_51_3 : ((F 16) (Int32.toNatClampNeg x1)) = 3
        ·
          refine gz_ev (w := .int 3) (congrArg Value.int hw_51_3) ?_
          refine gz_tableIn (off := 68) (tgt := 119) dX12_holds_51 (by decide) (by decide) rfl (by decide) ?_
          refine gz_lload_n dX12_holds_119 rfl rfl ?_
          refine gz_lload dX12_holds_120 rfl ?_
          refine gz_lcmp dX12_holds_122 ?_
          refine gz_if_lt (tgt := 130) dX12_holds_123 (by decide) (fun c_123 => ?_) (fun c_123 => ?_)
          ·
            try simp only [mIn_0, lgc_lt, lgc_gt, lgc_le, lgc_ge, lgc_eq] at c_123
            try simp only [fl_lt, fl_le, fl_eq, fL_w, fL_lt, fL_le, tm1, tm10k, tm9, tm99, Int32.reduceToInt, Int64.reduceToInt, Int.not_lt, Int.not_le] at c_123
            refine gz_iconst (v := 0) dX12_holds_130 (by decide) ?_
            exact gz_zret rfl (by first | decide | exact nrb (by assumption) | exact nrb (Or.inl rfl) | exact nrb (Or.inr rfl)) dX12_holds_131 (Nat.le_of_ble_eq_true rfl) (Nat.le_of_ble_eq_true rfl) (⟨_, rfl, (by first | exact Or.inl rfl | exact Or.inr rfl), rfl⟩)
          ·
            try simp only [mIn_0, lgc_lt, lgc_gt, lgc_le, lgc_ge, lgc_eq] at c_123
            try simp only [fl_lt, fl_le, fl_eq, fL_w, fL_lt, fL_le, tm1, tm10k, tm9, tm99, Int32.reduceToInt, Int64.reduceToInt, Int.not_lt, Int.not_le] at c_123
            refine gz_iconst (v := 1) dX12_holds_126 (by decide) ?_
            refine gz_goto (tgt := 131) dX12_holds_127 (by decide) ?_
            exact gz_zret rfl (by first | decide | exact nrb (by assumption) | exact nrb (Or.inl rfl) | exact nrb (Or.inr rfl)) dX12_holds_131 (Nat.le_of_ble_eq_true rfl) (Nat.le_of_ble_eq_true rfl) (⟨_, rfl, (by first | exact Or.inl rfl | exact Or.inr rfl), rfl⟩)
        ·
          refine gz_tableOut (tgt := 132) dX12_holds_51 (by have g0 : ((F 16) (Int32.toNatClampNeg x1)).toInt ≠ 0 := fun e => hw_51_0 (Int32.toInt_inj.mp (e.trans rfl)); have g1 : ((F 16) (Int32.toNatClampNeg x1)).toInt ≠ 1 := fun e => hw_51_1 (Int32.toInt_inj.mp (e.trans rfl)); have g2 : ((F 16) (Int32.toNatClampNeg x1)).toInt ≠ 2 := fun e => hw_51_2 (Int32.toInt_inj.mp (e.trans rfl)); have g3 : ((F 16) (Int32.toNatClampNeg x1)).toInt ≠ 3 := fun e => hw_51_3 (Int32.toInt_inj.mp (e.trans rfl)); omega) (by decide) ?_
          refine gz_lload_n dX12_holds_132 rfl rfl ?_
          refine gz_lload dX12_holds_133 rfl ?_
          refine gz_lcmp dX12_holds_135 ?_
          refine gz_if_le (tgt := 143) dX12_holds_136 (by decide) (fun c_136 => ?_) (fun c_136 => ?_)
          ·
            try simp only [mIn_0, lgc_lt, lgc_gt, lgc_le, lgc_ge, lgc_eq] at c_136
            try simp only [fl_lt, fl_le, fl_eq, fL_w, fL_lt, fL_le, tm1, tm10k, tm9, tm99, Int32.reduceToInt, Int64.reduceToInt, Int.not_lt, Int.not_le] at c_136
            refine gz_iconst (v := 0) dX12_holds_143 (by decide) ?_
            exact gz_zret rfl (by first | decide | exact nrb (by assumption) | exact nrb (Or.inl rfl) | exact nrb (Or.inr rfl)) dX12_holds_144 (Nat.le_of_ble_eq_true rfl) (Nat.le_of_ble_eq_true rfl) (⟨_, rfl, (by first | exact Or.inl rfl | exact Or.inr rfl), rfl⟩)
          ·
            try simp only [mIn_0, lgc_lt, lgc_gt, lgc_le, lgc_ge, lgc_eq] at c_136
            try simp only [fl_lt, fl_le, fl_eq, fL_w, fL_lt, fL_le, tm1, tm10k, tm9, tm99, Int32.reduceToInt, Int64.reduceToInt, Int.not_lt, Int.not_le] at c_136
            refine gz_iconst (v := 1) dX12_holds_139 (by decide) ?_
            refine gz_goto (tgt := 144) dX12_holds_140 (by decide) ?_
            exact gz_zret rfl (by first | decide | exact nrb (by assumption) | exact nrb (Or.inl rfl) | exact nrb (Or.inr rfl)) dX12_holds_144 (Nat.le_of_ble_eq_true rfl) (Nat.le_of_ble_eq_true rfl) (⟨_, rfl, (by first | exact Or.inl rfl | exact Or.inr rfl), rfl⟩)
