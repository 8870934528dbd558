set_option maxHeartbeats 4000000 in
set_option maxRecDepth 100000 in
theorem k_X12_goesOnE_1 {l : Launch} {D : va_G} {cy : Nat → ClassId} {b : Nat} {f : gMem} {m : Nat} {a : Nat → Nat} {f0 : gMem} {n : Nat → Int32} {z : Nat → Int64} {F : Nat → Nat → Int32} {G : Nat → Nat → Int64}  {x1 x2 x3 : Int32}{r1 P1 r p : Nat} {dd : Int} {T : List Hd} {E : We} {S0 : Sn} {fo : Nat} {VF : Int64} {wN : Nat} {fN : Int} {d wo : Nat} (hS : mS cy m a f0 n z F G f) (a5 : 0 ≤ (n 5).toInt ∧ (n 5).toInt ≤ 20) (bA : rAll F) (bW : rW F (n 5).toInt) (a53 : 1 ≤ (n 53).toInt ∧ (n 53).toInt ≤ 3) (hx1 : 0 ≤ x1.toInt ∧ (n 57).toInt = x1.toInt + 1) (hd : x2.toInt = dd ∧ dd ≤ 4) (hlo : FSt F (n 5).toInt dd (Int32.toNatClampNeg x1) r1 P1) (hfr : frV F (n 5).toInt dd (F 58 (Int32.toNatClampNeg x1)) (F 59 (Int32.toNatClampNeg x1)) (F 60 (Int32.toNatClampNeg x1)) (F 62 (Int32.toNatClampNeg x1)) (F 66 (Int32.toNatClampNeg x1)) r p) (hr1 : r < r1) (hat : (F 62 (Int32.toNatClampNeg x1)).toInt ≠ 0) (hX : LX F fo T) (hfo : fo < 20) (hER : eR E n F) (hDD : x2.toInt = (E.2.2.2.2.2 : Int)) (hKS : KS T E S0 fo VF F G (Int32.toNatClampNeg x1) (vl T E wN fN d (wSc E S0 d wo))) (hfD : fD T E fo F G (Int32.toNatClampNeg x1) wN fN d wo) (hlp : lpT T (wSc E S0 d wo) wN = false) (hmd : x3.toInt = E.2.2.2.2.1) (hst_ : ((F 62 (Int32.toNatClampNeg x1)).toInt = 3 ∧ tkF T E (wSc E S0 d wo) (F 64 (Int32.toNatClampNeg x1)) (G 63 (Int32.toNatClampNeg x1)) wN fN d) ∨ sfW T E (wSc E S0 d wo) (F 62 (Int32.toNatClampNeg x1)) (F 64 (Int32.toNatClampNeg x1)) (F 66 (Int32.toNatClampNeg x1)) (G 63 (Int32.toNatClampNeg x1)) (G 65 (Int32.toNatClampNeg x1)) wN fN d (z 67)) (hAT : (F 62 (Int32.toNatClampNeg x1)).toInt = 1) : gC l D cy b yX12_goesOn cX12_goesOn 7 none 2 0 0 [.ref m, .int x1, .int x2, .int x3] f (pV fun f2 => ∃ (n2 : Nat → Int32) (z2 : Nat → Int64) (F2 : Nat → Nat → Int32) (G2 : Nat → Nat → Int64), mS cy m a f0 n2 z2 F2 G2 f2 ∧ fx [57] [67] [58, 59, 60, 62, 64, 66] [61, 63, 65] n z F G n2 z2 F2 G2 ∧ WI T E S0 fo VF F2 G2 (n2 57).toInt.toNat (z2 67) ∧ 0 ≤ (n2 57).toInt ∧ ∃ r9 P9 : Nat, FSt F2 (n2 5).toInt dd (n2 57).toInt.toNat r9 P9 ∧ P9 < P1 + p) := by
  obtain ⟨fw, fd, fo_, fr_, fa⟩ := id hfr
  have qv := vW_lt bW a5 fw
  have qz := szF_pos bW fw
  have q3 := pw3 (d := (F 59 (Int32.toNatClampNeg x1)).toInt.toNat) (by omega)
  have qcx := clI (i := x1) (by omega)
  have qcn := clI (i := n 57) (by omega)
  have qlen := FSt_len _ _ _ hlo
  obtain ⟨hw1, hd1, hwo1, hfa1⟩ := id hfD
  have hok := hX.1.1
  have hvT_ := hX.1.2.1
  have h4 := hX.1.2.2.2.1
  have hD4 : d ≤ 4 := by omega
  have hrp : 1 ≤ r := by omega
  have hqa : atI (F 62 (Int32.toNatClampNeg x1)) (F 7 (Int32.toNatClampNeg (F 58 (Int32.toNatClampNeg x1)))) (F 66 (Int32.toNatClampNeg x1)) p r := by
    rcases fa with z | z | z | z | z
    · exact ⟨by omega, fun q => by omega, fun q => by omega, fun q => by omega, fun q => by omega⟩
    · exact ⟨by omega, fun _ => z.2, fun q => by omega, fun q => by omega, fun q => by omega⟩
    · exact ⟨by omega, fun q => by omega, fun _ => z.2, fun q => by omega, fun q => by omega⟩
    · exact ⟨by omega, fun q => by omega, fun q => by omega, fun _ => z.2, fun q => by omega⟩
    · exact ⟨by omega, fun q => by omega, fun q => by omega, fun q => by omega, fun _ => z.2⟩
  clear fa
  have q0 := hqa.1
  obtain ⟨xd, xv, xo1, xo2, _⟩ := LX_at bA hfo hX hw1.2
  have ecu : Int32.toNatClampNeg (F 58 (Int32.toNatClampNeg x1)) = 40 * fo + wN := by rw [clN]; omega
  rw [← ecu] at xd xo1 xo2
  have qkd := xd.1
  have hak := arH_k xv
  have hgl := gr_lk hok hvT_ hw1.2
  refine gC_of (by decide) (Nat.le_of_ble_eq_true rfl) ?_
  show gG l _ _ _ D cy b cX12_goesOn 7 _ RX12 "goesOn" 0 0 f 0 [(0, .ref m), (1, .int x1), (2, .int x2), (3, .int x3)] []
  refine gz_aload_n dX12_goesOn_0 rfl rfl ?_
  refine mg_164 hS dX12_goesOn_1 ?_
  refine gz_iload_n dX12_goesOn_4 rfl rfl ?_
  refine m_iald 58 hS rfl (N := 80) rfl ((by exact vin_T (rfl : x1.toInt = x1.toInt) (by omega) (by omega))) dX12_goesOn_5 ?_
  refine gz_istore (lv' := [(4, .int ((F 58) (Int32.toNatClampNeg x1))), (0, .ref m), (1, .int x1), (2, .int x2), (3, .int x3)]) dX12_goesOn_6 (by decide) rfl ?_
  refine gz_aload_n dX12_goesOn_8 rfl rfl ?_
  refine mg_176 hS dX12_goesOn_9 ?_
  refine gz_iload_n dX12_goesOn_12 rfl rfl ?_
  refine m_iald 62 hS rfl (N := 80) rfl ((by exact vin_T (rfl : x1.toInt = x1.toInt) (by omega) (by omega))) dX12_goesOn_13 ?_
  refine gz_iconst (v := 1) dX12_goesOn_14 (by decide) ?_
  refine gz_icmp_ne (tgt := 118) dX12_goesOn_15 (by decide) (fun c_15 => ?_) (fun c_15 => ?_)
  · exfalso; first | omega | (rw [c_15] at hAT; exact absurd hAT (by decide)) | exact c_15 (Int32.toInt_inj.mp (by rw [hAT]; rfl))
  ·
    try simp only [mIn_0, lgc_lt, lgc_gt, lgc_le, lgc_ge, lgc_eq] at c_15
    try simp only [fl_lt, fl_le, fl_eq, fL_w, fL_lt, fL_le, tm1, tm10k, tm9, tm99, Int32.reduceToInt, Int64.reduceToInt, Int.not_lt, Int.not_le] at c_15
    refine gz_aload_n dX12_goesOn_18 rfl rfl ?_
    refine mg_179 hS dX12_goesOn_19 ?_
    refine gz_iload_n dX12_goesOn_22 rfl rfl ?_
    refine gz_aload_n dX12_goesOn_23 rfl rfl ?_
    refine mg_450 hS dX12_goesOn_24 ?_
    refine m_last 63 hS rfl (N := 80) rfl ((by exact vin_T (rfl : x1.toInt = x1.toInt) (by omega) (by omega))) dX12_goesOn_27 (fun f_1 hS_1q => ?_)
    have hS_1 : mS cy m a f0 n z F (va_up G 63 (vp_updL (G 63) (Int32.toNatClampNeg x1) (z 67))) f_1 := hS_1q
    refine gz_aload_n dX12_goesOn_28 rfl rfl ?_
    refine mg_176 hS_1 dX12_goesOn_29 ?_
    refine gz_iload_n dX12_goesOn_32 rfl rfl ?_
    refine gz_aload_n dX12_goesOn_33 rfl rfl ?_
    refine mg_20 hS_1 dX12_goesOn_34 ?_
    refine gz_iload dX12_goesOn_37 rfl ?_
    refine m_iald 7 hS_1 rfl (N := 880) rfl ((by exact vin_T (rfl : (((F 58) (Int32.toNatClampNeg x1))).toInt = (((F 58) (Int32.toNatClampNeg x1))).toInt) (by omega) (by omega))) dX12_goesOn_39 ?_
    refine gz_ev (w := .int ((F 7) (Int32.toNatClampNeg ((F 58) (Int32.toNatClampNeg x1))))) rfl ?_
    refine gz_bipush (v := 7) dX12_goesOn_40 (by decide) ?_
    refine gz_icmp_ne (tgt := 49) dX12_goesOn_42 (by decide) (fun c_42 => ?_) (fun c_42 => ?_)
    ·
      try simp only [mIn_0, lgc_lt, lgc_gt, lgc_le, lgc_ge, lgc_eq] at c_42
      try simp only [fl_lt, fl_le, fl_eq, fL_w, fL_lt, fL_le, tm1, tm10k, tm9, tm99, Int32.reduceToInt, Int64.reduceToInt, Int.not_lt, Int.not_le] at c_42
      refine gz_iconst (v := 2) dX12_goesOn_49 (by decide) ?_
      refine m_iast 62 hS_1 rfl (N := 80) rfl ((by exact vin_T (rfl : x1.toInt = x1.toInt) (by omega) (by omega))) dX12_goesOn_50 (fun f_2 hS_2q => ?_)
      have hS_2 : mS cy m a f0 n z (va_up F 62 (upd (F 62) (Int32.toNatClampNeg x1) 2)) (va_up G 63 (vp_updL (G 63) (Int32.toNatClampNeg x1) (z 67))) f_2 := hS_2q
      refine gz_aload_n dX12_goesOn_51 rfl rfl ?_
      refine mg_182 hS_2 dX12_goesOn_52 ?_
      refine gz_iload_n dX12_goesOn_55 rfl rfl ?_
      refine gz_aload_n dX12_goesOn_56 rfl rfl ?_
      refine mg_20 hS_2 dX12_goesOn_57 ?_
      refine gz_iload dX12_goesOn_60 rfl ?_
      refine m_iald 7 hS_2 rfl (N := 880) rfl ((by exact vin_T (rfl : (((F 58) (Int32.toNatClampNeg x1))).toInt = (((F 58) (Int32.toNatClampNeg x1))).toInt) (by omega) (by omega))) dX12_goesOn_62 ?_
      refine gz_ev (w := .int ((F 7) (Int32.toNatClampNeg ((F 58) (Int32.toNatClampNeg x1))))) rfl ?_
      refine gz_bipush (v := 7) dX12_goesOn_63 (by decide) ?_
      refine gz_icmp_ne (tgt := 72) dX12_goesOn_65 (by decide) (fun c_65 => ?_) (fun c_65 => ?_)
      ·
        try simp only [mIn_0, lgc_lt, lgc_gt, lgc_le, lgc_ge, lgc_eq] at c_65
        try simp only [fl_lt, fl_le, fl_eq, fL_w, fL_lt, fL_le, tm1, tm10k, tm9, tm99, Int32.reduceToInt, Int64.reduceToInt, Int.not_lt, Int.not_le] at c_65
        refine gz_iconst (v := 0) dX12_goesOn_72 (by decide) ?_
        refine m_zast 64 hS_2 rfl (N := 80) rfl ((by exact vin_T (rfl : x1.toInt = x1.toInt) (by omega) (by omega))) dX12_goesOn_73 (fun f_3 hS_3q => ?_)
        have hS_3 : mS cy m a f0 n z (va_up (va_up F 62 (upd (F 62) (Int32.toNatClampNeg x1) 2)) 64 (upd (F 64) (Int32.toNatClampNeg x1) (vp_nar .boolean 0))) (va_up G 63 (vp_updL (G 63) (Int32.toNatClampNeg x1) (z 67))) f_3 := hS_3q
        refine gz_aload_n dX12_goesOn_74 rfl rfl ?_
        refine mg_20 hS_3 dX12_goesOn_75 ?_
        refine gz_iload dX12_goesOn_78 rfl ?_
        refine m_iald 7 hS_3 rfl (N := 880) rfl ((by exact vin_T (rfl : (((F 58) (Int32.toNatClampNeg x1))).toInt = (((F 58) (Int32.toNatClampNeg x1))).toInt) (by omega) (by omega))) dX12_goesOn_80 ?_
        refine gz_ev (w := .int ((F 7) (Int32.toNatClampNeg ((F 58) (Int32.toNatClampNeg x1))))) rfl ?_
        refine gz_bipush (v := 7) dX12_goesOn_81 (by decide) ?_
        refine gz_icmp_eq (tgt := 325) dX12_goesOn_83 (by decide) (fun c_83 => ?_) (fun c_83 => ?_)
        ·
          try simp only [mIn_0, lgc_lt, lgc_gt, lgc_le, lgc_ge, lgc_eq] at c_83
          try simp only [fl_lt, fl_le, fl_eq, fL_w, fL_lt, fL_le, tm1, tm10k, tm9, tm99, Int32.reduceToInt, Int64.reduceToInt, Int.not_lt, Int.not_le] at c_83
          exact gz_vret rfl dX12_goesOn_325 (Nat.le_of_ble_eq_true rfl) (Nat.le_of_ble_eq_true rfl) ((by exfalso; omega))
        ·
          try simp only [mIn_0, lgc_lt, lgc_gt, lgc_le, lgc_ge, lgc_eq] at c_83
          try simp only [fl_lt, fl_le, fl_eq, fL_w, fL_lt, fL_le, tm1, tm10k, tm9, tm99, Int32.reduceToInt, Int64.reduceToInt, Int.not_lt, Int.not_le] at c_83
          refine gz_aload_n dX12_goesOn_86 rfl rfl ?_
          refine gz_aload_n dX12_goesOn_87 rfl rfl ?_
          refine mg_35 hS_3 dX12_goesOn_88 ?_
          refine gz_iload dX12_goesOn_91 rfl ?_
          refine m_iald 12 hS_3 rfl (N := 880) rfl ((by exact vin_T (rfl : (((F 58) (Int32.toNatClampNeg x1))).toInt = (((F 58) (Int32.toNatClampNeg x1))).toInt) (by omega) (by omega))) dX12_goesOn_93 ?_
          refine gz_ev (w := .int ((F 12) (Int32.toNatClampNeg ((F 58) (Int32.toNatClampNeg x1))))) rfl ?_
          refine gz_aload_n dX12_goesOn_94 rfl rfl ?_
          refine mg_167 hS_3 dX12_goesOn_95 ?_
          refine gz_iload_n dX12_goesOn_98 rfl rfl ?_
          refine m_iald 59 hS_3 rfl (N := 80) rfl ((by exact vin_T (rfl : x1.toInt = x1.toInt) (by omega) (by omega))) dX12_goesOn_99 ?_
          refine gz_ev (w := .int ((F 59) (Int32.toNatClampNeg x1))) rfl ?_
          refine gz_aload_n dX12_goesOn_100 rfl rfl ?_
          refine mg_170 hS_3 dX12_goesOn_101 ?_
          refine gz_iload_n dX12_goesOn_104 rfl rfl ?_
          refine m_iald 60 hS_3 rfl (N := 80) rfl ((by exact vin_T (rfl : x1.toInt = x1.toInt) (by omega) (by omega))) dX12_goesOn_105 ?_
          refine gz_ev (w := .int ((F 60) (Int32.toNatClampNeg x1))) rfl ?_
          refine gz_aload_n dX12_goesOn_106 rfl rfl ?_
          refine mg_173 hS_3 dX12_goesOn_107 ?_
          refine gz_iload_n dX12_goesOn_110 rfl rfl ?_
          refine m_lald 61 hS_3 rfl (N := 80) rfl ((by exact vin_T (rfl : x1.toInt = x1.toInt) (by omega) (by omega))) dX12_goesOn_111 ?_
          refine gz_ev (w := .long ((G 61) (Int32.toNatClampNeg x1))) rfl ?_
          have qf := hqa.2.1 (by omega)
          have hs1_ : (F 64 (Int32.toNatClampNeg x1)).toInt = 0 ∧ ((grH T wN).1 = 3 ∨ (grH T wN).1 = 4 ∨ ((grH T wN).1 = 7 ∧ hlB (wSc E S0 d wo) (grH T wN) = true)) ∧ z 67 = vl T E (wN + 1) fN d (wSc E S0 d wo) := by rcases hst_ with z9 | z9 | z9 | z9; (exfalso; omega); exact ⟨z9.2.1, z9.2.2.1, z9.2.2.2⟩; (exfalso; omega); (exfalso; omega)
          have q2 : vW F (n 5).toInt (F 12 (Int32.toNatClampNeg (F 58 (Int32.toNatClampNeg x1)))).toInt ∧ szF F (F 11 (Int32.toNatClampNeg (F 58 (Int32.toNatClampNeg x1)))).toInt + szF F (F 12 (Int32.toNatClampNeg (F 58 (Int32.toNatClampNeg x1)))).toInt + 1 ≤ szF F (F 58 (Int32.toNatClampNeg x1)).toInt := two_ok bW fw (show 3 ≤ (F 7 (Int32.toNatClampNeg (F 58 (Int32.toNatClampNeg x1)))).toInt ∧ (F 7 (Int32.toNatClampNeg (F 58 (Int32.toNatClampNeg x1)))).toInt ≤ 5 by omega)
          have q2z := szF_pos bW q2.1
          obtain ⟨rb, hrb_⟩ : ∃ rb : Nat, (rb : Int) = szF F (F 12 (Int32.toNatClampNeg (F 58 (Int32.toNatClampNeg x1)))).toInt + 4 - (F 59 (Int32.toNatClampNeg x1)).toInt := ⟨(szF F (F 12 (Int32.toNatClampNeg (F 58 (Int32.toNatClampNeg x1)))).toInt + 4 - (F 59 (Int32.toNatClampNeg x1)).toInt : Int).toNat, by omega⟩
          have hcb := cR_mono (a := rb) (r - 1) (by omega)
          have qo2 := xo2 (by omega)
          refine scX12_466 (k_X12_pushesE (x1 := ((F 12) (Int32.toNatClampNeg ((F 58) (Int32.toNatClampNeg x1))))) (x2 := ((F 59) (Int32.toNatClampNeg x1))) (x3 := ((F 60) (Int32.toNatClampNeg x1))) (y := ((G 61) (Int32.toNatClampNeg x1))) hS_3 (by omega)) hS_3.1 ⟨(Nat.le_of_ble_eq_true rfl), (Nat.le_of_ble_eq_true rfl)⟩ ⟨(Nat.le_of_ble_eq_true rfl), (Nat.le_of_ble_eq_true rfl)⟩ rfl rfl (Nat.le_of_ble_eq_true rfl) dX12_goesOn_112 ?_
          rintro f_4 ⟨n_4, z_4, F_4, G_4, hS_4, hx4, g57_4, g58_4, g59_4, g60_4, g61_4, g62_4, g64_4⟩
          refine gz_goto (tgt := 325) dX12_goesOn_115 (by decide) ?_
          have hxx : fx [57] [67] [58, 59, 60, 62, 64, 66] [61, 63, 65] n z F G n_4 z_4 F_4 G_4 := (fx_tr (fx_F (fx_F (fx_G fx_rf (by decide)) (by decide)) (by decide)) hx4 (by decide))
          have hlo9 : FSt F_4 (n 5).toInt dd (Int32.toNatClampNeg x1) r1 P1 := FSt_cg (fun k hk => hxx.2.2.1 k ((by decide : ∀ k : Nat, k ∈ wK → k ∉ ([58, 59, 60, 62, 64, 66] : List Nat)) k hk)) _ _ _ (fun i hi => by rw [(show F_4 58 = (upd (F 58) (Int32.toNatClampNeg (n 57)) ((F 12) (Int32.toNatClampNeg ((F 58) (Int32.toNatClampNeg x1))))) from g58_4)]; rw [updE, if_neg (by omega)]) (fun i hi => by rw [(show F_4 59 = (upd (F 59) (Int32.toNatClampNeg (n 57)) ((F 59) (Int32.toNatClampNeg x1))) from g59_4)]; rw [updE, if_neg (by omega)]) (fun i hi => by rw [(show F_4 60 = (upd (F 60) (Int32.toNatClampNeg (n 57)) ((F 60) (Int32.toNatClampNeg x1))) from g60_4)]; rw [updE, if_neg (by omega)]) (fun i hi => by rw [(show F_4 62 = (upd (upd (F 62) (Int32.toNatClampNeg x1) 2) (Int32.toNatClampNeg (n 57)) 0) from g62_4)]; rw [updE, if_neg (by omega)]; rw [updE, if_neg (by omega)]) (fun i hi => by rw [(show F_4 66 = (F 66) from (hx4.2.2.1 66 (by decide)))]) hlo
          have hKS9 : KS T E S0 fo VF F_4 G_4 (Int32.toNatClampNeg x1) (vl T E wN fN d (wSc E S0 d wo)) := KS_cg (fun k hk => by simp only [List.mem_cons, List.not_mem_nil, or_false] at hk; rcases hk with rfl | rfl | rfl | rfl | rfl | rfl; exact (fun i hi => by rw [(show F_4 58 = (upd (F 58) (Int32.toNatClampNeg (n 57)) ((F 12) (Int32.toNatClampNeg ((F 58) (Int32.toNatClampNeg x1))))) from g58_4)]; rw [updE, if_neg (by omega)]); exact (fun i hi => by rw [(show F_4 59 = (upd (F 59) (Int32.toNatClampNeg (n 57)) ((F 59) (Int32.toNatClampNeg x1))) from g59_4)]; rw [updE, if_neg (by omega)]); exact (fun i hi => by rw [(show F_4 60 = (upd (F 60) (Int32.toNatClampNeg (n 57)) ((F 60) (Int32.toNatClampNeg x1))) from g60_4)]; rw [updE, if_neg (by omega)]); exact (fun i hi => by rw [(show F_4 62 = (upd (upd (F 62) (Int32.toNatClampNeg x1) 2) (Int32.toNatClampNeg (n 57)) 0) from g62_4)]; rw [updE, if_neg (by omega)]; rw [updE, if_neg (by omega)]); exact (fun i hi => by rw [(show F_4 64 = (upd (upd (F 64) (Int32.toNatClampNeg x1) (vp_nar .boolean 0)) (Int32.toNatClampNeg (n 57)) 0) from g64_4)]; rw [updE, if_neg (by omega)]; rw [updE, if_neg (by omega)]); exact (fun i hi => by rw [(show F_4 66 = (F 66) from (hx4.2.2.1 66 (by decide)))])) (fun k hk => by simp only [List.mem_cons, List.not_mem_nil, or_false] at hk; rcases hk with rfl | rfl | rfl; exact (fun i hi => by rw [(show G_4 61 = (vp_updL (G 61) (Int32.toNatClampNeg (n 57)) ((G 61) (Int32.toNatClampNeg x1))) from g61_4)]; rw [updLE, if_neg (by omega)]); exact (fun i hi => by rw [(show G_4 63 = (vp_updL (G 63) (Int32.toNatClampNeg x1) (z 67)) from (hx4.2.2.2 63 (by decide)))]; rw [updLE, if_neg (by omega)]); exact (fun i hi => by rw [(show G_4 65 = (G 65) from (hx4.2.2.2 65 (by decide)))])) hKS
          have e5 : n_4 5 = n 5 := hxx.1 5 (by decide)
          have e57 : (n_4 57).toInt = x1.toInt + 2 := (by (try rw [(show n_4 57 = ((n 57) + 1) from g57_4)]); have q1_ := (T_add (rfl : ((n 57)).toInt = ((n 57)).toInt) (show (1 : Int32).toInt = 1 from rfl) (by omega)); omega)
          have e57n : (n_4 57).toInt.toNat = (Int32.toNatClampNeg x1) + 2 := by omega
          have vhta58 : F_4 58 (Int32.toNatClampNeg x1) = (F 58 (Int32.toNatClampNeg x1)) := (by rw [(show F_4 58 = (upd (F 58) (Int32.toNatClampNeg (n 57)) ((F 12) (Int32.toNatClampNeg ((F 58) (Int32.toNatClampNeg x1))))) from g58_4)]; rw [updE, if_neg (by omega)])
          have vhta59 : F_4 59 (Int32.toNatClampNeg x1) = (F 59 (Int32.toNatClampNeg x1)) := (by rw [(show F_4 59 = (upd (F 59) (Int32.toNatClampNeg (n 57)) ((F 59) (Int32.toNatClampNeg x1))) from g59_4)]; rw [updE, if_neg (by omega)])
          have vhta60 : F_4 60 (Int32.toNatClampNeg x1) = (F 60 (Int32.toNatClampNeg x1)) := (by rw [(show F_4 60 = (upd (F 60) (Int32.toNatClampNeg (n 57)) ((F 60) (Int32.toNatClampNeg x1))) from g60_4)]; rw [updE, if_neg (by omega)])
          have vhta62 : F_4 62 (Int32.toNatClampNeg x1) = 2 := (by rw [(show F_4 62 = (upd (upd (F 62) (Int32.toNatClampNeg x1) 2) (Int32.toNatClampNeg (n 57)) 0) from g62_4)]; rw [updE, if_neg (by omega)]; rw [updE, if_pos rfl])
          have vhta64 : F_4 64 (Int32.toNatClampNeg x1) = (vp_nar .boolean 0) := (by rw [(show F_4 64 = (upd (upd (F 64) (Int32.toNatClampNeg x1) (vp_nar .boolean 0)) (Int32.toNatClampNeg (n 57)) 0) from g64_4)]; rw [updE, if_neg (by omega)]; rw [updE, if_pos rfl])
          have vhta66 : F_4 66 (Int32.toNatClampNeg x1) = (F 66 (Int32.toNatClampNeg x1)) := (by rw [(show F_4 66 = (F 66) from (hx4.2.2.1 66 (by decide)))])
          have vhta61 : G_4 61 (Int32.toNatClampNeg x1) = (G 61 (Int32.toNatClampNeg x1)) := (by rw [(show G_4 61 = (vp_updL (G 61) (Int32.toNatClampNeg (n 57)) ((G 61) (Int32.toNatClampNeg x1))) from g61_4)]; rw [updLE, if_neg (by omega)])
          have vhta63 : G_4 63 (Int32.toNatClampNeg x1) = (z 67) := (by rw [(show G_4 63 = (vp_updL (G 63) (Int32.toNatClampNeg x1) (z 67)) from (hx4.2.2.2 63 (by decide)))]; rw [updLE, if_pos rfl])
          have vhta65 : G_4 65 (Int32.toNatClampNeg x1) = (G 65 (Int32.toNatClampNeg x1)) := (by rw [(show G_4 65 = (G 65) from (hx4.2.2.2 65 (by decide)))])
          have hta : frV F (n 5).toInt dd (F_4 58 (Int32.toNatClampNeg x1)) (F_4 59 (Int32.toNatClampNeg x1)) (F_4 60 (Int32.toNatClampNeg x1)) (F_4 62 (Int32.toNatClampNeg x1)) (F_4 66 (Int32.toNatClampNeg x1)) r 1 := by rw [vhta58, vhta59, vhta60, vhta62, vhta66]; exact ⟨fw, fd, fo_, fr_, Or.inr (Or.inr (Or.inl ⟨by first | rfl | (exfalso; omega), rfl⟩))⟩
          have hs1 : FSt F_4 (n 5).toInt dd ((Int32.toNatClampNeg x1) + 1) r (P1 + 1) := ⟨r1, P1, 1, hlo9, by omega, frV_w (fun k hk => hxx.2.2.1 k ((by decide : ∀ k : Nat, k ∈ wK → k ∉ ([58, 59, 60, 62, 64, 66] : List Nat)) k hk)) hta, rfl⟩
          have qn1 : (Int32.toNatClampNeg (n 57)) = (Int32.toNatClampNeg x1) + 1 := by omega
          have vhtb58 : F_4 58 (Int32.toNatClampNeg (n 57)) = ((F 12) (Int32.toNatClampNeg ((F 58) (Int32.toNatClampNeg x1)))) := (by rw [(show F_4 58 = (upd (F 58) (Int32.toNatClampNeg (n 57)) ((F 12) (Int32.toNatClampNeg ((F 58) (Int32.toNatClampNeg x1))))) from g58_4)]; rw [updE, if_pos rfl])
          have vhtb59 : F_4 59 (Int32.toNatClampNeg (n 57)) = ((F 59) (Int32.toNatClampNeg x1)) := (by rw [(show F_4 59 = (upd (F 59) (Int32.toNatClampNeg (n 57)) ((F 59) (Int32.toNatClampNeg x1))) from g59_4)]; rw [updE, if_pos rfl])
          have vhtb60 : F_4 60 (Int32.toNatClampNeg (n 57)) = ((F 60) (Int32.toNatClampNeg x1)) := (by rw [(show F_4 60 = (upd (F 60) (Int32.toNatClampNeg (n 57)) ((F 60) (Int32.toNatClampNeg x1))) from g60_4)]; rw [updE, if_pos rfl])
          have vhtb62 : F_4 62 (Int32.toNatClampNeg (n 57)) = 0 := (by rw [(show F_4 62 = (upd (upd (F 62) (Int32.toNatClampNeg x1) 2) (Int32.toNatClampNeg (n 57)) 0) from g62_4)]; rw [updE, if_pos rfl])
          have vhtb64 : F_4 64 (Int32.toNatClampNeg (n 57)) = 0 := (by rw [(show F_4 64 = (upd (upd (F 64) (Int32.toNatClampNeg x1) (vp_nar .boolean 0)) (Int32.toNatClampNeg (n 57)) 0) from g64_4)]; rw [updE, if_pos rfl])
          have vhtb66 : F_4 66 (Int32.toNatClampNeg (n 57)) = (F 66 (Int32.toNatClampNeg (n 57))) := (by rw [(show F_4 66 = (F 66) from (hx4.2.2.1 66 (by decide)))])
          have vhtb61 : G_4 61 (Int32.toNatClampNeg (n 57)) = ((G 61) (Int32.toNatClampNeg x1)) := (by rw [(show G_4 61 = (vp_updL (G 61) (Int32.toNatClampNeg (n 57)) ((G 61) (Int32.toNatClampNeg x1))) from g61_4)]; rw [updLE, if_pos rfl])
          have vhtb63 : G_4 63 (Int32.toNatClampNeg (n 57)) = (G 63 (Int32.toNatClampNeg (n 57))) := (by rw [(show G_4 63 = (vp_updL (G 63) (Int32.toNatClampNeg x1) (z 67)) from (hx4.2.2.2 63 (by decide)))]; rw [updLE, if_neg (by omega)])
          have vhtb65 : G_4 65 (Int32.toNatClampNeg (n 57)) = (G 65 (Int32.toNatClampNeg (n 57))) := (by rw [(show G_4 65 = (G 65) from (hx4.2.2.2 65 (by decide)))])
          have htb : frV F (n 5).toInt dd (F_4 58 (Int32.toNatClampNeg (n 57))) (F_4 59 (Int32.toNatClampNeg (n 57))) (F_4 60 (Int32.toNatClampNeg (n 57))) (F_4 62 (Int32.toNatClampNeg (n 57))) (F_4 66 (Int32.toNatClampNeg (n 57))) rb (cR rb) := by rw [vhtb58, vhtb59, vhtb60, vhtb62, vhtb66]; exact ⟨q2.1, fd, fo_, hrb_, Or.inl ⟨rfl, rfl⟩⟩
          rw [qn1] at vhtb58
          rw [qn1] at vhtb59
          rw [qn1] at vhtb60
          rw [qn1] at vhtb62
          rw [qn1] at vhtb64
          rw [qn1] at vhtb66
          rw [qn1] at vhtb61
          rw [qn1] at vhtb63
          rw [qn1] at vhtb65
          rw [qn1] at htb
          have hs2 : FSt F_4 (n 5).toInt dd ((Int32.toNatClampNeg x1) + 1 + 1) rb (P1 + 1 + (cR rb)) := ⟨_, _, (cR rb), hs1, by omega, frV_w (fun k hk => hxx.2.2.1 k ((by decide : ∀ k : Nat, k ∈ wK → k ∉ ([58, 59, 60, 62, 64, 66] : List Nat)) k hk)) htb, rfl⟩
          have hK2 : KS T E S0 fo VF F_4 G_4 ((Int32.toNatClampNeg x1) + 1) (vl T E (grS T wN) fN d (wSc E S0 d wo)) := ⟨wN, fN, d, wo, (by unfold fD; rw [vhta58, vhta59, vhta60, vhta61]; exact ⟨hw1, hd1, hwo1, hfa1⟩), hlp, hKS9, by rw [vhta62, vhta64, vhta66, vhta63, vhta65]; exact Or.inr (Or.inl ⟨by first | rfl | (exfalso; omega), by omega, hs1_.2.2, rfl⟩)⟩
          have hWI : WI T E S0 fo VF F_4 G_4 (n_4 57).toInt.toNat (z_4 67) := Or.inr ⟨(Int32.toNatClampNeg x1) + 1, (grS T wN), fN, d, wo, e57n, hK2, (by unfold fD; rw [vhtb58, vhtb59, vhtb60, vhtb61]; exact ⟨⟨qo2, (hgl.2.2 (by omega)).2⟩, hd1, hwo1, hfa1⟩), Or.inl ⟨by rw [vhtb62]; rfl, by rw [vhtb64]; rfl⟩⟩
          exact gz_vret rfl dX12_goesOn_325 (Nat.le_of_ble_eq_true rfl) (Nat.le_of_ble_eq_true rfl) (⟨rfl, _, _, _, _, hS_4, hxx, hWI, by omega, rb, _, by rw [e57n, e5]; exact hs2, (by have := qf.2; omega)⟩)
      ·
        try simp only [mIn_0, lgc_lt, lgc_gt, lgc_le, lgc_ge, lgc_eq] at c_65
        try simp only [fl_lt, fl_le, fl_eq, fL_w, fL_lt, fL_le, tm1, tm10k, tm9, tm99, Int32.reduceToInt, Int64.reduceToInt, Int.not_lt, Int.not_le] at c_65
        exfalso; omega
    ·
      try simp only [mIn_0, lgc_lt, lgc_gt, lgc_le, lgc_ge, lgc_eq] at c_42
      try simp only [fl_lt, fl_le, fl_eq, fL_w, fL_lt, fL_le, tm1, tm10k, tm9, tm99, Int32.reduceToInt, Int64.reduceToInt, Int.not_lt, Int.not_le] at c_42
      refine gz_iconst (v := 3) dX12_goesOn_45 (by decide) ?_
      refine gz_goto (tgt := 50) dX12_goesOn_46 (by decide) ?_
      refine m_iast 62 hS_1 rfl (N := 80) rfl ((by exact vin_T (rfl : x1.toInt = x1.toInt) (by omega) (by omega))) dX12_goesOn_50 (fun f_5 hS_5q => ?_)
      have hS_5 : mS cy m a f0 n z (va_up F 62 (upd (F 62) (Int32.toNatClampNeg x1) 3)) (va_up G 63 (vp_updL (G 63) (Int32.toNatClampNeg x1) (z 67))) f_5 := hS_5q
      refine gz_aload_n dX12_goesOn_51 rfl rfl ?_
      refine mg_182 hS_5 dX12_goesOn_52 ?_
      refine gz_iload_n dX12_goesOn_55 rfl rfl ?_
      refine gz_aload_n dX12_goesOn_56 rfl rfl ?_
      refine mg_20 hS_5 dX12_goesOn_57 ?_
      refine gz_iload dX12_goesOn_60 rfl ?_
      refine m_iald 7 hS_5 rfl (N := 880) rfl ((by exact vin_T (rfl : (((F 58) (Int32.toNatClampNeg x1))).toInt = (((F 58) (Int32.toNatClampNeg x1))).toInt) (by omega) (by omega))) dX12_goesOn_62 ?_
      refine gz_ev (w := .int ((F 7) (Int32.toNatClampNeg ((F 58) (Int32.toNatClampNeg x1))))) rfl ?_
      refine gz_bipush (v := 7) dX12_goesOn_63 (by decide) ?_
      refine gz_icmp_ne (tgt := 72) dX12_goesOn_65 (by decide) (fun c_65 => ?_) (fun c_65 => ?_)
      ·
        try simp only [mIn_0, lgc_lt, lgc_gt, lgc_le, lgc_ge, lgc_eq] at c_65
        try simp only [fl_lt, fl_le, fl_eq, fL_w, fL_lt, fL_le, tm1, tm10k, tm9, tm99, Int32.reduceToInt, Int64.reduceToInt, Int.not_lt, Int.not_le] at c_65
        exfalso; omega
      ·
        try simp only [mIn_0, lgc_lt, lgc_gt, lgc_le, lgc_ge, lgc_eq] at c_65
        try simp only [fl_lt, fl_le, fl_eq, fL_w, fL_lt, fL_le, tm1, tm10k, tm9, tm99, Int32.reduceToInt, Int64.reduceToInt, Int.not_lt, Int.not_le] at c_65
        refine gz_iconst (v := 1) dX12_goesOn_68 (by decide) ?_
        refine gz_goto (tgt := 73) dX12_goesOn_69 (by decide) ?_
        refine m_zast 64 hS_5 rfl (N := 80) rfl ((by exact vin_T (rfl : x1.toInt = x1.toInt) (by omega) (by omega))) dX12_goesOn_73 (fun f_6 hS_6q => ?_)
        have hS_6 : mS cy m a f0 n z (va_up (va_up F 62 (upd (F 62) (Int32.toNatClampNeg x1) 3)) 64 (upd (F 64) (Int32.toNatClampNeg x1) (vp_nar .boolean 1))) (va_up G 63 (vp_updL (G 63) (Int32.toNatClampNeg x1) (z 67))) f_6 := hS_6q
        refine gz_aload_n dX12_goesOn_74 rfl rfl ?_
        refine mg_20 hS_6 dX12_goesOn_75 ?_
        refine gz_iload dX12_goesOn_78 rfl ?_
        refine m_iald 7 hS_6 rfl (N := 880) rfl ((by exact vin_T (rfl : (((F 58) (Int32.toNatClampNeg x1))).toInt = (((F 58) (Int32.toNatClampNeg x1))).toInt) (by omega) (by omega))) dX12_goesOn_80 ?_
        refine gz_ev (w := .int ((F 7) (Int32.toNatClampNeg ((F 58) (Int32.toNatClampNeg x1))))) rfl ?_
        refine gz_bipush (v := 7) dX12_goesOn_81 (by decide) ?_
        refine gz_icmp_eq (tgt := 325) dX12_goesOn_83 (by decide) (fun c_83 => ?_) (fun c_83 => ?_)
        ·
          try simp only [mIn_0, lgc_lt, lgc_gt, lgc_le, lgc_ge, lgc_eq] at c_83
          try simp only [fl_lt, fl_le, fl_eq, fL_w, fL_lt, fL_le, tm1, tm10k, tm9, tm99, Int32.reduceToInt, Int64.reduceToInt, Int.not_lt, Int.not_le] at c_83
          have hs1_ : (F 64 (Int32.toNatClampNeg x1)).toInt = 0 ∧ ((grH T wN).1 = 3 ∨ (grH T wN).1 = 4 ∨ ((grH T wN).1 = 7 ∧ hlB (wSc E S0 d wo) (grH T wN) = true)) ∧ z 67 = vl T E (wN + 1) fN d (wSc E S0 d wo) := by rcases hst_ with z9 | z9 | z9 | z9; (exfalso; omega); exact ⟨z9.2.1, z9.2.2.1, z9.2.2.2⟩; (exfalso; omega); (exfalso; omega)
          have h7_ : (grH T wN).1 = 7 := by omega
          have hb7 : hlB (wSc E S0 d wo) (grH T wN) = true := by rcases hs1_.2.1 with z | z | z <;> first | exact z.2 | (exfalso; omega)
          have hn7 := nx_7 (S := (wSc E S0 d wo)) (f := fN) (show (grH T wN).1 ≠ 2 ∧ (grH T wN).1 ≠ 5 ∧ (grH T wN).1 ≠ 9 by omega)
          have hxx : fx [57] [67] [58, 59, 60, 62, 64, 66] [61, 63, 65] n z F G n z (va_up (va_up F 62 (upd (F 62) (Int32.toNatClampNeg x1) 3)) 64 (upd (F 64) (Int32.toNatClampNeg x1) (vp_nar .boolean 1))) (va_up G 63 (vp_updL (G 63) (Int32.toNatClampNeg x1) (z 67))) := (fx_F (fx_F (fx_G fx_rf (by decide)) (by decide)) (by decide))
          have hlo9 : FSt (va_up (va_up F 62 (upd (F 62) (Int32.toNatClampNeg x1) 3)) 64 (upd (F 64) (Int32.toNatClampNeg x1) (vp_nar .boolean 1))) (n 5).toInt dd (Int32.toNatClampNeg x1) r1 P1 := FSt_cg (fun k hk => hxx.2.2.1 k ((by decide : ∀ k : Nat, k ∈ wK → k ∉ ([58, 59, 60, 62, 64, 66] : List Nat)) k hk)) _ _ _ (fun i hi => by rw [(show (va_up (va_up F 62 (upd (F 62) (Int32.toNatClampNeg x1) 3)) 64 (upd (F 64) (Int32.toNatClampNeg x1) (vp_nar .boolean 1))) 58 = (F 58) from rfl)]) (fun i hi => by rw [(show (va_up (va_up F 62 (upd (F 62) (Int32.toNatClampNeg x1) 3)) 64 (upd (F 64) (Int32.toNatClampNeg x1) (vp_nar .boolean 1))) 59 = (F 59) from rfl)]) (fun i hi => by rw [(show (va_up (va_up F 62 (upd (F 62) (Int32.toNatClampNeg x1) 3)) 64 (upd (F 64) (Int32.toNatClampNeg x1) (vp_nar .boolean 1))) 60 = (F 60) from rfl)]) (fun i hi => by rw [(show (va_up (va_up F 62 (upd (F 62) (Int32.toNatClampNeg x1) 3)) 64 (upd (F 64) (Int32.toNatClampNeg x1) (vp_nar .boolean 1))) 62 = (upd (F 62) (Int32.toNatClampNeg x1) 3) from rfl)]; rw [updE, if_neg (by omega)]) (fun i hi => by rw [(show (va_up (va_up F 62 (upd (F 62) (Int32.toNatClampNeg x1) 3)) 64 (upd (F 64) (Int32.toNatClampNeg x1) (vp_nar .boolean 1))) 66 = (F 66) from rfl)]) hlo
          have hKS9 : KS T E S0 fo VF (va_up (va_up F 62 (upd (F 62) (Int32.toNatClampNeg x1) 3)) 64 (upd (F 64) (Int32.toNatClampNeg x1) (vp_nar .boolean 1))) (va_up G 63 (vp_updL (G 63) (Int32.toNatClampNeg x1) (z 67))) (Int32.toNatClampNeg x1) (vl T E wN fN d (wSc E S0 d wo)) := KS_cg (fun k hk => by simp only [List.mem_cons, List.not_mem_nil, or_false] at hk; rcases hk with rfl | rfl | rfl | rfl | rfl | rfl; exact (fun i hi => by rw [(show (va_up (va_up F 62 (upd (F 62) (Int32.toNatClampNeg x1) 3)) 64 (upd (F 64) (Int32.toNatClampNeg x1) (vp_nar .boolean 1))) 58 = (F 58) from rfl)]); exact (fun i hi => by rw [(show (va_up (va_up F 62 (upd (F 62) (Int32.toNatClampNeg x1) 3)) 64 (upd (F 64) (Int32.toNatClampNeg x1) (vp_nar .boolean 1))) 59 = (F 59) from rfl)]); exact (fun i hi => by rw [(show (va_up (va_up F 62 (upd (F 62) (Int32.toNatClampNeg x1) 3)) 64 (upd (F 64) (Int32.toNatClampNeg x1) (vp_nar .boolean 1))) 60 = (F 60) from rfl)]); exact (fun i hi => by rw [(show (va_up (va_up F 62 (upd (F 62) (Int32.toNatClampNeg x1) 3)) 64 (upd (F 64) (Int32.toNatClampNeg x1) (vp_nar .boolean 1))) 62 = (upd (F 62) (Int32.toNatClampNeg x1) 3) from rfl)]; rw [updE, if_neg (by omega)]); exact (fun i hi => by rw [(show (va_up (va_up F 62 (upd (F 62) (Int32.toNatClampNeg x1) 3)) 64 (upd (F 64) (Int32.toNatClampNeg x1) (vp_nar .boolean 1))) 64 = (upd (F 64) (Int32.toNatClampNeg x1) (vp_nar .boolean 1)) from rfl)]; rw [updE, if_neg (by omega)]); exact (fun i hi => by rw [(show (va_up (va_up F 62 (upd (F 62) (Int32.toNatClampNeg x1) 3)) 64 (upd (F 64) (Int32.toNatClampNeg x1) (vp_nar .boolean 1))) 66 = (F 66) from rfl)])) (fun k hk => by simp only [List.mem_cons, List.not_mem_nil, or_false] at hk; rcases hk with rfl | rfl | rfl; exact (fun i hi => by rw [(show (va_up G 63 (vp_updL (G 63) (Int32.toNatClampNeg x1) (z 67))) 61 = (G 61) from rfl)]); exact (fun i hi => by rw [(show (va_up G 63 (vp_updL (G 63) (Int32.toNatClampNeg x1) (z 67))) 63 = (vp_updL (G 63) (Int32.toNatClampNeg x1) (z 67)) from rfl)]; rw [updLE, if_neg (by omega)]); exact (fun i hi => by rw [(show (va_up G 63 (vp_updL (G 63) (Int32.toNatClampNeg x1) (z 67))) 65 = (G 65) from rfl)])) hKS
          have e5 : n 5 = n 5 := hxx.1 5 (by decide)
          have e57 : (n 57).toInt = x1.toInt + 1 := (by omega)
          have e57n : (n 57).toInt.toNat = (Int32.toNatClampNeg x1) + 1 := by omega
          have vhta58 : (va_up (va_up F 62 (upd (F 62) (Int32.toNatClampNeg x1) 3)) 64 (upd (F 64) (Int32.toNatClampNeg x1) (vp_nar .boolean 1))) 58 (Int32.toNatClampNeg x1) = (F 58 (Int32.toNatClampNeg x1)) := (by rw [(show (va_up (va_up F 62 (upd (F 62) (Int32.toNatClampNeg x1) 3)) 64 (upd (F 64) (Int32.toNatClampNeg x1) (vp_nar .boolean 1))) 58 = (F 58) from rfl)])
          have vhta59 : (va_up (va_up F 62 (upd (F 62) (Int32.toNatClampNeg x1) 3)) 64 (upd (F 64) (Int32.toNatClampNeg x1) (vp_nar .boolean 1))) 59 (Int32.toNatClampNeg x1) = (F 59 (Int32.toNatClampNeg x1)) := (by rw [(show (va_up (va_up F 62 (upd (F 62) (Int32.toNatClampNeg x1) 3)) 64 (upd (F 64) (Int32.toNatClampNeg x1) (vp_nar .boolean 1))) 59 = (F 59) from rfl)])
          have vhta60 : (va_up (va_up F 62 (upd (F 62) (Int32.toNatClampNeg x1) 3)) 64 (upd (F 64) (Int32.toNatClampNeg x1) (vp_nar .boolean 1))) 60 (Int32.toNatClampNeg x1) = (F 60 (Int32.toNatClampNeg x1)) := (by rw [(show (va_up (va_up F 62 (upd (F 62) (Int32.toNatClampNeg x1) 3)) 64 (upd (F 64) (Int32.toNatClampNeg x1) (vp_nar .boolean 1))) 60 = (F 60) from rfl)])
          have vhta62 : (va_up (va_up F 62 (upd (F 62) (Int32.toNatClampNeg x1) 3)) 64 (upd (F 64) (Int32.toNatClampNeg x1) (vp_nar .boolean 1))) 62 (Int32.toNatClampNeg x1) = 3 := (by rw [(show (va_up (va_up F 62 (upd (F 62) (Int32.toNatClampNeg x1) 3)) 64 (upd (F 64) (Int32.toNatClampNeg x1) (vp_nar .boolean 1))) 62 = (upd (F 62) (Int32.toNatClampNeg x1) 3) from rfl)]; rw [updE, if_pos rfl])
          have vhta64 : (va_up (va_up F 62 (upd (F 62) (Int32.toNatClampNeg x1) 3)) 64 (upd (F 64) (Int32.toNatClampNeg x1) (vp_nar .boolean 1))) 64 (Int32.toNatClampNeg x1) = (vp_nar .boolean 1) := (by rw [(show (va_up (va_up F 62 (upd (F 62) (Int32.toNatClampNeg x1) 3)) 64 (upd (F 64) (Int32.toNatClampNeg x1) (vp_nar .boolean 1))) 64 = (upd (F 64) (Int32.toNatClampNeg x1) (vp_nar .boolean 1)) from rfl)]; rw [updE, if_pos rfl])
          have vhta66 : (va_up (va_up F 62 (upd (F 62) (Int32.toNatClampNeg x1) 3)) 64 (upd (F 64) (Int32.toNatClampNeg x1) (vp_nar .boolean 1))) 66 (Int32.toNatClampNeg x1) = (F 66 (Int32.toNatClampNeg x1)) := (by rw [(show (va_up (va_up F 62 (upd (F 62) (Int32.toNatClampNeg x1) 3)) 64 (upd (F 64) (Int32.toNatClampNeg x1) (vp_nar .boolean 1))) 66 = (F 66) from rfl)])
          have vhta61 : (va_up G 63 (vp_updL (G 63) (Int32.toNatClampNeg x1) (z 67))) 61 (Int32.toNatClampNeg x1) = (G 61 (Int32.toNatClampNeg x1)) := (by rw [(show (va_up G 63 (vp_updL (G 63) (Int32.toNatClampNeg x1) (z 67))) 61 = (G 61) from rfl)])
          have vhta63 : (va_up G 63 (vp_updL (G 63) (Int32.toNatClampNeg x1) (z 67))) 63 (Int32.toNatClampNeg x1) = (z 67) := (by rw [(show (va_up G 63 (vp_updL (G 63) (Int32.toNatClampNeg x1) (z 67))) 63 = (vp_updL (G 63) (Int32.toNatClampNeg x1) (z 67)) from rfl)]; rw [updLE, if_pos rfl])
          have vhta65 : (va_up G 63 (vp_updL (G 63) (Int32.toNatClampNeg x1) (z 67))) 65 (Int32.toNatClampNeg x1) = (G 65 (Int32.toNatClampNeg x1)) := (by rw [(show (va_up G 63 (vp_updL (G 63) (Int32.toNatClampNeg x1) (z 67))) 65 = (G 65) from rfl)])
          have hta : frV F (n 5).toInt dd ((va_up (va_up F 62 (upd (F 62) (Int32.toNatClampNeg x1) 3)) 64 (upd (F 64) (Int32.toNatClampNeg x1) (vp_nar .boolean 1))) 58 (Int32.toNatClampNeg x1)) ((va_up (va_up F 62 (upd (F 62) (Int32.toNatClampNeg x1) 3)) 64 (upd (F 64) (Int32.toNatClampNeg x1) (vp_nar .boolean 1))) 59 (Int32.toNatClampNeg x1)) ((va_up (va_up F 62 (upd (F 62) (Int32.toNatClampNeg x1) 3)) 64 (upd (F 64) (Int32.toNatClampNeg x1) (vp_nar .boolean 1))) 60 (Int32.toNatClampNeg x1)) ((va_up (va_up F 62 (upd (F 62) (Int32.toNatClampNeg x1) 3)) 64 (upd (F 64) (Int32.toNatClampNeg x1) (vp_nar .boolean 1))) 62 (Int32.toNatClampNeg x1)) ((va_up (va_up F 62 (upd (F 62) (Int32.toNatClampNeg x1) 3)) 64 (upd (F 64) (Int32.toNatClampNeg x1) (vp_nar .boolean 1))) 66 (Int32.toNatClampNeg x1)) r (3 * cR (r - 1) + 4) := by rw [vhta58, vhta59, vhta60, vhta62, vhta66]; exact ⟨fw, fd, fo_, fr_, Or.inr (Or.inr (Or.inr (Or.inl ⟨by first | rfl | (exfalso; omega), rfl⟩)))⟩
          have hs1 : FSt (va_up (va_up F 62 (upd (F 62) (Int32.toNatClampNeg x1) 3)) 64 (upd (F 64) (Int32.toNatClampNeg x1) (vp_nar .boolean 1))) (n 5).toInt dd ((Int32.toNatClampNeg x1) + 1) r (P1 + (3 * cR (r - 1) + 4)) := ⟨r1, P1, (3 * cR (r - 1) + 4), hlo9, by omega, frV_w (fun k hk => hxx.2.2.1 k ((by decide : ∀ k : Nat, k ∈ wK → k ∉ ([58, 59, 60, 62, 64, 66] : List Nat)) k hk)) hta, rfl⟩
          have hWI : WI T E S0 fo VF (va_up (va_up F 62 (upd (F 62) (Int32.toNatClampNeg x1) 3)) 64 (upd (F 64) (Int32.toNatClampNeg x1) (vp_nar .boolean 1))) (va_up G 63 (vp_updL (G 63) (Int32.toNatClampNeg x1) (z 67))) (n 57).toInt.toNat (z 67) := Or.inr ⟨(Int32.toNatClampNeg x1), wN, fN, d, wo, e57n, hKS9, (by unfold fD; rw [vhta58, vhta59, vhta60, vhta61]; exact ⟨hw1, hd1, hwo1, hfa1⟩), Or.inr ⟨by rw [vhta62]; first | rfl | (exfalso; omega), hlp, Or.inl ⟨h7_, hb7, by rw [vhta64]; first | rfl | (exfalso; omega), by rw [vhta63, hn7.1, hn7.2]; exact hs1_.2.2⟩⟩⟩
          exact gz_vret rfl dX12_goesOn_325 (Nat.le_of_ble_eq_true rfl) (Nat.le_of_ble_eq_true rfl) (⟨rfl, _, _, _, _, hS_6, hxx, hWI, by omega, r, _, by rw [e57n, e5]; exact hs1, (by have := (hqa.2.1 (by omega)).2; omega)⟩)
        ·
          try simp only [mIn_0, lgc_lt, lgc_gt, lgc_le, lgc_ge, lgc_eq] at c_83
          try simp only [fl_lt, fl_le, fl_eq, fL_w, fL_lt, fL_le, tm1, tm10k, tm9, tm99, Int32.reduceToInt, Int64.reduceToInt, Int.not_lt, Int.not_le] at c_83
          exfalso; omega

set_option maxHeartbeats 4000000 in
set_option maxRecDepth 100000 in
theorem k_X12_goesOnE_2 {l : Launch} {D : va_G} {cy : Nat → ClassId} {b : Nat} {f : gMem} {m : Nat} {a : Nat → Nat} {f0 : gMem} {n : Nat → Int32} {z : Nat → Int64} {F : Nat → Nat → Int32} {G : Nat → Nat → Int64}  {x1 x2 x3 : Int32}{r1 P1 r p : Nat} {dd : Int} {T : List Hd} {E : We} {S0 : Sn} {fo : Nat} {VF : Int64} {wN : Nat} {fN : Int} {d wo : Nat} (hS : mS cy m a f0 n z F G f) (a5 : 0 ≤ (n 5).toInt ∧ (n 5).toInt ≤ 20) (bA : rAll F) (bW : rW F (n 5).toInt) (a53 : 1 ≤ (n 53).toInt ∧ (n 53).toInt ≤ 3) (hx1 : 0 ≤ x1.toInt ∧ (n 57).toInt = x1.toInt + 1) (hd : x2.toInt = dd ∧ dd ≤ 4) (hlo : FSt F (n 5).toInt dd (Int32.toNatClampNeg x1) r1 P1) (hfr : frV F (n 5).toInt dd (F 58 (Int32.toNatClampNeg x1)) (F 59 (Int32.toNatClampNeg x1)) (F 60 (Int32.toNatClampNeg x1)) (F 62 (Int32.toNatClampNeg x1)) (F 66 (Int32.toNatClampNeg x1)) r p) (hr1 : r < r1) (hat : (F 62 (Int32.toNatClampNeg x1)).toInt ≠ 0) (hX : LX F fo T) (hfo : fo < 20) (hER : eR E n F) (hDD : x2.toInt = (E.2.2.2.2.2 : Int)) (hKS : KS T E S0 fo VF F G (Int32.toNatClampNeg x1) (vl T E wN fN d (wSc E S0 d wo))) (hfD : fD T E fo F G (Int32.toNatClampNeg x1) wN fN d wo) (hlp : lpT T (wSc E S0 d wo) wN = false) (hmd : x3.toInt = E.2.2.2.2.1) (hst_ : ((F 62 (Int32.toNatClampNeg x1)).toInt = 3 ∧ tkF T E (wSc E S0 d wo) (F 64 (Int32.toNatClampNeg x1)) (G 63 (Int32.toNatClampNeg x1)) wN fN d) ∨ sfW T E (wSc E S0 d wo) (F 62 (Int32.toNatClampNeg x1)) (F 64 (Int32.toNatClampNeg x1)) (F 66 (Int32.toNatClampNeg x1)) (G 63 (Int32.toNatClampNeg x1)) (G 65 (Int32.toNatClampNeg x1)) wN fN d (z 67)) (hAT : (F 62 (Int32.toNatClampNeg x1)).toInt = 2) : gC l D cy b yX12_goesOn cX12_goesOn 7 none 2 0 0 [.ref m, .int x1, .int x2, .int x3] f (pV fun f2 => ∃ (n2 : Nat → Int32) (z2 : Nat → Int64) (F2 : Nat → Nat → Int32) (G2 : Nat → Nat → Int64), mS cy m a f0 n2 z2 F2 G2 f2 ∧ fx [57] [67] [58, 59, 60, 62, 64, 66] [61, 63, 65] n z F G n2 z2 F2 G2 ∧ WI T E S0 fo VF F2 G2 (n2 57).toInt.toNat (z2 67) ∧ 0 ≤ (n2 57).toInt ∧ ∃ r9 P9 : Nat, FSt F2 (n2 5).toInt dd (n2 57).toInt.toNat r9 P9 ∧ P9 < P1 + p) := by
  obtain ⟨fw, fd, fo_, fr_, fa⟩ := id hfr
  have qv := vW_lt bW a5 fw
  have qz := szF_pos bW fw
  have q3 := pw3 (d := (F 59 (Int32.toNatClampNeg x1)).toInt.toNat) (by omega)
  have qcx := clI (i := x1) (by omega)
  have qcn := clI (i := n 57) (by omega)
  have qlen := FSt_len _ _ _ hlo
  obtain ⟨hw1, hd1, hwo1, hfa1⟩ := id hfD
  have hok := hX.1.1
  have hvT_ := hX.1.2.1
  have h4 := hX.1.2.2.2.1
  have hD4 : d ≤ 4 := by omega
  have hrp : 1 ≤ r := by omega
  have hqa : atI (F 62 (Int32.toNatClampNeg x1)) (F 7 (Int32.toNatClampNeg (F 58 (Int32.toNatClampNeg x1)))) (F 66 (Int32.toNatClampNeg x1)) p r := by
    rcases fa with z | z | z | z | z
    · exact ⟨by omega, fun q => by omega, fun q => by omega, fun q => by omega, fun q => by omega⟩
    · exact ⟨by omega, fun _ => z.2, fun q => by omega, fun q => by omega, fun q => by omega⟩
    · exact ⟨by omega, fun q => by omega, fun _ => z.2, fun q => by omega, fun q => by omega⟩
    · exact ⟨by omega, fun q => by omega, fun q => by omega, fun _ => z.2, fun q => by omega⟩
    · exact ⟨by omega, fun q => by omega, fun q => by omega, fun q => by omega, fun _ => z.2⟩
  clear fa
  have q0 := hqa.1
  obtain ⟨xd, xv, xo1, xo2, _⟩ := LX_at bA hfo hX hw1.2
  have ecu : Int32.toNatClampNeg (F 58 (Int32.toNatClampNeg x1)) = 40 * fo + wN := by rw [clN]; omega
  rw [← ecu] at xd xo1 xo2
  have qkd := xd.1
  have hak := arH_k xv
  have hgl := gr_lk hok hvT_ hw1.2
  refine gC_of (by decide) (Nat.le_of_ble_eq_true rfl) ?_
  show gG l _ _ _ D cy b cX12_goesOn 7 _ RX12 "goesOn" 0 0 f 0 [(0, .ref m), (1, .int x1), (2, .int x2), (3, .int x3)] []
  refine gz_aload_n dX12_goesOn_0 rfl rfl ?_
  refine mg_164 hS dX12_goesOn_1 ?_
  refine gz_iload_n dX12_goesOn_4 rfl rfl ?_
  refine m_iald 58 hS rfl (N := 80) rfl ((by exact vin_T (rfl : x1.toInt = x1.toInt) (by omega) (by omega))) dX12_goesOn_5 ?_
  refine gz_istore (lv' := [(4, .int ((F 58) (Int32.toNatClampNeg x1))), (0, .ref m), (1, .int x1), (2, .int x2), (3, .int x3)]) dX12_goesOn_6 (by decide) rfl ?_
  refine gz_aload_n dX12_goesOn_8 rfl rfl ?_
  refine mg_176 hS dX12_goesOn_9 ?_
  refine gz_iload_n dX12_goesOn_12 rfl rfl ?_
  refine m_iald 62 hS rfl (N := 80) rfl ((by exact vin_T (rfl : x1.toInt = x1.toInt) (by omega) (by omega))) dX12_goesOn_13 ?_
  refine gz_iconst (v := 1) dX12_goesOn_14 (by decide) ?_
  refine gz_icmp_ne (tgt := 118) dX12_goesOn_15 (by decide) (fun c_15 => ?_) (fun c_15 => ?_)
  ·
    try simp only [mIn_0, lgc_lt, lgc_gt, lgc_le, lgc_ge, lgc_eq] at c_15
    try simp only [fl_lt, fl_le, fl_eq, fL_w, fL_lt, fL_le, tm1, tm10k, tm9, tm99, Int32.reduceToInt, Int64.reduceToInt, Int.not_lt, Int.not_le] at c_15
    refine gz_aload_n dX12_goesOn_118 rfl rfl ?_
    refine mg_176 hS dX12_goesOn_119 ?_
    refine gz_iload_n dX12_goesOn_122 rfl rfl ?_
    refine m_iald 62 hS rfl (N := 80) rfl ((by exact vin_T (rfl : x1.toInt = x1.toInt) (by omega) (by omega))) dX12_goesOn_123 ?_
    refine gz_iconst (v := 2) dX12_goesOn_124 (by decide) ?_
    refine gz_icmp_ne (tgt := 179) dX12_goesOn_125 (by decide) (fun c_125 => ?_) (fun c_125 => ?_)
    · exfalso; first | omega | (rw [c_125] at hAT; exact absurd hAT (by decide)) | exact c_125 (Int32.toInt_inj.mp (by rw [hAT]; rfl))
    ·
      try simp only [mIn_0, lgc_lt, lgc_gt, lgc_le, lgc_ge, lgc_eq] at c_125
      try simp only [fl_lt, fl_le, fl_eq, fL_w, fL_lt, fL_le, tm1, tm10k, tm9, tm99, Int32.reduceToInt, Int64.reduceToInt, Int.not_lt, Int.not_le] at c_125
      refine gz_aload_n dX12_goesOn_128 rfl rfl ?_
      refine gz_aload_n dX12_goesOn_129 rfl rfl ?_
      refine mg_20 hS dX12_goesOn_130 ?_
      refine gz_iload dX12_goesOn_133 rfl ?_
      refine m_iald 7 hS rfl (N := 880) rfl ((by exact vin_T (rfl : (((F 58) (Int32.toNatClampNeg x1))).toInt = (((F 58) (Int32.toNatClampNeg x1))).toInt) (by omega) (by omega))) dX12_goesOn_135 ?_
      refine gz_iconst (v := 3) dX12_goesOn_136 (by decide) ?_
      refine gz_icmp_ne (tgt := 154) dX12_goesOn_137 (by decide) (fun c_137 => ?_) (fun c_137 => ?_)
      ·
        try simp only [mIn_0, lgc_lt, lgc_gt, lgc_le, lgc_ge, lgc_eq] at c_137
        try simp only [fl_lt, fl_le, fl_eq, fL_w, fL_lt, fL_le, tm1, tm10k, tm9, tm99, Int32.reduceToInt, Int64.reduceToInt, Int.not_lt, Int.not_le] at c_137
        refine gz_aload_n dX12_goesOn_154 rfl rfl ?_
        refine gz_iload dX12_goesOn_155 rfl ?_
        refine scX12_413 (k_X12_chooserE (x1 := (F 58 (Int32.toNatClampNeg x1))) hS bA hX hfo hw1) hS.1 ⟨(Nat.le_of_ble_eq_true rfl), (Nat.le_of_ble_eq_true rfl)⟩ ⟨(Nat.le_of_ble_eq_true rfl), (Nat.le_of_ble_eq_true rfl)⟩ rfl rfl (Nat.le_of_ble_eq_true rfl) dX12_goesOn_157 ?_
        rintro r_c f9 ⟨hrc, y9⟩; rw [y9]
        refine gz_aload_n dX12_goesOn_160 rfl rfl ?_
        refine mg_179 hS dX12_goesOn_161 ?_
        refine gz_iload_n dX12_goesOn_164 rfl rfl ?_
        refine m_lald 63 hS rfl (N := 80) rfl ((by exact vin_T (rfl : x1.toInt = x1.toInt) (by omega) (by omega))) dX12_goesOn_165 ?_
        refine gz_aload_n dX12_goesOn_166 rfl rfl ?_
        refine mg_450 hS dX12_goesOn_167 ?_
        refine scX12_470 (k_X12_betterE (x := r_c) (y := ((G 63) (Int32.toNatClampNeg x1))) (v := (z 67))) ⟨(Nat.le_of_ble_eq_true rfl), (Nat.le_of_ble_eq_true rfl)⟩ ⟨(Nat.le_of_ble_eq_true rfl), (Nat.le_of_ble_eq_true rfl)⟩ rfl rfl (Nat.le_of_ble_eq_true rfl) dX12_goesOn_170 ?_
        rintro r_b f9 ⟨hrb, y9⟩; rw [y9]
        refine scX12_456 (k_X12_answersE hS) hS.1 ⟨(Nat.le_of_ble_eq_true rfl), (Nat.le_of_ble_eq_true rfl)⟩ ⟨(Nat.le_of_ble_eq_true rfl), (Nat.le_of_ble_eq_true rfl)⟩ rfl rfl (Nat.le_of_ble_eq_true rfl) dX12_goesOn_173 ?_
        rintro f_2 ⟨n_2, z_2, F_2, G_2, hS_2, hx2, g57_2, g67_2⟩
        refine gz_goto (tgt := 325) dX12_goesOn_176 (by decide) ?_
        have hs2_ : ((grH T wN).1 = 3 ∨ (grH T wN).1 = 4) ∧ (G 63 (Int32.toNatClampNeg x1)) = vl T E (wN + 1) fN d (wSc E S0 d wo) ∧ z 67 = vl T E (grS T wN) fN d (wSc E S0 d wo) := by rcases hst_ with z9 | z9 | z9 | z9; (exfalso; omega); (exfalso; omega); exact z9.2; (exfalso; omega)
        have hxx : fx [57] [67] [58, 59, 60, 62, 64, 66] [61, 63, 65] n z F G n_2 z_2 F_2 G_2 := (fx_tr fx_rf hx2 (by decide))
        have hlo9 : FSt F_2 (n 5).toInt dd (Int32.toNatClampNeg x1) r1 P1 := FSt_cg (fun k hk => hxx.2.2.1 k ((by decide : ∀ k : Nat, k ∈ wK → k ∉ ([58, 59, 60, 62, 64, 66] : List Nat)) k hk)) _ _ _ (fun i hi => by rw [(show F_2 58 = (F 58) from (hx2.2.2.1 58 (by decide)))]) (fun i hi => by rw [(show F_2 59 = (F 59) from (hx2.2.2.1 59 (by decide)))]) (fun i hi => by rw [(show F_2 60 = (F 60) from (hx2.2.2.1 60 (by decide)))]) (fun i hi => by rw [(show F_2 62 = (F 62) from (hx2.2.2.1 62 (by decide)))]) (fun i hi => by rw [(show F_2 66 = (F 66) from (hx2.2.2.1 66 (by decide)))]) hlo
        have hKS9 : KS T E S0 fo VF F_2 G_2 (Int32.toNatClampNeg x1) (vl T E wN fN d (wSc E S0 d wo)) := KS_cg (fun k hk => by simp only [List.mem_cons, List.not_mem_nil, or_false] at hk; rcases hk with rfl | rfl | rfl | rfl | rfl | rfl; exact (fun i hi => by rw [(show F_2 58 = (F 58) from (hx2.2.2.1 58 (by decide)))]); exact (fun i hi => by rw [(show F_2 59 = (F 59) from (hx2.2.2.1 59 (by decide)))]); exact (fun i hi => by rw [(show F_2 60 = (F 60) from (hx2.2.2.1 60 (by decide)))]); exact (fun i hi => by rw [(show F_2 62 = (F 62) from (hx2.2.2.1 62 (by decide)))]); exact (fun i hi => by rw [(show F_2 64 = (F 64) from (hx2.2.2.1 64 (by decide)))]); exact (fun i hi => by rw [(show F_2 66 = (F 66) from (hx2.2.2.1 66 (by decide)))])) (fun k hk => by simp only [List.mem_cons, List.not_mem_nil, or_false] at hk; rcases hk with rfl | rfl | rfl; exact (fun i hi => by rw [(show G_2 61 = (G 61) from (hx2.2.2.2 61 (by decide)))]); exact (fun i hi => by rw [(show G_2 63 = (G 63) from (hx2.2.2.2 63 (by decide)))]); exact (fun i hi => by rw [(show G_2 65 = (G 65) from (hx2.2.2.2 65 (by decide)))])) hKS
        have e5 : n_2 5 = n 5 := hxx.1 5 (by decide)
        have e57 : (n_2 57).toInt = x1.toInt + 0 := (by (try rw [(show n_2 57 = ((n 57) - 1) from g57_2)]); have q1_ := (T_sub (rfl : ((n 57)).toInt = ((n 57)).toInt) (show (1 : Int32).toInt = 1 from rfl) (by omega)); omega)
        have e57n : (n_2 57).toInt.toNat = (Int32.toNatClampNeg x1) + 0 := by omega
        have hans : z_2 67 = (vl T E wN fN d (wSc E S0 d wo)) := (show z_2 67 = r_b from g67_2).trans (hrb.trans (by rw [vl_4 hok hvT_ h4 hw1.2 hd1.2 hlp (by omega), hrc, hs2_.2.1, hs2_.2.2]))
        exact gz_vret rfl dX12_goesOn_325 (Nat.le_of_ble_eq_true rfl) (Nat.le_of_ble_eq_true rfl) (⟨rfl, _, _, _, _, hS_2, hxx, Or.inl (by rw [e57n, hans]; exact hKS9), by omega, r1, P1, by rw [e57n, e5]; exact hlo9, (by have := hqa.2.2.1 (by omega); omega)⟩)
      ·
        try simp only [mIn_0, lgc_lt, lgc_gt, lgc_le, lgc_ge, lgc_eq] at c_137
        try simp only [fl_lt, fl_le, fl_eq, fL_w, fL_lt, fL_le, tm1, tm10k, tm9, tm99, Int32.reduceToInt, Int64.reduceToInt, Int.not_lt, Int.not_le] at c_137
        refine gz_aload_n dX12_goesOn_140 rfl rfl ?_
        refine mg_179 hS dX12_goesOn_141 ?_
        refine gz_iload_n dX12_goesOn_144 rfl rfl ?_
        refine m_lald 63 hS rfl (N := 80) rfl ((by exact vin_T (rfl : x1.toInt = x1.toInt) (by omega) (by omega))) dX12_goesOn_145 ?_
        refine gz_aload_n dX12_goesOn_146 rfl rfl ?_
        refine mg_450 hS dX12_goesOn_147 ?_
        refine gz_ladd dX12_goesOn_150 ?_
        refine gz_goto (tgt := 173) dX12_goesOn_151 (by decide) ?_
        refine scX12_456 (k_X12_answersE hS) hS.1 ⟨(Nat.le_of_ble_eq_true rfl), (Nat.le_of_ble_eq_true rfl)⟩ ⟨(Nat.le_of_ble_eq_true rfl), (Nat.le_of_ble_eq_true rfl)⟩ rfl rfl (Nat.le_of_ble_eq_true rfl) dX12_goesOn_173 ?_
        rintro f_3 ⟨n_3, z_3, F_3, G_3, hS_3, hx3, g57_3, g67_3⟩
        refine gz_goto (tgt := 325) dX12_goesOn_176 (by decide) ?_
        have hs2_ : ((grH T wN).1 = 3 ∨ (grH T wN).1 = 4) ∧ (G 63 (Int32.toNatClampNeg x1)) = vl T E (wN + 1) fN d (wSc E S0 d wo) ∧ z 67 = vl T E (grS T wN) fN d (wSc E S0 d wo) := by rcases hst_ with z9 | z9 | z9 | z9; (exfalso; omega); (exfalso; omega); exact z9.2; (exfalso; omega)
        have hxx : fx [57] [67] [58, 59, 60, 62, 64, 66] [61, 63, 65] n z F G n_3 z_3 F_3 G_3 := (fx_tr fx_rf hx3 (by decide))
        have hlo9 : FSt F_3 (n 5).toInt dd (Int32.toNatClampNeg x1) r1 P1 := FSt_cg (fun k hk => hxx.2.2.1 k ((by decide : ∀ k : Nat, k ∈ wK → k ∉ ([58, 59, 60, 62, 64, 66] : List Nat)) k hk)) _ _ _ (fun i hi => by rw [(show F_3 58 = (F 58) from (hx3.2.2.1 58 (by decide)))]) (fun i hi => by rw [(show F_3 59 = (F 59) from (hx3.2.2.1 59 (by decide)))]) (fun i hi => by rw [(show F_3 60 = (F 60) from (hx3.2.2.1 60 (by decide)))]) (fun i hi => by rw [(show F_3 62 = (F 62) from (hx3.2.2.1 62 (by decide)))]) (fun i hi => by rw [(show F_3 66 = (F 66) from (hx3.2.2.1 66 (by decide)))]) hlo
        have hKS9 : KS T E S0 fo VF F_3 G_3 (Int32.toNatClampNeg x1) (vl T E wN fN d (wSc E S0 d wo)) := KS_cg (fun k hk => by simp only [List.mem_cons, List.not_mem_nil, or_false] at hk; rcases hk with rfl | rfl | rfl | rfl | rfl | rfl; exact (fun i hi => by rw [(show F_3 58 = (F 58) from (hx3.2.2.1 58 (by decide)))]); exact (fun i hi => by rw [(show F_3 59 = (F 59) from (hx3.2.2.1 59 (by decide)))]); exact (fun i hi => by rw [(show F_3 60 = (F 60) from (hx3.2.2.1 60 (by decide)))]); exact (fun i hi => by rw [(show F_3 62 = (F 62) from (hx3.2.2.1 62 (by decide)))]); exact (fun i hi => by rw [(show F_3 64 = (F 64) from (hx3.2.2.1 64 (by decide)))]); exact (fun i hi => by rw [(show F_3 66 = (F 66) from (hx3.2.2.1 66 (by decide)))])) (fun k hk => by simp only [List.mem_cons, List.not_mem_nil, or_false] at hk; rcases hk with rfl | rfl | rfl; exact (fun i hi => by rw [(show G_3 61 = (G 61) from (hx3.2.2.2 61 (by decide)))]); exact (fun i hi => by rw [(show G_3 63 = (G 63) from (hx3.2.2.2 63 (by decide)))]); exact (fun i hi => by rw [(show G_3 65 = (G 65) from (hx3.2.2.2 65 (by decide)))])) hKS
        have e5 : n_3 5 = n 5 := hxx.1 5 (by decide)
        have e57 : (n_3 57).toInt = x1.toInt + 0 := (by (try rw [(show n_3 57 = ((n 57) - 1) from g57_3)]); have q1_ := (T_sub (rfl : ((n 57)).toInt = ((n 57)).toInt) (show (1 : Int32).toInt = 1 from rfl) (by omega)); omega)
        have e57n : (n_3 57).toInt.toNat = (Int32.toNatClampNeg x1) + 0 := by omega
        have hans : z_3 67 = (vl T E wN fN d (wSc E S0 d wo)) := (show z_3 67 = (((G 63) (Int32.toNatClampNeg x1)) + (z 67)) from g67_3).trans ((by rw [vl_3 hok hvT_ h4 hw1.2 hd1.2 hlp (by omega), hs2_.2.1, hs2_.2.2]))
        exact gz_vret rfl dX12_goesOn_325 (Nat.le_of_ble_eq_true rfl) (Nat.le_of_ble_eq_true rfl) (⟨rfl, _, _, _, _, hS_3, hxx, Or.inl (by rw [e57n, hans]; exact hKS9), by omega, r1, P1, by rw [e57n, e5]; exact hlo9, (by have := hqa.2.2.1 (by omega); omega)⟩)
  · exfalso; first | omega | (rw [c_15] at hAT; exact absurd hAT (by decide)) | exact c_15 (Int32.toInt_inj.mp (by rw [hAT]; rfl))

set_option maxHeartbeats 4000000 in
set_option maxRecDepth 100000 in
theorem k_X12_goesOnE_3 {l : Launch} {D : va_G} {cy : Nat → ClassId} {b : Nat} {f : gMem} {m : Nat} {a : Nat → Nat} {f0 : gMem} {n : Nat → Int32} {z : Nat → Int64} {F : Nat → Nat → Int32} {G : Nat → Nat → Int64}  {x1 x2 x3 : Int32}{r1 P1 r p : Nat} {dd : Int} {T : List Hd} {E : We} {S0 : Sn} {fo : Nat} {VF : Int64} {wN : Nat} {fN : Int} {d wo : Nat} (hS : mS cy m a f0 n z F G f) (a5 : 0 ≤ (n 5).toInt ∧ (n 5).toInt ≤ 20) (bA : rAll F) (bW : rW F (n 5).toInt) (a53 : 1 ≤ (n 53).toInt ∧ (n 53).toInt ≤ 3) (hx1 : 0 ≤ x1.toInt ∧ (n 57).toInt = x1.toInt + 1) (hd : x2.toInt = dd ∧ dd ≤ 4) (hlo : FSt F (n 5).toInt dd (Int32.toNatClampNeg x1) r1 P1) (hfr : frV F (n 5).toInt dd (F 58 (Int32.toNatClampNeg x1)) (F 59 (Int32.toNatClampNeg x1)) (F 60 (Int32.toNatClampNeg x1)) (F 62 (Int32.toNatClampNeg x1)) (F 66 (Int32.toNatClampNeg x1)) r p) (hr1 : r < r1) (hat : (F 62 (Int32.toNatClampNeg x1)).toInt ≠ 0) (hX : LX F fo T) (hfo : fo < 20) (hER : eR E n F) (hDD : x2.toInt = (E.2.2.2.2.2 : Int)) (hKS : KS T E S0 fo VF F G (Int32.toNatClampNeg x1) (vl T E wN fN d (wSc E S0 d wo))) (hfD : fD T E fo F G (Int32.toNatClampNeg x1) wN fN d wo) (hlp : lpT T (wSc E S0 d wo) wN = false) (hmd : x3.toInt = E.2.2.2.2.1) (hst_ : ((F 62 (Int32.toNatClampNeg x1)).toInt = 3 ∧ tkF T E (wSc E S0 d wo) (F 64 (Int32.toNatClampNeg x1)) (G 63 (Int32.toNatClampNeg x1)) wN fN d) ∨ sfW T E (wSc E S0 d wo) (F 62 (Int32.toNatClampNeg x1)) (F 64 (Int32.toNatClampNeg x1)) (F 66 (Int32.toNatClampNeg x1)) (G 63 (Int32.toNatClampNeg x1)) (G 65 (Int32.toNatClampNeg x1)) wN fN d (z 67)) (hAT : (F 62 (Int32.toNatClampNeg x1)).toInt = 3) : gC l D cy b yX12_goesOn cX12_goesOn 7 none 2 0 0 [.ref m, .int x1, .int x2, .int x3] f (pV fun f2 => ∃ (n2 : Nat → Int32) (z2 : Nat → Int64) (F2 : Nat → Nat → Int32) (G2 : Nat → Nat → Int64), mS cy m a f0 n2 z2 F2 G2 f2 ∧ fx [57] [67] [58, 59, 60, 62, 64, 66] [61, 63, 65] n z F G n2 z2 F2 G2 ∧ WI T E S0 fo VF F2 G2 (n2 57).toInt.toNat (z2 67) ∧ 0 ≤ (n2 57).toInt ∧ ∃ r9 P9 : Nat, FSt F2 (n2 5).toInt dd (n2 57).toInt.toNat r9 P9 ∧ P9 < P1 + p) := by
  obtain ⟨fw, fd, fo_, fr_, fa⟩ := id hfr
  have qv := vW_lt bW a5 fw
  have qz := szF_pos bW fw
  have q3 := pw3 (d := (F 59 (Int32.toNatClampNeg x1)).toInt.toNat) (by omega)
  have qcx := clI (i := x1) (by omega)
  have qcn := clI (i := n 57) (by omega)
  have qlen := FSt_len _ _ _ hlo
  obtain ⟨hw1, hd1, hwo1, hfa1⟩ := id hfD
  have hok := hX.1.1
  have hvT_ := hX.1.2.1
  have h4 := hX.1.2.2.2.1
  have hD4 : d ≤ 4 := by omega
  have hrp : 1 ≤ r := by omega
  have hqa : atI (F 62 (Int32.toNatClampNeg x1)) (F 7 (Int32.toNatClampNeg (F 58 (Int32.toNatClampNeg x1)))) (F 66 (Int32.toNatClampNeg x1)) p r := by
    rcases fa with z | z | z | z | z
    · exact ⟨by omega, fun q => by omega, fun q => by omega, fun q => by omega, fun q => by omega⟩
    · exact ⟨by omega, fun _ => z.2, fun q => by omega, fun q => by omega, fun q => by omega⟩
    · exact ⟨by omega, fun q => by omega, fun _ => z.2, fun q => by omega, fun q => by omega⟩
    · exact ⟨by omega, fun q => by omega, fun q => by omega, fun _ => z.2, fun q => by omega⟩
    · exact ⟨by omega, fun q => by omega, fun q => by omega, fun q => by omega, fun _ => z.2⟩
  clear fa
  have q0 := hqa.1
  obtain ⟨xd, xv, xo1, xo2, _⟩ := LX_at bA hfo hX hw1.2
  have ecu : Int32.toNatClampNeg (F 58 (Int32.toNatClampNeg x1)) = 40 * fo + wN := by rw [clN]; omega
  rw [← ecu] at xd xo1 xo2
  have qkd := xd.1
  have hak := arH_k xv
  have hgl := gr_lk hok hvT_ hw1.2
  refine gC_of (by decide) (Nat.le_of_ble_eq_true rfl) ?_
  show gG l _ _ _ D cy b cX12_goesOn 7 _ RX12 "goesOn" 0 0 f 0 [(0, .ref m), (1, .int x1), (2, .int x2), (3, .int x3)] []
  refine gz_aload_n dX12_goesOn_0 rfl rfl ?_
  refine mg_164 hS dX12_goesOn_1 ?_
  refine gz_iload_n dX12_goesOn_4 rfl rfl ?_
  refine m_iald 58 hS rfl (N := 80) rfl ((by exact vin_T (rfl : x1.toInt = x1.toInt) (by omega) (by omega))) dX12_goesOn_5 ?_
  refine gz_istore (lv' := [(4, .int ((F 58) (Int32.toNatClampNeg x1))), (0, .ref m), (1, .int x1), (2, .int x2), (3, .int x3)]) dX12_goesOn_6 (by decide) rfl ?_
  refine gz_aload_n dX12_goesOn_8 rfl rfl ?_
  refine mg_176 hS dX12_goesOn_9 ?_
  refine gz_iload_n dX12_goesOn_12 rfl rfl ?_
  refine m_iald 62 hS rfl (N := 80) rfl ((by exact vin_T (rfl : x1.toInt = x1.toInt) (by omega) (by omega))) dX12_goesOn_13 ?_
  refine gz_iconst (v := 1) dX12_goesOn_14 (by decide) ?_
  refine gz_icmp_ne (tgt := 118) dX12_goesOn_15 (by decide) (fun c_15 => ?_) (fun c_15 => ?_)
  ·
    try simp only [mIn_0, lgc_lt, lgc_gt, lgc_le, lgc_ge, lgc_eq] at c_15
    try simp only [fl_lt, fl_le, fl_eq, fL_w, fL_lt, fL_le, tm1, tm10k, tm9, tm99, Int32.reduceToInt, Int64.reduceToInt, Int.not_lt, Int.not_le] at c_15
    refine gz_aload_n dX12_goesOn_118 rfl rfl ?_
    refine mg_176 hS dX12_goesOn_119 ?_
    refine gz_iload_n dX12_goesOn_122 rfl rfl ?_
    refine m_iald 62 hS rfl (N := 80) rfl ((by exact vin_T (rfl : x1.toInt = x1.toInt) (by omega) (by omega))) dX12_goesOn_123 ?_
    refine gz_iconst (v := 2) dX12_goesOn_124 (by decide) ?_
    refine gz_icmp_ne (tgt := 179) dX12_goesOn_125 (by decide) (fun c_125 => ?_) (fun c_125 => ?_)
    ·
      try simp only [mIn_0, lgc_lt, lgc_gt, lgc_le, lgc_ge, lgc_eq] at c_125
      try simp only [fl_lt, fl_le, fl_eq, fL_w, fL_lt, fL_le, tm1, tm10k, tm9, tm99, Int32.reduceToInt, Int64.reduceToInt, Int.not_lt, Int.not_le] at c_125
      refine gz_aload_n dX12_goesOn_179 rfl rfl ?_
      refine mg_176 hS dX12_goesOn_180 ?_
      refine gz_iload_n dX12_goesOn_183 rfl rfl ?_
      refine m_iald 62 hS rfl (N := 80) rfl ((by exact vin_T (rfl : x1.toInt = x1.toInt) (by omega) (by omega))) dX12_goesOn_184 ?_
      refine gz_iconst (v := 3) dX12_goesOn_185 (by decide) ?_
      refine gz_icmp_ne (tgt := 212) dX12_goesOn_186 (by decide) (fun c_186 => ?_) (fun c_186 => ?_)
      · exfalso; first | omega | (rw [c_186] at hAT; exact absurd hAT (by decide)) | exact c_186 (Int32.toInt_inj.mp (by rw [hAT]; rfl))
      ·
        try simp only [mIn_0, lgc_lt, lgc_gt, lgc_le, lgc_ge, lgc_eq] at c_186
        try simp only [fl_lt, fl_le, fl_eq, fL_w, fL_lt, fL_le, tm1, tm10k, tm9, tm99, Int32.reduceToInt, Int64.reduceToInt, Int.not_lt, Int.not_le] at c_186
        refine gz_aload_n dX12_goesOn_189 rfl rfl ?_
        refine mg_189 hS dX12_goesOn_190 ?_
        refine gz_iload_n dX12_goesOn_193 rfl rfl ?_
        refine gz_iconst (v := 0) dX12_goesOn_194 (by decide) ?_
        refine m_iast 66 hS rfl (N := 80) rfl ((by exact vin_T (rfl : x1.toInt = x1.toInt) (by omega) (by omega))) dX12_goesOn_195 (fun f_1 hS_1q => ?_)
        have hS_1 : mS cy m a f0 n z (va_up F 66 (upd (F 66) (Int32.toNatClampNeg x1) 0)) G f_1 := hS_1q
        refine gz_aload_n dX12_goesOn_196 rfl rfl ?_
        refine mg_186 hS_1 dX12_goesOn_197 ?_
        refine gz_iload_n dX12_goesOn_200 rfl rfl ?_
        refine gz_lconst (v := 0) dX12_goesOn_201 (by decide) ?_
        refine m_last 65 hS_1 rfl (N := 80) rfl ((by exact vin_T (rfl : x1.toInt = x1.toInt) (by omega) (by omega))) dX12_goesOn_202 (fun f_2 hS_2q => ?_)
        have hS_2 : mS cy m a f0 n z (va_up F 66 (upd (F 66) (Int32.toNatClampNeg x1) 0)) (va_up G 65 (vp_updL (G 65) (Int32.toNatClampNeg x1) 0)) f_2 := hS_2q
        refine gz_aload_n dX12_goesOn_203 rfl rfl ?_
        refine gz_iload_n dX12_goesOn_204 rfl rfl ?_
        refine gz_iload_n dX12_goesOn_205 rfl rfl ?_
        have hxw : fx [] [] [66] [65] n z F G n z (va_up F 66 (upd (F 66) (Int32.toNatClampNeg x1) 0)) (va_up G 65 (vp_updL (G 65) (Int32.toNatClampNeg x1) 0)) := (fx_G (fx_F fx_rf (by decide)) (by decide))
        have e66 : (va_up F 66 (upd (F 66) (Int32.toNatClampNeg x1) 0)) 66 (Int32.toNatClampNeg x1) = 0 := by show upd (F 66) (Int32.toNatClampNeg x1) 0 (Int32.toNatClampNeg x1) = _; rw [updE, if_pos rfl]
        have q66 : (0 : Int32).toInt = 0 := rfl
        have hlo2 : FSt (va_up F 66 (upd (F 66) (Int32.toNatClampNeg x1) 0)) (n 5).toInt dd (Int32.toNatClampNeg x1) r1 P1 := FSt_cg (fun k hk => hxw.2.2.1 k ((by decide : ∀ k : Nat, k ∈ wK → k ∉ ([66] : List Nat)) k hk)) _ _ _ (fun _ _ => rfl) (fun _ _ => rfl) (fun _ _ => rfl) (fun _ _ => rfl) (fun i hi => by show upd (F 66) (Int32.toNatClampNeg x1) 0 i = F 66 i; rw [updE, if_neg (by omega)]) hlo
        have hKS2 : KS T E S0 fo VF (va_up F 66 (upd (F 66) (Int32.toNatClampNeg x1) 0)) (va_up G 65 (vp_updL (G 65) (Int32.toNatClampNeg x1) 0)) (Int32.toNatClampNeg x1) (vl T E wN fN d (wSc E S0 d wo)) := KS_cg (fun k hk => by simp only [List.mem_cons, List.not_mem_nil, or_false] at hk; rcases hk with rfl | rfl | rfl | rfl | rfl | rfl; exact (fun _ _ => rfl); exact (fun _ _ => rfl); exact (fun _ _ => rfl); exact (fun _ _ => rfl); exact (fun _ _ => rfl); exact (fun i hi => by show upd (F 66) (Int32.toNatClampNeg x1) 0 i = F 66 i; rw [updE, if_neg (by omega)])) (fun k hk => by simp only [List.mem_cons, List.not_mem_nil, or_false] at hk; rcases hk with rfl | rfl | rfl; exact (fun _ _ => rfl); exact (fun _ _ => rfl); exact (fun i hi => by show ((vp_updL (G 65) (Int32.toNatClampNeg x1) 0)) i = G 65 i; rw [updLE, if_neg (by omega)])) hKS
        have hy9 : ((va_up F 66 (upd (F 66) (Int32.toNatClampNeg x1) 0)) 66 (Int32.toNatClampNeg x1)).toInt = ((0 : Nat) : Int) ∧ 0 ≤ E.2.2.1 := ⟨by rw [e66]; rfl, Nat.zero_le _⟩
        have hwa9 : (va_up G 65 (vp_updL (G 65) (Int32.toNatClampNeg x1) 0)) 65 (Int32.toNatClampNeg x1) = foW E.2.2.2.2.1 E.2.1 (loW T E (wSc E S0 d wo) wN fN d) 0 := (show (va_up G 65 (vp_updL (G 65) (Int32.toNatClampNeg x1) 0)) 65 (Int32.toNatClampNeg x1) = 0 from by show ((vp_updL (G 65) (Int32.toNatClampNeg x1) 0)) (Int32.toNatClampNeg x1) = _; rw [updLE, if_pos rfl])
        have htk9 : tkF T E (wSc E S0 d wo) (F 64 (Int32.toNatClampNeg x1)) (G 63 (Int32.toNatClampNeg x1)) wN fN d := by rcases hst_ with z9 | z9 | z9 | z9; exact z9.2; (exfalso; omega); (exfalso; omega); (exfalso; omega)
        refine scX12_474 (k_X12_waitsOnE (x1 := x1) (x2 := x2) (r := r) (P1 := P1) (y := 0) (wN := wN) (fN := fN) (d := d) (wo := wo) (S0 := S0) (VF := VF) (fo := fo) (T := T) (E := E) hS_2 a5 (rAll_w (fun k hk => hxw.2.2.1 k ((by decide : ∀ k : Nat, k ∈ wK → k ∉ ([66] : List Nat)) k hk)) bA) (rW_w (fun k hk => hxw.2.2.1 k ((by decide : ∀ k : Nat, k ∈ wK → k ∉ ([66] : List Nat)) k hk)) bW) a53 hx1 hd hlo2 hr1 ⟨vW_cg rfl fw, fd, fo_, (by rw [szF_w (fun k hk => hxw.2.2.1 k ((by decide : ∀ k : Nat, k ∈ wK → k ∉ ([66] : List Nat)) k hk))]; exact fr_), trivial⟩ (by rw [e66]; have := hqa.2.2.2.2; omega) (LX_cg (fun r h1 h2 => hxw.2.2.1 r (by simp; omega)) hX) hfo (eR_cg hER rfl (hxw.2.2.1 54 (by decide)) (hxw.2.2.1 55 (by decide))) hDD hKS2 (show fD T E fo (va_up F 66 (upd (F 66) (Int32.toNatClampNeg x1) 0)) (va_up G 65 (vp_updL (G 65) (Int32.toNatClampNeg x1) 0)) (Int32.toNatClampNeg x1) wN fN d wo from hfD) hlp hy9 hwa9 htk9) hS_2.1 ⟨(Nat.le_of_ble_eq_true rfl), (Nat.le_of_ble_eq_true rfl)⟩ ⟨(Nat.le_of_ble_eq_true rfl), (Nat.le_of_ble_eq_true rfl)⟩ rfl rfl (Nat.le_of_ble_eq_true rfl) dX12_goesOn_206 ?_
        rintro f_3 ⟨n_3, z_3, F_3, G_3, hS_3, hx3, hwi_3, hz_3, hres_3⟩
        refine gz_goto (tgt := 325) dX12_goesOn_209 (by decide) ?_
        have hxx : fx [57] [67] [58, 59, 60, 62, 64, 66] [61, 63, 65] n z F G n_3 z_3 F_3 G_3 := (fx_tr (fx_G (fx_F fx_rf (by decide)) (by decide)) hx3 (by decide))
        obtain ⟨r9, P9, z1, z2⟩ := hres_3
        rw [e66] at z2
        have z3 := hqa.2.2.2.1 (by omega)
        rw [show 3 - (0 : Int32).toInt.toNat = 3 from rfl] at z2
        exact gz_vret rfl dX12_goesOn_325 (Nat.le_of_ble_eq_true rfl) (Nat.le_of_ble_eq_true rfl) (⟨rfl, _, _, _, _, hS_3, hxx, hwi_3, hz_3, r9, P9, z1, (by omega)⟩)
    · exfalso; first | omega | (rw [c_125] at hAT; exact absurd hAT (by decide)) | exact c_125 (Int32.toInt_inj.mp (by rw [hAT]; rfl))
  · exfalso; first | omega | (rw [c_15] at hAT; exact absurd hAT (by decide)) | exact c_15 (Int32.toInt_inj.mp (by rw [hAT]; rfl))
