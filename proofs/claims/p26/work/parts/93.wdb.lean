set_option maxHeartbeats 4000000 in
set_option maxRecDepth 100000 in
theorem k_X12_goesOnE_4 {l : Launch} {D : va_G} {cy : Nat → ClassId} {b : Nat} {f : gMem} {m : Nat} {a : Nat → Nat} {f0 : gMem} {n : Nat → Int32} {z : Nat → Int64} {F : Nat → Nat → Int32} {G : Nat → Nat → Int64}  {x1 x2 x3 : Int32}{r1 P1 r p : Nat} {dd : Int} {T : List Hd} {E : We} {S0 : Sn} {fo : Nat} {VF : Int64} {wN : Nat} {fN : Int} {d wo : Nat} (hS : mS cy m a f0 n z F G f) (a5 : 0 ≤ (n 5).toInt ∧ (n 5).toInt ≤ 20) (bA : rAll F) (bW : rW F (n 5).toInt) (a53 : 1 ≤ (n 53).toInt ∧ (n 53).toInt ≤ 3) (hx1 : 0 ≤ x1.toInt ∧ (n 57).toInt = x1.toInt + 1) (hd : x2.toInt = dd ∧ dd ≤ 4) (hlo : FSt F (n 5).toInt dd (Int32.toNatClampNeg x1) r1 P1) (hfr : frV F (n 5).toInt dd (F 58 (Int32.toNatClampNeg x1)) (F 59 (Int32.toNatClampNeg x1)) (F 60 (Int32.toNatClampNeg x1)) (F 62 (Int32.toNatClampNeg x1)) (F 66 (Int32.toNatClampNeg x1)) r p) (hr1 : r < r1) (hat : (F 62 (Int32.toNatClampNeg x1)).toInt ≠ 0) (hX : LX F fo T) (hfo : fo < 20) (hER : eR E n F) (hDD : x2.toInt = (E.2.2.2.2.2 : Int)) (hKS : KS T E S0 fo VF F G (Int32.toNatClampNeg x1) (vl T E wN fN d (wSc E S0 d wo))) (hfD : fD T E fo F G (Int32.toNatClampNeg x1) wN fN d wo) (hlp : lpT T (wSc E S0 d wo) wN = false) (hmd : x3.toInt = E.2.2.2.2.1) (hst_ : ((F 62 (Int32.toNatClampNeg x1)).toInt = 3 ∧ tkF T E (wSc E S0 d wo) (F 64 (Int32.toNatClampNeg x1)) (G 63 (Int32.toNatClampNeg x1)) wN fN d) ∨ sfW T E (wSc E S0 d wo) (F 62 (Int32.toNatClampNeg x1)) (F 64 (Int32.toNatClampNeg x1)) (F 66 (Int32.toNatClampNeg x1)) (G 63 (Int32.toNatClampNeg x1)) (G 65 (Int32.toNatClampNeg x1)) wN fN d (z 67)) (hAT : (F 62 (Int32.toNatClampNeg x1)).toInt = 4) : gC l D cy b yX12_goesOn cX12_goesOn 7 none 2 0 0 [.ref m, .int x1, .int x2, .int x3] f (pV fun f2 => ∃ (n2 : Nat → Int32) (z2 : Nat → Int64) (F2 : Nat → Nat → Int32) (G2 : Nat → Nat → Int64), mS cy m a f0 n2 z2 F2 G2 f2 ∧ fx [57] [67] [58, 59, 60, 62, 64, 66] [61, 63, 65] n z F G n2 z2 F2 G2 ∧ WI T E S0 fo VF F2 G2 (n2 57).toInt.toNat (z2 67) ∧ 0 ≤ (n2 57).toInt ∧ ∃ r9 P9 : Nat, FSt F2 (n2 5).toInt dd (n2 57).toInt.toNat r9 P9 ∧ P9 < P1 + p) := by
  obtain ⟨fw, fd, fo_, fr_, fa⟩ := id hfr
  have qv := vW_lt bW a5 fw
  have qz := szF_pos bW fw
  have q3 := pw3 (d := (F 59 (Int32.toNatClampNeg x1)).toInt.toNat) (by omega)
  have qcx := clI (i := x1) (by omega)
  have qcn := clI (i := n 57) (by omega)
  have qlen := FSt_len _ _ _ hlo
  obtain ⟨hw1, hd1, hwo1, hfa1⟩ := id hfD
  have hok := hX.1.1
  have hvT_ := hX.1.2.1
  have h4 := hX.1.2.2.2.1
  have hD4 : d ≤ 4 := by omega
  have hrp : 1 ≤ r := by omega
  have hqa : atI (F 62 (Int32.toNatClampNeg x1)) (F 7 (Int32.toNatClampNeg (F 58 (Int32.toNatClampNeg x1)))) (F 66 (Int32.toNatClampNeg x1)) p r := by
    rcases fa with z | z | z | z | z
    · exact ⟨by omega, fun q => by omega, fun q => by omega, fun q => by omega, fun q => by omega⟩
    · exact ⟨by omega, fun _ => z.2, fun q => by omega, fun q => by omega, fun q => by omega⟩
    · exact ⟨by omega, fun q => by omega, fun _ => z.2, fun q => by omega, fun q => by omega⟩
    · exact ⟨by omega, fun q => by omega, fun q => by omega, fun _ => z.2, fun q => by omega⟩
    · exact ⟨by omega, fun q => by omega, fun q => by omega, fun q => by omega, fun _ => z.2⟩
  clear fa
  have q0 := hqa.1
  obtain ⟨xd, xv, xo1, xo2, _⟩ := LX_at bA hfo hX hw1.2
  have ecu : Int32.toNatClampNeg (F 58 (Int32.toNatClampNeg x1)) = 40 * fo + wN := by rw [clN]; omega
  rw [← ecu] at xd xo1 xo2
  have qkd := xd.1
  have hak := arH_k xv
  have hgl := gr_lk hok hvT_ hw1.2
  refine gC_of (by decide) (Nat.le_of_ble_eq_true rfl) ?_
  show gG l _ _ _ D cy b cX12_goesOn 7 _ RX12 "goesOn" 0 0 f 0 [(0, .ref m), (1, .int x1), (2, .int x2), (3, .int x3)] []
  refine gz_aload_n dX12_goesOn_0 rfl rfl ?_
  refine mg_164 hS dX12_goesOn_1 ?_
  refine gz_iload_n dX12_goesOn_4 rfl rfl ?_
  refine m_iald 58 hS rfl (N := 80) rfl ((by exact vin_T (rfl : x1.toInt = x1.toInt) (by omega) (by omega))) dX12_goesOn_5 ?_
  refine gz_istore (lv' := [(4, .int ((F 58) (Int32.toNatClampNeg x1))), (0, .ref m), (1, .int x1), (2, .int x2), (3, .int x3)]) dX12_goesOn_6 (by decide) rfl ?_
  refine gz_aload_n dX12_goesOn_8 rfl rfl ?_
  refine mg_176 hS dX12_goesOn_9 ?_
  refine gz_iload_n dX12_goesOn_12 rfl rfl ?_
  refine m_iald 62 hS rfl (N := 80) rfl ((by exact vin_T (rfl : x1.toInt = x1.toInt) (by omega) (by omega))) dX12_goesOn_13 ?_
  refine gz_iconst (v := 1) dX12_goesOn_14 (by decide) ?_
  refine gz_icmp_ne (tgt := 118) dX12_goesOn_15 (by decide) (fun c_15 => ?_) (fun c_15 => ?_)
  ·
    try simp only [mIn_0, lgc_lt, lgc_gt, lgc_le, lgc_ge, lgc_eq] at c_15
    try simp only [fl_lt, fl_le, fl_eq, fL_w, fL_lt, fL_le, tm1, tm10k, tm9, tm99, Int32.reduceToInt, Int64.reduceToInt, Int.not_lt, Int.not_le] at c_15
    refine gz_aload_n dX12_goesOn_118 rfl rfl ?_
    refine mg_176 hS dX12_goesOn_119 ?_
    refine gz_iload_n dX12_goesOn_122 rfl rfl ?_
    refine m_iald 62 hS rfl (N := 80) rfl ((by exact vin_T (rfl : x1.toInt = x1.toInt) (by omega) (by omega))) dX12_goesOn_123 ?_
    refine gz_iconst (v := 2) dX12_goesOn_124 (by decide) ?_
    refine gz_icmp_ne (tgt := 179) dX12_goesOn_125 (by decide) (fun c_125 => ?_) (fun c_125 => ?_)
    ·
      try simp only [mIn_0, lgc_lt, lgc_gt, lgc_le, lgc_ge, lgc_eq] at c_125
      try simp only [fl_lt, fl_le, fl_eq, fL_w, fL_lt, fL_le, tm1, tm10k, tm9, tm99, Int32.reduceToInt, Int64.reduceToInt, Int.not_lt, Int.not_le] at c_125
      refine gz_aload_n dX12_goesOn_179 rfl rfl ?_
      refine mg_176 hS dX12_goesOn_180 ?_
      refine gz_iload_n dX12_goesOn_183 rfl rfl ?_
      refine m_iald 62 hS rfl (N := 80) rfl ((by exact vin_T (rfl : x1.toInt = x1.toInt) (by omega) (by omega))) dX12_goesOn_184 ?_
      refine gz_iconst (v := 3) dX12_goesOn_185 (by decide) ?_
      refine gz_icmp_ne (tgt := 212) dX12_goesOn_186 (by decide) (fun c_186 => ?_) (fun c_186 => ?_)
      ·
        try simp only [mIn_0, lgc_lt, lgc_gt, lgc_le, lgc_ge, lgc_eq] at c_186
        try simp only [fl_lt, fl_le, fl_eq, fL_w, fL_lt, fL_le, tm1, tm10k, tm9, tm99, Int32.reduceToInt, Int64.reduceToInt, Int.not_lt, Int.not_le] at c_186
        refine gz_iload_n dX12_goesOn_212 rfl rfl ?_
        refine gz_if_ne (tgt := 236) dX12_goesOn_213 (by decide) (fun c_213 => ?_) (fun c_213 => ?_)
        ·
          try simp only [mIn_0, lgc_lt, lgc_gt, lgc_le, lgc_ge, lgc_eq] at c_213
          try simp only [fl_lt, fl_le, fl_eq, fL_w, fL_lt, fL_le, tm1, tm10k, tm9, tm99, Int32.reduceToInt, Int64.reduceToInt, Int.not_lt, Int.not_le] at c_213
          refine gz_aload_n dX12_goesOn_236 rfl rfl ?_
          refine mg_450 hS dX12_goesOn_237 ?_
          refine gz_lstore (lv' := [(5, .long (z 67)), (4, .int ((F 58) (Int32.toNatClampNeg x1))), (0, .ref m), (1, .int x1), (2, .int x2), (3, .int x3)]) dX12_goesOn_240 (by decide) rfl ?_
          refine gz_iload_n dX12_goesOn_242 rfl rfl ?_
          refine gz_if_ne (tgt := 260) dX12_goesOn_243 (by decide) (fun c_243 => ?_) (fun c_243 => ?_)
          ·
            try simp only [mIn_0, lgc_lt, lgc_gt, lgc_le, lgc_ge, lgc_eq] at c_243
            try simp only [fl_lt, fl_le, fl_eq, fL_w, fL_lt, fL_le, tm1, tm10k, tm9, tm99, Int32.reduceToInt, Int64.reduceToInt, Int.not_lt, Int.not_le] at c_243
            refine gz_aload_n dX12_goesOn_260 rfl rfl ?_
            refine mg_189 hS dX12_goesOn_261 ?_
            refine gz_iload_n dX12_goesOn_264 rfl rfl ?_
            refine m_iald 66 hS rfl (N := 80) rfl ((by exact vin_T (rfl : x1.toInt = x1.toInt) (by omega) (by omega))) dX12_goesOn_265 ?_
            refine gz_if_eq (tgt := 301) dX12_goesOn_266 (by decide) (fun c_266 => ?_) (fun c_266 => ?_)
            ·
              try simp only [mIn_0, lgc_lt, lgc_gt, lgc_le, lgc_ge, lgc_eq] at c_266
              try simp only [fl_lt, fl_le, fl_eq, fL_w, fL_lt, fL_le, tm1, tm10k, tm9, tm99, Int32.reduceToInt, Int64.reduceToInt, Int.not_lt, Int.not_le] at c_266
              refine gz_aload_n dX12_goesOn_301 rfl rfl ?_
              refine mg_186 hS dX12_goesOn_302 ?_
              refine gz_iload_n dX12_goesOn_305 rfl rfl ?_
              refine gz_lload dX12_goesOn_306 rfl ?_
              refine m_last 65 hS rfl (N := 80) rfl ((by exact vin_T (rfl : x1.toInt = x1.toInt) (by omega) (by omega))) dX12_goesOn_308 (fun f_1 hS_1q => ?_)
              have hS_1 : mS cy m a f0 n z F (va_up G 65 (vp_updL (G 65) (Int32.toNatClampNeg x1) (z 67))) f_1 := hS_1q
              refine gz_aload_n dX12_goesOn_309 rfl rfl ?_
              refine mg_189 hS_1 dX12_goesOn_310 ?_
              refine gz_iload_n dX12_goesOn_313 rfl rfl ?_
              refine gz_dup2 dX12_goesOn_314 rfl rfl ?_
              refine m_iald 66 hS_1 rfl (N := 80) rfl ((by exact vin_T (rfl : x1.toInt = x1.toInt) (by omega) (by omega))) dX12_goesOn_315 ?_
              refine gz_ev (w := .int ((F 66) (Int32.toNatClampNeg x1))) rfl ?_
              refine gz_iconst (v := 1) dX12_goesOn_316 (by decide) ?_
              refine gz_iadd dX12_goesOn_317 ?_
              refine m_iast 66 hS_1 rfl (N := 80) rfl ((by exact vin_T (rfl : x1.toInt = x1.toInt) (by omega) (by omega))) dX12_goesOn_318 (fun f_2 hS_2q => ?_)
              have hS_2 : mS cy m a f0 n z (va_up F 66 (upd (F 66) (Int32.toNatClampNeg x1) (((F 66) (Int32.toNatClampNeg x1)) + 1))) (va_up G 65 (vp_updL (G 65) (Int32.toNatClampNeg x1) (z 67))) f_2 := hS_2q
              refine gz_aload_n dX12_goesOn_319 rfl rfl ?_
              refine gz_iload_n dX12_goesOn_320 rfl rfl ?_
              refine gz_iload_n dX12_goesOn_321 rfl rfl ?_
              have hxw : fx [] [] [66] [65] n z F G n z (va_up F 66 (upd (F 66) (Int32.toNatClampNeg x1) (((F 66) (Int32.toNatClampNeg x1)) + 1))) (va_up G 65 (vp_updL (G 65) (Int32.toNatClampNeg x1) (z 67))) := (fx_F (fx_G fx_rf (by decide)) (by decide))
              have e66 : (va_up F 66 (upd (F 66) (Int32.toNatClampNeg x1) (((F 66) (Int32.toNatClampNeg x1)) + 1))) 66 (Int32.toNatClampNeg x1) = (((F 66) (Int32.toNatClampNeg x1)) + 1) := by show upd (F 66) (Int32.toNatClampNeg x1) (((F 66) (Int32.toNatClampNeg x1)) + 1) (Int32.toNatClampNeg x1) = _; rw [updE, if_pos rfl]
              have q66 : (((F 66) (Int32.toNatClampNeg x1)) + 1).toInt = (F 66 (Int32.toNatClampNeg x1)).toInt + 1 := T_add rfl (show (1 : Int32).toInt = 1 from rfl) (by have := hqa.2.2.2.2 (by omega); omega)
              have hlo2 : FSt (va_up F 66 (upd (F 66) (Int32.toNatClampNeg x1) (((F 66) (Int32.toNatClampNeg x1)) + 1))) (n 5).toInt dd (Int32.toNatClampNeg x1) r1 P1 := FSt_cg (fun k hk => hxw.2.2.1 k ((by decide : ∀ k : Nat, k ∈ wK → k ∉ ([66] : List Nat)) k hk)) _ _ _ (fun _ _ => rfl) (fun _ _ => rfl) (fun _ _ => rfl) (fun _ _ => rfl) (fun i hi => by show upd (F 66) (Int32.toNatClampNeg x1) (((F 66) (Int32.toNatClampNeg x1)) + 1) i = F 66 i; rw [updE, if_neg (by omega)]) hlo
              have hKS2 : KS T E S0 fo VF (va_up F 66 (upd (F 66) (Int32.toNatClampNeg x1) (((F 66) (Int32.toNatClampNeg x1)) + 1))) (va_up G 65 (vp_updL (G 65) (Int32.toNatClampNeg x1) (z 67))) (Int32.toNatClampNeg x1) (vl T E wN fN d (wSc E S0 d wo)) := KS_cg (fun k hk => by simp only [List.mem_cons, List.not_mem_nil, or_false] at hk; rcases hk with rfl | rfl | rfl | rfl | rfl | rfl; exact (fun _ _ => rfl); exact (fun _ _ => rfl); exact (fun _ _ => rfl); exact (fun _ _ => rfl); exact (fun _ _ => rfl); exact (fun i hi => by show upd (F 66) (Int32.toNatClampNeg x1) (((F 66) (Int32.toNatClampNeg x1)) + 1) i = F 66 i; rw [updE, if_neg (by omega)])) (fun k hk => by simp only [List.mem_cons, List.not_mem_nil, or_false] at hk; rcases hk with rfl | rfl | rfl; exact (fun _ _ => rfl); exact (fun _ _ => rfl); exact (fun i hi => by show ((vp_updL (G 65) (Int32.toNatClampNeg x1) (z 67))) i = G 65 i; rw [updLE, if_neg (by omega)])) hKS
              have hs4 : d < E.2.2.2.2.2 ∧ (∃ y : Nat, (F 66 (Int32.toNatClampNeg x1)).toInt = (y : Int) ∧ y < E.2.2.1 ∧ (G 65 (Int32.toNatClampNeg x1)) = foW E.2.2.2.2.1 E.2.1 (loW T E (wSc E S0 d wo) wN fN d) y ∧ z 67 = (loW T E (wSc E S0 d wo) wN fN d) y) ∧ tkF T E (wSc E S0 d wo) (F 64 (Int32.toNatClampNeg x1)) (G 63 (Int32.toNatClampNeg x1)) wN fN d := by rcases hst_ with z9 | z9 | z9 | z9; (exfalso; omega); (exfalso; omega); (exfalso; omega); exact z9.2
              obtain ⟨hdlt, ⟨y, hy1, hy2, hy3, hy4⟩, htk9⟩ := hs4
              have hup := foW_up (md := E.2.2.2.2.1) (wt := E.2.1) hy3 hy4
              have hycl : Int32.toNatClampNeg (F 66 (Int32.toNatClampNeg x1)) = y := by rw [clN]; omega
              have hwt : E.2.1 y = (F 54 (Int32.toNatClampNeg (F 66 (Int32.toNatClampNeg x1)))).toInt64 := by rw [hycl]; exact hER.2.2.2.1 y (by have z9 := hER.1.2; omega)
              have hy9 : ((va_up F 66 (upd (F 66) (Int32.toNatClampNeg x1) (((F 66) (Int32.toNatClampNeg x1)) + 1))) 66 (Int32.toNatClampNeg x1)).toInt = ((y + 1 : Nat) : Int) ∧ y + 1 ≤ E.2.2.1 := ⟨by rw [e66, q66]; omega, hy2⟩
              have hwa9 : (va_up G 65 (vp_updL (G 65) (Int32.toNatClampNeg x1) (z 67))) 65 (Int32.toNatClampNeg x1) = foW E.2.2.2.2.1 E.2.1 (loW T E (wSc E S0 d wo) wN fN d) (y + 1) := (show (va_up G 65 (vp_updL (G 65) (Int32.toNatClampNeg x1) (z 67))) 65 (Int32.toNatClampNeg x1) = (z 67) from by show ((vp_updL (G 65) (Int32.toNatClampNeg x1) (z 67))) (Int32.toNatClampNeg x1) = _; rw [updLE, if_pos rfl]).trans (by exact hup.2.1 (by omega) (by omega))
              refine scX12_474 (k_X12_waitsOnE (x1 := x1) (x2 := x2) (r := r) (P1 := P1) (y := (y + 1)) (wN := wN) (fN := fN) (d := d) (wo := wo) (S0 := S0) (VF := VF) (fo := fo) (T := T) (E := E) hS_2 a5 (rAll_w (fun k hk => hxw.2.2.1 k ((by decide : ∀ k : Nat, k ∈ wK → k ∉ ([66] : List Nat)) k hk)) bA) (rW_w (fun k hk => hxw.2.2.1 k ((by decide : ∀ k : Nat, k ∈ wK → k ∉ ([66] : List Nat)) k hk)) bW) a53 hx1 hd hlo2 hr1 ⟨vW_cg rfl fw, fd, fo_, (by rw [szF_w (fun k hk => hxw.2.2.1 k ((by decide : ∀ k : Nat, k ∈ wK → k ∉ ([66] : List Nat)) k hk))]; exact fr_), trivial⟩ (by rw [e66]; have := hqa.2.2.2.2; omega) (LX_cg (fun r h1 h2 => hxw.2.2.1 r (by simp; omega)) hX) hfo (eR_cg hER rfl (hxw.2.2.1 54 (by decide)) (hxw.2.2.1 55 (by decide))) hDD hKS2 (show fD T E fo (va_up F 66 (upd (F 66) (Int32.toNatClampNeg x1) (((F 66) (Int32.toNatClampNeg x1)) + 1))) (va_up G 65 (vp_updL (G 65) (Int32.toNatClampNeg x1) (z 67))) (Int32.toNatClampNeg x1) wN fN d wo from hfD) hlp hy9 hwa9 htk9) hS_2.1 ⟨(Nat.le_of_ble_eq_true rfl), (Nat.le_of_ble_eq_true rfl)⟩ ⟨(Nat.le_of_ble_eq_true rfl), (Nat.le_of_ble_eq_true rfl)⟩ rfl rfl (Nat.le_of_ble_eq_true rfl) dX12_goesOn_322 ?_
              rintro f_3 ⟨n_3, z_3, F_3, G_3, hS_3, hx3, hwi_3, hz_3, hres_3⟩
              have hxx : fx [57] [67] [58, 59, 60, 62, 64, 66] [61, 63, 65] n z F G n_3 z_3 F_3 G_3 := (fx_tr (fx_F (fx_G fx_rf (by decide)) (by decide)) hx3 (by decide))
              obtain ⟨r9, P9, z1, z2⟩ := hres_3
              rw [e66] at z2
              have z3 := hqa.2.2.2.2 (by omega)
              rw [show 3 - (((F 66) (Int32.toNatClampNeg x1)) + 1).toInt.toNat = 2 - (F 66 (Int32.toNatClampNeg x1)).toInt.toNat by omega] at z2
              exact gz_vret rfl dX12_goesOn_325 (Nat.le_of_ble_eq_true rfl) (Nat.le_of_ble_eq_true rfl) (⟨rfl, _, _, _, _, hS_3, hxx, hwi_3, hz_3, r9, P9, z1, (by rw [z3.2]; omega)⟩)
            ·
              try simp only [mIn_0, lgc_lt, lgc_gt, lgc_le, lgc_ge, lgc_eq] at c_266
              try simp only [fl_lt, fl_le, fl_eq, fL_w, fL_lt, fL_le, tm1, tm10k, tm9, tm99, Int32.reduceToInt, Int64.reduceToInt, Int.not_lt, Int.not_le] at c_266
              refine gz_iload_n dX12_goesOn_269 rfl rfl ?_
              refine gz_iconst (v := 1) dX12_goesOn_270 (by decide) ?_
              refine gz_icmp_ne (tgt := 289) dX12_goesOn_271 (by decide) (fun c_271 => ?_) (fun c_271 => ?_)
              ·
                try simp only [mIn_0, lgc_lt, lgc_gt, lgc_le, lgc_ge, lgc_eq] at c_271
                try simp only [fl_lt, fl_le, fl_eq, fL_w, fL_lt, fL_le, tm1, tm10k, tm9, tm99, Int32.reduceToInt, Int64.reduceToInt, Int.not_lt, Int.not_le] at c_271
                refine gz_lload dX12_goesOn_289 rfl ?_
                refine gz_aload_n dX12_goesOn_291 rfl rfl ?_
                refine mg_186 hS dX12_goesOn_292 ?_
                refine gz_iload_n dX12_goesOn_295 rfl rfl ?_
                refine m_lald 65 hS rfl (N := 80) rfl ((by exact vin_T (rfl : x1.toInt = x1.toInt) (by omega) (by omega))) dX12_goesOn_296 ?_
                refine gz_lcmp dX12_goesOn_297 ?_
                refine gz_if_le (tgt := 309) dX12_goesOn_298 (by decide) (fun c_298 => ?_) (fun c_298 => ?_)
                ·
                  try simp only [mIn_0, lgc_lt, lgc_gt, lgc_le, lgc_ge, lgc_eq] at c_298
                  try simp only [fl_lt, fl_le, fl_eq, fL_w, fL_lt, fL_le, tm1, tm10k, tm9, tm99, Int32.reduceToInt, Int64.reduceToInt, Int.not_lt, Int.not_le] at c_298
                  refine gz_aload_n dX12_goesOn_309 rfl rfl ?_
                  refine mg_189 hS dX12_goesOn_310 ?_
                  refine gz_iload_n dX12_goesOn_313 rfl rfl ?_
                  refine gz_dup2 dX12_goesOn_314 rfl rfl ?_
                  refine m_iald 66 hS rfl (N := 80) rfl ((by exact vin_T (rfl : x1.toInt = x1.toInt) (by omega) (by omega))) dX12_goesOn_315 ?_
                  refine gz_iconst (v := 1) dX12_goesOn_316 (by decide) ?_
                  refine gz_iadd dX12_goesOn_317 ?_
                  refine m_iast 66 hS rfl (N := 80) rfl ((by exact vin_T (rfl : x1.toInt = x1.toInt) (by omega) (by omega))) dX12_goesOn_318 (fun f_4 hS_4q => ?_)
                  have hS_4 : mS cy m a f0 n z (va_up F 66 (upd (F 66) (Int32.toNatClampNeg x1) (((F 66) (Int32.toNatClampNeg x1)) + 1))) G f_4 := hS_4q
                  refine gz_aload_n dX12_goesOn_319 rfl rfl ?_
                  refine gz_iload_n dX12_goesOn_320 rfl rfl ?_
                  refine gz_iload_n dX12_goesOn_321 rfl rfl ?_
                  have hxw : fx [] [] [66] [65] n z F G n z (va_up F 66 (upd (F 66) (Int32.toNatClampNeg x1) (((F 66) (Int32.toNatClampNeg x1)) + 1))) G := (fx_F fx_rf (by decide))
                  have e66 : (va_up F 66 (upd (F 66) (Int32.toNatClampNeg x1) (((F 66) (Int32.toNatClampNeg x1)) + 1))) 66 (Int32.toNatClampNeg x1) = (((F 66) (Int32.toNatClampNeg x1)) + 1) := by show upd (F 66) (Int32.toNatClampNeg x1) (((F 66) (Int32.toNatClampNeg x1)) + 1) (Int32.toNatClampNeg x1) = _; rw [updE, if_pos rfl]
                  have q66 : (((F 66) (Int32.toNatClampNeg x1)) + 1).toInt = (F 66 (Int32.toNatClampNeg x1)).toInt + 1 := T_add rfl (show (1 : Int32).toInt = 1 from rfl) (by have := hqa.2.2.2.2 (by omega); omega)
                  have hlo2 : FSt (va_up F 66 (upd (F 66) (Int32.toNatClampNeg x1) (((F 66) (Int32.toNatClampNeg x1)) + 1))) (n 5).toInt dd (Int32.toNatClampNeg x1) r1 P1 := FSt_cg (fun k hk => hxw.2.2.1 k ((by decide : ∀ k : Nat, k ∈ wK → k ∉ ([66] : List Nat)) k hk)) _ _ _ (fun _ _ => rfl) (fun _ _ => rfl) (fun _ _ => rfl) (fun _ _ => rfl) (fun i hi => by show upd (F 66) (Int32.toNatClampNeg x1) (((F 66) (Int32.toNatClampNeg x1)) + 1) i = F 66 i; rw [updE, if_neg (by omega)]) hlo
                  have hKS2 : KS T E S0 fo VF (va_up F 66 (upd (F 66) (Int32.toNatClampNeg x1) (((F 66) (Int32.toNatClampNeg x1)) + 1))) G (Int32.toNatClampNeg x1) (vl T E wN fN d (wSc E S0 d wo)) := KS_cg (fun k hk => by simp only [List.mem_cons, List.not_mem_nil, or_false] at hk; rcases hk with rfl | rfl | rfl | rfl | rfl | rfl; exact (fun _ _ => rfl); exact (fun _ _ => rfl); exact (fun _ _ => rfl); exact (fun _ _ => rfl); exact (fun _ _ => rfl); exact (fun i hi => by show upd (F 66) (Int32.toNatClampNeg x1) (((F 66) (Int32.toNatClampNeg x1)) + 1) i = F 66 i; rw [updE, if_neg (by omega)])) (fun k hk => by simp only [List.mem_cons, List.not_mem_nil, or_false] at hk; rcases hk with rfl | rfl | rfl; exact (fun _ _ => rfl); exact (fun _ _ => rfl); exact (fun _ _ => rfl)) hKS
                  have hs4 : d < E.2.2.2.2.2 ∧ (∃ y : Nat, (F 66 (Int32.toNatClampNeg x1)).toInt = (y : Int) ∧ y < E.2.2.1 ∧ (G 65 (Int32.toNatClampNeg x1)) = foW E.2.2.2.2.1 E.2.1 (loW T E (wSc E S0 d wo) wN fN d) y ∧ z 67 = (loW T E (wSc E S0 d wo) wN fN d) y) ∧ tkF T E (wSc E S0 d wo) (F 64 (Int32.toNatClampNeg x1)) (G 63 (Int32.toNatClampNeg x1)) wN fN d := by rcases hst_ with z9 | z9 | z9 | z9; (exfalso; omega); (exfalso; omega); (exfalso; omega); exact z9.2
                  obtain ⟨hdlt, ⟨y, hy1, hy2, hy3, hy4⟩, htk9⟩ := hs4
                  have hup := foW_up (md := E.2.2.2.2.1) (wt := E.2.1) hy3 hy4
                  have hycl : Int32.toNatClampNeg (F 66 (Int32.toNatClampNeg x1)) = y := by rw [clN]; omega
                  have hwt : E.2.1 y = (F 54 (Int32.toNatClampNeg (F 66 (Int32.toNatClampNeg x1)))).toInt64 := by rw [hycl]; exact hER.2.2.2.1 y (by have z9 := hER.1.2; omega)
                  have hy9 : ((va_up F 66 (upd (F 66) (Int32.toNatClampNeg x1) (((F 66) (Int32.toNatClampNeg x1)) + 1))) 66 (Int32.toNatClampNeg x1)).toInt = ((y + 1 : Nat) : Int) ∧ y + 1 ≤ E.2.2.1 := ⟨by rw [e66, q66]; omega, hy2⟩
                  have hwa9 : G 65 (Int32.toNatClampNeg x1) = foW E.2.2.2.2.1 E.2.1 (loW T E (wSc E S0 d wo) wN fN d) (y + 1) := (show G 65 (Int32.toNatClampNeg x1) = (G 65 (Int32.toNatClampNeg x1)) from rfl).trans (by rw [← hup.2.2.2 (by omega) (by omega) (by omega)]; by_cases h9 : (z 67) < (G 65 (Int32.toNatClampNeg x1)); (rw [if_pos h9]); (rw [if_neg h9]; exact Int64.toInt_inj.mp (by rw [fL_lt] at h9; omega)))
                  refine scX12_474 (k_X12_waitsOnE (x1 := x1) (x2 := x2) (r := r) (P1 := P1) (y := (y + 1)) (wN := wN) (fN := fN) (d := d) (wo := wo) (S0 := S0) (VF := VF) (fo := fo) (T := T) (E := E) hS_4 a5 (rAll_w (fun k hk => hxw.2.2.1 k ((by decide : ∀ k : Nat, k ∈ wK → k ∉ ([66] : List Nat)) k hk)) bA) (rW_w (fun k hk => hxw.2.2.1 k ((by decide : ∀ k : Nat, k ∈ wK → k ∉ ([66] : List Nat)) k hk)) bW) a53 hx1 hd hlo2 hr1 ⟨vW_cg rfl fw, fd, fo_, (by rw [szF_w (fun k hk => hxw.2.2.1 k ((by decide : ∀ k : Nat, k ∈ wK → k ∉ ([66] : List Nat)) k hk))]; exact fr_), trivial⟩ (by rw [e66]; have := hqa.2.2.2.2; omega) (LX_cg (fun r h1 h2 => hxw.2.2.1 r (by simp; omega)) hX) hfo (eR_cg hER rfl (hxw.2.2.1 54 (by decide)) (hxw.2.2.1 55 (by decide))) hDD hKS2 (show fD T E fo (va_up F 66 (upd (F 66) (Int32.toNatClampNeg x1) (((F 66) (Int32.toNatClampNeg x1)) + 1))) G (Int32.toNatClampNeg x1) wN fN d wo from hfD) hlp hy9 hwa9 htk9) hS_4.1 ⟨(Nat.le_of_ble_eq_true rfl), (Nat.le_of_ble_eq_true rfl)⟩ ⟨(Nat.le_of_ble_eq_true rfl), (Nat.le_of_ble_eq_true rfl)⟩ rfl rfl (Nat.le_of_ble_eq_true rfl) dX12_goesOn_322 ?_
                  rintro f_5 ⟨n_5, z_5, F_5, G_5, hS_5, hx5, hwi_5, hz_5, hres_5⟩
                  have hxx : fx [57] [67] [58, 59, 60, 62, 64, 66] [61, 63, 65] n z F G n_5 z_5 F_5 G_5 := (fx_tr (fx_F fx_rf (by decide)) hx5 (by decide))
                  obtain ⟨r9, P9, z1, z2⟩ := hres_5
                  rw [e66] at z2
                  have z3 := hqa.2.2.2.2 (by omega)
                  rw [show 3 - (((F 66) (Int32.toNatClampNeg x1)) + 1).toInt.toNat = 2 - (F 66 (Int32.toNatClampNeg x1)).toInt.toNat by omega] at z2
                  exact gz_vret rfl dX12_goesOn_325 (Nat.le_of_ble_eq_true rfl) (Nat.le_of_ble_eq_true rfl) (⟨rfl, _, _, _, _, hS_5, hxx, hwi_5, hz_5, r9, P9, z1, (by rw [z3.2]; omega)⟩)
                ·
                  try simp only [mIn_0, lgc_lt, lgc_gt, lgc_le, lgc_ge, lgc_eq] at c_298
                  try simp only [fl_lt, fl_le, fl_eq, fL_w, fL_lt, fL_le, tm1, tm10k, tm9, tm99, Int32.reduceToInt, Int64.reduceToInt, Int.not_lt, Int.not_le] at c_298
                  refine gz_aload_n dX12_goesOn_301 rfl rfl ?_
                  refine mg_186 hS dX12_goesOn_302 ?_
                  refine gz_iload_n dX12_goesOn_305 rfl rfl ?_
                  refine gz_lload dX12_goesOn_306 rfl ?_
                  refine m_last 65 hS rfl (N := 80) rfl ((by exact vin_T (rfl : x1.toInt = x1.toInt) (by omega) (by omega))) dX12_goesOn_308 (fun f_6 hS_6q => ?_)
                  have hS_6 : mS cy m a f0 n z F (va_up G 65 (vp_updL (G 65) (Int32.toNatClampNeg x1) (z 67))) f_6 := hS_6q
                  refine gz_aload_n dX12_goesOn_309 rfl rfl ?_
                  refine mg_189 hS_6 dX12_goesOn_310 ?_
                  refine gz_iload_n dX12_goesOn_313 rfl rfl ?_
                  refine gz_dup2 dX12_goesOn_314 rfl rfl ?_
                  refine m_iald 66 hS_6 rfl (N := 80) rfl ((by exact vin_T (rfl : x1.toInt = x1.toInt) (by omega) (by omega))) dX12_goesOn_315 ?_
                  refine gz_ev (w := .int ((F 66) (Int32.toNatClampNeg x1))) rfl ?_
                  refine gz_iconst (v := 1) dX12_goesOn_316 (by decide) ?_
                  refine gz_iadd dX12_goesOn_317 ?_
                  refine m_iast 66 hS_6 rfl (N := 80) rfl ((by exact vin_T (rfl : x1.toInt = x1.toInt) (by omega) (by omega))) dX12_goesOn_318 (fun f_7 hS_7q => ?_)
                  have hS_7 : mS cy m a f0 n z (va_up F 66 (upd (F 66) (Int32.toNatClampNeg x1) (((F 66) (Int32.toNatClampNeg x1)) + 1))) (va_up G 65 (vp_updL (G 65) (Int32.toNatClampNeg x1) (z 67))) f_7 := hS_7q
                  refine gz_aload_n dX12_goesOn_319 rfl rfl ?_
                  refine gz_iload_n dX12_goesOn_320 rfl rfl ?_
                  refine gz_iload_n dX12_goesOn_321 rfl rfl ?_
                  have hxw : fx [] [] [66] [65] n z F G n z (va_up F 66 (upd (F 66) (Int32.toNatClampNeg x1) (((F 66) (Int32.toNatClampNeg x1)) + 1))) (va_up G 65 (vp_updL (G 65) (Int32.toNatClampNeg x1) (z 67))) := (fx_F (fx_G fx_rf (by decide)) (by decide))
                  have e66 : (va_up F 66 (upd (F 66) (Int32.toNatClampNeg x1) (((F 66) (Int32.toNatClampNeg x1)) + 1))) 66 (Int32.toNatClampNeg x1) = (((F 66) (Int32.toNatClampNeg x1)) + 1) := by show upd (F 66) (Int32.toNatClampNeg x1) (((F 66) (Int32.toNatClampNeg x1)) + 1) (Int32.toNatClampNeg x1) = _; rw [updE, if_pos rfl]
                  have q66 : (((F 66) (Int32.toNatClampNeg x1)) + 1).toInt = (F 66 (Int32.toNatClampNeg x1)).toInt + 1 := T_add rfl (show (1 : Int32).toInt = 1 from rfl) (by have := hqa.2.2.2.2 (by omega); omega)
                  have hlo2 : FSt (va_up F 66 (upd (F 66) (Int32.toNatClampNeg x1) (((F 66) (Int32.toNatClampNeg x1)) + 1))) (n 5).toInt dd (Int32.toNatClampNeg x1) r1 P1 := FSt_cg (fun k hk => hxw.2.2.1 k ((by decide : ∀ k : Nat, k ∈ wK → k ∉ ([66] : List Nat)) k hk)) _ _ _ (fun _ _ => rfl) (fun _ _ => rfl) (fun _ _ => rfl) (fun _ _ => rfl) (fun i hi => by show upd (F 66) (Int32.toNatClampNeg x1) (((F 66) (Int32.toNatClampNeg x1)) + 1) i = F 66 i; rw [updE, if_neg (by omega)]) hlo
                  have hKS2 : KS T E S0 fo VF (va_up F 66 (upd (F 66) (Int32.toNatClampNeg x1) (((F 66) (Int32.toNatClampNeg x1)) + 1))) (va_up G 65 (vp_updL (G 65) (Int32.toNatClampNeg x1) (z 67))) (Int32.toNatClampNeg x1) (vl T E wN fN d (wSc E S0 d wo)) := KS_cg (fun k hk => by simp only [List.mem_cons, List.not_mem_nil, or_false] at hk; rcases hk with rfl | rfl | rfl | rfl | rfl | rfl; exact (fun _ _ => rfl); exact (fun _ _ => rfl); exact (fun _ _ => rfl); exact (fun _ _ => rfl); exact (fun _ _ => rfl); exact (fun i hi => by show upd (F 66) (Int32.toNatClampNeg x1) (((F 66) (Int32.toNatClampNeg x1)) + 1) i = F 66 i; rw [updE, if_neg (by omega)])) (fun k hk => by simp only [List.mem_cons, List.not_mem_nil, or_false] at hk; rcases hk with rfl | rfl | rfl; exact (fun _ _ => rfl); exact (fun _ _ => rfl); exact (fun i hi => by show ((vp_updL (G 65) (Int32.toNatClampNeg x1) (z 67))) i = G 65 i; rw [updLE, if_neg (by omega)])) hKS
                  have hs4 : d < E.2.2.2.2.2 ∧ (∃ y : Nat, (F 66 (Int32.toNatClampNeg x1)).toInt = (y : Int) ∧ y < E.2.2.1 ∧ (G 65 (Int32.toNatClampNeg x1)) = foW E.2.2.2.2.1 E.2.1 (loW T E (wSc E S0 d wo) wN fN d) y ∧ z 67 = (loW T E (wSc E S0 d wo) wN fN d) y) ∧ tkF T E (wSc E S0 d wo) (F 64 (Int32.toNatClampNeg x1)) (G 63 (Int32.toNatClampNeg x1)) wN fN d := by rcases hst_ with z9 | z9 | z9 | z9; (exfalso; omega); (exfalso; omega); (exfalso; omega); exact z9.2
                  obtain ⟨hdlt, ⟨y, hy1, hy2, hy3, hy4⟩, htk9⟩ := hs4
                  have hup := foW_up (md := E.2.2.2.2.1) (wt := E.2.1) hy3 hy4
                  have hycl : Int32.toNatClampNeg (F 66 (Int32.toNatClampNeg x1)) = y := by rw [clN]; omega
                  have hwt : E.2.1 y = (F 54 (Int32.toNatClampNeg (F 66 (Int32.toNatClampNeg x1)))).toInt64 := by rw [hycl]; exact hER.2.2.2.1 y (by have z9 := hER.1.2; omega)
                  have hy9 : ((va_up F 66 (upd (F 66) (Int32.toNatClampNeg x1) (((F 66) (Int32.toNatClampNeg x1)) + 1))) 66 (Int32.toNatClampNeg x1)).toInt = ((y + 1 : Nat) : Int) ∧ y + 1 ≤ E.2.2.1 := ⟨by rw [e66, q66]; omega, hy2⟩
                  have hwa9 : (va_up G 65 (vp_updL (G 65) (Int32.toNatClampNeg x1) (z 67))) 65 (Int32.toNatClampNeg x1) = foW E.2.2.2.2.1 E.2.1 (loW T E (wSc E S0 d wo) wN fN d) (y + 1) := (show (va_up G 65 (vp_updL (G 65) (Int32.toNatClampNeg x1) (z 67))) 65 (Int32.toNatClampNeg x1) = (z 67) from by show ((vp_updL (G 65) (Int32.toNatClampNeg x1) (z 67))) (Int32.toNatClampNeg x1) = _; rw [updLE, if_pos rfl]).trans (by rw [← hup.2.2.2 (by omega) (by omega) (by omega), if_neg (show ¬ (z 67) < (G 65 (Int32.toNatClampNeg x1)) by rw [fL_lt]; omega)])
                  refine scX12_474 (k_X12_waitsOnE (x1 := x1) (x2 := x2) (r := r) (P1 := P1) (y := (y + 1)) (wN := wN) (fN := fN) (d := d) (wo := wo) (S0 := S0) (VF := VF) (fo := fo) (T := T) (E := E) hS_7 a5 (rAll_w (fun k hk => hxw.2.2.1 k ((by decide : ∀ k : Nat, k ∈ wK → k ∉ ([66] : List Nat)) k hk)) bA) (rW_w (fun k hk => hxw.2.2.1 k ((by decide : ∀ k : Nat, k ∈ wK → k ∉ ([66] : List Nat)) k hk)) bW) a53 hx1 hd hlo2 hr1 ⟨vW_cg rfl fw, fd, fo_, (by rw [szF_w (fun k hk => hxw.2.2.1 k ((by decide : ∀ k : Nat, k ∈ wK → k ∉ ([66] : List Nat)) k hk))]; exact fr_), trivial⟩ (by rw [e66]; have := hqa.2.2.2.2; omega) (LX_cg (fun r h1 h2 => hxw.2.2.1 r (by simp; omega)) hX) hfo (eR_cg hER rfl (hxw.2.2.1 54 (by decide)) (hxw.2.2.1 55 (by decide))) hDD hKS2 (show fD T E fo (va_up F 66 (upd (F 66) (Int32.toNatClampNeg x1) (((F 66) (Int32.toNatClampNeg x1)) + 1))) (va_up G 65 (vp_updL (G 65) (Int32.toNatClampNeg x1) (z 67))) (Int32.toNatClampNeg x1) wN fN d wo from hfD) hlp hy9 hwa9 htk9) hS_7.1 ⟨(Nat.le_of_ble_eq_true rfl), (Nat.le_of_ble_eq_true rfl)⟩ ⟨(Nat.le_of_ble_eq_true rfl), (Nat.le_of_ble_eq_true rfl)⟩ rfl rfl (Nat.le_of_ble_eq_true rfl) dX12_goesOn_322 ?_
                  rintro f_8 ⟨n_8, z_8, F_8, G_8, hS_8, hx8, hwi_8, hz_8, hres_8⟩
                  have hxx : fx [57] [67] [58, 59, 60, 62, 64, 66] [61, 63, 65] n z F G n_8 z_8 F_8 G_8 := (fx_tr (fx_F (fx_G fx_rf (by decide)) (by decide)) hx8 (by decide))
                  obtain ⟨r9, P9, z1, z2⟩ := hres_8
                  rw [e66] at z2
                  have z3 := hqa.2.2.2.2 (by omega)
                  rw [show 3 - (((F 66) (Int32.toNatClampNeg x1)) + 1).toInt.toNat = 2 - (F 66 (Int32.toNatClampNeg x1)).toInt.toNat by omega] at z2
                  exact gz_vret rfl dX12_goesOn_325 (Nat.le_of_ble_eq_true rfl) (Nat.le_of_ble_eq_true rfl) (⟨rfl, _, _, _, _, hS_8, hxx, hwi_8, hz_8, r9, P9, z1, (by rw [z3.2]; omega)⟩)
              ·
                try simp only [mIn_0, lgc_lt, lgc_gt, lgc_le, lgc_ge, lgc_eq] at c_271
                try simp only [fl_lt, fl_le, fl_eq, fL_w, fL_lt, fL_le, tm1, tm10k, tm9, tm99, Int32.reduceToInt, Int64.reduceToInt, Int.not_lt, Int.not_le] at c_271
                refine gz_lload dX12_goesOn_274 rfl ?_
                refine gz_aload_n dX12_goesOn_276 rfl rfl ?_
                refine mg_186 hS dX12_goesOn_277 ?_
                refine gz_iload_n dX12_goesOn_280 rfl rfl ?_
                refine m_lald 65 hS rfl (N := 80) rfl ((by exact vin_T (rfl : x1.toInt = x1.toInt) (by omega) (by omega))) dX12_goesOn_281 ?_
                refine gz_lcmp dX12_goesOn_282 ?_
                refine gz_if_ge (tgt := 309) dX12_goesOn_283 (by decide) (fun c_283 => ?_) (fun c_283 => ?_)
                ·
                  try simp only [mIn_0, lgc_lt, lgc_gt, lgc_le, lgc_ge, lgc_eq] at c_283
                  try simp only [fl_lt, fl_le, fl_eq, fL_w, fL_lt, fL_le, tm1, tm10k, tm9, tm99, Int32.reduceToInt, Int64.reduceToInt, Int.not_lt, Int.not_le] at c_283
                  refine gz_aload_n dX12_goesOn_309 rfl rfl ?_
                  refine mg_189 hS dX12_goesOn_310 ?_
                  refine gz_iload_n dX12_goesOn_313 rfl rfl ?_
                  refine gz_dup2 dX12_goesOn_314 rfl rfl ?_
                  refine m_iald 66 hS rfl (N := 80) rfl ((by exact vin_T (rfl : x1.toInt = x1.toInt) (by omega) (by omega))) dX12_goesOn_315 ?_
                  refine gz_iconst (v := 1) dX12_goesOn_316 (by decide) ?_
                  refine gz_iadd dX12_goesOn_317 ?_
                  refine m_iast 66 hS rfl (N := 80) rfl ((by exact vin_T (rfl : x1.toInt = x1.toInt) (by omega) (by omega))) dX12_goesOn_318 (fun f_9 hS_9q => ?_)
                  have hS_9 : mS cy m a f0 n z (va_up F 66 (upd (F 66) (Int32.toNatClampNeg x1) (((F 66) (Int32.toNatClampNeg x1)) + 1))) G f_9 := hS_9q
                  refine gz_aload_n dX12_goesOn_319 rfl rfl ?_
                  refine gz_iload_n dX12_goesOn_320 rfl rfl ?_
                  refine gz_iload_n dX12_goesOn_321 rfl rfl ?_
                  have hxw : fx [] [] [66] [65] n z F G n z (va_up F 66 (upd (F 66) (Int32.toNatClampNeg x1) (((F 66) (Int32.toNatClampNeg x1)) + 1))) G := (fx_F fx_rf (by decide))
                  have e66 : (va_up F 66 (upd (F 66) (Int32.toNatClampNeg x1) (((F 66) (Int32.toNatClampNeg x1)) + 1))) 66 (Int32.toNatClampNeg x1) = (((F 66) (Int32.toNatClampNeg x1)) + 1) := by show upd (F 66) (Int32.toNatClampNeg x1) (((F 66) (Int32.toNatClampNeg x1)) + 1) (Int32.toNatClampNeg x1) = _; rw [updE, if_pos rfl]
                  have q66 : (((F 66) (Int32.toNatClampNeg x1)) + 1).toInt = (F 66 (Int32.toNatClampNeg x1)).toInt + 1 := T_add rfl (show (1 : Int32).toInt = 1 from rfl) (by have := hqa.2.2.2.2 (by omega); omega)
                  have hlo2 : FSt (va_up F 66 (upd (F 66) (Int32.toNatClampNeg x1) (((F 66) (Int32.toNatClampNeg x1)) + 1))) (n 5).toInt dd (Int32.toNatClampNeg x1) r1 P1 := FSt_cg (fun k hk => hxw.2.2.1 k ((by decide : ∀ k : Nat, k ∈ wK → k ∉ ([66] : List Nat)) k hk)) _ _ _ (fun _ _ => rfl) (fun _ _ => rfl) (fun _ _ => rfl) (fun _ _ => rfl) (fun i hi => by show upd (F 66) (Int32.toNatClampNeg x1) (((F 66) (Int32.toNatClampNeg x1)) + 1) i = F 66 i; rw [updE, if_neg (by omega)]) hlo
                  have hKS2 : KS T E S0 fo VF (va_up F 66 (upd (F 66) (Int32.toNatClampNeg x1) (((F 66) (Int32.toNatClampNeg x1)) + 1))) G (Int32.toNatClampNeg x1) (vl T E wN fN d (wSc E S0 d wo)) := KS_cg (fun k hk => by simp only [List.mem_cons, List.not_mem_nil, or_false] at hk; rcases hk with rfl | rfl | rfl | rfl | rfl | rfl; exact (fun _ _ => rfl); exact (fun _ _ => rfl); exact (fun _ _ => rfl); exact (fun _ _ => rfl); exact (fun _ _ => rfl); exact (fun i hi => by show upd (F 66) (Int32.toNatClampNeg x1) (((F 66) (Int32.toNatClampNeg x1)) + 1) i = F 66 i; rw [updE, if_neg (by omega)])) (fun k hk => by simp only [List.mem_cons, List.not_mem_nil, or_false] at hk; rcases hk with rfl | rfl | rfl; exact (fun _ _ => rfl); exact (fun _ _ => rfl); exact (fun _ _ => rfl)) hKS
                  have hs4 : d < E.2.2.2.2.2 ∧ (∃ y : Nat, (F 66 (Int32.toNatClampNeg x1)).toInt = (y : Int) ∧ y < E.2.2.1 ∧ (G 65 (Int32.toNatClampNeg x1)) = foW E.2.2.2.2.1 E.2.1 (loW T E (wSc E S0 d wo) wN fN d) y ∧ z 67 = (loW T E (wSc E S0 d wo) wN fN d) y) ∧ tkF T E (wSc E S0 d wo) (F 64 (Int32.toNatClampNeg x1)) (G 63 (Int32.toNatClampNeg x1)) wN fN d := by rcases hst_ with z9 | z9 | z9 | z9; (exfalso; omega); (exfalso; omega); (exfalso; omega); exact z9.2
                  obtain ⟨hdlt, ⟨y, hy1, hy2, hy3, hy4⟩, htk9⟩ := hs4
                  have hup := foW_up (md := E.2.2.2.2.1) (wt := E.2.1) hy3 hy4
                  have hycl : Int32.toNatClampNeg (F 66 (Int32.toNatClampNeg x1)) = y := by rw [clN]; omega
                  have hwt : E.2.1 y = (F 54 (Int32.toNatClampNeg (F 66 (Int32.toNatClampNeg x1)))).toInt64 := by rw [hycl]; exact hER.2.2.2.1 y (by have z9 := hER.1.2; omega)
                  have hy9 : ((va_up F 66 (upd (F 66) (Int32.toNatClampNeg x1) (((F 66) (Int32.toNatClampNeg x1)) + 1))) 66 (Int32.toNatClampNeg x1)).toInt = ((y + 1 : Nat) : Int) ∧ y + 1 ≤ E.2.2.1 := ⟨by rw [e66, q66]; omega, hy2⟩
                  have hwa9 : G 65 (Int32.toNatClampNeg x1) = foW E.2.2.2.2.1 E.2.1 (loW T E (wSc E S0 d wo) wN fN d) (y + 1) := (show G 65 (Int32.toNatClampNeg x1) = (G 65 (Int32.toNatClampNeg x1)) from rfl).trans (by rw [← hup.2.2.1 (by omega) (by omega), if_neg (show ¬ (z 67) < (G 65 (Int32.toNatClampNeg x1)) by rw [fL_lt]; omega)])
                  refine scX12_474 (k_X12_waitsOnE (x1 := x1) (x2 := x2) (r := r) (P1 := P1) (y := (y + 1)) (wN := wN) (fN := fN) (d := d) (wo := wo) (S0 := S0) (VF := VF) (fo := fo) (T := T) (E := E) hS_9 a5 (rAll_w (fun k hk => hxw.2.2.1 k ((by decide : ∀ k : Nat, k ∈ wK → k ∉ ([66] : List Nat)) k hk)) bA) (rW_w (fun k hk => hxw.2.2.1 k ((by decide : ∀ k : Nat, k ∈ wK → k ∉ ([66] : List Nat)) k hk)) bW) a53 hx1 hd hlo2 hr1 ⟨vW_cg rfl fw, fd, fo_, (by rw [szF_w (fun k hk => hxw.2.2.1 k ((by decide : ∀ k : Nat, k ∈ wK → k ∉ ([66] : List Nat)) k hk))]; exact fr_), trivial⟩ (by rw [e66]; have := hqa.2.2.2.2; omega) (LX_cg (fun r h1 h2 => hxw.2.2.1 r (by simp; omega)) hX) hfo (eR_cg hER rfl (hxw.2.2.1 54 (by decide)) (hxw.2.2.1 55 (by decide))) hDD hKS2 (show fD T E fo (va_up F 66 (upd (F 66) (Int32.toNatClampNeg x1) (((F 66) (Int32.toNatClampNeg x1)) + 1))) G (Int32.toNatClampNeg x1) wN fN d wo from hfD) hlp hy9 hwa9 htk9) hS_9.1 ⟨(Nat.le_of_ble_eq_true rfl), (Nat.le_of_ble_eq_true rfl)⟩ ⟨(Nat.le_of_ble_eq_true rfl), (Nat.le_of_ble_eq_true rfl)⟩ rfl rfl (Nat.le_of_ble_eq_true rfl) dX12_goesOn_322 ?_
                  rintro f_10 ⟨n_10, z_10, F_10, G_10, hS_10, hx10, hwi_10, hz_10, hres_10⟩
                  have hxx : fx [57] [67] [58, 59, 60, 62, 64, 66] [61, 63, 65] n z F G n_10 z_10 F_10 G_10 := (fx_tr (fx_F fx_rf (by decide)) hx10 (by decide))
                  obtain ⟨r9, P9, z1, z2⟩ := hres_10
                  rw [e66] at z2
                  have z3 := hqa.2.2.2.2 (by omega)
                  rw [show 3 - (((F 66) (Int32.toNatClampNeg x1)) + 1).toInt.toNat = 2 - (F 66 (Int32.toNatClampNeg x1)).toInt.toNat by omega] at z2
                  exact gz_vret rfl dX12_goesOn_325 (Nat.le_of_ble_eq_true rfl) (Nat.le_of_ble_eq_true rfl) (⟨rfl, _, _, _, _, hS_10, hxx, hwi_10, hz_10, r9, P9, z1, (by rw [z3.2]; omega)⟩)
                ·
                  try simp only [mIn_0, lgc_lt, lgc_gt, lgc_le, lgc_ge, lgc_eq] at c_283
                  try simp only [fl_lt, fl_le, fl_eq, fL_w, fL_lt, fL_le, tm1, tm10k, tm9, tm99, Int32.reduceToInt, Int64.reduceToInt, Int.not_lt, Int.not_le] at c_283
                  refine gz_goto (tgt := 301) dX12_goesOn_286 (by decide) ?_
                  refine gz_aload_n dX12_goesOn_301 rfl rfl ?_
                  refine mg_186 hS dX12_goesOn_302 ?_
                  refine gz_iload_n dX12_goesOn_305 rfl rfl ?_
                  refine gz_lload dX12_goesOn_306 rfl ?_
                  refine m_last 65 hS rfl (N := 80) rfl ((by exact vin_T (rfl : x1.toInt = x1.toInt) (by omega) (by omega))) dX12_goesOn_308 (fun f_11 hS_11q => ?_)
                  have hS_11 : mS cy m a f0 n z F (va_up G 65 (vp_updL (G 65) (Int32.toNatClampNeg x1) (z 67))) f_11 := hS_11q
                  refine gz_aload_n dX12_goesOn_309 rfl rfl ?_
                  refine mg_189 hS_11 dX12_goesOn_310 ?_
                  refine gz_iload_n dX12_goesOn_313 rfl rfl ?_
                  refine gz_dup2 dX12_goesOn_314 rfl rfl ?_
                  refine m_iald 66 hS_11 rfl (N := 80) rfl ((by exact vin_T (rfl : x1.toInt = x1.toInt) (by omega) (by omega))) dX12_goesOn_315 ?_
                  refine gz_ev (w := .int ((F 66) (Int32.toNatClampNeg x1))) rfl ?_
                  refine gz_iconst (v := 1) dX12_goesOn_316 (by decide) ?_
                  refine gz_iadd dX12_goesOn_317 ?_
                  refine m_iast 66 hS_11 rfl (N := 80) rfl ((by exact vin_T (rfl : x1.toInt = x1.toInt) (by omega) (by omega))) dX12_goesOn_318 (fun f_12 hS_12q => ?_)
                  have hS_12 : mS cy m a f0 n z (va_up F 66 (upd (F 66) (Int32.toNatClampNeg x1) (((F 66) (Int32.toNatClampNeg x1)) + 1))) (va_up G 65 (vp_updL (G 65) (Int32.toNatClampNeg x1) (z 67))) f_12 := hS_12q
                  refine gz_aload_n dX12_goesOn_319 rfl rfl ?_
                  refine gz_iload_n dX12_goesOn_320 rfl rfl ?_
                  refine gz_iload_n dX12_goesOn_321 rfl rfl ?_
                  have hxw : fx [] [] [66] [65] n z F G n z (va_up F 66 (upd (F 66) (Int32.toNatClampNeg x1) (((F 66) (Int32.toNatClampNeg x1)) + 1))) (va_up G 65 (vp_updL (G 65) (Int32.toNatClampNeg x1) (z 67))) := (fx_F (fx_G fx_rf (by decide)) (by decide))
                  have e66 : (va_up F 66 (upd (F 66) (Int32.toNatClampNeg x1) (((F 66) (Int32.toNatClampNeg x1)) + 1))) 66 (Int32.toNatClampNeg x1) = (((F 66) (Int32.toNatClampNeg x1)) + 1) := by show upd (F 66) (Int32.toNatClampNeg x1) (((F 66) (Int32.toNatClampNeg x1)) + 1) (Int32.toNatClampNeg x1) = _; rw [updE, if_pos rfl]
                  have q66 : (((F 66) (Int32.toNatClampNeg x1)) + 1).toInt = (F 66 (Int32.toNatClampNeg x1)).toInt + 1 := T_add rfl (show (1 : Int32).toInt = 1 from rfl) (by have := hqa.2.2.2.2 (by omega); omega)
                  have hlo2 : FSt (va_up F 66 (upd (F 66) (Int32.toNatClampNeg x1) (((F 66) (Int32.toNatClampNeg x1)) + 1))) (n 5).toInt dd (Int32.toNatClampNeg x1) r1 P1 := FSt_cg (fun k hk => hxw.2.2.1 k ((by decide : ∀ k : Nat, k ∈ wK → k ∉ ([66] : List Nat)) k hk)) _ _ _ (fun _ _ => rfl) (fun _ _ => rfl) (fun _ _ => rfl) (fun _ _ => rfl) (fun i hi => by show upd (F 66) (Int32.toNatClampNeg x1) (((F 66) (Int32.toNatClampNeg x1)) + 1) i = F 66 i; rw [updE, if_neg (by omega)]) hlo
                  have hKS2 : KS T E S0 fo VF (va_up F 66 (upd (F 66) (Int32.toNatClampNeg x1) (((F 66) (Int32.toNatClampNeg x1)) + 1))) (va_up G 65 (vp_updL (G 65) (Int32.toNatClampNeg x1) (z 67))) (Int32.toNatClampNeg x1) (vl T E wN fN d (wSc E S0 d wo)) := KS_cg (fun k hk => by simp only [List.mem_cons, List.not_mem_nil, or_false] at hk; rcases hk with rfl | rfl | rfl | rfl | rfl | rfl; exact (fun _ _ => rfl); exact (fun _ _ => rfl); exact (fun _ _ => rfl); exact (fun _ _ => rfl); exact (fun _ _ => rfl); exact (fun i hi => by show upd (F 66) (Int32.toNatClampNeg x1) (((F 66) (Int32.toNatClampNeg x1)) + 1) i = F 66 i; rw [updE, if_neg (by omega)])) (fun k hk => by simp only [List.mem_cons, List.not_mem_nil, or_false] at hk; rcases hk with rfl | rfl | rfl; exact (fun _ _ => rfl); exact (fun _ _ => rfl); exact (fun i hi => by show ((vp_updL (G 65) (Int32.toNatClampNeg x1) (z 67))) i = G 65 i; rw [updLE, if_neg (by omega)])) hKS
                  have hs4 : d < E.2.2.2.2.2 ∧ (∃ y : Nat, (F 66 (Int32.toNatClampNeg x1)).toInt = (y : Int) ∧ y < E.2.2.1 ∧ (G 65 (Int32.toNatClampNeg x1)) = foW E.2.2.2.2.1 E.2.1 (loW T E (wSc E S0 d wo) wN fN d) y ∧ z 67 = (loW T E (wSc E S0 d wo) wN fN d) y) ∧ tkF T E (wSc E S0 d wo) (F 64 (Int32.toNatClampNeg x1)) (G 63 (Int32.toNatClampNeg x1)) wN fN d := by rcases hst_ with z9 | z9 | z9 | z9; (exfalso; omega); (exfalso; omega); (exfalso; omega); exact z9.2
                  obtain ⟨hdlt, ⟨y, hy1, hy2, hy3, hy4⟩, htk9⟩ := hs4
                  have hup := foW_up (md := E.2.2.2.2.1) (wt := E.2.1) hy3 hy4
                  have hycl : Int32.toNatClampNeg (F 66 (Int32.toNatClampNeg x1)) = y := by rw [clN]; omega
                  have hwt : E.2.1 y = (F 54 (Int32.toNatClampNeg (F 66 (Int32.toNatClampNeg x1)))).toInt64 := by rw [hycl]; exact hER.2.2.2.1 y (by have z9 := hER.1.2; omega)
                  have hy9 : ((va_up F 66 (upd (F 66) (Int32.toNatClampNeg x1) (((F 66) (Int32.toNatClampNeg x1)) + 1))) 66 (Int32.toNatClampNeg x1)).toInt = ((y + 1 : Nat) : Int) ∧ y + 1 ≤ E.2.2.1 := ⟨by rw [e66, q66]; omega, hy2⟩
                  have hwa9 : (va_up G 65 (vp_updL (G 65) (Int32.toNatClampNeg x1) (z 67))) 65 (Int32.toNatClampNeg x1) = foW E.2.2.2.2.1 E.2.1 (loW T E (wSc E S0 d wo) wN fN d) (y + 1) := (show (va_up G 65 (vp_updL (G 65) (Int32.toNatClampNeg x1) (z 67))) 65 (Int32.toNatClampNeg x1) = (z 67) from by show ((vp_updL (G 65) (Int32.toNatClampNeg x1) (z 67))) (Int32.toNatClampNeg x1) = _; rw [updLE, if_pos rfl]).trans (by rw [← hup.2.2.1 (by omega) (by omega), if_pos (show (z 67) < (G 65 (Int32.toNatClampNeg x1)) by rw [fL_lt]; omega)])
                  refine scX12_474 (k_X12_waitsOnE (x1 := x1) (x2 := x2) (r := r) (P1 := P1) (y := (y + 1)) (wN := wN) (fN := fN) (d := d) (wo := wo) (S0 := S0) (VF := VF) (fo := fo) (T := T) (E := E) hS_12 a5 (rAll_w (fun k hk => hxw.2.2.1 k ((by decide : ∀ k : Nat, k ∈ wK → k ∉ ([66] : List Nat)) k hk)) bA) (rW_w (fun k hk => hxw.2.2.1 k ((by decide : ∀ k : Nat, k ∈ wK → k ∉ ([66] : List Nat)) k hk)) bW) a53 hx1 hd hlo2 hr1 ⟨vW_cg rfl fw, fd, fo_, (by rw [szF_w (fun k hk => hxw.2.2.1 k ((by decide : ∀ k : Nat, k ∈ wK → k ∉ ([66] : List Nat)) k hk))]; exact fr_), trivial⟩ (by rw [e66]; have := hqa.2.2.2.2; omega) (LX_cg (fun r h1 h2 => hxw.2.2.1 r (by simp; omega)) hX) hfo (eR_cg hER rfl (hxw.2.2.1 54 (by decide)) (hxw.2.2.1 55 (by decide))) hDD hKS2 (show fD T E fo (va_up F 66 (upd (F 66) (Int32.toNatClampNeg x1) (((F 66) (Int32.toNatClampNeg x1)) + 1))) (va_up G 65 (vp_updL (G 65) (Int32.toNatClampNeg x1) (z 67))) (Int32.toNatClampNeg x1) wN fN d wo from hfD) hlp hy9 hwa9 htk9) hS_12.1 ⟨(Nat.le_of_ble_eq_true rfl), (Nat.le_of_ble_eq_true rfl)⟩ ⟨(Nat.le_of_ble_eq_true rfl), (Nat.le_of_ble_eq_true rfl)⟩ rfl rfl (Nat.le_of_ble_eq_true rfl) dX12_goesOn_322 ?_
                  rintro f_13 ⟨n_13, z_13, F_13, G_13, hS_13, hx13, hwi_13, hz_13, hres_13⟩
                  have hxx : fx [57] [67] [58, 59, 60, 62, 64, 66] [61, 63, 65] n z F G n_13 z_13 F_13 G_13 := (fx_tr (fx_F (fx_G fx_rf (by decide)) (by decide)) hx13 (by decide))
                  obtain ⟨r9, P9, z1, z2⟩ := hres_13
                  rw [e66] at z2
                  have z3 := hqa.2.2.2.2 (by omega)
                  rw [show 3 - (((F 66) (Int32.toNatClampNeg x1)) + 1).toInt.toNat = 2 - (F 66 (Int32.toNatClampNeg x1)).toInt.toNat by omega] at z2
                  exact gz_vret rfl dX12_goesOn_325 (Nat.le_of_ble_eq_true rfl) (Nat.le_of_ble_eq_true rfl) (⟨rfl, _, _, _, _, hS_13, hxx, hwi_13, hz_13, r9, P9, z1, (by rw [z3.2]; omega)⟩)
          ·
            try simp only [mIn_0, lgc_lt, lgc_gt, lgc_le, lgc_ge, lgc_eq] at c_243
            try simp only [fl_lt, fl_le, fl_eq, fL_w, fL_lt, fL_le, tm1, tm10k, tm9, tm99, Int32.reduceToInt, Int64.reduceToInt, Int.not_lt, Int.not_le] at c_243
            exfalso; omega
        ·
          try simp only [mIn_0, lgc_lt, lgc_gt, lgc_le, lgc_ge, lgc_eq] at c_213
          try simp only [fl_lt, fl_le, fl_eq, fL_w, fL_lt, fL_le, tm1, tm10k, tm9, tm99, Int32.reduceToInt, Int64.reduceToInt, Int.not_lt, Int.not_le] at c_213
          refine gz_aload_n dX12_goesOn_216 rfl rfl ?_
          refine mg_155 hS dX12_goesOn_217 ?_
          refine gz_aload_n dX12_goesOn_220 rfl rfl ?_
          refine mg_189 hS dX12_goesOn_221 ?_
          refine gz_iload_n dX12_goesOn_224 rfl rfl ?_
          refine m_iald 66 hS rfl (N := 80) rfl ((by exact vin_T (rfl : x1.toInt = x1.toInt) (by omega) (by omega))) dX12_goesOn_225 ?_
          refine m_iald 54 hS rfl (N := 3) rfl ((by have z9 := hqa.2.2.2.2 (by omega); exact vin_T (rfl : (F 66 (Int32.toNatClampNeg x1)).toInt = (F 66 (Int32.toNatClampNeg x1)).toInt) (by omega) (by omega))) dX12_goesOn_226 ?_
          refine gz_i2l dX12_goesOn_227 ?_
          refine gz_aload_n dX12_goesOn_228 rfl rfl ?_
          refine mg_450 hS dX12_goesOn_229 ?_
          refine gz_lmul dX12_goesOn_232 ?_
          refine gz_goto (tgt := 240) dX12_goesOn_233 (by decide) ?_
          refine gz_lstore (lv' := [(5, .long ((((F 54) (Int32.toNatClampNeg ((F 66) (Int32.toNatClampNeg x1)))).toInt64) * (z 67))), (4, .int ((F 58) (Int32.toNatClampNeg x1))), (0, .ref m), (1, .int x1), (2, .int x2), (3, .int x3)]) dX12_goesOn_240 (by decide) rfl ?_
          refine gz_iload_n dX12_goesOn_242 rfl rfl ?_
          refine gz_if_ne (tgt := 260) dX12_goesOn_243 (by decide) (fun c_243 => ?_) (fun c_243 => ?_)
          ·
            try simp only [mIn_0, lgc_lt, lgc_gt, lgc_le, lgc_ge, lgc_eq] at c_243
            try simp only [fl_lt, fl_le, fl_eq, fL_w, fL_lt, fL_le, tm1, tm10k, tm9, tm99, Int32.reduceToInt, Int64.reduceToInt, Int.not_lt, Int.not_le] at c_243
            exfalso; omega
          ·
            try simp only [mIn_0, lgc_lt, lgc_gt, lgc_le, lgc_ge, lgc_eq] at c_243
            try simp only [fl_lt, fl_le, fl_eq, fL_w, fL_lt, fL_le, tm1, tm10k, tm9, tm99, Int32.reduceToInt, Int64.reduceToInt, Int.not_lt, Int.not_le] at c_243
            refine gz_aload_n dX12_goesOn_246 rfl rfl ?_
            refine mg_186 hS dX12_goesOn_247 ?_
            refine gz_iload_n dX12_goesOn_250 rfl rfl ?_
            refine gz_dup2 dX12_goesOn_251 rfl rfl ?_
            refine m_lald 65 hS rfl (N := 80) rfl ((by exact vin_T (rfl : x1.toInt = x1.toInt) (by omega) (by omega))) dX12_goesOn_252 ?_
            refine gz_lload dX12_goesOn_253 rfl ?_
            refine gz_ladd dX12_goesOn_255 ?_
            refine m_last 65 hS rfl (N := 80) rfl ((by exact vin_T (rfl : x1.toInt = x1.toInt) (by omega) (by omega))) dX12_goesOn_256 (fun f_14 hS_14q => ?_)
            have hS_14 : mS cy m a f0 n z F (va_up G 65 (vp_updL (G 65) (Int32.toNatClampNeg x1) (((G 65) (Int32.toNatClampNeg x1)) + ((((F 54) (Int32.toNatClampNeg ((F 66) (Int32.toNatClampNeg x1)))).toInt64) * (z 67))))) f_14 := hS_14q
            refine gz_goto (tgt := 309) dX12_goesOn_257 (by decide) ?_
            refine gz_aload_n dX12_goesOn_309 rfl rfl ?_
            refine mg_189 hS_14 dX12_goesOn_310 ?_
            refine gz_iload_n dX12_goesOn_313 rfl rfl ?_
            refine gz_dup2 dX12_goesOn_314 rfl rfl ?_
            refine m_iald 66 hS_14 rfl (N := 80) rfl ((by exact vin_T (rfl : x1.toInt = x1.toInt) (by omega) (by omega))) dX12_goesOn_315 ?_
            refine gz_ev (w := .int ((F 66) (Int32.toNatClampNeg x1))) rfl ?_
            refine gz_iconst (v := 1) dX12_goesOn_316 (by decide) ?_
            refine gz_iadd dX12_goesOn_317 ?_
            refine m_iast 66 hS_14 rfl (N := 80) rfl ((by exact vin_T (rfl : x1.toInt = x1.toInt) (by omega) (by omega))) dX12_goesOn_318 (fun f_15 hS_15q => ?_)
            have hS_15 : mS cy m a f0 n z (va_up F 66 (upd (F 66) (Int32.toNatClampNeg x1) (((F 66) (Int32.toNatClampNeg x1)) + 1))) (va_up G 65 (vp_updL (G 65) (Int32.toNatClampNeg x1) (((G 65) (Int32.toNatClampNeg x1)) + ((((F 54) (Int32.toNatClampNeg ((F 66) (Int32.toNatClampNeg x1)))).toInt64) * (z 67))))) f_15 := hS_15q
            refine gz_aload_n dX12_goesOn_319 rfl rfl ?_
            refine gz_iload_n dX12_goesOn_320 rfl rfl ?_
            refine gz_iload_n dX12_goesOn_321 rfl rfl ?_
            have hxw : fx [] [] [66] [65] n z F G n z (va_up F 66 (upd (F 66) (Int32.toNatClampNeg x1) (((F 66) (Int32.toNatClampNeg x1)) + 1))) (va_up G 65 (vp_updL (G 65) (Int32.toNatClampNeg x1) (((G 65) (Int32.toNatClampNeg x1)) + ((((F 54) (Int32.toNatClampNeg ((F 66) (Int32.toNatClampNeg x1)))).toInt64) * (z 67))))) := (fx_F (fx_G fx_rf (by decide)) (by decide))
            have e66 : (va_up F 66 (upd (F 66) (Int32.toNatClampNeg x1) (((F 66) (Int32.toNatClampNeg x1)) + 1))) 66 (Int32.toNatClampNeg x1) = (((F 66) (Int32.toNatClampNeg x1)) + 1) := by show upd (F 66) (Int32.toNatClampNeg x1) (((F 66) (Int32.toNatClampNeg x1)) + 1) (Int32.toNatClampNeg x1) = _; rw [updE, if_pos rfl]
            have q66 : (((F 66) (Int32.toNatClampNeg x1)) + 1).toInt = (F 66 (Int32.toNatClampNeg x1)).toInt + 1 := T_add rfl (show (1 : Int32).toInt = 1 from rfl) (by have := hqa.2.2.2.2 (by omega); omega)
            have hlo2 : FSt (va_up F 66 (upd (F 66) (Int32.toNatClampNeg x1) (((F 66) (Int32.toNatClampNeg x1)) + 1))) (n 5).toInt dd (Int32.toNatClampNeg x1) r1 P1 := FSt_cg (fun k hk => hxw.2.2.1 k ((by decide : ∀ k : Nat, k ∈ wK → k ∉ ([66] : List Nat)) k hk)) _ _ _ (fun _ _ => rfl) (fun _ _ => rfl) (fun _ _ => rfl) (fun _ _ => rfl) (fun i hi => by show upd (F 66) (Int32.toNatClampNeg x1) (((F 66) (Int32.toNatClampNeg x1)) + 1) i = F 66 i; rw [updE, if_neg (by omega)]) hlo
            have hKS2 : KS T E S0 fo VF (va_up F 66 (upd (F 66) (Int32.toNatClampNeg x1) (((F 66) (Int32.toNatClampNeg x1)) + 1))) (va_up G 65 (vp_updL (G 65) (Int32.toNatClampNeg x1) (((G 65) (Int32.toNatClampNeg x1)) + ((((F 54) (Int32.toNatClampNeg ((F 66) (Int32.toNatClampNeg x1)))).toInt64) * (z 67))))) (Int32.toNatClampNeg x1) (vl T E wN fN d (wSc E S0 d wo)) := KS_cg (fun k hk => by simp only [List.mem_cons, List.not_mem_nil, or_false] at hk; rcases hk with rfl | rfl | rfl | rfl | rfl | rfl; exact (fun _ _ => rfl); exact (fun _ _ => rfl); exact (fun _ _ => rfl); exact (fun _ _ => rfl); exact (fun _ _ => rfl); exact (fun i hi => by show upd (F 66) (Int32.toNatClampNeg x1) (((F 66) (Int32.toNatClampNeg x1)) + 1) i = F 66 i; rw [updE, if_neg (by omega)])) (fun k hk => by simp only [List.mem_cons, List.not_mem_nil, or_false] at hk; rcases hk with rfl | rfl | rfl; exact (fun _ _ => rfl); exact (fun _ _ => rfl); exact (fun i hi => by show ((vp_updL (G 65) (Int32.toNatClampNeg x1) (((G 65) (Int32.toNatClampNeg x1)) + ((((F 54) (Int32.toNatClampNeg ((F 66) (Int32.toNatClampNeg x1)))).toInt64) * (z 67))))) i = G 65 i; rw [updLE, if_neg (by omega)])) hKS
            have hs4 : d < E.2.2.2.2.2 ∧ (∃ y : Nat, (F 66 (Int32.toNatClampNeg x1)).toInt = (y : Int) ∧ y < E.2.2.1 ∧ (G 65 (Int32.toNatClampNeg x1)) = foW E.2.2.2.2.1 E.2.1 (loW T E (wSc E S0 d wo) wN fN d) y ∧ z 67 = (loW T E (wSc E S0 d wo) wN fN d) y) ∧ tkF T E (wSc E S0 d wo) (F 64 (Int32.toNatClampNeg x1)) (G 63 (Int32.toNatClampNeg x1)) wN fN d := by rcases hst_ with z9 | z9 | z9 | z9; (exfalso; omega); (exfalso; omega); (exfalso; omega); exact z9.2
            obtain ⟨hdlt, ⟨y, hy1, hy2, hy3, hy4⟩, htk9⟩ := hs4
            have hup := foW_up (md := E.2.2.2.2.1) (wt := E.2.1) hy3 hy4
            have hycl : Int32.toNatClampNeg (F 66 (Int32.toNatClampNeg x1)) = y := by rw [clN]; omega
            have hwt : E.2.1 y = (F 54 (Int32.toNatClampNeg (F 66 (Int32.toNatClampNeg x1)))).toInt64 := by rw [hycl]; exact hER.2.2.2.1 y (by have z9 := hER.1.2; omega)
            have hy9 : ((va_up F 66 (upd (F 66) (Int32.toNatClampNeg x1) (((F 66) (Int32.toNatClampNeg x1)) + 1))) 66 (Int32.toNatClampNeg x1)).toInt = ((y + 1 : Nat) : Int) ∧ y + 1 ≤ E.2.2.1 := ⟨by rw [e66, q66]; omega, hy2⟩
            have hwa9 : (va_up G 65 (vp_updL (G 65) (Int32.toNatClampNeg x1) (((G 65) (Int32.toNatClampNeg x1)) + ((((F 54) (Int32.toNatClampNeg ((F 66) (Int32.toNatClampNeg x1)))).toInt64) * (z 67))))) 65 (Int32.toNatClampNeg x1) = foW E.2.2.2.2.1 E.2.1 (loW T E (wSc E S0 d wo) wN fN d) (y + 1) := (show (va_up G 65 (vp_updL (G 65) (Int32.toNatClampNeg x1) (((G 65) (Int32.toNatClampNeg x1)) + ((((F 54) (Int32.toNatClampNeg ((F 66) (Int32.toNatClampNeg x1)))).toInt64) * (z 67))))) 65 (Int32.toNatClampNeg x1) = (((G 65) (Int32.toNatClampNeg x1)) + ((((F 54) (Int32.toNatClampNeg ((F 66) (Int32.toNatClampNeg x1)))).toInt64) * (z 67))) from by show ((vp_updL (G 65) (Int32.toNatClampNeg x1) (((G 65) (Int32.toNatClampNeg x1)) + ((((F 54) (Int32.toNatClampNeg ((F 66) (Int32.toNatClampNeg x1)))).toInt64) * (z 67))))) (Int32.toNatClampNeg x1) = _; rw [updLE, if_pos rfl]).trans (by rw [← hup.1 (by omega), hwt])
            refine scX12_474 (k_X12_waitsOnE (x1 := x1) (x2 := x2) (r := r) (P1 := P1) (y := (y + 1)) (wN := wN) (fN := fN) (d := d) (wo := wo) (S0 := S0) (VF := VF) (fo := fo) (T := T) (E := E) hS_15 a5 (rAll_w (fun k hk => hxw.2.2.1 k ((by decide : ∀ k : Nat, k ∈ wK → k ∉ ([66] : List Nat)) k hk)) bA) (rW_w (fun k hk => hxw.2.2.1 k ((by decide : ∀ k : Nat, k ∈ wK → k ∉ ([66] : List Nat)) k hk)) bW) a53 hx1 hd hlo2 hr1 ⟨vW_cg rfl fw, fd, fo_, (by rw [szF_w (fun k hk => hxw.2.2.1 k ((by decide : ∀ k : Nat, k ∈ wK → k ∉ ([66] : List Nat)) k hk))]; exact fr_), trivial⟩ (by rw [e66]; have := hqa.2.2.2.2; omega) (LX_cg (fun r h1 h2 => hxw.2.2.1 r (by simp; omega)) hX) hfo (eR_cg hER rfl (hxw.2.2.1 54 (by decide)) (hxw.2.2.1 55 (by decide))) hDD hKS2 (show fD T E fo (va_up F 66 (upd (F 66) (Int32.toNatClampNeg x1) (((F 66) (Int32.toNatClampNeg x1)) + 1))) (va_up G 65 (vp_updL (G 65) (Int32.toNatClampNeg x1) (((G 65) (Int32.toNatClampNeg x1)) + ((((F 54) (Int32.toNatClampNeg ((F 66) (Int32.toNatClampNeg x1)))).toInt64) * (z 67))))) (Int32.toNatClampNeg x1) wN fN d wo from hfD) hlp hy9 hwa9 htk9) hS_15.1 ⟨(Nat.le_of_ble_eq_true rfl), (Nat.le_of_ble_eq_true rfl)⟩ ⟨(Nat.le_of_ble_eq_true rfl), (Nat.le_of_ble_eq_true rfl)⟩ rfl rfl (Nat.le_of_ble_eq_true rfl) dX12_goesOn_322 ?_
            rintro f_16 ⟨n_16, z_16, F_16, G_16, hS_16, hx16, hwi_16, hz_16, hres_16⟩
            have hxx : fx [57] [67] [58, 59, 60, 62, 64, 66] [61, 63, 65] n z F G n_16 z_16 F_16 G_16 := (fx_tr (fx_F (fx_G fx_rf (by decide)) (by decide)) hx16 (by decide))
            obtain ⟨r9, P9, z1, z2⟩ := hres_16
            rw [e66] at z2
            have z3 := hqa.2.2.2.2 (by omega)
            rw [show 3 - (((F 66) (Int32.toNatClampNeg x1)) + 1).toInt.toNat = 2 - (F 66 (Int32.toNatClampNeg x1)).toInt.toNat by omega] at z2
            exact gz_vret rfl dX12_goesOn_325 (Nat.le_of_ble_eq_true rfl) (Nat.le_of_ble_eq_true rfl) (⟨rfl, _, _, _, _, hS_16, hxx, hwi_16, hz_16, r9, P9, z1, (by rw [z3.2]; omega)⟩)
      · exfalso; first | omega | (rw [c_186] at hAT; exact absurd hAT (by decide)) | exact c_186 (Int32.toInt_inj.mp (by rw [hAT]; rfl))
    · exfalso; first | omega | (rw [c_125] at hAT; exact absurd hAT (by decide)) | exact c_125 (Int32.toInt_inj.mp (by rw [hAT]; rfl))
  · exfalso; first | omega | (rw [c_15] at hAT; exact absurd hAT (by decide)) | exact c_15 (Int32.toInt_inj.mp (by rw [hAT]; rfl))
