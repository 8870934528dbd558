set_option maxHeartbeats 4000000 in
set_option maxRecDepth 100000 in
theorem k_X12_goesOnE {l : Launch} {D : va_G} {cy : Nat → ClassId} {b : Nat} {f : gMem} {m : Nat} {a : Nat → Nat} {f0 : gMem} {n : Nat → Int32} {z : Nat → Int64} {F : Nat → Nat → Int32} {G : Nat → Nat → Int64}  {x1 x2 x3 : Int32}{r1 P1 r p : Nat} {dd : Int} {T : List Hd} {E : We} {S0 : Sn} {fo : Nat} {VF : Int64} {wN : Nat} {fN : Int} {d wo : Nat} (hS : mS cy m a f0 n z F G f) (a5 : 0 ≤ (n 5).toInt ∧ (n 5).toInt ≤ 20) (bA : rAll F) (bW : rW F (n 5).toInt) (a53 : 1 ≤ (n 53).toInt ∧ (n 53).toInt ≤ 3) (hx1 : 0 ≤ x1.toInt ∧ (n 57).toInt = x1.toInt + 1) (hd : x2.toInt = dd ∧ dd ≤ 4) (hlo : FSt F (n 5).toInt dd (Int32.toNatClampNeg x1) r1 P1) (hfr : frV F (n 5).toInt dd (F 58 (Int32.toNatClampNeg x1)) (F 59 (Int32.toNatClampNeg x1)) (F 60 (Int32.toNatClampNeg x1)) (F 62 (Int32.toNatClampNeg x1)) (F 66 (Int32.toNatClampNeg x1)) r p) (hr1 : r < r1) (hat : (F 62 (Int32.toNatClampNeg x1)).toInt ≠ 0) (hX : LX F fo T) (hfo : fo < 20) (hER : eR E n F) (hDD : x2.toInt = (E.2.2.2.2.2 : Int)) (hKS : KS T E S0 fo VF F G (Int32.toNatClampNeg x1) (vl T E wN fN d (wSc E S0 d wo))) (hfD : fD T E fo F G (Int32.toNatClampNeg x1) wN fN d wo) (hlp : lpT T (wSc E S0 d wo) wN = false) (hmd : x3.toInt = E.2.2.2.2.1) (hst_ : ((F 62 (Int32.toNatClampNeg x1)).toInt = 3 ∧ tkF T E (wSc E S0 d wo) (F 64 (Int32.toNatClampNeg x1)) (G 63 (Int32.toNatClampNeg x1)) wN fN d) ∨ sfW T E (wSc E S0 d wo) (F 62 (Int32.toNatClampNeg x1)) (F 64 (Int32.toNatClampNeg x1)) (F 66 (Int32.toNatClampNeg x1)) (G 63 (Int32.toNatClampNeg x1)) (G 65 (Int32.toNatClampNeg x1)) wN fN d (z 67)) : gC l D cy b yX12_goesOn cX12_goesOn 7 none 2 0 0 [.ref m, .int x1, .int x2, .int x3] f (pV fun f2 => ∃ (n2 : Nat → Int32) (z2 : Nat → Int64) (F2 : Nat → Nat → Int32) (G2 : Nat → Nat → Int64), mS cy m a f0 n2 z2 F2 G2 f2 ∧ fx [57] [67] [58, 59, 60, 62, 64, 66] [61, 63, 65] n z F G n2 z2 F2 G2 ∧ WI T E S0 fo VF F2 G2 (n2 57).toInt.toNat (z2 67) ∧ 0 ≤ (n2 57).toInt ∧ ∃ r9 P9 : Nat, FSt F2 (n2 5).toInt dd (n2 57).toInt.toNat r9 P9 ∧ P9 < P1 + p) := by
  have hq : (F 62 (Int32.toNatClampNeg x1)).toInt = 1 ∨ (F 62 (Int32.toNatClampNeg x1)).toInt = 2 ∨ (F 62 (Int32.toNatClampNeg x1)).toInt = 3 ∨ (F 62 (Int32.toNatClampNeg x1)).toInt = 4 := by obtain ⟨_, _, _, _, fa⟩ := id hfr; rcases fa with z | z | z | z | z <;> omega
  rcases hq with z | z | z | z
  · exact k_X12_goesOnE_1 hS a5 bA bW a53 hx1 hd hlo hfr hr1 hat hX hfo hER hDD hKS hfD hlp hmd hst_ z
  · exact k_X12_goesOnE_2 hS a5 bA bW a53 hx1 hd hlo hfr hr1 hat hX hfo hER hDD hKS hfD hlp hmd hst_ z
  · exact k_X12_goesOnE_3 hS a5 bA bW a53 hx1 hd hlo hfr hr1 hat hX hfo hER hDD hKS hfD hlp hmd hst_ z
  · exact k_X12_goesOnE_4 hS a5 bA bW a53 hx1 hd hlo hfr hr1 hat hX hfo hER hDD hKS hfD hlp hmd hst_ z

theorem stR0_cg {S0 : Sn} {n n2 : Nat → Int32} {F F2 : Nat → Nat → Int32} (h : stR0 S0 n F) (h1 : n2 0 = n 0) (h2 : F2 56 = F 56) : stR0 S0 n2 F2 := by
  unfold stR0 at *
  rw [h1, h2]; exact h
theorem WI_0 {T : List Hd} {E : We} {S0 : Sn} {fo : Nat} {VF : Int64} {F : Nat → Nat → Int32} {G : Nat → Nat → Int64} {ans : Int64} (h : WI T E S0 fo VF F G 0 ans) : ans = VF := by
  rcases h with h | ⟨t, wN, fN, d, wo, e, _⟩
  · exact h
  · omega
theorem WI_en {T : List Hd} {E : We} {S0 : Sn} {fo : Nat} {VF : Int64} {F : Nat → Nat → Int32} {G : Nat → Nat → Int64} {t : Nat} {ans : Int64} (h : WI T E S0 fo VF F G (t + 1) ans) (h0 : (F 62 t).toInt = 0) : ∃ (wN : Nat) (fN : Int) (d wo : Nat), KS T E S0 fo VF F G t (vl T E wN fN d (wSc E S0 d wo)) ∧ fD T E fo F G t wN fN d wo ∧ (F 64 t).toInt = 0 := by
  rcases h with ⟨wN, fN, d, wo, h1, h2, h3, h4⟩ | ⟨t2, wN, fN, d, wo, e, h1, h2, h3⟩
  · exfalso
    rcases h4 with z | z | z <;> omega
  · have e2 : t2 = t := by omega
    subst e2
    rcases h3 with z | z
    · exact ⟨wN, fN, d, wo, h1, h2, z.2⟩
    · omega
theorem WI_go {T : List Hd} {E : We} {S0 : Sn} {fo : Nat} {VF : Int64} {F : Nat → Nat → Int32} {G : Nat → Nat → Int64} {t : Nat} {ans : Int64} (h : WI T E S0 fo VF F G (t + 1) ans) (h0 : ¬ (F 62 t).toInt = 0) : ∃ (wN : Nat) (fN : Int) (d wo : Nat), KS T E S0 fo VF F G t (vl T E wN fN d (wSc E S0 d wo)) ∧ fD T E fo F G t wN fN d wo ∧ lpT T (wSc E S0 d wo) wN = false ∧ (((F 62 t).toInt = 3 ∧ tkF T E (wSc E S0 d wo) (F 64 t) (G 63 t) wN fN d) ∨ sfW T E (wSc E S0 d wo) (F 62 t) (F 64 t) (F 66 t) (G 63 t) (G 65 t) wN fN d ans) := by
  rcases h with ⟨wN, fN, d, wo, h1, h2, h3, h4⟩ | ⟨t2, wN, fN, d, wo, e, h1, h2, h3⟩
  · exact ⟨wN, fN, d, wo, h3, h1, h2, Or.inr h4⟩
  · have e2 : t2 = t := by omega
    subst e2
    rcases h3 with z | z
    · omega
    · exact ⟨wN, fN, d, wo, h1, h2, z.2.1, Or.inl ⟨z.1, z.2.2⟩⟩

set_option maxHeartbeats 4000000 in
set_option maxRecDepth 100000 in
theorem l_X12_worthE {l : Launch} {D : va_G} {cy : Nat → ClassId} {b : Nat} {m : Nat} {a : Nat → Nat} {f0 : gMem} {n0 : Nat → Int32} {z0 : Nat → Int64} {F0 : Nat → Nat → Int32} {G0 : Nat → Nat → Int64}  {x1 x2 x3 : Int32} {T : List Hd} {E : We} {S0 : Sn} {fo : Nat} {VF : Int64} (h2 : 1 ≤ x2.toInt ∧ x2.toInt ≤ 4) (hfo : fo < 20) (hDD : x2.toInt = (E.2.2.2.2.2 : Int)) (hmd : x3.toInt = E.2.2.2.2.1) (hSO : sOk 0 S0 ∧ eB E) : ∀ (k : Nat) (Rz Pz : Nat) (n : Nat → Int32) (z : Nat → Int64) (F : Nat → Nat → Int32) (G : Nat → Nat → Int64) (fm : gMem), mS cy m a f0 n z F G fm → fx [57] [29, 67] [56, 58, 59, 60, 62, 64, 66] [28, 61, 63, 65] n0 z0 F0 G0 n z F G → (RI n F) → (LX F fo T) → (eR E n F) → (stR0 S0 n F) → (WI T E S0 fo VF F G (n 57).toInt.toNat (z 67)) → (FSt F (n 5).toInt x2.toInt (n 57).toInt.toNat Rz Pz) → (0 ≤ (n 57).toInt) → (Pz < k) → gG l (gRm 5 0 0) (gQf D b (pL fun r f2 => ∃ (n2 : Nat → Int32) (z2 : Nat → Int64) (F2 : Nat → Nat → Int32) (G2 : Nat → Nat → Int64), mS cy m a f0 n2 z2 F2 G2 f2 ∧ fx [57] [29, 67] [56, 58, 59, 60, 62, 64, 66] [28, 61, 63, 65] n0 z0 F0 G0 n2 z2 F2 G2 ∧ RI n2 F2 ∧ r = VF) 0 0) gTt D cy b cX12_worth 5 (some .long) RX12 "worth" 0 0 fm 71 [(0, .ref m), (1, .int x1), (2, .int x2), (3, .int x3)] [] := by
  intro k
  induction k with
  | zero =>
    intro Rz Pz n z F G fm hS hx hR hX hER hS0 hWI hF h57 hk
    exfalso; omega
  | succ k ih =>
    intro Rz Pz n z F G fm hS hx hR hX hER hS0 hWI hF h57 hk
    obtain ⟨a0, a4, a5, bA, bW, a30, bL, a38, bP, a53, a47, a88⟩ := id hR
    have qln0 := FSt_len _ _ _ hF
    refine gz_aload_n dX12_worth_71 rfl rfl ?_
    refine mg_447 hS dX12_worth_72 ?_
    refine gz_if_le (tgt := 118) dX12_worth_75 (by decide) (fun c_75 => ?_) (fun c_75 => ?_)
    ·
      try simp only [mIn_0, lgc_lt, lgc_gt, lgc_le, lgc_ge, lgc_eq] at c_75
      try simp only [fl_lt, fl_le, fl_eq, fL_w, fL_lt, fL_le, tm1, tm10k, tm9, tm99, Int32.reduceToInt, Int64.reduceToInt, Int.not_lt, Int.not_le] at c_75
      refine gz_aload_n dX12_worth_118 rfl rfl ?_
      refine mg_450 hS dX12_worth_119 ?_
      exact gz_lret rfl dX12_worth_122 (Nat.le_of_ble_eq_true rfl) (Nat.le_of_ble_eq_true rfl) (⟨_, rfl, _, _, _, _, hS, hx, hR, WI_0 (by rw [show (n 57).toInt.toNat = 0 by omega] at hWI; exact hWI)⟩)
    ·
      try simp only [mIn_0, lgc_lt, lgc_gt, lgc_le, lgc_ge, lgc_eq] at c_75
      try simp only [fl_lt, fl_le, fl_eq, fL_w, fL_lt, fL_le, tm1, tm10k, tm9, tm99, Int32.reduceToInt, Int64.reduceToInt, Int.not_lt, Int.not_le] at c_75
      refine gz_aload_n dX12_worth_78 rfl rfl ?_
      refine mg_447 hS dX12_worth_79 ?_
      refine gz_iconst (v := 1) dX12_worth_82 (by decide) ?_
      refine gz_isub dX12_worth_83 ?_
      obtain ⟨fv, hfv⟩ : ∃ v_, v_ = ((n 57) - 1) := ⟨_, rfl⟩
      refine gz_ev (w := .int fv) (congrArg Value.int hfv.symm) ?_
      have qf : fv.toInt = (n 57).toInt - 1 := by rw [hfv]; exact T_sub rfl (show (1 : Int32).toInt = 1 from rfl) (by omega)
      obtain ⟨r1, P1, p, g1, g2, g3, g4⟩ : FSt F (n 5).toInt x2.toInt ((Int32.toNatClampNeg fv) + 1) Rz Pz := by rw [show (Int32.toNatClampNeg fv) + 1 = (n 57).toInt.toNat by rw [clN]; omega]; exact hF
      have qln := FSt_len _ _ _ g1
      have qcf := clI (i := fv) (by omega)
      have hWI2 := hWI
      rw [show (n 57).toInt.toNat = (Int32.toNatClampNeg fv) + 1 by rw [clN]; omega] at hWI2
      refine gz_istore (lv' := [(4, .int fv), (0, .ref m), (1, .int x1), (2, .int x2), (3, .int x3)]) dX12_worth_84 (by decide) rfl ?_
      refine gz_aload_n dX12_worth_86 rfl rfl ?_
      refine mg_176 hS dX12_worth_87 ?_
      refine gz_iload dX12_worth_90 rfl ?_
      refine m_iald 62 hS rfl (N := 80) rfl ((by exact vin_T (rfl : fv.toInt = fv.toInt) (by omega) (by omega))) dX12_worth_92 ?_
      refine gz_if_ne (tgt := 107) dX12_worth_93 (by decide) (fun c_93 => ?_) (fun c_93 => ?_)
      ·
        try simp only [mIn_0, lgc_lt, lgc_gt, lgc_le, lgc_ge, lgc_eq] at c_93
        try simp only [fl_lt, fl_le, fl_eq, fL_w, fL_lt, fL_le, tm1, tm10k, tm9, tm99, Int32.reduceToInt, Int64.reduceToInt, Int.not_lt, Int.not_le] at c_93
        refine gz_aload_n dX12_worth_107 rfl rfl ?_
        refine gz_iload dX12_worth_108 rfl ?_
        refine gz_iload_n dX12_worth_110 rfl rfl ?_
        refine gz_iload_n dX12_worth_111 rfl rfl ?_
        obtain ⟨wN, fN, d, wo, hk9, hf9, hl9, hs9⟩ := WI_go hWI2 (by omega)
        refine scX12_486 (k_X12_goesOnE (x1 := fv) (x2 := x2) (x3 := x3) (dd := x2.toInt) hS a5 bA bW a53 (by omega) (by omega) g1 g3 g2 (by omega) hX hfo hER hDD hk9 hf9 hl9 hmd hs9) hS.1 ⟨(Nat.le_of_ble_eq_true rfl), (Nat.le_of_ble_eq_true rfl)⟩ ⟨(Nat.le_of_ble_eq_true rfl), (Nat.le_of_ble_eq_true rfl)⟩ rfl rfl (Nat.le_of_ble_eq_true rfl) dX12_worth_112 ?_
        rintro f_1 ⟨n_1, z_1, F_1, G_1, hS_1, hx1, hwi_1, hz_1, hres_1⟩
        refine gz_goto (tgt := 71) dX12_worth_115 (by decide) ?_
        refine gz_sub (lv' := [(0, .ref m), (1, .int x1), (2, .int x2), (3, .int x3)]) (by simp [List.lookup]) ?_
        obtain ⟨r9, P9, z1, z2⟩ := hres_1
        exact ih r9 P9 _ _ _ _ _ hS_1 (fx_tr hx hx1 (by decide)) (RI_fx hR hx1 (by decide) (by decide)) (LX_cg (fun r h1 h2 => hx1.2.2.1 r (by simp; omega)) hX) (eR_cg hER (hx1.1 53 (by decide)) (hx1.2.2.1 54 (by decide)) (hx1.2.2.1 55 (by decide))) (stR0_cg hS0 (hx1.1 0 (by decide)) (hx1.2.2.1 56 (by decide))) (hwi_1) (z1) (hz_1) (by omega)
      ·
        try simp only [mIn_0, lgc_lt, lgc_gt, lgc_le, lgc_ge, lgc_eq] at c_93
        try simp only [fl_lt, fl_le, fl_eq, fL_w, fL_lt, fL_le, tm1, tm10k, tm9, tm99, Int32.reduceToInt, Int64.reduceToInt, Int.not_lt, Int.not_le] at c_93
        refine gz_aload_n dX12_worth_96 rfl rfl ?_
        refine gz_iload dX12_worth_97 rfl ?_
        refine gz_iload_n dX12_worth_99 rfl rfl ?_
        refine gz_iload_n dX12_worth_100 rfl rfl ?_
        obtain ⟨wN, fN, d, wo, hk9, hf9, ht9⟩ := WI_en hWI2 (by omega)
        refine scX12_482 (k_X12_entersE (x1 := fv) (x2 := x2) (x3 := x3) (dd := x2.toInt) hS a5 bA bW a53 (by omega) (by omega) g1 g3 g2 (by omega) hX hfo hER hDD hk9 hf9 hS0 hSO a0 hmd ht9) hS.1 ⟨(Nat.le_of_ble_eq_true rfl), (Nat.le_of_ble_eq_true rfl)⟩ ⟨(Nat.le_of_ble_eq_true rfl), (Nat.le_of_ble_eq_true rfl)⟩ rfl rfl (Nat.le_of_ble_eq_true rfl) dX12_worth_101 ?_
        rintro f_2 ⟨n_2, z_2, F_2, G_2, hS_2, hx2, hwi_2, hz_2, hres_2⟩
        refine gz_goto (tgt := 115) dX12_worth_104 (by decide) ?_
        refine gz_goto (tgt := 71) dX12_worth_115 (by decide) ?_
        refine gz_sub (lv' := [(0, .ref m), (1, .int x1), (2, .int x2), (3, .int x3)]) (by simp [List.lookup]) ?_
        obtain ⟨r9, P9, z1, z2⟩ := hres_2
        exact ih r9 P9 _ _ _ _ _ hS_2 (fx_tr hx hx2 (by decide)) (RI_fx hR hx2 (by decide) (by decide)) (LX_cg (fun r h1 h2 => hx2.2.2.1 r (by simp; omega)) hX) (eR_cg hER (hx2.1 53 (by decide)) (hx2.2.2.1 54 (by decide)) (hx2.2.2.1 55 (by decide))) (stR0_cg hS0 (hx2.1 0 (by decide)) (hx2.2.2.1 56 (by decide))) (hwi_2) (z1) (hz_2) (by omega)

set_option maxHeartbeats 4000000 in
set_option maxRecDepth 100000 in
theorem k_X12_worthE {l : Launch} {D : va_G} {cy : Nat → ClassId} {b : Nat} {f : gMem} {m : Nat} {a : Nat → Nat} {f0 : gMem} {n : Nat → Int32} {z : Nat → Int64} {F : Nat → Nat → Int32} {G : Nat → Nat → Int64}  {x1 x2 x3 : Int32} {T : List Hd} {E : We} (hS : mS cy m a f0 n z F G f) (hR : RI n F) (hX : 0 ≤ x1.toInt → x1.toInt < (n 5).toInt → LX F x1.toInt.toNat T) (hER : eR E n F) (hmd : x3.toInt = E.2.2.2.2.1) (hDD : 1 ≤ x2.toInt ∧ x2.toInt ≤ 4 → x2.toInt = (E.2.2.2.2.2 : Int)) (hSO : sOk 0 (sNow (n 0) (F 2)) ∧ eB E) : gC l D cy b yX12_worth cX12_worth 5 (some .long) 5 0 0 [.ref m, .int x1, .int x2, .int x3] f (pL fun r f2 => ∃ (n2 : Nat → Int32) (z2 : Nat → Int64) (F2 : Nat → Nat → Int32) (G2 : Nat → Nat → Int64), mS cy m a f0 n2 z2 F2 G2 f2 ∧ fx [57] [29, 67] [56, 58, 59, 60, 62, 64, 66] [28, 61, 63, 65] n z F G n2 z2 F2 G2 ∧ RI n2 F2 ∧ r = (if x1.toInt < 0 ∨ (n 5).toInt ≤ x1.toInt ∨ x2.toInt < 1 ∨ 4 < x2.toInt ∨ x3.toInt < 0 ∨ 3 < x3.toInt then (-1000000000000000000 : Int64) else if x3.toInt = 3 then E.2.2.2.1 x2.toInt.toNat else vl T E 0 1 0 (sNow (n 0) (F 2)))) := by
  obtain ⟨a0, a4, a5, bA, bW, a30, bL, a38, bP, a53, a47, a88⟩ := id hR
  refine gC_of (by decide) (Nat.le_of_ble_eq_true rfl) ?_
  show gG l _ _ _ D cy b cX12_worth 5 _ RX12 "worth" 0 0 f 0 [(0, .ref m), (1, .int x1), (2, .int x2), (3, .int x3)] []
  refine gz_aload_n dX12_worth_0 rfl rfl ?_
  refine gz_iload_n dX12_worth_1 rfl rfl ?_
  refine scX12_337 (k_X12_isFormE (x1 := x1) hS ) hS.1 ⟨(Nat.le_of_ble_eq_true rfl), (Nat.le_of_ble_eq_true rfl)⟩ ⟨(Nat.le_of_ble_eq_true rfl), (Nat.le_of_ble_eq_true rfl)⟩ rfl rfl (Nat.le_of_ble_eq_true rfl) dX12_worth_2 ?_
  rintro r_1 f9 ⟨hb_1, y9⟩; rw [y9]
  try rw [(show n 5 = (n 5) from rfl)] at hb_1
  have hbb_1 : r_1 = 0 ∨ r_1 = 1 := hb_1.imp And.left And.left
  simp only [fl_eq, Int32.reduceToInt] at hb_1
  refine gz_if_eq (tgt := 32) dX12_worth_5 (by decide) (fun c_5 => ?_) (fun c_5 => ?_)
  ·
    try simp only [mIn_0, lgc_lt, lgc_gt, lgc_le, lgc_ge, lgc_eq] at c_5
    try simp only [fl_lt, fl_le, fl_eq, fL_w, fL_lt, fL_le, tm1, tm10k, tm9, tm99, Int32.reduceToInt, Int64.reduceToInt, Int.not_lt, Int.not_le] at c_5
    refine gz_ldc2 (v := (-1000000000000000000)) wd_987 dX12_worth_32 ?_
    have hxx : fx [57] [29, 67] [56, 58, 59, 60, 62, 64, 66] [28, 61, 63, 65] n z F G n z F G := fx_rf
    exact gz_lret rfl dX12_worth_35 (Nat.le_of_ble_eq_true rfl) (Nat.le_of_ble_eq_true rfl) (⟨_, rfl, _, _, _, _, hS, hxx, RI_fx hR hxx (by decide) (by decide), (by rw [if_pos (by omega)])⟩)
  ·
    try simp only [mIn_0, lgc_lt, lgc_gt, lgc_le, lgc_ge, lgc_eq] at c_5
    try simp only [fl_lt, fl_le, fl_eq, fL_w, fL_lt, fL_le, tm1, tm10k, tm9, tm99, Int32.reduceToInt, Int64.reduceToInt, Int.not_lt, Int.not_le] at c_5
    refine gz_iload_n dX12_worth_8 rfl rfl ?_
    refine gz_i2l dX12_worth_9 ?_
    refine gz_lconst (v := 1) dX12_worth_10 (by decide) ?_
    refine gz_ldc2 (v := (4)) wd_956 dX12_worth_11 ?_
    refine scX12_245 (k_X12_in (x := x2.toInt64) (y := 1) (w := (4))) ⟨(Nat.le_of_ble_eq_true rfl), (Nat.le_of_ble_eq_true rfl)⟩ ⟨(Nat.le_of_ble_eq_true rfl), (Nat.le_of_ble_eq_true rfl)⟩ rfl rfl (Nat.le_of_ble_eq_true rfl) dX12_worth_14 ?_
    intro v9 f9 z9; rw [z9.1, z9.2]
    refine gz_if_eq (tgt := 32) dX12_worth_17 (by decide) (fun c_17 => ?_) (fun c_17 => ?_)
    ·
      try simp only [mIn_0, lgc_lt, lgc_gt, lgc_le, lgc_ge, lgc_eq] at c_17
      try simp only [fl_lt, fl_le, fl_eq, fL_w, fL_lt, fL_le, tm1, tm10k, tm9, tm99, Int32.reduceToInt, Int64.reduceToInt, Int.not_lt, Int.not_le] at c_17
      refine gz_ldc2 (v := (-1000000000000000000)) wd_987 dX12_worth_32 ?_
      have hxx : fx [57] [29, 67] [56, 58, 59, 60, 62, 64, 66] [28, 61, 63, 65] n z F G n z F G := fx_rf
      exact gz_lret rfl dX12_worth_35 (Nat.le_of_ble_eq_true rfl) (Nat.le_of_ble_eq_true rfl) (⟨_, rfl, _, _, _, _, hS, hxx, RI_fx hR hxx (by decide) (by decide), (by rw [if_pos (by omega)])⟩)
    ·
      try simp only [mIn_0, lgc_lt, lgc_gt, lgc_le, lgc_ge, lgc_eq] at c_17
      try simp only [fl_lt, fl_le, fl_eq, fL_w, fL_lt, fL_le, tm1, tm10k, tm9, tm99, Int32.reduceToInt, Int64.reduceToInt, Int.not_lt, Int.not_le] at c_17
      refine gz_iload_n dX12_worth_20 rfl rfl ?_
      refine gz_i2l dX12_worth_21 ?_
      refine gz_lconst (v := 0) dX12_worth_22 (by decide) ?_
      refine gz_ldc2 (v := (3)) wd_955 dX12_worth_23 ?_
      refine scX12_245 (k_X12_in (x := x3.toInt64) (y := 0) (w := (3))) ⟨(Nat.le_of_ble_eq_true rfl), (Nat.le_of_ble_eq_true rfl)⟩ ⟨(Nat.le_of_ble_eq_true rfl), (Nat.le_of_ble_eq_true rfl)⟩ rfl rfl (Nat.le_of_ble_eq_true rfl) dX12_worth_26 ?_
      intro v9 f9 z9; rw [z9.1, z9.2]
      refine gz_if_ne (tgt := 36) dX12_worth_29 (by decide) (fun c_29 => ?_) (fun c_29 => ?_)
      ·
        try simp only [mIn_0, lgc_lt, lgc_gt, lgc_le, lgc_ge, lgc_eq] at c_29
        try simp only [fl_lt, fl_le, fl_eq, fL_w, fL_lt, fL_le, tm1, tm10k, tm9, tm99, Int32.reduceToInt, Int64.reduceToInt, Int.not_lt, Int.not_le] at c_29
        refine gz_iload_n dX12_worth_36 rfl rfl ?_
        refine gz_iconst (v := 3) dX12_worth_37 (by decide) ?_
        refine gz_icmp_ne (tgt := 51) dX12_worth_38 (by decide) (fun c_38 => ?_) (fun c_38 => ?_)
        ·
          try simp only [mIn_0, lgc_lt, lgc_gt, lgc_le, lgc_ge, lgc_eq] at c_38
          try simp only [fl_lt, fl_le, fl_eq, fL_w, fL_lt, fL_le, tm1, tm10k, tm9, tm99, Int32.reduceToInt, Int64.reduceToInt, Int.not_lt, Int.not_le] at c_38
          refine gz_aload_n dX12_worth_51 rfl rfl ?_
          refine scX12_479 (k_X12_startsE hS a0) hS.1 ⟨(Nat.le_of_ble_eq_true rfl), (Nat.le_of_ble_eq_true rfl)⟩ ⟨(Nat.le_of_ble_eq_true rfl), (Nat.le_of_ble_eq_true rfl)⟩ rfl rfl (Nat.le_of_ble_eq_true rfl) dX12_worth_52 ?_
          rintro f_2 ⟨n_2, z_2, F_2, G_2, hS_2, hx2, hst_2⟩
          refine gz_aload_n dX12_worth_55 rfl rfl ?_
          refine gz_iconst (v := 0) dX12_worth_56 (by decide) ?_
          refine mp_447 hS_2 dX12_worth_57 (fun f_3 hS_3 => ?_)
          refine gz_aload_n dX12_worth_60 rfl rfl ?_
          refine gz_bipush (v := 40) dX12_worth_61 (by decide) ?_
          refine gz_iload_n dX12_worth_63 rfl rfl ?_
          refine gz_imul dX12_worth_64 ?_
          refine gz_iconst (v := 0) dX12_worth_65 (by decide) ?_
          refine gz_iconst (v := 0) dX12_worth_66 (by decide) ?_
          refine gz_lconst (v := 1) dX12_worth_67 (by decide) ?_
          refine scX12_466 (k_X12_pushesE (x1 := (40 * x1)) (x2 := 0) (x3 := 0) (y := 1) hS_3 (show 0 ≤ (0 : Int32).toInt ∧ (0 : Int32).toInt < 80 by decide)) hS_3.1 ⟨(Nat.le_of_ble_eq_true rfl), (Nat.le_of_ble_eq_true rfl)⟩ ⟨(Nat.le_of_ble_eq_true rfl), (Nat.le_of_ble_eq_true rfl)⟩ rfl rfl (Nat.le_of_ble_eq_true rfl) dX12_worth_68 ?_
          rintro f_4 ⟨n_4, z_4, F_4, G_4, hS_4, hx4, g57_4, g58_4, g59_4, g60_4, g61_4, g62_4, g64_4⟩
          try simp only [(show (va_up n_2 57 0) 57 = 0 from rfl)] at g57_4 g58_4 g59_4 g60_4 g61_4 g62_4 g64_4
          have hxx : fx [57] [29, 67] [56, 58, 59, 60, 62, 64, 66] [28, 61, 63, 65] n z F G n_4 z_4 F_4 G_4 := (fx_tr (fx_n (fx_tr fx_rf hx2 (by decide)) (by decide)) hx4 (by decide))
          have qx : (40 * x1).toInt = 40 * x1.toInt := T_mul (show (40 : Int32).toInt = 40 from rfl) rfl (by omega)
          have qc := clI (i := x1) (by omega)
          have qb := (bW (Int32.toNatClampNeg x1) (by omega)).1
          have hv0 : vW F (n 5).toInt (40 * x1).toInt := ⟨Int32.toNatClampNeg x1, 0, by omega, by omega, by omega⟩
          have qz := szF_pos bW hv0
          have e57 : (n_4 57).toInt = 1 := by rw [g57_4]; rfl
          have e5 : n_4 5 = n 5 := hxx.1 5 (by decide)
          have hfr : frV F (n 5).toInt x2.toInt (40 * x1) 0 0 0 (F_4 66 0) (szF F (40 * x1).toInt + 4) (cR (szF F (40 * x1).toInt + 4)) := ⟨hv0, ⟨by decide, by have e0 : (0 : Int32).toInt = 0 := rfl; omega⟩, by decide, by have e0 : (0 : Int32).toInt = 0 := rfl; omega, Or.inl ⟨rfl, rfl⟩⟩
          have h58 : F_4 58 0 = 40 * x1 := by rw [g58_4]; rfl
          have h59 : F_4 59 0 = 0 := by rw [g59_4]; rfl
          have h60 : F_4 60 0 = 0 := by rw [g60_4]; rfl
          have h62 : F_4 62 0 = 0 := by rw [g62_4]; rfl
          have h64 : F_4 64 0 = 0 := by rw [g64_4]; rfl
          have h61 : G_4 61 0 = 1 := by rw [g61_4, updLE, if_pos (show (0 : Nat) = Int32.toNatClampNeg 0 from rfl)]
          have hF9 : FSt F_4 (n_4 5).toInt x2.toInt (n_4 57).toInt.toNat (szF F (40 * x1).toInt + 4) (0 + cR (szF F (40 * x1).toInt + 4)) := by rw [e57, e5]; exact ⟨45, 0, _, ⟨rfl, rfl⟩, by omega, by rw [h58, h59, h60, h62]; exact frV_w (fun k hk => hxx.2.2.1 k ((by decide : ∀ k : Nat, k ∈ wK → k ∉ ([56, 58, 59, 60, 62, 64, 66] : List Nat)) k hk)) hfr, rfl⟩
          have hcm := cR_mono (a := szF F (40 * x1).toInt + 4) 44 (by omega)
          have hX1 := hX (by omega) (by omega)
          have hT1 : 0 < T.length := by obtain ⟨z9, B9, e9⟩ := okT_ne hX1.1.1; rw [e9]; exact Nat.succ_pos _
          have hX2 : LX F_4 x1.toInt.toNat T := LX_cg (fun r h1 h2 => hxx.2.2.1 r (by simp; omega)) hX1
          have hER2 := eR_cg hER (hxx.1 53 (by decide)) (hxx.2.2.1 54 (by decide)) (hxx.2.2.1 55 (by decide))
          have hS2 : stR0 (sNow (n 0) (F 2)) n_4 F_4 := stR0_cg hst_2 (hx4.1 0 (by decide)) (hx4.2.2.1 56 (by decide))
          have hWI : WI T E (sNow (n 0) (F 2)) x1.toInt.toNat (vl T E 0 1 0 (sNow (n 0) (F 2))) F_4 G_4 (n_4 57).toInt.toNat (z_4 67) := by rw [e57]; exact Or.inr ⟨0, 0, 1, 0, 0, rfl, rfl, by unfold fD; rw [h58, h59, h60, h61]; exact ⟨⟨by rw [qx]; omega, hT1⟩, ⟨rfl, Nat.zero_le _⟩, rfl, rfl, by decide, by decide⟩, Or.inl ⟨by rw [h62]; rfl, by rw [h64]; rfl⟩⟩
          refine gz_sub (lv' := [(0, .ref m), (1, .int x1), (2, .int x2), (3, .int x3)]) (by simp [List.lookup]) ?_
          have hfin := l_X12_worthE (l := l) (D := D) (b := b) (x1 := x1) (x3 := x3) (T := T) (E := E) (S0 := sNow (n 0) (F 2)) (fo := x1.toInt.toNat) (VF := vl T E 0 1 0 (sNow (n 0) (F 2))) (show 1 ≤ x2.toInt ∧ x2.toInt ≤ 4 by omega) (by omega) (hDD (by omega)) hmd hSO (cR 44 + 1) _ _ _ _ _ _ _ hS_4 hxx (RI_fx hR hxx (by decide) (by decide)) hX2 hER2 hS2 hWI hF9 (by omega) (by omega)
          rw [if_neg (show ¬ (x1.toInt < 0 ∨ (n 5).toInt ≤ x1.toInt ∨ x2.toInt < 1 ∨ 4 < x2.toInt ∨ x3.toInt < 0 ∨ 3 < x3.toInt) by omega), if_neg (show ¬ x3.toInt = 3 by omega)]
          exact hfin
        ·
          try simp only [mIn_0, lgc_lt, lgc_gt, lgc_le, lgc_ge, lgc_eq] at c_38
          try simp only [fl_lt, fl_le, fl_eq, fL_w, fL_lt, fL_le, tm1, tm10k, tm9, tm99, Int32.reduceToInt, Int64.reduceToInt, Int.not_lt, Int.not_le] at c_38
          refine gz_aload_n dX12_worth_41 rfl rfl ?_
          refine scX12_460 (k_X12_allWeightsE (wz := E.2.2.1) hS hER.1 hER.2.2.1) hS.1 ⟨(Nat.le_of_ble_eq_true rfl), (Nat.le_of_ble_eq_true rfl)⟩ ⟨(Nat.le_of_ble_eq_true rfl), (Nat.le_of_ble_eq_true rfl)⟩ rfl rfl (Nat.le_of_ble_eq_true rfl) dX12_worth_42 ?_
          rintro r_a f9 ⟨hra, y9⟩; rw [y9]
          refine gz_iload_n dX12_worth_45 rfl rfl ?_
          have hab := awI_b hER.2.2.1 E.2.2.1 hER.1.2.2
          refine scX12_463 (k_X12_powerE (x1 := r_a) (x2 := x2) (by rw [hra]; have z9 := hER.1.2; omega) (by omega)) ⟨(Nat.le_of_ble_eq_true rfl), (Nat.le_of_ble_eq_true rfl)⟩ ⟨(Nat.le_of_ble_eq_true rfl), (Nat.le_of_ble_eq_true rfl)⟩ rfl rfl (Nat.le_of_ble_eq_true rfl) dX12_worth_46 ?_
          rintro r_pw f9 ⟨hpw, y9⟩; rw [y9]
          refine gz_i2l dX12_worth_49 ?_
          have hxx : fx [57] [29, 67] [56, 58, 59, 60, 62, 64, 66] [28, 61, 63, 65] n z F G n z F G := fx_rf
          exact gz_lret rfl dX12_worth_50 (Nat.le_of_ble_eq_true rfl) (Nat.le_of_ble_eq_true rfl) (⟨_, rfl, _, _, _, _, hS, hxx, RI_fx hR hxx (by decide) (by decide), (by rw [if_neg (by omega), if_pos (by omega), hER.2.2.2.2 _ (by omega), L_of (rfl : r_pw.toInt = _), hpw.1, hra])⟩)
      ·
        try simp only [mIn_0, lgc_lt, lgc_gt, lgc_le, lgc_ge, lgc_eq] at c_29
        try simp only [fl_lt, fl_le, fl_eq, fL_w, fL_lt, fL_le, tm1, tm10k, tm9, tm99, Int32.reduceToInt, Int64.reduceToInt, Int.not_lt, Int.not_le] at c_29
        refine gz_ldc2 (v := (-1000000000000000000)) wd_987 dX12_worth_32 ?_
        have hxx : fx [57] [29, 67] [56, 58, 59, 60, 62, 64, 66] [28, 61, 63, 65] n z F G n z F G := fx_rf
        exact gz_lret rfl dX12_worth_35 (Nat.le_of_ble_eq_true rfl) (Nat.le_of_ble_eq_true rfl) (⟨_, rfl, _, _, _, _, hS, hxx, RI_fx hR hxx (by decide) (by decide), (by rw [if_pos (by omega)])⟩)
