set_option maxHeartbeats 4000000 in
set_option maxRecDepth 100000 in
theorem k_X12_enters {l : Launch} {D : va_G} {cy : Nat → ClassId} {b : Nat} {f : gMem} {m : Nat} {a : Nat → Nat} {f0 : gMem} {n : Nat → Int32} {z : Nat → Int64} {F : Nat → Nat → Int32} {G : Nat → Nat → Int64}  {x1 x2 x3 : Int32}{r1 P1 r p : Nat} {dd : Int} (hS : mS cy m a f0 n z F G f) (a5 : 0 ≤ (n 5).toInt ∧ (n 5).toInt ≤ 20) (bA : rAll F) (bW : rW F (n 5).toInt) (a53 : 1 ≤ (n 53).toInt ∧ (n 53).toInt ≤ 3) (hx1 : 0 ≤ x1.toInt ∧ (n 57).toInt = x1.toInt + 1) (hd : x2.toInt = dd ∧ dd ≤ 4) (hlo : FSt F (n 5).toInt dd (Int32.toNatClampNeg x1) r1 P1) (hfr : frV F (n 5).toInt dd (F 58 (Int32.toNatClampNeg x1)) (F 59 (Int32.toNatClampNeg x1)) (F 60 (Int32.toNatClampNeg x1)) (F 62 (Int32.toNatClampNeg x1)) (F 66 (Int32.toNatClampNeg x1)) r p) (hr1 : r < r1) (hat : (F 62 (Int32.toNatClampNeg x1)).toInt = 0) : gC l D cy b yX12_enters cX12_enters 6 none 4 0 0 [.ref m, .int x1, .int x2, .int x3] f (pV fun f2 => ∃ (n2 : Nat → Int32) (z2 : Nat → Int64) (F2 : Nat → Nat → Int32) (G2 : Nat → Nat → Int64), mS cy m a f0 n2 z2 F2 G2 f2 ∧ fx [57] [29, 67] [58, 59, 60, 62, 64] [28, 61] n z F G n2 z2 F2 G2 ∧ 0 ≤ (n2 57).toInt ∧ ∃ r9 P9 : Nat, FSt F2 (n2 5).toInt dd (n2 57).toInt.toNat r9 P9 ∧ P9 < P1 + p) := by
  obtain ⟨fw, fd, fo, fr_, fa⟩ := id hfr
  have qv := vW_lt bW a5 fw
  have qz := szF_pos bW fw
  have q3 := pw3 (d := (F 59 (Int32.toNatClampNeg x1)).toInt.toNat) (by omega)
  have qcx := clI (i := x1) (by omega)
  have qcn := clI (i := n 57) (by omega)
  have qlen := FSt_len _ _ _ hlo
  have hp : p = cR r := by rcases fa with z | z | z | z | z <;> first | exact z.2 | (exfalso; omega)
  have hrp : 1 ≤ r := by omega
  have hcs := cR_s hrp
  have qk : 0 ≤ (F 7 (Int32.toNatClampNeg (F 58 (Int32.toNatClampNeg x1)))).toInt ∧ (F 7 (Int32.toNatClampNeg (F 58 (Int32.toNatClampNeg x1)))).toInt ≤ 10 := knd_ok bW fw
  refine gC_of (by decide) (Nat.le_of_ble_eq_true rfl) ?_
  show gG l _ _ _ D cy b cX12_enters 6 _ RX12 "enters" 0 0 f 0 [(0, .ref m), (1, .int x1), (2, .int x2), (3, .int x3)] []
  refine gz_aload_n dX12_enters_0 rfl rfl ?_
  refine mg_164 hS dX12_enters_1 ?_
  refine gz_iload_n dX12_enters_4 rfl rfl ?_
  refine m_iald 58 hS rfl (N := 80) rfl ((by exact vin_T (rfl : x1.toInt = x1.toInt) (by omega) (by omega))) dX12_enters_5 ?_
  refine gz_istore (lv' := [(4, .int ((F 58) (Int32.toNatClampNeg x1))), (0, .ref m), (1, .int x1), (2, .int x2), (3, .int x3)]) dX12_enters_6 (by decide) rfl ?_
  refine gz_aload_n dX12_enters_8 rfl rfl ?_
  refine gz_aload_n dX12_enters_9 rfl rfl ?_
  refine mg_167 hS dX12_enters_10 ?_
  refine gz_iload_n dX12_enters_13 rfl rfl ?_
  refine m_iald 59 hS rfl (N := 80) rfl ((by exact vin_T (rfl : x1.toInt = x1.toInt) (by omega) (by omega))) dX12_enters_14 ?_
  refine gz_aload_n dX12_enters_15 rfl rfl ?_
  refine mg_170 hS dX12_enters_16 ?_
  refine gz_iload_n dX12_enters_19 rfl rfl ?_
  refine m_iald 60 hS rfl (N := 80) rfl ((by exact vin_T (rfl : x1.toInt = x1.toInt) (by omega) (by omega))) dX12_enters_20 ?_
  refine scX12_453 (k_X12_asIn (x1 := (F 59 (Int32.toNatClampNeg x1))) (x2 := (F 60 (Int32.toNatClampNeg x1))) hS a53 (by omega) (by omega)) hS.1 ⟨(Nat.le_of_ble_eq_true rfl), (Nat.le_of_ble_eq_true rfl)⟩ ⟨(Nat.le_of_ble_eq_true rfl), (Nat.le_of_ble_eq_true rfl)⟩ rfl rfl (Nat.le_of_ble_eq_true rfl) dX12_enters_21 ?_
  rintro f_1 ⟨n_1, z_1, F_1, G_1, hS_1, hx1⟩
  have hxa := hx1
  have e5a : n_1 5 = n 5 := hxa.1 5 (by decide)
  refine gz_aload_n dX12_enters_24 rfl rfl ?_
  refine gz_iload dX12_enters_25 rfl ?_
  refine scX12_374 (k_X12_isLapsed (x1 := (F 58 (Int32.toNatClampNeg x1))) hS_1 (by rw [e5a]; exact a5) (rAll_w (fun k hk => hxa.2.2.1 k ((by decide : ∀ k : Nat, k ∈ wK → k ∉ ([] : List Nat)) k hk)) bA) (by rw [e5a]; exact rW_w (fun k hk => hxa.2.2.1 k ((by decide : ∀ k : Nat, k ∈ wK → k ∉ ([] : List Nat)) k hk)) bW) (by rw [e5a]; exact vW_cg (hxa.2.2.1 6 (by decide)) fw)) hS_1.1 ⟨(Nat.le_of_ble_eq_true rfl), (Nat.le_of_ble_eq_true rfl)⟩ ⟨(Nat.le_of_ble_eq_true rfl), (Nat.le_of_ble_eq_true rfl)⟩ rfl rfl (Nat.le_of_ble_eq_true rfl) dX12_enters_27 ?_
  rintro r_2 f9 ⟨hb_2, y9⟩; rw [y9]
  refine gz_if_ne (tgt := 43) dX12_enters_30 (by decide) (fun c_30 => ?_) (fun c_30 => ?_)
  ·
    try simp only [mIn_0, lgc_lt, lgc_gt, lgc_le, lgc_ge, lgc_eq] at c_30
    try simp only [fl_lt, fl_le, fl_eq, fL_w, fL_lt, fL_le, tm1, tm10k, tm9, tm99, Int32.reduceToInt, Int64.reduceToInt, Int.not_lt, Int.not_le] at c_30
    refine gz_aload_n dX12_enters_43 rfl rfl ?_
    refine gz_lconst (v := 0) dX12_enters_44 (by decide) ?_
    refine scX12_456 (k_X12_answers hS_1) hS_1.1 ⟨(Nat.le_of_ble_eq_true rfl), (Nat.le_of_ble_eq_true rfl)⟩ ⟨(Nat.le_of_ble_eq_true rfl), (Nat.le_of_ble_eq_true rfl)⟩ rfl rfl (Nat.le_of_ble_eq_true rfl) dX12_enters_45 ?_
    rintro f_3 ⟨n_3, z_3, F_3, G_3, hS_3, hx3, g57_3⟩
    try simp only [(show n_1 57 = (n 57) from (hx1.1 57 (by decide)))] at g57_3
    have hxx : fx [57] [29, 67] [58, 59, 60, 62, 64] [28, 61] n z F G n_3 z_3 F_3 G_3 := (fx_tr (fx_tr fx_rf hx1 (by decide)) hx3 (by decide))
    have hlo9 : FSt F_3 (n 5).toInt dd (Int32.toNatClampNeg x1) r1 P1 := FSt_cg (fun k hk => hxx.2.2.1 k ((by decide : ∀ k : Nat, k ∈ wK → k ∉ ([58, 59, 60, 62, 64] : List Nat)) k hk)) _ _ _ (fun i hi => by rw [(show F_3 58 = (F 58) from ((hx3.2.2.1 58 (by decide)).trans (hx1.2.2.1 58 (by decide))))]) (fun i hi => by rw [(show F_3 59 = (F 59) from ((hx3.2.2.1 59 (by decide)).trans (hx1.2.2.1 59 (by decide))))]) (fun i hi => by rw [(show F_3 60 = (F 60) from ((hx3.2.2.1 60 (by decide)).trans (hx1.2.2.1 60 (by decide))))]) (fun i hi => by rw [(show F_3 62 = (F 62) from ((hx3.2.2.1 62 (by decide)).trans (hx1.2.2.1 62 (by decide))))]) (fun i hi => by rw [(show F_3 66 = (F 66) from ((hx3.2.2.1 66 (by decide)).trans (hx1.2.2.1 66 (by decide))))]) hlo
    have e5 : n_3 5 = n 5 := hxx.1 5 (by decide)
    have e57 : (n_3 57).toInt = x1.toInt + 0 := (by (try rw [(show n_3 57 = ((n 57) - 1) from g57_3)]); have q1_ := (T_sub (rfl : ((n 57)).toInt = ((n 57)).toInt) (show (1 : Int32).toInt = 1 from rfl) (by omega)); omega)
    have e57n : (n_3 57).toInt.toNat = (Int32.toNatClampNeg x1) + 0 := by omega
    exact gz_vret rfl dX12_enters_48 (Nat.le_of_ble_eq_true rfl) (Nat.le_of_ble_eq_true rfl) (⟨rfl, _, _, _, _, hS_3, hxx, by omega, r1, P1, by rw [e57n, e5]; exact hlo9, (by omega)⟩)
  ·
    try simp only [mIn_0, lgc_lt, lgc_gt, lgc_le, lgc_ge, lgc_eq] at c_30
    try simp only [fl_lt, fl_le, fl_eq, fL_w, fL_lt, fL_le, tm1, tm10k, tm9, tm99, Int32.reduceToInt, Int64.reduceToInt, Int.not_lt, Int.not_le] at c_30
    refine gz_aload_n dX12_enters_33 rfl rfl ?_
    refine mg_20 hS_1 dX12_enters_34 ?_
    refine gz_iload dX12_enters_37 rfl ?_
    refine m_iald 7 hS_1 rfl (N := 880) rfl ((by exact vin_T (rfl : (((F 58) (Int32.toNatClampNeg x1))).toInt = (((F 58) (Int32.toNatClampNeg x1))).toInt) (by omega) (by omega))) dX12_enters_39 ?_
    refine gz_ev (w := .int ((F 7) (Int32.toNatClampNeg ((F 58) (Int32.toNatClampNeg x1))))) (congrArg Value.int (congrFun (hx1.2.2.1 7 (by decide)) _)) ?_
    refine gz_if_ne (tgt := 49) dX12_enters_40 (by decide) (fun c_40 => ?_) (fun c_40 => ?_)
    ·
      try simp only [mIn_0, lgc_lt, lgc_gt, lgc_le, lgc_ge, lgc_eq] at c_40
      try simp only [fl_lt, fl_le, fl_eq, fL_w, fL_lt, fL_le, tm1, tm10k, tm9, tm99, Int32.reduceToInt, Int64.reduceToInt, Int.not_lt, Int.not_le] at c_40
      refine gz_aload_n dX12_enters_49 rfl rfl ?_
      refine gz_iload dX12_enters_50 rfl ?_
      refine scX12_377 (k_X12_leadsTo (x1 := (F 58 (Int32.toNatClampNeg x1))) hS_1 (by rw [e5a]; exact a5) (rAll_w (fun k hk => hxa.2.2.1 k ((by decide : ∀ k : Nat, k ∈ wK → k ∉ ([] : List Nat)) k hk)) bA) (by rw [e5a]; exact rW_w (fun k hk => hxa.2.2.1 k ((by decide : ∀ k : Nat, k ∈ wK → k ∉ ([] : List Nat)) k hk)) bW) (by rw [e5a]; exact vW_cg (hxa.2.2.1 6 (by decide)) fw)) hS_1.1 ⟨(Nat.le_of_ble_eq_true rfl), (Nat.le_of_ble_eq_true rfl)⟩ ⟨(Nat.le_of_ble_eq_true rfl), (Nat.le_of_ble_eq_true rfl)⟩ rfl rfl (Nat.le_of_ble_eq_true rfl) dX12_enters_52 ?_
      rintro r_4 f9 ⟨hb_4, y9⟩; rw [y9]
      have hl_ : (r_4.toInt = -1 ∧ ((F 7 (Int32.toNatClampNeg (F 58 (Int32.toNatClampNeg x1)))).toInt = 0 ∨ (F 7 (Int32.toNatClampNeg (F 58 (Int32.toNatClampNeg x1)))).toInt = 1 ∨ (F 7 (Int32.toNatClampNeg (F 58 (Int32.toNatClampNeg x1)))).toInt = 3 ∨ (F 7 (Int32.toNatClampNeg (F 58 (Int32.toNatClampNeg x1)))).toInt = 4 ∨ (F 7 (Int32.toNatClampNeg (F 58 (Int32.toNatClampNeg x1)))).toInt = 6 ∨ (F 7 (Int32.toNatClampNeg (F 58 (Int32.toNatClampNeg x1)))).toInt = 7)) ∨ (0 ≤ r_4.toInt ∧ vW F (n 5).toInt r_4.toInt ∧ szF F r_4.toInt + 1 ≤ szF F (F 58 (Int32.toNatClampNeg x1)).toInt) := by
        rcases hb_4 with ⟨z1, z2⟩ | ⟨z1, z2, z3⟩
        · rw [hxa.2.2.1 7 (by decide)] at z2; exact Or.inl ⟨z1, z2⟩
        · rw [szF_w (fun k hk => hxa.2.2.1 k ((by decide : ∀ k : Nat, k ∈ wK → k ∉ ([] : List Nat)) k hk)), szF_w (fun k hk => hxa.2.2.1 k ((by decide : ∀ k : Nat, k ∈ wK → k ∉ ([] : List Nat)) k hk))] at z3; rw [e5a] at z2; exact Or.inr ⟨z1, vW_cg (hxa.2.2.1 6 (by decide)).symm z2, z3⟩
      refine gz_istore (lv' := [(5, .int r_4), (4, .int ((F 58) (Int32.toNatClampNeg x1))), (0, .ref m), (1, .int x1), (2, .int x2), (3, .int x3)]) dX12_enters_55 (by decide) rfl ?_
      refine gz_iload dX12_enters_57 rfl ?_
      refine gz_if_lt (tgt := 89) dX12_enters_59 (by decide) (fun c_59 => ?_) (fun c_59 => ?_)
      ·
        try simp only [mIn_0, lgc_lt, lgc_gt, lgc_le, lgc_ge, lgc_eq] at c_59
        try simp only [fl_lt, fl_le, fl_eq, fL_w, fL_lt, fL_le, tm1, tm10k, tm9, tm99, Int32.reduceToInt, Int64.reduceToInt, Int.not_lt, Int.not_le] at c_59
        refine gz_aload_n dX12_enters_89 rfl rfl ?_
        refine mg_20 hS_1 dX12_enters_90 ?_
        refine gz_iload dX12_enters_93 rfl ?_
        refine m_iald 7 hS_1 rfl (N := 880) rfl ((by exact vin_T (rfl : (((F 58) (Int32.toNatClampNeg x1))).toInt = (((F 58) (Int32.toNatClampNeg x1))).toInt) (by omega) (by omega))) dX12_enters_95 ?_
        refine gz_ev (w := .int ((F 7) (Int32.toNatClampNeg ((F 58) (Int32.toNatClampNeg x1))))) (congrArg Value.int (congrFun (hx1.2.2.1 7 (by decide)) _)) ?_
        refine gz_iconst (v := 1) dX12_enters_96 (by decide) ?_
        refine gz_icmp_ne (tgt := 144) dX12_enters_97 (by decide) (fun c_97 => ?_) (fun c_97 => ?_)
        ·
          try simp only [mIn_0, lgc_lt, lgc_gt, lgc_le, lgc_ge, lgc_eq] at c_97
          try simp only [fl_lt, fl_le, fl_eq, fL_w, fL_lt, fL_le, tm1, tm10k, tm9, tm99, Int32.reduceToInt, Int64.reduceToInt, Int.not_lt, Int.not_le] at c_97
          refine gz_aload_n dX12_enters_144 rfl rfl ?_
          refine mg_20 hS_1 dX12_enters_145 ?_
          refine gz_iload dX12_enters_148 rfl ?_
          refine m_iald 7 hS_1 rfl (N := 880) rfl ((by exact vin_T (rfl : (((F 58) (Int32.toNatClampNeg x1))).toInt = (((F 58) (Int32.toNatClampNeg x1))).toInt) (by omega) (by omega))) dX12_enters_150 ?_
          refine gz_ev (w := .int ((F 7) (Int32.toNatClampNeg ((F 58) (Int32.toNatClampNeg x1))))) (congrArg Value.int (congrFun (hx1.2.2.1 7 (by decide)) _)) ?_
          refine gz_iconst (v := 3) dX12_enters_151 (by decide) ?_
          refine gz_icmp_eq (tgt := 187) dX12_enters_152 (by decide) (fun c_152 => ?_) (fun c_152 => ?_)
          ·
            try simp only [mIn_0, lgc_lt, lgc_gt, lgc_le, lgc_ge, lgc_eq] at c_152
            try simp only [fl_lt, fl_le, fl_eq, fL_w, fL_lt, fL_le, tm1, tm10k, tm9, tm99, Int32.reduceToInt, Int64.reduceToInt, Int.not_lt, Int.not_le] at c_152
            refine gz_aload_n dX12_enters_187 rfl rfl ?_
            refine mg_176 hS_1 dX12_enters_188 ?_
            refine gz_iload_n dX12_enters_191 rfl rfl ?_
            refine gz_iconst (v := 1) dX12_enters_192 (by decide) ?_
            refine m_iast 62 hS_1 rfl (N := 80) rfl ((by exact vin_T (rfl : x1.toInt = x1.toInt) (by omega) (by omega))) dX12_enters_193 (fun f_5 hS_5q => ?_)
            have hS_5 : mS cy m a f0 n_1 z_1 (va_up F_1 62 (upd (F 62) (Int32.toNatClampNeg x1) 1)) G_1 f_5 := (by have e9 := (show F_1 62 = (F 62) from (hx1.2.2.1 62 (by decide))); rw [e9] at hS_5q; exact hS_5q)
            refine gz_aload_n dX12_enters_194 rfl rfl ?_
            refine gz_aload_n dX12_enters_195 rfl rfl ?_
            refine mg_32 hS_5 dX12_enters_196 ?_
            refine gz_iload dX12_enters_199 rfl ?_
            refine m_iald 11 hS_5 rfl (N := 880) rfl ((by exact vin_T (rfl : (((F 58) (Int32.toNatClampNeg x1))).toInt = (((F 58) (Int32.toNatClampNeg x1))).toInt) (by omega) (by omega))) dX12_enters_201 ?_
            refine gz_ev (w := .int ((F 11) (Int32.toNatClampNeg ((F 58) (Int32.toNatClampNeg x1))))) (congrArg Value.int (congrFun (hx1.2.2.1 11 (by decide)) _)) ?_
            refine gz_aload_n dX12_enters_202 rfl rfl ?_
            refine mg_167 hS_5 dX12_enters_203 ?_
            refine gz_iload_n dX12_enters_206 rfl rfl ?_
            refine m_iald 59 hS_5 rfl (N := 80) rfl ((by exact vin_T (rfl : x1.toInt = x1.toInt) (by omega) (by omega))) dX12_enters_207 ?_
            refine gz_ev (w := .int ((F 59) (Int32.toNatClampNeg x1))) (congrArg Value.int (congrFun (hx1.2.2.1 59 (by decide)) _)) ?_
            refine gz_aload_n dX12_enters_208 rfl rfl ?_
            refine mg_170 hS_5 dX12_enters_209 ?_
            refine gz_iload_n dX12_enters_212 rfl rfl ?_
            refine m_iald 60 hS_5 rfl (N := 80) rfl ((by exact vin_T (rfl : x1.toInt = x1.toInt) (by omega) (by omega))) dX12_enters_213 ?_
            refine gz_ev (w := .int ((F 60) (Int32.toNatClampNeg x1))) (congrArg Value.int (congrFun (hx1.2.2.1 60 (by decide)) _)) ?_
            refine gz_aload_n dX12_enters_214 rfl rfl ?_
            refine mg_173 hS_5 dX12_enters_215 ?_
            refine gz_iload_n dX12_enters_218 rfl rfl ?_
            refine m_lald 61 hS_5 rfl (N := 80) rfl ((by exact vin_T (rfl : x1.toInt = x1.toInt) (by omega) (by omega))) dX12_enters_219 ?_
            refine gz_ev (w := .long ((G 61) (Int32.toNatClampNeg x1))) (congrArg Value.long (congrFun (hx1.2.2.2 61 (by decide)) _)) ?_
            have q1 : vW F (n 5).toInt (F 11 (Int32.toNatClampNeg (F 58 (Int32.toNatClampNeg x1)))).toInt ∧ szF F (F 11 (Int32.toNatClampNeg (F 58 (Int32.toNatClampNeg x1)))).toInt + 1 ≤ szF F (F 58 (Int32.toNatClampNeg x1)).toInt := one_ok bW fw (show 2 ≤ (F 7 (Int32.toNatClampNeg (F 58 (Int32.toNatClampNeg x1)))).toInt by omega)
            have q1z := szF_pos bW q1.1
            obtain ⟨rb, hrb⟩ : ∃ rb : Nat, (rb : Int) = szF F (F 11 (Int32.toNatClampNeg (F 58 (Int32.toNatClampNeg x1)))).toInt + 4 - (F 59 (Int32.toNatClampNeg x1)).toInt := ⟨(szF F (F 11 (Int32.toNatClampNeg (F 58 (Int32.toNatClampNeg x1)))).toInt + 4 - (F 59 (Int32.toNatClampNeg x1)).toInt : Int).toNat, by omega⟩
            have hcb := cR_mono (a := rb) (r - 1) (by omega)
            refine scX12_466 (k_X12_pushes (x1 := ((F 11) (Int32.toNatClampNeg ((F 58) (Int32.toNatClampNeg x1))))) (x2 := ((F 59) (Int32.toNatClampNeg x1))) (x3 := ((F 60) (Int32.toNatClampNeg x1))) hS_5 (by (try rw [(show n_1 57 = (n 57) from (hx1.1 57 (by decide)))]); omega)) hS_5.1 ⟨(Nat.le_of_ble_eq_true rfl), (Nat.le_of_ble_eq_true rfl)⟩ ⟨(Nat.le_of_ble_eq_true rfl), (Nat.le_of_ble_eq_true rfl)⟩ rfl rfl (Nat.le_of_ble_eq_true rfl) dX12_enters_220 ?_
            rintro f_6 ⟨n_6, z_6, F_6, G_6, hS_6, hx6, g57_6, g58_6, g59_6, g60_6, g62_6⟩
            try simp only [(show n_1 57 = (n 57) from (hx1.1 57 (by decide)))] at g57_6 g58_6 g59_6 g60_6 g62_6
            try rw [(show (va_up F_1 62 (upd (F 62) (Int32.toNatClampNeg x1) 1)) 58 = (F 58) from (hx1.2.2.1 58 (by decide)))] at g58_6
            try rw [(show (va_up F_1 62 (upd (F 62) (Int32.toNatClampNeg x1) 1)) 59 = (F 59) from (hx1.2.2.1 59 (by decide)))] at g59_6
            try rw [(show (va_up F_1 62 (upd (F 62) (Int32.toNatClampNeg x1) 1)) 60 = (F 60) from (hx1.2.2.1 60 (by decide)))] at g60_6
            refine gz_goto (tgt := 233) dX12_enters_223 (by decide) ?_
            have hxx : fx [57] [29, 67] [58, 59, 60, 62, 64] [28, 61] n z F G n_6 z_6 F_6 G_6 := (fx_tr (fx_F (fx_tr fx_rf hx1 (by decide)) (by decide)) hx6 (by decide))
            have hlo9 : FSt F_6 (n 5).toInt dd (Int32.toNatClampNeg x1) r1 P1 := FSt_cg (fun k hk => hxx.2.2.1 k ((by decide : ∀ k : Nat, k ∈ wK → k ∉ ([58, 59, 60, 62, 64] : List Nat)) k hk)) _ _ _ (fun i hi => by rw [(show F_6 58 = (upd (F 58) (Int32.toNatClampNeg (n 57)) ((F 11) (Int32.toNatClampNeg ((F 58) (Int32.toNatClampNeg x1))))) from g58_6)]; rw [updE, if_neg (by omega)]) (fun i hi => by rw [(show F_6 59 = (upd (F 59) (Int32.toNatClampNeg (n 57)) ((F 59) (Int32.toNatClampNeg x1))) from g59_6)]; rw [updE, if_neg (by omega)]) (fun i hi => by rw [(show F_6 60 = (upd (F 60) (Int32.toNatClampNeg (n 57)) ((F 60) (Int32.toNatClampNeg x1))) from g60_6)]; rw [updE, if_neg (by omega)]) (fun i hi => by rw [(show F_6 62 = (upd (upd (F 62) (Int32.toNatClampNeg x1) 1) (Int32.toNatClampNeg (n 57)) 0) from g62_6)]; rw [updE, if_neg (by omega)]; rw [updE, if_neg (by omega)]) (fun i hi => by rw [(show F_6 66 = (F 66) from ((hx6.2.2.1 66 (by decide)).trans (hx1.2.2.1 66 (by decide))))]) hlo
            have e5 : n_6 5 = n 5 := hxx.1 5 (by decide)
            have e57 : (n_6 57).toInt = x1.toInt + 2 := (by (try rw [(show n_6 57 = ((n 57) + 1) from g57_6)]); have q1_ := (T_add (rfl : ((n 57)).toInt = ((n 57)).toInt) (show (1 : Int32).toInt = 1 from rfl) (by omega)); omega)
            have e57n : (n_6 57).toInt.toNat = (Int32.toNatClampNeg x1) + 2 := by omega
            have vhta58 : F_6 58 (Int32.toNatClampNeg x1) = (F 58 (Int32.toNatClampNeg x1)) := (by rw [(show F_6 58 = (upd (F 58) (Int32.toNatClampNeg (n 57)) ((F 11) (Int32.toNatClampNeg ((F 58) (Int32.toNatClampNeg x1))))) from g58_6)]; rw [updE, if_neg (by omega)])
            have vhta59 : F_6 59 (Int32.toNatClampNeg x1) = (F 59 (Int32.toNatClampNeg x1)) := (by rw [(show F_6 59 = (upd (F 59) (Int32.toNatClampNeg (n 57)) ((F 59) (Int32.toNatClampNeg x1))) from g59_6)]; rw [updE, if_neg (by omega)])
            have vhta60 : F_6 60 (Int32.toNatClampNeg x1) = (F 60 (Int32.toNatClampNeg x1)) := (by rw [(show F_6 60 = (upd (F 60) (Int32.toNatClampNeg (n 57)) ((F 60) (Int32.toNatClampNeg x1))) from g60_6)]; rw [updE, if_neg (by omega)])
            have vhta62 : F_6 62 (Int32.toNatClampNeg x1) = 1 := (by rw [(show F_6 62 = (upd (upd (F 62) (Int32.toNatClampNeg x1) 1) (Int32.toNatClampNeg (n 57)) 0) from g62_6)]; rw [updE, if_neg (by omega)]; rw [updE, if_pos rfl])
            have vhta66 : F_6 66 (Int32.toNatClampNeg x1) = (F 66 (Int32.toNatClampNeg x1)) := (by rw [(show F_6 66 = (F 66) from ((hx6.2.2.1 66 (by decide)).trans (hx1.2.2.1 66 (by decide))))])
            have hta : frV F (n 5).toInt dd (F_6 58 (Int32.toNatClampNeg x1)) (F_6 59 (Int32.toNatClampNeg x1)) (F_6 60 (Int32.toNatClampNeg x1)) (F_6 62 (Int32.toNatClampNeg x1)) (F_6 66 (Int32.toNatClampNeg x1)) r (3 * cR (r - 1) + 5) := by rw [vhta58, vhta59, vhta60, vhta62, vhta66]; exact ⟨fw, fd, fo, fr_, Or.inr (Or.inl ⟨rfl, (by show (F 7 (Int32.toNatClampNeg (F 58 (Int32.toNatClampNeg x1)))).toInt = 3 ∨ (F 7 (Int32.toNatClampNeg (F 58 (Int32.toNatClampNeg x1)))).toInt = 4 ∨ (F 7 (Int32.toNatClampNeg (F 58 (Int32.toNatClampNeg x1)))).toInt = 7; omega), rfl⟩)⟩
            have hs1 : FSt F_6 (n 5).toInt dd ((Int32.toNatClampNeg x1) + 1) r (P1 + (3 * cR (r - 1) + 5)) := ⟨r1, P1, (3 * cR (r - 1) + 5), hlo9, by omega, frV_w (fun k hk => hxx.2.2.1 k ((by decide : ∀ k : Nat, k ∈ wK → k ∉ ([58, 59, 60, 62, 64] : List Nat)) k hk)) hta, rfl⟩
            have qn1 : (Int32.toNatClampNeg (n 57)) = (Int32.toNatClampNeg x1) + 1 := by omega
            have vhtb58 : F_6 58 (Int32.toNatClampNeg (n 57)) = ((F 11) (Int32.toNatClampNeg ((F 58) (Int32.toNatClampNeg x1)))) := (by rw [(show F_6 58 = (upd (F 58) (Int32.toNatClampNeg (n 57)) ((F 11) (Int32.toNatClampNeg ((F 58) (Int32.toNatClampNeg x1))))) from g58_6)]; rw [updE, if_pos rfl])
            have vhtb59 : F_6 59 (Int32.toNatClampNeg (n 57)) = ((F 59) (Int32.toNatClampNeg x1)) := (by rw [(show F_6 59 = (upd (F 59) (Int32.toNatClampNeg (n 57)) ((F 59) (Int32.toNatClampNeg x1))) from g59_6)]; rw [updE, if_pos rfl])
            have vhtb60 : F_6 60 (Int32.toNatClampNeg (n 57)) = ((F 60) (Int32.toNatClampNeg x1)) := (by rw [(show F_6 60 = (upd (F 60) (Int32.toNatClampNeg (n 57)) ((F 60) (Int32.toNatClampNeg x1))) from g60_6)]; rw [updE, if_pos rfl])
            have vhtb62 : F_6 62 (Int32.toNatClampNeg (n 57)) = 0 := (by rw [(show F_6 62 = (upd (upd (F 62) (Int32.toNatClampNeg x1) 1) (Int32.toNatClampNeg (n 57)) 0) from g62_6)]; rw [updE, if_pos rfl])
            have vhtb66 : F_6 66 (Int32.toNatClampNeg (n 57)) = (F 66 (Int32.toNatClampNeg (n 57))) := (by rw [(show F_6 66 = (F 66) from ((hx6.2.2.1 66 (by decide)).trans (hx1.2.2.1 66 (by decide))))])
            have htb : frV F (n 5).toInt dd (F_6 58 (Int32.toNatClampNeg (n 57))) (F_6 59 (Int32.toNatClampNeg (n 57))) (F_6 60 (Int32.toNatClampNeg (n 57))) (F_6 62 (Int32.toNatClampNeg (n 57))) (F_6 66 (Int32.toNatClampNeg (n 57))) rb (cR rb) := by rw [vhtb58, vhtb59, vhtb60, vhtb62, vhtb66]; exact ⟨q1.1, fd, fo, hrb, Or.inl ⟨rfl, rfl⟩⟩
            rw [qn1] at htb
            have hs2 : FSt F_6 (n 5).toInt dd ((Int32.toNatClampNeg x1) + 1 + 1) rb (P1 + (3 * cR (r - 1) + 5) + (cR rb)) := ⟨_, _, (cR rb), hs1, by omega, frV_w (fun k hk => hxx.2.2.1 k ((by decide : ∀ k : Nat, k ∈ wK → k ∉ ([58, 59, 60, 62, 64] : List Nat)) k hk)) htb, rfl⟩
            exact gz_vret rfl dX12_enters_233 (Nat.le_of_ble_eq_true rfl) (Nat.le_of_ble_eq_true rfl) (⟨rfl, _, _, _, _, hS_6, hxx, by omega, rb, _, by rw [e57n, e5]; exact hs2, (by omega)⟩)
          ·
            try simp only [mIn_0, lgc_lt, lgc_gt, lgc_le, lgc_ge, lgc_eq] at c_152
            try simp only [fl_lt, fl_le, fl_eq, fL_w, fL_lt, fL_le, tm1, tm10k, tm9, tm99, Int32.reduceToInt, Int64.reduceToInt, Int.not_lt, Int.not_le] at c_152
            refine gz_aload_n dX12_enters_155 rfl rfl ?_
            refine mg_20 hS_1 dX12_enters_156 ?_
            refine gz_iload dX12_enters_159 rfl ?_
            refine m_iald 7 hS_1 rfl (N := 880) rfl ((by exact vin_T (rfl : (((F 58) (Int32.toNatClampNeg x1))).toInt = (((F 58) (Int32.toNatClampNeg x1))).toInt) (by omega) (by omega))) dX12_enters_161 ?_
            refine gz_ev (w := .int ((F 7) (Int32.toNatClampNeg ((F 58) (Int32.toNatClampNeg x1))))) (congrArg Value.int (congrFun (hx1.2.2.1 7 (by decide)) _)) ?_
            refine gz_iconst (v := 4) dX12_enters_162 (by decide) ?_
            refine gz_icmp_eq (tgt := 187) dX12_enters_163 (by decide) (fun c_163 => ?_) (fun c_163 => ?_)
            ·
              try simp only [mIn_0, lgc_lt, lgc_gt, lgc_le, lgc_ge, lgc_eq] at c_163
              try simp only [fl_lt, fl_le, fl_eq, fL_w, fL_lt, fL_le, tm1, tm10k, tm9, tm99, Int32.reduceToInt, Int64.reduceToInt, Int.not_lt, Int.not_le] at c_163
              refine gz_aload_n dX12_enters_187 rfl rfl ?_
              refine mg_176 hS_1 dX12_enters_188 ?_
              refine gz_iload_n dX12_enters_191 rfl rfl ?_
              refine gz_iconst (v := 1) dX12_enters_192 (by decide) ?_
              refine m_iast 62 hS_1 rfl (N := 80) rfl ((by exact vin_T (rfl : x1.toInt = x1.toInt) (by omega) (by omega))) dX12_enters_193 (fun f_7 hS_7q => ?_)
              have hS_7 : mS cy m a f0 n_1 z_1 (va_up F_1 62 (upd (F 62) (Int32.toNatClampNeg x1) 1)) G_1 f_7 := (by have e9 := (show F_1 62 = (F 62) from (hx1.2.2.1 62 (by decide))); rw [e9] at hS_7q; exact hS_7q)
              refine gz_aload_n dX12_enters_194 rfl rfl ?_
              refine gz_aload_n dX12_enters_195 rfl rfl ?_
              refine mg_32 hS_7 dX12_enters_196 ?_
              refine gz_iload dX12_enters_199 rfl ?_
              refine m_iald 11 hS_7 rfl (N := 880) rfl ((by exact vin_T (rfl : (((F 58) (Int32.toNatClampNeg x1))).toInt = (((F 58) (Int32.toNatClampNeg x1))).toInt) (by omega) (by omega))) dX12_enters_201 ?_
              refine gz_ev (w := .int ((F 11) (Int32.toNatClampNeg ((F 58) (Int32.toNatClampNeg x1))))) (congrArg Value.int (congrFun (hx1.2.2.1 11 (by decide)) _)) ?_
              refine gz_aload_n dX12_enters_202 rfl rfl ?_
              refine mg_167 hS_7 dX12_enters_203 ?_
              refine gz_iload_n dX12_enters_206 rfl rfl ?_
              refine m_iald 59 hS_7 rfl (N := 80) rfl ((by exact vin_T (rfl : x1.toInt = x1.toInt) (by omega) (by omega))) dX12_enters_207 ?_
              refine gz_ev (w := .int ((F 59) (Int32.toNatClampNeg x1))) (congrArg Value.int (congrFun (hx1.2.2.1 59 (by decide)) _)) ?_
              refine gz_aload_n dX12_enters_208 rfl rfl ?_
              refine mg_170 hS_7 dX12_enters_209 ?_
              refine gz_iload_n dX12_enters_212 rfl rfl ?_
              refine m_iald 60 hS_7 rfl (N := 80) rfl ((by exact vin_T (rfl : x1.toInt = x1.toInt) (by omega) (by omega))) dX12_enters_213 ?_
              refine gz_ev (w := .int ((F 60) (Int32.toNatClampNeg x1))) (congrArg Value.int (congrFun (hx1.2.2.1 60 (by decide)) _)) ?_
              refine gz_aload_n dX12_enters_214 rfl rfl ?_
              refine mg_173 hS_7 dX12_enters_215 ?_
              refine gz_iload_n dX12_enters_218 rfl rfl ?_
              refine m_lald 61 hS_7 rfl (N := 80) rfl ((by exact vin_T (rfl : x1.toInt = x1.toInt) (by omega) (by omega))) dX12_enters_219 ?_
              refine gz_ev (w := .long ((G 61) (Int32.toNatClampNeg x1))) (congrArg Value.long (congrFun (hx1.2.2.2 61 (by decide)) _)) ?_
              have q1 : vW F (n 5).toInt (F 11 (Int32.toNatClampNeg (F 58 (Int32.toNatClampNeg x1)))).toInt ∧ szF F (F 11 (Int32.toNatClampNeg (F 58 (Int32.toNatClampNeg x1)))).toInt + 1 ≤ szF F (F 58 (Int32.toNatClampNeg x1)).toInt := one_ok bW fw (show 2 ≤ (F 7 (Int32.toNatClampNeg (F 58 (Int32.toNatClampNeg x1)))).toInt by omega)
              have q1z := szF_pos bW q1.1
              obtain ⟨rb, hrb⟩ : ∃ rb : Nat, (rb : Int) = szF F (F 11 (Int32.toNatClampNeg (F 58 (Int32.toNatClampNeg x1)))).toInt + 4 - (F 59 (Int32.toNatClampNeg x1)).toInt := ⟨(szF F (F 11 (Int32.toNatClampNeg (F 58 (Int32.toNatClampNeg x1)))).toInt + 4 - (F 59 (Int32.toNatClampNeg x1)).toInt : Int).toNat, by omega⟩
              have hcb := cR_mono (a := rb) (r - 1) (by omega)
              refine scX12_466 (k_X12_pushes (x1 := ((F 11) (Int32.toNatClampNeg ((F 58) (Int32.toNatClampNeg x1))))) (x2 := ((F 59) (Int32.toNatClampNeg x1))) (x3 := ((F 60) (Int32.toNatClampNeg x1))) hS_7 (by (try rw [(show n_1 57 = (n 57) from (hx1.1 57 (by decide)))]); omega)) hS_7.1 ⟨(Nat.le_of_ble_eq_true rfl), (Nat.le_of_ble_eq_true rfl)⟩ ⟨(Nat.le_of_ble_eq_true rfl), (Nat.le_of_ble_eq_true rfl)⟩ rfl rfl (Nat.le_of_ble_eq_true rfl) dX12_enters_220 ?_
              rintro f_8 ⟨n_8, z_8, F_8, G_8, hS_8, hx8, g57_8, g58_8, g59_8, g60_8, g62_8⟩
              try simp only [(show n_1 57 = (n 57) from (hx1.1 57 (by decide)))] at g57_8 g58_8 g59_8 g60_8 g62_8
              try rw [(show (va_up F_1 62 (upd (F 62) (Int32.toNatClampNeg x1) 1)) 58 = (F 58) from (hx1.2.2.1 58 (by decide)))] at g58_8
              try rw [(show (va_up F_1 62 (upd (F 62) (Int32.toNatClampNeg x1) 1)) 59 = (F 59) from (hx1.2.2.1 59 (by decide)))] at g59_8
              try rw [(show (va_up F_1 62 (upd (F 62) (Int32.toNatClampNeg x1) 1)) 60 = (F 60) from (hx1.2.2.1 60 (by decide)))] at g60_8
              refine gz_goto (tgt := 233) dX12_enters_223 (by decide) ?_
              have hxx : fx [57] [29, 67] [58, 59, 60, 62, 64] [28, 61] n z F G n_8 z_8 F_8 G_8 := (fx_tr (fx_F (fx_tr fx_rf hx1 (by decide)) (by decide)) hx8 (by decide))
              have hlo9 : FSt F_8 (n 5).toInt dd (Int32.toNatClampNeg x1) r1 P1 := FSt_cg (fun k hk => hxx.2.2.1 k ((by decide : ∀ k : Nat, k ∈ wK → k ∉ ([58, 59, 60, 62, 64] : List Nat)) k hk)) _ _ _ (fun i hi => by rw [(show F_8 58 = (upd (F 58) (Int32.toNatClampNeg (n 57)) ((F 11) (Int32.toNatClampNeg ((F 58) (Int32.toNatClampNeg x1))))) from g58_8)]; rw [updE, if_neg (by omega)]) (fun i hi => by rw [(show F_8 59 = (upd (F 59) (Int32.toNatClampNeg (n 57)) ((F 59) (Int32.toNatClampNeg x1))) from g59_8)]; rw [updE, if_neg (by omega)]) (fun i hi => by rw [(show F_8 60 = (upd (F 60) (Int32.toNatClampNeg (n 57)) ((F 60) (Int32.toNatClampNeg x1))) from g60_8)]; rw [updE, if_neg (by omega)]) (fun i hi => by rw [(show F_8 62 = (upd (upd (F 62) (Int32.toNatClampNeg x1) 1) (Int32.toNatClampNeg (n 57)) 0) from g62_8)]; rw [updE, if_neg (by omega)]; rw [updE, if_neg (by omega)]) (fun i hi => by rw [(show F_8 66 = (F 66) from ((hx8.2.2.1 66 (by decide)).trans (hx1.2.2.1 66 (by decide))))]) hlo
              have e5 : n_8 5 = n 5 := hxx.1 5 (by decide)
              have e57 : (n_8 57).toInt = x1.toInt + 2 := (by (try rw [(show n_8 57 = ((n 57) + 1) from g57_8)]); have q1_ := (T_add (rfl : ((n 57)).toInt = ((n 57)).toInt) (show (1 : Int32).toInt = 1 from rfl) (by omega)); omega)
              have e57n : (n_8 57).toInt.toNat = (Int32.toNatClampNeg x1) + 2 := by omega
              have vhta58 : F_8 58 (Int32.toNatClampNeg x1) = (F 58 (Int32.toNatClampNeg x1)) := (by rw [(show F_8 58 = (upd (F 58) (Int32.toNatClampNeg (n 57)) ((F 11) (Int32.toNatClampNeg ((F 58) (Int32.toNatClampNeg x1))))) from g58_8)]; rw [updE, if_neg (by omega)])
              have vhta59 : F_8 59 (Int32.toNatClampNeg x1) = (F 59 (Int32.toNatClampNeg x1)) := (by rw [(show F_8 59 = (upd (F 59) (Int32.toNatClampNeg (n 57)) ((F 59) (Int32.toNatClampNeg x1))) from g59_8)]; rw [updE, if_neg (by omega)])
              have vhta60 : F_8 60 (Int32.toNatClampNeg x1) = (F 60 (Int32.toNatClampNeg x1)) := (by rw [(show F_8 60 = (upd (F 60) (Int32.toNatClampNeg (n 57)) ((F 60) (Int32.toNatClampNeg x1))) from g60_8)]; rw [updE, if_neg (by omega)])
              have vhta62 : F_8 62 (Int32.toNatClampNeg x1) = 1 := (by rw [(show F_8 62 = (upd (upd (F 62) (Int32.toNatClampNeg x1) 1) (Int32.toNatClampNeg (n 57)) 0) from g62_8)]; rw [updE, if_neg (by omega)]; rw [updE, if_pos rfl])
              have vhta66 : F_8 66 (Int32.toNatClampNeg x1) = (F 66 (Int32.toNatClampNeg x1)) := (by rw [(show F_8 66 = (F 66) from ((hx8.2.2.1 66 (by decide)).trans (hx1.2.2.1 66 (by decide))))])
              have hta : frV F (n 5).toInt dd (F_8 58 (Int32.toNatClampNeg x1)) (F_8 59 (Int32.toNatClampNeg x1)) (F_8 60 (Int32.toNatClampNeg x1)) (F_8 62 (Int32.toNatClampNeg x1)) (F_8 66 (Int32.toNatClampNeg x1)) r (3 * cR (r - 1) + 5) := by rw [vhta58, vhta59, vhta60, vhta62, vhta66]; exact ⟨fw, fd, fo, fr_, Or.inr (Or.inl ⟨rfl, (by show (F 7 (Int32.toNatClampNeg (F 58 (Int32.toNatClampNeg x1)))).toInt = 3 ∨ (F 7 (Int32.toNatClampNeg (F 58 (Int32.toNatClampNeg x1)))).toInt = 4 ∨ (F 7 (Int32.toNatClampNeg (F 58 (Int32.toNatClampNeg x1)))).toInt = 7; omega), rfl⟩)⟩
              have hs1 : FSt F_8 (n 5).toInt dd ((Int32.toNatClampNeg x1) + 1) r (P1 + (3 * cR (r - 1) + 5)) := ⟨r1, P1, (3 * cR (r - 1) + 5), hlo9, by omega, frV_w (fun k hk => hxx.2.2.1 k ((by decide : ∀ k : Nat, k ∈ wK → k ∉ ([58, 59, 60, 62, 64] : List Nat)) k hk)) hta, rfl⟩
              have qn1 : (Int32.toNatClampNeg (n 57)) = (Int32.toNatClampNeg x1) + 1 := by omega
              have vhtb58 : F_8 58 (Int32.toNatClampNeg (n 57)) = ((F 11) (Int32.toNatClampNeg ((F 58) (Int32.toNatClampNeg x1)))) := (by rw [(show F_8 58 = (upd (F 58) (Int32.toNatClampNeg (n 57)) ((F 11) (Int32.toNatClampNeg ((F 58) (Int32.toNatClampNeg x1))))) from g58_8)]; rw [updE, if_pos rfl])
              have vhtb59 : F_8 59 (Int32.toNatClampNeg (n 57)) = ((F 59) (Int32.toNatClampNeg x1)) := (by rw [(show F_8 59 = (upd (F 59) (Int32.toNatClampNeg (n 57)) ((F 59) (Int32.toNatClampNeg x1))) from g59_8)]; rw [updE, if_pos rfl])
              have vhtb60 : F_8 60 (Int32.toNatClampNeg (n 57)) = ((F 60) (Int32.toNatClampNeg x1)) := (by rw [(show F_8 60 = (upd (F 60) (Int32.toNatClampNeg (n 57)) ((F 60) (Int32.toNatClampNeg x1))) from g60_8)]; rw [updE, if_pos rfl])
              have vhtb62 : F_8 62 (Int32.toNatClampNeg (n 57)) = 0 := (by rw [(show F_8 62 = (upd (upd (F 62) (Int32.toNatClampNeg x1) 1) (Int32.toNatClampNeg (n 57)) 0) from g62_8)]; rw [updE, if_pos rfl])
              have vhtb66 : F_8 66 (Int32.toNatClampNeg (n 57)) = (F 66 (Int32.toNatClampNeg (n 57))) := (by rw [(show F_8 66 = (F 66) from ((hx8.2.2.1 66 (by decide)).trans (hx1.2.2.1 66 (by decide))))])
              have htb : frV F (n 5).toInt dd (F_8 58 (Int32.toNatClampNeg (n 57))) (F_8 59 (Int32.toNatClampNeg (n 57))) (F_8 60 (Int32.toNatClampNeg (n 57))) (F_8 62 (Int32.toNatClampNeg (n 57))) (F_8 66 (Int32.toNatClampNeg (n 57))) rb (cR rb) := by rw [vhtb58, vhtb59, vhtb60, vhtb62, vhtb66]; exact ⟨q1.1, fd, fo, hrb, Or.inl ⟨rfl, rfl⟩⟩
              rw [qn1] at htb
              have hs2 : FSt F_8 (n 5).toInt dd ((Int32.toNatClampNeg x1) + 1 + 1) rb (P1 + (3 * cR (r - 1) + 5) + (cR rb)) := ⟨_, _, (cR rb), hs1, by omega, frV_w (fun k hk => hxx.2.2.1 k ((by decide : ∀ k : Nat, k ∈ wK → k ∉ ([58, 59, 60, 62, 64] : List Nat)) k hk)) htb, rfl⟩
              exact gz_vret rfl dX12_enters_233 (Nat.le_of_ble_eq_true rfl) (Nat.le_of_ble_eq_true rfl) (⟨rfl, _, _, _, _, hS_8, hxx, by omega, rb, _, by rw [e57n, e5]; exact hs2, (by omega)⟩)
            ·
              try simp only [mIn_0, lgc_lt, lgc_gt, lgc_le, lgc_ge, lgc_eq] at c_163
              try simp only [fl_lt, fl_le, fl_eq, fL_w, fL_lt, fL_le, tm1, tm10k, tm9, tm99, Int32.reduceToInt, Int64.reduceToInt, Int.not_lt, Int.not_le] at c_163
              refine gz_aload_n dX12_enters_166 rfl rfl ?_
              refine mg_20 hS_1 dX12_enters_167 ?_
              refine gz_iload dX12_enters_170 rfl ?_
              refine m_iald 7 hS_1 rfl (N := 880) rfl ((by exact vin_T (rfl : (((F 58) (Int32.toNatClampNeg x1))).toInt = (((F 58) (Int32.toNatClampNeg x1))).toInt) (by omega) (by omega))) dX12_enters_172 ?_
              refine gz_ev (w := .int ((F 7) (Int32.toNatClampNeg ((F 58) (Int32.toNatClampNeg x1))))) (congrArg Value.int (congrFun (hx1.2.2.1 7 (by decide)) _)) ?_
              refine gz_bipush (v := 7) dX12_enters_173 (by decide) ?_
              refine gz_icmp_ne (tgt := 226) dX12_enters_175 (by decide) (fun c_175 => ?_) (fun c_175 => ?_)
              ·
                try simp only [mIn_0, lgc_lt, lgc_gt, lgc_le, lgc_ge, lgc_eq] at c_175
                try simp only [fl_lt, fl_le, fl_eq, fL_w, fL_lt, fL_le, tm1, tm10k, tm9, tm99, Int32.reduceToInt, Int64.reduceToInt, Int.not_lt, Int.not_le] at c_175
                refine gz_aload_n dX12_enters_226 rfl rfl ?_
                refine mg_176 hS_1 dX12_enters_227 ?_
                refine gz_iload_n dX12_enters_230 rfl rfl ?_
                refine gz_iconst (v := 3) dX12_enters_231 (by decide) ?_
                refine m_iast 62 hS_1 rfl (N := 80) rfl ((by exact vin_T (rfl : x1.toInt = x1.toInt) (by omega) (by omega))) dX12_enters_232 (fun f_9 hS_9q => ?_)
                have hS_9 : mS cy m a f0 n_1 z_1 (va_up F_1 62 (upd (F 62) (Int32.toNatClampNeg x1) 3)) G_1 f_9 := (by have e9 := (show F_1 62 = (F 62) from (hx1.2.2.1 62 (by decide))); rw [e9] at hS_9q; exact hS_9q)
                have hxx : fx [57] [29, 67] [58, 59, 60, 62, 64] [28, 61] n z F G n_1 z_1 (va_up F_1 62 (upd (F 62) (Int32.toNatClampNeg x1) 3)) G_1 := (fx_F (fx_tr fx_rf hx1 (by decide)) (by decide))
                have hlo9 : FSt (va_up F_1 62 (upd (F 62) (Int32.toNatClampNeg x1) 3)) (n 5).toInt dd (Int32.toNatClampNeg x1) r1 P1 := FSt_cg (fun k hk => hxx.2.2.1 k ((by decide : ∀ k : Nat, k ∈ wK → k ∉ ([58, 59, 60, 62, 64] : List Nat)) k hk)) _ _ _ (fun i hi => by rw [(show (va_up F_1 62 (upd (F 62) (Int32.toNatClampNeg x1) 3)) 58 = (F 58) from (hx1.2.2.1 58 (by decide)))]) (fun i hi => by rw [(show (va_up F_1 62 (upd (F 62) (Int32.toNatClampNeg x1) 3)) 59 = (F 59) from (hx1.2.2.1 59 (by decide)))]) (fun i hi => by rw [(show (va_up F_1 62 (upd (F 62) (Int32.toNatClampNeg x1) 3)) 60 = (F 60) from (hx1.2.2.1 60 (by decide)))]) (fun i hi => by rw [(show (va_up F_1 62 (upd (F 62) (Int32.toNatClampNeg x1) 3)) 62 = (upd (F 62) (Int32.toNatClampNeg x1) 3) from rfl)]; rw [updE, if_neg (by omega)]) (fun i hi => by rw [(show (va_up F_1 62 (upd (F 62) (Int32.toNatClampNeg x1) 3)) 66 = (F 66) from (hx1.2.2.1 66 (by decide)))]) hlo
                have e5 : n_1 5 = n 5 := hxx.1 5 (by decide)
                have e57 : (n_1 57).toInt = x1.toInt + 1 := (by (try rw [(show n_1 57 = (n 57) from (hx1.1 57 (by decide)))]); omega)
                have e57n : (n_1 57).toInt.toNat = (Int32.toNatClampNeg x1) + 1 := by omega
                have vhta58 : (va_up F_1 62 (upd (F 62) (Int32.toNatClampNeg x1) 3)) 58 (Int32.toNatClampNeg x1) = (F 58 (Int32.toNatClampNeg x1)) := (by rw [(show (va_up F_1 62 (upd (F 62) (Int32.toNatClampNeg x1) 3)) 58 = (F 58) from (hx1.2.2.1 58 (by decide)))])
                have vhta59 : (va_up F_1 62 (upd (F 62) (Int32.toNatClampNeg x1) 3)) 59 (Int32.toNatClampNeg x1) = (F 59 (Int32.toNatClampNeg x1)) := (by rw [(show (va_up F_1 62 (upd (F 62) (Int32.toNatClampNeg x1) 3)) 59 = (F 59) from (hx1.2.2.1 59 (by decide)))])
                have vhta60 : (va_up F_1 62 (upd (F 62) (Int32.toNatClampNeg x1) 3)) 60 (Int32.toNatClampNeg x1) = (F 60 (Int32.toNatClampNeg x1)) := (by rw [(show (va_up F_1 62 (upd (F 62) (Int32.toNatClampNeg x1) 3)) 60 = (F 60) from (hx1.2.2.1 60 (by decide)))])
                have vhta62 : (va_up F_1 62 (upd (F 62) (Int32.toNatClampNeg x1) 3)) 62 (Int32.toNatClampNeg x1) = 3 := (by rw [(show (va_up F_1 62 (upd (F 62) (Int32.toNatClampNeg x1) 3)) 62 = (upd (F 62) (Int32.toNatClampNeg x1) 3) from rfl)]; rw [updE, if_pos rfl])
                have vhta66 : (va_up F_1 62 (upd (F 62) (Int32.toNatClampNeg x1) 3)) 66 (Int32.toNatClampNeg x1) = (F 66 (Int32.toNatClampNeg x1)) := (by rw [(show (va_up F_1 62 (upd (F 62) (Int32.toNatClampNeg x1) 3)) 66 = (F 66) from (hx1.2.2.1 66 (by decide)))])
                have hta : frV F (n 5).toInt dd ((va_up F_1 62 (upd (F 62) (Int32.toNatClampNeg x1) 3)) 58 (Int32.toNatClampNeg x1)) ((va_up F_1 62 (upd (F 62) (Int32.toNatClampNeg x1) 3)) 59 (Int32.toNatClampNeg x1)) ((va_up F_1 62 (upd (F 62) (Int32.toNatClampNeg x1) 3)) 60 (Int32.toNatClampNeg x1)) ((va_up F_1 62 (upd (F 62) (Int32.toNatClampNeg x1) 3)) 62 (Int32.toNatClampNeg x1)) ((va_up F_1 62 (upd (F 62) (Int32.toNatClampNeg x1) 3)) 66 (Int32.toNatClampNeg x1)) r (3 * cR (r - 1) + 4) := by rw [vhta58, vhta59, vhta60, vhta62, vhta66]; exact ⟨fw, fd, fo, fr_, Or.inr (Or.inr (Or.inr (Or.inl ⟨rfl, rfl⟩)))⟩
                have hs1 : FSt (va_up F_1 62 (upd (F 62) (Int32.toNatClampNeg x1) 3)) (n 5).toInt dd ((Int32.toNatClampNeg x1) + 1) r (P1 + (3 * cR (r - 1) + 4)) := ⟨r1, P1, (3 * cR (r - 1) + 4), hlo9, by omega, frV_w (fun k hk => hxx.2.2.1 k ((by decide : ∀ k : Nat, k ∈ wK → k ∉ ([58, 59, 60, 62, 64] : List Nat)) k hk)) hta, rfl⟩
                exact gz_vret rfl dX12_enters_233 (Nat.le_of_ble_eq_true rfl) (Nat.le_of_ble_eq_true rfl) (⟨rfl, _, _, _, _, hS_9, hxx, by omega, r, _, by rw [e57n, e5]; exact hs1, (by omega)⟩)
              ·
                try simp only [mIn_0, lgc_lt, lgc_gt, lgc_le, lgc_ge, lgc_eq] at c_175
                try simp only [fl_lt, fl_le, fl_eq, fL_w, fL_lt, fL_le, tm1, tm10k, tm9, tm99, Int32.reduceToInt, Int64.reduceToInt, Int.not_lt, Int.not_le] at c_175
                refine gz_aload_n dX12_enters_178 rfl rfl ?_
                refine gz_iload dX12_enters_179 rfl ?_
                refine scX12_348 (k_X12_holds (x1 := (F 58 (Int32.toNatClampNeg x1))) hS_1 (rAll_w (fun k hk => hxa.2.2.1 k ((by decide : ∀ k : Nat, k ∈ wK → k ∉ ([] : List Nat)) k hk)) bA) (by omega)) hS_1.1 ⟨(Nat.le_of_ble_eq_true rfl), (Nat.le_of_ble_eq_true rfl)⟩ ⟨(Nat.le_of_ble_eq_true rfl), (Nat.le_of_ble_eq_true rfl)⟩ rfl rfl (Nat.le_of_ble_eq_true rfl) dX12_enters_181 ?_
                rintro r_10 f9 ⟨hb_10, y9⟩; rw [y9]
                refine gz_if_eq (tgt := 226) dX12_enters_184 (by decide) (fun c_184 => ?_) (fun c_184 => ?_)
                ·
                  try simp only [mIn_0, lgc_lt, lgc_gt, lgc_le, lgc_ge, lgc_eq] at c_184
                  try simp only [fl_lt, fl_le, fl_eq, fL_w, fL_lt, fL_le, tm1, tm10k, tm9, tm99, Int32.reduceToInt, Int64.reduceToInt, Int.not_lt, Int.not_le] at c_184
                  refine gz_aload_n dX12_enters_226 rfl rfl ?_
                  refine mg_176 hS_1 dX12_enters_227 ?_
                  refine gz_iload_n dX12_enters_230 rfl rfl ?_
                  refine gz_iconst (v := 3) dX12_enters_231 (by decide) ?_
                  refine m_iast 62 hS_1 rfl (N := 80) rfl ((by exact vin_T (rfl : x1.toInt = x1.toInt) (by omega) (by omega))) dX12_enters_232 (fun f_11 hS_11q => ?_)
                  have hS_11 : mS cy m a f0 n_1 z_1 (va_up F_1 62 (upd (F 62) (Int32.toNatClampNeg x1) 3)) G_1 f_11 := (by have e9 := (show F_1 62 = (F 62) from (hx1.2.2.1 62 (by decide))); rw [e9] at hS_11q; exact hS_11q)
                  have hxx : fx [57] [29, 67] [58, 59, 60, 62, 64] [28, 61] n z F G n_1 z_1 (va_up F_1 62 (upd (F 62) (Int32.toNatClampNeg x1) 3)) G_1 := (fx_F (fx_tr fx_rf hx1 (by decide)) (by decide))
                  have hlo9 : FSt (va_up F_1 62 (upd (F 62) (Int32.toNatClampNeg x1) 3)) (n 5).toInt dd (Int32.toNatClampNeg x1) r1 P1 := FSt_cg (fun k hk => hxx.2.2.1 k ((by decide : ∀ k : Nat, k ∈ wK → k ∉ ([58, 59, 60, 62, 64] : List Nat)) k hk)) _ _ _ (fun i hi => by rw [(show (va_up F_1 62 (upd (F 62) (Int32.toNatClampNeg x1) 3)) 58 = (F 58) from (hx1.2.2.1 58 (by decide)))]) (fun i hi => by rw [(show (va_up F_1 62 (upd (F 62) (Int32.toNatClampNeg x1) 3)) 59 = (F 59) from (hx1.2.2.1 59 (by decide)))]) (fun i hi => by rw [(show (va_up F_1 62 (upd (F 62) (Int32.toNatClampNeg x1) 3)) 60 = (F 60) from (hx1.2.2.1 60 (by decide)))]) (fun i hi => by rw [(show (va_up F_1 62 (upd (F 62) (Int32.toNatClampNeg x1) 3)) 62 = (upd (F 62) (Int32.toNatClampNeg x1) 3) from rfl)]; rw [updE, if_neg (by omega)]) (fun i hi => by rw [(show (va_up F_1 62 (upd (F 62) (Int32.toNatClampNeg x1) 3)) 66 = (F 66) from (hx1.2.2.1 66 (by decide)))]) hlo
                  have e5 : n_1 5 = n 5 := hxx.1 5 (by decide)
                  have e57 : (n_1 57).toInt = x1.toInt + 1 := (by (try rw [(show n_1 57 = (n 57) from (hx1.1 57 (by decide)))]); omega)
                  have e57n : (n_1 57).toInt.toNat = (Int32.toNatClampNeg x1) + 1 := by omega
                  have vhta58 : (va_up F_1 62 (upd (F 62) (Int32.toNatClampNeg x1) 3)) 58 (Int32.toNatClampNeg x1) = (F 58 (Int32.toNatClampNeg x1)) := (by rw [(show (va_up F_1 62 (upd (F 62) (Int32.toNatClampNeg x1) 3)) 58 = (F 58) from (hx1.2.2.1 58 (by decide)))])
                  have vhta59 : (va_up F_1 62 (upd (F 62) (Int32.toNatClampNeg x1) 3)) 59 (Int32.toNatClampNeg x1) = (F 59 (Int32.toNatClampNeg x1)) := (by rw [(show (va_up F_1 62 (upd (F 62) (Int32.toNatClampNeg x1) 3)) 59 = (F 59) from (hx1.2.2.1 59 (by decide)))])
                  have vhta60 : (va_up F_1 62 (upd (F 62) (Int32.toNatClampNeg x1) 3)) 60 (Int32.toNatClampNeg x1) = (F 60 (Int32.toNatClampNeg x1)) := (by rw [(show (va_up F_1 62 (upd (F 62) (Int32.toNatClampNeg x1) 3)) 60 = (F 60) from (hx1.2.2.1 60 (by decide)))])
                  have vhta62 : (va_up F_1 62 (upd (F 62) (Int32.toNatClampNeg x1) 3)) 62 (Int32.toNatClampNeg x1) = 3 := (by rw [(show (va_up F_1 62 (upd (F 62) (Int32.toNatClampNeg x1) 3)) 62 = (upd (F 62) (Int32.toNatClampNeg x1) 3) from rfl)]; rw [updE, if_pos rfl])
                  have vhta66 : (va_up F_1 62 (upd (F 62) (Int32.toNatClampNeg x1) 3)) 66 (Int32.toNatClampNeg x1) = (F 66 (Int32.toNatClampNeg x1)) := (by rw [(show (va_up F_1 62 (upd (F 62) (Int32.toNatClampNeg x1) 3)) 66 = (F 66) from (hx1.2.2.1 66 (by decide)))])
                  have hta : frV F (n 5).toInt dd ((va_up F_1 62 (upd (F 62) (Int32.toNatClampNeg x1) 3)) 58 (Int32.toNatClampNeg x1)) ((va_up F_1 62 (upd (F 62) (Int32.toNatClampNeg x1) 3)) 59 (Int32.toNatClampNeg x1)) ((va_up F_1 62 (upd (F 62) (Int32.toNatClampNeg x1) 3)) 60 (Int32.toNatClampNeg x1)) ((va_up F_1 62 (upd (F 62) (Int32.toNatClampNeg x1) 3)) 62 (Int32.toNatClampNeg x1)) ((va_up F_1 62 (upd (F 62) (Int32.toNatClampNeg x1) 3)) 66 (Int32.toNatClampNeg x1)) r (3 * cR (r - 1) + 4) := by rw [vhta58, vhta59, vhta60, vhta62, vhta66]; exact ⟨fw, fd, fo, fr_, Or.inr (Or.inr (Or.inr (Or.inl ⟨rfl, rfl⟩)))⟩
                  have hs1 : FSt (va_up F_1 62 (upd (F 62) (Int32.toNatClampNeg x1) 3)) (n 5).toInt dd ((Int32.toNatClampNeg x1) + 1) r (P1 + (3 * cR (r - 1) + 4)) := ⟨r1, P1, (3 * cR (r - 1) + 4), hlo9, by omega, frV_w (fun k hk => hxx.2.2.1 k ((by decide : ∀ k : Nat, k ∈ wK → k ∉ ([58, 59, 60, 62, 64] : List Nat)) k hk)) hta, rfl⟩
                  exact gz_vret rfl dX12_enters_233 (Nat.le_of_ble_eq_true rfl) (Nat.le_of_ble_eq_true rfl) (⟨rfl, _, _, _, _, hS_11, hxx, by omega, r, _, by rw [e57n, e5]; exact hs1, (by omega)⟩)
                ·
                  try simp only [mIn_0, lgc_lt, lgc_gt, lgc_le, lgc_ge, lgc_eq] at c_184
                  try simp only [fl_lt, fl_le, fl_eq, fL_w, fL_lt, fL_le, tm1, tm10k, tm9, tm99, Int32.reduceToInt, Int64.reduceToInt, Int.not_lt, Int.not_le] at c_184
                  refine gz_aload_n dX12_enters_187 rfl rfl ?_
                  refine mg_176 hS_1 dX12_enters_188 ?_
                  refine gz_iload_n dX12_enters_191 rfl rfl ?_
                  refine gz_iconst (v := 1) dX12_enters_192 (by decide) ?_
                  refine m_iast 62 hS_1 rfl (N := 80) rfl ((by exact vin_T (rfl : x1.toInt = x1.toInt) (by omega) (by omega))) dX12_enters_193 (fun f_12 hS_12q => ?_)
                  have hS_12 : mS cy m a f0 n_1 z_1 (va_up F_1 62 (upd (F 62) (Int32.toNatClampNeg x1) 1)) G_1 f_12 := (by have e9 := (show F_1 62 = (F 62) from (hx1.2.2.1 62 (by decide))); rw [e9] at hS_12q; exact hS_12q)
                  refine gz_aload_n dX12_enters_194 rfl rfl ?_
                  refine gz_aload_n dX12_enters_195 rfl rfl ?_
                  refine mg_32 hS_12 dX12_enters_196 ?_
                  refine gz_iload dX12_enters_199 rfl ?_
                  refine m_iald 11 hS_12 rfl (N := 880) rfl ((by exact vin_T (rfl : (((F 58) (Int32.toNatClampNeg x1))).toInt = (((F 58) (Int32.toNatClampNeg x1))).toInt) (by omega) (by omega))) dX12_enters_201 ?_
                  refine gz_ev (w := .int ((F 11) (Int32.toNatClampNeg ((F 58) (Int32.toNatClampNeg x1))))) (congrArg Value.int (congrFun (hx1.2.2.1 11 (by decide)) _)) ?_
                  refine gz_aload_n dX12_enters_202 rfl rfl ?_
                  refine mg_167 hS_12 dX12_enters_203 ?_
                  refine gz_iload_n dX12_enters_206 rfl rfl ?_
                  refine m_iald 59 hS_12 rfl (N := 80) rfl ((by exact vin_T (rfl : x1.toInt = x1.toInt) (by omega) (by omega))) dX12_enters_207 ?_
                  refine gz_ev (w := .int ((F 59) (Int32.toNatClampNeg x1))) (congrArg Value.int (congrFun (hx1.2.2.1 59 (by decide)) _)) ?_
                  refine gz_aload_n dX12_enters_208 rfl rfl ?_
                  refine mg_170 hS_12 dX12_enters_209 ?_
                  refine gz_iload_n dX12_enters_212 rfl rfl ?_
                  refine m_iald 60 hS_12 rfl (N := 80) rfl ((by exact vin_T (rfl : x1.toInt = x1.toInt) (by omega) (by omega))) dX12_enters_213 ?_
                  refine gz_ev (w := .int ((F 60) (Int32.toNatClampNeg x1))) (congrArg Value.int (congrFun (hx1.2.2.1 60 (by decide)) _)) ?_
                  refine gz_aload_n dX12_enters_214 rfl rfl ?_
                  refine mg_173 hS_12 dX12_enters_215 ?_
                  refine gz_iload_n dX12_enters_218 rfl rfl ?_
                  refine m_lald 61 hS_12 rfl (N := 80) rfl ((by exact vin_T (rfl : x1.toInt = x1.toInt) (by omega) (by omega))) dX12_enters_219 ?_
                  refine gz_ev (w := .long ((G 61) (Int32.toNatClampNeg x1))) (congrArg Value.long (congrFun (hx1.2.2.2 61 (by decide)) _)) ?_
                  have q1 : vW F (n 5).toInt (F 11 (Int32.toNatClampNeg (F 58 (Int32.toNatClampNeg x1)))).toInt ∧ szF F (F 11 (Int32.toNatClampNeg (F 58 (Int32.toNatClampNeg x1)))).toInt + 1 ≤ szF F (F 58 (Int32.toNatClampNeg x1)).toInt := one_ok bW fw (show 2 ≤ (F 7 (Int32.toNatClampNeg (F 58 (Int32.toNatClampNeg x1)))).toInt by omega)
                  have q1z := szF_pos bW q1.1
                  obtain ⟨rb, hrb⟩ : ∃ rb : Nat, (rb : Int) = szF F (F 11 (Int32.toNatClampNeg (F 58 (Int32.toNatClampNeg x1)))).toInt + 4 - (F 59 (Int32.toNatClampNeg x1)).toInt := ⟨(szF F (F 11 (Int32.toNatClampNeg (F 58 (Int32.toNatClampNeg x1)))).toInt + 4 - (F 59 (Int32.toNatClampNeg x1)).toInt : Int).toNat, by omega⟩
                  have hcb := cR_mono (a := rb) (r - 1) (by omega)
                  refine scX12_466 (k_X12_pushes (x1 := ((F 11) (Int32.toNatClampNeg ((F 58) (Int32.toNatClampNeg x1))))) (x2 := ((F 59) (Int32.toNatClampNeg x1))) (x3 := ((F 60) (Int32.toNatClampNeg x1))) hS_12 (by (try rw [(show n_1 57 = (n 57) from (hx1.1 57 (by decide)))]); omega)) hS_12.1 ⟨(Nat.le_of_ble_eq_true rfl), (Nat.le_of_ble_eq_true rfl)⟩ ⟨(Nat.le_of_ble_eq_true rfl), (Nat.le_of_ble_eq_true rfl)⟩ rfl rfl (Nat.le_of_ble_eq_true rfl) dX12_enters_220 ?_
                  rintro f_13 ⟨n_13, z_13, F_13, G_13, hS_13, hx13, g57_13, g58_13, g59_13, g60_13, g62_13⟩
                  try simp only [(show n_1 57 = (n 57) from (hx1.1 57 (by decide)))] at g57_13 g58_13 g59_13 g60_13 g62_13
                  try rw [(show (va_up F_1 62 (upd (F 62) (Int32.toNatClampNeg x1) 1)) 58 = (F 58) from (hx1.2.2.1 58 (by decide)))] at g58_13
                  try rw [(show (va_up F_1 62 (upd (F 62) (Int32.toNatClampNeg x1) 1)) 59 = (F 59) from (hx1.2.2.1 59 (by decide)))] at g59_13
                  try rw [(show (va_up F_1 62 (upd (F 62) (Int32.toNatClampNeg x1) 1)) 60 = (F 60) from (hx1.2.2.1 60 (by decide)))] at g60_13
                  refine gz_goto (tgt := 233) dX12_enters_223 (by decide) ?_
                  have hxx : fx [57] [29, 67] [58, 59, 60, 62, 64] [28, 61] n z F G n_13 z_13 F_13 G_13 := (fx_tr (fx_F (fx_tr fx_rf hx1 (by decide)) (by decide)) hx13 (by decide))
                  have hlo9 : FSt F_13 (n 5).toInt dd (Int32.toNatClampNeg x1) r1 P1 := FSt_cg (fun k hk => hxx.2.2.1 k ((by decide : ∀ k : Nat, k ∈ wK → k ∉ ([58, 59, 60, 62, 64] : List Nat)) k hk)) _ _ _ (fun i hi => by rw [(show F_13 58 = (upd (F 58) (Int32.toNatClampNeg (n 57)) ((F 11) (Int32.toNatClampNeg ((F 58) (Int32.toNatClampNeg x1))))) from g58_13)]; rw [updE, if_neg (by omega)]) (fun i hi => by rw [(show F_13 59 = (upd (F 59) (Int32.toNatClampNeg (n 57)) ((F 59) (Int32.toNatClampNeg x1))) from g59_13)]; rw [updE, if_neg (by omega)]) (fun i hi => by rw [(show F_13 60 = (upd (F 60) (Int32.toNatClampNeg (n 57)) ((F 60) (Int32.toNatClampNeg x1))) from g60_13)]; rw [updE, if_neg (by omega)]) (fun i hi => by rw [(show F_13 62 = (upd (upd (F 62) (Int32.toNatClampNeg x1) 1) (Int32.toNatClampNeg (n 57)) 0) from g62_13)]; rw [updE, if_neg (by omega)]; rw [updE, if_neg (by omega)]) (fun i hi => by rw [(show F_13 66 = (F 66) from ((hx13.2.2.1 66 (by decide)).trans (hx1.2.2.1 66 (by decide))))]) hlo
                  have e5 : n_13 5 = n 5 := hxx.1 5 (by decide)
                  have e57 : (n_13 57).toInt = x1.toInt + 2 := (by (try rw [(show n_13 57 = ((n 57) + 1) from g57_13)]); have q1_ := (T_add (rfl : ((n 57)).toInt = ((n 57)).toInt) (show (1 : Int32).toInt = 1 from rfl) (by omega)); omega)
                  have e57n : (n_13 57).toInt.toNat = (Int32.toNatClampNeg x1) + 2 := by omega
                  have vhta58 : F_13 58 (Int32.toNatClampNeg x1) = (F 58 (Int32.toNatClampNeg x1)) := (by rw [(show F_13 58 = (upd (F 58) (Int32.toNatClampNeg (n 57)) ((F 11) (Int32.toNatClampNeg ((F 58) (Int32.toNatClampNeg x1))))) from g58_13)]; rw [updE, if_neg (by omega)])
                  have vhta59 : F_13 59 (Int32.toNatClampNeg x1) = (F 59 (Int32.toNatClampNeg x1)) := (by rw [(show F_13 59 = (upd (F 59) (Int32.toNatClampNeg (n 57)) ((F 59) (Int32.toNatClampNeg x1))) from g59_13)]; rw [updE, if_neg (by omega)])
                  have vhta60 : F_13 60 (Int32.toNatClampNeg x1) = (F 60 (Int32.toNatClampNeg x1)) := (by rw [(show F_13 60 = (upd (F 60) (Int32.toNatClampNeg (n 57)) ((F 60) (Int32.toNatClampNeg x1))) from g60_13)]; rw [updE, if_neg (by omega)])
                  have vhta62 : F_13 62 (Int32.toNatClampNeg x1) = 1 := (by rw [(show F_13 62 = (upd (upd (F 62) (Int32.toNatClampNeg x1) 1) (Int32.toNatClampNeg (n 57)) 0) from g62_13)]; rw [updE, if_neg (by omega)]; rw [updE, if_pos rfl])
                  have vhta66 : F_13 66 (Int32.toNatClampNeg x1) = (F 66 (Int32.toNatClampNeg x1)) := (by rw [(show F_13 66 = (F 66) from ((hx13.2.2.1 66 (by decide)).trans (hx1.2.2.1 66 (by decide))))])
                  have hta : frV F (n 5).toInt dd (F_13 58 (Int32.toNatClampNeg x1)) (F_13 59 (Int32.toNatClampNeg x1)) (F_13 60 (Int32.toNatClampNeg x1)) (F_13 62 (Int32.toNatClampNeg x1)) (F_13 66 (Int32.toNatClampNeg x1)) r (3 * cR (r - 1) + 5) := by rw [vhta58, vhta59, vhta60, vhta62, vhta66]; exact ⟨fw, fd, fo, fr_, Or.inr (Or.inl ⟨rfl, (by show (F 7 (Int32.toNatClampNeg (F 58 (Int32.toNatClampNeg x1)))).toInt = 3 ∨ (F 7 (Int32.toNatClampNeg (F 58 (Int32.toNatClampNeg x1)))).toInt = 4 ∨ (F 7 (Int32.toNatClampNeg (F 58 (Int32.toNatClampNeg x1)))).toInt = 7; omega), rfl⟩)⟩
                  have hs1 : FSt F_13 (n 5).toInt dd ((Int32.toNatClampNeg x1) + 1) r (P1 + (3 * cR (r - 1) + 5)) := ⟨r1, P1, (3 * cR (r - 1) + 5), hlo9, by omega, frV_w (fun k hk => hxx.2.2.1 k ((by decide : ∀ k : Nat, k ∈ wK → k ∉ ([58, 59, 60, 62, 64] : List Nat)) k hk)) hta, rfl⟩
                  have qn1 : (Int32.toNatClampNeg (n 57)) = (Int32.toNatClampNeg x1) + 1 := by omega
                  have vhtb58 : F_13 58 (Int32.toNatClampNeg (n 57)) = ((F 11) (Int32.toNatClampNeg ((F 58) (Int32.toNatClampNeg x1)))) := (by rw [(show F_13 58 = (upd (F 58) (Int32.toNatClampNeg (n 57)) ((F 11) (Int32.toNatClampNeg ((F 58) (Int32.toNatClampNeg x1))))) from g58_13)]; rw [updE, if_pos rfl])
                  have vhtb59 : F_13 59 (Int32.toNatClampNeg (n 57)) = ((F 59) (Int32.toNatClampNeg x1)) := (by rw [(show F_13 59 = (upd (F 59) (Int32.toNatClampNeg (n 57)) ((F 59) (Int32.toNatClampNeg x1))) from g59_13)]; rw [updE, if_pos rfl])
                  have vhtb60 : F_13 60 (Int32.toNatClampNeg (n 57)) = ((F 60) (Int32.toNatClampNeg x1)) := (by rw [(show F_13 60 = (upd (F 60) (Int32.toNatClampNeg (n 57)) ((F 60) (Int32.toNatClampNeg x1))) from g60_13)]; rw [updE, if_pos rfl])
                  have vhtb62 : F_13 62 (Int32.toNatClampNeg (n 57)) = 0 := (by rw [(show F_13 62 = (upd (upd (F 62) (Int32.toNatClampNeg x1) 1) (Int32.toNatClampNeg (n 57)) 0) from g62_13)]; rw [updE, if_pos rfl])
                  have vhtb66 : F_13 66 (Int32.toNatClampNeg (n 57)) = (F 66 (Int32.toNatClampNeg (n 57))) := (by rw [(show F_13 66 = (F 66) from ((hx13.2.2.1 66 (by decide)).trans (hx1.2.2.1 66 (by decide))))])
                  have htb : frV F (n 5).toInt dd (F_13 58 (Int32.toNatClampNeg (n 57))) (F_13 59 (Int32.toNatClampNeg (n 57))) (F_13 60 (Int32.toNatClampNeg (n 57))) (F_13 62 (Int32.toNatClampNeg (n 57))) (F_13 66 (Int32.toNatClampNeg (n 57))) rb (cR rb) := by rw [vhtb58, vhtb59, vhtb60, vhtb62, vhtb66]; exact ⟨q1.1, fd, fo, hrb, Or.inl ⟨rfl, rfl⟩⟩
                  rw [qn1] at htb
                  have hs2 : FSt F_13 (n 5).toInt dd ((Int32.toNatClampNeg x1) + 1 + 1) rb (P1 + (3 * cR (r - 1) + 5) + (cR rb)) := ⟨_, _, (cR rb), hs1, by omega, frV_w (fun k hk => hxx.2.2.1 k ((by decide : ∀ k : Nat, k ∈ wK → k ∉ ([58, 59, 60, 62, 64] : List Nat)) k hk)) htb, rfl⟩
                  exact gz_vret rfl dX12_enters_233 (Nat.le_of_ble_eq_true rfl) (Nat.le_of_ble_eq_true rfl) (⟨rfl, _, _, _, _, hS_13, hxx, by omega, rb, _, by rw [e57n, e5]; exact hs2, (by omega)⟩)
        ·
          try simp only [mIn_0, lgc_lt, lgc_gt, lgc_le, lgc_ge, lgc_eq] at c_97
          try simp only [fl_lt, fl_le, fl_eq, fL_w, fL_lt, fL_le, tm1, tm10k, tm9, tm99, Int32.reduceToInt, Int64.reduceToInt, Int.not_lt, Int.not_le] at c_97
          refine gz_aload_n dX12_enters_100 rfl rfl ?_
          refine gz_aload_n dX12_enters_101 rfl rfl ?_
          refine gz_iload dX12_enters_102 rfl ?_
          refine gz_aload_n dX12_enters_104 rfl rfl ?_
          refine mg_173 hS_1 dX12_enters_105 ?_
          refine gz_iload_n dX12_enters_108 rfl rfl ?_
          refine m_lald 61 hS_1 rfl (N := 80) rfl ((by exact vin_T (rfl : x1.toInt = x1.toInt) (by omega) (by omega))) dX12_enters_109 ?_
          refine gz_ev (w := .long ((G 61) (Int32.toNatClampNeg x1))) (congrArg Value.long (congrFun (hx1.2.2.2 61 (by decide)) _)) ?_
          refine scX12_384 (k_X12_paysOf (x1 := (F 58 (Int32.toNatClampNeg x1))) hS_1 (by rw [e5a]; exact a5) (rAll_w (fun k hk => hxa.2.2.1 k ((by decide : ∀ k : Nat, k ∈ wK → k ∉ ([] : List Nat)) k hk)) bA) (by rw [e5a]; exact rW_w (fun k hk => hxa.2.2.1 k ((by decide : ∀ k : Nat, k ∈ wK → k ∉ ([] : List Nat)) k hk)) bW) (by rw [e5a]; exact vW_cg (hxa.2.2.1 6 (by decide)) fw)) hS_1.1 ⟨(Nat.le_of_ble_eq_true rfl), (Nat.le_of_ble_eq_true rfl)⟩ ⟨(Nat.le_of_ble_eq_true rfl), (Nat.le_of_ble_eq_true rfl)⟩ rfl rfl (Nat.le_of_ble_eq_true rfl) dX12_enters_110 ?_
          rintro r_14 f9 ⟨-, y9⟩; rw [y9]
          refine gz_iload_n dX12_enters_113 rfl rfl ?_
          refine gz_if_ne (tgt := 135) dX12_enters_114 (by decide) (fun c_114 => ?_) (fun c_114 => ?_)
          ·
            try simp only [mIn_0, lgc_lt, lgc_gt, lgc_le, lgc_ge, lgc_eq] at c_114
            try simp only [fl_lt, fl_le, fl_eq, fL_w, fL_lt, fL_le, tm1, tm10k, tm9, tm99, Int32.reduceToInt, Int64.reduceToInt, Int.not_lt, Int.not_le] at c_114
            refine gz_iconst (v := 1) dX12_enters_135 (by decide) ?_
            refine gz_i2l dX12_enters_136 ?_
            refine gz_lmul dX12_enters_137 ?_
            refine scX12_456 (k_X12_answers hS_1) hS_1.1 ⟨(Nat.le_of_ble_eq_true rfl), (Nat.le_of_ble_eq_true rfl)⟩ ⟨(Nat.le_of_ble_eq_true rfl), (Nat.le_of_ble_eq_true rfl)⟩ rfl rfl (Nat.le_of_ble_eq_true rfl) dX12_enters_138 ?_
            rintro f_15 ⟨n_15, z_15, F_15, G_15, hS_15, hx15, g57_15⟩
            try simp only [(show n_1 57 = (n 57) from (hx1.1 57 (by decide)))] at g57_15
            refine gz_goto (tgt := 233) dX12_enters_141 (by decide) ?_
            have hxx : fx [57] [29, 67] [58, 59, 60, 62, 64] [28, 61] n z F G n_15 z_15 F_15 G_15 := (fx_tr (fx_tr fx_rf hx1 (by decide)) hx15 (by decide))
            have hlo9 : FSt F_15 (n 5).toInt dd (Int32.toNatClampNeg x1) r1 P1 := FSt_cg (fun k hk => hxx.2.2.1 k ((by decide : ∀ k : Nat, k ∈ wK → k ∉ ([58, 59, 60, 62, 64] : List Nat)) k hk)) _ _ _ (fun i hi => by rw [(show F_15 58 = (F 58) from ((hx15.2.2.1 58 (by decide)).trans (hx1.2.2.1 58 (by decide))))]) (fun i hi => by rw [(show F_15 59 = (F 59) from ((hx15.2.2.1 59 (by decide)).trans (hx1.2.2.1 59 (by decide))))]) (fun i hi => by rw [(show F_15 60 = (F 60) from ((hx15.2.2.1 60 (by decide)).trans (hx1.2.2.1 60 (by decide))))]) (fun i hi => by rw [(show F_15 62 = (F 62) from ((hx15.2.2.1 62 (by decide)).trans (hx1.2.2.1 62 (by decide))))]) (fun i hi => by rw [(show F_15 66 = (F 66) from ((hx15.2.2.1 66 (by decide)).trans (hx1.2.2.1 66 (by decide))))]) hlo
            have e5 : n_15 5 = n 5 := hxx.1 5 (by decide)
            have e57 : (n_15 57).toInt = x1.toInt + 0 := (by (try rw [(show n_15 57 = ((n 57) - 1) from g57_15)]); have q1_ := (T_sub (rfl : ((n 57)).toInt = ((n 57)).toInt) (show (1 : Int32).toInt = 1 from rfl) (by omega)); omega)
            have e57n : (n_15 57).toInt.toNat = (Int32.toNatClampNeg x1) + 0 := by omega
            exact gz_vret rfl dX12_enters_233 (Nat.le_of_ble_eq_true rfl) (Nat.le_of_ble_eq_true rfl) (⟨rfl, _, _, _, _, hS_15, hxx, by omega, r1, P1, by rw [e57n, e5]; exact hlo9, (by omega)⟩)
          ·
            try simp only [mIn_0, lgc_lt, lgc_gt, lgc_le, lgc_ge, lgc_eq] at c_114
            try simp only [fl_lt, fl_le, fl_eq, fL_w, fL_lt, fL_le, tm1, tm10k, tm9, tm99, Int32.reduceToInt, Int64.reduceToInt, Int.not_lt, Int.not_le] at c_114
            refine gz_aload_n dX12_enters_117 rfl rfl ?_
            refine scX12_460 (k_X12_allWeights hS_1 (by rw [hxa.1 53 (by decide)]; exact a53)) hS_1.1 ⟨(Nat.le_of_ble_eq_true rfl), (Nat.le_of_ble_eq_true rfl)⟩ ⟨(Nat.le_of_ble_eq_true rfl), (Nat.le_of_ble_eq_true rfl)⟩ rfl rfl (Nat.le_of_ble_eq_true rfl) dX12_enters_118 ?_
            rintro r_16 f9 ⟨-, y9⟩; rw [y9]
            refine gz_iload_n dX12_enters_121 rfl rfl ?_
            refine gz_aload_n dX12_enters_122 rfl rfl ?_
            refine mg_167 hS_1 dX12_enters_123 ?_
            refine gz_iload_n dX12_enters_126 rfl rfl ?_
            refine m_iald 59 hS_1 rfl (N := 80) rfl ((by exact vin_T (rfl : x1.toInt = x1.toInt) (by omega) (by omega))) dX12_enters_127 ?_
            refine gz_ev (w := .int ((F 59) (Int32.toNatClampNeg x1))) (congrArg Value.int (congrFun (hx1.2.2.1 59 (by decide)) _)) ?_
            refine gz_isub dX12_enters_128 ?_
            refine scX12_463 (k_X12_power) ⟨(Nat.le_of_ble_eq_true rfl), (Nat.le_of_ble_eq_true rfl)⟩ ⟨(Nat.le_of_ble_eq_true rfl), (Nat.le_of_ble_eq_true rfl)⟩ rfl rfl (Nat.le_of_ble_eq_true rfl) dX12_enters_129 ?_
            rintro r_pw f9 ⟨-, y9⟩; rw [y9]
            refine gz_goto (tgt := 136) dX12_enters_132 (by decide) ?_
            refine gz_i2l dX12_enters_136 ?_
            refine gz_lmul dX12_enters_137 ?_
            refine scX12_456 (k_X12_answers hS_1) hS_1.1 ⟨(Nat.le_of_ble_eq_true rfl), (Nat.le_of_ble_eq_true rfl)⟩ ⟨(Nat.le_of_ble_eq_true rfl), (Nat.le_of_ble_eq_true rfl)⟩ rfl rfl (Nat.le_of_ble_eq_true rfl) dX12_enters_138 ?_
            rintro f_17 ⟨n_17, z_17, F_17, G_17, hS_17, hx17, g57_17⟩
            try simp only [(show n_1 57 = (n 57) from (hx1.1 57 (by decide)))] at g57_17
            refine gz_goto (tgt := 233) dX12_enters_141 (by decide) ?_
            have hxx : fx [57] [29, 67] [58, 59, 60, 62, 64] [28, 61] n z F G n_17 z_17 F_17 G_17 := (fx_tr (fx_tr fx_rf hx1 (by decide)) hx17 (by decide))
            have hlo9 : FSt F_17 (n 5).toInt dd (Int32.toNatClampNeg x1) r1 P1 := FSt_cg (fun k hk => hxx.2.2.1 k ((by decide : ∀ k : Nat, k ∈ wK → k ∉ ([58, 59, 60, 62, 64] : List Nat)) k hk)) _ _ _ (fun i hi => by rw [(show F_17 58 = (F 58) from ((hx17.2.2.1 58 (by decide)).trans (hx1.2.2.1 58 (by decide))))]) (fun i hi => by rw [(show F_17 59 = (F 59) from ((hx17.2.2.1 59 (by decide)).trans (hx1.2.2.1 59 (by decide))))]) (fun i hi => by rw [(show F_17 60 = (F 60) from ((hx17.2.2.1 60 (by decide)).trans (hx1.2.2.1 60 (by decide))))]) (fun i hi => by rw [(show F_17 62 = (F 62) from ((hx17.2.2.1 62 (by decide)).trans (hx1.2.2.1 62 (by decide))))]) (fun i hi => by rw [(show F_17 66 = (F 66) from ((hx17.2.2.1 66 (by decide)).trans (hx1.2.2.1 66 (by decide))))]) hlo
            have e5 : n_17 5 = n 5 := hxx.1 5 (by decide)
            have e57 : (n_17 57).toInt = x1.toInt + 0 := (by (try rw [(show n_17 57 = ((n 57) - 1) from g57_17)]); have q1_ := (T_sub (rfl : ((n 57)).toInt = ((n 57)).toInt) (show (1 : Int32).toInt = 1 from rfl) (by omega)); omega)
            have e57n : (n_17 57).toInt.toNat = (Int32.toNatClampNeg x1) + 0 := by omega
            exact gz_vret rfl dX12_enters_233 (Nat.le_of_ble_eq_true rfl) (Nat.le_of_ble_eq_true rfl) (⟨rfl, _, _, _, _, hS_17, hxx, by omega, r1, P1, by rw [e57n, e5]; exact hlo9, (by omega)⟩)
      ·
        try simp only [mIn_0, lgc_lt, lgc_gt, lgc_le, lgc_ge, lgc_eq] at c_59
        try simp only [fl_lt, fl_le, fl_eq, fL_w, fL_lt, fL_le, tm1, tm10k, tm9, tm99, Int32.reduceToInt, Int64.reduceToInt, Int.not_lt, Int.not_le] at c_59
        refine gz_aload_n dX12_enters_62 rfl rfl ?_
        refine mg_173 hS_1 dX12_enters_63 ?_
        refine gz_iload_n dX12_enters_66 rfl rfl ?_
        refine gz_aload_n dX12_enters_67 rfl rfl ?_
        refine gz_iload dX12_enters_68 rfl ?_
        refine gz_aload_n dX12_enters_70 rfl rfl ?_
        refine mg_173 hS_1 dX12_enters_71 ?_
        refine gz_iload_n dX12_enters_74 rfl rfl ?_
        refine m_lald 61 hS_1 rfl (N := 80) rfl ((by exact vin_T (rfl : x1.toInt = x1.toInt) (by omega) (by omega))) dX12_enters_75 ?_
        refine gz_ev (w := .long ((G 61) (Int32.toNatClampNeg x1))) (congrArg Value.long (congrFun (hx1.2.2.2 61 (by decide)) _)) ?_
        refine scX12_380 (k_X12_factorBehind (x1 := (F 58 (Int32.toNatClampNeg x1))) hS_1 (by rw [e5a]; exact a5) (rAll_w (fun k hk => hxa.2.2.1 k ((by decide : ∀ k : Nat, k ∈ wK → k ∉ ([] : List Nat)) k hk)) bA) (by rw [e5a]; exact rW_w (fun k hk => hxa.2.2.1 k ((by decide : ∀ k : Nat, k ∈ wK → k ∉ ([] : List Nat)) k hk)) bW) (by rw [e5a]; exact vW_cg (hxa.2.2.1 6 (by decide)) fw)) hS_1.1 ⟨(Nat.le_of_ble_eq_true rfl), (Nat.le_of_ble_eq_true rfl)⟩ ⟨(Nat.le_of_ble_eq_true rfl), (Nat.le_of_ble_eq_true rfl)⟩ rfl rfl (Nat.le_of_ble_eq_true rfl) dX12_enters_76 ?_
        rintro r_18 f9 ⟨-, y9⟩; rw [y9]
        refine m_last 61 hS_1 rfl (N := 80) rfl ((by exact vin_T (rfl : x1.toInt = x1.toInt) (by omega) (by omega))) dX12_enters_79 (fun f_19 hS_19q => ?_)
        have hS_19 : mS cy m a f0 n_1 z_1 F_1 (va_up G_1 61 (vp_updL (G 61) (Int32.toNatClampNeg x1) r_18)) f_19 := (by have e9 := (show G_1 61 = (G 61) from (hx1.2.2.2 61 (by decide))); rw [e9] at hS_19q; exact hS_19q)
        refine gz_aload_n dX12_enters_80 rfl rfl ?_
        refine mg_164 hS_19 dX12_enters_81 ?_
        refine gz_iload_n dX12_enters_84 rfl rfl ?_
        refine gz_iload dX12_enters_85 rfl ?_
        refine m_iast 58 hS_19 rfl (N := 80) rfl ((by exact vin_T (rfl : x1.toInt = x1.toInt) (by omega) (by omega))) dX12_enters_87 (fun f_20 hS_20q => ?_)
        have hS_20 : mS cy m a f0 n_1 z_1 (va_up F_1 58 (upd (F 58) (Int32.toNatClampNeg x1) r_4)) (va_up G_1 61 (vp_updL (G 61) (Int32.toNatClampNeg x1) r_18)) f_20 := (by have e9 := (show F_1 58 = (F 58) from (hx1.2.2.1 58 (by decide))); rw [e9] at hS_20q; exact hS_20q)
        have q1 : 0 ≤ r_4.toInt ∧ vW F (n 5).toInt r_4.toInt ∧ szF F r_4.toInt + 1 ≤ szF F (F 58 (Int32.toNatClampNeg x1)).toInt := by rcases hl_ with z | z <;> first | exact z | (exfalso; omega)
        have q1z := szF_pos bW q1.2.1
        obtain ⟨rb, hrb⟩ : ∃ rb : Nat, (rb : Int) = szF F r_4.toInt + 4 - (F 59 (Int32.toNatClampNeg x1)).toInt := ⟨(szF F r_4.toInt + 4 - (F 59 (Int32.toNatClampNeg x1)).toInt : Int).toNat, by omega⟩
        have hcb := cR_lt (a := rb) (b := r) (by omega)
        have hxx : fx [57] [29, 67] [58, 59, 60, 62, 64] [28, 61] n z F G n_1 z_1 (va_up F_1 58 (upd (F 58) (Int32.toNatClampNeg x1) r_4)) (va_up G_1 61 (vp_updL (G 61) (Int32.toNatClampNeg x1) r_18)) := (fx_F (fx_G (fx_tr fx_rf hx1 (by decide)) (by decide)) (by decide))
        have hlo9 : FSt (va_up F_1 58 (upd (F 58) (Int32.toNatClampNeg x1) r_4)) (n 5).toInt dd (Int32.toNatClampNeg x1) r1 P1 := FSt_cg (fun k hk => hxx.2.2.1 k ((by decide : ∀ k : Nat, k ∈ wK → k ∉ ([58, 59, 60, 62, 64] : List Nat)) k hk)) _ _ _ (fun i hi => by rw [(show (va_up F_1 58 (upd (F 58) (Int32.toNatClampNeg x1) r_4)) 58 = (upd (F 58) (Int32.toNatClampNeg x1) r_4) from rfl)]; rw [updE, if_neg (by omega)]) (fun i hi => by rw [(show (va_up F_1 58 (upd (F 58) (Int32.toNatClampNeg x1) r_4)) 59 = (F 59) from (hx1.2.2.1 59 (by decide)))]) (fun i hi => by rw [(show (va_up F_1 58 (upd (F 58) (Int32.toNatClampNeg x1) r_4)) 60 = (F 60) from (hx1.2.2.1 60 (by decide)))]) (fun i hi => by rw [(show (va_up F_1 58 (upd (F 58) (Int32.toNatClampNeg x1) r_4)) 62 = (F 62) from (hx1.2.2.1 62 (by decide)))]) (fun i hi => by rw [(show (va_up F_1 58 (upd (F 58) (Int32.toNatClampNeg x1) r_4)) 66 = (F 66) from (hx1.2.2.1 66 (by decide)))]) hlo
        have e5 : n_1 5 = n 5 := hxx.1 5 (by decide)
        have e57 : (n_1 57).toInt = x1.toInt + 1 := (by (try rw [(show n_1 57 = (n 57) from (hx1.1 57 (by decide)))]); omega)
        have e57n : (n_1 57).toInt.toNat = (Int32.toNatClampNeg x1) + 1 := by omega
        have vhta58 : (va_up F_1 58 (upd (F 58) (Int32.toNatClampNeg x1) r_4)) 58 (Int32.toNatClampNeg x1) = r_4 := (by rw [(show (va_up F_1 58 (upd (F 58) (Int32.toNatClampNeg x1) r_4)) 58 = (upd (F 58) (Int32.toNatClampNeg x1) r_4) from rfl)]; rw [updE, if_pos rfl])
        have vhta59 : (va_up F_1 58 (upd (F 58) (Int32.toNatClampNeg x1) r_4)) 59 (Int32.toNatClampNeg x1) = (F 59 (Int32.toNatClampNeg x1)) := (by rw [(show (va_up F_1 58 (upd (F 58) (Int32.toNatClampNeg x1) r_4)) 59 = (F 59) from (hx1.2.2.1 59 (by decide)))])
        have vhta60 : (va_up F_1 58 (upd (F 58) (Int32.toNatClampNeg x1) r_4)) 60 (Int32.toNatClampNeg x1) = (F 60 (Int32.toNatClampNeg x1)) := (by rw [(show (va_up F_1 58 (upd (F 58) (Int32.toNatClampNeg x1) r_4)) 60 = (F 60) from (hx1.2.2.1 60 (by decide)))])
        have vhta62 : (va_up F_1 58 (upd (F 58) (Int32.toNatClampNeg x1) r_4)) 62 (Int32.toNatClampNeg x1) = (F 62 (Int32.toNatClampNeg x1)) := (by rw [(show (va_up F_1 58 (upd (F 58) (Int32.toNatClampNeg x1) r_4)) 62 = (F 62) from (hx1.2.2.1 62 (by decide)))])
        have vhta66 : (va_up F_1 58 (upd (F 58) (Int32.toNatClampNeg x1) r_4)) 66 (Int32.toNatClampNeg x1) = (F 66 (Int32.toNatClampNeg x1)) := (by rw [(show (va_up F_1 58 (upd (F 58) (Int32.toNatClampNeg x1) r_4)) 66 = (F 66) from (hx1.2.2.1 66 (by decide)))])
        have hta : frV F (n 5).toInt dd ((va_up F_1 58 (upd (F 58) (Int32.toNatClampNeg x1) r_4)) 58 (Int32.toNatClampNeg x1)) ((va_up F_1 58 (upd (F 58) (Int32.toNatClampNeg x1) r_4)) 59 (Int32.toNatClampNeg x1)) ((va_up F_1 58 (upd (F 58) (Int32.toNatClampNeg x1) r_4)) 60 (Int32.toNatClampNeg x1)) ((va_up F_1 58 (upd (F 58) (Int32.toNatClampNeg x1) r_4)) 62 (Int32.toNatClampNeg x1)) ((va_up F_1 58 (upd (F 58) (Int32.toNatClampNeg x1) r_4)) 66 (Int32.toNatClampNeg x1)) rb (cR rb) := by rw [vhta58, vhta59, vhta60, vhta62, vhta66]; exact ⟨q1.2.1, fd, fo, hrb, Or.inl ⟨hat, rfl⟩⟩
        have hs1 : FSt (va_up F_1 58 (upd (F 58) (Int32.toNatClampNeg x1) r_4)) (n 5).toInt dd ((Int32.toNatClampNeg x1) + 1) rb (P1 + (cR rb)) := ⟨r1, P1, (cR rb), hlo9, by omega, frV_w (fun k hk => hxx.2.2.1 k ((by decide : ∀ k : Nat, k ∈ wK → k ∉ ([58, 59, 60, 62, 64] : List Nat)) k hk)) hta, rfl⟩
        exact gz_vret rfl dX12_enters_88 (Nat.le_of_ble_eq_true rfl) (Nat.le_of_ble_eq_true rfl) (⟨rfl, _, _, _, _, hS_20, hxx, by omega, rb, _, by rw [e57n, e5]; exact hs1, (by omega)⟩)
    ·
      try simp only [mIn_0, lgc_lt, lgc_gt, lgc_le, lgc_ge, lgc_eq] at c_40
      try simp only [fl_lt, fl_le, fl_eq, fL_w, fL_lt, fL_le, tm1, tm10k, tm9, tm99, Int32.reduceToInt, Int64.reduceToInt, Int.not_lt, Int.not_le] at c_40
      refine gz_aload_n dX12_enters_43 rfl rfl ?_
      refine gz_lconst (v := 0) dX12_enters_44 (by decide) ?_
      refine scX12_456 (k_X12_answers hS_1) hS_1.1 ⟨(Nat.le_of_ble_eq_true rfl), (Nat.le_of_ble_eq_true rfl)⟩ ⟨(Nat.le_of_ble_eq_true rfl), (Nat.le_of_ble_eq_true rfl)⟩ rfl rfl (Nat.le_of_ble_eq_true rfl) dX12_enters_45 ?_
      rintro f_21 ⟨n_21, z_21, F_21, G_21, hS_21, hx21, g57_21⟩
      try simp only [(show n_1 57 = (n 57) from (hx1.1 57 (by decide)))] at g57_21
      have hxx : fx [57] [29, 67] [58, 59, 60, 62, 64] [28, 61] n z F G n_21 z_21 F_21 G_21 := (fx_tr (fx_tr fx_rf hx1 (by decide)) hx21 (by decide))
      have hlo9 : FSt F_21 (n 5).toInt dd (Int32.toNatClampNeg x1) r1 P1 := FSt_cg (fun k hk => hxx.2.2.1 k ((by decide : ∀ k : Nat, k ∈ wK → k ∉ ([58, 59, 60, 62, 64] : List Nat)) k hk)) _ _ _ (fun i hi => by rw [(show F_21 58 = (F 58) from ((hx21.2.2.1 58 (by decide)).trans (hx1.2.2.1 58 (by decide))))]) (fun i hi => by rw [(show F_21 59 = (F 59) from ((hx21.2.2.1 59 (by decide)).trans (hx1.2.2.1 59 (by decide))))]) (fun i hi => by rw [(show F_21 60 = (F 60) from ((hx21.2.2.1 60 (by decide)).trans (hx1.2.2.1 60 (by decide))))]) (fun i hi => by rw [(show F_21 62 = (F 62) from ((hx21.2.2.1 62 (by decide)).trans (hx1.2.2.1 62 (by decide))))]) (fun i hi => by rw [(show F_21 66 = (F 66) from ((hx21.2.2.1 66 (by decide)).trans (hx1.2.2.1 66 (by decide))))]) hlo
      have e5 : n_21 5 = n 5 := hxx.1 5 (by decide)
      have e57 : (n_21 57).toInt = x1.toInt + 0 := (by (try rw [(show n_21 57 = ((n 57) - 1) from g57_21)]); have q1_ := (T_sub (rfl : ((n 57)).toInt = ((n 57)).toInt) (show (1 : Int32).toInt = 1 from rfl) (by omega)); omega)
      have e57n : (n_21 57).toInt.toNat = (Int32.toNatClampNeg x1) + 0 := by omega
      exact gz_vret rfl dX12_enters_48 (Nat.le_of_ble_eq_true rfl) (Nat.le_of_ble_eq_true rfl) (⟨rfl, _, _, _, _, hS_21, hxx, by omega, r1, P1, by rw [e57n, e5]; exact hlo9, (by omega)⟩)

set_option maxHeartbeats 4000000 in
set_option maxRecDepth 100000 in
theorem k_X12_goesOn {l : Launch} {D : va_G} {cy : Nat → ClassId} {b : Nat} {f : gMem} {m : Nat} {a : Nat → Nat} {f0 : gMem} {n : Nat → Int32} {z : Nat → Int64} {F : Nat → Nat → Int32} {G : Nat → Nat → Int64}  {x1 x2 x3 : Int32}{r1 P1 r p : Nat} {dd : Int} (hS : mS cy m a f0 n z F G f) (a5 : 0 ≤ (n 5).toInt ∧ (n 5).toInt ≤ 20) (bA : rAll F) (bW : rW F (n 5).toInt) (a53 : 1 ≤ (n 53).toInt ∧ (n 53).toInt ≤ 3) (hx1 : 0 ≤ x1.toInt ∧ (n 57).toInt = x1.toInt + 1) (hd : x2.toInt = dd ∧ dd ≤ 4) (hlo : FSt F (n 5).toInt dd (Int32.toNatClampNeg x1) r1 P1) (hfr : frV F (n 5).toInt dd (F 58 (Int32.toNatClampNeg x1)) (F 59 (Int32.toNatClampNeg x1)) (F 60 (Int32.toNatClampNeg x1)) (F 62 (Int32.toNatClampNeg x1)) (F 66 (Int32.toNatClampNeg x1)) r p) (hr1 : r < r1) (hat : (F 62 (Int32.toNatClampNeg x1)).toInt ≠ 0) : gC l D cy b yX12_goesOn cX12_goesOn 7 none 2 0 0 [.ref m, .int x1, .int x2, .int x3] f (pV fun f2 => ∃ (n2 : Nat → Int32) (z2 : Nat → Int64) (F2 : Nat → Nat → Int32) (G2 : Nat → Nat → Int64), mS cy m a f0 n2 z2 F2 G2 f2 ∧ fx [57] [67] [58, 59, 60, 62, 64, 66] [61, 63, 65] n z F G n2 z2 F2 G2 ∧ 0 ≤ (n2 57).toInt ∧ ∃ r9 P9 : Nat, FSt F2 (n2 5).toInt dd (n2 57).toInt.toNat r9 P9 ∧ P9 < P1 + p) := by
  obtain ⟨fw, fd, fo, fr_, fa⟩ := id hfr
  have qv := vW_lt bW a5 fw
  have qz := szF_pos bW fw
  have q3 := pw3 (d := (F 59 (Int32.toNatClampNeg x1)).toInt.toNat) (by omega)
  have qcx := clI (i := x1) (by omega)
  have qcn := clI (i := n 57) (by omega)
  have qlen := FSt_len _ _ _ hlo
  have hrp : 1 ≤ r := by omega
  have qat : (0 ≤ (F 62 (Int32.toNatClampNeg x1)).toInt ∧ (F 62 (Int32.toNatClampNeg x1)).toInt ≤ 4) ∧ ((F 62 (Int32.toNatClampNeg x1)).toInt = 1 → ((F 7 (Int32.toNatClampNeg (F 58 (Int32.toNatClampNeg x1)))).toInt = 3 ∨ (F 7 (Int32.toNatClampNeg (F 58 (Int32.toNatClampNeg x1)))).toInt = 4 ∨ (F 7 (Int32.toNatClampNeg (F 58 (Int32.toNatClampNeg x1)))).toInt = 7) ∧ p = 3 * cR (r - 1) + 5) ∧ ((F 62 (Int32.toNatClampNeg x1)).toInt = 2 → p = 1) ∧ ((F 62 (Int32.toNatClampNeg x1)).toInt = 3 → p = 3 * cR (r - 1) + 4) ∧ ((F 62 (Int32.toNatClampNeg x1)).toInt = 4 → (0 ≤ (F 66 (Int32.toNatClampNeg x1)).toInt ∧ (F 66 (Int32.toNatClampNeg x1)).toInt ≤ 2) ∧ p = (2 - (F 66 (Int32.toNatClampNeg x1)).toInt.toNat) * (cR (r - 1) + 1) + 1) := by
    rcases fa with z | z | z | z | z
    · exact ⟨by omega, fun q => by omega, fun q => by omega, fun q => by omega, fun q => by omega⟩
    · exact ⟨by omega, fun _ => z.2, fun q => by omega, fun q => by omega, fun q => by omega⟩
    · exact ⟨by omega, fun q => by omega, fun _ => z.2, fun q => by omega, fun q => by omega⟩
    · exact ⟨by omega, fun q => by omega, fun q => by omega, fun _ => z.2, fun q => by omega⟩
    · exact ⟨by omega, fun q => by omega, fun q => by omega, fun q => by omega, fun _ => z.2⟩
  obtain ⟨q0, q1_, q2_, q3_, q4_⟩ := qat
  refine gC_of (by decide) (Nat.le_of_ble_eq_true rfl) ?_
  show gG l _ _ _ D cy b cX12_goesOn 7 _ RX12 "goesOn" 0 0 f 0 [(0, .ref m), (1, .int x1), (2, .int x2), (3, .int x3)] []
  refine gz_aload_n dX12_goesOn_0 rfl rfl ?_
  refine mg_164 hS dX12_goesOn_1 ?_
  refine gz_iload_n dX12_goesOn_4 rfl rfl ?_
  refine m_iald 58 hS rfl (N := 80) rfl ((by exact vin_T (rfl : x1.toInt = x1.toInt) (by omega) (by omega))) dX12_goesOn_5 ?_
  refine gz_istore (lv' := [(4, .int ((F 58) (Int32.toNatClampNeg x1))), (0, .ref m), (1, .int x1), (2, .int x2), (3, .int x3)]) dX12_goesOn_6 (by decide) rfl ?_
  refine gz_aload_n dX12_goesOn_8 rfl rfl ?_
  refine mg_176 hS dX12_goesOn_9 ?_
  refine gz_iload_n dX12_goesOn_12 rfl rfl ?_
  refine m_iald 62 hS rfl (N := 80) rfl ((by exact vin_T (rfl : x1.toInt = x1.toInt) (by omega) (by omega))) dX12_goesOn_13 ?_
  refine gz_iconst (v := 1) dX12_goesOn_14 (by decide) ?_
  refine gz_icmp_ne (tgt := 118) dX12_goesOn_15 (by decide) (fun c_15 => ?_) (fun c_15 => ?_)
  ·
    try simp only [mIn_0, lgc_lt, lgc_gt, lgc_le, lgc_ge, lgc_eq] at c_15
    try simp only [fl_lt, fl_le, fl_eq, fL_w, fL_lt, fL_le, tm1, tm10k, tm9, tm99, Int32.reduceToInt, Int64.reduceToInt, Int.not_lt, Int.not_le] at c_15
    refine gz_aload_n dX12_goesOn_118 rfl rfl ?_
    refine mg_176 hS dX12_goesOn_119 ?_
    refine gz_iload_n dX12_goesOn_122 rfl rfl ?_
    refine m_iald 62 hS rfl (N := 80) rfl ((by exact vin_T (rfl : x1.toInt = x1.toInt) (by omega) (by omega))) dX12_goesOn_123 ?_
    refine gz_iconst (v := 2) dX12_goesOn_124 (by decide) ?_
    refine gz_icmp_ne (tgt := 179) dX12_goesOn_125 (by decide) (fun c_125 => ?_) (fun c_125 => ?_)
    ·
      try simp only [mIn_0, lgc_lt, lgc_gt, lgc_le, lgc_ge, lgc_eq] at c_125
      try simp only [fl_lt, fl_le, fl_eq, fL_w, fL_lt, fL_le, tm1, tm10k, tm9, tm99, Int32.reduceToInt, Int64.reduceToInt, Int.not_lt, Int.not_le] at c_125
      refine gz_aload_n dX12_goesOn_179 rfl rfl ?_
      refine mg_176 hS dX12_goesOn_180 ?_
      refine gz_iload_n dX12_goesOn_183 rfl rfl ?_
      refine m_iald 62 hS rfl (N := 80) rfl ((by exact vin_T (rfl : x1.toInt = x1.toInt) (by omega) (by omega))) dX12_goesOn_184 ?_
      refine gz_iconst (v := 3) dX12_goesOn_185 (by decide) ?_
      refine gz_icmp_ne (tgt := 212) dX12_goesOn_186 (by decide) (fun c_186 => ?_) (fun c_186 => ?_)
      ·
        try simp only [mIn_0, lgc_lt, lgc_gt, lgc_le, lgc_ge, lgc_eq] at c_186
        try simp only [fl_lt, fl_le, fl_eq, fL_w, fL_lt, fL_le, tm1, tm10k, tm9, tm99, Int32.reduceToInt, Int64.reduceToInt, Int.not_lt, Int.not_le] at c_186
        refine gz_iload_n dX12_goesOn_212 rfl rfl ?_
        refine gz_if_ne (tgt := 236) dX12_goesOn_213 (by decide) (fun c_213 => ?_) (fun c_213 => ?_)
        ·
          try simp only [mIn_0, lgc_lt, lgc_gt, lgc_le, lgc_ge, lgc_eq] at c_213
          try simp only [fl_lt, fl_le, fl_eq, fL_w, fL_lt, fL_le, tm1, tm10k, tm9, tm99, Int32.reduceToInt, Int64.reduceToInt, Int.not_lt, Int.not_le] at c_213
          refine gz_aload_n dX12_goesOn_236 rfl rfl ?_
          refine mg_450 hS dX12_goesOn_237 ?_
          refine gz_lstore (lv' := [(5, .long (z 67)), (4, .int ((F 58) (Int32.toNatClampNeg x1))), (0, .ref m), (1, .int x1), (2, .int x2), (3, .int x3)]) dX12_goesOn_240 (by decide) rfl ?_
          refine gz_iload_n dX12_goesOn_242 rfl rfl ?_
          refine gz_if_ne (tgt := 260) dX12_goesOn_243 (by decide) (fun c_243 => ?_) (fun c_243 => ?_)
          ·
            try simp only [mIn_0, lgc_lt, lgc_gt, lgc_le, lgc_ge, lgc_eq] at c_243
            try simp only [fl_lt, fl_le, fl_eq, fL_w, fL_lt, fL_le, tm1, tm10k, tm9, tm99, Int32.reduceToInt, Int64.reduceToInt, Int.not_lt, Int.not_le] at c_243
            refine gz_aload_n dX12_goesOn_260 rfl rfl ?_
            refine mg_189 hS dX12_goesOn_261 ?_
            refine gz_iload_n dX12_goesOn_264 rfl rfl ?_
            refine m_iald 66 hS rfl (N := 80) rfl ((by exact vin_T (rfl : x1.toInt = x1.toInt) (by omega) (by omega))) dX12_goesOn_265 ?_
            refine gz_if_eq (tgt := 301) dX12_goesOn_266 (by decide) (fun c_266 => ?_) (fun c_266 => ?_)
            ·
              try simp only [mIn_0, lgc_lt, lgc_gt, lgc_le, lgc_ge, lgc_eq] at c_266
              try simp only [fl_lt, fl_le, fl_eq, fL_w, fL_lt, fL_le, tm1, tm10k, tm9, tm99, Int32.reduceToInt, Int64.reduceToInt, Int.not_lt, Int.not_le] at c_266
              refine gz_aload_n dX12_goesOn_301 rfl rfl ?_
              refine mg_186 hS dX12_goesOn_302 ?_
              refine gz_iload_n dX12_goesOn_305 rfl rfl ?_
              refine gz_lload dX12_goesOn_306 rfl ?_
              refine m_last 65 hS rfl (N := 80) rfl ((by exact vin_T (rfl : x1.toInt = x1.toInt) (by omega) (by omega))) dX12_goesOn_308 (fun f_1 hS_1q => ?_)
              have hS_1 : mS cy m a f0 n z F (va_up G 65 (vp_updL (G 65) (Int32.toNatClampNeg x1) (z 67))) f_1 := hS_1q
              refine gz_aload_n dX12_goesOn_309 rfl rfl ?_
              refine mg_189 hS_1 dX12_goesOn_310 ?_
              refine gz_iload_n dX12_goesOn_313 rfl rfl ?_
              refine gz_dup2 dX12_goesOn_314 rfl rfl ?_
              refine m_iald 66 hS_1 rfl (N := 80) rfl ((by exact vin_T (rfl : x1.toInt = x1.toInt) (by omega) (by omega))) dX12_goesOn_315 ?_
              refine gz_ev (w := .int ((F 66) (Int32.toNatClampNeg x1))) rfl ?_
              refine gz_iconst (v := 1) dX12_goesOn_316 (by decide) ?_
              refine gz_iadd dX12_goesOn_317 ?_
              refine m_iast 66 hS_1 rfl (N := 80) rfl ((by exact vin_T (rfl : x1.toInt = x1.toInt) (by omega) (by omega))) dX12_goesOn_318 (fun f_2 hS_2q => ?_)
              have hS_2 : mS cy m a f0 n z (va_up F 66 (upd (F 66) (Int32.toNatClampNeg x1) (((F 66) (Int32.toNatClampNeg x1)) + 1))) (va_up G 65 (vp_updL (G 65) (Int32.toNatClampNeg x1) (z 67))) f_2 := hS_2q
              refine gz_aload_n dX12_goesOn_319 rfl rfl ?_
              refine gz_iload_n dX12_goesOn_320 rfl rfl ?_
              refine gz_iload_n dX12_goesOn_321 rfl rfl ?_
              have hxw : fx [] [] [66] [65] n z F G n z (va_up F 66 (upd (F 66) (Int32.toNatClampNeg x1) (((F 66) (Int32.toNatClampNeg x1)) + 1))) (va_up G 65 (vp_updL (G 65) (Int32.toNatClampNeg x1) (z 67))) := (fx_F (fx_G fx_rf (by decide)) (by decide))
              have e66 : (va_up F 66 (upd (F 66) (Int32.toNatClampNeg x1) (((F 66) (Int32.toNatClampNeg x1)) + 1))) 66 (Int32.toNatClampNeg x1) = (((F 66) (Int32.toNatClampNeg x1)) + 1) := by show upd (F 66) (Int32.toNatClampNeg x1) (((F 66) (Int32.toNatClampNeg x1)) + 1) (Int32.toNatClampNeg x1) = _; rw [updE, if_pos rfl]
              have q66 : (((F 66) (Int32.toNatClampNeg x1)) + 1).toInt = (F 66 (Int32.toNatClampNeg x1)).toInt + 1 := T_add rfl (show (1 : Int32).toInt = 1 from rfl) (by have := q4_ (by omega); omega)
              have hlo2 : FSt (va_up F 66 (upd (F 66) (Int32.toNatClampNeg x1) (((F 66) (Int32.toNatClampNeg x1)) + 1))) (n 5).toInt dd (Int32.toNatClampNeg x1) r1 P1 := FSt_cg (fun k hk => hxw.2.2.1 k ((by decide : ∀ k : Nat, k ∈ wK → k ∉ ([66] : List Nat)) k hk)) _ _ _ (fun _ _ => rfl) (fun _ _ => rfl) (fun _ _ => rfl) (fun _ _ => rfl) (fun i hi => by show upd (F 66) (Int32.toNatClampNeg x1) (((F 66) (Int32.toNatClampNeg x1)) + 1) i = F 66 i; rw [updE, if_neg (by omega)]) hlo
              refine scX12_474 (k_X12_waitsOn (x1 := x1) (x2 := x2) (r := r) (P1 := P1) hS_2 a5 (rAll_w (fun k hk => hxw.2.2.1 k ((by decide : ∀ k : Nat, k ∈ wK → k ∉ ([66] : List Nat)) k hk)) bA) (rW_w (fun k hk => hxw.2.2.1 k ((by decide : ∀ k : Nat, k ∈ wK → k ∉ ([66] : List Nat)) k hk)) bW) a53 hx1 hd hlo2 hr1 ⟨vW_cg rfl fw, fd, fo, (by rw [szF_w (fun k hk => hxw.2.2.1 k ((by decide : ∀ k : Nat, k ∈ wK → k ∉ ([66] : List Nat)) k hk))]; exact fr_), trivial⟩ (by rw [e66]; have := q4_; omega)) hS_2.1 ⟨(Nat.le_of_ble_eq_true rfl), (Nat.le_of_ble_eq_true rfl)⟩ ⟨(Nat.le_of_ble_eq_true rfl), (Nat.le_of_ble_eq_true rfl)⟩ rfl rfl (Nat.le_of_ble_eq_true rfl) dX12_goesOn_322 ?_
              rintro f_3 ⟨n_3, z_3, F_3, G_3, hS_3, hx3, hz_3, hres_3⟩
              have hxx : fx [57] [67] [58, 59, 60, 62, 64, 66] [61, 63, 65] n z F G n_3 z_3 F_3 G_3 := (fx_tr (fx_F (fx_G fx_rf (by decide)) (by decide)) hx3 (by decide))
              obtain ⟨r9, P9, z1, z2⟩ := hres_3
              rw [e66] at z2
              have z3 := q4_ (by omega)
              rw [show 3 - (((F 66) (Int32.toNatClampNeg x1)) + 1).toInt.toNat = 2 - (F 66 (Int32.toNatClampNeg x1)).toInt.toNat by omega] at z2
              exact gz_vret rfl dX12_goesOn_325 (Nat.le_of_ble_eq_true rfl) (Nat.le_of_ble_eq_true rfl) (⟨rfl, _, _, _, _, hS_3, hxx, hz_3, r9, P9, z1, (by rw [z3.2]; omega)⟩)
            ·
              try simp only [mIn_0, lgc_lt, lgc_gt, lgc_le, lgc_ge, lgc_eq] at c_266
              try simp only [fl_lt, fl_le, fl_eq, fL_w, fL_lt, fL_le, tm1, tm10k, tm9, tm99, Int32.reduceToInt, Int64.reduceToInt, Int.not_lt, Int.not_le] at c_266
              refine gz_iload_n dX12_goesOn_269 rfl rfl ?_
              refine gz_iconst (v := 1) dX12_goesOn_270 (by decide) ?_
              refine gz_icmp_ne (tgt := 289) dX12_goesOn_271 (by decide) (fun c_271 => ?_) (fun c_271 => ?_)
              ·
                try simp only [mIn_0, lgc_lt, lgc_gt, lgc_le, lgc_ge, lgc_eq] at c_271
                try simp only [fl_lt, fl_le, fl_eq, fL_w, fL_lt, fL_le, tm1, tm10k, tm9, tm99, Int32.reduceToInt, Int64.reduceToInt, Int.not_lt, Int.not_le] at c_271
                refine gz_lload dX12_goesOn_289 rfl ?_
                refine gz_aload_n dX12_goesOn_291 rfl rfl ?_
                refine mg_186 hS dX12_goesOn_292 ?_
                refine gz_iload_n dX12_goesOn_295 rfl rfl ?_
                refine m_lald 65 hS rfl (N := 80) rfl ((by exact vin_T (rfl : x1.toInt = x1.toInt) (by omega) (by omega))) dX12_goesOn_296 ?_
                refine gz_lcmp dX12_goesOn_297 ?_
                refine gz_if_le (tgt := 309) dX12_goesOn_298 (by decide) (fun c_298 => ?_) (fun c_298 => ?_)
                ·
                  try simp only [mIn_0, lgc_lt, lgc_gt, lgc_le, lgc_ge, lgc_eq] at c_298
                  try simp only [fl_lt, fl_le, fl_eq, fL_w, fL_lt, fL_le, tm1, tm10k, tm9, tm99, Int32.reduceToInt, Int64.reduceToInt, Int.not_lt, Int.not_le] at c_298
                  refine gz_aload_n dX12_goesOn_309 rfl rfl ?_
                  refine mg_189 hS dX12_goesOn_310 ?_
                  refine gz_iload_n dX12_goesOn_313 rfl rfl ?_
                  refine gz_dup2 dX12_goesOn_314 rfl rfl ?_
                  refine m_iald 66 hS rfl (N := 80) rfl ((by exact vin_T (rfl : x1.toInt = x1.toInt) (by omega) (by omega))) dX12_goesOn_315 ?_
                  refine gz_iconst (v := 1) dX12_goesOn_316 (by decide) ?_
                  refine gz_iadd dX12_goesOn_317 ?_
                  refine m_iast 66 hS rfl (N := 80) rfl ((by exact vin_T (rfl : x1.toInt = x1.toInt) (by omega) (by omega))) dX12_goesOn_318 (fun f_4 hS_4q => ?_)
                  have hS_4 : mS cy m a f0 n z (va_up F 66 (upd (F 66) (Int32.toNatClampNeg x1) (((F 66) (Int32.toNatClampNeg x1)) + 1))) G f_4 := hS_4q
                  refine gz_aload_n dX12_goesOn_319 rfl rfl ?_
                  refine gz_iload_n dX12_goesOn_320 rfl rfl ?_
                  refine gz_iload_n dX12_goesOn_321 rfl rfl ?_
                  have hxw : fx [] [] [66] [65] n z F G n z (va_up F 66 (upd (F 66) (Int32.toNatClampNeg x1) (((F 66) (Int32.toNatClampNeg x1)) + 1))) G := (fx_F fx_rf (by decide))
                  have e66 : (va_up F 66 (upd (F 66) (Int32.toNatClampNeg x1) (((F 66) (Int32.toNatClampNeg x1)) + 1))) 66 (Int32.toNatClampNeg x1) = (((F 66) (Int32.toNatClampNeg x1)) + 1) := by show upd (F 66) (Int32.toNatClampNeg x1) (((F 66) (Int32.toNatClampNeg x1)) + 1) (Int32.toNatClampNeg x1) = _; rw [updE, if_pos rfl]
                  have q66 : (((F 66) (Int32.toNatClampNeg x1)) + 1).toInt = (F 66 (Int32.toNatClampNeg x1)).toInt + 1 := T_add rfl (show (1 : Int32).toInt = 1 from rfl) (by have := q4_ (by omega); omega)
                  have hlo2 : FSt (va_up F 66 (upd (F 66) (Int32.toNatClampNeg x1) (((F 66) (Int32.toNatClampNeg x1)) + 1))) (n 5).toInt dd (Int32.toNatClampNeg x1) r1 P1 := FSt_cg (fun k hk => hxw.2.2.1 k ((by decide : ∀ k : Nat, k ∈ wK → k ∉ ([66] : List Nat)) k hk)) _ _ _ (fun _ _ => rfl) (fun _ _ => rfl) (fun _ _ => rfl) (fun _ _ => rfl) (fun i hi => by show upd (F 66) (Int32.toNatClampNeg x1) (((F 66) (Int32.toNatClampNeg x1)) + 1) i = F 66 i; rw [updE, if_neg (by omega)]) hlo
                  refine scX12_474 (k_X12_waitsOn (x1 := x1) (x2 := x2) (r := r) (P1 := P1) hS_4 a5 (rAll_w (fun k hk => hxw.2.2.1 k ((by decide : ∀ k : Nat, k ∈ wK → k ∉ ([66] : List Nat)) k hk)) bA) (rW_w (fun k hk => hxw.2.2.1 k ((by decide : ∀ k : Nat, k ∈ wK → k ∉ ([66] : List Nat)) k hk)) bW) a53 hx1 hd hlo2 hr1 ⟨vW_cg rfl fw, fd, fo, (by rw [szF_w (fun k hk => hxw.2.2.1 k ((by decide : ∀ k : Nat, k ∈ wK → k ∉ ([66] : List Nat)) k hk))]; exact fr_), trivial⟩ (by rw [e66]; have := q4_; omega)) hS_4.1 ⟨(Nat.le_of_ble_eq_true rfl), (Nat.le_of_ble_eq_true rfl)⟩ ⟨(Nat.le_of_ble_eq_true rfl), (Nat.le_of_ble_eq_true rfl)⟩ rfl rfl (Nat.le_of_ble_eq_true rfl) dX12_goesOn_322 ?_
                  rintro f_5 ⟨n_5, z_5, F_5, G_5, hS_5, hx5, hz_5, hres_5⟩
                  have hxx : fx [57] [67] [58, 59, 60, 62, 64, 66] [61, 63, 65] n z F G n_5 z_5 F_5 G_5 := (fx_tr (fx_F fx_rf (by decide)) hx5 (by decide))
                  obtain ⟨r9, P9, z1, z2⟩ := hres_5
                  rw [e66] at z2
                  have z3 := q4_ (by omega)
                  rw [show 3 - (((F 66) (Int32.toNatClampNeg x1)) + 1).toInt.toNat = 2 - (F 66 (Int32.toNatClampNeg x1)).toInt.toNat by omega] at z2
                  exact gz_vret rfl dX12_goesOn_325 (Nat.le_of_ble_eq_true rfl) (Nat.le_of_ble_eq_true rfl) (⟨rfl, _, _, _, _, hS_5, hxx, hz_5, r9, P9, z1, (by rw [z3.2]; omega)⟩)
                ·
                  try simp only [mIn_0, lgc_lt, lgc_gt, lgc_le, lgc_ge, lgc_eq] at c_298
                  try simp only [fl_lt, fl_le, fl_eq, fL_w, fL_lt, fL_le, tm1, tm10k, tm9, tm99, Int32.reduceToInt, Int64.reduceToInt, Int.not_lt, Int.not_le] at c_298
                  refine gz_aload_n dX12_goesOn_301 rfl rfl ?_
                  refine mg_186 hS dX12_goesOn_302 ?_
                  refine gz_iload_n dX12_goesOn_305 rfl rfl ?_
                  refine gz_lload dX12_goesOn_306 rfl ?_
                  refine m_last 65 hS rfl (N := 80) rfl ((by exact vin_T (rfl : x1.toInt = x1.toInt) (by omega) (by omega))) dX12_goesOn_308 (fun f_6 hS_6q => ?_)
                  have hS_6 : mS cy m a f0 n z F (va_up G 65 (vp_updL (G 65) (Int32.toNatClampNeg x1) (z 67))) f_6 := hS_6q
                  refine gz_aload_n dX12_goesOn_309 rfl rfl ?_
                  refine mg_189 hS_6 dX12_goesOn_310 ?_
                  refine gz_iload_n dX12_goesOn_313 rfl rfl ?_
                  refine gz_dup2 dX12_goesOn_314 rfl rfl ?_
                  refine m_iald 66 hS_6 rfl (N := 80) rfl ((by exact vin_T (rfl : x1.toInt = x1.toInt) (by omega) (by omega))) dX12_goesOn_315 ?_
                  refine gz_ev (w := .int ((F 66) (Int32.toNatClampNeg x1))) rfl ?_
                  refine gz_iconst (v := 1) dX12_goesOn_316 (by decide) ?_
                  refine gz_iadd dX12_goesOn_317 ?_
                  refine m_iast 66 hS_6 rfl (N := 80) rfl ((by exact vin_T (rfl : x1.toInt = x1.toInt) (by omega) (by omega))) dX12_goesOn_318 (fun f_7 hS_7q => ?_)
                  have hS_7 : mS cy m a f0 n z (va_up F 66 (upd (F 66) (Int32.toNatClampNeg x1) (((F 66) (Int32.toNatClampNeg x1)) + 1))) (va_up G 65 (vp_updL (G 65) (Int32.toNatClampNeg x1) (z 67))) f_7 := hS_7q
                  refine gz_aload_n dX12_goesOn_319 rfl rfl ?_
                  refine gz_iload_n dX12_goesOn_320 rfl rfl ?_
                  refine gz_iload_n dX12_goesOn_321 rfl rfl ?_
                  have hxw : fx [] [] [66] [65] n z F G n z (va_up F 66 (upd (F 66) (Int32.toNatClampNeg x1) (((F 66) (Int32.toNatClampNeg x1)) + 1))) (va_up G 65 (vp_updL (G 65) (Int32.toNatClampNeg x1) (z 67))) := (fx_F (fx_G fx_rf (by decide)) (by decide))
                  have e66 : (va_up F 66 (upd (F 66) (Int32.toNatClampNeg x1) (((F 66) (Int32.toNatClampNeg x1)) + 1))) 66 (Int32.toNatClampNeg x1) = (((F 66) (Int32.toNatClampNeg x1)) + 1) := by show upd (F 66) (Int32.toNatClampNeg x1) (((F 66) (Int32.toNatClampNeg x1)) + 1) (Int32.toNatClampNeg x1) = _; rw [updE, if_pos rfl]
                  have q66 : (((F 66) (Int32.toNatClampNeg x1)) + 1).toInt = (F 66 (Int32.toNatClampNeg x1)).toInt + 1 := T_add rfl (show (1 : Int32).toInt = 1 from rfl) (by have := q4_ (by omega); omega)
                  have hlo2 : FSt (va_up F 66 (upd (F 66) (Int32.toNatClampNeg x1) (((F 66) (Int32.toNatClampNeg x1)) + 1))) (n 5).toInt dd (Int32.toNatClampNeg x1) r1 P1 := FSt_cg (fun k hk => hxw.2.2.1 k ((by decide : ∀ k : Nat, k ∈ wK → k ∉ ([66] : List Nat)) k hk)) _ _ _ (fun _ _ => rfl) (fun _ _ => rfl) (fun _ _ => rfl) (fun _ _ => rfl) (fun i hi => by show upd (F 66) (Int32.toNatClampNeg x1) (((F 66) (Int32.toNatClampNeg x1)) + 1) i = F 66 i; rw [updE, if_neg (by omega)]) hlo
                  refine scX12_474 (k_X12_waitsOn (x1 := x1) (x2 := x2) (r := r) (P1 := P1) hS_7 a5 (rAll_w (fun k hk => hxw.2.2.1 k ((by decide : ∀ k : Nat, k ∈ wK → k ∉ ([66] : List Nat)) k hk)) bA) (rW_w (fun k hk => hxw.2.2.1 k ((by decide : ∀ k : Nat, k ∈ wK → k ∉ ([66] : List Nat)) k hk)) bW) a53 hx1 hd hlo2 hr1 ⟨vW_cg rfl fw, fd, fo, (by rw [szF_w (fun k hk => hxw.2.2.1 k ((by decide : ∀ k : Nat, k ∈ wK → k ∉ ([66] : List Nat)) k hk))]; exact fr_), trivial⟩ (by rw [e66]; have := q4_; omega)) hS_7.1 ⟨(Nat.le_of_ble_eq_true rfl), (Nat.le_of_ble_eq_true rfl)⟩ ⟨(Nat.le_of_ble_eq_true rfl), (Nat.le_of_ble_eq_true rfl)⟩ rfl rfl (Nat.le_of_ble_eq_true rfl) dX12_goesOn_322 ?_
                  rintro f_8 ⟨n_8, z_8, F_8, G_8, hS_8, hx8, hz_8, hres_8⟩
                  have hxx : fx [57] [67] [58, 59, 60, 62, 64, 66] [61, 63, 65] n z F G n_8 z_8 F_8 G_8 := (fx_tr (fx_F (fx_G fx_rf (by decide)) (by decide)) hx8 (by decide))
                  obtain ⟨r9, P9, z1, z2⟩ := hres_8
                  rw [e66] at z2
                  have z3 := q4_ (by omega)
                  rw [show 3 - (((F 66) (Int32.toNatClampNeg x1)) + 1).toInt.toNat = 2 - (F 66 (Int32.toNatClampNeg x1)).toInt.toNat by omega] at z2
                  exact gz_vret rfl dX12_goesOn_325 (Nat.le_of_ble_eq_true rfl) (Nat.le_of_ble_eq_true rfl) (⟨rfl, _, _, _, _, hS_8, hxx, hz_8, r9, P9, z1, (by rw [z3.2]; omega)⟩)
              ·
                try simp only [mIn_0, lgc_lt, lgc_gt, lgc_le, lgc_ge, lgc_eq] at c_271
                try simp only [fl_lt, fl_le, fl_eq, fL_w, fL_lt, fL_le, tm1, tm10k, tm9, tm99, Int32.reduceToInt, Int64.reduceToInt, Int.not_lt, Int.not_le] at c_271
                refine gz_lload dX12_goesOn_274 rfl ?_
                refine gz_aload_n dX12_goesOn_276 rfl rfl ?_
                refine mg_186 hS dX12_goesOn_277 ?_
                refine gz_iload_n dX12_goesOn_280 rfl rfl ?_
                refine m_lald 65 hS rfl (N := 80) rfl ((by exact vin_T (rfl : x1.toInt = x1.toInt) (by omega) (by omega))) dX12_goesOn_281 ?_
                refine gz_lcmp dX12_goesOn_282 ?_
                refine gz_if_ge (tgt := 309) dX12_goesOn_283 (by decide) (fun c_283 => ?_) (fun c_283 => ?_)
                ·
                  try simp only [mIn_0, lgc_lt, lgc_gt, lgc_le, lgc_ge, lgc_eq] at c_283
                  try simp only [fl_lt, fl_le, fl_eq, fL_w, fL_lt, fL_le, tm1, tm10k, tm9, tm99, Int32.reduceToInt, Int64.reduceToInt, Int.not_lt, Int.not_le] at c_283
                  refine gz_aload_n dX12_goesOn_309 rfl rfl ?_
                  refine mg_189 hS dX12_goesOn_310 ?_
                  refine gz_iload_n dX12_goesOn_313 rfl rfl ?_
                  refine gz_dup2 dX12_goesOn_314 rfl rfl ?_
                  refine m_iald 66 hS rfl (N := 80) rfl ((by exact vin_T (rfl : x1.toInt = x1.toInt) (by omega) (by omega))) dX12_goesOn_315 ?_
                  refine gz_iconst (v := 1) dX12_goesOn_316 (by decide) ?_
                  refine gz_iadd dX12_goesOn_317 ?_
                  refine m_iast 66 hS rfl (N := 80) rfl ((by exact vin_T (rfl : x1.toInt = x1.toInt) (by omega) (by omega))) dX12_goesOn_318 (fun f_9 hS_9q => ?_)
                  have hS_9 : mS cy m a f0 n z (va_up F 66 (upd (F 66) (Int32.toNatClampNeg x1) (((F 66) (Int32.toNatClampNeg x1)) + 1))) G f_9 := hS_9q
                  refine gz_aload_n dX12_goesOn_319 rfl rfl ?_
                  refine gz_iload_n dX12_goesOn_320 rfl rfl ?_
                  refine gz_iload_n dX12_goesOn_321 rfl rfl ?_
                  have hxw : fx [] [] [66] [65] n z F G n z (va_up F 66 (upd (F 66) (Int32.toNatClampNeg x1) (((F 66) (Int32.toNatClampNeg x1)) + 1))) G := (fx_F fx_rf (by decide))
                  have e66 : (va_up F 66 (upd (F 66) (Int32.toNatClampNeg x1) (((F 66) (Int32.toNatClampNeg x1)) + 1))) 66 (Int32.toNatClampNeg x1) = (((F 66) (Int32.toNatClampNeg x1)) + 1) := by show upd (F 66) (Int32.toNatClampNeg x1) (((F 66) (Int32.toNatClampNeg x1)) + 1) (Int32.toNatClampNeg x1) = _; rw [updE, if_pos rfl]
                  have q66 : (((F 66) (Int32.toNatClampNeg x1)) + 1).toInt = (F 66 (Int32.toNatClampNeg x1)).toInt + 1 := T_add rfl (show (1 : Int32).toInt = 1 from rfl) (by have := q4_ (by omega); omega)
                  have hlo2 : FSt (va_up F 66 (upd (F 66) (Int32.toNatClampNeg x1) (((F 66) (Int32.toNatClampNeg x1)) + 1))) (n 5).toInt dd (Int32.toNatClampNeg x1) r1 P1 := FSt_cg (fun k hk => hxw.2.2.1 k ((by decide : ∀ k : Nat, k ∈ wK → k ∉ ([66] : List Nat)) k hk)) _ _ _ (fun _ _ => rfl) (fun _ _ => rfl) (fun _ _ => rfl) (fun _ _ => rfl) (fun i hi => by show upd (F 66) (Int32.toNatClampNeg x1) (((F 66) (Int32.toNatClampNeg x1)) + 1) i = F 66 i; rw [updE, if_neg (by omega)]) hlo
                  refine scX12_474 (k_X12_waitsOn (x1 := x1) (x2 := x2) (r := r) (P1 := P1) hS_9 a5 (rAll_w (fun k hk => hxw.2.2.1 k ((by decide : ∀ k : Nat, k ∈ wK → k ∉ ([66] : List Nat)) k hk)) bA) (rW_w (fun k hk => hxw.2.2.1 k ((by decide : ∀ k : Nat, k ∈ wK → k ∉ ([66] : List Nat)) k hk)) bW) a53 hx1 hd hlo2 hr1 ⟨vW_cg rfl fw, fd, fo, (by rw [szF_w (fun k hk => hxw.2.2.1 k ((by decide : ∀ k : Nat, k ∈ wK → k ∉ ([66] : List Nat)) k hk))]; exact fr_), trivial⟩ (by rw [e66]; have := q4_; omega)) hS_9.1 ⟨(Nat.le_of_ble_eq_true rfl), (Nat.le_of_ble_eq_true rfl)⟩ ⟨(Nat.le_of_ble_eq_true rfl), (Nat.le_of_ble_eq_true rfl)⟩ rfl rfl (Nat.le_of_ble_eq_true rfl) dX12_goesOn_322 ?_
                  rintro f_10 ⟨n_10, z_10, F_10, G_10, hS_10, hx10, hz_10, hres_10⟩
                  have hxx : fx [57] [67] [58, 59, 60, 62, 64, 66] [61, 63, 65] n z F G n_10 z_10 F_10 G_10 := (fx_tr (fx_F fx_rf (by decide)) hx10 (by decide))
                  obtain ⟨r9, P9, z1, z2⟩ := hres_10
                  rw [e66] at z2
                  have z3 := q4_ (by omega)
                  rw [show 3 - (((F 66) (Int32.toNatClampNeg x1)) + 1).toInt.toNat = 2 - (F 66 (Int32.toNatClampNeg x1)).toInt.toNat by omega] at z2
                  exact gz_vret rfl dX12_goesOn_325 (Nat.le_of_ble_eq_true rfl) (Nat.le_of_ble_eq_true rfl) (⟨rfl, _, _, _, _, hS_10, hxx, hz_10, r9, P9, z1, (by rw [z3.2]; omega)⟩)
                ·
                  try simp only [mIn_0, lgc_lt, lgc_gt, lgc_le, lgc_ge, lgc_eq] at c_283
                  try simp only [fl_lt, fl_le, fl_eq, fL_w, fL_lt, fL_le, tm1, tm10k, tm9, tm99, Int32.reduceToInt, Int64.reduceToInt, Int.not_lt, Int.not_le] at c_283
                  refine gz_goto (tgt := 301) dX12_goesOn_286 (by decide) ?_
                  refine gz_aload_n dX12_goesOn_301 rfl rfl ?_
                  refine mg_186 hS dX12_goesOn_302 ?_
                  refine gz_iload_n dX12_goesOn_305 rfl rfl ?_
                  refine gz_lload dX12_goesOn_306 rfl ?_
                  refine m_last 65 hS rfl (N := 80) rfl ((by exact vin_T (rfl : x1.toInt = x1.toInt) (by omega) (by omega))) dX12_goesOn_308 (fun f_11 hS_11q => ?_)
                  have hS_11 : mS cy m a f0 n z F (va_up G 65 (vp_updL (G 65) (Int32.toNatClampNeg x1) (z 67))) f_11 := hS_11q
                  refine gz_aload_n dX12_goesOn_309 rfl rfl ?_
                  refine mg_189 hS_11 dX12_goesOn_310 ?_
                  refine gz_iload_n dX12_goesOn_313 rfl rfl ?_
                  refine gz_dup2 dX12_goesOn_314 rfl rfl ?_
                  refine m_iald 66 hS_11 rfl (N := 80) rfl ((by exact vin_T (rfl : x1.toInt = x1.toInt) (by omega) (by omega))) dX12_goesOn_315 ?_
                  refine gz_ev (w := .int ((F 66) (Int32.toNatClampNeg x1))) rfl ?_
                  refine gz_iconst (v := 1) dX12_goesOn_316 (by decide) ?_
                  refine gz_iadd dX12_goesOn_317 ?_
                  refine m_iast 66 hS_11 rfl (N := 80) rfl ((by exact vin_T (rfl : x1.toInt = x1.toInt) (by omega) (by omega))) dX12_goesOn_318 (fun f_12 hS_12q => ?_)
                  have hS_12 : mS cy m a f0 n z (va_up F 66 (upd (F 66) (Int32.toNatClampNeg x1) (((F 66) (Int32.toNatClampNeg x1)) + 1))) (va_up G 65 (vp_updL (G 65) (Int32.toNatClampNeg x1) (z 67))) f_12 := hS_12q
                  refine gz_aload_n dX12_goesOn_319 rfl rfl ?_
                  refine gz_iload_n dX12_goesOn_320 rfl rfl ?_
                  refine gz_iload_n dX12_goesOn_321 rfl rfl ?_
                  have hxw : fx [] [] [66] [65] n z F G n z (va_up F 66 (upd (F 66) (Int32.toNatClampNeg x1) (((F 66) (Int32.toNatClampNeg x1)) + 1))) (va_up G 65 (vp_updL (G 65) (Int32.toNatClampNeg x1) (z 67))) := (fx_F (fx_G fx_rf (by decide)) (by decide))
                  have e66 : (va_up F 66 (upd (F 66) (Int32.toNatClampNeg x1) (((F 66) (Int32.toNatClampNeg x1)) + 1))) 66 (Int32.toNatClampNeg x1) = (((F 66) (Int32.toNatClampNeg x1)) + 1) := by show upd (F 66) (Int32.toNatClampNeg x1) (((F 66) (Int32.toNatClampNeg x1)) + 1) (Int32.toNatClampNeg x1) = _; rw [updE, if_pos rfl]
                  have q66 : (((F 66) (Int32.toNatClampNeg x1)) + 1).toInt = (F 66 (Int32.toNatClampNeg x1)).toInt + 1 := T_add rfl (show (1 : Int32).toInt = 1 from rfl) (by have := q4_ (by omega); omega)
                  have hlo2 : FSt (va_up F 66 (upd (F 66) (Int32.toNatClampNeg x1) (((F 66) (Int32.toNatClampNeg x1)) + 1))) (n 5).toInt dd (Int32.toNatClampNeg x1) r1 P1 := FSt_cg (fun k hk => hxw.2.2.1 k ((by decide : ∀ k : Nat, k ∈ wK → k ∉ ([66] : List Nat)) k hk)) _ _ _ (fun _ _ => rfl) (fun _ _ => rfl) (fun _ _ => rfl) (fun _ _ => rfl) (fun i hi => by show upd (F 66) (Int32.toNatClampNeg x1) (((F 66) (Int32.toNatClampNeg x1)) + 1) i = F 66 i; rw [updE, if_neg (by omega)]) hlo
                  refine scX12_474 (k_X12_waitsOn (x1 := x1) (x2 := x2) (r := r) (P1 := P1) hS_12 a5 (rAll_w (fun k hk => hxw.2.2.1 k ((by decide : ∀ k : Nat, k ∈ wK → k ∉ ([66] : List Nat)) k hk)) bA) (rW_w (fun k hk => hxw.2.2.1 k ((by decide : ∀ k : Nat, k ∈ wK → k ∉ ([66] : List Nat)) k hk)) bW) a53 hx1 hd hlo2 hr1 ⟨vW_cg rfl fw, fd, fo, (by rw [szF_w (fun k hk => hxw.2.2.1 k ((by decide : ∀ k : Nat, k ∈ wK → k ∉ ([66] : List Nat)) k hk))]; exact fr_), trivial⟩ (by rw [e66]; have := q4_; omega)) hS_12.1 ⟨(Nat.le_of_ble_eq_true rfl), (Nat.le_of_ble_eq_true rfl)⟩ ⟨(Nat.le_of_ble_eq_true rfl), (Nat.le_of_ble_eq_true rfl)⟩ rfl rfl (Nat.le_of_ble_eq_true rfl) dX12_goesOn_322 ?_
                  rintro f_13 ⟨n_13, z_13, F_13, G_13, hS_13, hx13, hz_13, hres_13⟩
                  have hxx : fx [57] [67] [58, 59, 60, 62, 64, 66] [61, 63, 65] n z F G n_13 z_13 F_13 G_13 := (fx_tr (fx_F (fx_G fx_rf (by decide)) (by decide)) hx13 (by decide))
                  obtain ⟨r9, P9, z1, z2⟩ := hres_13
                  rw [e66] at z2
                  have z3 := q4_ (by omega)
                  rw [show 3 - (((F 66) (Int32.toNatClampNeg x1)) + 1).toInt.toNat = 2 - (F 66 (Int32.toNatClampNeg x1)).toInt.toNat by omega] at z2
                  exact gz_vret rfl dX12_goesOn_325 (Nat.le_of_ble_eq_true rfl) (Nat.le_of_ble_eq_true rfl) (⟨rfl, _, _, _, _, hS_13, hxx, hz_13, r9, P9, z1, (by rw [z3.2]; omega)⟩)
          ·
            try simp only [mIn_0, lgc_lt, lgc_gt, lgc_le, lgc_ge, lgc_eq] at c_243
            try simp only [fl_lt, fl_le, fl_eq, fL_w, fL_lt, fL_le, tm1, tm10k, tm9, tm99, Int32.reduceToInt, Int64.reduceToInt, Int.not_lt, Int.not_le] at c_243
            refine gz_aload_n dX12_goesOn_246 rfl rfl ?_
            refine mg_186 hS dX12_goesOn_247 ?_
            refine gz_iload_n dX12_goesOn_250 rfl rfl ?_
            refine gz_dup2 dX12_goesOn_251 rfl rfl ?_
            refine m_lald 65 hS rfl (N := 80) rfl ((by exact vin_T (rfl : x1.toInt = x1.toInt) (by omega) (by omega))) dX12_goesOn_252 ?_
            refine gz_lload dX12_goesOn_253 rfl ?_
            refine gz_ladd dX12_goesOn_255 ?_
            refine m_last 65 hS rfl (N := 80) rfl ((by exact vin_T (rfl : x1.toInt = x1.toInt) (by omega) (by omega))) dX12_goesOn_256 (fun f_14 hS_14q => ?_)
            have hS_14 : mS cy m a f0 n z F (va_up G 65 (vp_updL (G 65) (Int32.toNatClampNeg x1) (((G 65) (Int32.toNatClampNeg x1)) + (z 67)))) f_14 := hS_14q
            refine gz_goto (tgt := 309) dX12_goesOn_257 (by decide) ?_
            refine gz_aload_n dX12_goesOn_309 rfl rfl ?_
            refine mg_189 hS_14 dX12_goesOn_310 ?_
            refine gz_iload_n dX12_goesOn_313 rfl rfl ?_
            refine gz_dup2 dX12_goesOn_314 rfl rfl ?_
            refine m_iald 66 hS_14 rfl (N := 80) rfl ((by exact vin_T (rfl : x1.toInt = x1.toInt) (by omega) (by omega))) dX12_goesOn_315 ?_
            refine gz_ev (w := .int ((F 66) (Int32.toNatClampNeg x1))) rfl ?_
            refine gz_iconst (v := 1) dX12_goesOn_316 (by decide) ?_
            refine gz_iadd dX12_goesOn_317 ?_
            refine m_iast 66 hS_14 rfl (N := 80) rfl ((by exact vin_T (rfl : x1.toInt = x1.toInt) (by omega) (by omega))) dX12_goesOn_318 (fun f_15 hS_15q => ?_)
            have hS_15 : mS cy m a f0 n z (va_up F 66 (upd (F 66) (Int32.toNatClampNeg x1) (((F 66) (Int32.toNatClampNeg x1)) + 1))) (va_up G 65 (vp_updL (G 65) (Int32.toNatClampNeg x1) (((G 65) (Int32.toNatClampNeg x1)) + (z 67)))) f_15 := hS_15q
            refine gz_aload_n dX12_goesOn_319 rfl rfl ?_
            refine gz_iload_n dX12_goesOn_320 rfl rfl ?_
            refine gz_iload_n dX12_goesOn_321 rfl rfl ?_
            have hxw : fx [] [] [66] [65] n z F G n z (va_up F 66 (upd (F 66) (Int32.toNatClampNeg x1) (((F 66) (Int32.toNatClampNeg x1)) + 1))) (va_up G 65 (vp_updL (G 65) (Int32.toNatClampNeg x1) (((G 65) (Int32.toNatClampNeg x1)) + (z 67)))) := (fx_F (fx_G fx_rf (by decide)) (by decide))
            have e66 : (va_up F 66 (upd (F 66) (Int32.toNatClampNeg x1) (((F 66) (Int32.toNatClampNeg x1)) + 1))) 66 (Int32.toNatClampNeg x1) = (((F 66) (Int32.toNatClampNeg x1)) + 1) := by show upd (F 66) (Int32.toNatClampNeg x1) (((F 66) (Int32.toNatClampNeg x1)) + 1) (Int32.toNatClampNeg x1) = _; rw [updE, if_pos rfl]
            have q66 : (((F 66) (Int32.toNatClampNeg x1)) + 1).toInt = (F 66 (Int32.toNatClampNeg x1)).toInt + 1 := T_add rfl (show (1 : Int32).toInt = 1 from rfl) (by have := q4_ (by omega); omega)
            have hlo2 : FSt (va_up F 66 (upd (F 66) (Int32.toNatClampNeg x1) (((F 66) (Int32.toNatClampNeg x1)) + 1))) (n 5).toInt dd (Int32.toNatClampNeg x1) r1 P1 := FSt_cg (fun k hk => hxw.2.2.1 k ((by decide : ∀ k : Nat, k ∈ wK → k ∉ ([66] : List Nat)) k hk)) _ _ _ (fun _ _ => rfl) (fun _ _ => rfl) (fun _ _ => rfl) (fun _ _ => rfl) (fun i hi => by show upd (F 66) (Int32.toNatClampNeg x1) (((F 66) (Int32.toNatClampNeg x1)) + 1) i = F 66 i; rw [updE, if_neg (by omega)]) hlo
            refine scX12_474 (k_X12_waitsOn (x1 := x1) (x2 := x2) (r := r) (P1 := P1) hS_15 a5 (rAll_w (fun k hk => hxw.2.2.1 k ((by decide : ∀ k : Nat, k ∈ wK → k ∉ ([66] : List Nat)) k hk)) bA) (rW_w (fun k hk => hxw.2.2.1 k ((by decide : ∀ k : Nat, k ∈ wK → k ∉ ([66] : List Nat)) k hk)) bW) a53 hx1 hd hlo2 hr1 ⟨vW_cg rfl fw, fd, fo, (by rw [szF_w (fun k hk => hxw.2.2.1 k ((by decide : ∀ k : Nat, k ∈ wK → k ∉ ([66] : List Nat)) k hk))]; exact fr_), trivial⟩ (by rw [e66]; have := q4_; omega)) hS_15.1 ⟨(Nat.le_of_ble_eq_true rfl), (Nat.le_of_ble_eq_true rfl)⟩ ⟨(Nat.le_of_ble_eq_true rfl), (Nat.le_of_ble_eq_true rfl)⟩ rfl rfl (Nat.le_of_ble_eq_true rfl) dX12_goesOn_322 ?_
            rintro f_16 ⟨n_16, z_16, F_16, G_16, hS_16, hx16, hz_16, hres_16⟩
            have hxx : fx [57] [67] [58, 59, 60, 62, 64, 66] [61, 63, 65] n z F G n_16 z_16 F_16 G_16 := (fx_tr (fx_F (fx_G fx_rf (by decide)) (by decide)) hx16 (by decide))
            obtain ⟨r9, P9, z1, z2⟩ := hres_16
            rw [e66] at z2
            have z3 := q4_ (by omega)
            rw [show 3 - (((F 66) (Int32.toNatClampNeg x1)) + 1).toInt.toNat = 2 - (F 66 (Int32.toNatClampNeg x1)).toInt.toNat by omega] at z2
            exact gz_vret rfl dX12_goesOn_325 (Nat.le_of_ble_eq_true rfl) (Nat.le_of_ble_eq_true rfl) (⟨rfl, _, _, _, _, hS_16, hxx, hz_16, r9, P9, z1, (by rw [z3.2]; omega)⟩)
        ·
          try simp only [mIn_0, lgc_lt, lgc_gt, lgc_le, lgc_ge, lgc_eq] at c_213
          try simp only [fl_lt, fl_le, fl_eq, fL_w, fL_lt, fL_le, tm1, tm10k, tm9, tm99, Int32.reduceToInt, Int64.reduceToInt, Int.not_lt, Int.not_le] at c_213
          refine gz_aload_n dX12_goesOn_216 rfl rfl ?_
          refine mg_155 hS dX12_goesOn_217 ?_
          refine gz_aload_n dX12_goesOn_220 rfl rfl ?_
          refine mg_189 hS dX12_goesOn_221 ?_
          refine gz_iload_n dX12_goesOn_224 rfl rfl ?_
          refine m_iald 66 hS rfl (N := 80) rfl ((by exact vin_T (rfl : x1.toInt = x1.toInt) (by omega) (by omega))) dX12_goesOn_225 ?_
          refine m_iald 54 hS rfl (N := 3) rfl ((by have z9 := q4_ (by omega); exact vin_T (rfl : (F 66 (Int32.toNatClampNeg x1)).toInt = (F 66 (Int32.toNatClampNeg x1)).toInt) (by omega) (by omega))) dX12_goesOn_226 ?_
          refine gz_i2l dX12_goesOn_227 ?_
          refine gz_aload_n dX12_goesOn_228 rfl rfl ?_
          refine mg_450 hS dX12_goesOn_229 ?_
          refine gz_lmul dX12_goesOn_232 ?_
          refine gz_goto (tgt := 240) dX12_goesOn_233 (by decide) ?_
          refine gz_lstore (lv' := [(5, .long ((((F 54) (Int32.toNatClampNeg ((F 66) (Int32.toNatClampNeg x1)))).toInt64) * (z 67))), (4, .int ((F 58) (Int32.toNatClampNeg x1))), (0, .ref m), (1, .int x1), (2, .int x2), (3, .int x3)]) dX12_goesOn_240 (by decide) rfl ?_
          refine gz_iload_n dX12_goesOn_242 rfl rfl ?_
          refine gz_if_ne (tgt := 260) dX12_goesOn_243 (by decide) (fun c_243 => ?_) (fun c_243 => ?_)
          ·
            try simp only [mIn_0, lgc_lt, lgc_gt, lgc_le, lgc_ge, lgc_eq] at c_243
            try simp only [fl_lt, fl_le, fl_eq, fL_w, fL_lt, fL_le, tm1, tm10k, tm9, tm99, Int32.reduceToInt, Int64.reduceToInt, Int.not_lt, Int.not_le] at c_243
            refine gz_aload_n dX12_goesOn_260 rfl rfl ?_
            refine mg_189 hS dX12_goesOn_261 ?_
            refine gz_iload_n dX12_goesOn_264 rfl rfl ?_
            refine m_iald 66 hS rfl (N := 80) rfl ((by exact vin_T (rfl : x1.toInt = x1.toInt) (by omega) (by omega))) dX12_goesOn_265 ?_
            refine gz_if_eq (tgt := 301) dX12_goesOn_266 (by decide) (fun c_266 => ?_) (fun c_266 => ?_)
            ·
              try simp only [mIn_0, lgc_lt, lgc_gt, lgc_le, lgc_ge, lgc_eq] at c_266
              try simp only [fl_lt, fl_le, fl_eq, fL_w, fL_lt, fL_le, tm1, tm10k, tm9, tm99, Int32.reduceToInt, Int64.reduceToInt, Int.not_lt, Int.not_le] at c_266
              refine gz_aload_n dX12_goesOn_301 rfl rfl ?_
              refine mg_186 hS dX12_goesOn_302 ?_
              refine gz_iload_n dX12_goesOn_305 rfl rfl ?_
              refine gz_lload dX12_goesOn_306 rfl ?_
              refine m_last 65 hS rfl (N := 80) rfl ((by exact vin_T (rfl : x1.toInt = x1.toInt) (by omega) (by omega))) dX12_goesOn_308 (fun f_17 hS_17q => ?_)
              have hS_17 : mS cy m a f0 n z F (va_up G 65 (vp_updL (G 65) (Int32.toNatClampNeg x1) ((((F 54) (Int32.toNatClampNeg ((F 66) (Int32.toNatClampNeg x1)))).toInt64) * (z 67)))) f_17 := hS_17q
              refine gz_aload_n dX12_goesOn_309 rfl rfl ?_
              refine mg_189 hS_17 dX12_goesOn_310 ?_
              refine gz_iload_n dX12_goesOn_313 rfl rfl ?_
              refine gz_dup2 dX12_goesOn_314 rfl rfl ?_
              refine m_iald 66 hS_17 rfl (N := 80) rfl ((by exact vin_T (rfl : x1.toInt = x1.toInt) (by omega) (by omega))) dX12_goesOn_315 ?_
              refine gz_ev (w := .int ((F 66) (Int32.toNatClampNeg x1))) rfl ?_
              refine gz_iconst (v := 1) dX12_goesOn_316 (by decide) ?_
              refine gz_iadd dX12_goesOn_317 ?_
              refine m_iast 66 hS_17 rfl (N := 80) rfl ((by exact vin_T (rfl : x1.toInt = x1.toInt) (by omega) (by omega))) dX12_goesOn_318 (fun f_18 hS_18q => ?_)
              have hS_18 : mS cy m a f0 n z (va_up F 66 (upd (F 66) (Int32.toNatClampNeg x1) (((F 66) (Int32.toNatClampNeg x1)) + 1))) (va_up G 65 (vp_updL (G 65) (Int32.toNatClampNeg x1) ((((F 54) (Int32.toNatClampNeg ((F 66) (Int32.toNatClampNeg x1)))).toInt64) * (z 67)))) f_18 := hS_18q
              refine gz_aload_n dX12_goesOn_319 rfl rfl ?_
              refine gz_iload_n dX12_goesOn_320 rfl rfl ?_
              refine gz_iload_n dX12_goesOn_321 rfl rfl ?_
              have hxw : fx [] [] [66] [65] n z F G n z (va_up F 66 (upd (F 66) (Int32.toNatClampNeg x1) (((F 66) (Int32.toNatClampNeg x1)) + 1))) (va_up G 65 (vp_updL (G 65) (Int32.toNatClampNeg x1) ((((F 54) (Int32.toNatClampNeg ((F 66) (Int32.toNatClampNeg x1)))).toInt64) * (z 67)))) := (fx_F (fx_G fx_rf (by decide)) (by decide))
              have e66 : (va_up F 66 (upd (F 66) (Int32.toNatClampNeg x1) (((F 66) (Int32.toNatClampNeg x1)) + 1))) 66 (Int32.toNatClampNeg x1) = (((F 66) (Int32.toNatClampNeg x1)) + 1) := by show upd (F 66) (Int32.toNatClampNeg x1) (((F 66) (Int32.toNatClampNeg x1)) + 1) (Int32.toNatClampNeg x1) = _; rw [updE, if_pos rfl]
              have q66 : (((F 66) (Int32.toNatClampNeg x1)) + 1).toInt = (F 66 (Int32.toNatClampNeg x1)).toInt + 1 := T_add rfl (show (1 : Int32).toInt = 1 from rfl) (by have := q4_ (by omega); omega)
              have hlo2 : FSt (va_up F 66 (upd (F 66) (Int32.toNatClampNeg x1) (((F 66) (Int32.toNatClampNeg x1)) + 1))) (n 5).toInt dd (Int32.toNatClampNeg x1) r1 P1 := FSt_cg (fun k hk => hxw.2.2.1 k ((by decide : ∀ k : Nat, k ∈ wK → k ∉ ([66] : List Nat)) k hk)) _ _ _ (fun _ _ => rfl) (fun _ _ => rfl) (fun _ _ => rfl) (fun _ _ => rfl) (fun i hi => by show upd (F 66) (Int32.toNatClampNeg x1) (((F 66) (Int32.toNatClampNeg x1)) + 1) i = F 66 i; rw [updE, if_neg (by omega)]) hlo
              refine scX12_474 (k_X12_waitsOn (x1 := x1) (x2 := x2) (r := r) (P1 := P1) hS_18 a5 (rAll_w (fun k hk => hxw.2.2.1 k ((by decide : ∀ k : Nat, k ∈ wK → k ∉ ([66] : List Nat)) k hk)) bA) (rW_w (fun k hk => hxw.2.2.1 k ((by decide : ∀ k : Nat, k ∈ wK → k ∉ ([66] : List Nat)) k hk)) bW) a53 hx1 hd hlo2 hr1 ⟨vW_cg rfl fw, fd, fo, (by rw [szF_w (fun k hk => hxw.2.2.1 k ((by decide : ∀ k : Nat, k ∈ wK → k ∉ ([66] : List Nat)) k hk))]; exact fr_), trivial⟩ (by rw [e66]; have := q4_; omega)) hS_18.1 ⟨(Nat.le_of_ble_eq_true rfl), (Nat.le_of_ble_eq_true rfl)⟩ ⟨(Nat.le_of_ble_eq_true rfl), (Nat.le_of_ble_eq_true rfl)⟩ rfl rfl (Nat.le_of_ble_eq_true rfl) dX12_goesOn_322 ?_
              rintro f_19 ⟨n_19, z_19, F_19, G_19, hS_19, hx19, hz_19, hres_19⟩
              have hxx : fx [57] [67] [58, 59, 60, 62, 64, 66] [61, 63, 65] n z F G n_19 z_19 F_19 G_19 := (fx_tr (fx_F (fx_G fx_rf (by decide)) (by decide)) hx19 (by decide))
              obtain ⟨r9, P9, z1, z2⟩ := hres_19
              rw [e66] at z2
              have z3 := q4_ (by omega)
              rw [show 3 - (((F 66) (Int32.toNatClampNeg x1)) + 1).toInt.toNat = 2 - (F 66 (Int32.toNatClampNeg x1)).toInt.toNat by omega] at z2
              exact gz_vret rfl dX12_goesOn_325 (Nat.le_of_ble_eq_true rfl) (Nat.le_of_ble_eq_true rfl) (⟨rfl, _, _, _, _, hS_19, hxx, hz_19, r9, P9, z1, (by rw [z3.2]; omega)⟩)
            ·
              try simp only [mIn_0, lgc_lt, lgc_gt, lgc_le, lgc_ge, lgc_eq] at c_266
              try simp only [fl_lt, fl_le, fl_eq, fL_w, fL_lt, fL_le, tm1, tm10k, tm9, tm99, Int32.reduceToInt, Int64.reduceToInt, Int.not_lt, Int.not_le] at c_266
              refine gz_iload_n dX12_goesOn_269 rfl rfl ?_
              refine gz_iconst (v := 1) dX12_goesOn_270 (by decide) ?_
              refine gz_icmp_ne (tgt := 289) dX12_goesOn_271 (by decide) (fun c_271 => ?_) (fun c_271 => ?_)
              ·
                try simp only [mIn_0, lgc_lt, lgc_gt, lgc_le, lgc_ge, lgc_eq] at c_271
                try simp only [fl_lt, fl_le, fl_eq, fL_w, fL_lt, fL_le, tm1, tm10k, tm9, tm99, Int32.reduceToInt, Int64.reduceToInt, Int.not_lt, Int.not_le] at c_271
                refine gz_lload dX12_goesOn_289 rfl ?_
                refine gz_aload_n dX12_goesOn_291 rfl rfl ?_
                refine mg_186 hS dX12_goesOn_292 ?_
                refine gz_iload_n dX12_goesOn_295 rfl rfl ?_
                refine m_lald 65 hS rfl (N := 80) rfl ((by exact vin_T (rfl : x1.toInt = x1.toInt) (by omega) (by omega))) dX12_goesOn_296 ?_
                refine gz_lcmp dX12_goesOn_297 ?_
                refine gz_if_le (tgt := 309) dX12_goesOn_298 (by decide) (fun c_298 => ?_) (fun c_298 => ?_)
                ·
                  try simp only [mIn_0, lgc_lt, lgc_gt, lgc_le, lgc_ge, lgc_eq] at c_298
                  try simp only [fl_lt, fl_le, fl_eq, fL_w, fL_lt, fL_le, tm1, tm10k, tm9, tm99, Int32.reduceToInt, Int64.reduceToInt, Int.not_lt, Int.not_le] at c_298
                  refine gz_aload_n dX12_goesOn_309 rfl rfl ?_
                  refine mg_189 hS dX12_goesOn_310 ?_
                  refine gz_iload_n dX12_goesOn_313 rfl rfl ?_
                  refine gz_dup2 dX12_goesOn_314 rfl rfl ?_
                  refine m_iald 66 hS rfl (N := 80) rfl ((by exact vin_T (rfl : x1.toInt = x1.toInt) (by omega) (by omega))) dX12_goesOn_315 ?_
                  refine gz_iconst (v := 1) dX12_goesOn_316 (by decide) ?_
                  refine gz_iadd dX12_goesOn_317 ?_
                  refine m_iast 66 hS rfl (N := 80) rfl ((by exact vin_T (rfl : x1.toInt = x1.toInt) (by omega) (by omega))) dX12_goesOn_318 (fun f_20 hS_20q => ?_)
                  have hS_20 : mS cy m a f0 n z (va_up F 66 (upd (F 66) (Int32.toNatClampNeg x1) (((F 66) (Int32.toNatClampNeg x1)) + 1))) G f_20 := hS_20q
                  refine gz_aload_n dX12_goesOn_319 rfl rfl ?_
                  refine gz_iload_n dX12_goesOn_320 rfl rfl ?_
                  refine gz_iload_n dX12_goesOn_321 rfl rfl ?_
                  have hxw : fx [] [] [66] [65] n z F G n z (va_up F 66 (upd (F 66) (Int32.toNatClampNeg x1) (((F 66) (Int32.toNatClampNeg x1)) + 1))) G := (fx_F fx_rf (by decide))
                  have e66 : (va_up F 66 (upd (F 66) (Int32.toNatClampNeg x1) (((F 66) (Int32.toNatClampNeg x1)) + 1))) 66 (Int32.toNatClampNeg x1) = (((F 66) (Int32.toNatClampNeg x1)) + 1) := by show upd (F 66) (Int32.toNatClampNeg x1) (((F 66) (Int32.toNatClampNeg x1)) + 1) (Int32.toNatClampNeg x1) = _; rw [updE, if_pos rfl]
                  have q66 : (((F 66) (Int32.toNatClampNeg x1)) + 1).toInt = (F 66 (Int32.toNatClampNeg x1)).toInt + 1 := T_add rfl (show (1 : Int32).toInt = 1 from rfl) (by have := q4_ (by omega); omega)
                  have hlo2 : FSt (va_up F 66 (upd (F 66) (Int32.toNatClampNeg x1) (((F 66) (Int32.toNatClampNeg x1)) + 1))) (n 5).toInt dd (Int32.toNatClampNeg x1) r1 P1 := FSt_cg (fun k hk => hxw.2.2.1 k ((by decide : ∀ k : Nat, k ∈ wK → k ∉ ([66] : List Nat)) k hk)) _ _ _ (fun _ _ => rfl) (fun _ _ => rfl) (fun _ _ => rfl) (fun _ _ => rfl) (fun i hi => by show upd (F 66) (Int32.toNatClampNeg x1) (((F 66) (Int32.toNatClampNeg x1)) + 1) i = F 66 i; rw [updE, if_neg (by omega)]) hlo
                  refine scX12_474 (k_X12_waitsOn (x1 := x1) (x2 := x2) (r := r) (P1 := P1) hS_20 a5 (rAll_w (fun k hk => hxw.2.2.1 k ((by decide : ∀ k : Nat, k ∈ wK → k ∉ ([66] : List Nat)) k hk)) bA) (rW_w (fun k hk => hxw.2.2.1 k ((by decide : ∀ k : Nat, k ∈ wK → k ∉ ([66] : List Nat)) k hk)) bW) a53 hx1 hd hlo2 hr1 ⟨vW_cg rfl fw, fd, fo, (by rw [szF_w (fun k hk => hxw.2.2.1 k ((by decide : ∀ k : Nat, k ∈ wK → k ∉ ([66] : List Nat)) k hk))]; exact fr_), trivial⟩ (by rw [e66]; have := q4_; omega)) hS_20.1 ⟨(Nat.le_of_ble_eq_true rfl), (Nat.le_of_ble_eq_true rfl)⟩ ⟨(Nat.le_of_ble_eq_true rfl), (Nat.le_of_ble_eq_true rfl)⟩ rfl rfl (Nat.le_of_ble_eq_true rfl) dX12_goesOn_322 ?_
                  rintro f_21 ⟨n_21, z_21, F_21, G_21, hS_21, hx21, hz_21, hres_21⟩
                  have hxx : fx [57] [67] [58, 59, 60, 62, 64, 66] [61, 63, 65] n z F G n_21 z_21 F_21 G_21 := (fx_tr (fx_F fx_rf (by decide)) hx21 (by decide))
                  obtain ⟨r9, P9, z1, z2⟩ := hres_21
                  rw [e66] at z2
                  have z3 := q4_ (by omega)
                  rw [show 3 - (((F 66) (Int32.toNatClampNeg x1)) + 1).toInt.toNat = 2 - (F 66 (Int32.toNatClampNeg x1)).toInt.toNat by omega] at z2
                  exact gz_vret rfl dX12_goesOn_325 (Nat.le_of_ble_eq_true rfl) (Nat.le_of_ble_eq_true rfl) (⟨rfl, _, _, _, _, hS_21, hxx, hz_21, r9, P9, z1, (by rw [z3.2]; omega)⟩)
                ·
                  try simp only [mIn_0, lgc_lt, lgc_gt, lgc_le, lgc_ge, lgc_eq] at c_298
                  try simp only [fl_lt, fl_le, fl_eq, fL_w, fL_lt, fL_le, tm1, tm10k, tm9, tm99, Int32.reduceToInt, Int64.reduceToInt, Int.not_lt, Int.not_le] at c_298
                  refine gz_aload_n dX12_goesOn_301 rfl rfl ?_
                  refine mg_186 hS dX12_goesOn_302 ?_
                  refine gz_iload_n dX12_goesOn_305 rfl rfl ?_
                  refine gz_lload dX12_goesOn_306 rfl ?_
                  refine m_last 65 hS rfl (N := 80) rfl ((by exact vin_T (rfl : x1.toInt = x1.toInt) (by omega) (by omega))) dX12_goesOn_308 (fun f_22 hS_22q => ?_)
                  have hS_22 : mS cy m a f0 n z F (va_up G 65 (vp_updL (G 65) (Int32.toNatClampNeg x1) ((((F 54) (Int32.toNatClampNeg ((F 66) (Int32.toNatClampNeg x1)))).toInt64) * (z 67)))) f_22 := hS_22q
                  refine gz_aload_n dX12_goesOn_309 rfl rfl ?_
                  refine mg_189 hS_22 dX12_goesOn_310 ?_
                  refine gz_iload_n dX12_goesOn_313 rfl rfl ?_
                  refine gz_dup2 dX12_goesOn_314 rfl rfl ?_
                  refine m_iald 66 hS_22 rfl (N := 80) rfl ((by exact vin_T (rfl : x1.toInt = x1.toInt) (by omega) (by omega))) dX12_goesOn_315 ?_
                  refine gz_ev (w := .int ((F 66) (Int32.toNatClampNeg x1))) rfl ?_
                  refine gz_iconst (v := 1) dX12_goesOn_316 (by decide) ?_
                  refine gz_iadd dX12_goesOn_317 ?_
                  refine m_iast 66 hS_22 rfl (N := 80) rfl ((by exact vin_T (rfl : x1.toInt = x1.toInt) (by omega) (by omega))) dX12_goesOn_318 (fun f_23 hS_23q => ?_)
                  have hS_23 : mS cy m a f0 n z (va_up F 66 (upd (F 66) (Int32.toNatClampNeg x1) (((F 66) (Int32.toNatClampNeg x1)) + 1))) (va_up G 65 (vp_updL (G 65) (Int32.toNatClampNeg x1) ((((F 54) (Int32.toNatClampNeg ((F 66) (Int32.toNatClampNeg x1)))).toInt64) * (z 67)))) f_23 := hS_23q
                  refine gz_aload_n dX12_goesOn_319 rfl rfl ?_
                  refine gz_iload_n dX12_goesOn_320 rfl rfl ?_
                  refine gz_iload_n dX12_goesOn_321 rfl rfl ?_
                  have hxw : fx [] [] [66] [65] n z F G n z (va_up F 66 (upd (F 66) (Int32.toNatClampNeg x1) (((F 66) (Int32.toNatClampNeg x1)) + 1))) (va_up G 65 (vp_updL (G 65) (Int32.toNatClampNeg x1) ((((F 54) (Int32.toNatClampNeg ((F 66) (Int32.toNatClampNeg x1)))).toInt64) * (z 67)))) := (fx_F (fx_G fx_rf (by decide)) (by decide))
                  have e66 : (va_up F 66 (upd (F 66) (Int32.toNatClampNeg x1) (((F 66) (Int32.toNatClampNeg x1)) + 1))) 66 (Int32.toNatClampNeg x1) = (((F 66) (Int32.toNatClampNeg x1)) + 1) := by show upd (F 66) (Int32.toNatClampNeg x1) (((F 66) (Int32.toNatClampNeg x1)) + 1) (Int32.toNatClampNeg x1) = _; rw [updE, if_pos rfl]
                  have q66 : (((F 66) (Int32.toNatClampNeg x1)) + 1).toInt = (F 66 (Int32.toNatClampNeg x1)).toInt + 1 := T_add rfl (show (1 : Int32).toInt = 1 from rfl) (by have := q4_ (by omega); omega)
                  have hlo2 : FSt (va_up F 66 (upd (F 66) (Int32.toNatClampNeg x1) (((F 66) (Int32.toNatClampNeg x1)) + 1))) (n 5).toInt dd (Int32.toNatClampNeg x1) r1 P1 := FSt_cg (fun k hk => hxw.2.2.1 k ((by decide : ∀ k : Nat, k ∈ wK → k ∉ ([66] : List Nat)) k hk)) _ _ _ (fun _ _ => rfl) (fun _ _ => rfl) (fun _ _ => rfl) (fun _ _ => rfl) (fun i hi => by show upd (F 66) (Int32.toNatClampNeg x1) (((F 66) (Int32.toNatClampNeg x1)) + 1) i = F 66 i; rw [updE, if_neg (by omega)]) hlo
                  refine scX12_474 (k_X12_waitsOn (x1 := x1) (x2 := x2) (r := r) (P1 := P1) hS_23 a5 (rAll_w (fun k hk => hxw.2.2.1 k ((by decide : ∀ k : Nat, k ∈ wK → k ∉ ([66] : List Nat)) k hk)) bA) (rW_w (fun k hk => hxw.2.2.1 k ((by decide : ∀ k : Nat, k ∈ wK → k ∉ ([66] : List Nat)) k hk)) bW) a53 hx1 hd hlo2 hr1 ⟨vW_cg rfl fw, fd, fo, (by rw [szF_w (fun k hk => hxw.2.2.1 k ((by decide : ∀ k : Nat, k ∈ wK → k ∉ ([66] : List Nat)) k hk))]; exact fr_), trivial⟩ (by rw [e66]; have := q4_; omega)) hS_23.1 ⟨(Nat.le_of_ble_eq_true rfl), (Nat.le_of_ble_eq_true rfl)⟩ ⟨(Nat.le_of_ble_eq_true rfl), (Nat.le_of_ble_eq_true rfl)⟩ rfl rfl (Nat.le_of_ble_eq_true rfl) dX12_goesOn_322 ?_
                  rintro f_24 ⟨n_24, z_24, F_24, G_24, hS_24, hx24, hz_24, hres_24⟩
                  have hxx : fx [57] [67] [58, 59, 60, 62, 64, 66] [61, 63, 65] n z F G n_24 z_24 F_24 G_24 := (fx_tr (fx_F (fx_G fx_rf (by decide)) (by decide)) hx24 (by decide))
                  obtain ⟨r9, P9, z1, z2⟩ := hres_24
                  rw [e66] at z2
                  have z3 := q4_ (by omega)
                  rw [show 3 - (((F 66) (Int32.toNatClampNeg x1)) + 1).toInt.toNat = 2 - (F 66 (Int32.toNatClampNeg x1)).toInt.toNat by omega] at z2
                  exact gz_vret rfl dX12_goesOn_325 (Nat.le_of_ble_eq_true rfl) (Nat.le_of_ble_eq_true rfl) (⟨rfl, _, _, _, _, hS_24, hxx, hz_24, r9, P9, z1, (by rw [z3.2]; omega)⟩)
              ·
                try simp only [mIn_0, lgc_lt, lgc_gt, lgc_le, lgc_ge, lgc_eq] at c_271
                try simp only [fl_lt, fl_le, fl_eq, fL_w, fL_lt, fL_le, tm1, tm10k, tm9, tm99, Int32.reduceToInt, Int64.reduceToInt, Int.not_lt, Int.not_le] at c_271
                refine gz_lload dX12_goesOn_274 rfl ?_
                refine gz_aload_n dX12_goesOn_276 rfl rfl ?_
                refine mg_186 hS dX12_goesOn_277 ?_
                refine gz_iload_n dX12_goesOn_280 rfl rfl ?_
                refine m_lald 65 hS rfl (N := 80) rfl ((by exact vin_T (rfl : x1.toInt = x1.toInt) (by omega) (by omega))) dX12_goesOn_281 ?_
                refine gz_lcmp dX12_goesOn_282 ?_
                refine gz_if_ge (tgt := 309) dX12_goesOn_283 (by decide) (fun c_283 => ?_) (fun c_283 => ?_)
                ·
                  try simp only [mIn_0, lgc_lt, lgc_gt, lgc_le, lgc_ge, lgc_eq] at c_283
                  try simp only [fl_lt, fl_le, fl_eq, fL_w, fL_lt, fL_le, tm1, tm10k, tm9, tm99, Int32.reduceToInt, Int64.reduceToInt, Int.not_lt, Int.not_le] at c_283
                  refine gz_aload_n dX12_goesOn_309 rfl rfl ?_
                  refine mg_189 hS dX12_goesOn_310 ?_
                  refine gz_iload_n dX12_goesOn_313 rfl rfl ?_
                  refine gz_dup2 dX12_goesOn_314 rfl rfl ?_
                  refine m_iald 66 hS rfl (N := 80) rfl ((by exact vin_T (rfl : x1.toInt = x1.toInt) (by omega) (by omega))) dX12_goesOn_315 ?_
                  refine gz_iconst (v := 1) dX12_goesOn_316 (by decide) ?_
                  refine gz_iadd dX12_goesOn_317 ?_
                  refine m_iast 66 hS rfl (N := 80) rfl ((by exact vin_T (rfl : x1.toInt = x1.toInt) (by omega) (by omega))) dX12_goesOn_318 (fun f_25 hS_25q => ?_)
                  have hS_25 : mS cy m a f0 n z (va_up F 66 (upd (F 66) (Int32.toNatClampNeg x1) (((F 66) (Int32.toNatClampNeg x1)) + 1))) G f_25 := hS_25q
                  refine gz_aload_n dX12_goesOn_319 rfl rfl ?_
                  refine gz_iload_n dX12_goesOn_320 rfl rfl ?_
                  refine gz_iload_n dX12_goesOn_321 rfl rfl ?_
                  have hxw : fx [] [] [66] [65] n z F G n z (va_up F 66 (upd (F 66) (Int32.toNatClampNeg x1) (((F 66) (Int32.toNatClampNeg x1)) + 1))) G := (fx_F fx_rf (by decide))
                  have e66 : (va_up F 66 (upd (F 66) (Int32.toNatClampNeg x1) (((F 66) (Int32.toNatClampNeg x1)) + 1))) 66 (Int32.toNatClampNeg x1) = (((F 66) (Int32.toNatClampNeg x1)) + 1) := by show upd (F 66) (Int32.toNatClampNeg x1) (((F 66) (Int32.toNatClampNeg x1)) + 1) (Int32.toNatClampNeg x1) = _; rw [updE, if_pos rfl]
                  have q66 : (((F 66) (Int32.toNatClampNeg x1)) + 1).toInt = (F 66 (Int32.toNatClampNeg x1)).toInt + 1 := T_add rfl (show (1 : Int32).toInt = 1 from rfl) (by have := q4_ (by omega); omega)
                  have hlo2 : FSt (va_up F 66 (upd (F 66) (Int32.toNatClampNeg x1) (((F 66) (Int32.toNatClampNeg x1)) + 1))) (n 5).toInt dd (Int32.toNatClampNeg x1) r1 P1 := FSt_cg (fun k hk => hxw.2.2.1 k ((by decide : ∀ k : Nat, k ∈ wK → k ∉ ([66] : List Nat)) k hk)) _ _ _ (fun _ _ => rfl) (fun _ _ => rfl) (fun _ _ => rfl) (fun _ _ => rfl) (fun i hi => by show upd (F 66) (Int32.toNatClampNeg x1) (((F 66) (Int32.toNatClampNeg x1)) + 1) i = F 66 i; rw [updE, if_neg (by omega)]) hlo
                  refine scX12_474 (k_X12_waitsOn (x1 := x1) (x2 := x2) (r := r) (P1 := P1) hS_25 a5 (rAll_w (fun k hk => hxw.2.2.1 k ((by decide : ∀ k : Nat, k ∈ wK → k ∉ ([66] : List Nat)) k hk)) bA) (rW_w (fun k hk => hxw.2.2.1 k ((by decide : ∀ k : Nat, k ∈ wK → k ∉ ([66] : List Nat)) k hk)) bW) a53 hx1 hd hlo2 hr1 ⟨vW_cg rfl fw, fd, fo, (by rw [szF_w (fun k hk => hxw.2.2.1 k ((by decide : ∀ k : Nat, k ∈ wK → k ∉ ([66] : List Nat)) k hk))]; exact fr_), trivial⟩ (by rw [e66]; have := q4_; omega)) hS_25.1 ⟨(Nat.le_of_ble_eq_true rfl), (Nat.le_of_ble_eq_true rfl)⟩ ⟨(Nat.le_of_ble_eq_true rfl), (Nat.le_of_ble_eq_true rfl)⟩ rfl rfl (Nat.le_of_ble_eq_true rfl) dX12_goesOn_322 ?_
                  rintro f_26 ⟨n_26, z_26, F_26, G_26, hS_26, hx26, hz_26, hres_26⟩
                  have hxx : fx [57] [67] [58, 59, 60, 62, 64, 66] [61, 63, 65] n z F G n_26 z_26 F_26 G_26 := (fx_tr (fx_F fx_rf (by decide)) hx26 (by decide))
                  obtain ⟨r9, P9, z1, z2⟩ := hres_26
                  rw [e66] at z2
                  have z3 := q4_ (by omega)
                  rw [show 3 - (((F 66) (Int32.toNatClampNeg x1)) + 1).toInt.toNat = 2 - (F 66 (Int32.toNatClampNeg x1)).toInt.toNat by omega] at z2
                  exact gz_vret rfl dX12_goesOn_325 (Nat.le_of_ble_eq_true rfl) (Nat.le_of_ble_eq_true rfl) (⟨rfl, _, _, _, _, hS_26, hxx, hz_26, r9, P9, z1, (by rw [z3.2]; omega)⟩)
                ·
                  try simp only [mIn_0, lgc_lt, lgc_gt, lgc_le, lgc_ge, lgc_eq] at c_283
                  try simp only [fl_lt, fl_le, fl_eq, fL_w, fL_lt, fL_le, tm1, tm10k, tm9, tm99, Int32.reduceToInt, Int64.reduceToInt, Int.not_lt, Int.not_le] at c_283
                  refine gz_goto (tgt := 301) dX12_goesOn_286 (by decide) ?_
                  refine gz_aload_n dX12_goesOn_301 rfl rfl ?_
                  refine mg_186 hS dX12_goesOn_302 ?_
                  refine gz_iload_n dX12_goesOn_305 rfl rfl ?_
                  refine gz_lload dX12_goesOn_306 rfl ?_
                  refine m_last 65 hS rfl (N := 80) rfl ((by exact vin_T (rfl : x1.toInt = x1.toInt) (by omega) (by omega))) dX12_goesOn_308 (fun f_27 hS_27q => ?_)
                  have hS_27 : mS cy m a f0 n z F (va_up G 65 (vp_updL (G 65) (Int32.toNatClampNeg x1) ((((F 54) (Int32.toNatClampNeg ((F 66) (Int32.toNatClampNeg x1)))).toInt64) * (z 67)))) f_27 := hS_27q
                  refine gz_aload_n dX12_goesOn_309 rfl rfl ?_
                  refine mg_189 hS_27 dX12_goesOn_310 ?_
                  refine gz_iload_n dX12_goesOn_313 rfl rfl ?_
                  refine gz_dup2 dX12_goesOn_314 rfl rfl ?_
                  refine m_iald 66 hS_27 rfl (N := 80) rfl ((by exact vin_T (rfl : x1.toInt = x1.toInt) (by omega) (by omega))) dX12_goesOn_315 ?_
                  refine gz_ev (w := .int ((F 66) (Int32.toNatClampNeg x1))) rfl ?_
                  refine gz_iconst (v := 1) dX12_goesOn_316 (by decide) ?_
                  refine gz_iadd dX12_goesOn_317 ?_
                  refine m_iast 66 hS_27 rfl (N := 80) rfl ((by exact vin_T (rfl : x1.toInt = x1.toInt) (by omega) (by omega))) dX12_goesOn_318 (fun f_28 hS_28q => ?_)
                  have hS_28 : mS cy m a f0 n z (va_up F 66 (upd (F 66) (Int32.toNatClampNeg x1) (((F 66) (Int32.toNatClampNeg x1)) + 1))) (va_up G 65 (vp_updL (G 65) (Int32.toNatClampNeg x1) ((((F 54) (Int32.toNatClampNeg ((F 66) (Int32.toNatClampNeg x1)))).toInt64) * (z 67)))) f_28 := hS_28q
                  refine gz_aload_n dX12_goesOn_319 rfl rfl ?_
                  refine gz_iload_n dX12_goesOn_320 rfl rfl ?_
                  refine gz_iload_n dX12_goesOn_321 rfl rfl ?_
                  have hxw : fx [] [] [66] [65] n z F G n z (va_up F 66 (upd (F 66) (Int32.toNatClampNeg x1) (((F 66) (Int32.toNatClampNeg x1)) + 1))) (va_up G 65 (vp_updL (G 65) (Int32.toNatClampNeg x1) ((((F 54) (Int32.toNatClampNeg ((F 66) (Int32.toNatClampNeg x1)))).toInt64) * (z 67)))) := (fx_F (fx_G fx_rf (by decide)) (by decide))
                  have e66 : (va_up F 66 (upd (F 66) (Int32.toNatClampNeg x1) (((F 66) (Int32.toNatClampNeg x1)) + 1))) 66 (Int32.toNatClampNeg x1) = (((F 66) (Int32.toNatClampNeg x1)) + 1) := by show upd (F 66) (Int32.toNatClampNeg x1) (((F 66) (Int32.toNatClampNeg x1)) + 1) (Int32.toNatClampNeg x1) = _; rw [updE, if_pos rfl]
                  have q66 : (((F 66) (Int32.toNatClampNeg x1)) + 1).toInt = (F 66 (Int32.toNatClampNeg x1)).toInt + 1 := T_add rfl (show (1 : Int32).toInt = 1 from rfl) (by have := q4_ (by omega); omega)
                  have hlo2 : FSt (va_up F 66 (upd (F 66) (Int32.toNatClampNeg x1) (((F 66) (Int32.toNatClampNeg x1)) + 1))) (n 5).toInt dd (Int32.toNatClampNeg x1) r1 P1 := FSt_cg (fun k hk => hxw.2.2.1 k ((by decide : ∀ k : Nat, k ∈ wK → k ∉ ([66] : List Nat)) k hk)) _ _ _ (fun _ _ => rfl) (fun _ _ => rfl) (fun _ _ => rfl) (fun _ _ => rfl) (fun i hi => by show upd (F 66) (Int32.toNatClampNeg x1) (((F 66) (Int32.toNatClampNeg x1)) + 1) i = F 66 i; rw [updE, if_neg (by omega)]) hlo
                  refine scX12_474 (k_X12_waitsOn (x1 := x1) (x2 := x2) (r := r) (P1 := P1) hS_28 a5 (rAll_w (fun k hk => hxw.2.2.1 k ((by decide : ∀ k : Nat, k ∈ wK → k ∉ ([66] : List Nat)) k hk)) bA) (rW_w (fun k hk => hxw.2.2.1 k ((by decide : ∀ k : Nat, k ∈ wK → k ∉ ([66] : List Nat)) k hk)) bW) a53 hx1 hd hlo2 hr1 ⟨vW_cg rfl fw, fd, fo, (by rw [szF_w (fun k hk => hxw.2.2.1 k ((by decide : ∀ k : Nat, k ∈ wK → k ∉ ([66] : List Nat)) k hk))]; exact fr_), trivial⟩ (by rw [e66]; have := q4_; omega)) hS_28.1 ⟨(Nat.le_of_ble_eq_true rfl), (Nat.le_of_ble_eq_true rfl)⟩ ⟨(Nat.le_of_ble_eq_true rfl), (Nat.le_of_ble_eq_true rfl)⟩ rfl rfl (Nat.le_of_ble_eq_true rfl) dX12_goesOn_322 ?_
                  rintro f_29 ⟨n_29, z_29, F_29, G_29, hS_29, hx29, hz_29, hres_29⟩
                  have hxx : fx [57] [67] [58, 59, 60, 62, 64, 66] [61, 63, 65] n z F G n_29 z_29 F_29 G_29 := (fx_tr (fx_F (fx_G fx_rf (by decide)) (by decide)) hx29 (by decide))
                  obtain ⟨r9, P9, z1, z2⟩ := hres_29
                  rw [e66] at z2
                  have z3 := q4_ (by omega)
                  rw [show 3 - (((F 66) (Int32.toNatClampNeg x1)) + 1).toInt.toNat = 2 - (F 66 (Int32.toNatClampNeg x1)).toInt.toNat by omega] at z2
                  exact gz_vret rfl dX12_goesOn_325 (Nat.le_of_ble_eq_true rfl) (Nat.le_of_ble_eq_true rfl) (⟨rfl, _, _, _, _, hS_29, hxx, hz_29, r9, P9, z1, (by rw [z3.2]; omega)⟩)
          ·
            try simp only [mIn_0, lgc_lt, lgc_gt, lgc_le, lgc_ge, lgc_eq] at c_243
            try simp only [fl_lt, fl_le, fl_eq, fL_w, fL_lt, fL_le, tm1, tm10k, tm9, tm99, Int32.reduceToInt, Int64.reduceToInt, Int.not_lt, Int.not_le] at c_243
            refine gz_aload_n dX12_goesOn_246 rfl rfl ?_
            refine mg_186 hS dX12_goesOn_247 ?_
            refine gz_iload_n dX12_goesOn_250 rfl rfl ?_
            refine gz_dup2 dX12_goesOn_251 rfl rfl ?_
            refine m_lald 65 hS rfl (N := 80) rfl ((by exact vin_T (rfl : x1.toInt = x1.toInt) (by omega) (by omega))) dX12_goesOn_252 ?_
            refine gz_lload dX12_goesOn_253 rfl ?_
            refine gz_ladd dX12_goesOn_255 ?_
            refine m_last 65 hS rfl (N := 80) rfl ((by exact vin_T (rfl : x1.toInt = x1.toInt) (by omega) (by omega))) dX12_goesOn_256 (fun f_30 hS_30q => ?_)
            have hS_30 : mS cy m a f0 n z F (va_up G 65 (vp_updL (G 65) (Int32.toNatClampNeg x1) (((G 65) (Int32.toNatClampNeg x1)) + ((((F 54) (Int32.toNatClampNeg ((F 66) (Int32.toNatClampNeg x1)))).toInt64) * (z 67))))) f_30 := hS_30q
            refine gz_goto (tgt := 309) dX12_goesOn_257 (by decide) ?_
            refine gz_aload_n dX12_goesOn_309 rfl rfl ?_
            refine mg_189 hS_30 dX12_goesOn_310 ?_
            refine gz_iload_n dX12_goesOn_313 rfl rfl ?_
            refine gz_dup2 dX12_goesOn_314 rfl rfl ?_
            refine m_iald 66 hS_30 rfl (N := 80) rfl ((by exact vin_T (rfl : x1.toInt = x1.toInt) (by omega) (by omega))) dX12_goesOn_315 ?_
            refine gz_ev (w := .int ((F 66) (Int32.toNatClampNeg x1))) rfl ?_
            refine gz_iconst (v := 1) dX12_goesOn_316 (by decide) ?_
            refine gz_iadd dX12_goesOn_317 ?_
            refine m_iast 66 hS_30 rfl (N := 80) rfl ((by exact vin_T (rfl : x1.toInt = x1.toInt) (by omega) (by omega))) dX12_goesOn_318 (fun f_31 hS_31q => ?_)
            have hS_31 : mS cy m a f0 n z (va_up F 66 (upd (F 66) (Int32.toNatClampNeg x1) (((F 66) (Int32.toNatClampNeg x1)) + 1))) (va_up G 65 (vp_updL (G 65) (Int32.toNatClampNeg x1) (((G 65) (Int32.toNatClampNeg x1)) + ((((F 54) (Int32.toNatClampNeg ((F 66) (Int32.toNatClampNeg x1)))).toInt64) * (z 67))))) f_31 := hS_31q
            refine gz_aload_n dX12_goesOn_319 rfl rfl ?_
            refine gz_iload_n dX12_goesOn_320 rfl rfl ?_
            refine gz_iload_n dX12_goesOn_321 rfl rfl ?_
            have hxw : fx [] [] [66] [65] n z F G n z (va_up F 66 (upd (F 66) (Int32.toNatClampNeg x1) (((F 66) (Int32.toNatClampNeg x1)) + 1))) (va_up G 65 (vp_updL (G 65) (Int32.toNatClampNeg x1) (((G 65) (Int32.toNatClampNeg x1)) + ((((F 54) (Int32.toNatClampNeg ((F 66) (Int32.toNatClampNeg x1)))).toInt64) * (z 67))))) := (fx_F (fx_G fx_rf (by decide)) (by decide))
            have e66 : (va_up F 66 (upd (F 66) (Int32.toNatClampNeg x1) (((F 66) (Int32.toNatClampNeg x1)) + 1))) 66 (Int32.toNatClampNeg x1) = (((F 66) (Int32.toNatClampNeg x1)) + 1) := by show upd (F 66) (Int32.toNatClampNeg x1) (((F 66) (Int32.toNatClampNeg x1)) + 1) (Int32.toNatClampNeg x1) = _; rw [updE, if_pos rfl]
            have q66 : (((F 66) (Int32.toNatClampNeg x1)) + 1).toInt = (F 66 (Int32.toNatClampNeg x1)).toInt + 1 := T_add rfl (show (1 : Int32).toInt = 1 from rfl) (by have := q4_ (by omega); omega)
            have hlo2 : FSt (va_up F 66 (upd (F 66) (Int32.toNatClampNeg x1) (((F 66) (Int32.toNatClampNeg x1)) + 1))) (n 5).toInt dd (Int32.toNatClampNeg x1) r1 P1 := FSt_cg (fun k hk => hxw.2.2.1 k ((by decide : ∀ k : Nat, k ∈ wK → k ∉ ([66] : List Nat)) k hk)) _ _ _ (fun _ _ => rfl) (fun _ _ => rfl) (fun _ _ => rfl) (fun _ _ => rfl) (fun i hi => by show upd (F 66) (Int32.toNatClampNeg x1) (((F 66) (Int32.toNatClampNeg x1)) + 1) i = F 66 i; rw [updE, if_neg (by omega)]) hlo
            refine scX12_474 (k_X12_waitsOn (x1 := x1) (x2 := x2) (r := r) (P1 := P1) hS_31 a5 (rAll_w (fun k hk => hxw.2.2.1 k ((by decide : ∀ k : Nat, k ∈ wK → k ∉ ([66] : List Nat)) k hk)) bA) (rW_w (fun k hk => hxw.2.2.1 k ((by decide : ∀ k : Nat, k ∈ wK → k ∉ ([66] : List Nat)) k hk)) bW) a53 hx1 hd hlo2 hr1 ⟨vW_cg rfl fw, fd, fo, (by rw [szF_w (fun k hk => hxw.2.2.1 k ((by decide : ∀ k : Nat, k ∈ wK → k ∉ ([66] : List Nat)) k hk))]; exact fr_), trivial⟩ (by rw [e66]; have := q4_; omega)) hS_31.1 ⟨(Nat.le_of_ble_eq_true rfl), (Nat.le_of_ble_eq_true rfl)⟩ ⟨(Nat.le_of_ble_eq_true rfl), (Nat.le_of_ble_eq_true rfl)⟩ rfl rfl (Nat.le_of_ble_eq_true rfl) dX12_goesOn_322 ?_
            rintro f_32 ⟨n_32, z_32, F_32, G_32, hS_32, hx32, hz_32, hres_32⟩
            have hxx : fx [57] [67] [58, 59, 60, 62, 64, 66] [61, 63, 65] n z F G n_32 z_32 F_32 G_32 := (fx_tr (fx_F (fx_G fx_rf (by decide)) (by decide)) hx32 (by decide))
            obtain ⟨r9, P9, z1, z2⟩ := hres_32
            rw [e66] at z2
            have z3 := q4_ (by omega)
            rw [show 3 - (((F 66) (Int32.toNatClampNeg x1)) + 1).toInt.toNat = 2 - (F 66 (Int32.toNatClampNeg x1)).toInt.toNat by omega] at z2
            exact gz_vret rfl dX12_goesOn_325 (Nat.le_of_ble_eq_true rfl) (Nat.le_of_ble_eq_true rfl) (⟨rfl, _, _, _, _, hS_32, hxx, hz_32, r9, P9, z1, (by rw [z3.2]; omega)⟩)
      ·
        try simp only [mIn_0, lgc_lt, lgc_gt, lgc_le, lgc_ge, lgc_eq] at c_186
        try simp only [fl_lt, fl_le, fl_eq, fL_w, fL_lt, fL_le, tm1, tm10k, tm9, tm99, Int32.reduceToInt, Int64.reduceToInt, Int.not_lt, Int.not_le] at c_186
        refine gz_aload_n dX12_goesOn_189 rfl rfl ?_
        refine mg_189 hS dX12_goesOn_190 ?_
        refine gz_iload_n dX12_goesOn_193 rfl rfl ?_
        refine gz_iconst (v := 0) dX12_goesOn_194 (by decide) ?_
        refine m_iast 66 hS rfl (N := 80) rfl ((by exact vin_T (rfl : x1.toInt = x1.toInt) (by omega) (by omega))) dX12_goesOn_195 (fun f_33 hS_33q => ?_)
        have hS_33 : mS cy m a f0 n z (va_up F 66 (upd (F 66) (Int32.toNatClampNeg x1) 0)) G f_33 := hS_33q
        refine gz_aload_n dX12_goesOn_196 rfl rfl ?_
        refine mg_186 hS_33 dX12_goesOn_197 ?_
        refine gz_iload_n dX12_goesOn_200 rfl rfl ?_
        refine gz_lconst (v := 0) dX12_goesOn_201 (by decide) ?_
        refine m_last 65 hS_33 rfl (N := 80) rfl ((by exact vin_T (rfl : x1.toInt = x1.toInt) (by omega) (by omega))) dX12_goesOn_202 (fun f_34 hS_34q => ?_)
        have hS_34 : mS cy m a f0 n z (va_up F 66 (upd (F 66) (Int32.toNatClampNeg x1) 0)) (va_up G 65 (vp_updL (G 65) (Int32.toNatClampNeg x1) 0)) f_34 := hS_34q
        refine gz_aload_n dX12_goesOn_203 rfl rfl ?_
        refine gz_iload_n dX12_goesOn_204 rfl rfl ?_
        refine gz_iload_n dX12_goesOn_205 rfl rfl ?_
        have hxw : fx [] [] [66] [65] n z F G n z (va_up F 66 (upd (F 66) (Int32.toNatClampNeg x1) 0)) (va_up G 65 (vp_updL (G 65) (Int32.toNatClampNeg x1) 0)) := (fx_G (fx_F fx_rf (by decide)) (by decide))
        have e66 : (va_up F 66 (upd (F 66) (Int32.toNatClampNeg x1) 0)) 66 (Int32.toNatClampNeg x1) = 0 := by show upd (F 66) (Int32.toNatClampNeg x1) 0 (Int32.toNatClampNeg x1) = _; rw [updE, if_pos rfl]
        have q66 : (0 : Int32).toInt = 0 := rfl
        have hlo2 : FSt (va_up F 66 (upd (F 66) (Int32.toNatClampNeg x1) 0)) (n 5).toInt dd (Int32.toNatClampNeg x1) r1 P1 := FSt_cg (fun k hk => hxw.2.2.1 k ((by decide : ∀ k : Nat, k ∈ wK → k ∉ ([66] : List Nat)) k hk)) _ _ _ (fun _ _ => rfl) (fun _ _ => rfl) (fun _ _ => rfl) (fun _ _ => rfl) (fun i hi => by show upd (F 66) (Int32.toNatClampNeg x1) 0 i = F 66 i; rw [updE, if_neg (by omega)]) hlo
        refine scX12_474 (k_X12_waitsOn (x1 := x1) (x2 := x2) (r := r) (P1 := P1) hS_34 a5 (rAll_w (fun k hk => hxw.2.2.1 k ((by decide : ∀ k : Nat, k ∈ wK → k ∉ ([66] : List Nat)) k hk)) bA) (rW_w (fun k hk => hxw.2.2.1 k ((by decide : ∀ k : Nat, k ∈ wK → k ∉ ([66] : List Nat)) k hk)) bW) a53 hx1 hd hlo2 hr1 ⟨vW_cg rfl fw, fd, fo, (by rw [szF_w (fun k hk => hxw.2.2.1 k ((by decide : ∀ k : Nat, k ∈ wK → k ∉ ([66] : List Nat)) k hk))]; exact fr_), trivial⟩ (by rw [e66]; have := q4_; omega)) hS_34.1 ⟨(Nat.le_of_ble_eq_true rfl), (Nat.le_of_ble_eq_true rfl)⟩ ⟨(Nat.le_of_ble_eq_true rfl), (Nat.le_of_ble_eq_true rfl)⟩ rfl rfl (Nat.le_of_ble_eq_true rfl) dX12_goesOn_206 ?_
        rintro f_35 ⟨n_35, z_35, F_35, G_35, hS_35, hx35, hz_35, hres_35⟩
        refine gz_goto (tgt := 325) dX12_goesOn_209 (by decide) ?_
        have hxx : fx [57] [67] [58, 59, 60, 62, 64, 66] [61, 63, 65] n z F G n_35 z_35 F_35 G_35 := (fx_tr (fx_G (fx_F fx_rf (by decide)) (by decide)) hx35 (by decide))
        obtain ⟨r9, P9, z1, z2⟩ := hres_35
        rw [e66] at z2
        have z3 := q3_ (by omega)
        rw [show 3 - (0 : Int32).toInt.toNat = 3 from rfl] at z2
        exact gz_vret rfl dX12_goesOn_325 (Nat.le_of_ble_eq_true rfl) (Nat.le_of_ble_eq_true rfl) (⟨rfl, _, _, _, _, hS_35, hxx, hz_35, r9, P9, z1, (by omega)⟩)
    ·
      try simp only [mIn_0, lgc_lt, lgc_gt, lgc_le, lgc_ge, lgc_eq] at c_125
      try simp only [fl_lt, fl_le, fl_eq, fL_w, fL_lt, fL_le, tm1, tm10k, tm9, tm99, Int32.reduceToInt, Int64.reduceToInt, Int.not_lt, Int.not_le] at c_125
      refine gz_aload_n dX12_goesOn_128 rfl rfl ?_
      refine gz_aload_n dX12_goesOn_129 rfl rfl ?_
      refine mg_20 hS dX12_goesOn_130 ?_
      refine gz_iload dX12_goesOn_133 rfl ?_
      refine m_iald 7 hS rfl (N := 880) rfl ((by exact vin_T (rfl : (((F 58) (Int32.toNatClampNeg x1))).toInt = (((F 58) (Int32.toNatClampNeg x1))).toInt) (by omega) (by omega))) dX12_goesOn_135 ?_
      refine gz_iconst (v := 3) dX12_goesOn_136 (by decide) ?_
      refine gz_icmp_ne (tgt := 154) dX12_goesOn_137 (by decide) (fun c_137 => ?_) (fun c_137 => ?_)
      ·
        try simp only [mIn_0, lgc_lt, lgc_gt, lgc_le, lgc_ge, lgc_eq] at c_137
        try simp only [fl_lt, fl_le, fl_eq, fL_w, fL_lt, fL_le, tm1, tm10k, tm9, tm99, Int32.reduceToInt, Int64.reduceToInt, Int.not_lt, Int.not_le] at c_137
        refine gz_aload_n dX12_goesOn_154 rfl rfl ?_
        refine gz_iload dX12_goesOn_155 rfl ?_
        refine scX12_413 (k_X12_chooser (x1 := (F 58 (Int32.toNatClampNeg x1))) hS a5 bA bW fw) hS.1 ⟨(Nat.le_of_ble_eq_true rfl), (Nat.le_of_ble_eq_true rfl)⟩ ⟨(Nat.le_of_ble_eq_true rfl), (Nat.le_of_ble_eq_true rfl)⟩ rfl rfl (Nat.le_of_ble_eq_true rfl) dX12_goesOn_157 ?_
        rintro r_36 f9 ⟨-, y9⟩; rw [y9]
        refine gz_aload_n dX12_goesOn_160 rfl rfl ?_
        refine mg_179 hS dX12_goesOn_161 ?_
        refine gz_iload_n dX12_goesOn_164 rfl rfl ?_
        refine m_lald 63 hS rfl (N := 80) rfl ((by exact vin_T (rfl : x1.toInt = x1.toInt) (by omega) (by omega))) dX12_goesOn_165 ?_
        refine gz_aload_n dX12_goesOn_166 rfl rfl ?_
        refine mg_450 hS dX12_goesOn_167 ?_
        refine scX12_470 (k_X12_better) ⟨(Nat.le_of_ble_eq_true rfl), (Nat.le_of_ble_eq_true rfl)⟩ ⟨(Nat.le_of_ble_eq_true rfl), (Nat.le_of_ble_eq_true rfl)⟩ rfl rfl (Nat.le_of_ble_eq_true rfl) dX12_goesOn_170 ?_
        rintro r_b170 f9 ⟨-, y9⟩; rw [y9]
        refine scX12_456 (k_X12_answers hS) hS.1 ⟨(Nat.le_of_ble_eq_true rfl), (Nat.le_of_ble_eq_true rfl)⟩ ⟨(Nat.le_of_ble_eq_true rfl), (Nat.le_of_ble_eq_true rfl)⟩ rfl rfl (Nat.le_of_ble_eq_true rfl) dX12_goesOn_173 ?_
        rintro f_37 ⟨n_37, z_37, F_37, G_37, hS_37, hx37, g57_37⟩
        refine gz_goto (tgt := 325) dX12_goesOn_176 (by decide) ?_
        have hxx : fx [57] [67] [58, 59, 60, 62, 64, 66] [61, 63, 65] n z F G n_37 z_37 F_37 G_37 := (fx_tr fx_rf hx37 (by decide))
        have hlo9 : FSt F_37 (n 5).toInt dd (Int32.toNatClampNeg x1) r1 P1 := FSt_cg (fun k hk => hxx.2.2.1 k ((by decide : ∀ k : Nat, k ∈ wK → k ∉ ([58, 59, 60, 62, 64, 66] : List Nat)) k hk)) _ _ _ (fun i hi => by rw [(show F_37 58 = (F 58) from (hx37.2.2.1 58 (by decide)))]) (fun i hi => by rw [(show F_37 59 = (F 59) from (hx37.2.2.1 59 (by decide)))]) (fun i hi => by rw [(show F_37 60 = (F 60) from (hx37.2.2.1 60 (by decide)))]) (fun i hi => by rw [(show F_37 62 = (F 62) from (hx37.2.2.1 62 (by decide)))]) (fun i hi => by rw [(show F_37 66 = (F 66) from (hx37.2.2.1 66 (by decide)))]) hlo
        have e5 : n_37 5 = n 5 := hxx.1 5 (by decide)
        have e57 : (n_37 57).toInt = x1.toInt + 0 := (by (try rw [(show n_37 57 = ((n 57) - 1) from g57_37)]); have q1_ := (T_sub (rfl : ((n 57)).toInt = ((n 57)).toInt) (show (1 : Int32).toInt = 1 from rfl) (by omega)); omega)
        have e57n : (n_37 57).toInt.toNat = (Int32.toNatClampNeg x1) + 0 := by omega
        exact gz_vret rfl dX12_goesOn_325 (Nat.le_of_ble_eq_true rfl) (Nat.le_of_ble_eq_true rfl) (⟨rfl, _, _, _, _, hS_37, hxx, by omega, r1, P1, by rw [e57n, e5]; exact hlo9, (by have := q2_ (by omega); omega)⟩)
      ·
        try simp only [mIn_0, lgc_lt, lgc_gt, lgc_le, lgc_ge, lgc_eq] at c_137
        try simp only [fl_lt, fl_le, fl_eq, fL_w, fL_lt, fL_le, tm1, tm10k, tm9, tm99, Int32.reduceToInt, Int64.reduceToInt, Int.not_lt, Int.not_le] at c_137
        refine gz_aload_n dX12_goesOn_140 rfl rfl ?_
        refine mg_179 hS dX12_goesOn_141 ?_
        refine gz_iload_n dX12_goesOn_144 rfl rfl ?_
        refine m_lald 63 hS rfl (N := 80) rfl ((by exact vin_T (rfl : x1.toInt = x1.toInt) (by omega) (by omega))) dX12_goesOn_145 ?_
        refine gz_aload_n dX12_goesOn_146 rfl rfl ?_
        refine mg_450 hS dX12_goesOn_147 ?_
        refine gz_ladd dX12_goesOn_150 ?_
        refine gz_goto (tgt := 173) dX12_goesOn_151 (by decide) ?_
        refine scX12_456 (k_X12_answers hS) hS.1 ⟨(Nat.le_of_ble_eq_true rfl), (Nat.le_of_ble_eq_true rfl)⟩ ⟨(Nat.le_of_ble_eq_true rfl), (Nat.le_of_ble_eq_true rfl)⟩ rfl rfl (Nat.le_of_ble_eq_true rfl) dX12_goesOn_173 ?_
        rintro f_38 ⟨n_38, z_38, F_38, G_38, hS_38, hx38, g57_38⟩
        refine gz_goto (tgt := 325) dX12_goesOn_176 (by decide) ?_
        have hxx : fx [57] [67] [58, 59, 60, 62, 64, 66] [61, 63, 65] n z F G n_38 z_38 F_38 G_38 := (fx_tr fx_rf hx38 (by decide))
        have hlo9 : FSt F_38 (n 5).toInt dd (Int32.toNatClampNeg x1) r1 P1 := FSt_cg (fun k hk => hxx.2.2.1 k ((by decide : ∀ k : Nat, k ∈ wK → k ∉ ([58, 59, 60, 62, 64, 66] : List Nat)) k hk)) _ _ _ (fun i hi => by rw [(show F_38 58 = (F 58) from (hx38.2.2.1 58 (by decide)))]) (fun i hi => by rw [(show F_38 59 = (F 59) from (hx38.2.2.1 59 (by decide)))]) (fun i hi => by rw [(show F_38 60 = (F 60) from (hx38.2.2.1 60 (by decide)))]) (fun i hi => by rw [(show F_38 62 = (F 62) from (hx38.2.2.1 62 (by decide)))]) (fun i hi => by rw [(show F_38 66 = (F 66) from (hx38.2.2.1 66 (by decide)))]) hlo
        have e5 : n_38 5 = n 5 := hxx.1 5 (by decide)
        have e57 : (n_38 57).toInt = x1.toInt + 0 := (by (try rw [(show n_38 57 = ((n 57) - 1) from g57_38)]); have q1_ := (T_sub (rfl : ((n 57)).toInt = ((n 57)).toInt) (show (1 : Int32).toInt = 1 from rfl) (by omega)); omega)
        have e57n : (n_38 57).toInt.toNat = (Int32.toNatClampNeg x1) + 0 := by omega
        exact gz_vret rfl dX12_goesOn_325 (Nat.le_of_ble_eq_true rfl) (Nat.le_of_ble_eq_true rfl) (⟨rfl, _, _, _, _, hS_38, hxx, by omega, r1, P1, by rw [e57n, e5]; exact hlo9, (by have := q2_ (by omega); omega)⟩)
  ·
    try simp only [mIn_0, lgc_lt, lgc_gt, lgc_le, lgc_ge, lgc_eq] at c_15
    try simp only [fl_lt, fl_le, fl_eq, fL_w, fL_lt, fL_le, tm1, tm10k, tm9, tm99, Int32.reduceToInt, Int64.reduceToInt, Int.not_lt, Int.not_le] at c_15
    refine gz_aload_n dX12_goesOn_18 rfl rfl ?_
    refine mg_179 hS dX12_goesOn_19 ?_
    refine gz_iload_n dX12_goesOn_22 rfl rfl ?_
    refine gz_aload_n dX12_goesOn_23 rfl rfl ?_
    refine mg_450 hS dX12_goesOn_24 ?_
    refine m_last 63 hS rfl (N := 80) rfl ((by exact vin_T (rfl : x1.toInt = x1.toInt) (by omega) (by omega))) dX12_goesOn_27 (fun f_39 hS_39q => ?_)
    have hS_39 : mS cy m a f0 n z F (va_up G 63 (vp_updL (G 63) (Int32.toNatClampNeg x1) (z 67))) f_39 := hS_39q
    refine gz_aload_n dX12_goesOn_28 rfl rfl ?_
    refine mg_176 hS_39 dX12_goesOn_29 ?_
    refine gz_iload_n dX12_goesOn_32 rfl rfl ?_
    refine gz_aload_n dX12_goesOn_33 rfl rfl ?_
    refine mg_20 hS_39 dX12_goesOn_34 ?_
    refine gz_iload dX12_goesOn_37 rfl ?_
    refine m_iald 7 hS_39 rfl (N := 880) rfl ((by exact vin_T (rfl : (((F 58) (Int32.toNatClampNeg x1))).toInt = (((F 58) (Int32.toNatClampNeg x1))).toInt) (by omega) (by omega))) dX12_goesOn_39 ?_
    refine gz_ev (w := .int ((F 7) (Int32.toNatClampNeg ((F 58) (Int32.toNatClampNeg x1))))) rfl ?_
    refine gz_bipush (v := 7) dX12_goesOn_40 (by decide) ?_
    refine gz_icmp_ne (tgt := 49) dX12_goesOn_42 (by decide) (fun c_42 => ?_) (fun c_42 => ?_)
    ·
      try simp only [mIn_0, lgc_lt, lgc_gt, lgc_le, lgc_ge, lgc_eq] at c_42
      try simp only [fl_lt, fl_le, fl_eq, fL_w, fL_lt, fL_le, tm1, tm10k, tm9, tm99, Int32.reduceToInt, Int64.reduceToInt, Int.not_lt, Int.not_le] at c_42
      refine gz_iconst (v := 2) dX12_goesOn_49 (by decide) ?_
      refine m_iast 62 hS_39 rfl (N := 80) rfl ((by exact vin_T (rfl : x1.toInt = x1.toInt) (by omega) (by omega))) dX12_goesOn_50 (fun f_40 hS_40q => ?_)
      have hS_40 : mS cy m a f0 n z (va_up F 62 (upd (F 62) (Int32.toNatClampNeg x1) 2)) (va_up G 63 (vp_updL (G 63) (Int32.toNatClampNeg x1) (z 67))) f_40 := hS_40q
      refine gz_aload_n dX12_goesOn_51 rfl rfl ?_
      refine mg_182 hS_40 dX12_goesOn_52 ?_
      refine gz_iload_n dX12_goesOn_55 rfl rfl ?_
      refine gz_aload_n dX12_goesOn_56 rfl rfl ?_
      refine mg_20 hS_40 dX12_goesOn_57 ?_
      refine gz_iload dX12_goesOn_60 rfl ?_
      refine m_iald 7 hS_40 rfl (N := 880) rfl ((by exact vin_T (rfl : (((F 58) (Int32.toNatClampNeg x1))).toInt = (((F 58) (Int32.toNatClampNeg x1))).toInt) (by omega) (by omega))) dX12_goesOn_62 ?_
      refine gz_ev (w := .int ((F 7) (Int32.toNatClampNeg ((F 58) (Int32.toNatClampNeg x1))))) rfl ?_
      refine gz_bipush (v := 7) dX12_goesOn_63 (by decide) ?_
      refine gz_icmp_ne (tgt := 72) dX12_goesOn_65 (by decide) (fun c_65 => ?_) (fun c_65 => ?_)
      ·
        try simp only [mIn_0, lgc_lt, lgc_gt, lgc_le, lgc_ge, lgc_eq] at c_65
        try simp only [fl_lt, fl_le, fl_eq, fL_w, fL_lt, fL_le, tm1, tm10k, tm9, tm99, Int32.reduceToInt, Int64.reduceToInt, Int.not_lt, Int.not_le] at c_65
        refine gz_iconst (v := 0) dX12_goesOn_72 (by decide) ?_
        refine m_zast 64 hS_40 rfl (N := 80) rfl ((by exact vin_T (rfl : x1.toInt = x1.toInt) (by omega) (by omega))) dX12_goesOn_73 (fun f_41 hS_41q => ?_)
        have hS_41 : mS cy m a f0 n z (va_up (va_up F 62 (upd (F 62) (Int32.toNatClampNeg x1) 2)) 64 (upd (F 64) (Int32.toNatClampNeg x1) (vp_nar .boolean 0))) (va_up G 63 (vp_updL (G 63) (Int32.toNatClampNeg x1) (z 67))) f_41 := hS_41q
        refine gz_aload_n dX12_goesOn_74 rfl rfl ?_
        refine mg_20 hS_41 dX12_goesOn_75 ?_
        refine gz_iload dX12_goesOn_78 rfl ?_
        refine m_iald 7 hS_41 rfl (N := 880) rfl ((by exact vin_T (rfl : (((F 58) (Int32.toNatClampNeg x1))).toInt = (((F 58) (Int32.toNatClampNeg x1))).toInt) (by omega) (by omega))) dX12_goesOn_80 ?_
        refine gz_ev (w := .int ((F 7) (Int32.toNatClampNeg ((F 58) (Int32.toNatClampNeg x1))))) rfl ?_
        refine gz_bipush (v := 7) dX12_goesOn_81 (by decide) ?_
        refine gz_icmp_eq (tgt := 325) dX12_goesOn_83 (by decide) (fun c_83 => ?_) (fun c_83 => ?_)
        ·
          try simp only [mIn_0, lgc_lt, lgc_gt, lgc_le, lgc_ge, lgc_eq] at c_83
          try simp only [fl_lt, fl_le, fl_eq, fL_w, fL_lt, fL_le, tm1, tm10k, tm9, tm99, Int32.reduceToInt, Int64.reduceToInt, Int.not_lt, Int.not_le] at c_83
          have hxx : fx [57] [67] [58, 59, 60, 62, 64, 66] [61, 63, 65] n z F G n z (va_up (va_up F 62 (upd (F 62) (Int32.toNatClampNeg x1) 2)) 64 (upd (F 64) (Int32.toNatClampNeg x1) (vp_nar .boolean 0))) (va_up G 63 (vp_updL (G 63) (Int32.toNatClampNeg x1) (z 67))) := (fx_F (fx_F (fx_G fx_rf (by decide)) (by decide)) (by decide))
          have hlo9 : FSt (va_up (va_up F 62 (upd (F 62) (Int32.toNatClampNeg x1) 2)) 64 (upd (F 64) (Int32.toNatClampNeg x1) (vp_nar .boolean 0))) (n 5).toInt dd (Int32.toNatClampNeg x1) r1 P1 := FSt_cg (fun k hk => hxx.2.2.1 k ((by decide : ∀ k : Nat, k ∈ wK → k ∉ ([58, 59, 60, 62, 64, 66] : List Nat)) k hk)) _ _ _ (fun i hi => by rw [(show (va_up (va_up F 62 (upd (F 62) (Int32.toNatClampNeg x1) 2)) 64 (upd (F 64) (Int32.toNatClampNeg x1) (vp_nar .boolean 0))) 58 = (F 58) from rfl)]) (fun i hi => by rw [(show (va_up (va_up F 62 (upd (F 62) (Int32.toNatClampNeg x1) 2)) 64 (upd (F 64) (Int32.toNatClampNeg x1) (vp_nar .boolean 0))) 59 = (F 59) from rfl)]) (fun i hi => by rw [(show (va_up (va_up F 62 (upd (F 62) (Int32.toNatClampNeg x1) 2)) 64 (upd (F 64) (Int32.toNatClampNeg x1) (vp_nar .boolean 0))) 60 = (F 60) from rfl)]) (fun i hi => by rw [(show (va_up (va_up F 62 (upd (F 62) (Int32.toNatClampNeg x1) 2)) 64 (upd (F 64) (Int32.toNatClampNeg x1) (vp_nar .boolean 0))) 62 = (upd (F 62) (Int32.toNatClampNeg x1) 2) from rfl)]; rw [updE, if_neg (by omega)]) (fun i hi => by rw [(show (va_up (va_up F 62 (upd (F 62) (Int32.toNatClampNeg x1) 2)) 64 (upd (F 64) (Int32.toNatClampNeg x1) (vp_nar .boolean 0))) 66 = (F 66) from rfl)]) hlo
          have e5 : n 5 = n 5 := hxx.1 5 (by decide)
          have e57 : (n 57).toInt = x1.toInt + 1 := (by omega)
          have e57n : (n 57).toInt.toNat = (Int32.toNatClampNeg x1) + 1 := by omega
          have vhta58 : (va_up (va_up F 62 (upd (F 62) (Int32.toNatClampNeg x1) 2)) 64 (upd (F 64) (Int32.toNatClampNeg x1) (vp_nar .boolean 0))) 58 (Int32.toNatClampNeg x1) = (F 58 (Int32.toNatClampNeg x1)) := (by rw [(show (va_up (va_up F 62 (upd (F 62) (Int32.toNatClampNeg x1) 2)) 64 (upd (F 64) (Int32.toNatClampNeg x1) (vp_nar .boolean 0))) 58 = (F 58) from rfl)])
          have vhta59 : (va_up (va_up F 62 (upd (F 62) (Int32.toNatClampNeg x1) 2)) 64 (upd (F 64) (Int32.toNatClampNeg x1) (vp_nar .boolean 0))) 59 (Int32.toNatClampNeg x1) = (F 59 (Int32.toNatClampNeg x1)) := (by rw [(show (va_up (va_up F 62 (upd (F 62) (Int32.toNatClampNeg x1) 2)) 64 (upd (F 64) (Int32.toNatClampNeg x1) (vp_nar .boolean 0))) 59 = (F 59) from rfl)])
          have vhta60 : (va_up (va_up F 62 (upd (F 62) (Int32.toNatClampNeg x1) 2)) 64 (upd (F 64) (Int32.toNatClampNeg x1) (vp_nar .boolean 0))) 60 (Int32.toNatClampNeg x1) = (F 60 (Int32.toNatClampNeg x1)) := (by rw [(show (va_up (va_up F 62 (upd (F 62) (Int32.toNatClampNeg x1) 2)) 64 (upd (F 64) (Int32.toNatClampNeg x1) (vp_nar .boolean 0))) 60 = (F 60) from rfl)])
          have vhta62 : (va_up (va_up F 62 (upd (F 62) (Int32.toNatClampNeg x1) 2)) 64 (upd (F 64) (Int32.toNatClampNeg x1) (vp_nar .boolean 0))) 62 (Int32.toNatClampNeg x1) = 2 := (by rw [(show (va_up (va_up F 62 (upd (F 62) (Int32.toNatClampNeg x1) 2)) 64 (upd (F 64) (Int32.toNatClampNeg x1) (vp_nar .boolean 0))) 62 = (upd (F 62) (Int32.toNatClampNeg x1) 2) from rfl)]; rw [updE, if_pos rfl])
          have vhta66 : (va_up (va_up F 62 (upd (F 62) (Int32.toNatClampNeg x1) 2)) 64 (upd (F 64) (Int32.toNatClampNeg x1) (vp_nar .boolean 0))) 66 (Int32.toNatClampNeg x1) = (F 66 (Int32.toNatClampNeg x1)) := (by rw [(show (va_up (va_up F 62 (upd (F 62) (Int32.toNatClampNeg x1) 2)) 64 (upd (F 64) (Int32.toNatClampNeg x1) (vp_nar .boolean 0))) 66 = (F 66) from rfl)])
          have hta : frV F (n 5).toInt dd ((va_up (va_up F 62 (upd (F 62) (Int32.toNatClampNeg x1) 2)) 64 (upd (F 64) (Int32.toNatClampNeg x1) (vp_nar .boolean 0))) 58 (Int32.toNatClampNeg x1)) ((va_up (va_up F 62 (upd (F 62) (Int32.toNatClampNeg x1) 2)) 64 (upd (F 64) (Int32.toNatClampNeg x1) (vp_nar .boolean 0))) 59 (Int32.toNatClampNeg x1)) ((va_up (va_up F 62 (upd (F 62) (Int32.toNatClampNeg x1) 2)) 64 (upd (F 64) (Int32.toNatClampNeg x1) (vp_nar .boolean 0))) 60 (Int32.toNatClampNeg x1)) ((va_up (va_up F 62 (upd (F 62) (Int32.toNatClampNeg x1) 2)) 64 (upd (F 64) (Int32.toNatClampNeg x1) (vp_nar .boolean 0))) 62 (Int32.toNatClampNeg x1)) ((va_up (va_up F 62 (upd (F 62) (Int32.toNatClampNeg x1) 2)) 64 (upd (F 64) (Int32.toNatClampNeg x1) (vp_nar .boolean 0))) 66 (Int32.toNatClampNeg x1)) r (3 * cR (r - 1) + 4) := by rw [vhta58, vhta59, vhta60, vhta62, vhta66]; exact ⟨fw, fd, fo, fr_, Or.inr (Or.inr (Or.inr (Or.inl ⟨by first | rfl | (exfalso; omega), rfl⟩)))⟩
          have hs1 : FSt (va_up (va_up F 62 (upd (F 62) (Int32.toNatClampNeg x1) 2)) 64 (upd (F 64) (Int32.toNatClampNeg x1) (vp_nar .boolean 0))) (n 5).toInt dd ((Int32.toNatClampNeg x1) + 1) r (P1 + (3 * cR (r - 1) + 4)) := ⟨r1, P1, (3 * cR (r - 1) + 4), hlo9, by omega, frV_w (fun k hk => hxx.2.2.1 k ((by decide : ∀ k : Nat, k ∈ wK → k ∉ ([58, 59, 60, 62, 64, 66] : List Nat)) k hk)) hta, rfl⟩
          exact gz_vret rfl dX12_goesOn_325 (Nat.le_of_ble_eq_true rfl) (Nat.le_of_ble_eq_true rfl) (⟨rfl, _, _, _, _, hS_41, hxx, by omega, r, _, by rw [e57n, e5]; exact hs1, (by have := (q1_ (by omega)).2; omega)⟩)
        ·
          try simp only [mIn_0, lgc_lt, lgc_gt, lgc_le, lgc_ge, lgc_eq] at c_83
          try simp only [fl_lt, fl_le, fl_eq, fL_w, fL_lt, fL_le, tm1, tm10k, tm9, tm99, Int32.reduceToInt, Int64.reduceToInt, Int.not_lt, Int.not_le] at c_83
          refine gz_aload_n dX12_goesOn_86 rfl rfl ?_
          refine gz_aload_n dX12_goesOn_87 rfl rfl ?_
          refine mg_35 hS_41 dX12_goesOn_88 ?_
          refine gz_iload dX12_goesOn_91 rfl ?_
          refine m_iald 12 hS_41 rfl (N := 880) rfl ((by exact vin_T (rfl : (((F 58) (Int32.toNatClampNeg x1))).toInt = (((F 58) (Int32.toNatClampNeg x1))).toInt) (by omega) (by omega))) dX12_goesOn_93 ?_
          refine gz_ev (w := .int ((F 12) (Int32.toNatClampNeg ((F 58) (Int32.toNatClampNeg x1))))) rfl ?_
          refine gz_aload_n dX12_goesOn_94 rfl rfl ?_
          refine mg_167 hS_41 dX12_goesOn_95 ?_
          refine gz_iload_n dX12_goesOn_98 rfl rfl ?_
          refine m_iald 59 hS_41 rfl (N := 80) rfl ((by exact vin_T (rfl : x1.toInt = x1.toInt) (by omega) (by omega))) dX12_goesOn_99 ?_
          refine gz_ev (w := .int ((F 59) (Int32.toNatClampNeg x1))) rfl ?_
          refine gz_aload_n dX12_goesOn_100 rfl rfl ?_
          refine mg_170 hS_41 dX12_goesOn_101 ?_
          refine gz_iload_n dX12_goesOn_104 rfl rfl ?_
          refine m_iald 60 hS_41 rfl (N := 80) rfl ((by exact vin_T (rfl : x1.toInt = x1.toInt) (by omega) (by omega))) dX12_goesOn_105 ?_
          refine gz_ev (w := .int ((F 60) (Int32.toNatClampNeg x1))) rfl ?_
          refine gz_aload_n dX12_goesOn_106 rfl rfl ?_
          refine mg_173 hS_41 dX12_goesOn_107 ?_
          refine gz_iload_n dX12_goesOn_110 rfl rfl ?_
          refine m_lald 61 hS_41 rfl (N := 80) rfl ((by exact vin_T (rfl : x1.toInt = x1.toInt) (by omega) (by omega))) dX12_goesOn_111 ?_
          refine gz_ev (w := .long ((G 61) (Int32.toNatClampNeg x1))) rfl ?_
          have qf := q1_ (by omega)
          have q2 : vW F (n 5).toInt (F 12 (Int32.toNatClampNeg (F 58 (Int32.toNatClampNeg x1)))).toInt ∧ szF F (F 11 (Int32.toNatClampNeg (F 58 (Int32.toNatClampNeg x1)))).toInt + szF F (F 12 (Int32.toNatClampNeg (F 58 (Int32.toNatClampNeg x1)))).toInt + 1 ≤ szF F (F 58 (Int32.toNatClampNeg x1)).toInt := two_ok bW fw (show 3 ≤ (F 7 (Int32.toNatClampNeg (F 58 (Int32.toNatClampNeg x1)))).toInt ∧ (F 7 (Int32.toNatClampNeg (F 58 (Int32.toNatClampNeg x1)))).toInt ≤ 5 by omega)
          have q2z := szF_pos bW q2.1
          obtain ⟨rb, hrb⟩ : ∃ rb : Nat, (rb : Int) = szF F (F 12 (Int32.toNatClampNeg (F 58 (Int32.toNatClampNeg x1)))).toInt + 4 - (F 59 (Int32.toNatClampNeg x1)).toInt := ⟨(szF F (F 12 (Int32.toNatClampNeg (F 58 (Int32.toNatClampNeg x1)))).toInt + 4 - (F 59 (Int32.toNatClampNeg x1)).toInt : Int).toNat, by omega⟩
          have hcb := cR_mono (a := rb) (r - 1) (by omega)
          refine scX12_466 (k_X12_pushes (x1 := ((F 12) (Int32.toNatClampNeg ((F 58) (Int32.toNatClampNeg x1))))) (x2 := ((F 59) (Int32.toNatClampNeg x1))) (x3 := ((F 60) (Int32.toNatClampNeg x1))) hS_41 (by omega)) hS_41.1 ⟨(Nat.le_of_ble_eq_true rfl), (Nat.le_of_ble_eq_true rfl)⟩ ⟨(Nat.le_of_ble_eq_true rfl), (Nat.le_of_ble_eq_true rfl)⟩ rfl rfl (Nat.le_of_ble_eq_true rfl) dX12_goesOn_112 ?_
          rintro f_42 ⟨n_42, z_42, F_42, G_42, hS_42, hx42, g57_42, g58_42, g59_42, g60_42, g62_42⟩
          refine gz_goto (tgt := 325) dX12_goesOn_115 (by decide) ?_
          have hxx : fx [57] [67] [58, 59, 60, 62, 64, 66] [61, 63, 65] n z F G n_42 z_42 F_42 G_42 := (fx_tr (fx_F (fx_F (fx_G fx_rf (by decide)) (by decide)) (by decide)) hx42 (by decide))
          have hlo9 : FSt F_42 (n 5).toInt dd (Int32.toNatClampNeg x1) r1 P1 := FSt_cg (fun k hk => hxx.2.2.1 k ((by decide : ∀ k : Nat, k ∈ wK → k ∉ ([58, 59, 60, 62, 64, 66] : List Nat)) k hk)) _ _ _ (fun i hi => by rw [(show F_42 58 = (upd (F 58) (Int32.toNatClampNeg (n 57)) ((F 12) (Int32.toNatClampNeg ((F 58) (Int32.toNatClampNeg x1))))) from g58_42)]; rw [updE, if_neg (by omega)]) (fun i hi => by rw [(show F_42 59 = (upd (F 59) (Int32.toNatClampNeg (n 57)) ((F 59) (Int32.toNatClampNeg x1))) from g59_42)]; rw [updE, if_neg (by omega)]) (fun i hi => by rw [(show F_42 60 = (upd (F 60) (Int32.toNatClampNeg (n 57)) ((F 60) (Int32.toNatClampNeg x1))) from g60_42)]; rw [updE, if_neg (by omega)]) (fun i hi => by rw [(show F_42 62 = (upd (upd (F 62) (Int32.toNatClampNeg x1) 2) (Int32.toNatClampNeg (n 57)) 0) from g62_42)]; rw [updE, if_neg (by omega)]; rw [updE, if_neg (by omega)]) (fun i hi => by rw [(show F_42 66 = (F 66) from (hx42.2.2.1 66 (by decide)))]) hlo
          have e5 : n_42 5 = n 5 := hxx.1 5 (by decide)
          have e57 : (n_42 57).toInt = x1.toInt + 2 := (by (try rw [(show n_42 57 = ((n 57) + 1) from g57_42)]); have q1_ := (T_add (rfl : ((n 57)).toInt = ((n 57)).toInt) (show (1 : Int32).toInt = 1 from rfl) (by omega)); omega)
          have e57n : (n_42 57).toInt.toNat = (Int32.toNatClampNeg x1) + 2 := by omega
          have vhta58 : F_42 58 (Int32.toNatClampNeg x1) = (F 58 (Int32.toNatClampNeg x1)) := (by rw [(show F_42 58 = (upd (F 58) (Int32.toNatClampNeg (n 57)) ((F 12) (Int32.toNatClampNeg ((F 58) (Int32.toNatClampNeg x1))))) from g58_42)]; rw [updE, if_neg (by omega)])
          have vhta59 : F_42 59 (Int32.toNatClampNeg x1) = (F 59 (Int32.toNatClampNeg x1)) := (by rw [(show F_42 59 = (upd (F 59) (Int32.toNatClampNeg (n 57)) ((F 59) (Int32.toNatClampNeg x1))) from g59_42)]; rw [updE, if_neg (by omega)])
          have vhta60 : F_42 60 (Int32.toNatClampNeg x1) = (F 60 (Int32.toNatClampNeg x1)) := (by rw [(show F_42 60 = (upd (F 60) (Int32.toNatClampNeg (n 57)) ((F 60) (Int32.toNatClampNeg x1))) from g60_42)]; rw [updE, if_neg (by omega)])
          have vhta62 : F_42 62 (Int32.toNatClampNeg x1) = 2 := (by rw [(show F_42 62 = (upd (upd (F 62) (Int32.toNatClampNeg x1) 2) (Int32.toNatClampNeg (n 57)) 0) from g62_42)]; rw [updE, if_neg (by omega)]; rw [updE, if_pos rfl])
          have vhta66 : F_42 66 (Int32.toNatClampNeg x1) = (F 66 (Int32.toNatClampNeg x1)) := (by rw [(show F_42 66 = (F 66) from (hx42.2.2.1 66 (by decide)))])
          have hta : frV F (n 5).toInt dd (F_42 58 (Int32.toNatClampNeg x1)) (F_42 59 (Int32.toNatClampNeg x1)) (F_42 60 (Int32.toNatClampNeg x1)) (F_42 62 (Int32.toNatClampNeg x1)) (F_42 66 (Int32.toNatClampNeg x1)) r 1 := by rw [vhta58, vhta59, vhta60, vhta62, vhta66]; exact ⟨fw, fd, fo, fr_, Or.inr (Or.inr (Or.inl ⟨by first | rfl | (exfalso; omega), rfl⟩))⟩
          have hs1 : FSt F_42 (n 5).toInt dd ((Int32.toNatClampNeg x1) + 1) r (P1 + 1) := ⟨r1, P1, 1, hlo9, by omega, frV_w (fun k hk => hxx.2.2.1 k ((by decide : ∀ k : Nat, k ∈ wK → k ∉ ([58, 59, 60, 62, 64, 66] : List Nat)) k hk)) hta, rfl⟩
          have qn1 : (Int32.toNatClampNeg (n 57)) = (Int32.toNatClampNeg x1) + 1 := by omega
          have vhtb58 : F_42 58 (Int32.toNatClampNeg (n 57)) = ((F 12) (Int32.toNatClampNeg ((F 58) (Int32.toNatClampNeg x1)))) := (by rw [(show F_42 58 = (upd (F 58) (Int32.toNatClampNeg (n 57)) ((F 12) (Int32.toNatClampNeg ((F 58) (Int32.toNatClampNeg x1))))) from g58_42)]; rw [updE, if_pos rfl])
          have vhtb59 : F_42 59 (Int32.toNatClampNeg (n 57)) = ((F 59) (Int32.toNatClampNeg x1)) := (by rw [(show F_42 59 = (upd (F 59) (Int32.toNatClampNeg (n 57)) ((F 59) (Int32.toNatClampNeg x1))) from g59_42)]; rw [updE, if_pos rfl])
          have vhtb60 : F_42 60 (Int32.toNatClampNeg (n 57)) = ((F 60) (Int32.toNatClampNeg x1)) := (by rw [(show F_42 60 = (upd (F 60) (Int32.toNatClampNeg (n 57)) ((F 60) (Int32.toNatClampNeg x1))) from g60_42)]; rw [updE, if_pos rfl])
          have vhtb62 : F_42 62 (Int32.toNatClampNeg (n 57)) = 0 := (by rw [(show F_42 62 = (upd (upd (F 62) (Int32.toNatClampNeg x1) 2) (Int32.toNatClampNeg (n 57)) 0) from g62_42)]; rw [updE, if_pos rfl])
          have vhtb66 : F_42 66 (Int32.toNatClampNeg (n 57)) = (F 66 (Int32.toNatClampNeg (n 57))) := (by rw [(show F_42 66 = (F 66) from (hx42.2.2.1 66 (by decide)))])
          have htb : frV F (n 5).toInt dd (F_42 58 (Int32.toNatClampNeg (n 57))) (F_42 59 (Int32.toNatClampNeg (n 57))) (F_42 60 (Int32.toNatClampNeg (n 57))) (F_42 62 (Int32.toNatClampNeg (n 57))) (F_42 66 (Int32.toNatClampNeg (n 57))) rb (cR rb) := by rw [vhtb58, vhtb59, vhtb60, vhtb62, vhtb66]; exact ⟨q2.1, fd, fo, hrb, Or.inl ⟨rfl, rfl⟩⟩
          rw [qn1] at htb
          have hs2 : FSt F_42 (n 5).toInt dd ((Int32.toNatClampNeg x1) + 1 + 1) rb (P1 + 1 + (cR rb)) := ⟨_, _, (cR rb), hs1, by omega, frV_w (fun k hk => hxx.2.2.1 k ((by decide : ∀ k : Nat, k ∈ wK → k ∉ ([58, 59, 60, 62, 64, 66] : List Nat)) k hk)) htb, rfl⟩
          exact gz_vret rfl dX12_goesOn_325 (Nat.le_of_ble_eq_true rfl) (Nat.le_of_ble_eq_true rfl) (⟨rfl, _, _, _, _, hS_42, hxx, by omega, rb, _, by rw [e57n, e5]; exact hs2, (by have := qf.2; omega)⟩)
      ·
        try simp only [mIn_0, lgc_lt, lgc_gt, lgc_le, lgc_ge, lgc_eq] at c_65
        try simp only [fl_lt, fl_le, fl_eq, fL_w, fL_lt, fL_le, tm1, tm10k, tm9, tm99, Int32.reduceToInt, Int64.reduceToInt, Int.not_lt, Int.not_le] at c_65
        refine gz_iconst (v := 1) dX12_goesOn_68 (by decide) ?_
        refine gz_goto (tgt := 73) dX12_goesOn_69 (by decide) ?_
        refine m_zast 64 hS_40 rfl (N := 80) rfl ((by exact vin_T (rfl : x1.toInt = x1.toInt) (by omega) (by omega))) dX12_goesOn_73 (fun f_43 hS_43q => ?_)
        have hS_43 : mS cy m a f0 n z (va_up (va_up F 62 (upd (F 62) (Int32.toNatClampNeg x1) 2)) 64 (upd (F 64) (Int32.toNatClampNeg x1) (vp_nar .boolean 1))) (va_up G 63 (vp_updL (G 63) (Int32.toNatClampNeg x1) (z 67))) f_43 := hS_43q
        refine gz_aload_n dX12_goesOn_74 rfl rfl ?_
        refine mg_20 hS_43 dX12_goesOn_75 ?_
        refine gz_iload dX12_goesOn_78 rfl ?_
        refine m_iald 7 hS_43 rfl (N := 880) rfl ((by exact vin_T (rfl : (((F 58) (Int32.toNatClampNeg x1))).toInt = (((F 58) (Int32.toNatClampNeg x1))).toInt) (by omega) (by omega))) dX12_goesOn_80 ?_
        refine gz_ev (w := .int ((F 7) (Int32.toNatClampNeg ((F 58) (Int32.toNatClampNeg x1))))) rfl ?_
        refine gz_bipush (v := 7) dX12_goesOn_81 (by decide) ?_
        refine gz_icmp_eq (tgt := 325) dX12_goesOn_83 (by decide) (fun c_83 => ?_) (fun c_83 => ?_)
        ·
          try simp only [mIn_0, lgc_lt, lgc_gt, lgc_le, lgc_ge, lgc_eq] at c_83
          try simp only [fl_lt, fl_le, fl_eq, fL_w, fL_lt, fL_le, tm1, tm10k, tm9, tm99, Int32.reduceToInt, Int64.reduceToInt, Int.not_lt, Int.not_le] at c_83
          have hxx : fx [57] [67] [58, 59, 60, 62, 64, 66] [61, 63, 65] n z F G n z (va_up (va_up F 62 (upd (F 62) (Int32.toNatClampNeg x1) 2)) 64 (upd (F 64) (Int32.toNatClampNeg x1) (vp_nar .boolean 1))) (va_up G 63 (vp_updL (G 63) (Int32.toNatClampNeg x1) (z 67))) := (fx_F (fx_F (fx_G fx_rf (by decide)) (by decide)) (by decide))
          have hlo9 : FSt (va_up (va_up F 62 (upd (F 62) (Int32.toNatClampNeg x1) 2)) 64 (upd (F 64) (Int32.toNatClampNeg x1) (vp_nar .boolean 1))) (n 5).toInt dd (Int32.toNatClampNeg x1) r1 P1 := FSt_cg (fun k hk => hxx.2.2.1 k ((by decide : ∀ k : Nat, k ∈ wK → k ∉ ([58, 59, 60, 62, 64, 66] : List Nat)) k hk)) _ _ _ (fun i hi => by rw [(show (va_up (va_up F 62 (upd (F 62) (Int32.toNatClampNeg x1) 2)) 64 (upd (F 64) (Int32.toNatClampNeg x1) (vp_nar .boolean 1))) 58 = (F 58) from rfl)]) (fun i hi => by rw [(show (va_up (va_up F 62 (upd (F 62) (Int32.toNatClampNeg x1) 2)) 64 (upd (F 64) (Int32.toNatClampNeg x1) (vp_nar .boolean 1))) 59 = (F 59) from rfl)]) (fun i hi => by rw [(show (va_up (va_up F 62 (upd (F 62) (Int32.toNatClampNeg x1) 2)) 64 (upd (F 64) (Int32.toNatClampNeg x1) (vp_nar .boolean 1))) 60 = (F 60) from rfl)]) (fun i hi => by rw [(show (va_up (va_up F 62 (upd (F 62) (Int32.toNatClampNeg x1) 2)) 64 (upd (F 64) (Int32.toNatClampNeg x1) (vp_nar .boolean 1))) 62 = (upd (F 62) (Int32.toNatClampNeg x1) 2) from rfl)]; rw [updE, if_neg (by omega)]) (fun i hi => by rw [(show (va_up (va_up F 62 (upd (F 62) (Int32.toNatClampNeg x1) 2)) 64 (upd (F 64) (Int32.toNatClampNeg x1) (vp_nar .boolean 1))) 66 = (F 66) from rfl)]) hlo
          have e5 : n 5 = n 5 := hxx.1 5 (by decide)
          have e57 : (n 57).toInt = x1.toInt + 1 := (by omega)
          have e57n : (n 57).toInt.toNat = (Int32.toNatClampNeg x1) + 1 := by omega
          have vhta58 : (va_up (va_up F 62 (upd (F 62) (Int32.toNatClampNeg x1) 2)) 64 (upd (F 64) (Int32.toNatClampNeg x1) (vp_nar .boolean 1))) 58 (Int32.toNatClampNeg x1) = (F 58 (Int32.toNatClampNeg x1)) := (by rw [(show (va_up (va_up F 62 (upd (F 62) (Int32.toNatClampNeg x1) 2)) 64 (upd (F 64) (Int32.toNatClampNeg x1) (vp_nar .boolean 1))) 58 = (F 58) from rfl)])
          have vhta59 : (va_up (va_up F 62 (upd (F 62) (Int32.toNatClampNeg x1) 2)) 64 (upd (F 64) (Int32.toNatClampNeg x1) (vp_nar .boolean 1))) 59 (Int32.toNatClampNeg x1) = (F 59 (Int32.toNatClampNeg x1)) := (by rw [(show (va_up (va_up F 62 (upd (F 62) (Int32.toNatClampNeg x1) 2)) 64 (upd (F 64) (Int32.toNatClampNeg x1) (vp_nar .boolean 1))) 59 = (F 59) from rfl)])
          have vhta60 : (va_up (va_up F 62 (upd (F 62) (Int32.toNatClampNeg x1) 2)) 64 (upd (F 64) (Int32.toNatClampNeg x1) (vp_nar .boolean 1))) 60 (Int32.toNatClampNeg x1) = (F 60 (Int32.toNatClampNeg x1)) := (by rw [(show (va_up (va_up F 62 (upd (F 62) (Int32.toNatClampNeg x1) 2)) 64 (upd (F 64) (Int32.toNatClampNeg x1) (vp_nar .boolean 1))) 60 = (F 60) from rfl)])
          have vhta62 : (va_up (va_up F 62 (upd (F 62) (Int32.toNatClampNeg x1) 2)) 64 (upd (F 64) (Int32.toNatClampNeg x1) (vp_nar .boolean 1))) 62 (Int32.toNatClampNeg x1) = 2 := (by rw [(show (va_up (va_up F 62 (upd (F 62) (Int32.toNatClampNeg x1) 2)) 64 (upd (F 64) (Int32.toNatClampNeg x1) (vp_nar .boolean 1))) 62 = (upd (F 62) (Int32.toNatClampNeg x1) 2) from rfl)]; rw [updE, if_pos rfl])
          have vhta66 : (va_up (va_up F 62 (upd (F 62) (Int32.toNatClampNeg x1) 2)) 64 (upd (F 64) (Int32.toNatClampNeg x1) (vp_nar .boolean 1))) 66 (Int32.toNatClampNeg x1) = (F 66 (Int32.toNatClampNeg x1)) := (by rw [(show (va_up (va_up F 62 (upd (F 62) (Int32.toNatClampNeg x1) 2)) 64 (upd (F 64) (Int32.toNatClampNeg x1) (vp_nar .boolean 1))) 66 = (F 66) from rfl)])
          have hta : frV F (n 5).toInt dd ((va_up (va_up F 62 (upd (F 62) (Int32.toNatClampNeg x1) 2)) 64 (upd (F 64) (Int32.toNatClampNeg x1) (vp_nar .boolean 1))) 58 (Int32.toNatClampNeg x1)) ((va_up (va_up F 62 (upd (F 62) (Int32.toNatClampNeg x1) 2)) 64 (upd (F 64) (Int32.toNatClampNeg x1) (vp_nar .boolean 1))) 59 (Int32.toNatClampNeg x1)) ((va_up (va_up F 62 (upd (F 62) (Int32.toNatClampNeg x1) 2)) 64 (upd (F 64) (Int32.toNatClampNeg x1) (vp_nar .boolean 1))) 60 (Int32.toNatClampNeg x1)) ((va_up (va_up F 62 (upd (F 62) (Int32.toNatClampNeg x1) 2)) 64 (upd (F 64) (Int32.toNatClampNeg x1) (vp_nar .boolean 1))) 62 (Int32.toNatClampNeg x1)) ((va_up (va_up F 62 (upd (F 62) (Int32.toNatClampNeg x1) 2)) 64 (upd (F 64) (Int32.toNatClampNeg x1) (vp_nar .boolean 1))) 66 (Int32.toNatClampNeg x1)) r (3 * cR (r - 1) + 4) := by rw [vhta58, vhta59, vhta60, vhta62, vhta66]; exact ⟨fw, fd, fo, fr_, Or.inr (Or.inr (Or.inr (Or.inl ⟨by first | rfl | (exfalso; omega), rfl⟩)))⟩
          have hs1 : FSt (va_up (va_up F 62 (upd (F 62) (Int32.toNatClampNeg x1) 2)) 64 (upd (F 64) (Int32.toNatClampNeg x1) (vp_nar .boolean 1))) (n 5).toInt dd ((Int32.toNatClampNeg x1) + 1) r (P1 + (3 * cR (r - 1) + 4)) := ⟨r1, P1, (3 * cR (r - 1) + 4), hlo9, by omega, frV_w (fun k hk => hxx.2.2.1 k ((by decide : ∀ k : Nat, k ∈ wK → k ∉ ([58, 59, 60, 62, 64, 66] : List Nat)) k hk)) hta, rfl⟩
          exact gz_vret rfl dX12_goesOn_325 (Nat.le_of_ble_eq_true rfl) (Nat.le_of_ble_eq_true rfl) (⟨rfl, _, _, _, _, hS_43, hxx, by omega, r, _, by rw [e57n, e5]; exact hs1, (by have := (q1_ (by omega)).2; omega)⟩)
        ·
          try simp only [mIn_0, lgc_lt, lgc_gt, lgc_le, lgc_ge, lgc_eq] at c_83
          try simp only [fl_lt, fl_le, fl_eq, fL_w, fL_lt, fL_le, tm1, tm10k, tm9, tm99, Int32.reduceToInt, Int64.reduceToInt, Int.not_lt, Int.not_le] at c_83
          refine gz_aload_n dX12_goesOn_86 rfl rfl ?_
          refine gz_aload_n dX12_goesOn_87 rfl rfl ?_
          refine mg_35 hS_43 dX12_goesOn_88 ?_
          refine gz_iload dX12_goesOn_91 rfl ?_
          refine m_iald 12 hS_43 rfl (N := 880) rfl ((by exact vin_T (rfl : (((F 58) (Int32.toNatClampNeg x1))).toInt = (((F 58) (Int32.toNatClampNeg x1))).toInt) (by omega) (by omega))) dX12_goesOn_93 ?_
          refine gz_ev (w := .int ((F 12) (Int32.toNatClampNeg ((F 58) (Int32.toNatClampNeg x1))))) rfl ?_
          refine gz_aload_n dX12_goesOn_94 rfl rfl ?_
          refine mg_167 hS_43 dX12_goesOn_95 ?_
          refine gz_iload_n dX12_goesOn_98 rfl rfl ?_
          refine m_iald 59 hS_43 rfl (N := 80) rfl ((by exact vin_T (rfl : x1.toInt = x1.toInt) (by omega) (by omega))) dX12_goesOn_99 ?_
          refine gz_ev (w := .int ((F 59) (Int32.toNatClampNeg x1))) rfl ?_
          refine gz_aload_n dX12_goesOn_100 rfl rfl ?_
          refine mg_170 hS_43 dX12_goesOn_101 ?_
          refine gz_iload_n dX12_goesOn_104 rfl rfl ?_
          refine m_iald 60 hS_43 rfl (N := 80) rfl ((by exact vin_T (rfl : x1.toInt = x1.toInt) (by omega) (by omega))) dX12_goesOn_105 ?_
          refine gz_ev (w := .int ((F 60) (Int32.toNatClampNeg x1))) rfl ?_
          refine gz_aload_n dX12_goesOn_106 rfl rfl ?_
          refine mg_173 hS_43 dX12_goesOn_107 ?_
          refine gz_iload_n dX12_goesOn_110 rfl rfl ?_
          refine m_lald 61 hS_43 rfl (N := 80) rfl ((by exact vin_T (rfl : x1.toInt = x1.toInt) (by omega) (by omega))) dX12_goesOn_111 ?_
          refine gz_ev (w := .long ((G 61) (Int32.toNatClampNeg x1))) rfl ?_
          have qf := q1_ (by omega)
          have q2 : vW F (n 5).toInt (F 12 (Int32.toNatClampNeg (F 58 (Int32.toNatClampNeg x1)))).toInt ∧ szF F (F 11 (Int32.toNatClampNeg (F 58 (Int32.toNatClampNeg x1)))).toInt + szF F (F 12 (Int32.toNatClampNeg (F 58 (Int32.toNatClampNeg x1)))).toInt + 1 ≤ szF F (F 58 (Int32.toNatClampNeg x1)).toInt := two_ok bW fw (show 3 ≤ (F 7 (Int32.toNatClampNeg (F 58 (Int32.toNatClampNeg x1)))).toInt ∧ (F 7 (Int32.toNatClampNeg (F 58 (Int32.toNatClampNeg x1)))).toInt ≤ 5 by omega)
          have q2z := szF_pos bW q2.1
          obtain ⟨rb, hrb⟩ : ∃ rb : Nat, (rb : Int) = szF F (F 12 (Int32.toNatClampNeg (F 58 (Int32.toNatClampNeg x1)))).toInt + 4 - (F 59 (Int32.toNatClampNeg x1)).toInt := ⟨(szF F (F 12 (Int32.toNatClampNeg (F 58 (Int32.toNatClampNeg x1)))).toInt + 4 - (F 59 (Int32.toNatClampNeg x1)).toInt : Int).toNat, by omega⟩
          have hcb := cR_mono (a := rb) (r - 1) (by omega)
          refine scX12_466 (k_X12_pushes (x1 := ((F 12) (Int32.toNatClampNeg ((F 58) (Int32.toNatClampNeg x1))))) (x2 := ((F 59) (Int32.toNatClampNeg x1))) (x3 := ((F 60) (Int32.toNatClampNeg x1))) hS_43 (by omega)) hS_43.1 ⟨(Nat.le_of_ble_eq_true rfl), (Nat.le_of_ble_eq_true rfl)⟩ ⟨(Nat.le_of_ble_eq_true rfl), (Nat.le_of_ble_eq_true rfl)⟩ rfl rfl (Nat.le_of_ble_eq_true rfl) dX12_goesOn_112 ?_
          rintro f_44 ⟨n_44, z_44, F_44, G_44, hS_44, hx44, g57_44, g58_44, g59_44, g60_44, g62_44⟩
          refine gz_goto (tgt := 325) dX12_goesOn_115 (by decide) ?_
          have hxx : fx [57] [67] [58, 59, 60, 62, 64, 66] [61, 63, 65] n z F G n_44 z_44 F_44 G_44 := (fx_tr (fx_F (fx_F (fx_G fx_rf (by decide)) (by decide)) (by decide)) hx44 (by decide))
          have hlo9 : FSt F_44 (n 5).toInt dd (Int32.toNatClampNeg x1) r1 P1 := FSt_cg (fun k hk => hxx.2.2.1 k ((by decide : ∀ k : Nat, k ∈ wK → k ∉ ([58, 59, 60, 62, 64, 66] : List Nat)) k hk)) _ _ _ (fun i hi => by rw [(show F_44 58 = (upd (F 58) (Int32.toNatClampNeg (n 57)) ((F 12) (Int32.toNatClampNeg ((F 58) (Int32.toNatClampNeg x1))))) from g58_44)]; rw [updE, if_neg (by omega)]) (fun i hi => by rw [(show F_44 59 = (upd (F 59) (Int32.toNatClampNeg (n 57)) ((F 59) (Int32.toNatClampNeg x1))) from g59_44)]; rw [updE, if_neg (by omega)]) (fun i hi => by rw [(show F_44 60 = (upd (F 60) (Int32.toNatClampNeg (n 57)) ((F 60) (Int32.toNatClampNeg x1))) from g60_44)]; rw [updE, if_neg (by omega)]) (fun i hi => by rw [(show F_44 62 = (upd (upd (F 62) (Int32.toNatClampNeg x1) 2) (Int32.toNatClampNeg (n 57)) 0) from g62_44)]; rw [updE, if_neg (by omega)]; rw [updE, if_neg (by omega)]) (fun i hi => by rw [(show F_44 66 = (F 66) from (hx44.2.2.1 66 (by decide)))]) hlo
          have e5 : n_44 5 = n 5 := hxx.1 5 (by decide)
          have e57 : (n_44 57).toInt = x1.toInt + 2 := (by (try rw [(show n_44 57 = ((n 57) + 1) from g57_44)]); have q1_ := (T_add (rfl : ((n 57)).toInt = ((n 57)).toInt) (show (1 : Int32).toInt = 1 from rfl) (by omega)); omega)
          have e57n : (n_44 57).toInt.toNat = (Int32.toNatClampNeg x1) + 2 := by omega
          have vhta58 : F_44 58 (Int32.toNatClampNeg x1) = (F 58 (Int32.toNatClampNeg x1)) := (by rw [(show F_44 58 = (upd (F 58) (Int32.toNatClampNeg (n 57)) ((F 12) (Int32.toNatClampNeg ((F 58) (Int32.toNatClampNeg x1))))) from g58_44)]; rw [updE, if_neg (by omega)])
          have vhta59 : F_44 59 (Int32.toNatClampNeg x1) = (F 59 (Int32.toNatClampNeg x1)) := (by rw [(show F_44 59 = (upd (F 59) (Int32.toNatClampNeg (n 57)) ((F 59) (Int32.toNatClampNeg x1))) from g59_44)]; rw [updE, if_neg (by omega)])
          have vhta60 : F_44 60 (Int32.toNatClampNeg x1) = (F 60 (Int32.toNatClampNeg x1)) := (by rw [(show F_44 60 = (upd (F 60) (Int32.toNatClampNeg (n 57)) ((F 60) (Int32.toNatClampNeg x1))) from g60_44)]; rw [updE, if_neg (by omega)])
          have vhta62 : F_44 62 (Int32.toNatClampNeg x1) = 2 := (by rw [(show F_44 62 = (upd (upd (F 62) (Int32.toNatClampNeg x1) 2) (Int32.toNatClampNeg (n 57)) 0) from g62_44)]; rw [updE, if_neg (by omega)]; rw [updE, if_pos rfl])
          have vhta66 : F_44 66 (Int32.toNatClampNeg x1) = (F 66 (Int32.toNatClampNeg x1)) := (by rw [(show F_44 66 = (F 66) from (hx44.2.2.1 66 (by decide)))])
          have hta : frV F (n 5).toInt dd (F_44 58 (Int32.toNatClampNeg x1)) (F_44 59 (Int32.toNatClampNeg x1)) (F_44 60 (Int32.toNatClampNeg x1)) (F_44 62 (Int32.toNatClampNeg x1)) (F_44 66 (Int32.toNatClampNeg x1)) r 1 := by rw [vhta58, vhta59, vhta60, vhta62, vhta66]; exact ⟨fw, fd, fo, fr_, Or.inr (Or.inr (Or.inl ⟨by first | rfl | (exfalso; omega), rfl⟩))⟩
          have hs1 : FSt F_44 (n 5).toInt dd ((Int32.toNatClampNeg x1) + 1) r (P1 + 1) := ⟨r1, P1, 1, hlo9, by omega, frV_w (fun k hk => hxx.2.2.1 k ((by decide : ∀ k : Nat, k ∈ wK → k ∉ ([58, 59, 60, 62, 64, 66] : List Nat)) k hk)) hta, rfl⟩
          have qn1 : (Int32.toNatClampNeg (n 57)) = (Int32.toNatClampNeg x1) + 1 := by omega
          have vhtb58 : F_44 58 (Int32.toNatClampNeg (n 57)) = ((F 12) (Int32.toNatClampNeg ((F 58) (Int32.toNatClampNeg x1)))) := (by rw [(show F_44 58 = (upd (F 58) (Int32.toNatClampNeg (n 57)) ((F 12) (Int32.toNatClampNeg ((F 58) (Int32.toNatClampNeg x1))))) from g58_44)]; rw [updE, if_pos rfl])
          have vhtb59 : F_44 59 (Int32.toNatClampNeg (n 57)) = ((F 59) (Int32.toNatClampNeg x1)) := (by rw [(show F_44 59 = (upd (F 59) (Int32.toNatClampNeg (n 57)) ((F 59) (Int32.toNatClampNeg x1))) from g59_44)]; rw [updE, if_pos rfl])
          have vhtb60 : F_44 60 (Int32.toNatClampNeg (n 57)) = ((F 60) (Int32.toNatClampNeg x1)) := (by rw [(show F_44 60 = (upd (F 60) (Int32.toNatClampNeg (n 57)) ((F 60) (Int32.toNatClampNeg x1))) from g60_44)]; rw [updE, if_pos rfl])
          have vhtb62 : F_44 62 (Int32.toNatClampNeg (n 57)) = 0 := (by rw [(show F_44 62 = (upd (upd (F 62) (Int32.toNatClampNeg x1) 2) (Int32.toNatClampNeg (n 57)) 0) from g62_44)]; rw [updE, if_pos rfl])
          have vhtb66 : F_44 66 (Int32.toNatClampNeg (n 57)) = (F 66 (Int32.toNatClampNeg (n 57))) := (by rw [(show F_44 66 = (F 66) from (hx44.2.2.1 66 (by decide)))])
          have htb : frV F (n 5).toInt dd (F_44 58 (Int32.toNatClampNeg (n 57))) (F_44 59 (Int32.toNatClampNeg (n 57))) (F_44 60 (Int32.toNatClampNeg (n 57))) (F_44 62 (Int32.toNatClampNeg (n 57))) (F_44 66 (Int32.toNatClampNeg (n 57))) rb (cR rb) := by rw [vhtb58, vhtb59, vhtb60, vhtb62, vhtb66]; exact ⟨q2.1, fd, fo, hrb, Or.inl ⟨rfl, rfl⟩⟩
          rw [qn1] at htb
          have hs2 : FSt F_44 (n 5).toInt dd ((Int32.toNatClampNeg x1) + 1 + 1) rb (P1 + 1 + (cR rb)) := ⟨_, _, (cR rb), hs1, by omega, frV_w (fun k hk => hxx.2.2.1 k ((by decide : ∀ k : Nat, k ∈ wK → k ∉ ([58, 59, 60, 62, 64, 66] : List Nat)) k hk)) htb, rfl⟩
          exact gz_vret rfl dX12_goesOn_325 (Nat.le_of_ble_eq_true rfl) (Nat.le_of_ble_eq_true rfl) (⟨rfl, _, _, _, _, hS_44, hxx, by omega, rb, _, by rw [e57n, e5]; exact hs2, (by have := qf.2; omega)⟩)
    ·
      try simp only [mIn_0, lgc_lt, lgc_gt, lgc_le, lgc_ge, lgc_eq] at c_42
      try simp only [fl_lt, fl_le, fl_eq, fL_w, fL_lt, fL_le, tm1, tm10k, tm9, tm99, Int32.reduceToInt, Int64.reduceToInt, Int.not_lt, Int.not_le] at c_42
      refine gz_iconst (v := 3) dX12_goesOn_45 (by decide) ?_
      refine gz_goto (tgt := 50) dX12_goesOn_46 (by decide) ?_
      refine m_iast 62 hS_39 rfl (N := 80) rfl ((by exact vin_T (rfl : x1.toInt = x1.toInt) (by omega) (by omega))) dX12_goesOn_50 (fun f_45 hS_45q => ?_)
      have hS_45 : mS cy m a f0 n z (va_up F 62 (upd (F 62) (Int32.toNatClampNeg x1) 3)) (va_up G 63 (vp_updL (G 63) (Int32.toNatClampNeg x1) (z 67))) f_45 := hS_45q
      refine gz_aload_n dX12_goesOn_51 rfl rfl ?_
      refine mg_182 hS_45 dX12_goesOn_52 ?_
      refine gz_iload_n dX12_goesOn_55 rfl rfl ?_
      refine gz_aload_n dX12_goesOn_56 rfl rfl ?_
      refine mg_20 hS_45 dX12_goesOn_57 ?_
      refine gz_iload dX12_goesOn_60 rfl ?_
      refine m_iald 7 hS_45 rfl (N := 880) rfl ((by exact vin_T (rfl : (((F 58) (Int32.toNatClampNeg x1))).toInt = (((F 58) (Int32.toNatClampNeg x1))).toInt) (by omega) (by omega))) dX12_goesOn_62 ?_
      refine gz_ev (w := .int ((F 7) (Int32.toNatClampNeg ((F 58) (Int32.toNatClampNeg x1))))) rfl ?_
      refine gz_bipush (v := 7) dX12_goesOn_63 (by decide) ?_
      refine gz_icmp_ne (tgt := 72) dX12_goesOn_65 (by decide) (fun c_65 => ?_) (fun c_65 => ?_)
      ·
        try simp only [mIn_0, lgc_lt, lgc_gt, lgc_le, lgc_ge, lgc_eq] at c_65
        try simp only [fl_lt, fl_le, fl_eq, fL_w, fL_lt, fL_le, tm1, tm10k, tm9, tm99, Int32.reduceToInt, Int64.reduceToInt, Int.not_lt, Int.not_le] at c_65
        refine gz_iconst (v := 0) dX12_goesOn_72 (by decide) ?_
        refine m_zast 64 hS_45 rfl (N := 80) rfl ((by exact vin_T (rfl : x1.toInt = x1.toInt) (by omega) (by omega))) dX12_goesOn_73 (fun f_46 hS_46q => ?_)
        have hS_46 : mS cy m a f0 n z (va_up (va_up F 62 (upd (F 62) (Int32.toNatClampNeg x1) 3)) 64 (upd (F 64) (Int32.toNatClampNeg x1) (vp_nar .boolean 0))) (va_up G 63 (vp_updL (G 63) (Int32.toNatClampNeg x1) (z 67))) f_46 := hS_46q
        refine gz_aload_n dX12_goesOn_74 rfl rfl ?_
        refine mg_20 hS_46 dX12_goesOn_75 ?_
        refine gz_iload dX12_goesOn_78 rfl ?_
        refine m_iald 7 hS_46 rfl (N := 880) rfl ((by exact vin_T (rfl : (((F 58) (Int32.toNatClampNeg x1))).toInt = (((F 58) (Int32.toNatClampNeg x1))).toInt) (by omega) (by omega))) dX12_goesOn_80 ?_
        refine gz_ev (w := .int ((F 7) (Int32.toNatClampNeg ((F 58) (Int32.toNatClampNeg x1))))) rfl ?_
        refine gz_bipush (v := 7) dX12_goesOn_81 (by decide) ?_
        refine gz_icmp_eq (tgt := 325) dX12_goesOn_83 (by decide) (fun c_83 => ?_) (fun c_83 => ?_)
        ·
          try simp only [mIn_0, lgc_lt, lgc_gt, lgc_le, lgc_ge, lgc_eq] at c_83
          try simp only [fl_lt, fl_le, fl_eq, fL_w, fL_lt, fL_le, tm1, tm10k, tm9, tm99, Int32.reduceToInt, Int64.reduceToInt, Int.not_lt, Int.not_le] at c_83
          have hxx : fx [57] [67] [58, 59, 60, 62, 64, 66] [61, 63, 65] n z F G n z (va_up (va_up F 62 (upd (F 62) (Int32.toNatClampNeg x1) 3)) 64 (upd (F 64) (Int32.toNatClampNeg x1) (vp_nar .boolean 0))) (va_up G 63 (vp_updL (G 63) (Int32.toNatClampNeg x1) (z 67))) := (fx_F (fx_F (fx_G fx_rf (by decide)) (by decide)) (by decide))
          have hlo9 : FSt (va_up (va_up F 62 (upd (F 62) (Int32.toNatClampNeg x1) 3)) 64 (upd (F 64) (Int32.toNatClampNeg x1) (vp_nar .boolean 0))) (n 5).toInt dd (Int32.toNatClampNeg x1) r1 P1 := FSt_cg (fun k hk => hxx.2.2.1 k ((by decide : ∀ k : Nat, k ∈ wK → k ∉ ([58, 59, 60, 62, 64, 66] : List Nat)) k hk)) _ _ _ (fun i hi => by rw [(show (va_up (va_up F 62 (upd (F 62) (Int32.toNatClampNeg x1) 3)) 64 (upd (F 64) (Int32.toNatClampNeg x1) (vp_nar .boolean 0))) 58 = (F 58) from rfl)]) (fun i hi => by rw [(show (va_up (va_up F 62 (upd (F 62) (Int32.toNatClampNeg x1) 3)) 64 (upd (F 64) (Int32.toNatClampNeg x1) (vp_nar .boolean 0))) 59 = (F 59) from rfl)]) (fun i hi => by rw [(show (va_up (va_up F 62 (upd (F 62) (Int32.toNatClampNeg x1) 3)) 64 (upd (F 64) (Int32.toNatClampNeg x1) (vp_nar .boolean 0))) 60 = (F 60) from rfl)]) (fun i hi => by rw [(show (va_up (va_up F 62 (upd (F 62) (Int32.toNatClampNeg x1) 3)) 64 (upd (F 64) (Int32.toNatClampNeg x1) (vp_nar .boolean 0))) 62 = (upd (F 62) (Int32.toNatClampNeg x1) 3) from rfl)]; rw [updE, if_neg (by omega)]) (fun i hi => by rw [(show (va_up (va_up F 62 (upd (F 62) (Int32.toNatClampNeg x1) 3)) 64 (upd (F 64) (Int32.toNatClampNeg x1) (vp_nar .boolean 0))) 66 = (F 66) from rfl)]) hlo
          have e5 : n 5 = n 5 := hxx.1 5 (by decide)
          have e57 : (n 57).toInt = x1.toInt + 1 := (by omega)
          have e57n : (n 57).toInt.toNat = (Int32.toNatClampNeg x1) + 1 := by omega
          have vhta58 : (va_up (va_up F 62 (upd (F 62) (Int32.toNatClampNeg x1) 3)) 64 (upd (F 64) (Int32.toNatClampNeg x1) (vp_nar .boolean 0))) 58 (Int32.toNatClampNeg x1) = (F 58 (Int32.toNatClampNeg x1)) := (by rw [(show (va_up (va_up F 62 (upd (F 62) (Int32.toNatClampNeg x1) 3)) 64 (upd (F 64) (Int32.toNatClampNeg x1) (vp_nar .boolean 0))) 58 = (F 58) from rfl)])
          have vhta59 : (va_up (va_up F 62 (upd (F 62) (Int32.toNatClampNeg x1) 3)) 64 (upd (F 64) (Int32.toNatClampNeg x1) (vp_nar .boolean 0))) 59 (Int32.toNatClampNeg x1) = (F 59 (Int32.toNatClampNeg x1)) := (by rw [(show (va_up (va_up F 62 (upd (F 62) (Int32.toNatClampNeg x1) 3)) 64 (upd (F 64) (Int32.toNatClampNeg x1) (vp_nar .boolean 0))) 59 = (F 59) from rfl)])
          have vhta60 : (va_up (va_up F 62 (upd (F 62) (Int32.toNatClampNeg x1) 3)) 64 (upd (F 64) (Int32.toNatClampNeg x1) (vp_nar .boolean 0))) 60 (Int32.toNatClampNeg x1) = (F 60 (Int32.toNatClampNeg x1)) := (by rw [(show (va_up (va_up F 62 (upd (F 62) (Int32.toNatClampNeg x1) 3)) 64 (upd (F 64) (Int32.toNatClampNeg x1) (vp_nar .boolean 0))) 60 = (F 60) from rfl)])
          have vhta62 : (va_up (va_up F 62 (upd (F 62) (Int32.toNatClampNeg x1) 3)) 64 (upd (F 64) (Int32.toNatClampNeg x1) (vp_nar .boolean 0))) 62 (Int32.toNatClampNeg x1) = 3 := (by rw [(show (va_up (va_up F 62 (upd (F 62) (Int32.toNatClampNeg x1) 3)) 64 (upd (F 64) (Int32.toNatClampNeg x1) (vp_nar .boolean 0))) 62 = (upd (F 62) (Int32.toNatClampNeg x1) 3) from rfl)]; rw [updE, if_pos rfl])
          have vhta66 : (va_up (va_up F 62 (upd (F 62) (Int32.toNatClampNeg x1) 3)) 64 (upd (F 64) (Int32.toNatClampNeg x1) (vp_nar .boolean 0))) 66 (Int32.toNatClampNeg x1) = (F 66 (Int32.toNatClampNeg x1)) := (by rw [(show (va_up (va_up F 62 (upd (F 62) (Int32.toNatClampNeg x1) 3)) 64 (upd (F 64) (Int32.toNatClampNeg x1) (vp_nar .boolean 0))) 66 = (F 66) from rfl)])
          have hta : frV F (n 5).toInt dd ((va_up (va_up F 62 (upd (F 62) (Int32.toNatClampNeg x1) 3)) 64 (upd (F 64) (Int32.toNatClampNeg x1) (vp_nar .boolean 0))) 58 (Int32.toNatClampNeg x1)) ((va_up (va_up F 62 (upd (F 62) (Int32.toNatClampNeg x1) 3)) 64 (upd (F 64) (Int32.toNatClampNeg x1) (vp_nar .boolean 0))) 59 (Int32.toNatClampNeg x1)) ((va_up (va_up F 62 (upd (F 62) (Int32.toNatClampNeg x1) 3)) 64 (upd (F 64) (Int32.toNatClampNeg x1) (vp_nar .boolean 0))) 60 (Int32.toNatClampNeg x1)) ((va_up (va_up F 62 (upd (F 62) (Int32.toNatClampNeg x1) 3)) 64 (upd (F 64) (Int32.toNatClampNeg x1) (vp_nar .boolean 0))) 62 (Int32.toNatClampNeg x1)) ((va_up (va_up F 62 (upd (F 62) (Int32.toNatClampNeg x1) 3)) 64 (upd (F 64) (Int32.toNatClampNeg x1) (vp_nar .boolean 0))) 66 (Int32.toNatClampNeg x1)) r (3 * cR (r - 1) + 4) := by rw [vhta58, vhta59, vhta60, vhta62, vhta66]; exact ⟨fw, fd, fo, fr_, Or.inr (Or.inr (Or.inr (Or.inl ⟨by first | rfl | (exfalso; omega), rfl⟩)))⟩
          have hs1 : FSt (va_up (va_up F 62 (upd (F 62) (Int32.toNatClampNeg x1) 3)) 64 (upd (F 64) (Int32.toNatClampNeg x1) (vp_nar .boolean 0))) (n 5).toInt dd ((Int32.toNatClampNeg x1) + 1) r (P1 + (3 * cR (r - 1) + 4)) := ⟨r1, P1, (3 * cR (r - 1) + 4), hlo9, by omega, frV_w (fun k hk => hxx.2.2.1 k ((by decide : ∀ k : Nat, k ∈ wK → k ∉ ([58, 59, 60, 62, 64, 66] : List Nat)) k hk)) hta, rfl⟩
          exact gz_vret rfl dX12_goesOn_325 (Nat.le_of_ble_eq_true rfl) (Nat.le_of_ble_eq_true rfl) (⟨rfl, _, _, _, _, hS_46, hxx, by omega, r, _, by rw [e57n, e5]; exact hs1, (by have := (q1_ (by omega)).2; omega)⟩)
        ·
          try simp only [mIn_0, lgc_lt, lgc_gt, lgc_le, lgc_ge, lgc_eq] at c_83
          try simp only [fl_lt, fl_le, fl_eq, fL_w, fL_lt, fL_le, tm1, tm10k, tm9, tm99, Int32.reduceToInt, Int64.reduceToInt, Int.not_lt, Int.not_le] at c_83
          refine gz_aload_n dX12_goesOn_86 rfl rfl ?_
          refine gz_aload_n dX12_goesOn_87 rfl rfl ?_
          refine mg_35 hS_46 dX12_goesOn_88 ?_
          refine gz_iload dX12_goesOn_91 rfl ?_
          refine m_iald 12 hS_46 rfl (N := 880) rfl ((by exact vin_T (rfl : (((F 58) (Int32.toNatClampNeg x1))).toInt = (((F 58) (Int32.toNatClampNeg x1))).toInt) (by omega) (by omega))) dX12_goesOn_93 ?_
          refine gz_ev (w := .int ((F 12) (Int32.toNatClampNeg ((F 58) (Int32.toNatClampNeg x1))))) rfl ?_
          refine gz_aload_n dX12_goesOn_94 rfl rfl ?_
          refine mg_167 hS_46 dX12_goesOn_95 ?_
          refine gz_iload_n dX12_goesOn_98 rfl rfl ?_
          refine m_iald 59 hS_46 rfl (N := 80) rfl ((by exact vin_T (rfl : x1.toInt = x1.toInt) (by omega) (by omega))) dX12_goesOn_99 ?_
          refine gz_ev (w := .int ((F 59) (Int32.toNatClampNeg x1))) rfl ?_
          refine gz_aload_n dX12_goesOn_100 rfl rfl ?_
          refine mg_170 hS_46 dX12_goesOn_101 ?_
          refine gz_iload_n dX12_goesOn_104 rfl rfl ?_
          refine m_iald 60 hS_46 rfl (N := 80) rfl ((by exact vin_T (rfl : x1.toInt = x1.toInt) (by omega) (by omega))) dX12_goesOn_105 ?_
          refine gz_ev (w := .int ((F 60) (Int32.toNatClampNeg x1))) rfl ?_
          refine gz_aload_n dX12_goesOn_106 rfl rfl ?_
          refine mg_173 hS_46 dX12_goesOn_107 ?_
          refine gz_iload_n dX12_goesOn_110 rfl rfl ?_
          refine m_lald 61 hS_46 rfl (N := 80) rfl ((by exact vin_T (rfl : x1.toInt = x1.toInt) (by omega) (by omega))) dX12_goesOn_111 ?_
          refine gz_ev (w := .long ((G 61) (Int32.toNatClampNeg x1))) rfl ?_
          have qf := q1_ (by omega)
          have q2 : vW F (n 5).toInt (F 12 (Int32.toNatClampNeg (F 58 (Int32.toNatClampNeg x1)))).toInt ∧ szF F (F 11 (Int32.toNatClampNeg (F 58 (Int32.toNatClampNeg x1)))).toInt + szF F (F 12 (Int32.toNatClampNeg (F 58 (Int32.toNatClampNeg x1)))).toInt + 1 ≤ szF F (F 58 (Int32.toNatClampNeg x1)).toInt := two_ok bW fw (show 3 ≤ (F 7 (Int32.toNatClampNeg (F 58 (Int32.toNatClampNeg x1)))).toInt ∧ (F 7 (Int32.toNatClampNeg (F 58 (Int32.toNatClampNeg x1)))).toInt ≤ 5 by omega)
          have q2z := szF_pos bW q2.1
          obtain ⟨rb, hrb⟩ : ∃ rb : Nat, (rb : Int) = szF F (F 12 (Int32.toNatClampNeg (F 58 (Int32.toNatClampNeg x1)))).toInt + 4 - (F 59 (Int32.toNatClampNeg x1)).toInt := ⟨(szF F (F 12 (Int32.toNatClampNeg (F 58 (Int32.toNatClampNeg x1)))).toInt + 4 - (F 59 (Int32.toNatClampNeg x1)).toInt : Int).toNat, by omega⟩
          have hcb := cR_mono (a := rb) (r - 1) (by omega)
          refine scX12_466 (k_X12_pushes (x1 := ((F 12) (Int32.toNatClampNeg ((F 58) (Int32.toNatClampNeg x1))))) (x2 := ((F 59) (Int32.toNatClampNeg x1))) (x3 := ((F 60) (Int32.toNatClampNeg x1))) hS_46 (by omega)) hS_46.1 ⟨(Nat.le_of_ble_eq_true rfl), (Nat.le_of_ble_eq_true rfl)⟩ ⟨(Nat.le_of_ble_eq_true rfl), (Nat.le_of_ble_eq_true rfl)⟩ rfl rfl (Nat.le_of_ble_eq_true rfl) dX12_goesOn_112 ?_
          rintro f_47 ⟨n_47, z_47, F_47, G_47, hS_47, hx47, g57_47, g58_47, g59_47, g60_47, g62_47⟩
          refine gz_goto (tgt := 325) dX12_goesOn_115 (by decide) ?_
          have hxx : fx [57] [67] [58, 59, 60, 62, 64, 66] [61, 63, 65] n z F G n_47 z_47 F_47 G_47 := (fx_tr (fx_F (fx_F (fx_G fx_rf (by decide)) (by decide)) (by decide)) hx47 (by decide))
          have hlo9 : FSt F_47 (n 5).toInt dd (Int32.toNatClampNeg x1) r1 P1 := FSt_cg (fun k hk => hxx.2.2.1 k ((by decide : ∀ k : Nat, k ∈ wK → k ∉ ([58, 59, 60, 62, 64, 66] : List Nat)) k hk)) _ _ _ (fun i hi => by rw [(show F_47 58 = (upd (F 58) (Int32.toNatClampNeg (n 57)) ((F 12) (Int32.toNatClampNeg ((F 58) (Int32.toNatClampNeg x1))))) from g58_47)]; rw [updE, if_neg (by omega)]) (fun i hi => by rw [(show F_47 59 = (upd (F 59) (Int32.toNatClampNeg (n 57)) ((F 59) (Int32.toNatClampNeg x1))) from g59_47)]; rw [updE, if_neg (by omega)]) (fun i hi => by rw [(show F_47 60 = (upd (F 60) (Int32.toNatClampNeg (n 57)) ((F 60) (Int32.toNatClampNeg x1))) from g60_47)]; rw [updE, if_neg (by omega)]) (fun i hi => by rw [(show F_47 62 = (upd (upd (F 62) (Int32.toNatClampNeg x1) 3) (Int32.toNatClampNeg (n 57)) 0) from g62_47)]; rw [updE, if_neg (by omega)]; rw [updE, if_neg (by omega)]) (fun i hi => by rw [(show F_47 66 = (F 66) from (hx47.2.2.1 66 (by decide)))]) hlo
          have e5 : n_47 5 = n 5 := hxx.1 5 (by decide)
          have e57 : (n_47 57).toInt = x1.toInt + 2 := (by (try rw [(show n_47 57 = ((n 57) + 1) from g57_47)]); have q1_ := (T_add (rfl : ((n 57)).toInt = ((n 57)).toInt) (show (1 : Int32).toInt = 1 from rfl) (by omega)); omega)
          have e57n : (n_47 57).toInt.toNat = (Int32.toNatClampNeg x1) + 2 := by omega
          have vhta58 : F_47 58 (Int32.toNatClampNeg x1) = (F 58 (Int32.toNatClampNeg x1)) := (by rw [(show F_47 58 = (upd (F 58) (Int32.toNatClampNeg (n 57)) ((F 12) (Int32.toNatClampNeg ((F 58) (Int32.toNatClampNeg x1))))) from g58_47)]; rw [updE, if_neg (by omega)])
          have vhta59 : F_47 59 (Int32.toNatClampNeg x1) = (F 59 (Int32.toNatClampNeg x1)) := (by rw [(show F_47 59 = (upd (F 59) (Int32.toNatClampNeg (n 57)) ((F 59) (Int32.toNatClampNeg x1))) from g59_47)]; rw [updE, if_neg (by omega)])
          have vhta60 : F_47 60 (Int32.toNatClampNeg x1) = (F 60 (Int32.toNatClampNeg x1)) := (by rw [(show F_47 60 = (upd (F 60) (Int32.toNatClampNeg (n 57)) ((F 60) (Int32.toNatClampNeg x1))) from g60_47)]; rw [updE, if_neg (by omega)])
          have vhta62 : F_47 62 (Int32.toNatClampNeg x1) = 3 := (by rw [(show F_47 62 = (upd (upd (F 62) (Int32.toNatClampNeg x1) 3) (Int32.toNatClampNeg (n 57)) 0) from g62_47)]; rw [updE, if_neg (by omega)]; rw [updE, if_pos rfl])
          have vhta66 : F_47 66 (Int32.toNatClampNeg x1) = (F 66 (Int32.toNatClampNeg x1)) := (by rw [(show F_47 66 = (F 66) from (hx47.2.2.1 66 (by decide)))])
          have hta : frV F (n 5).toInt dd (F_47 58 (Int32.toNatClampNeg x1)) (F_47 59 (Int32.toNatClampNeg x1)) (F_47 60 (Int32.toNatClampNeg x1)) (F_47 62 (Int32.toNatClampNeg x1)) (F_47 66 (Int32.toNatClampNeg x1)) r 1 := by rw [vhta58, vhta59, vhta60, vhta62, vhta66]; exact ⟨fw, fd, fo, fr_, Or.inr (Or.inr (Or.inl ⟨by first | rfl | (exfalso; omega), rfl⟩))⟩
          have hs1 : FSt F_47 (n 5).toInt dd ((Int32.toNatClampNeg x1) + 1) r (P1 + 1) := ⟨r1, P1, 1, hlo9, by omega, frV_w (fun k hk => hxx.2.2.1 k ((by decide : ∀ k : Nat, k ∈ wK → k ∉ ([58, 59, 60, 62, 64, 66] : List Nat)) k hk)) hta, rfl⟩
          have qn1 : (Int32.toNatClampNeg (n 57)) = (Int32.toNatClampNeg x1) + 1 := by omega
          have vhtb58 : F_47 58 (Int32.toNatClampNeg (n 57)) = ((F 12) (Int32.toNatClampNeg ((F 58) (Int32.toNatClampNeg x1)))) := (by rw [(show F_47 58 = (upd (F 58) (Int32.toNatClampNeg (n 57)) ((F 12) (Int32.toNatClampNeg ((F 58) (Int32.toNatClampNeg x1))))) from g58_47)]; rw [updE, if_pos rfl])
          have vhtb59 : F_47 59 (Int32.toNatClampNeg (n 57)) = ((F 59) (Int32.toNatClampNeg x1)) := (by rw [(show F_47 59 = (upd (F 59) (Int32.toNatClampNeg (n 57)) ((F 59) (Int32.toNatClampNeg x1))) from g59_47)]; rw [updE, if_pos rfl])
          have vhtb60 : F_47 60 (Int32.toNatClampNeg (n 57)) = ((F 60) (Int32.toNatClampNeg x1)) := (by rw [(show F_47 60 = (upd (F 60) (Int32.toNatClampNeg (n 57)) ((F 60) (Int32.toNatClampNeg x1))) from g60_47)]; rw [updE, if_pos rfl])
          have vhtb62 : F_47 62 (Int32.toNatClampNeg (n 57)) = 0 := (by rw [(show F_47 62 = (upd (upd (F 62) (Int32.toNatClampNeg x1) 3) (Int32.toNatClampNeg (n 57)) 0) from g62_47)]; rw [updE, if_pos rfl])
          have vhtb66 : F_47 66 (Int32.toNatClampNeg (n 57)) = (F 66 (Int32.toNatClampNeg (n 57))) := (by rw [(show F_47 66 = (F 66) from (hx47.2.2.1 66 (by decide)))])
          have htb : frV F (n 5).toInt dd (F_47 58 (Int32.toNatClampNeg (n 57))) (F_47 59 (Int32.toNatClampNeg (n 57))) (F_47 60 (Int32.toNatClampNeg (n 57))) (F_47 62 (Int32.toNatClampNeg (n 57))) (F_47 66 (Int32.toNatClampNeg (n 57))) rb (cR rb) := by rw [vhtb58, vhtb59, vhtb60, vhtb62, vhtb66]; exact ⟨q2.1, fd, fo, hrb, Or.inl ⟨rfl, rfl⟩⟩
          rw [qn1] at htb
          have hs2 : FSt F_47 (n 5).toInt dd ((Int32.toNatClampNeg x1) + 1 + 1) rb (P1 + 1 + (cR rb)) := ⟨_, _, (cR rb), hs1, by omega, frV_w (fun k hk => hxx.2.2.1 k ((by decide : ∀ k : Nat, k ∈ wK → k ∉ ([58, 59, 60, 62, 64, 66] : List Nat)) k hk)) htb, rfl⟩
          exact gz_vret rfl dX12_goesOn_325 (Nat.le_of_ble_eq_true rfl) (Nat.le_of_ble_eq_true rfl) (⟨rfl, _, _, _, _, hS_47, hxx, by omega, rb, _, by rw [e57n, e5]; exact hs2, (by have := qf.2; omega)⟩)
      ·
        try simp only [mIn_0, lgc_lt, lgc_gt, lgc_le, lgc_ge, lgc_eq] at c_65
        try simp only [fl_lt, fl_le, fl_eq, fL_w, fL_lt, fL_le, tm1, tm10k, tm9, tm99, Int32.reduceToInt, Int64.reduceToInt, Int.not_lt, Int.not_le] at c_65
        refine gz_iconst (v := 1) dX12_goesOn_68 (by decide) ?_
        refine gz_goto (tgt := 73) dX12_goesOn_69 (by decide) ?_
        refine m_zast 64 hS_45 rfl (N := 80) rfl ((by exact vin_T (rfl : x1.toInt = x1.toInt) (by omega) (by omega))) dX12_goesOn_73 (fun f_48 hS_48q => ?_)
        have hS_48 : mS cy m a f0 n z (va_up (va_up F 62 (upd (F 62) (Int32.toNatClampNeg x1) 3)) 64 (upd (F 64) (Int32.toNatClampNeg x1) (vp_nar .boolean 1))) (va_up G 63 (vp_updL (G 63) (Int32.toNatClampNeg x1) (z 67))) f_48 := hS_48q
        refine gz_aload_n dX12_goesOn_74 rfl rfl ?_
        refine mg_20 hS_48 dX12_goesOn_75 ?_
        refine gz_iload dX12_goesOn_78 rfl ?_
        refine m_iald 7 hS_48 rfl (N := 880) rfl ((by exact vin_T (rfl : (((F 58) (Int32.toNatClampNeg x1))).toInt = (((F 58) (Int32.toNatClampNeg x1))).toInt) (by omega) (by omega))) dX12_goesOn_80 ?_
        refine gz_ev (w := .int ((F 7) (Int32.toNatClampNeg ((F 58) (Int32.toNatClampNeg x1))))) rfl ?_
        refine gz_bipush (v := 7) dX12_goesOn_81 (by decide) ?_
        refine gz_icmp_eq (tgt := 325) dX12_goesOn_83 (by decide) (fun c_83 => ?_) (fun c_83 => ?_)
        ·
          try simp only [mIn_0, lgc_lt, lgc_gt, lgc_le, lgc_ge, lgc_eq] at c_83
          try simp only [fl_lt, fl_le, fl_eq, fL_w, fL_lt, fL_le, tm1, tm10k, tm9, tm99, Int32.reduceToInt, Int64.reduceToInt, Int.not_lt, Int.not_le] at c_83
          have hxx : fx [57] [67] [58, 59, 60, 62, 64, 66] [61, 63, 65] n z F G n z (va_up (va_up F 62 (upd (F 62) (Int32.toNatClampNeg x1) 3)) 64 (upd (F 64) (Int32.toNatClampNeg x1) (vp_nar .boolean 1))) (va_up G 63 (vp_updL (G 63) (Int32.toNatClampNeg x1) (z 67))) := (fx_F (fx_F (fx_G fx_rf (by decide)) (by decide)) (by decide))
          have hlo9 : FSt (va_up (va_up F 62 (upd (F 62) (Int32.toNatClampNeg x1) 3)) 64 (upd (F 64) (Int32.toNatClampNeg x1) (vp_nar .boolean 1))) (n 5).toInt dd (Int32.toNatClampNeg x1) r1 P1 := FSt_cg (fun k hk => hxx.2.2.1 k ((by decide : ∀ k : Nat, k ∈ wK → k ∉ ([58, 59, 60, 62, 64, 66] : List Nat)) k hk)) _ _ _ (fun i hi => by rw [(show (va_up (va_up F 62 (upd (F 62) (Int32.toNatClampNeg x1) 3)) 64 (upd (F 64) (Int32.toNatClampNeg x1) (vp_nar .boolean 1))) 58 = (F 58) from rfl)]) (fun i hi => by rw [(show (va_up (va_up F 62 (upd (F 62) (Int32.toNatClampNeg x1) 3)) 64 (upd (F 64) (Int32.toNatClampNeg x1) (vp_nar .boolean 1))) 59 = (F 59) from rfl)]) (fun i hi => by rw [(show (va_up (va_up F 62 (upd (F 62) (Int32.toNatClampNeg x1) 3)) 64 (upd (F 64) (Int32.toNatClampNeg x1) (vp_nar .boolean 1))) 60 = (F 60) from rfl)]) (fun i hi => by rw [(show (va_up (va_up F 62 (upd (F 62) (Int32.toNatClampNeg x1) 3)) 64 (upd (F 64) (Int32.toNatClampNeg x1) (vp_nar .boolean 1))) 62 = (upd (F 62) (Int32.toNatClampNeg x1) 3) from rfl)]; rw [updE, if_neg (by omega)]) (fun i hi => by rw [(show (va_up (va_up F 62 (upd (F 62) (Int32.toNatClampNeg x1) 3)) 64 (upd (F 64) (Int32.toNatClampNeg x1) (vp_nar .boolean 1))) 66 = (F 66) from rfl)]) hlo
          have e5 : n 5 = n 5 := hxx.1 5 (by decide)
          have e57 : (n 57).toInt = x1.toInt + 1 := (by omega)
          have e57n : (n 57).toInt.toNat = (Int32.toNatClampNeg x1) + 1 := by omega
          have vhta58 : (va_up (va_up F 62 (upd (F 62) (Int32.toNatClampNeg x1) 3)) 64 (upd (F 64) (Int32.toNatClampNeg x1) (vp_nar .boolean 1))) 58 (Int32.toNatClampNeg x1) = (F 58 (Int32.toNatClampNeg x1)) := (by rw [(show (va_up (va_up F 62 (upd (F 62) (Int32.toNatClampNeg x1) 3)) 64 (upd (F 64) (Int32.toNatClampNeg x1) (vp_nar .boolean 1))) 58 = (F 58) from rfl)])
          have vhta59 : (va_up (va_up F 62 (upd (F 62) (Int32.toNatClampNeg x1) 3)) 64 (upd (F 64) (Int32.toNatClampNeg x1) (vp_nar .boolean 1))) 59 (Int32.toNatClampNeg x1) = (F 59 (Int32.toNatClampNeg x1)) := (by rw [(show (va_up (va_up F 62 (upd (F 62) (Int32.toNatClampNeg x1) 3)) 64 (upd (F 64) (Int32.toNatClampNeg x1) (vp_nar .boolean 1))) 59 = (F 59) from rfl)])
          have vhta60 : (va_up (va_up F 62 (upd (F 62) (Int32.toNatClampNeg x1) 3)) 64 (upd (F 64) (Int32.toNatClampNeg x1) (vp_nar .boolean 1))) 60 (Int32.toNatClampNeg x1) = (F 60 (Int32.toNatClampNeg x1)) := (by rw [(show (va_up (va_up F 62 (upd (F 62) (Int32.toNatClampNeg x1) 3)) 64 (upd (F 64) (Int32.toNatClampNeg x1) (vp_nar .boolean 1))) 60 = (F 60) from rfl)])
          have vhta62 : (va_up (va_up F 62 (upd (F 62) (Int32.toNatClampNeg x1) 3)) 64 (upd (F 64) (Int32.toNatClampNeg x1) (vp_nar .boolean 1))) 62 (Int32.toNatClampNeg x1) = 3 := (by rw [(show (va_up (va_up F 62 (upd (F 62) (Int32.toNatClampNeg x1) 3)) 64 (upd (F 64) (Int32.toNatClampNeg x1) (vp_nar .boolean 1))) 62 = (upd (F 62) (Int32.toNatClampNeg x1) 3) from rfl)]; rw [updE, if_pos rfl])
          have vhta66 : (va_up (va_up F 62 (upd (F 62) (Int32.toNatClampNeg x1) 3)) 64 (upd (F 64) (Int32.toNatClampNeg x1) (vp_nar .boolean 1))) 66 (Int32.toNatClampNeg x1) = (F 66 (Int32.toNatClampNeg x1)) := (by rw [(show (va_up (va_up F 62 (upd (F 62) (Int32.toNatClampNeg x1) 3)) 64 (upd (F 64) (Int32.toNatClampNeg x1) (vp_nar .boolean 1))) 66 = (F 66) from rfl)])
          have hta : frV F (n 5).toInt dd ((va_up (va_up F 62 (upd (F 62) (Int32.toNatClampNeg x1) 3)) 64 (upd (F 64) (Int32.toNatClampNeg x1) (vp_nar .boolean 1))) 58 (Int32.toNatClampNeg x1)) ((va_up (va_up F 62 (upd (F 62) (Int32.toNatClampNeg x1) 3)) 64 (upd (F 64) (Int32.toNatClampNeg x1) (vp_nar .boolean 1))) 59 (Int32.toNatClampNeg x1)) ((va_up (va_up F 62 (upd (F 62) (Int32.toNatClampNeg x1) 3)) 64 (upd (F 64) (Int32.toNatClampNeg x1) (vp_nar .boolean 1))) 60 (Int32.toNatClampNeg x1)) ((va_up (va_up F 62 (upd (F 62) (Int32.toNatClampNeg x1) 3)) 64 (upd (F 64) (Int32.toNatClampNeg x1) (vp_nar .boolean 1))) 62 (Int32.toNatClampNeg x1)) ((va_up (va_up F 62 (upd (F 62) (Int32.toNatClampNeg x1) 3)) 64 (upd (F 64) (Int32.toNatClampNeg x1) (vp_nar .boolean 1))) 66 (Int32.toNatClampNeg x1)) r (3 * cR (r - 1) + 4) := by rw [vhta58, vhta59, vhta60, vhta62, vhta66]; exact ⟨fw, fd, fo, fr_, Or.inr (Or.inr (Or.inr (Or.inl ⟨by first | rfl | (exfalso; omega), rfl⟩)))⟩
          have hs1 : FSt (va_up (va_up F 62 (upd (F 62) (Int32.toNatClampNeg x1) 3)) 64 (upd (F 64) (Int32.toNatClampNeg x1) (vp_nar .boolean 1))) (n 5).toInt dd ((Int32.toNatClampNeg x1) + 1) r (P1 + (3 * cR (r - 1) + 4)) := ⟨r1, P1, (3 * cR (r - 1) + 4), hlo9, by omega, frV_w (fun k hk => hxx.2.2.1 k ((by decide : ∀ k : Nat, k ∈ wK → k ∉ ([58, 59, 60, 62, 64, 66] : List Nat)) k hk)) hta, rfl⟩
          exact gz_vret rfl dX12_goesOn_325 (Nat.le_of_ble_eq_true rfl) (Nat.le_of_ble_eq_true rfl) (⟨rfl, _, _, _, _, hS_48, hxx, by omega, r, _, by rw [e57n, e5]; exact hs1, (by have := (q1_ (by omega)).2; omega)⟩)
        ·
          try simp only [mIn_0, lgc_lt, lgc_gt, lgc_le, lgc_ge, lgc_eq] at c_83
          try simp only [fl_lt, fl_le, fl_eq, fL_w, fL_lt, fL_le, tm1, tm10k, tm9, tm99, Int32.reduceToInt, Int64.reduceToInt, Int.not_lt, Int.not_le] at c_83
          refine gz_aload_n dX12_goesOn_86 rfl rfl ?_
          refine gz_aload_n dX12_goesOn_87 rfl rfl ?_
          refine mg_35 hS_48 dX12_goesOn_88 ?_
          refine gz_iload dX12_goesOn_91 rfl ?_
          refine m_iald 12 hS_48 rfl (N := 880) rfl ((by exact vin_T (rfl : (((F 58) (Int32.toNatClampNeg x1))).toInt = (((F 58) (Int32.toNatClampNeg x1))).toInt) (by omega) (by omega))) dX12_goesOn_93 ?_
          refine gz_ev (w := .int ((F 12) (Int32.toNatClampNeg ((F 58) (Int32.toNatClampNeg x1))))) rfl ?_
          refine gz_aload_n dX12_goesOn_94 rfl rfl ?_
          refine mg_167 hS_48 dX12_goesOn_95 ?_
          refine gz_iload_n dX12_goesOn_98 rfl rfl ?_
          refine m_iald 59 hS_48 rfl (N := 80) rfl ((by exact vin_T (rfl : x1.toInt = x1.toInt) (by omega) (by omega))) dX12_goesOn_99 ?_
          refine gz_ev (w := .int ((F 59) (Int32.toNatClampNeg x1))) rfl ?_
          refine gz_aload_n dX12_goesOn_100 rfl rfl ?_
          refine mg_170 hS_48 dX12_goesOn_101 ?_
          refine gz_iload_n dX12_goesOn_104 rfl rfl ?_
          refine m_iald 60 hS_48 rfl (N := 80) rfl ((by exact vin_T (rfl : x1.toInt = x1.toInt) (by omega) (by omega))) dX12_goesOn_105 ?_
          refine gz_ev (w := .int ((F 60) (Int32.toNatClampNeg x1))) rfl ?_
          refine gz_aload_n dX12_goesOn_106 rfl rfl ?_
          refine mg_173 hS_48 dX12_goesOn_107 ?_
          refine gz_iload_n dX12_goesOn_110 rfl rfl ?_
          refine m_lald 61 hS_48 rfl (N := 80) rfl ((by exact vin_T (rfl : x1.toInt = x1.toInt) (by omega) (by omega))) dX12_goesOn_111 ?_
          refine gz_ev (w := .long ((G 61) (Int32.toNatClampNeg x1))) rfl ?_
          have qf := q1_ (by omega)
          have q2 : vW F (n 5).toInt (F 12 (Int32.toNatClampNeg (F 58 (Int32.toNatClampNeg x1)))).toInt ∧ szF F (F 11 (Int32.toNatClampNeg (F 58 (Int32.toNatClampNeg x1)))).toInt + szF F (F 12 (Int32.toNatClampNeg (F 58 (Int32.toNatClampNeg x1)))).toInt + 1 ≤ szF F (F 58 (Int32.toNatClampNeg x1)).toInt := two_ok bW fw (show 3 ≤ (F 7 (Int32.toNatClampNeg (F 58 (Int32.toNatClampNeg x1)))).toInt ∧ (F 7 (Int32.toNatClampNeg (F 58 (Int32.toNatClampNeg x1)))).toInt ≤ 5 by omega)
          have q2z := szF_pos bW q2.1
          obtain ⟨rb, hrb⟩ : ∃ rb : Nat, (rb : Int) = szF F (F 12 (Int32.toNatClampNeg (F 58 (Int32.toNatClampNeg x1)))).toInt + 4 - (F 59 (Int32.toNatClampNeg x1)).toInt := ⟨(szF F (F 12 (Int32.toNatClampNeg (F 58 (Int32.toNatClampNeg x1)))).toInt + 4 - (F 59 (Int32.toNatClampNeg x1)).toInt : Int).toNat, by omega⟩
          have hcb := cR_mono (a := rb) (r - 1) (by omega)
          refine scX12_466 (k_X12_pushes (x1 := ((F 12) (Int32.toNatClampNeg ((F 58) (Int32.toNatClampNeg x1))))) (x2 := ((F 59) (Int32.toNatClampNeg x1))) (x3 := ((F 60) (Int32.toNatClampNeg x1))) hS_48 (by omega)) hS_48.1 ⟨(Nat.le_of_ble_eq_true rfl), (Nat.le_of_ble_eq_true rfl)⟩ ⟨(Nat.le_of_ble_eq_true rfl), (Nat.le_of_ble_eq_true rfl)⟩ rfl rfl (Nat.le_of_ble_eq_true rfl) dX12_goesOn_112 ?_
          rintro f_49 ⟨n_49, z_49, F_49, G_49, hS_49, hx49, g57_49, g58_49, g59_49, g60_49, g62_49⟩
          refine gz_goto (tgt := 325) dX12_goesOn_115 (by decide) ?_
          have hxx : fx [57] [67] [58, 59, 60, 62, 64, 66] [61, 63, 65] n z F G n_49 z_49 F_49 G_49 := (fx_tr (fx_F (fx_F (fx_G fx_rf (by decide)) (by decide)) (by decide)) hx49 (by decide))
          have hlo9 : FSt F_49 (n 5).toInt dd (Int32.toNatClampNeg x1) r1 P1 := FSt_cg (fun k hk => hxx.2.2.1 k ((by decide : ∀ k : Nat, k ∈ wK → k ∉ ([58, 59, 60, 62, 64, 66] : List Nat)) k hk)) _ _ _ (fun i hi => by rw [(show F_49 58 = (upd (F 58) (Int32.toNatClampNeg (n 57)) ((F 12) (Int32.toNatClampNeg ((F 58) (Int32.toNatClampNeg x1))))) from g58_49)]; rw [updE, if_neg (by omega)]) (fun i hi => by rw [(show F_49 59 = (upd (F 59) (Int32.toNatClampNeg (n 57)) ((F 59) (Int32.toNatClampNeg x1))) from g59_49)]; rw [updE, if_neg (by omega)]) (fun i hi => by rw [(show F_49 60 = (upd (F 60) (Int32.toNatClampNeg (n 57)) ((F 60) (Int32.toNatClampNeg x1))) from g60_49)]; rw [updE, if_neg (by omega)]) (fun i hi => by rw [(show F_49 62 = (upd (upd (F 62) (Int32.toNatClampNeg x1) 3) (Int32.toNatClampNeg (n 57)) 0) from g62_49)]; rw [updE, if_neg (by omega)]; rw [updE, if_neg (by omega)]) (fun i hi => by rw [(show F_49 66 = (F 66) from (hx49.2.2.1 66 (by decide)))]) hlo
          have e5 : n_49 5 = n 5 := hxx.1 5 (by decide)
          have e57 : (n_49 57).toInt = x1.toInt + 2 := (by (try rw [(show n_49 57 = ((n 57) + 1) from g57_49)]); have q1_ := (T_add (rfl : ((n 57)).toInt = ((n 57)).toInt) (show (1 : Int32).toInt = 1 from rfl) (by omega)); omega)
          have e57n : (n_49 57).toInt.toNat = (Int32.toNatClampNeg x1) + 2 := by omega
          have vhta58 : F_49 58 (Int32.toNatClampNeg x1) = (F 58 (Int32.toNatClampNeg x1)) := (by rw [(show F_49 58 = (upd (F 58) (Int32.toNatClampNeg (n 57)) ((F 12) (Int32.toNatClampNeg ((F 58) (Int32.toNatClampNeg x1))))) from g58_49)]; rw [updE, if_neg (by omega)])
          have vhta59 : F_49 59 (Int32.toNatClampNeg x1) = (F 59 (Int32.toNatClampNeg x1)) := (by rw [(show F_49 59 = (upd (F 59) (Int32.toNatClampNeg (n 57)) ((F 59) (Int32.toNatClampNeg x1))) from g59_49)]; rw [updE, if_neg (by omega)])
          have vhta60 : F_49 60 (Int32.toNatClampNeg x1) = (F 60 (Int32.toNatClampNeg x1)) := (by rw [(show F_49 60 = (upd (F 60) (Int32.toNatClampNeg (n 57)) ((F 60) (Int32.toNatClampNeg x1))) from g60_49)]; rw [updE, if_neg (by omega)])
          have vhta62 : F_49 62 (Int32.toNatClampNeg x1) = 3 := (by rw [(show F_49 62 = (upd (upd (F 62) (Int32.toNatClampNeg x1) 3) (Int32.toNatClampNeg (n 57)) 0) from g62_49)]; rw [updE, if_neg (by omega)]; rw [updE, if_pos rfl])
          have vhta66 : F_49 66 (Int32.toNatClampNeg x1) = (F 66 (Int32.toNatClampNeg x1)) := (by rw [(show F_49 66 = (F 66) from (hx49.2.2.1 66 (by decide)))])
          have hta : frV F (n 5).toInt dd (F_49 58 (Int32.toNatClampNeg x1)) (F_49 59 (Int32.toNatClampNeg x1)) (F_49 60 (Int32.toNatClampNeg x1)) (F_49 62 (Int32.toNatClampNeg x1)) (F_49 66 (Int32.toNatClampNeg x1)) r 1 := by rw [vhta58, vhta59, vhta60, vhta62, vhta66]; exact ⟨fw, fd, fo, fr_, Or.inr (Or.inr (Or.inl ⟨by first | rfl | (exfalso; omega), rfl⟩))⟩
          have hs1 : FSt F_49 (n 5).toInt dd ((Int32.toNatClampNeg x1) + 1) r (P1 + 1) := ⟨r1, P1, 1, hlo9, by omega, frV_w (fun k hk => hxx.2.2.1 k ((by decide : ∀ k : Nat, k ∈ wK → k ∉ ([58, 59, 60, 62, 64, 66] : List Nat)) k hk)) hta, rfl⟩
          have qn1 : (Int32.toNatClampNeg (n 57)) = (Int32.toNatClampNeg x1) + 1 := by omega
          have vhtb58 : F_49 58 (Int32.toNatClampNeg (n 57)) = ((F 12) (Int32.toNatClampNeg ((F 58) (Int32.toNatClampNeg x1)))) := (by rw [(show F_49 58 = (upd (F 58) (Int32.toNatClampNeg (n 57)) ((F 12) (Int32.toNatClampNeg ((F 58) (Int32.toNatClampNeg x1))))) from g58_49)]; rw [updE, if_pos rfl])
          have vhtb59 : F_49 59 (Int32.toNatClampNeg (n 57)) = ((F 59) (Int32.toNatClampNeg x1)) := (by rw [(show F_49 59 = (upd (F 59) (Int32.toNatClampNeg (n 57)) ((F 59) (Int32.toNatClampNeg x1))) from g59_49)]; rw [updE, if_pos rfl])
          have vhtb60 : F_49 60 (Int32.toNatClampNeg (n 57)) = ((F 60) (Int32.toNatClampNeg x1)) := (by rw [(show F_49 60 = (upd (F 60) (Int32.toNatClampNeg (n 57)) ((F 60) (Int32.toNatClampNeg x1))) from g60_49)]; rw [updE, if_pos rfl])
          have vhtb62 : F_49 62 (Int32.toNatClampNeg (n 57)) = 0 := (by rw [(show F_49 62 = (upd (upd (F 62) (Int32.toNatClampNeg x1) 3) (Int32.toNatClampNeg (n 57)) 0) from g62_49)]; rw [updE, if_pos rfl])
          have vhtb66 : F_49 66 (Int32.toNatClampNeg (n 57)) = (F 66 (Int32.toNatClampNeg (n 57))) := (by rw [(show F_49 66 = (F 66) from (hx49.2.2.1 66 (by decide)))])
          have htb : frV F (n 5).toInt dd (F_49 58 (Int32.toNatClampNeg (n 57))) (F_49 59 (Int32.toNatClampNeg (n 57))) (F_49 60 (Int32.toNatClampNeg (n 57))) (F_49 62 (Int32.toNatClampNeg (n 57))) (F_49 66 (Int32.toNatClampNeg (n 57))) rb (cR rb) := by rw [vhtb58, vhtb59, vhtb60, vhtb62, vhtb66]; exact ⟨q2.1, fd, fo, hrb, Or.inl ⟨rfl, rfl⟩⟩
          rw [qn1] at htb
          have hs2 : FSt F_49 (n 5).toInt dd ((Int32.toNatClampNeg x1) + 1 + 1) rb (P1 + 1 + (cR rb)) := ⟨_, _, (cR rb), hs1, by omega, frV_w (fun k hk => hxx.2.2.1 k ((by decide : ∀ k : Nat, k ∈ wK → k ∉ ([58, 59, 60, 62, 64, 66] : List Nat)) k hk)) htb, rfl⟩
          exact gz_vret rfl dX12_goesOn_325 (Nat.le_of_ble_eq_true rfl) (Nat.le_of_ble_eq_true rfl) (⟨rfl, _, _, _, _, hS_49, hxx, by omega, rb, _, by rw [e57n, e5]; exact hs2, (by have := qf.2; omega)⟩)

set_option maxHeartbeats 4000000 in
set_option maxRecDepth 100000 in
theorem l_X12_worth {l : Launch} {D : va_G} {cy : Nat → ClassId} {b : Nat} {m : Nat} {a : Nat → Nat} {f0 : gMem} {n0 : Nat → Int32} {z0 : Nat → Int64} {F0 : Nat → Nat → Int32} {G0 : Nat → Nat → Int64}  {x1 x2 x3 : Int32} (h2 : 1 ≤ x2.toInt ∧ x2.toInt ≤ 4) : ∀ (k : Nat) (Rz Pz : Nat) (n : Nat → Int32) (z : Nat → Int64) (F : Nat → Nat → Int32) (G : Nat → Nat → Int64) (fm : gMem), mS cy m a f0 n z F G fm → fx [57] [29, 67] [56, 58, 59, 60, 62, 64, 66] [28, 61, 63, 65] n0 z0 F0 G0 n z F G → (RI n F) → (FSt F (n 5).toInt x2.toInt (n 57).toInt.toNat Rz Pz) → (0 ≤ (n 57).toInt) → (Pz < k) → gG l (gRm 5 0 0) (gQf D b (pL fun r f2 => ∃ (n2 : Nat → Int32) (z2 : Nat → Int64) (F2 : Nat → Nat → Int32) (G2 : Nat → Nat → Int64), mS cy m a f0 n2 z2 F2 G2 f2 ∧ fx [57] [29, 67] [56, 58, 59, 60, 62, 64, 66] [28, 61, 63, 65] n0 z0 F0 G0 n2 z2 F2 G2 ∧ RI n2 F2) 0 0) gTt D cy b cX12_worth 5 (some .long) RX12 "worth" 0 0 fm 71 [(0, .ref m), (1, .int x1), (2, .int x2), (3, .int x3)] [] := by
  intro k
  induction k with
  | zero =>
    intro Rz Pz n z F G fm hS hx hR hF h57 hk
    exfalso; omega
  | succ k ih =>
    intro Rz Pz n z F G fm hS hx hR hF h57 hk
    obtain ⟨a0, a4, a5, bA, bW, a30, bL, a38, bP, a53, a47, a88⟩ := id hR
    have qln0 := FSt_len _ _ _ hF
    refine gz_aload_n dX12_worth_71 rfl rfl ?_
    refine mg_447 hS dX12_worth_72 ?_
    refine gz_if_le (tgt := 118) dX12_worth_75 (by decide) (fun c_75 => ?_) (fun c_75 => ?_)
    ·
      try simp only [mIn_0, lgc_lt, lgc_gt, lgc_le, lgc_ge, lgc_eq] at c_75
      try simp only [fl_lt, fl_le, fl_eq, fL_w, fL_lt, fL_le, tm1, tm10k, tm9, tm99, Int32.reduceToInt, Int64.reduceToInt, Int.not_lt, Int.not_le] at c_75
      refine gz_aload_n dX12_worth_118 rfl rfl ?_
      refine mg_450 hS dX12_worth_119 ?_
      exact gz_lret rfl dX12_worth_122 (Nat.le_of_ble_eq_true rfl) (Nat.le_of_ble_eq_true rfl) (⟨_, rfl, _, _, _, _, hS, hx, hR⟩)
    ·
      try simp only [mIn_0, lgc_lt, lgc_gt, lgc_le, lgc_ge, lgc_eq] at c_75
      try simp only [fl_lt, fl_le, fl_eq, fL_w, fL_lt, fL_le, tm1, tm10k, tm9, tm99, Int32.reduceToInt, Int64.reduceToInt, Int.not_lt, Int.not_le] at c_75
      refine gz_aload_n dX12_worth_78 rfl rfl ?_
      refine mg_447 hS dX12_worth_79 ?_
      refine gz_iconst (v := 1) dX12_worth_82 (by decide) ?_
      refine gz_isub dX12_worth_83 ?_
      obtain ⟨fv, hfv⟩ : ∃ v_, v_ = ((n 57) - 1) := ⟨_, rfl⟩
      refine gz_ev (w := .int fv) (congrArg Value.int hfv.symm) ?_
      have qf : fv.toInt = (n 57).toInt - 1 := by rw [hfv]; exact T_sub rfl (show (1 : Int32).toInt = 1 from rfl) (by omega)
      obtain ⟨r1, P1, p, g1, g2, g3, g4⟩ : FSt F (n 5).toInt x2.toInt ((Int32.toNatClampNeg fv) + 1) Rz Pz := by rw [show (Int32.toNatClampNeg fv) + 1 = (n 57).toInt.toNat by rw [clN]; omega]; exact hF
      have qln := FSt_len _ _ _ g1
      have qcf := clI (i := fv) (by omega)
      refine gz_istore (lv' := [(4, .int fv), (0, .ref m), (1, .int x1), (2, .int x2), (3, .int x3)]) dX12_worth_84 (by decide) rfl ?_
      refine gz_aload_n dX12_worth_86 rfl rfl ?_
      refine mg_176 hS dX12_worth_87 ?_
      refine gz_iload dX12_worth_90 rfl ?_
      refine m_iald 62 hS rfl (N := 80) rfl ((by exact vin_T (rfl : fv.toInt = fv.toInt) (by omega) (by omega))) dX12_worth_92 ?_
      refine gz_if_ne (tgt := 107) dX12_worth_93 (by decide) (fun c_93 => ?_) (fun c_93 => ?_)
      ·
        try simp only [mIn_0, lgc_lt, lgc_gt, lgc_le, lgc_ge, lgc_eq] at c_93
        try simp only [fl_lt, fl_le, fl_eq, fL_w, fL_lt, fL_le, tm1, tm10k, tm9, tm99, Int32.reduceToInt, Int64.reduceToInt, Int.not_lt, Int.not_le] at c_93
        refine gz_aload_n dX12_worth_107 rfl rfl ?_
        refine gz_iload dX12_worth_108 rfl ?_
        refine gz_iload_n dX12_worth_110 rfl rfl ?_
        refine gz_iload_n dX12_worth_111 rfl rfl ?_
        refine scX12_486 (k_X12_goesOn (x1 := fv) (x2 := x2) (x3 := x3) (dd := x2.toInt) hS a5 bA bW a53 (by omega) (by omega) g1 g3 g2 (by omega)) hS.1 ⟨(Nat.le_of_ble_eq_true rfl), (Nat.le_of_ble_eq_true rfl)⟩ ⟨(Nat.le_of_ble_eq_true rfl), (Nat.le_of_ble_eq_true rfl)⟩ rfl rfl (Nat.le_of_ble_eq_true rfl) dX12_worth_112 ?_
        rintro f_1 ⟨n_1, z_1, F_1, G_1, hS_1, hx1, hz_1, hres_1⟩
        refine gz_goto (tgt := 71) dX12_worth_115 (by decide) ?_
        refine gz_sub (lv' := [(0, .ref m), (1, .int x1), (2, .int x2), (3, .int x3)]) (by simp [List.lookup]) ?_
        obtain ⟨r9, P9, z1, z2⟩ := hres_1
        exact ih r9 P9 _ _ _ _ _ hS_1 (fx_tr hx hx1 (by decide)) (RI_fx hR hx1 (by decide) (by decide)) (z1) (hz_1) (by omega)
      ·
        try simp only [mIn_0, lgc_lt, lgc_gt, lgc_le, lgc_ge, lgc_eq] at c_93
        try simp only [fl_lt, fl_le, fl_eq, fL_w, fL_lt, fL_le, tm1, tm10k, tm9, tm99, Int32.reduceToInt, Int64.reduceToInt, Int.not_lt, Int.not_le] at c_93
        refine gz_aload_n dX12_worth_96 rfl rfl ?_
        refine gz_iload dX12_worth_97 rfl ?_
        refine gz_iload_n dX12_worth_99 rfl rfl ?_
        refine gz_iload_n dX12_worth_100 rfl rfl ?_
        refine scX12_482 (k_X12_enters (x1 := fv) (x2 := x2) (x3 := x3) (dd := x2.toInt) hS a5 bA bW a53 (by omega) (by omega) g1 g3 g2 (by omega)) hS.1 ⟨(Nat.le_of_ble_eq_true rfl), (Nat.le_of_ble_eq_true rfl)⟩ ⟨(Nat.le_of_ble_eq_true rfl), (Nat.le_of_ble_eq_true rfl)⟩ rfl rfl (Nat.le_of_ble_eq_true rfl) dX12_worth_101 ?_
        rintro f_2 ⟨n_2, z_2, F_2, G_2, hS_2, hx2, hz_2, hres_2⟩
        refine gz_goto (tgt := 115) dX12_worth_104 (by decide) ?_
        refine gz_goto (tgt := 71) dX12_worth_115 (by decide) ?_
        refine gz_sub (lv' := [(0, .ref m), (1, .int x1), (2, .int x2), (3, .int x3)]) (by simp [List.lookup]) ?_
        obtain ⟨r9, P9, z1, z2⟩ := hres_2
        exact ih r9 P9 _ _ _ _ _ hS_2 (fx_tr hx hx2 (by decide)) (RI_fx hR hx2 (by decide) (by decide)) (z1) (hz_2) (by omega)

set_option maxHeartbeats 4000000 in
set_option maxRecDepth 100000 in
theorem k_X12_worth {l : Launch} {D : va_G} {cy : Nat → ClassId} {b : Nat} {f : gMem} {m : Nat} {a : Nat → Nat} {f0 : gMem} {n : Nat → Int32} {z : Nat → Int64} {F : Nat → Nat → Int32} {G : Nat → Nat → Int64}  {x1 x2 x3 : Int32} (hS : mS cy m a f0 n z F G f) (hR : RI n F) : gC l D cy b yX12_worth cX12_worth 5 (some .long) 5 0 0 [.ref m, .int x1, .int x2, .int x3] f (pL fun r f2 => ∃ (n2 : Nat → Int32) (z2 : Nat → Int64) (F2 : Nat → Nat → Int32) (G2 : Nat → Nat → Int64), mS cy m a f0 n2 z2 F2 G2 f2 ∧ fx [57] [29, 67] [56, 58, 59, 60, 62, 64, 66] [28, 61, 63, 65] n z F G n2 z2 F2 G2 ∧ RI n2 F2) := by
  obtain ⟨a0, a4, a5, bA, bW, a30, bL, a38, bP, a53, a47, a88⟩ := id hR
  refine gC_of (by decide) (Nat.le_of_ble_eq_true rfl) ?_
  show gG l _ _ _ D cy b cX12_worth 5 _ RX12 "worth" 0 0 f 0 [(0, .ref m), (1, .int x1), (2, .int x2), (3, .int x3)] []
  refine gz_aload_n dX12_worth_0 rfl rfl ?_
  refine gz_iload_n dX12_worth_1 rfl rfl ?_
  refine scX12_337 (k_X12_isForm (x1 := x1) hS ) hS.1 ⟨(Nat.le_of_ble_eq_true rfl), (Nat.le_of_ble_eq_true rfl)⟩ ⟨(Nat.le_of_ble_eq_true rfl), (Nat.le_of_ble_eq_true rfl)⟩ rfl rfl (Nat.le_of_ble_eq_true rfl) dX12_worth_2 ?_
  rintro r_1 f9 ⟨hb_1, y9⟩; rw [y9]
  try rw [(show n 5 = (n 5) from rfl)] at hb_1
  have hbb_1 : r_1 = 0 ∨ r_1 = 1 := hb_1.imp_right And.left
  simp only [fl_eq, Int32.reduceToInt] at hb_1
  refine gz_if_eq (tgt := 32) dX12_worth_5 (by decide) (fun c_5 => ?_) (fun c_5 => ?_)
  ·
    try simp only [mIn_0, lgc_lt, lgc_gt, lgc_le, lgc_ge, lgc_eq] at c_5
    try simp only [fl_lt, fl_le, fl_eq, fL_w, fL_lt, fL_le, tm1, tm10k, tm9, tm99, Int32.reduceToInt, Int64.reduceToInt, Int.not_lt, Int.not_le] at c_5
    refine gz_ldc2 (v := (-1000000000000000000)) wd_987 dX12_worth_32 ?_
    have hxx : fx [57] [29, 67] [56, 58, 59, 60, 62, 64, 66] [28, 61, 63, 65] n z F G n z F G := fx_rf
    exact gz_lret rfl dX12_worth_35 (Nat.le_of_ble_eq_true rfl) (Nat.le_of_ble_eq_true rfl) (⟨_, rfl, _, _, _, _, hS, hxx, RI_fx hR hxx (by decide) (by decide)⟩)
  ·
    try simp only [mIn_0, lgc_lt, lgc_gt, lgc_le, lgc_ge, lgc_eq] at c_5
    try simp only [fl_lt, fl_le, fl_eq, fL_w, fL_lt, fL_le, tm1, tm10k, tm9, tm99, Int32.reduceToInt, Int64.reduceToInt, Int.not_lt, Int.not_le] at c_5
    refine gz_iload_n dX12_worth_8 rfl rfl ?_
    refine gz_i2l dX12_worth_9 ?_
    refine gz_lconst (v := 1) dX12_worth_10 (by decide) ?_
    refine gz_ldc2 (v := (4)) wd_956 dX12_worth_11 ?_
    refine scX12_245 (k_X12_in (x := x2.toInt64) (y := 1) (w := (4))) ⟨(Nat.le_of_ble_eq_true rfl), (Nat.le_of_ble_eq_true rfl)⟩ ⟨(Nat.le_of_ble_eq_true rfl), (Nat.le_of_ble_eq_true rfl)⟩ rfl rfl (Nat.le_of_ble_eq_true rfl) dX12_worth_14 ?_
    intro v9 f9 z9; rw [z9.1, z9.2]
    refine gz_if_eq (tgt := 32) dX12_worth_17 (by decide) (fun c_17 => ?_) (fun c_17 => ?_)
    ·
      try simp only [mIn_0, lgc_lt, lgc_gt, lgc_le, lgc_ge, lgc_eq] at c_17
      try simp only [fl_lt, fl_le, fl_eq, fL_w, fL_lt, fL_le, tm1, tm10k, tm9, tm99, Int32.reduceToInt, Int64.reduceToInt, Int.not_lt, Int.not_le] at c_17
      refine gz_ldc2 (v := (-1000000000000000000)) wd_987 dX12_worth_32 ?_
      have hxx : fx [57] [29, 67] [56, 58, 59, 60, 62, 64, 66] [28, 61, 63, 65] n z F G n z F G := fx_rf
      exact gz_lret rfl dX12_worth_35 (Nat.le_of_ble_eq_true rfl) (Nat.le_of_ble_eq_true rfl) (⟨_, rfl, _, _, _, _, hS, hxx, RI_fx hR hxx (by decide) (by decide)⟩)
    ·
      try simp only [mIn_0, lgc_lt, lgc_gt, lgc_le, lgc_ge, lgc_eq] at c_17
      try simp only [fl_lt, fl_le, fl_eq, fL_w, fL_lt, fL_le, tm1, tm10k, tm9, tm99, Int32.reduceToInt, Int64.reduceToInt, Int.not_lt, Int.not_le] at c_17
      refine gz_iload_n dX12_worth_20 rfl rfl ?_
      refine gz_i2l dX12_worth_21 ?_
      refine gz_lconst (v := 0) dX12_worth_22 (by decide) ?_
      refine gz_ldc2 (v := (3)) wd_955 dX12_worth_23 ?_
      refine scX12_245 (k_X12_in (x := x3.toInt64) (y := 0) (w := (3))) ⟨(Nat.le_of_ble_eq_true rfl), (Nat.le_of_ble_eq_true rfl)⟩ ⟨(Nat.le_of_ble_eq_true rfl), (Nat.le_of_ble_eq_true rfl)⟩ rfl rfl (Nat.le_of_ble_eq_true rfl) dX12_worth_26 ?_
      intro v9 f9 z9; rw [z9.1, z9.2]
      refine gz_if_ne (tgt := 36) dX12_worth_29 (by decide) (fun c_29 => ?_) (fun c_29 => ?_)
      ·
        try simp only [mIn_0, lgc_lt, lgc_gt, lgc_le, lgc_ge, lgc_eq] at c_29
        try simp only [fl_lt, fl_le, fl_eq, fL_w, fL_lt, fL_le, tm1, tm10k, tm9, tm99, Int32.reduceToInt, Int64.reduceToInt, Int.not_lt, Int.not_le] at c_29
        refine gz_iload_n dX12_worth_36 rfl rfl ?_
        refine gz_iconst (v := 3) dX12_worth_37 (by decide) ?_
        refine gz_icmp_ne (tgt := 51) dX12_worth_38 (by decide) (fun c_38 => ?_) (fun c_38 => ?_)
        ·
          try simp only [mIn_0, lgc_lt, lgc_gt, lgc_le, lgc_ge, lgc_eq] at c_38
          try simp only [fl_lt, fl_le, fl_eq, fL_w, fL_lt, fL_le, tm1, tm10k, tm9, tm99, Int32.reduceToInt, Int64.reduceToInt, Int.not_lt, Int.not_le] at c_38
          refine gz_aload_n dX12_worth_51 rfl rfl ?_
          refine scX12_479 (k_X12_starts hS a0) hS.1 ⟨(Nat.le_of_ble_eq_true rfl), (Nat.le_of_ble_eq_true rfl)⟩ ⟨(Nat.le_of_ble_eq_true rfl), (Nat.le_of_ble_eq_true rfl)⟩ rfl rfl (Nat.le_of_ble_eq_true rfl) dX12_worth_52 ?_
          rintro f_2 ⟨n_2, z_2, F_2, G_2, hS_2, hx2⟩
          refine gz_aload_n dX12_worth_55 rfl rfl ?_
          refine gz_iconst (v := 0) dX12_worth_56 (by decide) ?_
          refine mp_447 hS_2 dX12_worth_57 (fun f_3 hS_3 => ?_)
          refine gz_aload_n dX12_worth_60 rfl rfl ?_
          refine gz_bipush (v := 40) dX12_worth_61 (by decide) ?_
          refine gz_iload_n dX12_worth_63 rfl rfl ?_
          refine gz_imul dX12_worth_64 ?_
          refine gz_iconst (v := 0) dX12_worth_65 (by decide) ?_
          refine gz_iconst (v := 0) dX12_worth_66 (by decide) ?_
          refine gz_lconst (v := 1) dX12_worth_67 (by decide) ?_
          refine scX12_466 (k_X12_pushes (x1 := (40 * x1)) (x2 := 0) (x3 := 0) hS_3 (show 0 ≤ (0 : Int32).toInt ∧ (0 : Int32).toInt < 80 by decide)) hS_3.1 ⟨(Nat.le_of_ble_eq_true rfl), (Nat.le_of_ble_eq_true rfl)⟩ ⟨(Nat.le_of_ble_eq_true rfl), (Nat.le_of_ble_eq_true rfl)⟩ rfl rfl (Nat.le_of_ble_eq_true rfl) dX12_worth_68 ?_
          rintro f_4 ⟨n_4, z_4, F_4, G_4, hS_4, hx4, g57_4, g58_4, g59_4, g60_4, g62_4⟩
          try simp only [(show (va_up n_2 57 0) 57 = 0 from rfl)] at g57_4 g58_4 g59_4 g60_4 g62_4
          have hxx : fx [57] [29, 67] [56, 58, 59, 60, 62, 64, 66] [28, 61, 63, 65] n z F G n_4 z_4 F_4 G_4 := (fx_tr (fx_n (fx_tr fx_rf hx2 (by decide)) (by decide)) hx4 (by decide))
          have qx : (40 * x1).toInt = 40 * x1.toInt := T_mul (show (40 : Int32).toInt = 40 from rfl) rfl (by omega)
          have qc := clI (i := x1) (by omega)
          have qb := (bW (Int32.toNatClampNeg x1) (by omega)).1
          have hv0 : vW F (n 5).toInt (40 * x1).toInt := ⟨Int32.toNatClampNeg x1, 0, by omega, by omega, by omega⟩
          have qz := szF_pos bW hv0
          have e57 : (n_4 57).toInt = 1 := by rw [g57_4]; rfl
          have e5 : n_4 5 = n 5 := hxx.1 5 (by decide)
          have hfr : frV F (n 5).toInt x2.toInt (40 * x1) 0 0 0 (F_4 66 0) (szF F (40 * x1).toInt + 4) (cR (szF F (40 * x1).toInt + 4)) := ⟨hv0, ⟨by decide, by have e0 : (0 : Int32).toInt = 0 := rfl; omega⟩, by decide, by have e0 : (0 : Int32).toInt = 0 := rfl; omega, Or.inl ⟨rfl, rfl⟩⟩
          have h58 : F_4 58 0 = 40 * x1 := by rw [g58_4]; rfl
          have h59 : F_4 59 0 = 0 := by rw [g59_4]; rfl
          have h60 : F_4 60 0 = 0 := by rw [g60_4]; rfl
          have h62 : F_4 62 0 = 0 := by rw [g62_4]; rfl
          have hF9 : FSt F_4 (n_4 5).toInt x2.toInt (n_4 57).toInt.toNat (szF F (40 * x1).toInt + 4) (0 + cR (szF F (40 * x1).toInt + 4)) := by rw [e57, e5]; exact ⟨45, 0, _, ⟨rfl, rfl⟩, by omega, by rw [h58, h59, h60, h62]; exact frV_w (fun k hk => hxx.2.2.1 k ((by decide : ∀ k : Nat, k ∈ wK → k ∉ ([56, 58, 59, 60, 62, 64, 66] : List Nat)) k hk)) hfr, rfl⟩
          have hcm := cR_mono (a := szF F (40 * x1).toInt + 4) 44 (by omega)
          refine gz_sub (lv' := [(0, .ref m), (1, .int x1), (2, .int x2), (3, .int x3)]) (by simp [List.lookup]) ?_
          exact l_X12_worth (by omega) (cR 44 + 1) _ _ _ _ _ _ _ hS_4 hxx (RI_fx hR hxx (by decide) (by decide)) hF9 (by omega) (by omega)
        ·
          try simp only [mIn_0, lgc_lt, lgc_gt, lgc_le, lgc_ge, lgc_eq] at c_38
          try simp only [fl_lt, fl_le, fl_eq, fL_w, fL_lt, fL_le, tm1, tm10k, tm9, tm99, Int32.reduceToInt, Int64.reduceToInt, Int.not_lt, Int.not_le] at c_38
          refine gz_aload_n dX12_worth_41 rfl rfl ?_
          refine scX12_460 (k_X12_allWeights hS a53) hS.1 ⟨(Nat.le_of_ble_eq_true rfl), (Nat.le_of_ble_eq_true rfl)⟩ ⟨(Nat.le_of_ble_eq_true rfl), (Nat.le_of_ble_eq_true rfl)⟩ rfl rfl (Nat.le_of_ble_eq_true rfl) dX12_worth_42 ?_
          rintro r_5 f9 ⟨-, y9⟩; rw [y9]
          refine gz_iload_n dX12_worth_45 rfl rfl ?_
          refine scX12_463 (k_X12_power) ⟨(Nat.le_of_ble_eq_true rfl), (Nat.le_of_ble_eq_true rfl)⟩ ⟨(Nat.le_of_ble_eq_true rfl), (Nat.le_of_ble_eq_true rfl)⟩ rfl rfl (Nat.le_of_ble_eq_true rfl) dX12_worth_46 ?_
          rintro r_pw f9 ⟨-, y9⟩; rw [y9]
          refine gz_i2l dX12_worth_49 ?_
          have hxx : fx [57] [29, 67] [56, 58, 59, 60, 62, 64, 66] [28, 61, 63, 65] n z F G n z F G := fx_rf
          exact gz_lret rfl dX12_worth_50 (Nat.le_of_ble_eq_true rfl) (Nat.le_of_ble_eq_true rfl) (⟨_, rfl, _, _, _, _, hS, hxx, RI_fx hR hxx (by decide) (by decide)⟩)
      ·
        try simp only [mIn_0, lgc_lt, lgc_gt, lgc_le, lgc_ge, lgc_eq] at c_29
        try simp only [fl_lt, fl_le, fl_eq, fL_w, fL_lt, fL_le, tm1, tm10k, tm9, tm99, Int32.reduceToInt, Int64.reduceToInt, Int.not_lt, Int.not_le] at c_29
        refine gz_ldc2 (v := (-1000000000000000000)) wd_987 dX12_worth_32 ?_
        have hxx : fx [57] [29, 67] [56, 58, 59, 60, 62, 64, 66] [28, 61, 63, 65] n z F G n z F G := fx_rf
        exact gz_lret rfl dX12_worth_35 (Nat.le_of_ble_eq_true rfl) (Nat.le_of_ble_eq_true rfl) (⟨_, rfl, _, _, _, _, hS, hxx, RI_fx hR hxx (by decide) (by decide)⟩)
