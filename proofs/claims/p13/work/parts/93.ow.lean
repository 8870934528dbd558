set_option maxHeartbeats 4000000 in
set_option maxRecDepth 100000 in
theorem k_X12_isHouseE {l : Launch} {D : va_G} {cy : Nat → ClassId} {b : Nat} {f : gMem} {m : Nat} {a : Nat → Nat} {f0 : gMem} {n : Nat → Int32} {z : Nat → Int64} {F : Nat → Nat → Int32} {G : Nat → Nat → Int64}  {x1 : Int32} (hS : mS cy m a f0 n z F G f)  : gC l D cy b yX12_isHouse cX12_isHouse 2 (some .boolean) 0 0 0 [.ref m, .int x1] f (pI fun r f2 => ((r = 0 ∧ ¬ (0 ≤ x1.toInt ∧ x1.toInt ≤ 7)) ∨ (r = 1 ∧ (0 ≤ x1.toInt ∧ x1.toInt ≤ 7))) ∧ f2 = f) := by
  refine gC_of (by decide) (Nat.le_of_ble_eq_true rfl) ?_
  show gG l _ _ _ D cy b cX12_isHouse 2 _ RX12 "isHouse" 0 0 f 0 [(0, .ref m), (1, .int x1)] []
  refine gz_iload_n dX12_isHouse_0 rfl rfl ?_
  refine gz_if_lt (tgt := 14) dX12_isHouse_1 (by decide) (fun c_1 => ?_) (fun c_1 => ?_)
  ·
    try simp only [mIn_0, lgc_lt, lgc_gt, lgc_le, lgc_ge, lgc_eq] at c_1
    try simp only [fl_lt, fl_le, fl_eq, fL_w, fL_lt, fL_le, tm1, tm10k, tm9, tm99, Int32.reduceToInt, Int64.reduceToInt, Int.not_lt, Int.not_le] at c_1
    refine gz_iconst (v := 0) dX12_isHouse_14 (by decide) ?_
    exact gz_zret rfl (by first | decide | exact nrb (by assumption) | exact nrb (Or.inl rfl) | exact nrb (Or.inr rfl)) dX12_isHouse_15 (Nat.le_of_ble_eq_true rfl) (Nat.le_of_ble_eq_true rfl) (⟨_, rfl, Or.inl ⟨rfl, by omega⟩, rfl⟩)
  ·
    try simp only [mIn_0, lgc_lt, lgc_gt, lgc_le, lgc_ge, lgc_eq] at c_1
    try simp only [fl_lt, fl_le, fl_eq, fL_w, fL_lt, fL_le, tm1, tm10k, tm9, tm99, Int32.reduceToInt, Int64.reduceToInt, Int.not_lt, Int.not_le] at c_1
    refine gz_iload_n dX12_isHouse_4 rfl rfl ?_
    refine gz_bipush (v := 8) dX12_isHouse_5 (by decide) ?_
    refine gz_icmp_ge (tgt := 14) dX12_isHouse_7 (by decide) (fun c_7 => ?_) (fun c_7 => ?_)
    ·
      try simp only [mIn_0, lgc_lt, lgc_gt, lgc_le, lgc_ge, lgc_eq] at c_7
      try simp only [fl_lt, fl_le, fl_eq, fL_w, fL_lt, fL_le, tm1, tm10k, tm9, tm99, Int32.reduceToInt, Int64.reduceToInt, Int.not_lt, Int.not_le] at c_7
      refine gz_iconst (v := 0) dX12_isHouse_14 (by decide) ?_
      exact gz_zret rfl (by first | decide | exact nrb (by assumption) | exact nrb (Or.inl rfl) | exact nrb (Or.inr rfl)) dX12_isHouse_15 (Nat.le_of_ble_eq_true rfl) (Nat.le_of_ble_eq_true rfl) (⟨_, rfl, Or.inl ⟨rfl, by omega⟩, rfl⟩)
    ·
      try simp only [mIn_0, lgc_lt, lgc_gt, lgc_le, lgc_ge, lgc_eq] at c_7
      try simp only [fl_lt, fl_le, fl_eq, fL_w, fL_lt, fL_le, tm1, tm10k, tm9, tm99, Int32.reduceToInt, Int64.reduceToInt, Int.not_lt, Int.not_le] at c_7
      refine gz_iconst (v := 1) dX12_isHouse_10 (by decide) ?_
      refine gz_goto (tgt := 15) dX12_isHouse_11 (by decide) ?_
      exact gz_zret rfl (by first | decide | exact nrb (by assumption) | exact nrb (Or.inl rfl) | exact nrb (Or.inr rfl)) dX12_isHouse_15 (Nat.le_of_ble_eq_true rfl) (Nat.le_of_ble_eq_true rfl) (⟨_, rfl, Or.inr ⟨rfl, by omega⟩, rfl⟩)

set_option maxHeartbeats 4000000 in
set_option maxRecDepth 100000 in
theorem k_X12_beginE {l : Launch} {D : va_G} {cy : Nat → ClassId} {b : Nat} {f : gMem} {m : Nat} {a : Nat → Nat} {f0 : gMem} {n : Nat → Int32} {z : Nat → Int64} {F : Nat → Nat → Int32} {G : Nat → Nat → Int64}  {x1 x2 x3 : Int32} (hS : mS cy m a f0 n z F G f) (hR : RI n F) : gC l D cy b yX12_begin cX12_begin 4 (some .int) 4 0 0 [.ref m, .int x1, .int x2, .int x3] f (pI fun r f2 => ∃ (n2 : Nat → Int32) (z2 : Nat → Int64) (F2 : Nat → Nat → Int32) (G2 : Nat → Nat → Int64), mS cy m a f0 n2 z2 F2 G2 f2 ∧ fx [1, 30, 38, 43] [29] [31, 32, 33, 35, 36, 39, 40, 41, 42, 44] [28, 34, 37, 45] n z F G n2 z2 F2 G2 ∧ RI n2 F2 ∧ r = (if (n 30).toInt < 40 ∧ (0 ≤ x1.toInt ∧ x1.toInt < (n 5).toInt) ∧ (0 ≤ x2.toInt ∧ x2.toInt ≤ 7) ∧ (0 ≤ x3.toInt ∧ x3.toInt ≤ 7) ∧ x2.toInt ≠ x3.toInt then n 30 else -1) ∧ (n2 30).toInt = (if (n 30).toInt < 40 ∧ (0 ≤ x1.toInt ∧ x1.toInt < (n 5).toInt) ∧ (0 ≤ x2.toInt ∧ x2.toInt ≤ 7) ∧ (0 ≤ x3.toInt ∧ x3.toInt ≤ 7) ∧ x2.toInt ≠ x3.toInt then (n 30).toInt + 1 else (n 30).toInt)) := by
  obtain ⟨a0, a4, a5, bA, bW, a30, bL, a38, bP, a53, a47, a88⟩ := id hR
  refine gC_of (by decide) (Nat.le_of_ble_eq_true rfl) ?_
  show gG l _ _ _ D cy b cX12_begin 4 _ RX12 "begin" 0 0 f 0 [(0, .ref m), (1, .int x1), (2, .int x2), (3, .int x3)] []
  refine gz_aload_n dX12_begin_0 rfl rfl ?_
  refine mg_394 hS dX12_begin_1 ?_
  refine gz_bipush (v := 40) dX12_begin_4 (by decide) ?_
  refine gz_icmp_eq (tgt := 38) dX12_begin_6 (by decide) (fun c_6 => ?_) (fun c_6 => ?_)
  ·
    try simp only [mIn_0, lgc_lt, lgc_gt, lgc_le, lgc_ge, lgc_eq] at c_6
    try simp only [fl_lt, fl_le, fl_eq, fL_w, fL_lt, fL_le, tm1, tm10k, tm9, tm99, Int32.reduceToInt, Int64.reduceToInt, Int.not_lt, Int.not_le] at c_6
    refine gz_iconst (v := (-1)) dX12_begin_38 (by decide) ?_
    have hxx : fx [1, 30, 38, 43] [29] [31, 32, 33, 35, 36, 39, 40, 41, 42, 44] [28, 34, 37, 45] n z F G n z F G := fx_rf
    exact gz_iret rfl dX12_begin_39 (Nat.le_of_ble_eq_true rfl) (Nat.le_of_ble_eq_true rfl) (⟨_, rfl, _, _, _, _, hS, hxx, hR, (by rw [if_neg (by omega)]), (by rw [if_neg (by omega)])⟩)
  ·
    try simp only [mIn_0, lgc_lt, lgc_gt, lgc_le, lgc_ge, lgc_eq] at c_6
    try simp only [fl_lt, fl_le, fl_eq, fL_w, fL_lt, fL_le, tm1, tm10k, tm9, tm99, Int32.reduceToInt, Int64.reduceToInt, Int.not_lt, Int.not_le] at c_6
    refine gz_aload_n dX12_begin_9 rfl rfl ?_
    refine gz_iload_n dX12_begin_10 rfl rfl ?_
    refine scX12_337 (k_X12_isFormE (x1 := x1) hS ) hS.1 ⟨(Nat.le_of_ble_eq_true rfl), (Nat.le_of_ble_eq_true rfl)⟩ ⟨(Nat.le_of_ble_eq_true rfl), (Nat.le_of_ble_eq_true rfl)⟩ rfl rfl (Nat.le_of_ble_eq_true rfl) dX12_begin_11 ?_
    rintro r_1 f9 ⟨hb_1, y9⟩; rw [y9]
    try rw [(show n 5 = (n 5) from rfl)] at hb_1
    have hbb_1 : r_1 = 0 ∨ r_1 = 1 := hb_1.imp And.left And.left
    simp only [fl_eq, Int32.reduceToInt] at hb_1
    refine gz_if_eq (tgt := 38) dX12_begin_14 (by decide) (fun c_14 => ?_) (fun c_14 => ?_)
    ·
      try simp only [mIn_0, lgc_lt, lgc_gt, lgc_le, lgc_ge, lgc_eq] at c_14
      try simp only [fl_lt, fl_le, fl_eq, fL_w, fL_lt, fL_le, tm1, tm10k, tm9, tm99, Int32.reduceToInt, Int64.reduceToInt, Int.not_lt, Int.not_le] at c_14
      refine gz_iconst (v := (-1)) dX12_begin_38 (by decide) ?_
      have hxx : fx [1, 30, 38, 43] [29] [31, 32, 33, 35, 36, 39, 40, 41, 42, 44] [28, 34, 37, 45] n z F G n z F G := fx_rf
      exact gz_iret rfl dX12_begin_39 (Nat.le_of_ble_eq_true rfl) (Nat.le_of_ble_eq_true rfl) (⟨_, rfl, _, _, _, _, hS, hxx, hR, (by rw [if_neg (by omega)]), (by rw [if_neg (by omega)])⟩)
    ·
      try simp only [mIn_0, lgc_lt, lgc_gt, lgc_le, lgc_ge, lgc_eq] at c_14
      try simp only [fl_lt, fl_le, fl_eq, fL_w, fL_lt, fL_le, tm1, tm10k, tm9, tm99, Int32.reduceToInt, Int64.reduceToInt, Int.not_lt, Int.not_le] at c_14
      refine gz_aload_n dX12_begin_17 rfl rfl ?_
      refine gz_iload_n dX12_begin_18 rfl rfl ?_
      refine scX12_397 (k_X12_isHouseE (x1 := x2) hS ) hS.1 ⟨(Nat.le_of_ble_eq_true rfl), (Nat.le_of_ble_eq_true rfl)⟩ ⟨(Nat.le_of_ble_eq_true rfl), (Nat.le_of_ble_eq_true rfl)⟩ rfl rfl (Nat.le_of_ble_eq_true rfl) dX12_begin_19 ?_
      rintro r_2 f9 ⟨hb_2, y9⟩; rw [y9]
      have hbb_2 : r_2 = 0 ∨ r_2 = 1 := hb_2.imp And.left And.left
      simp only [fl_eq, Int32.reduceToInt] at hb_2
      refine gz_if_eq (tgt := 38) dX12_begin_22 (by decide) (fun c_22 => ?_) (fun c_22 => ?_)
      ·
        try simp only [mIn_0, lgc_lt, lgc_gt, lgc_le, lgc_ge, lgc_eq] at c_22
        try simp only [fl_lt, fl_le, fl_eq, fL_w, fL_lt, fL_le, tm1, tm10k, tm9, tm99, Int32.reduceToInt, Int64.reduceToInt, Int.not_lt, Int.not_le] at c_22
        refine gz_iconst (v := (-1)) dX12_begin_38 (by decide) ?_
        have hxx : fx [1, 30, 38, 43] [29] [31, 32, 33, 35, 36, 39, 40, 41, 42, 44] [28, 34, 37, 45] n z F G n z F G := fx_rf
        exact gz_iret rfl dX12_begin_39 (Nat.le_of_ble_eq_true rfl) (Nat.le_of_ble_eq_true rfl) (⟨_, rfl, _, _, _, _, hS, hxx, hR, (by rw [if_neg (by omega)]), (by rw [if_neg (by omega)])⟩)
      ·
        try simp only [mIn_0, lgc_lt, lgc_gt, lgc_le, lgc_ge, lgc_eq] at c_22
        try simp only [fl_lt, fl_le, fl_eq, fL_w, fL_lt, fL_le, tm1, tm10k, tm9, tm99, Int32.reduceToInt, Int64.reduceToInt, Int.not_lt, Int.not_le] at c_22
        refine gz_aload_n dX12_begin_25 rfl rfl ?_
        refine gz_iload_n dX12_begin_26 rfl rfl ?_
        refine scX12_397 (k_X12_isHouseE (x1 := x3) hS ) hS.1 ⟨(Nat.le_of_ble_eq_true rfl), (Nat.le_of_ble_eq_true rfl)⟩ ⟨(Nat.le_of_ble_eq_true rfl), (Nat.le_of_ble_eq_true rfl)⟩ rfl rfl (Nat.le_of_ble_eq_true rfl) dX12_begin_27 ?_
        rintro r_3 f9 ⟨hb_3, y9⟩; rw [y9]
        have hbb_3 : r_3 = 0 ∨ r_3 = 1 := hb_3.imp And.left And.left
        simp only [fl_eq, Int32.reduceToInt] at hb_3
        refine gz_if_eq (tgt := 38) dX12_begin_30 (by decide) (fun c_30 => ?_) (fun c_30 => ?_)
        ·
          try simp only [mIn_0, lgc_lt, lgc_gt, lgc_le, lgc_ge, lgc_eq] at c_30
          try simp only [fl_lt, fl_le, fl_eq, fL_w, fL_lt, fL_le, tm1, tm10k, tm9, tm99, Int32.reduceToInt, Int64.reduceToInt, Int.not_lt, Int.not_le] at c_30
          refine gz_iconst (v := (-1)) dX12_begin_38 (by decide) ?_
          have hxx : fx [1, 30, 38, 43] [29] [31, 32, 33, 35, 36, 39, 40, 41, 42, 44] [28, 34, 37, 45] n z F G n z F G := fx_rf
          exact gz_iret rfl dX12_begin_39 (Nat.le_of_ble_eq_true rfl) (Nat.le_of_ble_eq_true rfl) (⟨_, rfl, _, _, _, _, hS, hxx, hR, (by rw [if_neg (by omega)]), (by rw [if_neg (by omega)])⟩)
        ·
          try simp only [mIn_0, lgc_lt, lgc_gt, lgc_le, lgc_ge, lgc_eq] at c_30
          try simp only [fl_lt, fl_le, fl_eq, fL_w, fL_lt, fL_le, tm1, tm10k, tm9, tm99, Int32.reduceToInt, Int64.reduceToInt, Int.not_lt, Int.not_le] at c_30
          refine gz_iload_n dX12_begin_33 rfl rfl ?_
          refine gz_iload_n dX12_begin_34 rfl rfl ?_
          refine gz_icmp_ne (tgt := 40) dX12_begin_35 (by decide) (fun c_35 => ?_) (fun c_35 => ?_)
          ·
            try simp only [mIn_0, lgc_lt, lgc_gt, lgc_le, lgc_ge, lgc_eq] at c_35
            try simp only [fl_lt, fl_le, fl_eq, fL_w, fL_lt, fL_le, tm1, tm10k, tm9, tm99, Int32.reduceToInt, Int64.reduceToInt, Int.not_lt, Int.not_le] at c_35
            refine gz_aload_n dX12_begin_40 rfl rfl ?_
            refine mg_97 hS dX12_begin_41 ?_
            refine gz_aload_n dX12_begin_44 rfl rfl ?_
            refine mg_394 hS dX12_begin_45 ?_
            refine gz_iload_n dX12_begin_48 rfl rfl ?_
            refine m_iast 31 hS rfl (N := 40) rfl ((by exact vin_T (rfl : ((n 30)).toInt = ((n 30)).toInt) (by omega) (by omega))) dX12_begin_49 (fun f_4 hS_4q => ?_)
            have hS_4 : mS cy m a f0 n z (va_up F 31 (upd (F 31) (Int32.toNatClampNeg (n 30)) x1)) G f_4 := hS_4q
            refine gz_aload_n dX12_begin_50 rfl rfl ?_
            refine mg_100 hS_4 dX12_begin_51 ?_
            refine gz_aload_n dX12_begin_54 rfl rfl ?_
            refine mg_394 hS_4 dX12_begin_55 ?_
            refine gz_ev (w := .int (n 30)) rfl ?_
            refine gz_iload_n dX12_begin_58 rfl rfl ?_
            refine m_iast 32 hS_4 rfl (N := 40) rfl ((by exact vin_T (rfl : ((n 30)).toInt = ((n 30)).toInt) (by omega) (by omega))) dX12_begin_59 (fun f_5 hS_5q => ?_)
            have hS_5 : mS cy m a f0 n z (va_up (va_up F 31 (upd (F 31) (Int32.toNatClampNeg (n 30)) x1)) 32 (upd (F 32) (Int32.toNatClampNeg (n 30)) x2)) G f_5 := hS_5q
            refine gz_aload_n dX12_begin_60 rfl rfl ?_
            refine mg_103 hS_5 dX12_begin_61 ?_
            refine gz_aload_n dX12_begin_64 rfl rfl ?_
            refine mg_394 hS_5 dX12_begin_65 ?_
            refine gz_ev (w := .int (n 30)) rfl ?_
            refine gz_iload_n dX12_begin_68 rfl rfl ?_
            refine m_iast 33 hS_5 rfl (N := 40) rfl ((by exact vin_T (rfl : ((n 30)).toInt = ((n 30)).toInt) (by omega) (by omega))) dX12_begin_69 (fun f_6 hS_6q => ?_)
            have hS_6 : mS cy m a f0 n z (va_up (va_up (va_up F 31 (upd (F 31) (Int32.toNatClampNeg (n 30)) x1)) 32 (upd (F 32) (Int32.toNatClampNeg (n 30)) x2)) 33 (upd (F 33) (Int32.toNatClampNeg (n 30)) x3)) G f_6 := hS_6q
            refine gz_aload_n dX12_begin_70 rfl rfl ?_
            refine gz_dup dX12_begin_71 rfl ?_
            refine mg_394 hS_6 dX12_begin_72 ?_
            refine gz_ev (w := .int (n 30)) rfl ?_
            refine gz_iconst (v := 1) dX12_begin_75 (by decide) ?_
            refine gz_iadd dX12_begin_76 ?_
            refine mp_394 hS_6 dX12_begin_77 (fun f_7 hS_7 => ?_)
            refine gz_aload_n dX12_begin_80 rfl rfl ?_
            have hx1_ : fx [30] [] [31, 32, 33] [] n z F G (va_up n 30 ((n 30) + 1)) z (va_up (va_up (va_up F 31 (upd (F 31) (Int32.toNatClampNeg (n 30)) x1)) 32 (upd (F 32) (Int32.toNatClampNeg (n 30)) x2)) 33 (upd (F 33) (Int32.toNatClampNeg (n 30)) x3)) G := (fx_n (fx_F (fx_F (fx_F fx_rf (by decide)) (by decide)) (by decide)) (by decide))
            have e30 : ((va_up n 30 ((n 30) + 1)) 30).toInt = (n 30).toInt + 1 := (by (try rw [(show (va_up n 30 ((n 30) + 1)) 30 = ((n 30) + 1) from rfl)]); have q1_ := (T_add (rfl : ((n 30)).toInt = ((n 30)).toInt) (show (1 : Int32).toInt = 1 from rfl) (by omega)); omega)
            have hR1 : RI (va_up n 30 ((n 30) + 1)) (va_up (va_up (va_up F 31 (upd (F 31) (Int32.toNatClampNeg (n 30)) x1)) 32 (upd (F 32) (Int32.toNatClampNeg (n 30)) x2)) 33 (upd (F 33) (Int32.toNatClampNeg (n 30)) x3)) := RI_w hR (fun k hk => hx1_.2.2.1 k ((by decide : ∀ k : Nat, k ∈ wK → k ∉ ([31, 32, 33] : List Nat)) k hk)) rfl a0 a4 (by rw [e30]; omega) (by rw [e30]; exact rL_new bL (fun k hk => hx1_.2.2.1 k ((by decide : ∀ k : Nat, k ∈ ([6, 7, 35, 36] : List Nat) → k ∉ ([31, 32, 33] : List Nat)) k hk)) rfl rfl (by omega) (by omega)) a38 (by rw [e30]; exact rPy_mo (rPy_cg2 bP rfl) (by omega)) a53 a47 a88
            refine scX12_400 (k_X12_asNow hS_7 a0) hS_7.1 ⟨(Nat.le_of_ble_eq_true rfl), (Nat.le_of_ble_eq_true rfl)⟩ ⟨(Nat.le_of_ble_eq_true rfl), (Nat.le_of_ble_eq_true rfl)⟩ rfl rfl (Nat.le_of_ble_eq_true rfl) dX12_begin_81 ?_
            rintro f_8 ⟨n_8, z_8, F_8, G_8, hS_8, hx8⟩
            have hR2 := RI_fx hR1 hx8 (by decide) (by decide)
            refine gz_aload_n dX12_begin_84 rfl rfl ?_
            refine gz_aload_n dX12_begin_85 rfl rfl ?_
            refine mg_394 hS_8 dX12_begin_86 ?_
            refine gz_ev (w := .int ((n 30) + 1)) (congrArg Value.int (hx8.1 30 (by decide))) ?_
            refine gz_iconst (v := 1) dX12_begin_89 (by decide) ?_
            refine gz_isub dX12_begin_90 ?_
            refine gz_bipush (v := 40) dX12_begin_91 (by decide) ?_
            refine gz_iload_n dX12_begin_93 rfl rfl ?_
            refine gz_imul dX12_begin_94 ?_
            refine gz_lconst (v := 1) dX12_begin_95 (by decide) ?_
            have qx : (40 * x1).toInt = 40 * x1.toInt := T_mul (show (40 : Int32).toInt = 40 from rfl) rfl (by omega)
            have qb := (bW (Int32.toNatClampNeg x1) (by have := clI (i := x1) (by omega); omega)).1
            have hv0 : vW F (n 5).toInt (40 * x1).toInt := ⟨Int32.toNatClampNeg x1, 0, by have := clI (i := x1) (by omega); omega, by omega, by have := clI (i := x1) (by omega); omega⟩
            have e30j : (n_8 30).toInt = (n 30).toInt + 1 := by rw [hx8.1 30 (by decide)]; exact e30
            refine scX12_403 (k_X12_acquires (x1 := (((n 30) + 1) - 1)) (x2 := (40 * x1)) hS_8 hR2 (by have q9 := (T_sub (T_add (rfl : ((n 30)).toInt = ((n 30)).toInt) (show (1 : Int32).toInt = 1 from rfl) (by omega)) (show (1 : Int32).toInt = 1 from rfl) (by omega)); rw [e30j]; omega) (by rw [(show n_8 5 = (n 5) from (hx8.1 5 (by decide)))]; exact vW_cg ((hx8.2.2.1 6 (by decide)).trans rfl) hv0)) hS_8.1 ⟨(Nat.le_of_ble_eq_true rfl), (Nat.le_of_ble_eq_true rfl)⟩ ⟨(Nat.le_of_ble_eq_true rfl), (Nat.le_of_ble_eq_true rfl)⟩ rfl rfl (Nat.le_of_ble_eq_true rfl) dX12_begin_96 ?_
            rintro f_9 ⟨n_9, z_9, F_9, G_9, hS_9, hx9, hR_9, hm_9⟩
            try simp only [(show n_8 1 = (n 1) from (hx8.1 1 (by decide)))] at hR_9 hm_9
            try simp only [(show n_8 38 = (n 38) from (hx8.1 38 (by decide)))] at hR_9 hm_9
            try simp only [(show n_8 43 = (n 43) from (hx8.1 43 (by decide)))] at hR_9 hm_9
            refine gz_aload_n dX12_begin_99 rfl rfl ?_
            refine mg_394 hS_9 dX12_begin_100 ?_
            refine gz_ev (w := .int ((n 30) + 1)) (congrArg Value.int ((hx9.1 30 (by decide)).trans (hx8.1 30 (by decide)))) ?_
            refine gz_iconst (v := 1) dX12_begin_103 (by decide) ?_
            refine gz_isub dX12_begin_104 ?_
            have hxx : fx [1, 30, 38, 43] [29] [31, 32, 33, 35, 36, 39, 40, 41, 42, 44] [28, 34, 37, 45] n z F G n_9 z_9 F_9 G_9 := (fx_tr (fx_tr (fx_n (fx_F (fx_F (fx_F fx_rf (by decide)) (by decide)) (by decide)) (by decide)) hx8 (by decide)) hx9 (by decide))
            exact gz_iret rfl dX12_begin_105 (Nat.le_of_ble_eq_true rfl) (Nat.le_of_ble_eq_true rfl) (⟨_, rfl, _, _, _, _, hS_9, hxx, hR_9, (by rw [if_pos (by omega)]; exact Int32.toInt_inj.mp (by have q := T_sub (T_add (rfl : (n 30).toInt = (n 30).toInt) (show (1 : Int32).toInt = 1 from rfl) (by omega)) (show (1 : Int32).toInt = 1 from rfl) (by omega); omega)), (by rw [if_pos (by omega), hx9.1 30 (by decide)]; exact e30j)⟩)
          ·
            try simp only [mIn_0, lgc_lt, lgc_gt, lgc_le, lgc_ge, lgc_eq] at c_35
            try simp only [fl_lt, fl_le, fl_eq, fL_w, fL_lt, fL_le, tm1, tm10k, tm9, tm99, Int32.reduceToInt, Int64.reduceToInt, Int.not_lt, Int.not_le] at c_35
            refine gz_iconst (v := (-1)) dX12_begin_38 (by decide) ?_
            have hxx : fx [1, 30, 38, 43] [29] [31, 32, 33, 35, 36, 39, 40, 41, 42, 44] [28, 34, 37, 45] n z F G n z F G := fx_rf
            exact gz_iret rfl dX12_begin_39 (Nat.le_of_ble_eq_true rfl) (Nat.le_of_ble_eq_true rfl) (⟨_, rfl, _, _, _, _, hS, hxx, hR, (by rw [if_neg (by omega)]), (by rw [if_neg (by omega)])⟩)

theorem housF_b {x : Int32} : housF x = 0 ↔ ¬ (0 ≤ x.toInt ∧ x.toInt ≤ 7) := by
  have e0 : (0 : Int32).toInt = 0 := rfl
  have e8 : (8 : Int32).toInt = 8 := rfl
  unfold housF
  by_cases c1 : x < 0
  · rw [if_pos c1]
    rw [fl_lt, e0] at c1
    exact ⟨fun _ => by omega, fun _ => rfl⟩
  · rw [if_neg c1]
    rw [fl_lt, e0] at c1
    by_cases c2 : 8 ≤ x
    · rw [if_pos c2]
      rw [fl_le, e8] at c2
      exact ⟨fun _ => by omega, fun _ => rfl⟩
    · rw [if_neg c2]
      rw [fl_le, e8] at c2
      exact ⟨fun h => absurd h (by decide), fun h => absurd (by omega) h⟩
theorem begin_cp {c5 n5 c n30 r9 r8 c9 c8 x y u : Int32} (hf : c5 = n5) (hc : c = n30) (r1 : r9 = (if c.toInt < 40 ∧ (0 ≤ x.toInt ∧ x.toInt < c5.toInt) ∧ (0 ≤ y.toInt ∧ y.toInt ≤ 7) ∧ (0 ≤ u.toInt ∧ u.toInt ≤ 7) ∧ y.toInt ≠ u.toInt then c else -1)) (c1 : c9.toInt = (if c.toInt < 40 ∧ (0 ≤ x.toInt ∧ x.toInt < c5.toInt) ∧ (0 ≤ y.toInt ∧ y.toInt ≤ 7) ∧ (0 ≤ u.toInt ∧ u.toInt ≤ 7) ∧ y.toInt ≠ u.toInt then c.toInt + 1 else c.toInt))
    (r2 : r8 = (if n30.toInt < 40 ∧ (0 ≤ x.toInt ∧ x.toInt < n5.toInt) ∧ (0 ≤ y.toInt ∧ y.toInt ≤ 7) ∧ (0 ≤ u.toInt ∧ u.toInt ≤ 7) ∧ y.toInt ≠ u.toInt then n30 else -1)) (c2 : c8.toInt = (if n30.toInt < 40 ∧ (0 ≤ x.toInt ∧ x.toInt < n5.toInt) ∧ (0 ≤ y.toInt ∧ y.toInt ≤ 7) ∧ (0 ≤ u.toInt ∧ u.toInt ≤ 7) ∧ y.toInt ≠ u.toInt then n30.toInt + 1 else n30.toInt)) : r8 = r9 ∧ c9 = c8 := by
  subst hf hc
  exact ⟨by rw [r1, r2], Int32.toInt_inj.mp (by omega)⟩
theorem nt_6000  : ∀ k : Nat, 12000 ≤ k ∧ k < 13000 → ¬ (k = 10000 ∨ k = 10001 ∨ k = 9000 ∨ k = 9001) := by intro k hk hT; omega
theorem nt_6001  : ∀ k : Nat, 13000 ≤ k ∧ k < 14000 → ¬ (k = 10000 ∨ k = 10001 ∨ k = 9000 ∨ k = 9001) := by intro k hk hT; omega
theorem nt_6002  : ∀ k : Nat, 1000 ≤ k ∧ k < 2000 → ¬ (k = 10000 ∨ k = 10001 ∨ k = 9000 ∨ k = 9001) := by intro k hk hT; omega
theorem nt_6003  : ∀ k : Nat, 2000 ≤ k ∧ k < 3000 → ¬ (k = 10000 ∨ k = 10001 ∨ k = 9000 ∨ k = 9001) := by intro k hk hT; omega
theorem nt_6004  : ∀ k : Nat, 14000 ≤ k ∧ k < 15000 → ¬ (k = 10000 ∨ k = 10001 ∨ k = 9000 ∨ k = 9001) := by intro k hk hT; omega
theorem nt_6005  : ∀ k : Nat, 5000 ≤ k ∧ k < 6000 → ¬ (k = 10000 ∨ k = 10001 ∨ k = 9000 ∨ k = 9001) := by intro k hk hT; omega
theorem nt_6006  : ∀ k : Nat, 4000 ≤ k ∧ k < 5000 → ¬ (k = 10000 ∨ k = 10001 ∨ k = 9000 ∨ k = 9001) := by intro k hk hT; omega
theorem nt_6007  : ∀ k : Nat, 6000 ≤ k ∧ k < 7000 → ¬ (k = 10000 ∨ k = 10001 ∨ k = 9000 ∨ k = 9001) := by intro k hk hT; omega
theorem nt_6008  : ∀ k : Nat, 7000 ≤ k ∧ k < 8000 → ¬ (k = 10000 ∨ k = 10001 ∨ k = 9000 ∨ k = 9001) := by intro k hk hT; omega
theorem nt_6009  : ∀ k : Nat, 3000 ≤ k ∧ k < 4000 → ¬ (k = 10000 ∨ k = 10001 ∨ k = 9000 ∨ k = 9001) := by intro k hk hT; omega
theorem nt_6010  : ∀ k : Nat, 8000 ≤ k ∧ k < 9000 → ¬ (k = 10000 ∨ k = 10001 ∨ k = 9000 ∨ k = 9001) := by intro k hk hT; omega
theorem nt_6011  : ∀ k : Nat, 9002 ≤ k ∧ k < 9003 → ¬ (k = 10000 ∨ k = 10001 ∨ k = 9000 ∨ k = 9001) := by intro k hk hT; omega
theorem nt_6012  : ∀ k : Nat, 9003 ≤ k ∧ k < 9004 → ¬ (k = 10000 ∨ k = 10001 ∨ k = 9000 ∨ k = 9001) := by intro k hk hT; omega
theorem nt_6013  : ∀ k : Nat, 9004 ≤ k ∧ k < 9005 → ¬ (k = 10000 ∨ k = 10001 ∨ k = 9000 ∨ k = 9001) := by intro k hk hT; omega
theorem nt_6014  : ∀ k : Nat, 9005 ≤ k ∧ k < 9006 → ¬ (k = 10000 ∨ k = 10001 ∨ k = 9000 ∨ k = 9001) := by intro k hk hT; omega
theorem nt_6015  : ∀ k : Nat, 9006 ≤ k ∧ k < 9007 → ¬ (k = 10000 ∨ k = 10001 ∨ k = 9000 ∨ k = 9001) := by intro k hk hT; omega
theorem nt_6016  : ∀ k : Nat, 11000 ≤ k ∧ k < 12000 → ¬ (k = 10000 ∨ k = 10001 ∨ k = 9000 ∨ k = 9001) := by intro k hk hT; omega
theorem nt_6017  : ∀ k : Nat, 15000 ≤ k ∧ k < 16000 → ¬ (k = 10000 ∨ k = 10001 ∨ k = 9000 ∨ k = 9001) := by intro k hk hT; omega
theorem nt_6018  : ∀ k : Nat, 0 ≤ k ∧ k < 1 → ¬ (k = 10000 ∨ k = 10001 ∨ k = 9000 ∨ k = 9001) := by intro k hk hT; omega
set_option maxHeartbeats 4000000 in
set_option maxRecDepth 100000 in
theorem i_X11_beginT {l : Launch} {D : va_G} {cy : Nat → ClassId} {b : Nat} {f : gMem} {own : Nat → Nat} {xo : Nat} {da : Int32} {fcn : Int32} {csz : Int32} {sz : Int32} {len : Int32} {ln : Int32} {wz : Int32} {lo : Int32} {tg : Nat → Int32} {weg : Nat → Int32} {stg : Nat → Int32} {tpg : Nat → Int32} {ne : Nat} {x y u : Int32} (hI : xI cy own xo da fcn csz sz len ln wz lo tg weg stg tpg ne f)  : gU l D cy b yX11_begin cX11_begin 5 (some .int) 20 (24000 - ne + 3) (2 * (24000 - ne) + 88) [.ref xo, .int x, .int y, .int u] f gTt (fun kk nn r f2 => ∃ r9 : Int32, r = some (.int r9) ∧ ∃ (own2 : Nat → Nat) (csz2 : Int32) (sz2 : Int32) (lo2 : Int32) (ne2 : Nat) , xI cy own2 xo da fcn csz2 sz2 len ln wz lo2 tg weg stg tpg ne2 f2 ∧ kp0 own own2 f f2 ∧ (kk + ne ≤ ne2 + 3 ∧ nn + 2 * ne ≤ 2 * ne2 + 604) ∧ r9 = (if csz.toInt < 40 ∧ (0 ≤ x.toInt ∧ x.toInt < fcn.toInt) ∧ (0 ≤ y.toInt ∧ y.toInt ≤ 7) ∧ (0 ≤ u.toInt ∧ u.toInt ≤ 7) ∧ y.toInt ≠ u.toInt then csz else -1) ∧ csz2.toInt = (if csz.toInt < 40 ∧ (0 ≤ x.toInt ∧ x.toInt < fcn.toInt) ∧ (0 ≤ y.toInt ∧ y.toInt ≤ 7) ∧ (0 ≤ u.toInt ∧ u.toInt ≤ 7) ∧ y.toInt ≠ u.toInt then csz.toInt + 1 else csz.toInt)) := by
  obtain ⟨ch, sc, tp, ou, fm, dr, dt_, rd, te, la, lg, co, wo, fmg, lvg, HcXo, HcCh, HcTp, HcOu, HcFa, HcFm, HcDr, HcOt, HcRt, HcLa, HcLg, HcCo, HcLv, HcWo, HcFn⟩ := id hI
  obtain ⟨og_xo, hxo, mcXo⟩ := id HcXo
  obtain ⟨og_fm, hfm⟩ := id HcFa
  obtain ⟨lv, ⟨og_co, og_lv⟩, hco, hlv, mcCo⟩ := id HcCo
  obtain ⟨tl, th, t, ⟨og_ch, og_tl, og_sc, og_th⟩, hch, htl, hsc, hth, mcCh⟩ := id HcCh
  obtain ⟨en, ge, re, gv, tk, am, gi, eg, gvg, tkg, geg, reg, amg, ⟨og_lg, og_en, og_ge, og_re, og_gv, og_tk, og_am⟩, hlg, hen, hge, hre, hgv, htk, ham, mcLg⟩ := id HcLg
  refine gU_of (by decide) (Nat.le_of_ble_eq_true rfl) ?_
  show gG l _ _ _ D cy b cX11_begin 5 _ RX11 "begin" 0 0 f 0 [(0, .ref xo), (1, .int x), (2, .int y), (3, .int u)] []
  refine gz_aload_n dX11_begin_0 rfl rfl ?_
  refine gz_iload_n dX11_begin_1 rfl rfl ?_
  refine scX11_126 (k_X11_formAt (x := x) hxo hfm) hxo ⟨(Nat.le_of_ble_eq_true rfl), (Nat.le_of_ble_eq_true rfl)⟩ ⟨(by simp only [gRm]; omega), (by simp only [gRm]; omega)⟩ rfl rfl (Nat.le_of_ble_eq_true rfl) dX11_begin_2 ?_
  rintro u9 f9 ⟨z9, y9⟩; rw [z9, y9]
  cases hA2 : formF fcn fmg x with
  | none =>
    refine gz_ev (w := .null) rfl ?_
    refine gz_astoreN (lv' := [(4, .null), (0, .ref xo), (1, .int x), (2, .int y), (3, .int u)]) dX11_begin_5 (by decide) rfl ?_
    refine gz_aloadN dX11_begin_7 rfl ?_
    refine gz_ifnullN (tgt := 31) dX11_begin_9 (by decide) ?_
    refine gz_iconst (v := (-1)) dX11_begin_31 (by decide) ?_
    have hcs : ¬ (csz.toInt < 40 ∧ (0 ≤ x.toInt ∧ x.toInt < fcn.toInt) ∧ (0 ≤ y.toInt ∧ y.toInt ≤ 7) ∧ (0 ≤ u.toInt ∧ u.toInt ≤ 7) ∧ y.toInt ≠ u.toInt) := fun z => by obtain ⟨p9, hp9⟩ := formF_is mcXo HcFn z.2.1; rw [hp9] at hA2; cases hA2
    exact gz_iretU rfl dX11_begin_32 (by omega) (by omega) (⟨_, rfl, own, _, _, _, _, hI, kp0_rf, ⟨by omega, by omega⟩, (by rw [if_neg hcs]), (by rw [if_neg hcs])⟩)
  | some p =>
    refine gz_ev (w := .ref p) rfl ?_
    have hip := (formF_some hA2).1
    have hjp := (formF_some hA2).2
    obtain ⟨c1, c2, n1, n2, s, v, g, h, ⟨og_p, og_c1, og_c2⟩, hp, hc1, hc2, hs, hv, hFI⟩ := HcFm _ _ hip hjp
    refine gz_astore (lv' := [(4, .ref p), (0, .ref xo), (1, .int x), (2, .int y), (3, .int u)]) dX11_begin_5 (by decide) rfl ?_
    refine gz_aload dX11_begin_7 rfl ?_
    refine gz_ifnull dX11_begin_9 ?_
    refine gz_iload_n dX11_begin_12 rfl rfl ?_
    refine scX11_149 (k_X11_isHouse (x := y)) ⟨(Nat.le_of_ble_eq_true rfl), (Nat.le_of_ble_eq_true rfl)⟩ ⟨(by simp only [gRm]; omega), (by simp only [gRm]; omega)⟩ rfl rfl (Nat.le_of_ble_eq_true rfl) dX11_begin_13 ?_
    intro v9 f9 z9; rw [z9.1, z9.2]
    refine gz_if_eq (tgt := 31) dX11_begin_16 (by decide) (fun c_16 => ?_) (fun c_16 => ?_)
    ·
      refine gz_iconst (v := (-1)) dX11_begin_31 (by decide) ?_
      have kc_16 := housF_b.mp c_16
      have hcs : ¬ (csz.toInt < 40 ∧ (0 ≤ x.toInt ∧ x.toInt < fcn.toInt) ∧ (0 ≤ y.toInt ∧ y.toInt ≤ 7) ∧ (0 ≤ u.toInt ∧ u.toInt ≤ 7) ∧ y.toInt ≠ u.toInt) := by omega
      exact gz_iretU rfl dX11_begin_32 (by omega) (by omega) (⟨_, rfl, own, _, _, _, _, hI, kp0_rf, ⟨by omega, by omega⟩, (by rw [if_neg hcs]), (by rw [if_neg hcs])⟩)
    ·
      refine gz_iload_n dX11_begin_19 rfl rfl ?_
      refine scX11_149 (k_X11_isHouse (x := u)) ⟨(Nat.le_of_ble_eq_true rfl), (Nat.le_of_ble_eq_true rfl)⟩ ⟨(by simp only [gRm]; omega), (by simp only [gRm]; omega)⟩ rfl rfl (Nat.le_of_ble_eq_true rfl) dX11_begin_20 ?_
      intro v9 f9 z9; rw [z9.1, z9.2]
      refine gz_if_eq (tgt := 31) dX11_begin_23 (by decide) (fun c_23 => ?_) (fun c_23 => ?_)
      ·
        refine gz_iconst (v := (-1)) dX11_begin_31 (by decide) ?_
        have kc_16 := Classical.not_not.mp (fun q => c_16 (housF_b.mpr q))
        have kc_23 := housF_b.mp c_23
        have hcs : ¬ (csz.toInt < 40 ∧ (0 ≤ x.toInt ∧ x.toInt < fcn.toInt) ∧ (0 ≤ y.toInt ∧ y.toInt ≤ 7) ∧ (0 ≤ u.toInt ∧ u.toInt ≤ 7) ∧ y.toInt ≠ u.toInt) := by omega
        exact gz_iretU rfl dX11_begin_32 (by omega) (by omega) (⟨_, rfl, own, _, _, _, _, hI, kp0_rf, ⟨by omega, by omega⟩, (by rw [if_neg hcs]), (by rw [if_neg hcs])⟩)
      ·
        refine gz_iload_n dX11_begin_26 rfl rfl ?_
        refine gz_iload_n dX11_begin_27 rfl rfl ?_
        refine gz_icmp_ne (tgt := 33) dX11_begin_28 (by decide) (fun c_28 => ?_) (fun c_28 => ?_)
        ·
          refine gz_aload_n dX11_begin_33 rfl rfl ?_
          refine sgX11_85 hxo rfl dX11_begin_34 ?_
          refine gz_aload dX11_begin_37 rfl ?_
          refine gz_iload_n dX11_begin_39 rfl rfl ?_
          refine gz_iload_n dX11_begin_40 rfl rfl ?_
          by_cases hcz : csz.toInt < 40
          ·
            refine suX11_153 (k_X1_open (y1 := y) (y2 := u) (so := 0) (fc := 0) (q := 0) hco hlv hp hc1 hc2 hsc hth hlg hen hs hv ⟨mcCo.1, hcz⟩ mcLg ⟨(tgn og_en og_c1 (by omega)), (tgn og_en og_c2 (by omega)), (tgn og_en og_th (by decide))⟩) hco ⟨(Nat.le_of_ble_eq_true rfl), (Nat.le_of_ble_eq_true rfl)⟩ ⟨(by simp only [gRm]; omega), (by simp only [gRm]; omega)⟩ rfl rfl (Nat.le_of_ble_eq_true rfl) dX11_begin_41 ?_
            rintro kk_1 nn_1 r_1 f1 ⟨q_1, so_1, fc_1, e_1, m_1, g_1, s_1, l_1, z_1, a_1, x_1, y_1, rfl, hco_1, hlv_1, hq_1, hso_1, hfc_1, hlg_1, he_1, hl_1, hu_1, hc_1, hn6_1, hr1⟩
            refine gz_eq (st2 := [.int csz]) rfl rfl rfl rfl ?_
            have hxo_1 : f1 xo = some (.inr (11, [.ref ch, .ref tp, .ref ou, .ref fm, .ref dr, .ref dt_, .ref rd, .ref te, .ref la, .ref lg, .ref co, .ref wo, .int fcn])) := hr1 _ _ hxo (by simp only [List.mem_cons, List.not_mem_nil, or_false, not_or]; exact ⟨(tgn og_xo og_co (by decide)), (tgn og_xo og_lv (by decide)), (tgn og_xo og_lg (by decide)), (tgn og_xo og_en (by decide))⟩)
            have hfm_1 : f1 fm = some (.inl (cy 4, 20, .inr (.inr (.inr (.inr (fmg)))))) := hr1 _ _ hfm (by simp only [List.mem_cons, List.not_mem_nil, or_false, not_or]; exact ⟨(tgn og_fm og_co (by decide)), (tgn og_fm og_lv (by decide)), (tgn og_fm og_lg (by decide)), (tgn og_fm og_en (by decide))⟩)
            have hch_1 : f1 ch = some (.inr (0, [.ref tl, .ref sc])) := hr1 _ _ hch (by simp only [List.mem_cons, List.not_mem_nil, or_false, not_or]; exact ⟨(tgn og_ch og_co (by decide)), (tgn og_ch og_lv (by decide)), (tgn og_ch og_lg (by decide)), (tgn og_ch og_en (by decide))⟩)
            have htl_1 : f1 tl = some (.inl (cy 0, 2400, .inl (tg))) := hr1 _ _ htl (by simp only [List.mem_cons, List.not_mem_nil, or_false, not_or]; exact ⟨(tgn og_tl og_co (by decide)), (tgn og_tl og_lv (by decide)), (tgn og_tl og_lg (by decide)), (tgn og_tl og_en (by decide))⟩)
            have hsc_1 : f1 sc = some (.inr (7, [.ref th, .int da])) := hr1 _ _ hsc (by simp only [List.mem_cons, List.not_mem_nil, or_false, not_or]; exact ⟨(tgn og_sc og_co (by decide)), (tgn og_sc og_lv (by decide)), (tgn og_sc og_lg (by decide)), (tgn og_sc og_en (by decide))⟩)
            have hth_1 : f1 th = some (.inl (cy 0, 6, .inl (t))) := hr1 _ _ hth (by simp only [List.mem_cons, List.not_mem_nil, or_false, not_or]; exact ⟨(tgn og_th og_co (by decide)), (tgn og_th og_lv (by decide)), (tgn og_th og_lg (by decide)), (tgn og_th og_en (by decide))⟩)
            have hge_1 : f1 ge = some (.inl (cy 2, 8, .inr (.inl (geg)))) := hr1 _ _ hge (by simp only [List.mem_cons, List.not_mem_nil, or_false, not_or]; exact ⟨(tgn og_ge og_co (by decide)), (tgn og_ge og_lv (by decide)), (tgn og_ge og_lg (by decide)), (tgn og_ge og_en (by decide))⟩)
            have hre_1 : f1 re = some (.inl (cy 2, 8, .inr (.inl (reg)))) := hr1 _ _ hre (by simp only [List.mem_cons, List.not_mem_nil, or_false, not_or]; exact ⟨(tgn og_re og_co (by decide)), (tgn og_re og_lv (by decide)), (tgn og_re og_lg (by decide)), (tgn og_re og_en (by decide))⟩)
            have hgv_1 : f1 gv = some (.inl (cy 0, 8, .inl (gvg))) := hr1 _ _ hgv (by simp only [List.mem_cons, List.not_mem_nil, or_false, not_or]; exact ⟨(tgn og_gv og_co (by decide)), (tgn og_gv og_lv (by decide)), (tgn og_gv og_lg (by decide)), (tgn og_gv og_en (by decide))⟩)
            have htk_1 : f1 tk = some (.inl (cy 0, 8, .inl (tkg))) := hr1 _ _ htk (by simp only [List.mem_cons, List.not_mem_nil, or_false, not_or]; exact ⟨(tgn og_tk og_co (by decide)), (tgn og_tk og_lv (by decide)), (tgn og_tk og_lg (by decide)), (tgn og_tk og_en (by decide))⟩)
            have ham_1 : f1 am = some (.inl (cy 2, 8, .inr (.inl (amg)))) := hr1 _ _ ham (by simp only [List.mem_cons, List.not_mem_nil, or_false, not_or]; exact ⟨(tgn og_am og_co (by decide)), (tgn og_am og_lv (by decide)), (tgn og_am og_lg (by decide)), (tgn og_am og_en (by decide))⟩)
            have hp_1 : f1 p = some (.inr (2, [.ref c1, .ref c2, .int s, .int v])) := hr1 _ _ hp (by simp only [List.mem_cons, List.not_mem_nil, or_false, not_or]; exact ⟨(tgn og_p og_co (by omega)), (tgn og_p og_lv (by omega)), (tgn og_p og_lg (by omega)), (tgn og_p og_en (by omega))⟩)
            have hc1_1 : f1 c1 = some (.inl (cy 0, n1, .inl (g))) := hr1 _ _ hc1 (by simp only [List.mem_cons, List.not_mem_nil, or_false, not_or]; exact ⟨(tgn og_c1 og_co (by omega)), (tgn og_c1 og_lv (by omega)), (tgn og_c1 og_lg (by omega)), (tgn og_c1 og_en (by omega))⟩)
            have hc2_1 : f1 c2 = some (.inl (cy 0, n2, .inl (h))) := hr1 _ _ hc2 (by simp only [List.mem_cons, List.not_mem_nil, or_false, not_or]; exact ⟨(tgn og_c2 og_co (by omega)), (tgn og_c2 og_lv (by omega)), (tgn og_c2 og_lg (by omega)), (tgn og_c2 og_en (by omega))⟩)
            have hcl : Int32.toNatClampNeg csz < 40 := clampB mcCo.1 hcz
            obtain ⟨own2, ho2⟩ : ∃ own2 : Nat → Nat, own2 = va_up (va_up (va_up (va_up own e_1 9001) q_1 (12000 + 3 * Int32.toNatClampNeg csz)) so_1 ((12000 + 3 * Int32.toNatClampNeg csz) + 1)) fc_1 ((12000 + 3 * Int32.toNatClampNeg csz) + 2) := ⟨_, rfl⟩
            have hO : ∀ z e, f z = some e → own2 z = own z := by rw [ho2]; exact own_up (own_up (own_up (own_en hc_1 og_en) hn6_1.1) hn6_1.2.1) hn6_1.2.2.1
            have hK : kp own own2 (fun k => k = 10000 ∨ k = 10001 ∨ k = 9000 ∨ k = 9001) f f1 := by
              refine kp_fr (S := [co, lv, lg, en]) ((fr_tr fr_rf (fr_mo hr1 (by simp)))) hO ?_
              intro x0 hx0
              simp only [List.mem_cons, List.not_mem_nil, or_false] at hx0
              rcases hx0 with e0 | e0 | e0 | e0
              · rw [e0]; show (own co) = 10000 ∨ (own co) = 10001 ∨ (own co) = 9000 ∨ (own co) = 9001; rw [og_co]; decide
              · rw [e0]; show (own lv) = 10000 ∨ (own lv) = 10001 ∨ (own lv) = 9000 ∨ (own lv) = 9001; rw [og_lv]; decide
              · rw [e0]; show (own lg) = 10000 ∨ (own lg) = 10001 ∨ (own lg) = 9000 ∨ (own lg) = 9001; rw [og_lg]; decide
              · rw [e0]; show (own en) = 10000 ∨ (own en) = 10001 ∨ (own en) = 9000 ∨ (own en) = 9001; rw [og_en]; decide
            have hu1 : own2 q_1 = (12000 + 3 * Int32.toNatClampNeg csz) := by rw [ho2, va_up_ne _ _ (cne hq_1 hfc_1 (by simp)), va_up_ne _ _ (cne hq_1 hso_1 (by simp)), va_up_self]
            have hu2 : own2 so_1 = (12000 + 3 * Int32.toNatClampNeg csz) + 1 := by rw [ho2, va_up_ne _ _ hn6_1.2.2.2.1, va_up_self]
            have hu3 : own2 fc_1 = (12000 + 3 * Int32.toNatClampNeg csz) + 2 := by rw [ho2, va_up_self]
            have hu4 : own2 e_1 = 9001 := by rw [ho2, va_up_ne _ _ hn6_1.2.2.2.2.2, va_up_ne _ _ hn6_1.2.2.2.2.1, va_up_ne _ _ (cne he_1 hq_1 (by simp)), va_up_self]
            have hcz1 : (csz + 1).toInt = csz.toInt + 1 := T_add (rfl : csz.toInt = csz.toInt) (rfl : (1 : Int32).toInt = 1) (by have := mcCo; omega)
            have hNew : cLf cy own2 f1 (Int32.toNatClampNeg csz) q_1 p so_1 fc_1 _ _ _ _ _ _ _ := ⟨⟨hu1, hu2, hu3⟩, hq_1, hso_1, hfc_1⟩
            have kc_16 := Classical.not_not.mp (fun q => c_16 (housF_b.mpr q))
            have kc_23 := Classical.not_not.mp (fun q => c_23 (housF_b.mpr q))
            have kc_28 : y.toInt ≠ u.toInt := fun z => c_28 (Int32.toInt_inj.mp z)
            have hfl := formF_lt hA2
            have hcs : csz.toInt < 40 ∧ (0 ≤ x.toInt ∧ x.toInt < fcn.toInt) ∧ (0 ≤ y.toInt ∧ y.toInt ≤ 7) ∧ (0 ≤ u.toInt ∧ u.toInt ≤ 7) ∧ y.toInt ≠ u.toInt := by omega
            exact gz_iretU rfl dX11_begin_44 (by omega) (by omega) (⟨_, rfl, own2, _, _, _, _, ⟨_, _, _, _, _, _, _, _, _, _, _, _, _, _, _, (cXo_kp HcXo hK nt_6001), (kCh_kp HcCh hK nt_6002), (kTp_kp HcTp hK nt_6003), (kOu_kp HcOu hK nt_6004), (cFa_kp HcFa hK nt_6005), (cFm_kp HcFm hK nt_6006), (kDr_kp HcDr hK nt_6007), (kOt_kp HcOt hK nt_6008), (kRt_kp HcRt hK nt_6009), (kLa_kp HcLa hK nt_6010), ⟨_, _, _, _, _, _, _, _, _, _, _, _, _, ⟨⟨((hO _ _ hlg).trans og_lg), hu4, ((hO _ _ hge).trans og_ge), ((hO _ _ hre).trans og_re), ((hO _ _ hgv).trans og_gv), ((hO _ _ htk).trans og_tk), ((hO _ _ ham).trans og_am)⟩, hlg_1, he_1, (hK.2 _ _ hge (by show ¬ ((own ge) = 10000 ∨ (own ge) = 10001 ∨ (own ge) = 9000 ∨ (own ge) = 9001); rw [og_ge]; exact nt_6011 _ ⟨Nat.le_refl _, Nat.lt_succ_self _⟩)), (hK.2 _ _ hre (by show ¬ ((own re) = 10000 ∨ (own re) = 10001 ∨ (own re) = 9000 ∨ (own re) = 9001); rw [og_re]; exact nt_6012 _ ⟨Nat.le_refl _, Nat.lt_succ_self _⟩)), (hK.2 _ _ hgv (by show ¬ ((own gv) = 10000 ∨ (own gv) = 10001 ∨ (own gv) = 9000 ∨ (own gv) = 9001); rw [og_gv]; exact nt_6013 _ ⟨Nat.le_refl _, Nat.lt_succ_self _⟩)), (hK.2 _ _ htk (by show ¬ ((own tk) = 10000 ∨ (own tk) = 10001 ∨ (own tk) = 9000 ∨ (own tk) = 9001); rw [og_tk]; exact nt_6014 _ ⟨Nat.le_refl _, Nat.lt_succ_self _⟩)), (hK.2 _ _ ham (by show ¬ ((own am) = 10000 ∨ (own am) = 10001 ∨ (own am) = 9000 ∨ (own am) = 9001); rw [og_am]; exact nt_6015 _ ⟨Nat.le_refl _, Nat.lt_succ_self _⟩)), hl_1⟩⟩, ⟨_, ⟨⟨((hO _ _ hco).trans og_co), ((hO _ _ hlv).trans og_lv)⟩, hco_1, hlv_1, ⟨by have := mcCo; omega, by omega⟩⟩⟩, (cLv_new (cLv_kp HcLv hK nt_6000) hNew ⟨hip, hjp⟩), (kWo_kp HcWo hK nt_6016 nt_6017), HcFn⟩, (kp_0 hK (nt_6018 0 ⟨Nat.le_refl _, Nat.lt_succ_self _⟩)), ⟨by omega, by omega⟩, (by rw [if_pos hcs]), (by rw [if_pos hcs]; exact hcz1)⟩)
          ·
            refine suX11_153 (k_X1_openF (p := p) (y1 := y) (y2 := u) hco (by omega)) hco ⟨(Nat.le_of_ble_eq_true rfl), (Nat.le_of_ble_eq_true rfl)⟩ ⟨(by simp only [gRm]; omega), (by simp only [gRm]; omega)⟩ rfl rfl (Nat.le_of_ble_eq_true rfl) dX11_begin_41 ?_
            rintro kk_0 nn_0 r_0 f_0 ⟨z1, z2, z3, z4⟩
            subst z1 z2 z3
            rw [z4]
            refine gz_eq (st2 := [.int (-1)]) rfl rfl rfl rfl ?_
            have kc_16 := Classical.not_not.mp (fun q => c_16 (housF_b.mpr q))
            have kc_23 := Classical.not_not.mp (fun q => c_23 (housF_b.mpr q))
            have kc_28 : y.toInt ≠ u.toInt := fun z => c_28 (Int32.toInt_inj.mp z)
            have hcs : ¬ (csz.toInt < 40 ∧ (0 ≤ x.toInt ∧ x.toInt < fcn.toInt) ∧ (0 ≤ y.toInt ∧ y.toInt ≤ 7) ∧ (0 ≤ u.toInt ∧ u.toInt ≤ 7) ∧ y.toInt ≠ u.toInt) := by omega
            exact gz_iretU rfl dX11_begin_44 (by omega) (by omega) (⟨_, rfl, own, _, _, _, _, hI, kp0_rf, ⟨by omega, by omega⟩, (by rw [if_neg hcs]), (by rw [if_neg hcs])⟩)
        ·
          refine gz_iconst (v := (-1)) dX11_begin_31 (by decide) ?_
          have kc_16 := Classical.not_not.mp (fun q => c_16 (housF_b.mpr q))
          have kc_23 := Classical.not_not.mp (fun q => c_23 (housF_b.mpr q))
          have kc_28 : y.toInt = u.toInt := congrArg Int32.toInt c_28
          have hcs : ¬ (csz.toInt < 40 ∧ (0 ≤ x.toInt ∧ x.toInt < fcn.toInt) ∧ (0 ≤ y.toInt ∧ y.toInt ≤ 7) ∧ (0 ≤ u.toInt ∧ u.toInt ≤ 7) ∧ y.toInt ≠ u.toInt) := by omega
          exact gz_iretU rfl dX11_begin_32 (by omega) (by omega) (⟨_, rfl, own, _, _, _, _, hI, kp0_rf, ⟨by omega, by omega⟩, (by rw [if_neg hcs]), (by rw [if_neg hcs])⟩)
