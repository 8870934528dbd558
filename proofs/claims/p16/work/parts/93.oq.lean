def nmG (G : Nat → Nat → Int64) : Prop := ∀ k, k < 11 → (G 27 k).toInt = nmC k
theorem nmG_cg {G G2 : Nat → Nat → Int64} (h : G2 27 = G 27) (q : nmG G) : nmG G2 := fun k hk => by rw [h]; exact q k hk
set_option maxHeartbeats 4000000 in
set_option maxRecDepth 100000 in
theorem l_X12_beginsEA {l : Launch} {D : va_G} {cy : Nat → ClassId} {b : Nat} {m : Nat} {a : Nat → Nat} {f0 : gMem} {n0 : Nat → Int32} {z0 : Nat → Int64} {F0 : Nat → Nat → Int32} {G0 : Nat → Nat → Int64}  {f W O S0 : Nat} {st_ kd : Int32} (h5 : (n0 5).toInt = (f : Int) ∧ f < 20) (hJ : RDJ F0 n0 F0 f W O true) (hB0 : rB F0) (hS0 : S0 = skR (tX (F0 3) (n0 4)) (n0 21).toInt.toNat) (hkq : kd.toInt = (if kdR (tX (F0 3) (n0 4)) S0 = 11 then -1 else (kdR (tX (F0 3) (n0 4)) S0 : Int))) : ∀ (k : Nat)  (n : Nat → Int32) (z : Nat → Int64) (F : Nat → Nat → Int32) (G : Nat → Nat → Int64) (fm : gMem), mS cy m a f0 n z F G fm → fx [21] [] [] [] n0 z0 F0 G0 n z F G → ((0 ≤ (n 21).toInt ∧ (n 21).toInt ≤ (n 4).toInt ∧ (n 4).toInt ≤ 400)) → ((n0 21).toInt ≤ (n 21).toInt) → ((n 22).toInt = 0) → ((n 21).toInt = (S0 : Int) ∧ st_.toInt = (S0 : Int) ∧ (S0 : Int) ≤ 400) → (0 < (k : Int)) → gG l (gRm 5 0 0) (gQf D b (pI fun r f2 => ∃ (n2 : Nat → Int32) (z2 : Nat → Int64) (F2 : Nat → Nat → Int32) (G2 : Nat → Nat → Int64), mS cy m a f0 n2 z2 F2 G2 f2 ∧ fx [21, 22, 23, 24] [] [6, 7, 8, 9, 10, 11, 12, 13, 14, 15, 16, 17, 18, 19, 20, 25, 26] [] n0 z0 F0 G0 n2 z2 F2 G2 ∧ (r = 0 ∨ r = 1) ∧ (0 ≤ (n2 21).toInt ∧ (n2 21).toInt ≤ (n2 4).toInt ∧ (n2 4).toInt ≤ 400) ∧ (n0 21).toInt ≤ (n2 21).toInt ∧ rAll F2 ∧ (∀ g, g < f → agF F0 F2 g) ∧ (r = 1 → RDJ F0 n2 F2 f (W + 1) O false ∨ RDJ F0 n2 F2 f (W + 1) (O + 1) true) ∧ exB (bgR (tX (F0 3) (n0 4)) (n0 21).toInt.toNat W (F0 17 f).toInt.toNat O) O r n0 n2 F0 F2 f) 0 0) gTt D cy b cX12_begins 9 (some .boolean) RX12 "begins" 0 0 fm 50 [(0, .ref m), (3, .int st_), (4, .int kd)] [] := by
  intro k
  induction k with
  | zero =>
    intro n z F G fm hS hx hT hm h22 h21 hk
    exfalso; omega
  | succ k ih =>
    intro n z F G fm hS hx hT hm h22 h21 hk
    have e4 : n 4 = n0 4 := hx.1 4 (by decide)
    rw [e4] at hT
    obtain ⟨g6, g24, gR, gv, gA, gg⟩ := id hJ
    have ecf : (Int32.toNatClampNeg (n0 5)) = f := by rw [clN]; omega
    have gO := RD_O gR
    have q6 : (F0 6 (Int32.toNatClampNeg (n0 5))).toInt = (W : Int) := by rw [ecf]; exact g6.1
    have gv2 : (F0 17 (Int32.toNatClampNeg (n0 5))).toInt = (F0 17 f).toInt := by rw [ecf]
    have e3 : F 3 = F0 3 := hx.2.2.1 3 (by decide)
    have hB : rB F := rB_cg e3 hB0
    have hln := tX_ln (g := F0 3) (L := n0 4) (by omega)
    have hsk := skR_le hln (p := (n0 21).toInt.toNat) (by omega)
    refine gz_iload dX12_begins_50 rfl ?_
    refine gz_if_ge (tgt := 62) dX12_begins_52 (by decide) (fun c_52 => ?_) (fun c_52 => ?_)
    ·
      try simp only [mIn_0, lgc_lt, lgc_gt, lgc_le, lgc_ge, lgc_eq] at c_52
      try simp only [fl_lt, fl_le, fl_eq, fL_w, fL_lt, fL_le, tm1, tm10k, tm9, tm99, Int32.reduceToInt, Int64.reduceToInt, Int.not_lt, Int.not_le] at c_52
      refine gz_aload_n dX12_begins_62 rfl rfl ?_
      refine mg_319 hS dX12_begins_63 ?_
      refine gz_ev (w := .int (n0 24)) (congrArg Value.int (hx.1 24 (by decide))) ?_
      refine gz_if_ne (tgt := 73) dX12_begins_66 (by decide) (fun c_66 => ?_) (fun c_66 => ?_)
      ·
        try simp only [mIn_0, lgc_lt, lgc_gt, lgc_le, lgc_ge, lgc_eq] at c_66
        try simp only [fl_lt, fl_le, fl_eq, fL_w, fL_lt, fL_le, tm1, tm10k, tm9, tm99, Int32.reduceToInt, Int64.reduceToInt, Int.not_lt, Int.not_le] at c_66
        obtain ⟨i0, hi0⟩ : ∃ i0 : Nat, O = i0 + 1 := ⟨O - 1, by omega⟩
        subst hi0
        obtain ⟨p, c1, c2, c3, c4, c5, c6, -⟩ := gR.2.1 i0 (by omega)
        have ei0 : Int32.toNatClampNeg ((n0 24) - 1) = i0 := by rw [clN]; have q := T_sub (rfl : (n0 24).toInt = (n0 24).toInt) (show (1 : Int32).toInt = 1 from rfl) (by omega); omega
        refine gz_aload_n dX12_begins_73 rfl rfl ?_
        refine mg_62 hS dX12_begins_74 ?_
        refine gz_aload_n dX12_begins_77 rfl rfl ?_
        refine mg_319 hS dX12_begins_78 ?_
        refine gz_ev (w := .int (n0 24)) (congrArg Value.int (hx.1 24 (by decide))) ?_
        refine gz_iconst (v := 1) dX12_begins_81 (by decide) ?_
        refine gz_isub dX12_begins_82 ?_
        refine m_iald 25 hS rfl (N := 40) rfl ((by have q9 := (T_sub (rfl : ((n0 24)).toInt = ((n0 24)).toInt) (show (1 : Int32).toInt = 1 from rfl) (by omega)); exact vin_T q9 (by omega) (by omega))) dX12_begins_83 ?_
        refine gz_ev (w := .int ((F0 25) (Int32.toNatClampNeg ((n0 24) - 1)))) (congrArg Value.int (congrFun (hx.2.2.1 25 (by decide)) _)) ?_
        obtain ⟨up, hup⟩ : ∃ v_ : Int32, v_ = ((F0 25) (Int32.toNatClampNeg ((n0 24) - 1))) := ⟨_, rfl⟩
        refine gz_ev (w := .int up) (congrArg Value.int hup.symm) ?_
        have qup : up.toInt = 40 * (f : Int) + p := by rw [hup, ei0]; exact c2
        have eup : Int32.toNatClampNeg up = 40 * f + p := by rw [clN]; omega
        have e9 : (F0 9 (Int32.toNatClampNeg up)).toInt = (i0 : Int) := by rw [eup]; exact c5
        refine gz_istore (lv' := [(5, .int up), (0, .ref m), (3, .int st_), (4, .int kd)]) dX12_begins_84 (by decide) rfl ?_
        refine gz_aload_n dX12_begins_86 rfl rfl ?_
        refine mg_319 hS dX12_begins_87 ?_
        refine gz_ev (w := .int (n0 24)) (congrArg Value.int (hx.1 24 (by decide))) ?_
        refine gz_if_ne (tgt := 97) dX12_begins_90 (by decide) (fun c_90 => ?_) (fun c_90 => ?_)
        ·
          try simp only [mIn_0, lgc_lt, lgc_gt, lgc_le, lgc_ge, lgc_eq] at c_90
          try simp only [fl_lt, fl_le, fl_eq, fL_w, fL_lt, fL_le, tm1, tm10k, tm9, tm99, Int32.reduceToInt, Int64.reduceToInt, Int.not_lt, Int.not_le] at c_90
          refine gz_aload_n dX12_begins_97 rfl rfl ?_
          refine mg_26 hS dX12_begins_98 ?_
          refine gz_iload dX12_begins_101 rfl ?_
          refine m_iald 9 hS rfl (N := 880) rfl ((by exact vin_T (rfl : up.toInt = up.toInt) (by omega) (by omega))) dX12_begins_103 ?_
          refine gz_ev (w := .int ((F0 9) (Int32.toNatClampNeg up))) (congrArg Value.int (congrFun (hx.2.2.1 9 (by decide)) _)) ?_
          refine gz_iconst (v := 1) dX12_begins_104 (by decide) ?_
          refine gz_iadd dX12_begins_105 ?_
          obtain ⟨ar, har⟩ : ∃ v_ : Int32, v_ = (((F0 9) (Int32.toNatClampNeg up)) + 1) := ⟨_, rfl⟩
          refine gz_ev (w := .int ar) (congrArg Value.int har.symm) ?_
          have qar : ar.toInt = ((i0 + 1 : Nat) : Int) := by rw [har]; have q := T_add e9 (show (1 : Int32).toInt = 1 from rfl) (by omega); omega
          refine gz_istore (lv' := [(6, .int ar), (5, .int up), (0, .ref m), (3, .int st_), (4, .int kd)]) dX12_begins_106 (by decide) rfl ?_
          refine gz_iload dX12_begins_108 rfl ?_
          refine gz_bipush (v := 11) dX12_begins_110 (by decide) ?_
          refine gz_icmp_le (tgt := 122) dX12_begins_112 (by decide) (fun c_112 => ?_) (fun c_112 => ?_)
          ·
            try simp only [mIn_0, lgc_lt, lgc_gt, lgc_le, lgc_ge, lgc_eq] at c_112
            try simp only [fl_lt, fl_le, fl_eq, fL_w, fL_lt, fL_le, tm1, tm10k, tm9, tm99, Int32.reduceToInt, Int64.reduceToInt, Int.not_lt, Int.not_le] at c_112
            refine gz_aload_n dX12_begins_122 rfl rfl ?_
            refine mg_17 hS dX12_begins_123 ?_
            refine gz_aload_n dX12_begins_126 rfl rfl ?_
            refine mg_307 hS dX12_begins_127 ?_
            refine gz_ev (w := .int (n0 5)) (congrArg Value.int (hx.1 5 (by decide))) ?_
            refine m_iald 6 hS rfl (N := 22) rfl ((by exact vin_T (rfl : (n0 5).toInt = (n0 5).toInt) (by omega) (by omega))) dX12_begins_130 ?_
            refine gz_ev (w := .int ((F0 6) (Int32.toNatClampNeg (n0 5)))) (congrArg Value.int (congrFun (hx.2.2.1 6 (by decide)) _)) ?_
            refine gz_bipush (v := 40) dX12_begins_131 (by decide) ?_
            refine gz_icmp_ne (tgt := 143) dX12_begins_133 (by decide) (fun c_133 => ?_) (fun c_133 => ?_)
            ·
              try simp only [mIn_0, lgc_lt, lgc_gt, lgc_le, lgc_ge, lgc_eq] at c_133
              try simp only [fl_lt, fl_le, fl_eq, fL_w, fL_lt, fL_le, tm1, tm10k, tm9, tm99, Int32.reduceToInt, Int64.reduceToInt, Int.not_lt, Int.not_le] at c_133
              refine gz_aload_n dX12_begins_143 rfl rfl ?_
              refine scX12_310 (k_X12_skipsE hS (by (try rw [(show n 4 = (n0 4) from (hx.1 4 (by decide)))]); omega) (rB_cg (hx.2.2.1 3 (by decide)) hB0)) hS.1 ⟨(Nat.le_of_ble_eq_true rfl), (Nat.le_of_ble_eq_true rfl)⟩ ⟨(Nat.le_of_ble_eq_true rfl), (Nat.le_of_ble_eq_true rfl)⟩ rfl rfl (Nat.le_of_ble_eq_true rfl) dX12_begins_144 ?_
              rintro f_1 ⟨n_1, z_1, F_1, G_1, hS_1, hx1, hT_1, hm_1, hs_1⟩
              try simp only [(show n_1 4 = (n0 4) from ((hx1.1 4 (by decide)).trans (hx.1 4 (by decide))))] at hT_1 hm_1 hs_1
              try simp only [(show F_1 3 = (F0 3) from ((hx1.2.2.1 3 (by decide)).trans (hx.2.2.1 3 (by decide))))] at hT_1 hm_1 hs_1
              try simp only [(show n 4 = (n0 4) from (hx.1 4 (by decide)))] at hT_1 hm_1 hs_1
              try simp only [(show F 3 = (F0 3) from (hx.2.2.1 3 (by decide)))] at hT_1 hm_1 hs_1
              rw [show (n 21).toInt.toNat = S0 by omega] at hs_1
              have h11 : ¬ kdR (tX (F0 3) (n0 4)) S0 = 11 := fun z => by rw [if_pos z] at hkq; omega
              rw [if_neg h11] at hkq
              have hk10 := kdR_le (T := (tX (F0 3) (n0 4))) (p := S0)
              refine gz_bipush (v := 40) dX12_begins_147 (by decide) ?_
              refine gz_aload_n dX12_begins_149 rfl rfl ?_
              refine mg_307 hS_1 dX12_begins_150 ?_
              refine gz_ev (w := .int (n0 5)) (congrArg Value.int ((hx1.1 5 (by decide)).trans (hx.1 5 (by decide)))) ?_
              refine gz_imul dX12_begins_153 ?_
              refine gz_aload_n dX12_begins_154 rfl rfl ?_
              refine mg_17 hS_1 dX12_begins_155 ?_
              refine gz_aload_n dX12_begins_158 rfl rfl ?_
              refine mg_307 hS_1 dX12_begins_159 ?_
              refine gz_ev (w := .int (n0 5)) (congrArg Value.int ((hx1.1 5 (by decide)).trans (hx.1 5 (by decide)))) ?_
              refine m_iald 6 hS_1 rfl (N := 22) rfl ((by exact vin_T (rfl : (n0 5).toInt = (n0 5).toInt) (by omega) (by omega))) dX12_begins_162 ?_
              refine gz_ev (w := .int ((F0 6) (Int32.toNatClampNeg (n0 5)))) (congrArg Value.int (congrFun ((hx1.2.2.1 6 (by decide)).trans (hx.2.2.1 6 (by decide))) _)) ?_
              refine gz_iadd dX12_begins_163 ?_
              obtain ⟨iw, hiw⟩ : ∃ v_ : Int32, v_ = ((40 * (n0 5)) + ((F0 6) (Int32.toNatClampNeg (n0 5)))) := ⟨_, rfl⟩
              refine gz_ev (w := .int iw) (congrArg Value.int hiw.symm) ?_
              have qiw : iw.toInt = 40 * (f : Int) + W := by rw [hiw]; have q := (T_add (T_mul (show (40 : Int32).toInt = 40 from rfl) (rfl : ((n0 5)).toInt = ((n0 5)).toInt) (by omega)) (rfl : (((F0 6) (Int32.toNatClampNeg (n0 5)))).toInt = (((F0 6) (Int32.toNatClampNeg (n0 5)))).toInt) (by omega)); omega
              have eci : Int32.toNatClampNeg iw = (40 * f + W) := by rw [clN]; omega
              refine gz_istore (lv' := [(7, .int iw), (6, .int ar), (5, .int up), (0, .ref m), (3, .int st_), (4, .int kd)]) dX12_begins_164 (by decide) rfl ?_
              refine gz_aload_n dX12_begins_166 rfl rfl ?_
              refine mg_17 hS_1 dX12_begins_167 ?_
              refine gz_aload_n dX12_begins_170 rfl rfl ?_
              refine mg_307 hS_1 dX12_begins_171 ?_
              refine gz_ev (w := .int (n0 5)) (congrArg Value.int ((hx1.1 5 (by decide)).trans (hx.1 5 (by decide)))) ?_
              refine gz_dup2 dX12_begins_174 rfl rfl ?_
              refine m_iald 6 hS_1 rfl (N := 22) rfl ((by exact vin_T (rfl : (n0 5).toInt = (n0 5).toInt) (by omega) (by omega))) dX12_begins_175 ?_
              refine gz_ev (w := .int ((F0 6) (Int32.toNatClampNeg (n0 5)))) (congrArg Value.int (congrFun ((hx1.2.2.1 6 (by decide)).trans (hx.2.2.1 6 (by decide))) _)) ?_
              refine gz_iconst (v := 1) dX12_begins_176 (by decide) ?_
              refine gz_iadd dX12_begins_177 ?_
              refine m_iast 6 hS_1 rfl (N := 22) rfl ((by exact vin_T (rfl : (n0 5).toInt = (n0 5).toInt) (by omega) (by omega))) dX12_begins_178 (fun f_2 hS_2q => ?_)
              have hS_2 : mS cy m a f0 n_1 z_1 (va_up F_1 6 (upd (F0 6) (Int32.toNatClampNeg (n0 5)) (((F0 6) (Int32.toNatClampNeg (n0 5))) + 1))) G_1 f_2 := (by have e9 := (show F_1 6 = (F0 6) from ((hx1.2.2.1 6 (by decide)).trans (hx.2.2.1 6 (by decide)))); rw [e9] at hS_2q; exact hS_2q)
              refine gz_aload_n dX12_begins_179 rfl rfl ?_
              refine mg_20 hS_2 dX12_begins_180 ?_
              refine gz_iload dX12_begins_183 rfl ?_
              refine gz_iload dX12_begins_185 rfl ?_
              refine m_iast 7 hS_2 rfl (N := 880) rfl ((by exact vin_T (rfl : iw.toInt = iw.toInt) (by omega) (by omega))) dX12_begins_187 (fun f_3 hS_3q => ?_)
              have hS_3 : mS cy m a f0 n_1 z_1 (va_up (va_up F_1 6 (upd (F0 6) (Int32.toNatClampNeg (n0 5)) (((F0 6) (Int32.toNatClampNeg (n0 5))) + 1))) 7 (upd (F0 7) (Int32.toNatClampNeg iw) kd)) G_1 f_3 := (by have e9 := (show (va_up F_1 6 (upd (F0 6) (Int32.toNatClampNeg (n0 5)) (((F0 6) (Int32.toNatClampNeg (n0 5))) + 1))) 7 = (F0 7) from ((hx1.2.2.1 7 (by decide)).trans (hx.2.2.1 7 (by decide)))); rw [e9] at hS_3q; exact hS_3q)
              refine gz_aload_n dX12_begins_188 rfl rfl ?_
              refine mg_23 hS_3 dX12_begins_189 ?_
              refine gz_iload dX12_begins_192 rfl ?_
              refine gz_iconst (v := (-1)) dX12_begins_194 (by decide) ?_
              refine m_iast 8 hS_3 rfl (N := 880) rfl ((by exact vin_T (rfl : iw.toInt = iw.toInt) (by omega) (by omega))) dX12_begins_195 (fun f_4 hS_4q => ?_)
              have hS_4 : mS cy m a f0 n_1 z_1 (va_up (va_up (va_up F_1 6 (upd (F0 6) (Int32.toNatClampNeg (n0 5)) (((F0 6) (Int32.toNatClampNeg (n0 5))) + 1))) 7 (upd (F0 7) (Int32.toNatClampNeg iw) kd)) 8 (upd (F0 8) (Int32.toNatClampNeg iw) (-1))) G_1 f_4 := (by have e9 := (show (va_up (va_up F_1 6 (upd (F0 6) (Int32.toNatClampNeg (n0 5)) (((F0 6) (Int32.toNatClampNeg (n0 5))) + 1))) 7 (upd (F0 7) (Int32.toNatClampNeg iw) kd)) 8 = (F0 8) from ((hx1.2.2.1 8 (by decide)).trans (hx.2.2.1 8 (by decide)))); rw [e9] at hS_4q; exact hS_4q)
              refine gz_aload_n dX12_begins_196 rfl rfl ?_
              refine mg_26 hS_4 dX12_begins_197 ?_
              refine gz_iload dX12_begins_200 rfl ?_
              refine gz_iload dX12_begins_202 rfl ?_
              refine m_iast 9 hS_4 rfl (N := 880) rfl ((by exact vin_T (rfl : iw.toInt = iw.toInt) (by omega) (by omega))) dX12_begins_204 (fun f_5 hS_5q => ?_)
              have hS_5 : mS cy m a f0 n_1 z_1 (va_up (va_up (va_up (va_up F_1 6 (upd (F0 6) (Int32.toNatClampNeg (n0 5)) (((F0 6) (Int32.toNatClampNeg (n0 5))) + 1))) 7 (upd (F0 7) (Int32.toNatClampNeg iw) kd)) 8 (upd (F0 8) (Int32.toNatClampNeg iw) (-1))) 9 (upd (F0 9) (Int32.toNatClampNeg iw) ar)) G_1 f_5 := (by have e9 := (show (va_up (va_up (va_up F_1 6 (upd (F0 6) (Int32.toNatClampNeg (n0 5)) (((F0 6) (Int32.toNatClampNeg (n0 5))) + 1))) 7 (upd (F0 7) (Int32.toNatClampNeg iw) kd)) 8 (upd (F0 8) (Int32.toNatClampNeg iw) (-1))) 9 = (F0 9) from ((hx1.2.2.1 9 (by decide)).trans (hx.2.2.1 9 (by decide)))); rw [e9] at hS_5q; exact hS_5q)
              refine gz_aload_n dX12_begins_205 rfl rfl ?_
              refine mg_29 hS_5 dX12_begins_206 ?_
              refine gz_iload dX12_begins_209 rfl ?_
              refine gz_iload dX12_begins_211 rfl ?_
              refine m_iast 10 hS_5 rfl (N := 880) rfl ((by exact vin_T (rfl : iw.toInt = iw.toInt) (by omega) (by omega))) dX12_begins_213 (fun f_6 hS_6q => ?_)
              have hS_6 : mS cy m a f0 n_1 z_1 (va_up (va_up (va_up (va_up (va_up F_1 6 (upd (F0 6) (Int32.toNatClampNeg (n0 5)) (((F0 6) (Int32.toNatClampNeg (n0 5))) + 1))) 7 (upd (F0 7) (Int32.toNatClampNeg iw) kd)) 8 (upd (F0 8) (Int32.toNatClampNeg iw) (-1))) 9 (upd (F0 9) (Int32.toNatClampNeg iw) ar)) 10 (upd (F0 10) (Int32.toNatClampNeg iw) up)) G_1 f_6 := (by have e9 := (show (va_up (va_up (va_up (va_up F_1 6 (upd (F0 6) (Int32.toNatClampNeg (n0 5)) (((F0 6) (Int32.toNatClampNeg (n0 5))) + 1))) 7 (upd (F0 7) (Int32.toNatClampNeg iw) kd)) 8 (upd (F0 8) (Int32.toNatClampNeg iw) (-1))) 9 (upd (F0 9) (Int32.toNatClampNeg iw) ar)) 10 = (F0 10) from ((hx1.2.2.1 10 (by decide)).trans (hx.2.2.1 10 (by decide)))); rw [e9] at hS_6q; exact hS_6q)
              refine gz_aload_n dX12_begins_214 rfl rfl ?_
              refine mg_38 hS_6 dX12_begins_215 ?_
              refine gz_iload dX12_begins_218 rfl ?_
              refine gz_iconst (v := 0) dX12_begins_220 (by decide) ?_
              refine m_iast 13 hS_6 rfl (N := 880) rfl ((by exact vin_T (rfl : iw.toInt = iw.toInt) (by omega) (by omega))) dX12_begins_221 (fun f_7 hS_7q => ?_)
              have hS_7 : mS cy m a f0 n_1 z_1 (va_up (va_up (va_up (va_up (va_up (va_up F_1 6 (upd (F0 6) (Int32.toNatClampNeg (n0 5)) (((F0 6) (Int32.toNatClampNeg (n0 5))) + 1))) 7 (upd (F0 7) (Int32.toNatClampNeg iw) kd)) 8 (upd (F0 8) (Int32.toNatClampNeg iw) (-1))) 9 (upd (F0 9) (Int32.toNatClampNeg iw) ar)) 10 (upd (F0 10) (Int32.toNatClampNeg iw) up)) 13 (upd (F0 13) (Int32.toNatClampNeg iw) 0)) G_1 f_7 := (by have e9 := (show (va_up (va_up (va_up (va_up (va_up F_1 6 (upd (F0 6) (Int32.toNatClampNeg (n0 5)) (((F0 6) (Int32.toNatClampNeg (n0 5))) + 1))) 7 (upd (F0 7) (Int32.toNatClampNeg iw) kd)) 8 (upd (F0 8) (Int32.toNatClampNeg iw) (-1))) 9 (upd (F0 9) (Int32.toNatClampNeg iw) ar)) 10 (upd (F0 10) (Int32.toNatClampNeg iw) up)) 13 = (F0 13) from ((hx1.2.2.1 13 (by decide)).trans (hx.2.2.1 13 (by decide)))); rw [e9] at hS_7q; exact hS_7q)
              refine gz_aload_n dX12_begins_222 rfl rfl ?_
              refine mg_41 hS_7 dX12_begins_223 ?_
              refine gz_iload dX12_begins_226 rfl ?_
              refine gz_iconst (v := 0) dX12_begins_228 (by decide) ?_
              refine m_iast 14 hS_7 rfl (N := 880) rfl ((by exact vin_T (rfl : iw.toInt = iw.toInt) (by omega) (by omega))) dX12_begins_229 (fun f_8 hS_8q => ?_)
              have hS_8 : mS cy m a f0 n_1 z_1 (va_up (va_up (va_up (va_up (va_up (va_up (va_up F_1 6 (upd (F0 6) (Int32.toNatClampNeg (n0 5)) (((F0 6) (Int32.toNatClampNeg (n0 5))) + 1))) 7 (upd (F0 7) (Int32.toNatClampNeg iw) kd)) 8 (upd (F0 8) (Int32.toNatClampNeg iw) (-1))) 9 (upd (F0 9) (Int32.toNatClampNeg iw) ar)) 10 (upd (F0 10) (Int32.toNatClampNeg iw) up)) 13 (upd (F0 13) (Int32.toNatClampNeg iw) 0)) 14 (upd (F0 14) (Int32.toNatClampNeg iw) 0)) G_1 f_8 := (by have e9 := (show (va_up (va_up (va_up (va_up (va_up (va_up F_1 6 (upd (F0 6) (Int32.toNatClampNeg (n0 5)) (((F0 6) (Int32.toNatClampNeg (n0 5))) + 1))) 7 (upd (F0 7) (Int32.toNatClampNeg iw) kd)) 8 (upd (F0 8) (Int32.toNatClampNeg iw) (-1))) 9 (upd (F0 9) (Int32.toNatClampNeg iw) ar)) 10 (upd (F0 10) (Int32.toNatClampNeg iw) up)) 13 (upd (F0 13) (Int32.toNatClampNeg iw) 0)) 14 = (F0 14) from ((hx1.2.2.1 14 (by decide)).trans (hx.2.2.1 14 (by decide)))); rw [e9] at hS_8q; exact hS_8q)
              refine gz_aload_n dX12_begins_230 rfl rfl ?_
              refine mg_44 hS_8 dX12_begins_231 ?_
              refine gz_iload dX12_begins_234 rfl ?_
              refine gz_iconst (v := 0) dX12_begins_236 (by decide) ?_
              refine m_iast 15 hS_8 rfl (N := 880) rfl ((by exact vin_T (rfl : iw.toInt = iw.toInt) (by omega) (by omega))) dX12_begins_237 (fun f_9 hS_9q => ?_)
              have hS_9 : mS cy m a f0 n_1 z_1 (va_up (va_up (va_up (va_up (va_up (va_up (va_up (va_up F_1 6 (upd (F0 6) (Int32.toNatClampNeg (n0 5)) (((F0 6) (Int32.toNatClampNeg (n0 5))) + 1))) 7 (upd (F0 7) (Int32.toNatClampNeg iw) kd)) 8 (upd (F0 8) (Int32.toNatClampNeg iw) (-1))) 9 (upd (F0 9) (Int32.toNatClampNeg iw) ar)) 10 (upd (F0 10) (Int32.toNatClampNeg iw) up)) 13 (upd (F0 13) (Int32.toNatClampNeg iw) 0)) 14 (upd (F0 14) (Int32.toNatClampNeg iw) 0)) 15 (upd (F0 15) (Int32.toNatClampNeg iw) 0)) G_1 f_9 := (by have e9 := (show (va_up (va_up (va_up (va_up (va_up (va_up (va_up F_1 6 (upd (F0 6) (Int32.toNatClampNeg (n0 5)) (((F0 6) (Int32.toNatClampNeg (n0 5))) + 1))) 7 (upd (F0 7) (Int32.toNatClampNeg iw) kd)) 8 (upd (F0 8) (Int32.toNatClampNeg iw) (-1))) 9 (upd (F0 9) (Int32.toNatClampNeg iw) ar)) 10 (upd (F0 10) (Int32.toNatClampNeg iw) up)) 13 (upd (F0 13) (Int32.toNatClampNeg iw) 0)) 14 (upd (F0 14) (Int32.toNatClampNeg iw) 0)) 15 = (F0 15) from ((hx1.2.2.1 15 (by decide)).trans (hx.2.2.1 15 (by decide)))); rw [e9] at hS_9q; exact hS_9q)
              refine gz_aload_n dX12_begins_238 rfl rfl ?_
              refine mg_319 hS_9 dX12_begins_239 ?_
              refine gz_ev (w := .int (n0 24)) (congrArg Value.int ((hx1.1 24 (by decide)).trans (hx.1 24 (by decide)))) ?_
              refine gz_if_le (tgt := 272) dX12_begins_242 (by decide) (fun c_242 => ?_) (fun c_242 => ?_)
              ·
                try simp only [mIn_0, lgc_lt, lgc_gt, lgc_le, lgc_ge, lgc_eq] at c_242
                try simp only [fl_lt, fl_le, fl_eq, fL_w, fL_lt, fL_le, tm1, tm10k, tm9, tm99, Int32.reduceToInt, Int64.reduceToInt, Int.not_lt, Int.not_le] at c_242
                exfalso; omega
              ·
                try simp only [mIn_0, lgc_lt, lgc_gt, lgc_le, lgc_ge, lgc_eq] at c_242
                try simp only [fl_lt, fl_le, fl_eq, fL_w, fL_lt, fL_le, tm1, tm10k, tm9, tm99, Int32.reduceToInt, Int64.reduceToInt, Int.not_lt, Int.not_le] at c_242
                refine gz_aload_n dX12_begins_245 rfl rfl ?_
                refine mg_65 hS_9 dX12_begins_246 ?_
                refine gz_aload_n dX12_begins_249 rfl rfl ?_
                refine mg_319 hS_9 dX12_begins_250 ?_
                refine gz_ev (w := .int (n0 24)) (congrArg Value.int ((hx1.1 24 (by decide)).trans (hx.1 24 (by decide)))) ?_
                refine gz_iconst (v := 1) dX12_begins_253 (by decide) ?_
                refine gz_isub dX12_begins_254 ?_
                refine m_iald 26 hS_9 rfl (N := 40) rfl ((by have q9 := (T_sub (rfl : ((n0 24)).toInt = ((n0 24)).toInt) (show (1 : Int32).toInt = 1 from rfl) (by omega)); exact vin_T q9 (by omega) (by omega))) dX12_begins_255 ?_
                refine gz_ev (w := .int ((F0 26) (Int32.toNatClampNeg ((n0 24) - 1)))) (congrArg Value.int (congrFun ((hx1.2.2.1 26 (by decide)).trans (hx.2.2.1 26 (by decide))) _)) ?_
                refine gz_iconst (v := 2) dX12_begins_256 (by decide) ?_
                refine gz_icmp_ne (tgt := 272) dX12_begins_257 (by decide) (fun c_257 => ?_) (fun c_257 => ?_)
                ·
                  try simp only [mIn_0, lgc_lt, lgc_gt, lgc_le, lgc_ge, lgc_eq] at c_257
                  try simp only [fl_lt, fl_le, fl_eq, fL_w, fL_lt, fL_le, tm1, tm10k, tm9, tm99, Int32.reduceToInt, Int64.reduceToInt, Int.not_lt, Int.not_le] at c_257
                  refine gz_aload_n dX12_begins_272 rfl rfl ?_
                  refine mg_319 hS_9 dX12_begins_273 ?_
                  refine gz_ev (w := .int (n0 24)) (congrArg Value.int ((hx1.1 24 (by decide)).trans (hx.1 24 (by decide)))) ?_
                  refine gz_if_le (tgt := 288) dX12_begins_276 (by decide) (fun c_276 => ?_) (fun c_276 => ?_)
                  ·
                    try simp only [mIn_0, lgc_lt, lgc_gt, lgc_le, lgc_ge, lgc_eq] at c_276
                    try simp only [fl_lt, fl_le, fl_eq, fL_w, fL_lt, fL_le, tm1, tm10k, tm9, tm99, Int32.reduceToInt, Int64.reduceToInt, Int.not_lt, Int.not_le] at c_276
                    exfalso; omega
                  ·
                    try simp only [mIn_0, lgc_lt, lgc_gt, lgc_le, lgc_ge, lgc_eq] at c_276
                    try simp only [fl_lt, fl_le, fl_eq, fL_w, fL_lt, fL_le, tm1, tm10k, tm9, tm99, Int32.reduceToInt, Int64.reduceToInt, Int.not_lt, Int.not_le] at c_276
                    refine gz_aload_n dX12_begins_279 rfl rfl ?_
                    refine mg_32 hS_9 dX12_begins_280 ?_
                    refine gz_iload dX12_begins_283 rfl ?_
                    refine gz_iload dX12_begins_285 rfl ?_
                    refine m_iast 11 hS_9 rfl (N := 880) rfl ((by exact vin_T (rfl : up.toInt = up.toInt) (by omega) (by omega))) dX12_begins_287 (fun f_10 hS_10q => ?_)
                    have hS_10 : mS cy m a f0 n_1 z_1 (va_up (va_up (va_up (va_up (va_up (va_up (va_up (va_up (va_up F_1 6 (upd (F0 6) (Int32.toNatClampNeg (n0 5)) (((F0 6) (Int32.toNatClampNeg (n0 5))) + 1))) 7 (upd (F0 7) (Int32.toNatClampNeg iw) kd)) 8 (upd (F0 8) (Int32.toNatClampNeg iw) (-1))) 9 (upd (F0 9) (Int32.toNatClampNeg iw) ar)) 10 (upd (F0 10) (Int32.toNatClampNeg iw) up)) 13 (upd (F0 13) (Int32.toNatClampNeg iw) 0)) 14 (upd (F0 14) (Int32.toNatClampNeg iw) 0)) 15 (upd (F0 15) (Int32.toNatClampNeg iw) 0)) 11 (upd (F0 11) (Int32.toNatClampNeg up) iw)) G_1 f_10 := (by have e9 := (show (va_up (va_up (va_up (va_up (va_up (va_up (va_up (va_up F_1 6 (upd (F0 6) (Int32.toNatClampNeg (n0 5)) (((F0 6) (Int32.toNatClampNeg (n0 5))) + 1))) 7 (upd (F0 7) (Int32.toNatClampNeg iw) kd)) 8 (upd (F0 8) (Int32.toNatClampNeg iw) (-1))) 9 (upd (F0 9) (Int32.toNatClampNeg iw) ar)) 10 (upd (F0 10) (Int32.toNatClampNeg iw) up)) 13 (upd (F0 13) (Int32.toNatClampNeg iw) 0)) 14 (upd (F0 14) (Int32.toNatClampNeg iw) 0)) 15 (upd (F0 15) (Int32.toNatClampNeg iw) 0)) 11 = (F0 11) from ((hx1.2.2.1 11 (by decide)).trans (hx.2.2.1 11 (by decide)))); rw [e9] at hS_10q; exact hS_10q)
                    have s6_ : (va_up (va_up (va_up (va_up (va_up (va_up (va_up (va_up (va_up F_1 6 (upd (F0 6) (Int32.toNatClampNeg (n0 5)) (((F0 6) (Int32.toNatClampNeg (n0 5))) + 1))) 7 (upd (F0 7) (Int32.toNatClampNeg iw) kd)) 8 (upd (F0 8) (Int32.toNatClampNeg iw) (-1))) 9 (upd (F0 9) (Int32.toNatClampNeg iw) ar)) 10 (upd (F0 10) (Int32.toNatClampNeg iw) up)) 13 (upd (F0 13) (Int32.toNatClampNeg iw) 0)) 14 (upd (F0 14) (Int32.toNatClampNeg iw) 0)) 15 (upd (F0 15) (Int32.toNatClampNeg iw) 0)) 11 (upd (F0 11) (Int32.toNatClampNeg up) iw)) 6 = (upd (F0 6) (Int32.toNatClampNeg (n0 5)) (((F0 6) (Int32.toNatClampNeg (n0 5))) + 1)) := rfl
                    have s7_ : (va_up (va_up (va_up (va_up (va_up (va_up (va_up (va_up (va_up F_1 6 (upd (F0 6) (Int32.toNatClampNeg (n0 5)) (((F0 6) (Int32.toNatClampNeg (n0 5))) + 1))) 7 (upd (F0 7) (Int32.toNatClampNeg iw) kd)) 8 (upd (F0 8) (Int32.toNatClampNeg iw) (-1))) 9 (upd (F0 9) (Int32.toNatClampNeg iw) ar)) 10 (upd (F0 10) (Int32.toNatClampNeg iw) up)) 13 (upd (F0 13) (Int32.toNatClampNeg iw) 0)) 14 (upd (F0 14) (Int32.toNatClampNeg iw) 0)) 15 (upd (F0 15) (Int32.toNatClampNeg iw) 0)) 11 (upd (F0 11) (Int32.toNatClampNeg up) iw)) 7 = (upd (F0 7) (Int32.toNatClampNeg iw) kd) := rfl
                    have s9_ : (va_up (va_up (va_up (va_up (va_up (va_up (va_up (va_up (va_up F_1 6 (upd (F0 6) (Int32.toNatClampNeg (n0 5)) (((F0 6) (Int32.toNatClampNeg (n0 5))) + 1))) 7 (upd (F0 7) (Int32.toNatClampNeg iw) kd)) 8 (upd (F0 8) (Int32.toNatClampNeg iw) (-1))) 9 (upd (F0 9) (Int32.toNatClampNeg iw) ar)) 10 (upd (F0 10) (Int32.toNatClampNeg iw) up)) 13 (upd (F0 13) (Int32.toNatClampNeg iw) 0)) 14 (upd (F0 14) (Int32.toNatClampNeg iw) 0)) 15 (upd (F0 15) (Int32.toNatClampNeg iw) 0)) 11 (upd (F0 11) (Int32.toNatClampNeg up) iw)) 9 = (upd (F0 9) (Int32.toNatClampNeg iw) ar) := rfl
                    have s10_ : (va_up (va_up (va_up (va_up (va_up (va_up (va_up (va_up (va_up F_1 6 (upd (F0 6) (Int32.toNatClampNeg (n0 5)) (((F0 6) (Int32.toNatClampNeg (n0 5))) + 1))) 7 (upd (F0 7) (Int32.toNatClampNeg iw) kd)) 8 (upd (F0 8) (Int32.toNatClampNeg iw) (-1))) 9 (upd (F0 9) (Int32.toNatClampNeg iw) ar)) 10 (upd (F0 10) (Int32.toNatClampNeg iw) up)) 13 (upd (F0 13) (Int32.toNatClampNeg iw) 0)) 14 (upd (F0 14) (Int32.toNatClampNeg iw) 0)) 15 (upd (F0 15) (Int32.toNatClampNeg iw) 0)) 11 (upd (F0 11) (Int32.toNatClampNeg up) iw)) 10 = (upd (F0 10) (Int32.toNatClampNeg iw) up) := rfl
                    have s11_ : (va_up (va_up (va_up (va_up (va_up (va_up (va_up (va_up (va_up F_1 6 (upd (F0 6) (Int32.toNatClampNeg (n0 5)) (((F0 6) (Int32.toNatClampNeg (n0 5))) + 1))) 7 (upd (F0 7) (Int32.toNatClampNeg iw) kd)) 8 (upd (F0 8) (Int32.toNatClampNeg iw) (-1))) 9 (upd (F0 9) (Int32.toNatClampNeg iw) ar)) 10 (upd (F0 10) (Int32.toNatClampNeg iw) up)) 13 (upd (F0 13) (Int32.toNatClampNeg iw) 0)) 14 (upd (F0 14) (Int32.toNatClampNeg iw) 0)) 15 (upd (F0 15) (Int32.toNatClampNeg iw) 0)) 11 (upd (F0 11) (Int32.toNatClampNeg up) iw)) 11 = (upd (F0 11) (Int32.toNatClampNeg up) iw) := rfl
                    have s12_ : (va_up (va_up (va_up (va_up (va_up (va_up (va_up (va_up (va_up F_1 6 (upd (F0 6) (Int32.toNatClampNeg (n0 5)) (((F0 6) (Int32.toNatClampNeg (n0 5))) + 1))) 7 (upd (F0 7) (Int32.toNatClampNeg iw) kd)) 8 (upd (F0 8) (Int32.toNatClampNeg iw) (-1))) 9 (upd (F0 9) (Int32.toNatClampNeg iw) ar)) 10 (upd (F0 10) (Int32.toNatClampNeg iw) up)) 13 (upd (F0 13) (Int32.toNatClampNeg iw) 0)) 14 (upd (F0 14) (Int32.toNatClampNeg iw) 0)) 15 (upd (F0 15) (Int32.toNatClampNeg iw) 0)) 11 (upd (F0 11) (Int32.toNatClampNeg up) iw)) 12 = (F0 12) := ((hx1.2.2.1 12 (by decide)).trans (hx.2.2.1 12 (by decide)))
                    have s13_ : (va_up (va_up (va_up (va_up (va_up (va_up (va_up (va_up (va_up F_1 6 (upd (F0 6) (Int32.toNatClampNeg (n0 5)) (((F0 6) (Int32.toNatClampNeg (n0 5))) + 1))) 7 (upd (F0 7) (Int32.toNatClampNeg iw) kd)) 8 (upd (F0 8) (Int32.toNatClampNeg iw) (-1))) 9 (upd (F0 9) (Int32.toNatClampNeg iw) ar)) 10 (upd (F0 10) (Int32.toNatClampNeg iw) up)) 13 (upd (F0 13) (Int32.toNatClampNeg iw) 0)) 14 (upd (F0 14) (Int32.toNatClampNeg iw) 0)) 15 (upd (F0 15) (Int32.toNatClampNeg iw) 0)) 11 (upd (F0 11) (Int32.toNatClampNeg up) iw)) 13 = (upd (F0 13) (Int32.toNatClampNeg iw) 0) := rfl
                    have s14_ : (va_up (va_up (va_up (va_up (va_up (va_up (va_up (va_up (va_up F_1 6 (upd (F0 6) (Int32.toNatClampNeg (n0 5)) (((F0 6) (Int32.toNatClampNeg (n0 5))) + 1))) 7 (upd (F0 7) (Int32.toNatClampNeg iw) kd)) 8 (upd (F0 8) (Int32.toNatClampNeg iw) (-1))) 9 (upd (F0 9) (Int32.toNatClampNeg iw) ar)) 10 (upd (F0 10) (Int32.toNatClampNeg iw) up)) 13 (upd (F0 13) (Int32.toNatClampNeg iw) 0)) 14 (upd (F0 14) (Int32.toNatClampNeg iw) 0)) 15 (upd (F0 15) (Int32.toNatClampNeg iw) 0)) 11 (upd (F0 11) (Int32.toNatClampNeg up) iw)) 14 = (upd (F0 14) (Int32.toNatClampNeg iw) 0) := rfl
                    have s15_ : (va_up (va_up (va_up (va_up (va_up (va_up (va_up (va_up (va_up F_1 6 (upd (F0 6) (Int32.toNatClampNeg (n0 5)) (((F0 6) (Int32.toNatClampNeg (n0 5))) + 1))) 7 (upd (F0 7) (Int32.toNatClampNeg iw) kd)) 8 (upd (F0 8) (Int32.toNatClampNeg iw) (-1))) 9 (upd (F0 9) (Int32.toNatClampNeg iw) ar)) 10 (upd (F0 10) (Int32.toNatClampNeg iw) up)) 13 (upd (F0 13) (Int32.toNatClampNeg iw) 0)) 14 (upd (F0 14) (Int32.toNatClampNeg iw) 0)) 15 (upd (F0 15) (Int32.toNatClampNeg iw) 0)) 11 (upd (F0 11) (Int32.toNatClampNeg up) iw)) 15 = (upd (F0 15) (Int32.toNatClampNeg iw) 0) := rfl
                    have s17_ : (va_up (va_up (va_up (va_up (va_up (va_up (va_up (va_up (va_up F_1 6 (upd (F0 6) (Int32.toNatClampNeg (n0 5)) (((F0 6) (Int32.toNatClampNeg (n0 5))) + 1))) 7 (upd (F0 7) (Int32.toNatClampNeg iw) kd)) 8 (upd (F0 8) (Int32.toNatClampNeg iw) (-1))) 9 (upd (F0 9) (Int32.toNatClampNeg iw) ar)) 10 (upd (F0 10) (Int32.toNatClampNeg iw) up)) 13 (upd (F0 13) (Int32.toNatClampNeg iw) 0)) 14 (upd (F0 14) (Int32.toNatClampNeg iw) 0)) 15 (upd (F0 15) (Int32.toNatClampNeg iw) 0)) 11 (upd (F0 11) (Int32.toNatClampNeg up) iw)) 17 = (F0 17) := ((hx1.2.2.1 17 (by decide)).trans (hx.2.2.1 17 (by decide)))
                    have s19_ : (va_up (va_up (va_up (va_up (va_up (va_up (va_up (va_up (va_up F_1 6 (upd (F0 6) (Int32.toNatClampNeg (n0 5)) (((F0 6) (Int32.toNatClampNeg (n0 5))) + 1))) 7 (upd (F0 7) (Int32.toNatClampNeg iw) kd)) 8 (upd (F0 8) (Int32.toNatClampNeg iw) (-1))) 9 (upd (F0 9) (Int32.toNatClampNeg iw) ar)) 10 (upd (F0 10) (Int32.toNatClampNeg iw) up)) 13 (upd (F0 13) (Int32.toNatClampNeg iw) 0)) 14 (upd (F0 14) (Int32.toNatClampNeg iw) 0)) 15 (upd (F0 15) (Int32.toNatClampNeg iw) 0)) 11 (upd (F0 11) (Int32.toNatClampNeg up) iw)) 19 = (F0 19) := ((hx1.2.2.1 19 (by decide)).trans (hx.2.2.1 19 (by decide)))
                    have htw : asB F0 i0 = false := by unfold asB; rw [← ei0]; simp only [decide_eq_false_iff_not]; omega
                    have h6 : ((va_up (va_up (va_up (va_up (va_up (va_up (va_up (va_up (va_up F_1 6 (upd (F0 6) (Int32.toNatClampNeg (n0 5)) (((F0 6) (Int32.toNatClampNeg (n0 5))) + 1))) 7 (upd (F0 7) (Int32.toNatClampNeg iw) kd)) 8 (upd (F0 8) (Int32.toNatClampNeg iw) (-1))) 9 (upd (F0 9) (Int32.toNatClampNeg iw) ar)) 10 (upd (F0 10) (Int32.toNatClampNeg iw) up)) 13 (upd (F0 13) (Int32.toNatClampNeg iw) 0)) 14 (upd (F0 14) (Int32.toNatClampNeg iw) 0)) 15 (upd (F0 15) (Int32.toNatClampNeg iw) 0)) 11 (upd (F0 11) (Int32.toNatClampNeg up) iw)) 6 f).toInt = (W : Int) + 1 := by rw [s6_, ecf, updE, if_pos rfl]; have q := T_add g6.1 (show (1 : Int32).toInt = 1 from rfl) (by omega); exact q
                    have off : ∀ r, r ∈ [7, 9, 10, 13, 14, 15] → ∀ i, i ≠ (40 * f + W) → (va_up (va_up (va_up (va_up (va_up (va_up (va_up (va_up (va_up F_1 6 (upd (F0 6) (Int32.toNatClampNeg (n0 5)) (((F0 6) (Int32.toNatClampNeg (n0 5))) + 1))) 7 (upd (F0 7) (Int32.toNatClampNeg iw) kd)) 8 (upd (F0 8) (Int32.toNatClampNeg iw) (-1))) 9 (upd (F0 9) (Int32.toNatClampNeg iw) ar)) 10 (upd (F0 10) (Int32.toNatClampNeg iw) up)) 13 (upd (F0 13) (Int32.toNatClampNeg iw) 0)) 14 (upd (F0 14) (Int32.toNatClampNeg iw) 0)) 15 (upd (F0 15) (Int32.toNatClampNeg iw) 0)) 11 (upd (F0 11) (Int32.toNatClampNeg up) iw)) r i = F0 r i := by
                      intro r hr i hi
                      rw [← eci] at hi
                      simp only [List.mem_cons, List.not_mem_nil, or_false] at hr
                      rcases hr with rfl | rfl | rfl | rfl | rfl | rfl
                      · rw [s7_, updE, if_neg hi]
                      · rw [s9_, updE, if_neg hi]
                      · rw [s10_, updE, if_neg hi]
                      · rw [s13_, updE, if_neg hi]
                      · rw [s14_, updE, if_neg hi]
                      · rw [s15_, updE, if_neg hi]
                    have hg : ∀ g, g < f → agF F0 (va_up (va_up (va_up (va_up (va_up (va_up (va_up (va_up (va_up F_1 6 (upd (F0 6) (Int32.toNatClampNeg (n0 5)) (((F0 6) (Int32.toNatClampNeg (n0 5))) + 1))) 7 (upd (F0 7) (Int32.toNatClampNeg iw) kd)) 8 (upd (F0 8) (Int32.toNatClampNeg iw) (-1))) 9 (upd (F0 9) (Int32.toNatClampNeg iw) ar)) 10 (upd (F0 10) (Int32.toNatClampNeg iw) up)) 13 (upd (F0 13) (Int32.toNatClampNeg iw) 0)) 14 (upd (F0 14) (Int32.toNatClampNeg iw) 0)) 15 (upd (F0 15) (Int32.toNatClampNeg iw) 0)) 11 (upd (F0 11) (Int32.toNatClampNeg up) iw)) g := by
                      intro g hgf
                      refine ⟨by rw [s6_, ecf, updE, if_neg (by omega)], fun r hr k hk => ?_⟩
                      simp only [List.mem_cons, List.not_mem_nil, or_false] at hr
                      rcases hr with rfl | rfl | rfl | rfl | rfl | rfl | rfl | rfl
                      · exact off 7 (by decide) _ (by omega)
                      · exact off 9 (by decide) _ (by omega)
                      · exact off 10 (by decide) _ (by omega)
                      · rw [s11_, eup, updE, if_neg (by omega)]
                      · rw [s12_]
                      · exact off 13 (by decide) _ (by omega)
                      · exact off 14 (by decide) _ (by omega)
                      · exact off 15 (by decide) _ (by omega)
                    have ho : ∀ i p : Nat, (i0 + 1) = i + 1 → p < W → (F0 25 i).toInt = 40 * f + p → (∀ k, k < W → if k = p ∧ asB F0 i = false then ((va_up (va_up (va_up (va_up (va_up (va_up (va_up (va_up (va_up F_1 6 (upd (F0 6) (Int32.toNatClampNeg (n0 5)) (((F0 6) (Int32.toNatClampNeg (n0 5))) + 1))) 7 (upd (F0 7) (Int32.toNatClampNeg iw) kd)) 8 (upd (F0 8) (Int32.toNatClampNeg iw) (-1))) 9 (upd (F0 9) (Int32.toNatClampNeg iw) ar)) 10 (upd (F0 10) (Int32.toNatClampNeg iw) up)) 13 (upd (F0 13) (Int32.toNatClampNeg iw) 0)) 14 (upd (F0 14) (Int32.toNatClampNeg iw) 0)) 15 (upd (F0 15) (Int32.toNatClampNeg iw) 0)) 11 (upd (F0 11) (Int32.toNatClampNeg up) iw)) 11 (40 * f + k)).toInt = 40 * f + W else (va_up (va_up (va_up (va_up (va_up (va_up (va_up (va_up (va_up F_1 6 (upd (F0 6) (Int32.toNatClampNeg (n0 5)) (((F0 6) (Int32.toNatClampNeg (n0 5))) + 1))) 7 (upd (F0 7) (Int32.toNatClampNeg iw) kd)) 8 (upd (F0 8) (Int32.toNatClampNeg iw) (-1))) 9 (upd (F0 9) (Int32.toNatClampNeg iw) ar)) 10 (upd (F0 10) (Int32.toNatClampNeg iw) up)) 13 (upd (F0 13) (Int32.toNatClampNeg iw) 0)) 14 (upd (F0 14) (Int32.toNatClampNeg iw) 0)) 15 (upd (F0 15) (Int32.toNatClampNeg iw) 0)) 11 (upd (F0 11) (Int32.toNatClampNeg up) iw)) 11 (40 * f + k) = F0 11 (40 * f + k)) ∧ (∀ k, k < W → if k = p ∧ asB F0 i = true then ((va_up (va_up (va_up (va_up (va_up (va_up (va_up (va_up (va_up F_1 6 (upd (F0 6) (Int32.toNatClampNeg (n0 5)) (((F0 6) (Int32.toNatClampNeg (n0 5))) + 1))) 7 (upd (F0 7) (Int32.toNatClampNeg iw) kd)) 8 (upd (F0 8) (Int32.toNatClampNeg iw) (-1))) 9 (upd (F0 9) (Int32.toNatClampNeg iw) ar)) 10 (upd (F0 10) (Int32.toNatClampNeg iw) up)) 13 (upd (F0 13) (Int32.toNatClampNeg iw) 0)) 14 (upd (F0 14) (Int32.toNatClampNeg iw) 0)) 15 (upd (F0 15) (Int32.toNatClampNeg iw) 0)) 11 (upd (F0 11) (Int32.toNatClampNeg up) iw)) 12 (40 * f + k)).toInt = 40 * f + W else (va_up (va_up (va_up (va_up (va_up (va_up (va_up (va_up (va_up F_1 6 (upd (F0 6) (Int32.toNatClampNeg (n0 5)) (((F0 6) (Int32.toNatClampNeg (n0 5))) + 1))) 7 (upd (F0 7) (Int32.toNatClampNeg iw) kd)) 8 (upd (F0 8) (Int32.toNatClampNeg iw) (-1))) 9 (upd (F0 9) (Int32.toNatClampNeg iw) ar)) 10 (upd (F0 10) (Int32.toNatClampNeg iw) up)) 13 (upd (F0 13) (Int32.toNatClampNeg iw) 0)) 14 (upd (F0 14) (Int32.toNatClampNeg iw) 0)) 15 (upd (F0 15) (Int32.toNatClampNeg iw) 0)) 11 (upd (F0 11) (Int32.toNatClampNeg up) iw)) 12 (40 * f + k) = F0 12 (40 * f + k)) ∧ ((va_up (va_up (va_up (va_up (va_up (va_up (va_up (va_up (va_up F_1 6 (upd (F0 6) (Int32.toNatClampNeg (n0 5)) (((F0 6) (Int32.toNatClampNeg (n0 5))) + 1))) 7 (upd (F0 7) (Int32.toNatClampNeg iw) kd)) 8 (upd (F0 8) (Int32.toNatClampNeg iw) (-1))) 9 (upd (F0 9) (Int32.toNatClampNeg iw) ar)) 10 (upd (F0 10) (Int32.toNatClampNeg iw) up)) 13 (upd (F0 13) (Int32.toNatClampNeg iw) 0)) 14 (upd (F0 14) (Int32.toNatClampNeg iw) 0)) 15 (upd (F0 15) (Int32.toNatClampNeg iw) 0)) 11 (upd (F0 11) (Int32.toNatClampNeg up) iw)) 10 (40 * f + W)).toInt = 40 * f + p := by
                      intro i_ p_ ei_ hp_ ep_
                      have e_ : i_ = i0 := by omega
                      subst e_
                      have e2_ : p_ = p := by omega
                      subst e2_
                      refine ⟨fun k hk => ?_, fun k hk => ?_, ?_⟩
                      · rw [s11_, eup, updE]
                        by_cases e : k = p_
                        · rw [if_pos ⟨e, htw⟩, if_pos (by omega)]; exact qiw
                        · rw [if_neg (fun y => e y.1), if_neg (by omega)]
                      · rw [if_neg (fun y => by rw [htw] at y; exact absurd y.2 (by decide)), s12_]
                      · rw [s10_, ← eci, updE, if_pos rfl]; exact qup
                    have hb : RDb F0 (va_up (va_up (va_up (va_up (va_up (va_up (va_up (va_up (va_up F_1 6 (upd (F0 6) (Int32.toNatClampNeg (n0 5)) (((F0 6) (Int32.toNatClampNeg (n0 5))) + 1))) 7 (upd (F0 7) (Int32.toNatClampNeg iw) kd)) 8 (upd (F0 8) (Int32.toNatClampNeg iw) (-1))) 9 (upd (F0 9) (Int32.toNatClampNeg iw) ar)) 10 (upd (F0 10) (Int32.toNatClampNeg iw) up)) 13 (upd (F0 13) (Int32.toNatClampNeg iw) 0)) 14 (upd (F0 14) (Int32.toNatClampNeg iw) 0)) 15 (upd (F0 15) (Int32.toNatClampNeg iw) 0)) 11 (upd (F0 11) (Int32.toNatClampNeg up) iw)) f W (i0 + 1) := ⟨h6, hg, fun r hr k hk => off r hr _ (by omega), ho, fun h => absurd h (by omega), by unfold arF; rw [s9_, ← eci, updE, if_pos rfl]; exact qar, by omega⟩
                    have hA8 : rAll (va_up (va_up (va_up (va_up (va_up (va_up (va_up (va_up (va_up F_1 6 (upd (F0 6) (Int32.toNatClampNeg (n0 5)) (((F0 6) (Int32.toNatClampNeg (n0 5))) + 1))) 7 (upd (F0 7) (Int32.toNatClampNeg iw) kd)) 8 (upd (F0 8) (Int32.toNatClampNeg iw) (-1))) 9 (upd (F0 9) (Int32.toNatClampNeg iw) ar)) 10 (upd (F0 10) (Int32.toNatClampNeg iw) up)) 13 (upd (F0 13) (Int32.toNatClampNeg iw) 0)) 14 (upd (F0 14) (Int32.toNatClampNeg iw) 0)) 15 (upd (F0 15) (Int32.toNatClampNeg iw) 0)) 11 (upd (F0 11) (Int32.toNatClampNeg up) iw)) := by
                      intro q hq
                      obtain ⟨qa0, qb0, qc0, qd0⟩ := gA q hq
                      rw [show (va_up (va_up (va_up (va_up (va_up (va_up (va_up (va_up (va_up F_1 6 (upd (F0 6) (Int32.toNatClampNeg (n0 5)) (((F0 6) (Int32.toNatClampNeg (n0 5))) + 1))) 7 (upd (F0 7) (Int32.toNatClampNeg iw) kd)) 8 (upd (F0 8) (Int32.toNatClampNeg iw) (-1))) 9 (upd (F0 9) (Int32.toNatClampNeg iw) ar)) 10 (upd (F0 10) (Int32.toNatClampNeg iw) up)) 13 (upd (F0 13) (Int32.toNatClampNeg iw) 0)) 14 (upd (F0 14) (Int32.toNatClampNeg iw) 0)) 15 (upd (F0 15) (Int32.toNatClampNeg iw) 0)) 11 (upd (F0 11) (Int32.toNatClampNeg up) iw)) 13 = (upd (F0 13) (Int32.toNatClampNeg iw) 0) from rfl, show (va_up (va_up (va_up (va_up (va_up (va_up (va_up (va_up (va_up F_1 6 (upd (F0 6) (Int32.toNatClampNeg (n0 5)) (((F0 6) (Int32.toNatClampNeg (n0 5))) + 1))) 7 (upd (F0 7) (Int32.toNatClampNeg iw) kd)) 8 (upd (F0 8) (Int32.toNatClampNeg iw) (-1))) 9 (upd (F0 9) (Int32.toNatClampNeg iw) ar)) 10 (upd (F0 10) (Int32.toNatClampNeg iw) up)) 13 (upd (F0 13) (Int32.toNatClampNeg iw) 0)) 14 (upd (F0 14) (Int32.toNatClampNeg iw) 0)) 15 (upd (F0 15) (Int32.toNatClampNeg iw) 0)) 11 (upd (F0 11) (Int32.toNatClampNeg up) iw)) 14 = (upd (F0 14) (Int32.toNatClampNeg iw) 0) from rfl, show (va_up (va_up (va_up (va_up (va_up (va_up (va_up (va_up (va_up F_1 6 (upd (F0 6) (Int32.toNatClampNeg (n0 5)) (((F0 6) (Int32.toNatClampNeg (n0 5))) + 1))) 7 (upd (F0 7) (Int32.toNatClampNeg iw) kd)) 8 (upd (F0 8) (Int32.toNatClampNeg iw) (-1))) 9 (upd (F0 9) (Int32.toNatClampNeg iw) ar)) 10 (upd (F0 10) (Int32.toNatClampNeg iw) up)) 13 (upd (F0 13) (Int32.toNatClampNeg iw) 0)) 14 (upd (F0 14) (Int32.toNatClampNeg iw) 0)) 15 (upd (F0 15) (Int32.toNatClampNeg iw) 0)) 11 (upd (F0 11) (Int32.toNatClampNeg up) iw)) 15 = (upd (F0 15) (Int32.toNatClampNeg iw) 0) from rfl, show (va_up (va_up (va_up (va_up (va_up (va_up (va_up (va_up (va_up F_1 6 (upd (F0 6) (Int32.toNatClampNeg (n0 5)) (((F0 6) (Int32.toNatClampNeg (n0 5))) + 1))) 7 (upd (F0 7) (Int32.toNatClampNeg iw) kd)) 8 (upd (F0 8) (Int32.toNatClampNeg iw) (-1))) 9 (upd (F0 9) (Int32.toNatClampNeg iw) ar)) 10 (upd (F0 10) (Int32.toNatClampNeg iw) up)) 13 (upd (F0 13) (Int32.toNatClampNeg iw) 0)) 14 (upd (F0 14) (Int32.toNatClampNeg iw) 0)) 15 (upd (F0 15) (Int32.toNatClampNeg iw) 0)) 11 (upd (F0 11) (Int32.toNatClampNeg up) iw)) 19 = (F0 19) from ((hx1.2.2.1 19 (by decide)).trans (hx.2.2.1 19 (by decide)))]
                      refine ⟨?_, ?_, ?_, ?_⟩ <;> (try simp only [updE]) <;> (repeat' split) <;> first | omega | decide
                    have x13 : ((va_up (va_up (va_up (va_up (va_up (va_up (va_up (va_up (va_up F_1 6 (upd (F0 6) (Int32.toNatClampNeg (n0 5)) (((F0 6) (Int32.toNatClampNeg (n0 5))) + 1))) 7 (upd (F0 7) (Int32.toNatClampNeg iw) kd)) 8 (upd (F0 8) (Int32.toNatClampNeg iw) (-1))) 9 (upd (F0 9) (Int32.toNatClampNeg iw) ar)) 10 (upd (F0 10) (Int32.toNatClampNeg iw) up)) 13 (upd (F0 13) (Int32.toNatClampNeg iw) 0)) 14 (upd (F0 14) (Int32.toNatClampNeg iw) 0)) 15 (upd (F0 15) (Int32.toNatClampNeg iw) 0)) 11 (upd (F0 11) (Int32.toNatClampNeg up) iw)) 13 (40 * f + W)).toInt = 0 := by rw [s13_, ← eci, updE, if_pos rfl]; rfl
                    have x14 : ((va_up (va_up (va_up (va_up (va_up (va_up (va_up (va_up (va_up F_1 6 (upd (F0 6) (Int32.toNatClampNeg (n0 5)) (((F0 6) (Int32.toNatClampNeg (n0 5))) + 1))) 7 (upd (F0 7) (Int32.toNatClampNeg iw) kd)) 8 (upd (F0 8) (Int32.toNatClampNeg iw) (-1))) 9 (upd (F0 9) (Int32.toNatClampNeg iw) ar)) 10 (upd (F0 10) (Int32.toNatClampNeg iw) up)) 13 (upd (F0 13) (Int32.toNatClampNeg iw) 0)) 14 (upd (F0 14) (Int32.toNatClampNeg iw) 0)) 15 (upd (F0 15) (Int32.toNatClampNeg iw) 0)) 11 (upd (F0 11) (Int32.toNatClampNeg up) iw)) 14 (40 * f + W)).toInt = 0 := by rw [s14_, ← eci, updE, if_pos rfl]; rfl
                    have x15 : ((va_up (va_up (va_up (va_up (va_up (va_up (va_up (va_up (va_up F_1 6 (upd (F0 6) (Int32.toNatClampNeg (n0 5)) (((F0 6) (Int32.toNatClampNeg (n0 5))) + 1))) 7 (upd (F0 7) (Int32.toNatClampNeg iw) kd)) 8 (upd (F0 8) (Int32.toNatClampNeg iw) (-1))) 9 (upd (F0 9) (Int32.toNatClampNeg iw) ar)) 10 (upd (F0 10) (Int32.toNatClampNeg iw) up)) 13 (upd (F0 13) (Int32.toNatClampNeg iw) 0)) 14 (upd (F0 14) (Int32.toNatClampNeg iw) 0)) 15 (upd (F0 15) (Int32.toNatClampNeg iw) 0)) 11 (upd (F0 11) (Int32.toNatClampNeg up) iw)) 15 (40 * f + W)).toInt = 0 := by rw [s15_, ← eci, updE, if_pos rfl]; rfl
                    have x7 : ((va_up (va_up (va_up (va_up (va_up (va_up (va_up (va_up (va_up F_1 6 (upd (F0 6) (Int32.toNatClampNeg (n0 5)) (((F0 6) (Int32.toNatClampNeg (n0 5))) + 1))) 7 (upd (F0 7) (Int32.toNatClampNeg iw) kd)) 8 (upd (F0 8) (Int32.toNatClampNeg iw) (-1))) 9 (upd (F0 9) (Int32.toNatClampNeg iw) ar)) 10 (upd (F0 10) (Int32.toNatClampNeg iw) up)) 13 (upd (F0 13) (Int32.toNatClampNeg iw) 0)) 14 (upd (F0 14) (Int32.toNatClampNeg iw) 0)) 15 (upd (F0 15) (Int32.toNatClampNeg iw) 0)) 11 (upd (F0 11) (Int32.toNatClampNeg up) iw)) 7 (40 * f + W)).toInt = kd.toInt := by rw [s7_, ← eci, updE, if_pos rfl]
                    have x17 : ((va_up (va_up (va_up (va_up (va_up (va_up (va_up (va_up (va_up F_1 6 (upd (F0 6) (Int32.toNatClampNeg (n0 5)) (((F0 6) (Int32.toNatClampNeg (n0 5))) + 1))) 7 (upd (F0 7) (Int32.toNatClampNeg iw) kd)) 8 (upd (F0 8) (Int32.toNatClampNeg iw) (-1))) 9 (upd (F0 9) (Int32.toNatClampNeg iw) ar)) 10 (upd (F0 10) (Int32.toNatClampNeg iw) up)) 13 (upd (F0 13) (Int32.toNatClampNeg iw) 0)) 14 (upd (F0 14) (Int32.toNatClampNeg iw) 0)) 15 (upd (F0 15) (Int32.toNatClampNeg iw) 0)) 11 (upd (F0 11) (Int32.toNatClampNeg up) iw)) 17 (Int32.toNatClampNeg (n0 5))).toInt = (F0 17 (Int32.toNatClampNeg (n0 5))).toInt := by rw [s17_]
                    have hE9 : ((kdR (tX (F0 3) (n0 4)) S0) ≤ 1 → bgR (tX (F0 3) (n0 4)) (n0 21).toInt.toNat W (F0 17 f).toInt.toNat (i0 + 1) = .inr ((kdR (tX (F0 3) (n0 4)) S0), S0 + ltR (tX (F0 3) (n0 4)) S0, (F0 17 f).toInt.toNat)) ∧ (¬ (kdR (tX (F0 3) (n0 4)) S0) ≤ 1 → bgR (tX (F0 3) (n0 4)) (n0 21).toInt.toNat W (F0 17 f).toInt.toNat (i0 + 1) = tlR (tX (F0 3) (n0 4)) (kdR (tX (F0 3) (n0 4)) S0) (hdR (tX (F0 3) (n0 4)) (kdR (tX (F0 3) (n0 4)) S0) (S0 + ltR (tX (F0 3) (n0 4)) S0) (F0 17 f).toInt.toNat)) := by
                      rw [bgR_st, ← hS0, if_neg h11, if_neg (by omega), if_neg (by omega)]
                      exact ⟨fun z => by rw [if_pos z], fun z => by rw [if_neg z]⟩
                    refine gz_sub (lv' := [(0, .ref m), (4, .int kd), (7, .int iw)]) (by simp [List.lookup]) ?_
                    exact l_X12_beginsEB (O := (i0 + 1)) (K := (kdR (tX (F0 3) (n0 4)) S0)) (Q := S0 + ltR (tX (F0 3) (n0 4)) S0) (V1 := (F0 17 f).toInt.toNat) h5 hJ hB0 ⟨qiw, by omega⟩ ⟨by omega, by omega⟩ hE9 1 _ _ _ _ _ hS_10 (fx_F (fx_F (fx_F (fx_F (fx_F (fx_F (fx_F (fx_F (fx_F (fx_tr (fx_tr fx_rf hx (by decide)) hx1 (by decide)) (by decide)) (by decide)) (by decide)) (by decide)) (by decide)) (by decide)) (by decide)) (by decide)) (by decide)) (by (try rw [(show n_1 21 = (n_1 21) from rfl)]); (try rw [(show n_1 4 = (n0 4) from ((hx1.1 4 (by decide)).trans (hx.1 4 (by decide))))]); omega) (by (try rw [(show n_1 21 = (n_1 21) from rfl)]); omega) hA8 hb x7 (by omega) (by omega) (by (try rw [(show n_1 22 = (n 22) from (hx1.1 22 (by decide)))]); omega) (by (try rw [(show n_1 21 = (n_1 21) from rfl)]); omega) (by omega) (by decide)
                ·
                  try simp only [mIn_0, lgc_lt, lgc_gt, lgc_le, lgc_ge, lgc_eq] at c_257
                  try simp only [fl_lt, fl_le, fl_eq, fL_w, fL_lt, fL_le, tm1, tm10k, tm9, tm99, Int32.reduceToInt, Int64.reduceToInt, Int.not_lt, Int.not_le] at c_257
                  refine gz_aload_n dX12_begins_260 rfl rfl ?_
                  refine mg_35 hS_9 dX12_begins_261 ?_
                  refine gz_iload dX12_begins_264 rfl ?_
                  refine gz_iload dX12_begins_266 rfl ?_
                  refine m_iast 12 hS_9 rfl (N := 880) rfl ((by exact vin_T (rfl : up.toInt = up.toInt) (by omega) (by omega))) dX12_begins_268 (fun f_11 hS_11q => ?_)
                  have hS_11 : mS cy m a f0 n_1 z_1 (va_up (va_up (va_up (va_up (va_up (va_up (va_up (va_up (va_up F_1 6 (upd (F0 6) (Int32.toNatClampNeg (n0 5)) (((F0 6) (Int32.toNatClampNeg (n0 5))) + 1))) 7 (upd (F0 7) (Int32.toNatClampNeg iw) kd)) 8 (upd (F0 8) (Int32.toNatClampNeg iw) (-1))) 9 (upd (F0 9) (Int32.toNatClampNeg iw) ar)) 10 (upd (F0 10) (Int32.toNatClampNeg iw) up)) 13 (upd (F0 13) (Int32.toNatClampNeg iw) 0)) 14 (upd (F0 14) (Int32.toNatClampNeg iw) 0)) 15 (upd (F0 15) (Int32.toNatClampNeg iw) 0)) 12 (upd (F0 12) (Int32.toNatClampNeg up) iw)) G_1 f_11 := (by have e9 := (show (va_up (va_up (va_up (va_up (va_up (va_up (va_up (va_up F_1 6 (upd (F0 6) (Int32.toNatClampNeg (n0 5)) (((F0 6) (Int32.toNatClampNeg (n0 5))) + 1))) 7 (upd (F0 7) (Int32.toNatClampNeg iw) kd)) 8 (upd (F0 8) (Int32.toNatClampNeg iw) (-1))) 9 (upd (F0 9) (Int32.toNatClampNeg iw) ar)) 10 (upd (F0 10) (Int32.toNatClampNeg iw) up)) 13 (upd (F0 13) (Int32.toNatClampNeg iw) 0)) 14 (upd (F0 14) (Int32.toNatClampNeg iw) 0)) 15 (upd (F0 15) (Int32.toNatClampNeg iw) 0)) 12 = (F0 12) from ((hx1.2.2.1 12 (by decide)).trans (hx.2.2.1 12 (by decide)))); rw [e9] at hS_11q; exact hS_11q)
                  refine gz_goto (tgt := 288) dX12_begins_269 (by decide) ?_
                  have s6_ : (va_up (va_up (va_up (va_up (va_up (va_up (va_up (va_up (va_up F_1 6 (upd (F0 6) (Int32.toNatClampNeg (n0 5)) (((F0 6) (Int32.toNatClampNeg (n0 5))) + 1))) 7 (upd (F0 7) (Int32.toNatClampNeg iw) kd)) 8 (upd (F0 8) (Int32.toNatClampNeg iw) (-1))) 9 (upd (F0 9) (Int32.toNatClampNeg iw) ar)) 10 (upd (F0 10) (Int32.toNatClampNeg iw) up)) 13 (upd (F0 13) (Int32.toNatClampNeg iw) 0)) 14 (upd (F0 14) (Int32.toNatClampNeg iw) 0)) 15 (upd (F0 15) (Int32.toNatClampNeg iw) 0)) 12 (upd (F0 12) (Int32.toNatClampNeg up) iw)) 6 = (upd (F0 6) (Int32.toNatClampNeg (n0 5)) (((F0 6) (Int32.toNatClampNeg (n0 5))) + 1)) := rfl
                  have s7_ : (va_up (va_up (va_up (va_up (va_up (va_up (va_up (va_up (va_up F_1 6 (upd (F0 6) (Int32.toNatClampNeg (n0 5)) (((F0 6) (Int32.toNatClampNeg (n0 5))) + 1))) 7 (upd (F0 7) (Int32.toNatClampNeg iw) kd)) 8 (upd (F0 8) (Int32.toNatClampNeg iw) (-1))) 9 (upd (F0 9) (Int32.toNatClampNeg iw) ar)) 10 (upd (F0 10) (Int32.toNatClampNeg iw) up)) 13 (upd (F0 13) (Int32.toNatClampNeg iw) 0)) 14 (upd (F0 14) (Int32.toNatClampNeg iw) 0)) 15 (upd (F0 15) (Int32.toNatClampNeg iw) 0)) 12 (upd (F0 12) (Int32.toNatClampNeg up) iw)) 7 = (upd (F0 7) (Int32.toNatClampNeg iw) kd) := rfl
                  have s9_ : (va_up (va_up (va_up (va_up (va_up (va_up (va_up (va_up (va_up F_1 6 (upd (F0 6) (Int32.toNatClampNeg (n0 5)) (((F0 6) (Int32.toNatClampNeg (n0 5))) + 1))) 7 (upd (F0 7) (Int32.toNatClampNeg iw) kd)) 8 (upd (F0 8) (Int32.toNatClampNeg iw) (-1))) 9 (upd (F0 9) (Int32.toNatClampNeg iw) ar)) 10 (upd (F0 10) (Int32.toNatClampNeg iw) up)) 13 (upd (F0 13) (Int32.toNatClampNeg iw) 0)) 14 (upd (F0 14) (Int32.toNatClampNeg iw) 0)) 15 (upd (F0 15) (Int32.toNatClampNeg iw) 0)) 12 (upd (F0 12) (Int32.toNatClampNeg up) iw)) 9 = (upd (F0 9) (Int32.toNatClampNeg iw) ar) := rfl
                  have s10_ : (va_up (va_up (va_up (va_up (va_up (va_up (va_up (va_up (va_up F_1 6 (upd (F0 6) (Int32.toNatClampNeg (n0 5)) (((F0 6) (Int32.toNatClampNeg (n0 5))) + 1))) 7 (upd (F0 7) (Int32.toNatClampNeg iw) kd)) 8 (upd (F0 8) (Int32.toNatClampNeg iw) (-1))) 9 (upd (F0 9) (Int32.toNatClampNeg iw) ar)) 10 (upd (F0 10) (Int32.toNatClampNeg iw) up)) 13 (upd (F0 13) (Int32.toNatClampNeg iw) 0)) 14 (upd (F0 14) (Int32.toNatClampNeg iw) 0)) 15 (upd (F0 15) (Int32.toNatClampNeg iw) 0)) 12 (upd (F0 12) (Int32.toNatClampNeg up) iw)) 10 = (upd (F0 10) (Int32.toNatClampNeg iw) up) := rfl
                  have s11_ : (va_up (va_up (va_up (va_up (va_up (va_up (va_up (va_up (va_up F_1 6 (upd (F0 6) (Int32.toNatClampNeg (n0 5)) (((F0 6) (Int32.toNatClampNeg (n0 5))) + 1))) 7 (upd (F0 7) (Int32.toNatClampNeg iw) kd)) 8 (upd (F0 8) (Int32.toNatClampNeg iw) (-1))) 9 (upd (F0 9) (Int32.toNatClampNeg iw) ar)) 10 (upd (F0 10) (Int32.toNatClampNeg iw) up)) 13 (upd (F0 13) (Int32.toNatClampNeg iw) 0)) 14 (upd (F0 14) (Int32.toNatClampNeg iw) 0)) 15 (upd (F0 15) (Int32.toNatClampNeg iw) 0)) 12 (upd (F0 12) (Int32.toNatClampNeg up) iw)) 11 = (F0 11) := ((hx1.2.2.1 11 (by decide)).trans (hx.2.2.1 11 (by decide)))
                  have s12_ : (va_up (va_up (va_up (va_up (va_up (va_up (va_up (va_up (va_up F_1 6 (upd (F0 6) (Int32.toNatClampNeg (n0 5)) (((F0 6) (Int32.toNatClampNeg (n0 5))) + 1))) 7 (upd (F0 7) (Int32.toNatClampNeg iw) kd)) 8 (upd (F0 8) (Int32.toNatClampNeg iw) (-1))) 9 (upd (F0 9) (Int32.toNatClampNeg iw) ar)) 10 (upd (F0 10) (Int32.toNatClampNeg iw) up)) 13 (upd (F0 13) (Int32.toNatClampNeg iw) 0)) 14 (upd (F0 14) (Int32.toNatClampNeg iw) 0)) 15 (upd (F0 15) (Int32.toNatClampNeg iw) 0)) 12 (upd (F0 12) (Int32.toNatClampNeg up) iw)) 12 = (upd (F0 12) (Int32.toNatClampNeg up) iw) := rfl
                  have s13_ : (va_up (va_up (va_up (va_up (va_up (va_up (va_up (va_up (va_up F_1 6 (upd (F0 6) (Int32.toNatClampNeg (n0 5)) (((F0 6) (Int32.toNatClampNeg (n0 5))) + 1))) 7 (upd (F0 7) (Int32.toNatClampNeg iw) kd)) 8 (upd (F0 8) (Int32.toNatClampNeg iw) (-1))) 9 (upd (F0 9) (Int32.toNatClampNeg iw) ar)) 10 (upd (F0 10) (Int32.toNatClampNeg iw) up)) 13 (upd (F0 13) (Int32.toNatClampNeg iw) 0)) 14 (upd (F0 14) (Int32.toNatClampNeg iw) 0)) 15 (upd (F0 15) (Int32.toNatClampNeg iw) 0)) 12 (upd (F0 12) (Int32.toNatClampNeg up) iw)) 13 = (upd (F0 13) (Int32.toNatClampNeg iw) 0) := rfl
                  have s14_ : (va_up (va_up (va_up (va_up (va_up (va_up (va_up (va_up (va_up F_1 6 (upd (F0 6) (Int32.toNatClampNeg (n0 5)) (((F0 6) (Int32.toNatClampNeg (n0 5))) + 1))) 7 (upd (F0 7) (Int32.toNatClampNeg iw) kd)) 8 (upd (F0 8) (Int32.toNatClampNeg iw) (-1))) 9 (upd (F0 9) (Int32.toNatClampNeg iw) ar)) 10 (upd (F0 10) (Int32.toNatClampNeg iw) up)) 13 (upd (F0 13) (Int32.toNatClampNeg iw) 0)) 14 (upd (F0 14) (Int32.toNatClampNeg iw) 0)) 15 (upd (F0 15) (Int32.toNatClampNeg iw) 0)) 12 (upd (F0 12) (Int32.toNatClampNeg up) iw)) 14 = (upd (F0 14) (Int32.toNatClampNeg iw) 0) := rfl
                  have s15_ : (va_up (va_up (va_up (va_up (va_up (va_up (va_up (va_up (va_up F_1 6 (upd (F0 6) (Int32.toNatClampNeg (n0 5)) (((F0 6) (Int32.toNatClampNeg (n0 5))) + 1))) 7 (upd (F0 7) (Int32.toNatClampNeg iw) kd)) 8 (upd (F0 8) (Int32.toNatClampNeg iw) (-1))) 9 (upd (F0 9) (Int32.toNatClampNeg iw) ar)) 10 (upd (F0 10) (Int32.toNatClampNeg iw) up)) 13 (upd (F0 13) (Int32.toNatClampNeg iw) 0)) 14 (upd (F0 14) (Int32.toNatClampNeg iw) 0)) 15 (upd (F0 15) (Int32.toNatClampNeg iw) 0)) 12 (upd (F0 12) (Int32.toNatClampNeg up) iw)) 15 = (upd (F0 15) (Int32.toNatClampNeg iw) 0) := rfl
                  have s17_ : (va_up (va_up (va_up (va_up (va_up (va_up (va_up (va_up (va_up F_1 6 (upd (F0 6) (Int32.toNatClampNeg (n0 5)) (((F0 6) (Int32.toNatClampNeg (n0 5))) + 1))) 7 (upd (F0 7) (Int32.toNatClampNeg iw) kd)) 8 (upd (F0 8) (Int32.toNatClampNeg iw) (-1))) 9 (upd (F0 9) (Int32.toNatClampNeg iw) ar)) 10 (upd (F0 10) (Int32.toNatClampNeg iw) up)) 13 (upd (F0 13) (Int32.toNatClampNeg iw) 0)) 14 (upd (F0 14) (Int32.toNatClampNeg iw) 0)) 15 (upd (F0 15) (Int32.toNatClampNeg iw) 0)) 12 (upd (F0 12) (Int32.toNatClampNeg up) iw)) 17 = (F0 17) := ((hx1.2.2.1 17 (by decide)).trans (hx.2.2.1 17 (by decide)))
                  have s19_ : (va_up (va_up (va_up (va_up (va_up (va_up (va_up (va_up (va_up F_1 6 (upd (F0 6) (Int32.toNatClampNeg (n0 5)) (((F0 6) (Int32.toNatClampNeg (n0 5))) + 1))) 7 (upd (F0 7) (Int32.toNatClampNeg iw) kd)) 8 (upd (F0 8) (Int32.toNatClampNeg iw) (-1))) 9 (upd (F0 9) (Int32.toNatClampNeg iw) ar)) 10 (upd (F0 10) (Int32.toNatClampNeg iw) up)) 13 (upd (F0 13) (Int32.toNatClampNeg iw) 0)) 14 (upd (F0 14) (Int32.toNatClampNeg iw) 0)) 15 (upd (F0 15) (Int32.toNatClampNeg iw) 0)) 12 (upd (F0 12) (Int32.toNatClampNeg up) iw)) 19 = (F0 19) := ((hx1.2.2.1 19 (by decide)).trans (hx.2.2.1 19 (by decide)))
                  have htw : asB F0 i0 = true := by unfold asB; rw [← ei0]; simp only [decide_eq_true_eq]; omega
                  have h6 : ((va_up (va_up (va_up (va_up (va_up (va_up (va_up (va_up (va_up F_1 6 (upd (F0 6) (Int32.toNatClampNeg (n0 5)) (((F0 6) (Int32.toNatClampNeg (n0 5))) + 1))) 7 (upd (F0 7) (Int32.toNatClampNeg iw) kd)) 8 (upd (F0 8) (Int32.toNatClampNeg iw) (-1))) 9 (upd (F0 9) (Int32.toNatClampNeg iw) ar)) 10 (upd (F0 10) (Int32.toNatClampNeg iw) up)) 13 (upd (F0 13) (Int32.toNatClampNeg iw) 0)) 14 (upd (F0 14) (Int32.toNatClampNeg iw) 0)) 15 (upd (F0 15) (Int32.toNatClampNeg iw) 0)) 12 (upd (F0 12) (Int32.toNatClampNeg up) iw)) 6 f).toInt = (W : Int) + 1 := by rw [s6_, ecf, updE, if_pos rfl]; have q := T_add g6.1 (show (1 : Int32).toInt = 1 from rfl) (by omega); exact q
                  have off : ∀ r, r ∈ [7, 9, 10, 13, 14, 15] → ∀ i, i ≠ (40 * f + W) → (va_up (va_up (va_up (va_up (va_up (va_up (va_up (va_up (va_up F_1 6 (upd (F0 6) (Int32.toNatClampNeg (n0 5)) (((F0 6) (Int32.toNatClampNeg (n0 5))) + 1))) 7 (upd (F0 7) (Int32.toNatClampNeg iw) kd)) 8 (upd (F0 8) (Int32.toNatClampNeg iw) (-1))) 9 (upd (F0 9) (Int32.toNatClampNeg iw) ar)) 10 (upd (F0 10) (Int32.toNatClampNeg iw) up)) 13 (upd (F0 13) (Int32.toNatClampNeg iw) 0)) 14 (upd (F0 14) (Int32.toNatClampNeg iw) 0)) 15 (upd (F0 15) (Int32.toNatClampNeg iw) 0)) 12 (upd (F0 12) (Int32.toNatClampNeg up) iw)) r i = F0 r i := by
                    intro r hr i hi
                    rw [← eci] at hi
                    simp only [List.mem_cons, List.not_mem_nil, or_false] at hr
                    rcases hr with rfl | rfl | rfl | rfl | rfl | rfl
                    · rw [s7_, updE, if_neg hi]
                    · rw [s9_, updE, if_neg hi]
                    · rw [s10_, updE, if_neg hi]
                    · rw [s13_, updE, if_neg hi]
                    · rw [s14_, updE, if_neg hi]
                    · rw [s15_, updE, if_neg hi]
                  have hg : ∀ g, g < f → agF F0 (va_up (va_up (va_up (va_up (va_up (va_up (va_up (va_up (va_up F_1 6 (upd (F0 6) (Int32.toNatClampNeg (n0 5)) (((F0 6) (Int32.toNatClampNeg (n0 5))) + 1))) 7 (upd (F0 7) (Int32.toNatClampNeg iw) kd)) 8 (upd (F0 8) (Int32.toNatClampNeg iw) (-1))) 9 (upd (F0 9) (Int32.toNatClampNeg iw) ar)) 10 (upd (F0 10) (Int32.toNatClampNeg iw) up)) 13 (upd (F0 13) (Int32.toNatClampNeg iw) 0)) 14 (upd (F0 14) (Int32.toNatClampNeg iw) 0)) 15 (upd (F0 15) (Int32.toNatClampNeg iw) 0)) 12 (upd (F0 12) (Int32.toNatClampNeg up) iw)) g := by
                    intro g hgf
                    refine ⟨by rw [s6_, ecf, updE, if_neg (by omega)], fun r hr k hk => ?_⟩
                    simp only [List.mem_cons, List.not_mem_nil, or_false] at hr
                    rcases hr with rfl | rfl | rfl | rfl | rfl | rfl | rfl | rfl
                    · exact off 7 (by decide) _ (by omega)
                    · exact off 9 (by decide) _ (by omega)
                    · exact off 10 (by decide) _ (by omega)
                    · rw [s11_]
                    · rw [s12_, eup, updE, if_neg (by omega)]
                    · exact off 13 (by decide) _ (by omega)
                    · exact off 14 (by decide) _ (by omega)
                    · exact off 15 (by decide) _ (by omega)
                  have ho : ∀ i p : Nat, (i0 + 1) = i + 1 → p < W → (F0 25 i).toInt = 40 * f + p → (∀ k, k < W → if k = p ∧ asB F0 i = false then ((va_up (va_up (va_up (va_up (va_up (va_up (va_up (va_up (va_up F_1 6 (upd (F0 6) (Int32.toNatClampNeg (n0 5)) (((F0 6) (Int32.toNatClampNeg (n0 5))) + 1))) 7 (upd (F0 7) (Int32.toNatClampNeg iw) kd)) 8 (upd (F0 8) (Int32.toNatClampNeg iw) (-1))) 9 (upd (F0 9) (Int32.toNatClampNeg iw) ar)) 10 (upd (F0 10) (Int32.toNatClampNeg iw) up)) 13 (upd (F0 13) (Int32.toNatClampNeg iw) 0)) 14 (upd (F0 14) (Int32.toNatClampNeg iw) 0)) 15 (upd (F0 15) (Int32.toNatClampNeg iw) 0)) 12 (upd (F0 12) (Int32.toNatClampNeg up) iw)) 11 (40 * f + k)).toInt = 40 * f + W else (va_up (va_up (va_up (va_up (va_up (va_up (va_up (va_up (va_up F_1 6 (upd (F0 6) (Int32.toNatClampNeg (n0 5)) (((F0 6) (Int32.toNatClampNeg (n0 5))) + 1))) 7 (upd (F0 7) (Int32.toNatClampNeg iw) kd)) 8 (upd (F0 8) (Int32.toNatClampNeg iw) (-1))) 9 (upd (F0 9) (Int32.toNatClampNeg iw) ar)) 10 (upd (F0 10) (Int32.toNatClampNeg iw) up)) 13 (upd (F0 13) (Int32.toNatClampNeg iw) 0)) 14 (upd (F0 14) (Int32.toNatClampNeg iw) 0)) 15 (upd (F0 15) (Int32.toNatClampNeg iw) 0)) 12 (upd (F0 12) (Int32.toNatClampNeg up) iw)) 11 (40 * f + k) = F0 11 (40 * f + k)) ∧ (∀ k, k < W → if k = p ∧ asB F0 i = true then ((va_up (va_up (va_up (va_up (va_up (va_up (va_up (va_up (va_up F_1 6 (upd (F0 6) (Int32.toNatClampNeg (n0 5)) (((F0 6) (Int32.toNatClampNeg (n0 5))) + 1))) 7 (upd (F0 7) (Int32.toNatClampNeg iw) kd)) 8 (upd (F0 8) (Int32.toNatClampNeg iw) (-1))) 9 (upd (F0 9) (Int32.toNatClampNeg iw) ar)) 10 (upd (F0 10) (Int32.toNatClampNeg iw) up)) 13 (upd (F0 13) (Int32.toNatClampNeg iw) 0)) 14 (upd (F0 14) (Int32.toNatClampNeg iw) 0)) 15 (upd (F0 15) (Int32.toNatClampNeg iw) 0)) 12 (upd (F0 12) (Int32.toNatClampNeg up) iw)) 12 (40 * f + k)).toInt = 40 * f + W else (va_up (va_up (va_up (va_up (va_up (va_up (va_up (va_up (va_up F_1 6 (upd (F0 6) (Int32.toNatClampNeg (n0 5)) (((F0 6) (Int32.toNatClampNeg (n0 5))) + 1))) 7 (upd (F0 7) (Int32.toNatClampNeg iw) kd)) 8 (upd (F0 8) (Int32.toNatClampNeg iw) (-1))) 9 (upd (F0 9) (Int32.toNatClampNeg iw) ar)) 10 (upd (F0 10) (Int32.toNatClampNeg iw) up)) 13 (upd (F0 13) (Int32.toNatClampNeg iw) 0)) 14 (upd (F0 14) (Int32.toNatClampNeg iw) 0)) 15 (upd (F0 15) (Int32.toNatClampNeg iw) 0)) 12 (upd (F0 12) (Int32.toNatClampNeg up) iw)) 12 (40 * f + k) = F0 12 (40 * f + k)) ∧ ((va_up (va_up (va_up (va_up (va_up (va_up (va_up (va_up (va_up F_1 6 (upd (F0 6) (Int32.toNatClampNeg (n0 5)) (((F0 6) (Int32.toNatClampNeg (n0 5))) + 1))) 7 (upd (F0 7) (Int32.toNatClampNeg iw) kd)) 8 (upd (F0 8) (Int32.toNatClampNeg iw) (-1))) 9 (upd (F0 9) (Int32.toNatClampNeg iw) ar)) 10 (upd (F0 10) (Int32.toNatClampNeg iw) up)) 13 (upd (F0 13) (Int32.toNatClampNeg iw) 0)) 14 (upd (F0 14) (Int32.toNatClampNeg iw) 0)) 15 (upd (F0 15) (Int32.toNatClampNeg iw) 0)) 12 (upd (F0 12) (Int32.toNatClampNeg up) iw)) 10 (40 * f + W)).toInt = 40 * f + p := by
                    intro i_ p_ ei_ hp_ ep_
                    have e_ : i_ = i0 := by omega
                    subst e_
                    have e2_ : p_ = p := by omega
                    subst e2_
                    refine ⟨fun k hk => ?_, fun k hk => ?_, ?_⟩
                    · rw [if_neg (fun y => by rw [htw] at y; exact absurd y.2 (by decide)), s11_]
                    · rw [s12_, eup, updE]
                      by_cases e : k = p_
                      · rw [if_pos ⟨e, htw⟩, if_pos (by omega)]; exact qiw
                      · rw [if_neg (fun y => e y.1), if_neg (by omega)]
                    · rw [s10_, ← eci, updE, if_pos rfl]; exact qup
                  have hb : RDb F0 (va_up (va_up (va_up (va_up (va_up (va_up (va_up (va_up (va_up F_1 6 (upd (F0 6) (Int32.toNatClampNeg (n0 5)) (((F0 6) (Int32.toNatClampNeg (n0 5))) + 1))) 7 (upd (F0 7) (Int32.toNatClampNeg iw) kd)) 8 (upd (F0 8) (Int32.toNatClampNeg iw) (-1))) 9 (upd (F0 9) (Int32.toNatClampNeg iw) ar)) 10 (upd (F0 10) (Int32.toNatClampNeg iw) up)) 13 (upd (F0 13) (Int32.toNatClampNeg iw) 0)) 14 (upd (F0 14) (Int32.toNatClampNeg iw) 0)) 15 (upd (F0 15) (Int32.toNatClampNeg iw) 0)) 12 (upd (F0 12) (Int32.toNatClampNeg up) iw)) f W (i0 + 1) := ⟨h6, hg, fun r hr k hk => off r hr _ (by omega), ho, fun h => absurd h (by omega), by unfold arF; rw [s9_, ← eci, updE, if_pos rfl]; exact qar, by omega⟩
                  have hA8 : rAll (va_up (va_up (va_up (va_up (va_up (va_up (va_up (va_up (va_up F_1 6 (upd (F0 6) (Int32.toNatClampNeg (n0 5)) (((F0 6) (Int32.toNatClampNeg (n0 5))) + 1))) 7 (upd (F0 7) (Int32.toNatClampNeg iw) kd)) 8 (upd (F0 8) (Int32.toNatClampNeg iw) (-1))) 9 (upd (F0 9) (Int32.toNatClampNeg iw) ar)) 10 (upd (F0 10) (Int32.toNatClampNeg iw) up)) 13 (upd (F0 13) (Int32.toNatClampNeg iw) 0)) 14 (upd (F0 14) (Int32.toNatClampNeg iw) 0)) 15 (upd (F0 15) (Int32.toNatClampNeg iw) 0)) 12 (upd (F0 12) (Int32.toNatClampNeg up) iw)) := by
                    intro q hq
                    obtain ⟨qa0, qb0, qc0, qd0⟩ := gA q hq
                    rw [show (va_up (va_up (va_up (va_up (va_up (va_up (va_up (va_up (va_up F_1 6 (upd (F0 6) (Int32.toNatClampNeg (n0 5)) (((F0 6) (Int32.toNatClampNeg (n0 5))) + 1))) 7 (upd (F0 7) (Int32.toNatClampNeg iw) kd)) 8 (upd (F0 8) (Int32.toNatClampNeg iw) (-1))) 9 (upd (F0 9) (Int32.toNatClampNeg iw) ar)) 10 (upd (F0 10) (Int32.toNatClampNeg iw) up)) 13 (upd (F0 13) (Int32.toNatClampNeg iw) 0)) 14 (upd (F0 14) (Int32.toNatClampNeg iw) 0)) 15 (upd (F0 15) (Int32.toNatClampNeg iw) 0)) 12 (upd (F0 12) (Int32.toNatClampNeg up) iw)) 13 = (upd (F0 13) (Int32.toNatClampNeg iw) 0) from rfl, show (va_up (va_up (va_up (va_up (va_up (va_up (va_up (va_up (va_up F_1 6 (upd (F0 6) (Int32.toNatClampNeg (n0 5)) (((F0 6) (Int32.toNatClampNeg (n0 5))) + 1))) 7 (upd (F0 7) (Int32.toNatClampNeg iw) kd)) 8 (upd (F0 8) (Int32.toNatClampNeg iw) (-1))) 9 (upd (F0 9) (Int32.toNatClampNeg iw) ar)) 10 (upd (F0 10) (Int32.toNatClampNeg iw) up)) 13 (upd (F0 13) (Int32.toNatClampNeg iw) 0)) 14 (upd (F0 14) (Int32.toNatClampNeg iw) 0)) 15 (upd (F0 15) (Int32.toNatClampNeg iw) 0)) 12 (upd (F0 12) (Int32.toNatClampNeg up) iw)) 14 = (upd (F0 14) (Int32.toNatClampNeg iw) 0) from rfl, show (va_up (va_up (va_up (va_up (va_up (va_up (va_up (va_up (va_up F_1 6 (upd (F0 6) (Int32.toNatClampNeg (n0 5)) (((F0 6) (Int32.toNatClampNeg (n0 5))) + 1))) 7 (upd (F0 7) (Int32.toNatClampNeg iw) kd)) 8 (upd (F0 8) (Int32.toNatClampNeg iw) (-1))) 9 (upd (F0 9) (Int32.toNatClampNeg iw) ar)) 10 (upd (F0 10) (Int32.toNatClampNeg iw) up)) 13 (upd (F0 13) (Int32.toNatClampNeg iw) 0)) 14 (upd (F0 14) (Int32.toNatClampNeg iw) 0)) 15 (upd (F0 15) (Int32.toNatClampNeg iw) 0)) 12 (upd (F0 12) (Int32.toNatClampNeg up) iw)) 15 = (upd (F0 15) (Int32.toNatClampNeg iw) 0) from rfl, show (va_up (va_up (va_up (va_up (va_up (va_up (va_up (va_up (va_up F_1 6 (upd (F0 6) (Int32.toNatClampNeg (n0 5)) (((F0 6) (Int32.toNatClampNeg (n0 5))) + 1))) 7 (upd (F0 7) (Int32.toNatClampNeg iw) kd)) 8 (upd (F0 8) (Int32.toNatClampNeg iw) (-1))) 9 (upd (F0 9) (Int32.toNatClampNeg iw) ar)) 10 (upd (F0 10) (Int32.toNatClampNeg iw) up)) 13 (upd (F0 13) (Int32.toNatClampNeg iw) 0)) 14 (upd (F0 14) (Int32.toNatClampNeg iw) 0)) 15 (upd (F0 15) (Int32.toNatClampNeg iw) 0)) 12 (upd (F0 12) (Int32.toNatClampNeg up) iw)) 19 = (F0 19) from ((hx1.2.2.1 19 (by decide)).trans (hx.2.2.1 19 (by decide)))]
                    refine ⟨?_, ?_, ?_, ?_⟩ <;> (try simp only [updE]) <;> (repeat' split) <;> first | omega | decide
                  have x13 : ((va_up (va_up (va_up (va_up (va_up (va_up (va_up (va_up (va_up F_1 6 (upd (F0 6) (Int32.toNatClampNeg (n0 5)) (((F0 6) (Int32.toNatClampNeg (n0 5))) + 1))) 7 (upd (F0 7) (Int32.toNatClampNeg iw) kd)) 8 (upd (F0 8) (Int32.toNatClampNeg iw) (-1))) 9 (upd (F0 9) (Int32.toNatClampNeg iw) ar)) 10 (upd (F0 10) (Int32.toNatClampNeg iw) up)) 13 (upd (F0 13) (Int32.toNatClampNeg iw) 0)) 14 (upd (F0 14) (Int32.toNatClampNeg iw) 0)) 15 (upd (F0 15) (Int32.toNatClampNeg iw) 0)) 12 (upd (F0 12) (Int32.toNatClampNeg up) iw)) 13 (40 * f + W)).toInt = 0 := by rw [s13_, ← eci, updE, if_pos rfl]; rfl
                  have x14 : ((va_up (va_up (va_up (va_up (va_up (va_up (va_up (va_up (va_up F_1 6 (upd (F0 6) (Int32.toNatClampNeg (n0 5)) (((F0 6) (Int32.toNatClampNeg (n0 5))) + 1))) 7 (upd (F0 7) (Int32.toNatClampNeg iw) kd)) 8 (upd (F0 8) (Int32.toNatClampNeg iw) (-1))) 9 (upd (F0 9) (Int32.toNatClampNeg iw) ar)) 10 (upd (F0 10) (Int32.toNatClampNeg iw) up)) 13 (upd (F0 13) (Int32.toNatClampNeg iw) 0)) 14 (upd (F0 14) (Int32.toNatClampNeg iw) 0)) 15 (upd (F0 15) (Int32.toNatClampNeg iw) 0)) 12 (upd (F0 12) (Int32.toNatClampNeg up) iw)) 14 (40 * f + W)).toInt = 0 := by rw [s14_, ← eci, updE, if_pos rfl]; rfl
                  have x15 : ((va_up (va_up (va_up (va_up (va_up (va_up (va_up (va_up (va_up F_1 6 (upd (F0 6) (Int32.toNatClampNeg (n0 5)) (((F0 6) (Int32.toNatClampNeg (n0 5))) + 1))) 7 (upd (F0 7) (Int32.toNatClampNeg iw) kd)) 8 (upd (F0 8) (Int32.toNatClampNeg iw) (-1))) 9 (upd (F0 9) (Int32.toNatClampNeg iw) ar)) 10 (upd (F0 10) (Int32.toNatClampNeg iw) up)) 13 (upd (F0 13) (Int32.toNatClampNeg iw) 0)) 14 (upd (F0 14) (Int32.toNatClampNeg iw) 0)) 15 (upd (F0 15) (Int32.toNatClampNeg iw) 0)) 12 (upd (F0 12) (Int32.toNatClampNeg up) iw)) 15 (40 * f + W)).toInt = 0 := by rw [s15_, ← eci, updE, if_pos rfl]; rfl
                  have x7 : ((va_up (va_up (va_up (va_up (va_up (va_up (va_up (va_up (va_up F_1 6 (upd (F0 6) (Int32.toNatClampNeg (n0 5)) (((F0 6) (Int32.toNatClampNeg (n0 5))) + 1))) 7 (upd (F0 7) (Int32.toNatClampNeg iw) kd)) 8 (upd (F0 8) (Int32.toNatClampNeg iw) (-1))) 9 (upd (F0 9) (Int32.toNatClampNeg iw) ar)) 10 (upd (F0 10) (Int32.toNatClampNeg iw) up)) 13 (upd (F0 13) (Int32.toNatClampNeg iw) 0)) 14 (upd (F0 14) (Int32.toNatClampNeg iw) 0)) 15 (upd (F0 15) (Int32.toNatClampNeg iw) 0)) 12 (upd (F0 12) (Int32.toNatClampNeg up) iw)) 7 (40 * f + W)).toInt = kd.toInt := by rw [s7_, ← eci, updE, if_pos rfl]
                  have x17 : ((va_up (va_up (va_up (va_up (va_up (va_up (va_up (va_up (va_up F_1 6 (upd (F0 6) (Int32.toNatClampNeg (n0 5)) (((F0 6) (Int32.toNatClampNeg (n0 5))) + 1))) 7 (upd (F0 7) (Int32.toNatClampNeg iw) kd)) 8 (upd (F0 8) (Int32.toNatClampNeg iw) (-1))) 9 (upd (F0 9) (Int32.toNatClampNeg iw) ar)) 10 (upd (F0 10) (Int32.toNatClampNeg iw) up)) 13 (upd (F0 13) (Int32.toNatClampNeg iw) 0)) 14 (upd (F0 14) (Int32.toNatClampNeg iw) 0)) 15 (upd (F0 15) (Int32.toNatClampNeg iw) 0)) 12 (upd (F0 12) (Int32.toNatClampNeg up) iw)) 17 (Int32.toNatClampNeg (n0 5))).toInt = (F0 17 (Int32.toNatClampNeg (n0 5))).toInt := by rw [s17_]
                  have hE9 : ((kdR (tX (F0 3) (n0 4)) S0) ≤ 1 → bgR (tX (F0 3) (n0 4)) (n0 21).toInt.toNat W (F0 17 f).toInt.toNat (i0 + 1) = .inr ((kdR (tX (F0 3) (n0 4)) S0), S0 + ltR (tX (F0 3) (n0 4)) S0, (F0 17 f).toInt.toNat)) ∧ (¬ (kdR (tX (F0 3) (n0 4)) S0) ≤ 1 → bgR (tX (F0 3) (n0 4)) (n0 21).toInt.toNat W (F0 17 f).toInt.toNat (i0 + 1) = tlR (tX (F0 3) (n0 4)) (kdR (tX (F0 3) (n0 4)) S0) (hdR (tX (F0 3) (n0 4)) (kdR (tX (F0 3) (n0 4)) S0) (S0 + ltR (tX (F0 3) (n0 4)) S0) (F0 17 f).toInt.toNat)) := by
                    rw [bgR_st, ← hS0, if_neg h11, if_neg (by omega), if_neg (by omega)]
                    exact ⟨fun z => by rw [if_pos z], fun z => by rw [if_neg z]⟩
                  refine gz_sub (lv' := [(0, .ref m), (4, .int kd), (7, .int iw)]) (by simp [List.lookup]) ?_
                  exact l_X12_beginsEB (O := (i0 + 1)) (K := (kdR (tX (F0 3) (n0 4)) S0)) (Q := S0 + ltR (tX (F0 3) (n0 4)) S0) (V1 := (F0 17 f).toInt.toNat) h5 hJ hB0 ⟨qiw, by omega⟩ ⟨by omega, by omega⟩ hE9 1 _ _ _ _ _ hS_11 (fx_F (fx_F (fx_F (fx_F (fx_F (fx_F (fx_F (fx_F (fx_F (fx_tr (fx_tr fx_rf hx (by decide)) hx1 (by decide)) (by decide)) (by decide)) (by decide)) (by decide)) (by decide)) (by decide)) (by decide)) (by decide)) (by decide)) (by (try rw [(show n_1 21 = (n_1 21) from rfl)]); (try rw [(show n_1 4 = (n0 4) from ((hx1.1 4 (by decide)).trans (hx.1 4 (by decide))))]); omega) (by (try rw [(show n_1 21 = (n_1 21) from rfl)]); omega) hA8 hb x7 (by omega) (by omega) (by (try rw [(show n_1 22 = (n 22) from (hx1.1 22 (by decide)))]); omega) (by (try rw [(show n_1 21 = (n_1 21) from rfl)]); omega) (by omega) (by decide)
            ·
              try simp only [mIn_0, lgc_lt, lgc_gt, lgc_le, lgc_ge, lgc_eq] at c_133
              try simp only [fl_lt, fl_le, fl_eq, fL_w, fL_lt, fL_le, tm1, tm10k, tm9, tm99, Int32.reduceToInt, Int64.reduceToInt, Int.not_lt, Int.not_le] at c_133
              refine gz_aload_n dX12_begins_136 rfl rfl ?_
              refine gz_iconst (v := 3) dX12_begins_137 (by decide) ?_
              refine gz_iload_n dX12_begins_138 rfl rfl ?_
              have h11 : ¬ kdR (tX (F0 3) (n0 4)) S0 = 11 := fun z => by rw [if_pos z] at hkq; omega
              refine scX12_279 (k_X12_failsE (x := 3) (y := st_) hS (by omega) (by (try rw [(show n 4 = (n0 4) from (hx.1 4 (by decide)))]); omega) (by decide)) hS.1 ⟨(Nat.le_of_ble_eq_true rfl), (Nat.le_of_ble_eq_true rfl)⟩ ⟨(Nat.le_of_ble_eq_true rfl), (Nat.le_of_ble_eq_true rfl)⟩ rfl rfl (Nat.le_of_ble_eq_true rfl) dX12_begins_139 ?_
              rintro r_12 f_12 ⟨n_12, z_12, F_12, G_12, hS_12, hx12, hr_12, hf_12⟩
              simp only [Int32.reduceToInt] at hf_12
              have hxx : fx [21, 22] [] [] [] n0 z0 F0 G0 n_12 z_12 F_12 G_12 := (fx_tr (fx_tr fx_rf hx (by decide)) hx12 (by decide))
              have hag : ∀ g, g < f → agF F0 F_12 g := fun g _ => ⟨congrFun (hxx.2.2.1 6 (by decide)) _, fun r _ k _ => congrFun (hxx.2.2.1 r (by simp)) _⟩
              have hA9 : rAll F_12 := fun q hq => by rw [hxx.2.2.1 13 (by decide), hxx.2.2.1 14 (by decide), hxx.2.2.1 15 (by decide), hxx.2.2.1 19 (by decide)]; exact gA q hq
              exact gz_zret rfl (by first | decide | exact nrb (Or.inl (by assumption)) | exact nrb (by assumption) | (refine nrb ?_; assumption)) dX12_begins_142 (Nat.le_of_ble_eq_true rfl) (Nat.le_of_ble_eq_true rfl) (⟨_, rfl, _, _, _, _, hS_12, (fx_tr (fx_tr fx_rf hx (by decide)) hx12 (by decide)), (by first | exact Or.inl rfl | exact Or.inr rfl | assumption | (left; assumption)), (by (try rw [(show n_12 21 = (n 21) from (hx12.1 21 (by decide)))]); (try rw [(show n_12 4 = (n0 4) from ((hx12.1 4 (by decide)).trans (hx.1 4 (by decide))))]); omega), (by (try rw [(show n_12 21 = (n 21) from (hx12.1 21 (by decide)))]); omega), hA9, hag, (fun h => absurd (hr_12.symm.trans h) (by decide)), (by rw [bgR_st, ← hS0, if_neg h11, if_neg (by omega), if_pos (by omega)]; exact ⟨hr_12, (by (try rw [(show n_12 22 = (n_12 22) from rfl)]); omega)⟩)⟩)
          ·
            try simp only [mIn_0, lgc_lt, lgc_gt, lgc_le, lgc_ge, lgc_eq] at c_112
            try simp only [fl_lt, fl_le, fl_eq, fL_w, fL_lt, fL_le, tm1, tm10k, tm9, tm99, Int32.reduceToInt, Int64.reduceToInt, Int.not_lt, Int.not_le] at c_112
            refine gz_aload_n dX12_begins_115 rfl rfl ?_
            refine gz_iconst (v := 2) dX12_begins_116 (by decide) ?_
            refine gz_iload_n dX12_begins_117 rfl rfl ?_
            have h11 : ¬ kdR (tX (F0 3) (n0 4)) S0 = 11 := fun z => by rw [if_pos z] at hkq; omega
            refine scX12_279 (k_X12_failsE (x := 2) (y := st_) hS (by omega) (by (try rw [(show n 4 = (n0 4) from (hx.1 4 (by decide)))]); omega) (by decide)) hS.1 ⟨(Nat.le_of_ble_eq_true rfl), (Nat.le_of_ble_eq_true rfl)⟩ ⟨(Nat.le_of_ble_eq_true rfl), (Nat.le_of_ble_eq_true rfl)⟩ rfl rfl (Nat.le_of_ble_eq_true rfl) dX12_begins_118 ?_
            rintro r_13 f_13 ⟨n_13, z_13, F_13, G_13, hS_13, hx13, hr_13, hf_13⟩
            simp only [Int32.reduceToInt] at hf_13
            have hxx : fx [21, 22] [] [] [] n0 z0 F0 G0 n_13 z_13 F_13 G_13 := (fx_tr (fx_tr fx_rf hx (by decide)) hx13 (by decide))
            have hag : ∀ g, g < f → agF F0 F_13 g := fun g _ => ⟨congrFun (hxx.2.2.1 6 (by decide)) _, fun r _ k _ => congrFun (hxx.2.2.1 r (by simp)) _⟩
            have hA9 : rAll F_13 := fun q hq => by rw [hxx.2.2.1 13 (by decide), hxx.2.2.1 14 (by decide), hxx.2.2.1 15 (by decide), hxx.2.2.1 19 (by decide)]; exact gA q hq
            exact gz_zret rfl (by first | decide | exact nrb (Or.inl (by assumption)) | exact nrb (by assumption) | (refine nrb ?_; assumption)) dX12_begins_121 (Nat.le_of_ble_eq_true rfl) (Nat.le_of_ble_eq_true rfl) (⟨_, rfl, _, _, _, _, hS_13, (fx_tr (fx_tr fx_rf hx (by decide)) hx13 (by decide)), (by first | exact Or.inl rfl | exact Or.inr rfl | assumption | (left; assumption)), (by (try rw [(show n_13 21 = (n 21) from (hx13.1 21 (by decide)))]); (try rw [(show n_13 4 = (n0 4) from ((hx13.1 4 (by decide)).trans (hx.1 4 (by decide))))]); omega), (by (try rw [(show n_13 21 = (n 21) from (hx13.1 21 (by decide)))]); omega), hA9, hag, (fun h => absurd (hr_13.symm.trans h) (by decide)), (by rw [bgR_st, ← hS0, if_neg h11, if_pos (by omega)]; exact ⟨hr_13, (by (try rw [(show n_13 22 = (n_13 22) from rfl)]); omega)⟩)⟩)
        ·
          try simp only [mIn_0, lgc_lt, lgc_gt, lgc_le, lgc_ge, lgc_eq] at c_90
          try simp only [fl_lt, fl_le, fl_eq, fL_w, fL_lt, fL_le, tm1, tm10k, tm9, tm99, Int32.reduceToInt, Int64.reduceToInt, Int.not_lt, Int.not_le] at c_90
          exfalso; omega
      ·
        try simp only [mIn_0, lgc_lt, lgc_gt, lgc_le, lgc_ge, lgc_eq] at c_66
        try simp only [fl_lt, fl_le, fl_eq, fL_w, fL_lt, fL_le, tm1, tm10k, tm9, tm99, Int32.reduceToInt, Int64.reduceToInt, Int.not_lt, Int.not_le] at c_66
        refine gz_iconst (v := (-1)) dX12_begins_69 (by decide) ?_
        refine gz_goto (tgt := 84) dX12_begins_70 (by decide) ?_
        refine gz_istore (lv' := [(5, .int (-1)), (0, .ref m), (3, .int st_), (4, .int kd)]) dX12_begins_84 (by decide) rfl ?_
        refine gz_aload_n dX12_begins_86 rfl rfl ?_
        refine mg_319 hS dX12_begins_87 ?_
        refine gz_ev (w := .int (n0 24)) (congrArg Value.int (hx.1 24 (by decide))) ?_
        refine gz_if_ne (tgt := 97) dX12_begins_90 (by decide) (fun c_90 => ?_) (fun c_90 => ?_)
        ·
          try simp only [mIn_0, lgc_lt, lgc_gt, lgc_le, lgc_ge, lgc_eq] at c_90
          try simp only [fl_lt, fl_le, fl_eq, fL_w, fL_lt, fL_le, tm1, tm10k, tm9, tm99, Int32.reduceToInt, Int64.reduceToInt, Int.not_lt, Int.not_le] at c_90
          exfalso; omega
        ·
          try simp only [mIn_0, lgc_lt, lgc_gt, lgc_le, lgc_ge, lgc_eq] at c_90
          try simp only [fl_lt, fl_le, fl_eq, fL_w, fL_lt, fL_le, tm1, tm10k, tm9, tm99, Int32.reduceToInt, Int64.reduceToInt, Int.not_lt, Int.not_le] at c_90
          refine gz_iconst (v := 0) dX12_begins_93 (by decide) ?_
          refine gz_goto (tgt := 106) dX12_begins_94 (by decide) ?_
          obtain ⟨ar, har⟩ : ∃ v_ : Int32, v_ = 0 := ⟨_, rfl⟩
          refine gz_ev (w := .int ar) (congrArg Value.int har.symm) ?_
          have qar : ar.toInt = (O : Int) := by rw [har]; show (0 : Int) = _; omega
          refine gz_istore (lv' := [(6, .int ar), (5, .int (-1)), (0, .ref m), (3, .int st_), (4, .int kd)]) dX12_begins_106 (by decide) rfl ?_
          refine gz_iload dX12_begins_108 rfl ?_
          refine gz_bipush (v := 11) dX12_begins_110 (by decide) ?_
          refine gz_icmp_le (tgt := 122) dX12_begins_112 (by decide) (fun c_112 => ?_) (fun c_112 => ?_)
          ·
            try simp only [mIn_0, lgc_lt, lgc_gt, lgc_le, lgc_ge, lgc_eq] at c_112
            try simp only [fl_lt, fl_le, fl_eq, fL_w, fL_lt, fL_le, tm1, tm10k, tm9, tm99, Int32.reduceToInt, Int64.reduceToInt, Int.not_lt, Int.not_le] at c_112
            refine gz_aload_n dX12_begins_122 rfl rfl ?_
            refine mg_17 hS dX12_begins_123 ?_
            refine gz_aload_n dX12_begins_126 rfl rfl ?_
            refine mg_307 hS dX12_begins_127 ?_
            refine gz_ev (w := .int (n0 5)) (congrArg Value.int (hx.1 5 (by decide))) ?_
            refine m_iald 6 hS rfl (N := 22) rfl ((by exact vin_T (rfl : (n0 5).toInt = (n0 5).toInt) (by omega) (by omega))) dX12_begins_130 ?_
            refine gz_ev (w := .int ((F0 6) (Int32.toNatClampNeg (n0 5)))) (congrArg Value.int (congrFun (hx.2.2.1 6 (by decide)) _)) ?_
            refine gz_bipush (v := 40) dX12_begins_131 (by decide) ?_
            refine gz_icmp_ne (tgt := 143) dX12_begins_133 (by decide) (fun c_133 => ?_) (fun c_133 => ?_)
            ·
              try simp only [mIn_0, lgc_lt, lgc_gt, lgc_le, lgc_ge, lgc_eq] at c_133
              try simp only [fl_lt, fl_le, fl_eq, fL_w, fL_lt, fL_le, tm1, tm10k, tm9, tm99, Int32.reduceToInt, Int64.reduceToInt, Int.not_lt, Int.not_le] at c_133
              refine gz_aload_n dX12_begins_143 rfl rfl ?_
              refine scX12_310 (k_X12_skipsE hS (by (try rw [(show n 4 = (n0 4) from (hx.1 4 (by decide)))]); omega) (rB_cg (hx.2.2.1 3 (by decide)) hB0)) hS.1 ⟨(Nat.le_of_ble_eq_true rfl), (Nat.le_of_ble_eq_true rfl)⟩ ⟨(Nat.le_of_ble_eq_true rfl), (Nat.le_of_ble_eq_true rfl)⟩ rfl rfl (Nat.le_of_ble_eq_true rfl) dX12_begins_144 ?_
              rintro f_14 ⟨n_14, z_14, F_14, G_14, hS_14, hx14, hT_14, hm_14, hs_14⟩
              try simp only [(show n_14 4 = (n0 4) from ((hx14.1 4 (by decide)).trans (hx.1 4 (by decide))))] at hT_14 hm_14 hs_14
              try simp only [(show F_14 3 = (F0 3) from ((hx14.2.2.1 3 (by decide)).trans (hx.2.2.1 3 (by decide))))] at hT_14 hm_14 hs_14
              try simp only [(show n 4 = (n0 4) from (hx.1 4 (by decide)))] at hT_14 hm_14 hs_14
              try simp only [(show F 3 = (F0 3) from (hx.2.2.1 3 (by decide)))] at hT_14 hm_14 hs_14
              rw [show (n 21).toInt.toNat = S0 by omega] at hs_14
              have h11 : ¬ kdR (tX (F0 3) (n0 4)) S0 = 11 := fun z => by rw [if_pos z] at hkq; omega
              rw [if_neg h11] at hkq
              have hk10 := kdR_le (T := (tX (F0 3) (n0 4))) (p := S0)
              refine gz_bipush (v := 40) dX12_begins_147 (by decide) ?_
              refine gz_aload_n dX12_begins_149 rfl rfl ?_
              refine mg_307 hS_14 dX12_begins_150 ?_
              refine gz_ev (w := .int (n0 5)) (congrArg Value.int ((hx14.1 5 (by decide)).trans (hx.1 5 (by decide)))) ?_
              refine gz_imul dX12_begins_153 ?_
              refine gz_aload_n dX12_begins_154 rfl rfl ?_
              refine mg_17 hS_14 dX12_begins_155 ?_
              refine gz_aload_n dX12_begins_158 rfl rfl ?_
              refine mg_307 hS_14 dX12_begins_159 ?_
              refine gz_ev (w := .int (n0 5)) (congrArg Value.int ((hx14.1 5 (by decide)).trans (hx.1 5 (by decide)))) ?_
              refine m_iald 6 hS_14 rfl (N := 22) rfl ((by exact vin_T (rfl : (n0 5).toInt = (n0 5).toInt) (by omega) (by omega))) dX12_begins_162 ?_
              refine gz_ev (w := .int ((F0 6) (Int32.toNatClampNeg (n0 5)))) (congrArg Value.int (congrFun ((hx14.2.2.1 6 (by decide)).trans (hx.2.2.1 6 (by decide))) _)) ?_
              refine gz_iadd dX12_begins_163 ?_
              obtain ⟨iw, hiw⟩ : ∃ v_ : Int32, v_ = ((40 * (n0 5)) + ((F0 6) (Int32.toNatClampNeg (n0 5)))) := ⟨_, rfl⟩
              refine gz_ev (w := .int iw) (congrArg Value.int hiw.symm) ?_
              have qiw : iw.toInt = 40 * (f : Int) + W := by rw [hiw]; have q := (T_add (T_mul (show (40 : Int32).toInt = 40 from rfl) (rfl : ((n0 5)).toInt = ((n0 5)).toInt) (by omega)) (rfl : (((F0 6) (Int32.toNatClampNeg (n0 5)))).toInt = (((F0 6) (Int32.toNatClampNeg (n0 5)))).toInt) (by omega)); omega
              have eci : Int32.toNatClampNeg iw = (40 * f + W) := by rw [clN]; omega
              refine gz_istore (lv' := [(7, .int iw), (6, .int ar), (5, .int (-1)), (0, .ref m), (3, .int st_), (4, .int kd)]) dX12_begins_164 (by decide) rfl ?_
              refine gz_aload_n dX12_begins_166 rfl rfl ?_
              refine mg_17 hS_14 dX12_begins_167 ?_
              refine gz_aload_n dX12_begins_170 rfl rfl ?_
              refine mg_307 hS_14 dX12_begins_171 ?_
              refine gz_ev (w := .int (n0 5)) (congrArg Value.int ((hx14.1 5 (by decide)).trans (hx.1 5 (by decide)))) ?_
              refine gz_dup2 dX12_begins_174 rfl rfl ?_
              refine m_iald 6 hS_14 rfl (N := 22) rfl ((by exact vin_T (rfl : (n0 5).toInt = (n0 5).toInt) (by omega) (by omega))) dX12_begins_175 ?_
              refine gz_ev (w := .int ((F0 6) (Int32.toNatClampNeg (n0 5)))) (congrArg Value.int (congrFun ((hx14.2.2.1 6 (by decide)).trans (hx.2.2.1 6 (by decide))) _)) ?_
              refine gz_iconst (v := 1) dX12_begins_176 (by decide) ?_
              refine gz_iadd dX12_begins_177 ?_
              refine m_iast 6 hS_14 rfl (N := 22) rfl ((by exact vin_T (rfl : (n0 5).toInt = (n0 5).toInt) (by omega) (by omega))) dX12_begins_178 (fun f_15 hS_15q => ?_)
              have hS_15 : mS cy m a f0 n_14 z_14 (va_up F_14 6 (upd (F0 6) (Int32.toNatClampNeg (n0 5)) (((F0 6) (Int32.toNatClampNeg (n0 5))) + 1))) G_14 f_15 := (by have e9 := (show F_14 6 = (F0 6) from ((hx14.2.2.1 6 (by decide)).trans (hx.2.2.1 6 (by decide)))); rw [e9] at hS_15q; exact hS_15q)
              refine gz_aload_n dX12_begins_179 rfl rfl ?_
              refine mg_20 hS_15 dX12_begins_180 ?_
              refine gz_iload dX12_begins_183 rfl ?_
              refine gz_iload dX12_begins_185 rfl ?_
              refine m_iast 7 hS_15 rfl (N := 880) rfl ((by exact vin_T (rfl : iw.toInt = iw.toInt) (by omega) (by omega))) dX12_begins_187 (fun f_16 hS_16q => ?_)
              have hS_16 : mS cy m a f0 n_14 z_14 (va_up (va_up F_14 6 (upd (F0 6) (Int32.toNatClampNeg (n0 5)) (((F0 6) (Int32.toNatClampNeg (n0 5))) + 1))) 7 (upd (F0 7) (Int32.toNatClampNeg iw) kd)) G_14 f_16 := (by have e9 := (show (va_up F_14 6 (upd (F0 6) (Int32.toNatClampNeg (n0 5)) (((F0 6) (Int32.toNatClampNeg (n0 5))) + 1))) 7 = (F0 7) from ((hx14.2.2.1 7 (by decide)).trans (hx.2.2.1 7 (by decide)))); rw [e9] at hS_16q; exact hS_16q)
              refine gz_aload_n dX12_begins_188 rfl rfl ?_
              refine mg_23 hS_16 dX12_begins_189 ?_
              refine gz_iload dX12_begins_192 rfl ?_
              refine gz_iconst (v := (-1)) dX12_begins_194 (by decide) ?_
              refine m_iast 8 hS_16 rfl (N := 880) rfl ((by exact vin_T (rfl : iw.toInt = iw.toInt) (by omega) (by omega))) dX12_begins_195 (fun f_17 hS_17q => ?_)
              have hS_17 : mS cy m a f0 n_14 z_14 (va_up (va_up (va_up F_14 6 (upd (F0 6) (Int32.toNatClampNeg (n0 5)) (((F0 6) (Int32.toNatClampNeg (n0 5))) + 1))) 7 (upd (F0 7) (Int32.toNatClampNeg iw) kd)) 8 (upd (F0 8) (Int32.toNatClampNeg iw) (-1))) G_14 f_17 := (by have e9 := (show (va_up (va_up F_14 6 (upd (F0 6) (Int32.toNatClampNeg (n0 5)) (((F0 6) (Int32.toNatClampNeg (n0 5))) + 1))) 7 (upd (F0 7) (Int32.toNatClampNeg iw) kd)) 8 = (F0 8) from ((hx14.2.2.1 8 (by decide)).trans (hx.2.2.1 8 (by decide)))); rw [e9] at hS_17q; exact hS_17q)
              refine gz_aload_n dX12_begins_196 rfl rfl ?_
              refine mg_26 hS_17 dX12_begins_197 ?_
              refine gz_iload dX12_begins_200 rfl ?_
              refine gz_iload dX12_begins_202 rfl ?_
              refine m_iast 9 hS_17 rfl (N := 880) rfl ((by exact vin_T (rfl : iw.toInt = iw.toInt) (by omega) (by omega))) dX12_begins_204 (fun f_18 hS_18q => ?_)
              have hS_18 : mS cy m a f0 n_14 z_14 (va_up (va_up (va_up (va_up F_14 6 (upd (F0 6) (Int32.toNatClampNeg (n0 5)) (((F0 6) (Int32.toNatClampNeg (n0 5))) + 1))) 7 (upd (F0 7) (Int32.toNatClampNeg iw) kd)) 8 (upd (F0 8) (Int32.toNatClampNeg iw) (-1))) 9 (upd (F0 9) (Int32.toNatClampNeg iw) ar)) G_14 f_18 := (by have e9 := (show (va_up (va_up (va_up F_14 6 (upd (F0 6) (Int32.toNatClampNeg (n0 5)) (((F0 6) (Int32.toNatClampNeg (n0 5))) + 1))) 7 (upd (F0 7) (Int32.toNatClampNeg iw) kd)) 8 (upd (F0 8) (Int32.toNatClampNeg iw) (-1))) 9 = (F0 9) from ((hx14.2.2.1 9 (by decide)).trans (hx.2.2.1 9 (by decide)))); rw [e9] at hS_18q; exact hS_18q)
              refine gz_aload_n dX12_begins_205 rfl rfl ?_
              refine mg_29 hS_18 dX12_begins_206 ?_
              refine gz_iload dX12_begins_209 rfl ?_
              refine gz_iload dX12_begins_211 rfl ?_
              refine m_iast 10 hS_18 rfl (N := 880) rfl ((by exact vin_T (rfl : iw.toInt = iw.toInt) (by omega) (by omega))) dX12_begins_213 (fun f_19 hS_19q => ?_)
              have hS_19 : mS cy m a f0 n_14 z_14 (va_up (va_up (va_up (va_up (va_up F_14 6 (upd (F0 6) (Int32.toNatClampNeg (n0 5)) (((F0 6) (Int32.toNatClampNeg (n0 5))) + 1))) 7 (upd (F0 7) (Int32.toNatClampNeg iw) kd)) 8 (upd (F0 8) (Int32.toNatClampNeg iw) (-1))) 9 (upd (F0 9) (Int32.toNatClampNeg iw) ar)) 10 (upd (F0 10) (Int32.toNatClampNeg iw) (-1))) G_14 f_19 := (by have e9 := (show (va_up (va_up (va_up (va_up F_14 6 (upd (F0 6) (Int32.toNatClampNeg (n0 5)) (((F0 6) (Int32.toNatClampNeg (n0 5))) + 1))) 7 (upd (F0 7) (Int32.toNatClampNeg iw) kd)) 8 (upd (F0 8) (Int32.toNatClampNeg iw) (-1))) 9 (upd (F0 9) (Int32.toNatClampNeg iw) ar)) 10 = (F0 10) from ((hx14.2.2.1 10 (by decide)).trans (hx.2.2.1 10 (by decide)))); rw [e9] at hS_19q; exact hS_19q)
              refine gz_aload_n dX12_begins_214 rfl rfl ?_
              refine mg_38 hS_19 dX12_begins_215 ?_
              refine gz_iload dX12_begins_218 rfl ?_
              refine gz_iconst (v := 0) dX12_begins_220 (by decide) ?_
              refine m_iast 13 hS_19 rfl (N := 880) rfl ((by exact vin_T (rfl : iw.toInt = iw.toInt) (by omega) (by omega))) dX12_begins_221 (fun f_20 hS_20q => ?_)
              have hS_20 : mS cy m a f0 n_14 z_14 (va_up (va_up (va_up (va_up (va_up (va_up F_14 6 (upd (F0 6) (Int32.toNatClampNeg (n0 5)) (((F0 6) (Int32.toNatClampNeg (n0 5))) + 1))) 7 (upd (F0 7) (Int32.toNatClampNeg iw) kd)) 8 (upd (F0 8) (Int32.toNatClampNeg iw) (-1))) 9 (upd (F0 9) (Int32.toNatClampNeg iw) ar)) 10 (upd (F0 10) (Int32.toNatClampNeg iw) (-1))) 13 (upd (F0 13) (Int32.toNatClampNeg iw) 0)) G_14 f_20 := (by have e9 := (show (va_up (va_up (va_up (va_up (va_up F_14 6 (upd (F0 6) (Int32.toNatClampNeg (n0 5)) (((F0 6) (Int32.toNatClampNeg (n0 5))) + 1))) 7 (upd (F0 7) (Int32.toNatClampNeg iw) kd)) 8 (upd (F0 8) (Int32.toNatClampNeg iw) (-1))) 9 (upd (F0 9) (Int32.toNatClampNeg iw) ar)) 10 (upd (F0 10) (Int32.toNatClampNeg iw) (-1))) 13 = (F0 13) from ((hx14.2.2.1 13 (by decide)).trans (hx.2.2.1 13 (by decide)))); rw [e9] at hS_20q; exact hS_20q)
              refine gz_aload_n dX12_begins_222 rfl rfl ?_
              refine mg_41 hS_20 dX12_begins_223 ?_
              refine gz_iload dX12_begins_226 rfl ?_
              refine gz_iconst (v := 0) dX12_begins_228 (by decide) ?_
              refine m_iast 14 hS_20 rfl (N := 880) rfl ((by exact vin_T (rfl : iw.toInt = iw.toInt) (by omega) (by omega))) dX12_begins_229 (fun f_21 hS_21q => ?_)
              have hS_21 : mS cy m a f0 n_14 z_14 (va_up (va_up (va_up (va_up (va_up (va_up (va_up F_14 6 (upd (F0 6) (Int32.toNatClampNeg (n0 5)) (((F0 6) (Int32.toNatClampNeg (n0 5))) + 1))) 7 (upd (F0 7) (Int32.toNatClampNeg iw) kd)) 8 (upd (F0 8) (Int32.toNatClampNeg iw) (-1))) 9 (upd (F0 9) (Int32.toNatClampNeg iw) ar)) 10 (upd (F0 10) (Int32.toNatClampNeg iw) (-1))) 13 (upd (F0 13) (Int32.toNatClampNeg iw) 0)) 14 (upd (F0 14) (Int32.toNatClampNeg iw) 0)) G_14 f_21 := (by have e9 := (show (va_up (va_up (va_up (va_up (va_up (va_up F_14 6 (upd (F0 6) (Int32.toNatClampNeg (n0 5)) (((F0 6) (Int32.toNatClampNeg (n0 5))) + 1))) 7 (upd (F0 7) (Int32.toNatClampNeg iw) kd)) 8 (upd (F0 8) (Int32.toNatClampNeg iw) (-1))) 9 (upd (F0 9) (Int32.toNatClampNeg iw) ar)) 10 (upd (F0 10) (Int32.toNatClampNeg iw) (-1))) 13 (upd (F0 13) (Int32.toNatClampNeg iw) 0)) 14 = (F0 14) from ((hx14.2.2.1 14 (by decide)).trans (hx.2.2.1 14 (by decide)))); rw [e9] at hS_21q; exact hS_21q)
              refine gz_aload_n dX12_begins_230 rfl rfl ?_
              refine mg_44 hS_21 dX12_begins_231 ?_
              refine gz_iload dX12_begins_234 rfl ?_
              refine gz_iconst (v := 0) dX12_begins_236 (by decide) ?_
              refine m_iast 15 hS_21 rfl (N := 880) rfl ((by exact vin_T (rfl : iw.toInt = iw.toInt) (by omega) (by omega))) dX12_begins_237 (fun f_22 hS_22q => ?_)
              have hS_22 : mS cy m a f0 n_14 z_14 (va_up (va_up (va_up (va_up (va_up (va_up (va_up (va_up F_14 6 (upd (F0 6) (Int32.toNatClampNeg (n0 5)) (((F0 6) (Int32.toNatClampNeg (n0 5))) + 1))) 7 (upd (F0 7) (Int32.toNatClampNeg iw) kd)) 8 (upd (F0 8) (Int32.toNatClampNeg iw) (-1))) 9 (upd (F0 9) (Int32.toNatClampNeg iw) ar)) 10 (upd (F0 10) (Int32.toNatClampNeg iw) (-1))) 13 (upd (F0 13) (Int32.toNatClampNeg iw) 0)) 14 (upd (F0 14) (Int32.toNatClampNeg iw) 0)) 15 (upd (F0 15) (Int32.toNatClampNeg iw) 0)) G_14 f_22 := (by have e9 := (show (va_up (va_up (va_up (va_up (va_up (va_up (va_up F_14 6 (upd (F0 6) (Int32.toNatClampNeg (n0 5)) (((F0 6) (Int32.toNatClampNeg (n0 5))) + 1))) 7 (upd (F0 7) (Int32.toNatClampNeg iw) kd)) 8 (upd (F0 8) (Int32.toNatClampNeg iw) (-1))) 9 (upd (F0 9) (Int32.toNatClampNeg iw) ar)) 10 (upd (F0 10) (Int32.toNatClampNeg iw) (-1))) 13 (upd (F0 13) (Int32.toNatClampNeg iw) 0)) 14 (upd (F0 14) (Int32.toNatClampNeg iw) 0)) 15 = (F0 15) from ((hx14.2.2.1 15 (by decide)).trans (hx.2.2.1 15 (by decide)))); rw [e9] at hS_22q; exact hS_22q)
              refine gz_aload_n dX12_begins_238 rfl rfl ?_
              refine mg_319 hS_22 dX12_begins_239 ?_
              refine gz_ev (w := .int (n0 24)) (congrArg Value.int ((hx14.1 24 (by decide)).trans (hx.1 24 (by decide)))) ?_
              refine gz_if_le (tgt := 272) dX12_begins_242 (by decide) (fun c_242 => ?_) (fun c_242 => ?_)
              ·
                try simp only [mIn_0, lgc_lt, lgc_gt, lgc_le, lgc_ge, lgc_eq] at c_242
                try simp only [fl_lt, fl_le, fl_eq, fL_w, fL_lt, fL_le, tm1, tm10k, tm9, tm99, Int32.reduceToInt, Int64.reduceToInt, Int.not_lt, Int.not_le] at c_242
                refine gz_aload_n dX12_begins_272 rfl rfl ?_
                refine mg_319 hS_22 dX12_begins_273 ?_
                refine gz_ev (w := .int (n0 24)) (congrArg Value.int ((hx14.1 24 (by decide)).trans (hx.1 24 (by decide)))) ?_
                refine gz_if_le (tgt := 288) dX12_begins_276 (by decide) (fun c_276 => ?_) (fun c_276 => ?_)
                ·
                  try simp only [mIn_0, lgc_lt, lgc_gt, lgc_le, lgc_ge, lgc_eq] at c_276
                  try simp only [fl_lt, fl_le, fl_eq, fL_w, fL_lt, fL_le, tm1, tm10k, tm9, tm99, Int32.reduceToInt, Int64.reduceToInt, Int.not_lt, Int.not_le] at c_276
                  have s6_ : (va_up (va_up (va_up (va_up (va_up (va_up (va_up (va_up F_14 6 (upd (F0 6) (Int32.toNatClampNeg (n0 5)) (((F0 6) (Int32.toNatClampNeg (n0 5))) + 1))) 7 (upd (F0 7) (Int32.toNatClampNeg iw) kd)) 8 (upd (F0 8) (Int32.toNatClampNeg iw) (-1))) 9 (upd (F0 9) (Int32.toNatClampNeg iw) ar)) 10 (upd (F0 10) (Int32.toNatClampNeg iw) (-1))) 13 (upd (F0 13) (Int32.toNatClampNeg iw) 0)) 14 (upd (F0 14) (Int32.toNatClampNeg iw) 0)) 15 (upd (F0 15) (Int32.toNatClampNeg iw) 0)) 6 = (upd (F0 6) (Int32.toNatClampNeg (n0 5)) (((F0 6) (Int32.toNatClampNeg (n0 5))) + 1)) := rfl
                  have s7_ : (va_up (va_up (va_up (va_up (va_up (va_up (va_up (va_up F_14 6 (upd (F0 6) (Int32.toNatClampNeg (n0 5)) (((F0 6) (Int32.toNatClampNeg (n0 5))) + 1))) 7 (upd (F0 7) (Int32.toNatClampNeg iw) kd)) 8 (upd (F0 8) (Int32.toNatClampNeg iw) (-1))) 9 (upd (F0 9) (Int32.toNatClampNeg iw) ar)) 10 (upd (F0 10) (Int32.toNatClampNeg iw) (-1))) 13 (upd (F0 13) (Int32.toNatClampNeg iw) 0)) 14 (upd (F0 14) (Int32.toNatClampNeg iw) 0)) 15 (upd (F0 15) (Int32.toNatClampNeg iw) 0)) 7 = (upd (F0 7) (Int32.toNatClampNeg iw) kd) := rfl
                  have s9_ : (va_up (va_up (va_up (va_up (va_up (va_up (va_up (va_up F_14 6 (upd (F0 6) (Int32.toNatClampNeg (n0 5)) (((F0 6) (Int32.toNatClampNeg (n0 5))) + 1))) 7 (upd (F0 7) (Int32.toNatClampNeg iw) kd)) 8 (upd (F0 8) (Int32.toNatClampNeg iw) (-1))) 9 (upd (F0 9) (Int32.toNatClampNeg iw) ar)) 10 (upd (F0 10) (Int32.toNatClampNeg iw) (-1))) 13 (upd (F0 13) (Int32.toNatClampNeg iw) 0)) 14 (upd (F0 14) (Int32.toNatClampNeg iw) 0)) 15 (upd (F0 15) (Int32.toNatClampNeg iw) 0)) 9 = (upd (F0 9) (Int32.toNatClampNeg iw) ar) := rfl
                  have s10_ : (va_up (va_up (va_up (va_up (va_up (va_up (va_up (va_up F_14 6 (upd (F0 6) (Int32.toNatClampNeg (n0 5)) (((F0 6) (Int32.toNatClampNeg (n0 5))) + 1))) 7 (upd (F0 7) (Int32.toNatClampNeg iw) kd)) 8 (upd (F0 8) (Int32.toNatClampNeg iw) (-1))) 9 (upd (F0 9) (Int32.toNatClampNeg iw) ar)) 10 (upd (F0 10) (Int32.toNatClampNeg iw) (-1))) 13 (upd (F0 13) (Int32.toNatClampNeg iw) 0)) 14 (upd (F0 14) (Int32.toNatClampNeg iw) 0)) 15 (upd (F0 15) (Int32.toNatClampNeg iw) 0)) 10 = (upd (F0 10) (Int32.toNatClampNeg iw) (-1)) := rfl
                  have s11_ : (va_up (va_up (va_up (va_up (va_up (va_up (va_up (va_up F_14 6 (upd (F0 6) (Int32.toNatClampNeg (n0 5)) (((F0 6) (Int32.toNatClampNeg (n0 5))) + 1))) 7 (upd (F0 7) (Int32.toNatClampNeg iw) kd)) 8 (upd (F0 8) (Int32.toNatClampNeg iw) (-1))) 9 (upd (F0 9) (Int32.toNatClampNeg iw) ar)) 10 (upd (F0 10) (Int32.toNatClampNeg iw) (-1))) 13 (upd (F0 13) (Int32.toNatClampNeg iw) 0)) 14 (upd (F0 14) (Int32.toNatClampNeg iw) 0)) 15 (upd (F0 15) (Int32.toNatClampNeg iw) 0)) 11 = (F0 11) := ((hx14.2.2.1 11 (by decide)).trans (hx.2.2.1 11 (by decide)))
                  have s12_ : (va_up (va_up (va_up (va_up (va_up (va_up (va_up (va_up F_14 6 (upd (F0 6) (Int32.toNatClampNeg (n0 5)) (((F0 6) (Int32.toNatClampNeg (n0 5))) + 1))) 7 (upd (F0 7) (Int32.toNatClampNeg iw) kd)) 8 (upd (F0 8) (Int32.toNatClampNeg iw) (-1))) 9 (upd (F0 9) (Int32.toNatClampNeg iw) ar)) 10 (upd (F0 10) (Int32.toNatClampNeg iw) (-1))) 13 (upd (F0 13) (Int32.toNatClampNeg iw) 0)) 14 (upd (F0 14) (Int32.toNatClampNeg iw) 0)) 15 (upd (F0 15) (Int32.toNatClampNeg iw) 0)) 12 = (F0 12) := ((hx14.2.2.1 12 (by decide)).trans (hx.2.2.1 12 (by decide)))
                  have s13_ : (va_up (va_up (va_up (va_up (va_up (va_up (va_up (va_up F_14 6 (upd (F0 6) (Int32.toNatClampNeg (n0 5)) (((F0 6) (Int32.toNatClampNeg (n0 5))) + 1))) 7 (upd (F0 7) (Int32.toNatClampNeg iw) kd)) 8 (upd (F0 8) (Int32.toNatClampNeg iw) (-1))) 9 (upd (F0 9) (Int32.toNatClampNeg iw) ar)) 10 (upd (F0 10) (Int32.toNatClampNeg iw) (-1))) 13 (upd (F0 13) (Int32.toNatClampNeg iw) 0)) 14 (upd (F0 14) (Int32.toNatClampNeg iw) 0)) 15 (upd (F0 15) (Int32.toNatClampNeg iw) 0)) 13 = (upd (F0 13) (Int32.toNatClampNeg iw) 0) := rfl
                  have s14_ : (va_up (va_up (va_up (va_up (va_up (va_up (va_up (va_up F_14 6 (upd (F0 6) (Int32.toNatClampNeg (n0 5)) (((F0 6) (Int32.toNatClampNeg (n0 5))) + 1))) 7 (upd (F0 7) (Int32.toNatClampNeg iw) kd)) 8 (upd (F0 8) (Int32.toNatClampNeg iw) (-1))) 9 (upd (F0 9) (Int32.toNatClampNeg iw) ar)) 10 (upd (F0 10) (Int32.toNatClampNeg iw) (-1))) 13 (upd (F0 13) (Int32.toNatClampNeg iw) 0)) 14 (upd (F0 14) (Int32.toNatClampNeg iw) 0)) 15 (upd (F0 15) (Int32.toNatClampNeg iw) 0)) 14 = (upd (F0 14) (Int32.toNatClampNeg iw) 0) := rfl
                  have s15_ : (va_up (va_up (va_up (va_up (va_up (va_up (va_up (va_up F_14 6 (upd (F0 6) (Int32.toNatClampNeg (n0 5)) (((F0 6) (Int32.toNatClampNeg (n0 5))) + 1))) 7 (upd (F0 7) (Int32.toNatClampNeg iw) kd)) 8 (upd (F0 8) (Int32.toNatClampNeg iw) (-1))) 9 (upd (F0 9) (Int32.toNatClampNeg iw) ar)) 10 (upd (F0 10) (Int32.toNatClampNeg iw) (-1))) 13 (upd (F0 13) (Int32.toNatClampNeg iw) 0)) 14 (upd (F0 14) (Int32.toNatClampNeg iw) 0)) 15 (upd (F0 15) (Int32.toNatClampNeg iw) 0)) 15 = (upd (F0 15) (Int32.toNatClampNeg iw) 0) := rfl
                  have s17_ : (va_up (va_up (va_up (va_up (va_up (va_up (va_up (va_up F_14 6 (upd (F0 6) (Int32.toNatClampNeg (n0 5)) (((F0 6) (Int32.toNatClampNeg (n0 5))) + 1))) 7 (upd (F0 7) (Int32.toNatClampNeg iw) kd)) 8 (upd (F0 8) (Int32.toNatClampNeg iw) (-1))) 9 (upd (F0 9) (Int32.toNatClampNeg iw) ar)) 10 (upd (F0 10) (Int32.toNatClampNeg iw) (-1))) 13 (upd (F0 13) (Int32.toNatClampNeg iw) 0)) 14 (upd (F0 14) (Int32.toNatClampNeg iw) 0)) 15 (upd (F0 15) (Int32.toNatClampNeg iw) 0)) 17 = (F0 17) := ((hx14.2.2.1 17 (by decide)).trans (hx.2.2.1 17 (by decide)))
                  have s19_ : (va_up (va_up (va_up (va_up (va_up (va_up (va_up (va_up F_14 6 (upd (F0 6) (Int32.toNatClampNeg (n0 5)) (((F0 6) (Int32.toNatClampNeg (n0 5))) + 1))) 7 (upd (F0 7) (Int32.toNatClampNeg iw) kd)) 8 (upd (F0 8) (Int32.toNatClampNeg iw) (-1))) 9 (upd (F0 9) (Int32.toNatClampNeg iw) ar)) 10 (upd (F0 10) (Int32.toNatClampNeg iw) (-1))) 13 (upd (F0 13) (Int32.toNatClampNeg iw) 0)) 14 (upd (F0 14) (Int32.toNatClampNeg iw) 0)) 15 (upd (F0 15) (Int32.toNatClampNeg iw) 0)) 19 = (F0 19) := ((hx14.2.2.1 19 (by decide)).trans (hx.2.2.1 19 (by decide)))
                  have h6 : ((va_up (va_up (va_up (va_up (va_up (va_up (va_up (va_up F_14 6 (upd (F0 6) (Int32.toNatClampNeg (n0 5)) (((F0 6) (Int32.toNatClampNeg (n0 5))) + 1))) 7 (upd (F0 7) (Int32.toNatClampNeg iw) kd)) 8 (upd (F0 8) (Int32.toNatClampNeg iw) (-1))) 9 (upd (F0 9) (Int32.toNatClampNeg iw) ar)) 10 (upd (F0 10) (Int32.toNatClampNeg iw) (-1))) 13 (upd (F0 13) (Int32.toNatClampNeg iw) 0)) 14 (upd (F0 14) (Int32.toNatClampNeg iw) 0)) 15 (upd (F0 15) (Int32.toNatClampNeg iw) 0)) 6 f).toInt = (W : Int) + 1 := by rw [s6_, ecf, updE, if_pos rfl]; have q := T_add g6.1 (show (1 : Int32).toInt = 1 from rfl) (by omega); exact q
                  have off : ∀ r, r ∈ [7, 9, 10, 13, 14, 15] → ∀ i, i ≠ (40 * f + W) → (va_up (va_up (va_up (va_up (va_up (va_up (va_up (va_up F_14 6 (upd (F0 6) (Int32.toNatClampNeg (n0 5)) (((F0 6) (Int32.toNatClampNeg (n0 5))) + 1))) 7 (upd (F0 7) (Int32.toNatClampNeg iw) kd)) 8 (upd (F0 8) (Int32.toNatClampNeg iw) (-1))) 9 (upd (F0 9) (Int32.toNatClampNeg iw) ar)) 10 (upd (F0 10) (Int32.toNatClampNeg iw) (-1))) 13 (upd (F0 13) (Int32.toNatClampNeg iw) 0)) 14 (upd (F0 14) (Int32.toNatClampNeg iw) 0)) 15 (upd (F0 15) (Int32.toNatClampNeg iw) 0)) r i = F0 r i := by
                    intro r hr i hi
                    rw [← eci] at hi
                    simp only [List.mem_cons, List.not_mem_nil, or_false] at hr
                    rcases hr with rfl | rfl | rfl | rfl | rfl | rfl
                    · rw [s7_, updE, if_neg hi]
                    · rw [s9_, updE, if_neg hi]
                    · rw [s10_, updE, if_neg hi]
                    · rw [s13_, updE, if_neg hi]
                    · rw [s14_, updE, if_neg hi]
                    · rw [s15_, updE, if_neg hi]
                  have hg : ∀ g, g < f → agF F0 (va_up (va_up (va_up (va_up (va_up (va_up (va_up (va_up F_14 6 (upd (F0 6) (Int32.toNatClampNeg (n0 5)) (((F0 6) (Int32.toNatClampNeg (n0 5))) + 1))) 7 (upd (F0 7) (Int32.toNatClampNeg iw) kd)) 8 (upd (F0 8) (Int32.toNatClampNeg iw) (-1))) 9 (upd (F0 9) (Int32.toNatClampNeg iw) ar)) 10 (upd (F0 10) (Int32.toNatClampNeg iw) (-1))) 13 (upd (F0 13) (Int32.toNatClampNeg iw) 0)) 14 (upd (F0 14) (Int32.toNatClampNeg iw) 0)) 15 (upd (F0 15) (Int32.toNatClampNeg iw) 0)) g := by
                    intro g hgf
                    refine ⟨by rw [s6_, ecf, updE, if_neg (by omega)], fun r hr k hk => ?_⟩
                    simp only [List.mem_cons, List.not_mem_nil, or_false] at hr
                    rcases hr with rfl | rfl | rfl | rfl | rfl | rfl | rfl | rfl
                    · exact off 7 (by decide) _ (by omega)
                    · exact off 9 (by decide) _ (by omega)
                    · exact off 10 (by decide) _ (by omega)
                    · rw [s11_]
                    · rw [s12_]
                    · exact off 13 (by decide) _ (by omega)
                    · exact off 14 (by decide) _ (by omega)
                    · exact off 15 (by decide) _ (by omega)
                  have ho : ∀ i p : Nat, O = i + 1 → p < W → (F0 25 i).toInt = 40 * f + p → (∀ k, k < W → if k = p ∧ asB F0 i = false then ((va_up (va_up (va_up (va_up (va_up (va_up (va_up (va_up F_14 6 (upd (F0 6) (Int32.toNatClampNeg (n0 5)) (((F0 6) (Int32.toNatClampNeg (n0 5))) + 1))) 7 (upd (F0 7) (Int32.toNatClampNeg iw) kd)) 8 (upd (F0 8) (Int32.toNatClampNeg iw) (-1))) 9 (upd (F0 9) (Int32.toNatClampNeg iw) ar)) 10 (upd (F0 10) (Int32.toNatClampNeg iw) (-1))) 13 (upd (F0 13) (Int32.toNatClampNeg iw) 0)) 14 (upd (F0 14) (Int32.toNatClampNeg iw) 0)) 15 (upd (F0 15) (Int32.toNatClampNeg iw) 0)) 11 (40 * f + k)).toInt = 40 * f + W else (va_up (va_up (va_up (va_up (va_up (va_up (va_up (va_up F_14 6 (upd (F0 6) (Int32.toNatClampNeg (n0 5)) (((F0 6) (Int32.toNatClampNeg (n0 5))) + 1))) 7 (upd (F0 7) (Int32.toNatClampNeg iw) kd)) 8 (upd (F0 8) (Int32.toNatClampNeg iw) (-1))) 9 (upd (F0 9) (Int32.toNatClampNeg iw) ar)) 10 (upd (F0 10) (Int32.toNatClampNeg iw) (-1))) 13 (upd (F0 13) (Int32.toNatClampNeg iw) 0)) 14 (upd (F0 14) (Int32.toNatClampNeg iw) 0)) 15 (upd (F0 15) (Int32.toNatClampNeg iw) 0)) 11 (40 * f + k) = F0 11 (40 * f + k)) ∧ (∀ k, k < W → if k = p ∧ asB F0 i = true then ((va_up (va_up (va_up (va_up (va_up (va_up (va_up (va_up F_14 6 (upd (F0 6) (Int32.toNatClampNeg (n0 5)) (((F0 6) (Int32.toNatClampNeg (n0 5))) + 1))) 7 (upd (F0 7) (Int32.toNatClampNeg iw) kd)) 8 (upd (F0 8) (Int32.toNatClampNeg iw) (-1))) 9 (upd (F0 9) (Int32.toNatClampNeg iw) ar)) 10 (upd (F0 10) (Int32.toNatClampNeg iw) (-1))) 13 (upd (F0 13) (Int32.toNatClampNeg iw) 0)) 14 (upd (F0 14) (Int32.toNatClampNeg iw) 0)) 15 (upd (F0 15) (Int32.toNatClampNeg iw) 0)) 12 (40 * f + k)).toInt = 40 * f + W else (va_up (va_up (va_up (va_up (va_up (va_up (va_up (va_up F_14 6 (upd (F0 6) (Int32.toNatClampNeg (n0 5)) (((F0 6) (Int32.toNatClampNeg (n0 5))) + 1))) 7 (upd (F0 7) (Int32.toNatClampNeg iw) kd)) 8 (upd (F0 8) (Int32.toNatClampNeg iw) (-1))) 9 (upd (F0 9) (Int32.toNatClampNeg iw) ar)) 10 (upd (F0 10) (Int32.toNatClampNeg iw) (-1))) 13 (upd (F0 13) (Int32.toNatClampNeg iw) 0)) 14 (upd (F0 14) (Int32.toNatClampNeg iw) 0)) 15 (upd (F0 15) (Int32.toNatClampNeg iw) 0)) 12 (40 * f + k) = F0 12 (40 * f + k)) ∧ ((va_up (va_up (va_up (va_up (va_up (va_up (va_up (va_up F_14 6 (upd (F0 6) (Int32.toNatClampNeg (n0 5)) (((F0 6) (Int32.toNatClampNeg (n0 5))) + 1))) 7 (upd (F0 7) (Int32.toNatClampNeg iw) kd)) 8 (upd (F0 8) (Int32.toNatClampNeg iw) (-1))) 9 (upd (F0 9) (Int32.toNatClampNeg iw) ar)) 10 (upd (F0 10) (Int32.toNatClampNeg iw) (-1))) 13 (upd (F0 13) (Int32.toNatClampNeg iw) 0)) 14 (upd (F0 14) (Int32.toNatClampNeg iw) 0)) 15 (upd (F0 15) (Int32.toNatClampNeg iw) 0)) 10 (40 * f + W)).toInt = 40 * f + p := by
                    intro i_ p_ ei_ hp_ ep_
                    exfalso; omega
                  have hb : RDb F0 (va_up (va_up (va_up (va_up (va_up (va_up (va_up (va_up F_14 6 (upd (F0 6) (Int32.toNatClampNeg (n0 5)) (((F0 6) (Int32.toNatClampNeg (n0 5))) + 1))) 7 (upd (F0 7) (Int32.toNatClampNeg iw) kd)) 8 (upd (F0 8) (Int32.toNatClampNeg iw) (-1))) 9 (upd (F0 9) (Int32.toNatClampNeg iw) ar)) 10 (upd (F0 10) (Int32.toNatClampNeg iw) (-1))) 13 (upd (F0 13) (Int32.toNatClampNeg iw) 0)) 14 (upd (F0 14) (Int32.toNatClampNeg iw) 0)) 15 (upd (F0 15) (Int32.toNatClampNeg iw) 0)) f W O := ⟨h6, hg, fun r hr k hk => off r hr _ (by omega), ho, fun _ => by rw [s10_, ← eci, updE, if_pos rfl]; rfl, by unfold arF; rw [s9_, ← eci, updE, if_pos rfl]; exact qar, by omega⟩
                  have hA8 : rAll (va_up (va_up (va_up (va_up (va_up (va_up (va_up (va_up F_14 6 (upd (F0 6) (Int32.toNatClampNeg (n0 5)) (((F0 6) (Int32.toNatClampNeg (n0 5))) + 1))) 7 (upd (F0 7) (Int32.toNatClampNeg iw) kd)) 8 (upd (F0 8) (Int32.toNatClampNeg iw) (-1))) 9 (upd (F0 9) (Int32.toNatClampNeg iw) ar)) 10 (upd (F0 10) (Int32.toNatClampNeg iw) (-1))) 13 (upd (F0 13) (Int32.toNatClampNeg iw) 0)) 14 (upd (F0 14) (Int32.toNatClampNeg iw) 0)) 15 (upd (F0 15) (Int32.toNatClampNeg iw) 0)) := by
                    intro q hq
                    obtain ⟨qa0, qb0, qc0, qd0⟩ := gA q hq
                    rw [show (va_up (va_up (va_up (va_up (va_up (va_up (va_up (va_up F_14 6 (upd (F0 6) (Int32.toNatClampNeg (n0 5)) (((F0 6) (Int32.toNatClampNeg (n0 5))) + 1))) 7 (upd (F0 7) (Int32.toNatClampNeg iw) kd)) 8 (upd (F0 8) (Int32.toNatClampNeg iw) (-1))) 9 (upd (F0 9) (Int32.toNatClampNeg iw) ar)) 10 (upd (F0 10) (Int32.toNatClampNeg iw) (-1))) 13 (upd (F0 13) (Int32.toNatClampNeg iw) 0)) 14 (upd (F0 14) (Int32.toNatClampNeg iw) 0)) 15 (upd (F0 15) (Int32.toNatClampNeg iw) 0)) 13 = (upd (F0 13) (Int32.toNatClampNeg iw) 0) from rfl, show (va_up (va_up (va_up (va_up (va_up (va_up (va_up (va_up F_14 6 (upd (F0 6) (Int32.toNatClampNeg (n0 5)) (((F0 6) (Int32.toNatClampNeg (n0 5))) + 1))) 7 (upd (F0 7) (Int32.toNatClampNeg iw) kd)) 8 (upd (F0 8) (Int32.toNatClampNeg iw) (-1))) 9 (upd (F0 9) (Int32.toNatClampNeg iw) ar)) 10 (upd (F0 10) (Int32.toNatClampNeg iw) (-1))) 13 (upd (F0 13) (Int32.toNatClampNeg iw) 0)) 14 (upd (F0 14) (Int32.toNatClampNeg iw) 0)) 15 (upd (F0 15) (Int32.toNatClampNeg iw) 0)) 14 = (upd (F0 14) (Int32.toNatClampNeg iw) 0) from rfl, show (va_up (va_up (va_up (va_up (va_up (va_up (va_up (va_up F_14 6 (upd (F0 6) (Int32.toNatClampNeg (n0 5)) (((F0 6) (Int32.toNatClampNeg (n0 5))) + 1))) 7 (upd (F0 7) (Int32.toNatClampNeg iw) kd)) 8 (upd (F0 8) (Int32.toNatClampNeg iw) (-1))) 9 (upd (F0 9) (Int32.toNatClampNeg iw) ar)) 10 (upd (F0 10) (Int32.toNatClampNeg iw) (-1))) 13 (upd (F0 13) (Int32.toNatClampNeg iw) 0)) 14 (upd (F0 14) (Int32.toNatClampNeg iw) 0)) 15 (upd (F0 15) (Int32.toNatClampNeg iw) 0)) 15 = (upd (F0 15) (Int32.toNatClampNeg iw) 0) from rfl, show (va_up (va_up (va_up (va_up (va_up (va_up (va_up (va_up F_14 6 (upd (F0 6) (Int32.toNatClampNeg (n0 5)) (((F0 6) (Int32.toNatClampNeg (n0 5))) + 1))) 7 (upd (F0 7) (Int32.toNatClampNeg iw) kd)) 8 (upd (F0 8) (Int32.toNatClampNeg iw) (-1))) 9 (upd (F0 9) (Int32.toNatClampNeg iw) ar)) 10 (upd (F0 10) (Int32.toNatClampNeg iw) (-1))) 13 (upd (F0 13) (Int32.toNatClampNeg iw) 0)) 14 (upd (F0 14) (Int32.toNatClampNeg iw) 0)) 15 (upd (F0 15) (Int32.toNatClampNeg iw) 0)) 19 = (F0 19) from ((hx14.2.2.1 19 (by decide)).trans (hx.2.2.1 19 (by decide)))]
                    refine ⟨?_, ?_, ?_, ?_⟩ <;> (try simp only [updE]) <;> (repeat' split) <;> first | omega | decide
                  have x13 : ((va_up (va_up (va_up (va_up (va_up (va_up (va_up (va_up F_14 6 (upd (F0 6) (Int32.toNatClampNeg (n0 5)) (((F0 6) (Int32.toNatClampNeg (n0 5))) + 1))) 7 (upd (F0 7) (Int32.toNatClampNeg iw) kd)) 8 (upd (F0 8) (Int32.toNatClampNeg iw) (-1))) 9 (upd (F0 9) (Int32.toNatClampNeg iw) ar)) 10 (upd (F0 10) (Int32.toNatClampNeg iw) (-1))) 13 (upd (F0 13) (Int32.toNatClampNeg iw) 0)) 14 (upd (F0 14) (Int32.toNatClampNeg iw) 0)) 15 (upd (F0 15) (Int32.toNatClampNeg iw) 0)) 13 (40 * f + W)).toInt = 0 := by rw [s13_, ← eci, updE, if_pos rfl]; rfl
                  have x14 : ((va_up (va_up (va_up (va_up (va_up (va_up (va_up (va_up F_14 6 (upd (F0 6) (Int32.toNatClampNeg (n0 5)) (((F0 6) (Int32.toNatClampNeg (n0 5))) + 1))) 7 (upd (F0 7) (Int32.toNatClampNeg iw) kd)) 8 (upd (F0 8) (Int32.toNatClampNeg iw) (-1))) 9 (upd (F0 9) (Int32.toNatClampNeg iw) ar)) 10 (upd (F0 10) (Int32.toNatClampNeg iw) (-1))) 13 (upd (F0 13) (Int32.toNatClampNeg iw) 0)) 14 (upd (F0 14) (Int32.toNatClampNeg iw) 0)) 15 (upd (F0 15) (Int32.toNatClampNeg iw) 0)) 14 (40 * f + W)).toInt = 0 := by rw [s14_, ← eci, updE, if_pos rfl]; rfl
                  have x15 : ((va_up (va_up (va_up (va_up (va_up (va_up (va_up (va_up F_14 6 (upd (F0 6) (Int32.toNatClampNeg (n0 5)) (((F0 6) (Int32.toNatClampNeg (n0 5))) + 1))) 7 (upd (F0 7) (Int32.toNatClampNeg iw) kd)) 8 (upd (F0 8) (Int32.toNatClampNeg iw) (-1))) 9 (upd (F0 9) (Int32.toNatClampNeg iw) ar)) 10 (upd (F0 10) (Int32.toNatClampNeg iw) (-1))) 13 (upd (F0 13) (Int32.toNatClampNeg iw) 0)) 14 (upd (F0 14) (Int32.toNatClampNeg iw) 0)) 15 (upd (F0 15) (Int32.toNatClampNeg iw) 0)) 15 (40 * f + W)).toInt = 0 := by rw [s15_, ← eci, updE, if_pos rfl]; rfl
                  have x7 : ((va_up (va_up (va_up (va_up (va_up (va_up (va_up (va_up F_14 6 (upd (F0 6) (Int32.toNatClampNeg (n0 5)) (((F0 6) (Int32.toNatClampNeg (n0 5))) + 1))) 7 (upd (F0 7) (Int32.toNatClampNeg iw) kd)) 8 (upd (F0 8) (Int32.toNatClampNeg iw) (-1))) 9 (upd (F0 9) (Int32.toNatClampNeg iw) ar)) 10 (upd (F0 10) (Int32.toNatClampNeg iw) (-1))) 13 (upd (F0 13) (Int32.toNatClampNeg iw) 0)) 14 (upd (F0 14) (Int32.toNatClampNeg iw) 0)) 15 (upd (F0 15) (Int32.toNatClampNeg iw) 0)) 7 (40 * f + W)).toInt = kd.toInt := by rw [s7_, ← eci, updE, if_pos rfl]
                  have x17 : ((va_up (va_up (va_up (va_up (va_up (va_up (va_up (va_up F_14 6 (upd (F0 6) (Int32.toNatClampNeg (n0 5)) (((F0 6) (Int32.toNatClampNeg (n0 5))) + 1))) 7 (upd (F0 7) (Int32.toNatClampNeg iw) kd)) 8 (upd (F0 8) (Int32.toNatClampNeg iw) (-1))) 9 (upd (F0 9) (Int32.toNatClampNeg iw) ar)) 10 (upd (F0 10) (Int32.toNatClampNeg iw) (-1))) 13 (upd (F0 13) (Int32.toNatClampNeg iw) 0)) 14 (upd (F0 14) (Int32.toNatClampNeg iw) 0)) 15 (upd (F0 15) (Int32.toNatClampNeg iw) 0)) 17 (Int32.toNatClampNeg (n0 5))).toInt = (F0 17 (Int32.toNatClampNeg (n0 5))).toInt := by rw [s17_]
                  have hE9 : ((kdR (tX (F0 3) (n0 4)) S0) ≤ 1 → bgR (tX (F0 3) (n0 4)) (n0 21).toInt.toNat W (F0 17 f).toInt.toNat O = .inr ((kdR (tX (F0 3) (n0 4)) S0), S0 + ltR (tX (F0 3) (n0 4)) S0, (F0 17 f).toInt.toNat)) ∧ (¬ (kdR (tX (F0 3) (n0 4)) S0) ≤ 1 → bgR (tX (F0 3) (n0 4)) (n0 21).toInt.toNat W (F0 17 f).toInt.toNat O = tlR (tX (F0 3) (n0 4)) (kdR (tX (F0 3) (n0 4)) S0) (hdR (tX (F0 3) (n0 4)) (kdR (tX (F0 3) (n0 4)) S0) (S0 + ltR (tX (F0 3) (n0 4)) S0) (F0 17 f).toInt.toNat)) := by
                    rw [bgR_st, ← hS0, if_neg h11, if_neg (by omega), if_neg (by omega)]
                    exact ⟨fun z => by rw [if_pos z], fun z => by rw [if_neg z]⟩
                  refine gz_sub (lv' := [(0, .ref m), (4, .int kd), (7, .int iw)]) (by simp [List.lookup]) ?_
                  exact l_X12_beginsEB (O := O) (K := (kdR (tX (F0 3) (n0 4)) S0)) (Q := S0 + ltR (tX (F0 3) (n0 4)) S0) (V1 := (F0 17 f).toInt.toNat) h5 hJ hB0 ⟨qiw, by omega⟩ ⟨by omega, by omega⟩ hE9 1 _ _ _ _ _ hS_22 (fx_F (fx_F (fx_F (fx_F (fx_F (fx_F (fx_F (fx_F (fx_tr (fx_tr fx_rf hx (by decide)) hx14 (by decide)) (by decide)) (by decide)) (by decide)) (by decide)) (by decide)) (by decide)) (by decide)) (by decide)) (by (try rw [(show n_14 21 = (n_14 21) from rfl)]); (try rw [(show n_14 4 = (n0 4) from ((hx14.1 4 (by decide)).trans (hx.1 4 (by decide))))]); omega) (by (try rw [(show n_14 21 = (n_14 21) from rfl)]); omega) hA8 hb x7 (by omega) (by omega) (by (try rw [(show n_14 22 = (n 22) from (hx14.1 22 (by decide)))]); omega) (by (try rw [(show n_14 21 = (n_14 21) from rfl)]); omega) (by omega) (by decide)
                ·
                  try simp only [mIn_0, lgc_lt, lgc_gt, lgc_le, lgc_ge, lgc_eq] at c_276
                  try simp only [fl_lt, fl_le, fl_eq, fL_w, fL_lt, fL_le, tm1, tm10k, tm9, tm99, Int32.reduceToInt, Int64.reduceToInt, Int.not_lt, Int.not_le] at c_276
                  exfalso; omega
              ·
                try simp only [mIn_0, lgc_lt, lgc_gt, lgc_le, lgc_ge, lgc_eq] at c_242
                try simp only [fl_lt, fl_le, fl_eq, fL_w, fL_lt, fL_le, tm1, tm10k, tm9, tm99, Int32.reduceToInt, Int64.reduceToInt, Int.not_lt, Int.not_le] at c_242
                exfalso; omega
            ·
              try simp only [mIn_0, lgc_lt, lgc_gt, lgc_le, lgc_ge, lgc_eq] at c_133
              try simp only [fl_lt, fl_le, fl_eq, fL_w, fL_lt, fL_le, tm1, tm10k, tm9, tm99, Int32.reduceToInt, Int64.reduceToInt, Int.not_lt, Int.not_le] at c_133
              refine gz_aload_n dX12_begins_136 rfl rfl ?_
              refine gz_iconst (v := 3) dX12_begins_137 (by decide) ?_
              refine gz_iload_n dX12_begins_138 rfl rfl ?_
              have h11 : ¬ kdR (tX (F0 3) (n0 4)) S0 = 11 := fun z => by rw [if_pos z] at hkq; omega
              refine scX12_279 (k_X12_failsE (x := 3) (y := st_) hS (by omega) (by (try rw [(show n 4 = (n0 4) from (hx.1 4 (by decide)))]); omega) (by decide)) hS.1 ⟨(Nat.le_of_ble_eq_true rfl), (Nat.le_of_ble_eq_true rfl)⟩ ⟨(Nat.le_of_ble_eq_true rfl), (Nat.le_of_ble_eq_true rfl)⟩ rfl rfl (Nat.le_of_ble_eq_true rfl) dX12_begins_139 ?_
              rintro r_23 f_23 ⟨n_23, z_23, F_23, G_23, hS_23, hx23, hr_23, hf_23⟩
              simp only [Int32.reduceToInt] at hf_23
              have hxx : fx [21, 22] [] [] [] n0 z0 F0 G0 n_23 z_23 F_23 G_23 := (fx_tr (fx_tr fx_rf hx (by decide)) hx23 (by decide))
              have hag : ∀ g, g < f → agF F0 F_23 g := fun g _ => ⟨congrFun (hxx.2.2.1 6 (by decide)) _, fun r _ k _ => congrFun (hxx.2.2.1 r (by simp)) _⟩
              have hA9 : rAll F_23 := fun q hq => by rw [hxx.2.2.1 13 (by decide), hxx.2.2.1 14 (by decide), hxx.2.2.1 15 (by decide), hxx.2.2.1 19 (by decide)]; exact gA q hq
              exact gz_zret rfl (by first | decide | exact nrb (Or.inl (by assumption)) | exact nrb (by assumption) | (refine nrb ?_; assumption)) dX12_begins_142 (Nat.le_of_ble_eq_true rfl) (Nat.le_of_ble_eq_true rfl) (⟨_, rfl, _, _, _, _, hS_23, (fx_tr (fx_tr fx_rf hx (by decide)) hx23 (by decide)), (by first | exact Or.inl rfl | exact Or.inr rfl | assumption | (left; assumption)), (by (try rw [(show n_23 21 = (n 21) from (hx23.1 21 (by decide)))]); (try rw [(show n_23 4 = (n0 4) from ((hx23.1 4 (by decide)).trans (hx.1 4 (by decide))))]); omega), (by (try rw [(show n_23 21 = (n 21) from (hx23.1 21 (by decide)))]); omega), hA9, hag, (fun h => absurd (hr_23.symm.trans h) (by decide)), (by rw [bgR_st, ← hS0, if_neg h11, if_neg (by omega), if_pos (by omega)]; exact ⟨hr_23, (by (try rw [(show n_23 22 = (n_23 22) from rfl)]); omega)⟩)⟩)
          ·
            try simp only [mIn_0, lgc_lt, lgc_gt, lgc_le, lgc_ge, lgc_eq] at c_112
            try simp only [fl_lt, fl_le, fl_eq, fL_w, fL_lt, fL_le, tm1, tm10k, tm9, tm99, Int32.reduceToInt, Int64.reduceToInt, Int.not_lt, Int.not_le] at c_112
            refine gz_aload_n dX12_begins_115 rfl rfl ?_
            refine gz_iconst (v := 2) dX12_begins_116 (by decide) ?_
            refine gz_iload_n dX12_begins_117 rfl rfl ?_
            have h11 : ¬ kdR (tX (F0 3) (n0 4)) S0 = 11 := fun z => by rw [if_pos z] at hkq; omega
            refine scX12_279 (k_X12_failsE (x := 2) (y := st_) hS (by omega) (by (try rw [(show n 4 = (n0 4) from (hx.1 4 (by decide)))]); omega) (by decide)) hS.1 ⟨(Nat.le_of_ble_eq_true rfl), (Nat.le_of_ble_eq_true rfl)⟩ ⟨(Nat.le_of_ble_eq_true rfl), (Nat.le_of_ble_eq_true rfl)⟩ rfl rfl (Nat.le_of_ble_eq_true rfl) dX12_begins_118 ?_
            rintro r_24 f_24 ⟨n_24, z_24, F_24, G_24, hS_24, hx24, hr_24, hf_24⟩
            simp only [Int32.reduceToInt] at hf_24
            have hxx : fx [21, 22] [] [] [] n0 z0 F0 G0 n_24 z_24 F_24 G_24 := (fx_tr (fx_tr fx_rf hx (by decide)) hx24 (by decide))
            have hag : ∀ g, g < f → agF F0 F_24 g := fun g _ => ⟨congrFun (hxx.2.2.1 6 (by decide)) _, fun r _ k _ => congrFun (hxx.2.2.1 r (by simp)) _⟩
            have hA9 : rAll F_24 := fun q hq => by rw [hxx.2.2.1 13 (by decide), hxx.2.2.1 14 (by decide), hxx.2.2.1 15 (by decide), hxx.2.2.1 19 (by decide)]; exact gA q hq
            exact gz_zret rfl (by first | decide | exact nrb (Or.inl (by assumption)) | exact nrb (by assumption) | (refine nrb ?_; assumption)) dX12_begins_121 (Nat.le_of_ble_eq_true rfl) (Nat.le_of_ble_eq_true rfl) (⟨_, rfl, _, _, _, _, hS_24, (fx_tr (fx_tr fx_rf hx (by decide)) hx24 (by decide)), (by first | exact Or.inl rfl | exact Or.inr rfl | assumption | (left; assumption)), (by (try rw [(show n_24 21 = (n 21) from (hx24.1 21 (by decide)))]); (try rw [(show n_24 4 = (n0 4) from ((hx24.1 4 (by decide)).trans (hx.1 4 (by decide))))]); omega), (by (try rw [(show n_24 21 = (n 21) from (hx24.1 21 (by decide)))]); omega), hA9, hag, (fun h => absurd (hr_24.symm.trans h) (by decide)), (by rw [bgR_st, ← hS0, if_neg h11, if_pos (by omega)]; exact ⟨hr_24, (by (try rw [(show n_24 22 = (n_24 22) from rfl)]); omega)⟩)⟩)
    ·
      try simp only [mIn_0, lgc_lt, lgc_gt, lgc_le, lgc_ge, lgc_eq] at c_52
      try simp only [fl_lt, fl_le, fl_eq, fL_w, fL_lt, fL_le, tm1, tm10k, tm9, tm99, Int32.reduceToInt, Int64.reduceToInt, Int.not_lt, Int.not_le] at c_52
      refine gz_aload_n dX12_begins_55 rfl rfl ?_
      refine gz_iconst (v := 0) dX12_begins_56 (by decide) ?_
      refine gz_iload_n dX12_begins_57 rfl rfl ?_
      have h11 : kdR (tX (F0 3) (n0 4)) S0 = 11 := by
        split at hkq
        · assumption
        · omega
      refine scX12_279 (k_X12_failsE (x := 0) (y := st_) hS (by omega) (by (try rw [(show n 4 = (n0 4) from (hx.1 4 (by decide)))]); omega) (by decide)) hS.1 ⟨(Nat.le_of_ble_eq_true rfl), (Nat.le_of_ble_eq_true rfl)⟩ ⟨(Nat.le_of_ble_eq_true rfl), (Nat.le_of_ble_eq_true rfl)⟩ rfl rfl (Nat.le_of_ble_eq_true rfl) dX12_begins_58 ?_
      rintro r_25 f_25 ⟨n_25, z_25, F_25, G_25, hS_25, hx25, hr_25, hf_25⟩
      simp only [Int32.reduceToInt] at hf_25
      have hxx : fx [21, 22] [] [] [] n0 z0 F0 G0 n_25 z_25 F_25 G_25 := (fx_tr (fx_tr fx_rf hx (by decide)) hx25 (by decide))
      have hag : ∀ g, g < f → agF F0 F_25 g := fun g _ => ⟨congrFun (hxx.2.2.1 6 (by decide)) _, fun r _ k _ => congrFun (hxx.2.2.1 r (by simp)) _⟩
      have hA9 : rAll F_25 := fun q hq => by rw [hxx.2.2.1 13 (by decide), hxx.2.2.1 14 (by decide), hxx.2.2.1 15 (by decide), hxx.2.2.1 19 (by decide)]; exact gA q hq
      exact gz_zret rfl (by first | decide | exact nrb (Or.inl (by assumption)) | exact nrb (by assumption) | (refine nrb ?_; assumption)) dX12_begins_61 (Nat.le_of_ble_eq_true rfl) (Nat.le_of_ble_eq_true rfl) (⟨_, rfl, _, _, _, _, hS_25, (fx_tr (fx_tr fx_rf hx (by decide)) hx25 (by decide)), (by first | exact Or.inl rfl | exact Or.inr rfl | assumption | (left; assumption)), (by (try rw [(show n_25 21 = (n 21) from (hx25.1 21 (by decide)))]); (try rw [(show n_25 4 = (n0 4) from ((hx25.1 4 (by decide)).trans (hx.1 4 (by decide))))]); omega), (by (try rw [(show n_25 21 = (n 21) from (hx25.1 21 (by decide)))]); omega), hA9, hag, (fun h => absurd (hr_25.symm.trans h) (by decide)), (by rw [bgR_st, ← hS0, if_pos h11]; exact ⟨hr_25, (by (try rw [(show n_25 22 = (n_25 22) from rfl)]); omega)⟩)⟩)

set_option maxHeartbeats 4000000 in
set_option maxRecDepth 100000 in
theorem l_X12_beginsE {l : Launch} {D : va_G} {cy : Nat → ClassId} {b : Nat} {m : Nat} {a : Nat → Nat} {f0 : gMem} {n0 : Nat → Int32} {z0 : Nat → Int64} {F0 : Nat → Nat → Int32} {G0 : Nat → Nat → Int64}  {f W O S0 : Nat} {st_ : Int32} {v : Int64} (h5 : (n0 5).toInt = (f : Int) ∧ f < 20) (hJ : RDJ F0 n0 F0 f W O true) (hB0 : rB F0) (hG : nmG G0) (hS0 : S0 = skR (tX (F0 3) (n0 4)) (n0 21).toInt.toNat) (hv : v.toInt = lkR (tX (F0 3) (n0 4)) S0) : ∀ (k : Nat) (kd i : Int32) (n : Nat → Int32) (z : Nat → Int64) (F : Nat → Nat → Int32) (G : Nat → Nat → Int64) (fm : gMem), mS cy m a f0 n z F G fm → fx [21] [] [] [] n0 z0 F0 G0 n z F G → ((0 ≤ (n 21).toInt ∧ (n 21).toInt ≤ (n 4).toInt ∧ (n 4).toInt ≤ 400)) → ((n0 21).toInt ≤ (n 21).toInt) → ((n 22).toInt = 0) → ((n 21).toInt = (S0 : Int) ∧ st_.toInt = (S0 : Int) ∧ (S0 : Int) ≤ 400) → (kd.toInt = (if kdB (tX (F0 3) (n0 4)) S0 i.toInt.toNat = 11 then -1 else (kdB (tX (F0 3) (n0 4)) S0 i.toInt.toNat : Int))) → (0 ≤ i.toInt ∧ i.toInt ≤ 11 ∧ i.toInt + (k : Int) = 12) → gG l (gRm 5 0 0) (gQf D b (pI fun r f2 => ∃ (n2 : Nat → Int32) (z2 : Nat → Int64) (F2 : Nat → Nat → Int32) (G2 : Nat → Nat → Int64), mS cy m a f0 n2 z2 F2 G2 f2 ∧ fx [21, 22, 23, 24] [] [6, 7, 8, 9, 10, 11, 12, 13, 14, 15, 16, 17, 18, 19, 20, 25, 26] [] n0 z0 F0 G0 n2 z2 F2 G2 ∧ (r = 0 ∨ r = 1) ∧ (0 ≤ (n2 21).toInt ∧ (n2 21).toInt ≤ (n2 4).toInt ∧ (n2 4).toInt ≤ 400) ∧ (n0 21).toInt ≤ (n2 21).toInt ∧ rAll F2 ∧ (∀ g, g < f → agF F0 F2 g) ∧ (r = 1 → RDJ F0 n2 F2 f (W + 1) O false ∨ RDJ F0 n2 F2 f (W + 1) (O + 1) true) ∧ exB (bgR (tX (F0 3) (n0 4)) (n0 21).toInt.toNat W (F0 17 f).toInt.toNat O) O r n0 n2 F0 F2 f) 0 0) gTt D cy b cX12_begins 9 (some .boolean) RX12 "begins" 0 0 fm 16 [(0, .ref m), (1, .long v), (3, .int st_), (4, .int kd), (5, .int i)] [] := by
  intro k
  induction k with
  | zero =>
    intro kd i n z F G fm hS hx hT hm h22 h21 hkd hi
    exfalso; omega
  | succ k ih =>
    intro kd i n z F G fm hS hx hT hm h22 h21 hkd hi
    refine gz_iload dX12_begins_16 rfl ?_
    refine gz_bipush (v := 10) dX12_begins_18 (by decide) ?_
    refine gz_icmp_gt (tgt := 50) dX12_begins_20 (by decide) (fun c_20 => ?_) (fun c_20 => ?_)
    ·
      try simp only [mIn_0, lgc_lt, lgc_gt, lgc_le, lgc_ge, lgc_eq] at c_20
      try simp only [fl_lt, fl_le, fl_eq, fL_w, fL_lt, fL_le, tm1, tm10k, tm9, tm99, Int32.reduceToInt, Int64.reduceToInt, Int.not_lt, Int.not_le] at c_20
      have ei : i.toInt.toNat = 11 := by omega
      rw [ei] at hkd
      refine gz_sub (lv' := [(0, .ref m), (3, .int st_), (4, .int kd)]) (by simp [List.lookup]) ?_
      exact l_X12_beginsEA h5 hJ hB0 hS0 hkd 1 _ _ _ _ _ hS hx hT hm h22 h21 (by decide)
    ·
      try simp only [mIn_0, lgc_lt, lgc_gt, lgc_le, lgc_ge, lgc_eq] at c_20
      try simp only [fl_lt, fl_le, fl_eq, fL_w, fL_lt, fL_le, tm1, tm10k, tm9, tm99, Int32.reduceToInt, Int64.reduceToInt, Int.not_lt, Int.not_le] at c_20
      refine gz_aload_n dX12_begins_23 rfl rfl ?_
      refine mg_90 hS dX12_begins_24 ?_
      refine gz_iload dX12_begins_27 rfl ?_
      refine m_lald 27 hS rfl (N := 11) rfl ((by exact vin_T (rfl : i.toInt = i.toInt) (by omega) (by omega))) dX12_begins_29 ?_
      refine gz_ev (w := .long ((G0 27) (Int32.toNatClampNeg i))) (congrArg Value.long (congrFun (hx.2.2.2 27 (by decide)) _)) ?_
      refine gz_lload_n dX12_begins_30 rfl rfl ?_
      refine gz_lcmp dX12_begins_31 ?_
      refine gz_if_ne (tgt := 40) dX12_begins_32 (by decide) (fun c_32 => ?_) (fun c_32 => ?_)
      ·
        try simp only [mIn_0, lgc_lt, lgc_gt, lgc_le, lgc_ge, lgc_eq] at c_32
        try simp only [fl_lt, fl_le, fl_eq, fL_w, fL_lt, fL_le, tm1, tm10k, tm9, tm99, Int32.reduceToInt, Int64.reduceToInt, Int.not_lt, Int.not_le] at c_32
        refine gz_iload dX12_begins_40 rfl ?_
        refine gz_istore (lv' := [(4, .int kd), (0, .ref m), (1, .long v), (3, .int st_), (5, .int i)]) dX12_begins_42 (by decide) rfl ?_
        refine gz_iinc (v := (i + 1)) (lv' := [(5, .int (i + 1)), (4, .int kd), (0, .ref m), (1, .long v), (3, .int st_)]) dX12_begins_44 rfl rfl (by decide) rfl ?_
        refine gz_goto (tgt := 16) dX12_begins_47 (by decide) ?_
        refine gz_sub (lv' := [(0, .ref m), (1, .long v), (3, .int st_), (4, .int kd), (5, .int (i + 1))]) (by simp [List.lookup]) ?_
        obtain ⟨j, hj⟩ : ∃ j : Nat, i.toInt = j := ⟨i.toInt.toNat, by omega⟩
        have ej : i.toInt.toNat = j := by omega
        rw [ej] at hkd
        have qi : (i + 1).toInt = (j : Int) + 1 := by have q := T_add hj (show (1 : Int32).toInt = 1 from rfl) (by omega); exact q
        have ecl : Int32.toNatClampNeg i = j := by rw [clN]; omega
        have hn_ := nq_nm (T := (tX (F0 3) (n0 4))) (p := S0) (show j < 11 by omega)
        have hg_ := hG j (by omega)
        rw [ecl] at c_32
        have hkd2 : kd.toInt = (if kdB (tX (F0 3) (n0 4)) S0 (i + 1).toInt.toNat = 11 then -1 else (kdB (tX (F0 3) (n0 4)) S0 (i + 1).toInt.toNat : Int)) := by
          have y : ¬ isNb (tX (F0 3) (n0 4)) S0 j = true := fun z => c_32 (Int64.toInt_inj.mp (by rw [hg_, hv]; exact hn_.mpr z))
          have z : kdB (tX (F0 3) (n0 4)) S0 (j + 1) = kdB (tX (F0 3) (n0 4)) S0 j := by show (if isNb (tX (F0 3) (n0 4)) S0 j = true then j else kdB (tX (F0 3) (n0 4)) S0 j) = _; rw [if_neg y]
          rw [show (i + 1).toInt.toNat = j + 1 by omega, z]; exact hkd
        exact ih kd (i + 1) _ _ _ _ _ hS hx (hT) (hm) (h22) (h21) (hkd2) ((by have q1_ := (T_add (rfl : (i).toInt = (i).toInt) (show (1 : Int32).toInt = 1 from rfl) (by omega)); omega))
      ·
        try simp only [mIn_0, lgc_lt, lgc_gt, lgc_le, lgc_ge, lgc_eq] at c_32
        try simp only [fl_lt, fl_le, fl_eq, fL_w, fL_lt, fL_le, tm1, tm10k, tm9, tm99, Int32.reduceToInt, Int64.reduceToInt, Int.not_lt, Int.not_le] at c_32
        refine gz_iload dX12_begins_35 rfl ?_
        refine gz_goto (tgt := 42) dX12_begins_37 (by decide) ?_
        refine gz_istore (lv' := [(4, .int i), (0, .ref m), (1, .long v), (3, .int st_), (5, .int i)]) dX12_begins_42 (by decide) rfl ?_
        refine gz_iinc (v := (i + 1)) (lv' := [(5, .int (i + 1)), (4, .int i), (0, .ref m), (1, .long v), (3, .int st_)]) dX12_begins_44 rfl rfl (by decide) rfl ?_
        refine gz_goto (tgt := 16) dX12_begins_47 (by decide) ?_
        refine gz_sub (lv' := [(0, .ref m), (1, .long v), (3, .int st_), (4, .int i), (5, .int (i + 1))]) (by simp [List.lookup]) ?_
        obtain ⟨j, hj⟩ : ∃ j : Nat, i.toInt = j := ⟨i.toInt.toNat, by omega⟩
        have ej : i.toInt.toNat = j := by omega
        rw [ej] at hkd
        have qi : (i + 1).toInt = (j : Int) + 1 := by have q := T_add hj (show (1 : Int32).toInt = 1 from rfl) (by omega); exact q
        have ecl : Int32.toNatClampNeg i = j := by rw [clN]; omega
        have hn_ := nq_nm (T := (tX (F0 3) (n0 4))) (p := S0) (show j < 11 by omega)
        have hg_ := hG j (by omega)
        rw [ecl] at c_32
        have hkd2 : i.toInt = (if kdB (tX (F0 3) (n0 4)) S0 (i + 1).toInt.toNat = 11 then -1 else (kdB (tX (F0 3) (n0 4)) S0 (i + 1).toInt.toNat : Int)) := by
          have y : isNb (tX (F0 3) (n0 4)) S0 j = true := hn_.mp (by rw [← hg_, c_32]; exact hv)
          have z : kdB (tX (F0 3) (n0 4)) S0 (j + 1) = j := by unfold kdB; rw [if_pos y]
          rw [show (i + 1).toInt.toNat = j + 1 by omega, z, if_neg (by omega)]; exact hj
        exact ih i (i + 1) _ _ _ _ _ hS hx (hT) (hm) (h22) (h21) (hkd2) ((by have q1_ := (T_add (rfl : (i).toInt = (i).toInt) (show (1 : Int32).toInt = 1 from rfl) (by omega)); omega))

set_option maxHeartbeats 4000000 in
set_option maxRecDepth 100000 in
theorem k_X12_beginsE {l : Launch} {D : va_G} {cy : Nat → ClassId} {b : Nat} {f : gMem} {m : Nat} {a : Nat → Nat} {f0 : gMem} {n : Nat → Int32} {z : Nat → Int64} {F : Nat → Nat → Int32} {G : Nat → Nat → Int64}  {ff W O : Nat} (hS : mS cy m a f0 n z F G f) (hT : (0 ≤ (n 21).toInt ∧ (n 21).toInt ≤ (n 4).toInt ∧ (n 4).toInt ≤ 400)) (h5 : (n 5).toInt = (ff : Int) ∧ ff < 20) (hJ : RDJ F n F ff W O true) (hB : rB F) (h22 : (n 22).toInt = 0) (hG : nmG G) : gC l D cy b yX12_begins cX12_begins 9 (some .boolean) 5 0 0 [.ref m] f (pI fun r f2 => ∃ (n2 : Nat → Int32) (z2 : Nat → Int64) (F2 : Nat → Nat → Int32) (G2 : Nat → Nat → Int64), mS cy m a f0 n2 z2 F2 G2 f2 ∧ fx [21, 22, 23, 24] [] [6, 7, 8, 9, 10, 11, 12, 13, 14, 15, 16, 17, 18, 19, 20, 25, 26] [] n z F G n2 z2 F2 G2 ∧ (r = 0 ∨ r = 1) ∧ (0 ≤ (n2 21).toInt ∧ (n2 21).toInt ≤ (n2 4).toInt ∧ (n2 4).toInt ≤ 400) ∧ (n 21).toInt ≤ (n2 21).toInt ∧ rAll F2 ∧ (∀ g, g < ff → agF F F2 g) ∧ (r = 1 → RDJ F n2 F2 ff (W + 1) O false ∨ RDJ F n2 F2 ff (W + 1) (O + 1) true) ∧ exB (bgR (tX (F 3) (n 4)) (n 21).toInt.toNat W (F 17 ff).toInt.toNat O) O r n n2 F F2 ff) := by
  refine gC_of (by decide) (Nat.le_of_ble_eq_true rfl) ?_
  show gG l _ _ _ D cy b cX12_begins 9 _ RX12 "begins" 0 0 f 0 [(0, .ref m)] []
  refine gz_aload_n dX12_begins_0 rfl rfl ?_
  refine scX12_295 (k_X12_lettersE hS (by omega) hB) hS.1 ⟨(Nat.le_of_ble_eq_true rfl), (Nat.le_of_ble_eq_true rfl)⟩ ⟨(Nat.le_of_ble_eq_true rfl), (Nat.le_of_ble_eq_true rfl)⟩ rfl rfl (Nat.le_of_ble_eq_true rfl) dX12_begins_1 ?_
  rintro r_1 f_1 ⟨n_1, z_1, F_1, G_1, hS_1, hx1, hT_1, hm_1, hs_1, hl_1⟩
  try simp only [(show n_1 4 = (n 4) from (hx1.1 4 (by decide)))] at hT_1 hm_1 hs_1 hl_1
  try simp only [(show F_1 3 = (F 3) from (hx1.2.2.1 3 (by decide)))] at hT_1 hm_1 hs_1 hl_1
  refine gz_lstore_n (lv' := [(1, .long r_1), (0, .ref m)]) dX12_begins_4 rfl (by decide) rfl ?_
  refine gz_aload_n dX12_begins_5 rfl rfl ?_
  refine mg_272 hS_1 dX12_begins_6 ?_
  refine gz_ev (w := .int (n_1 21)) rfl ?_
  refine gz_istore_n (lv' := [(3, .int (n_1 21)), (1, .long r_1), (0, .ref m)]) dX12_begins_9 rfl (by decide) rfl ?_
  refine gz_iconst (v := (-1)) dX12_begins_10 (by decide) ?_
  refine gz_istore (lv' := [(4, .int (-1)), (3, .int (n_1 21)), (1, .long r_1), (0, .ref m)]) dX12_begins_11 (by decide) rfl ?_
  refine gz_iconst (v := 0) dX12_begins_13 (by decide) ?_
  refine gz_istore (lv' := [(5, .int 0), (4, .int (-1)), (3, .int (n_1 21)), (1, .long r_1), (0, .ref m)]) dX12_begins_14 (by decide) rfl ?_
  refine gz_sub (lv' := [(0, .ref m), (1, .long r_1), (3, .int (n_1 21)), (4, .int (-1)), (5, .int 0)]) (by simp [List.lookup]) ?_
  exact l_X12_beginsE (S0 := skR (tX (F 3) (n 4)) (n 21).toInt.toNat) h5 hJ hB hG rfl hl_1 12 (-1) 0 _ _ _ _ _ hS_1 (fx_tr fx_rf hx1 (by decide)) (by (try rw [(show n_1 21 = (n_1 21) from rfl)]); (try rw [(show n_1 4 = (n 4) from (hx1.1 4 (by decide)))]); omega) (by (try rw [(show n_1 21 = (n_1 21) from rfl)]); omega) (by (try rw [(show n_1 22 = (n 22) from (hx1.1 22 (by decide)))]); omega) ⟨(by (try rw [(show n_1 21 = (n_1 21) from rfl)]); omega), (by (try rw [(show n_1 21 = (n_1 21) from rfl)]); omega), by omega⟩ (by rw [show ((0 : Int32)).toInt.toNat = 0 from rfl]; unfold kdB; rfl) (by decide)
