/-- what the reading of a VALUE, a SUM comes to; v: how many VALUES -/
def exM2 (t : Sum Nat (Nat × Nat)) (r : Int32) (n2 : Nat → Int32) (v : Int32) : Prop := match t with
  | .inl c => r = 0 ∧ (n2 22).toInt = c
  | .inr (p, V) => r = 1 ∧ (n2 22).toInt = 0 ∧ (n2 21).toInt = p ∧ v.toInt = V
set_option maxHeartbeats 4000000 in
set_option maxRecDepth 100000 in
theorem l_X12_valueEg {l : Launch} {D : va_G} {cy : Nat → ClassId} {b : Nat} {m : Nat} {a : Nat → Nat} {f0 : gMem} {n0 : Nat → Int32} {z0 : Nat → Int64} {F0 : Nat → Nat → Int32} {G0 : Nat → Nat → Int64}  {x1 : Int32} {st_ : Int32} {v : Int64} {S0 Q : Nat} (h5 : 0 ≤ (n0 5).toInt ∧ (n0 5).toInt < 20) (h0 : 0 ≤ (F0 17 (Int32.toNatClampNeg (n0 5))).toInt ∧ (F0 17 (Int32.toNatClampNeg (n0 5))).toInt ≤ 40) (hB0 : rB F0) (hvS : v.toInt ≠ 115) (hst : st_.toInt = (S0 : Int) ∧ st_.toInt ≤ 400) (hE : vaR (tX (F0 3) (n0 4)) (n0 21).toInt.toNat (F0 17 (Int32.toNatClampNeg (n0 5))).toInt.toNat = (if (F0 17 (Int32.toNatClampNeg (n0 5))).toInt.toNat = 40 then .inl (1 + 8 * S0 + 4) else .inr (Q, (F0 17 (Int32.toNatClampNeg (n0 5))).toInt.toNat + 1))) : ∀ (k : Nat)  (n : Nat → Int32) (z : Nat → Int64) (F : Nat → Nat → Int32) (G : Nat → Nat → Int64) (fm : gMem), mS cy m a f0 n z F G fm → fx [21, 22, 23] [] [17, 18, 19, 20] [] n0 z0 F0 G0 n z F G → ((0 ≤ (n 21).toInt ∧ (n 21).toInt ≤ (n 4).toInt ∧ (n 4).toInt ≤ 400)) → ((n0 21).toInt ≤ (n 21).toInt) → (rAll F) → ((F 17 (Int32.toNatClampNeg (n0 5))) = (F0 17 (Int32.toNatClampNeg (n0 5)))) → ((n 22).toInt = 0) → ((n 21).toInt = (Q : Int)) → (0 < (k : Int)) → gG l (gRm 2 0 0) (gQf D b (pI fun r f2 => ∃ (n2 : Nat → Int32) (z2 : Nat → Int64) (F2 : Nat → Nat → Int32) (G2 : Nat → Nat → Int64), mS cy m a f0 n2 z2 F2 G2 f2 ∧ fx [21, 22, 23] [] [17, 18, 19, 20] [] n0 z0 F0 G0 n2 z2 F2 G2 ∧ (r = 0 ∨ r = 1) ∧ (0 ≤ (n2 21).toInt ∧ (n2 21).toInt ≤ (n2 4).toInt ∧ (n2 4).toInt ≤ 400) ∧ (n0 21).toInt ≤ (n2 21).toInt ∧ rAll F2 ∧ (F0 17 (Int32.toNatClampNeg (n0 5))).toInt ≤ (F2 17 (Int32.toNatClampNeg (n0 5))).toInt ∧ (F2 17 (Int32.toNatClampNeg (n0 5))).toInt ≤ 40 ∧ exM2 (vaR (tX (F0 3) (n0 4)) (n0 21).toInt.toNat (F0 17 (Int32.toNatClampNeg (n0 5))).toInt.toNat) r n2 (F2 17 (Int32.toNatClampNeg (n0 5)))) 0 0) gTt D cy b cX12_value 7 (some .boolean) RX12 "value" 0 0 fm 72 [(0, .ref m), (1, .int x1), (2, .int st_), (3, .long v), (5, .int (-1))] [] := by
  intro k
  induction k with
  | zero =>
    intro n z F G fm hS hx hT hm hA hv h22 h21 hk
    exfalso; omega
  | succ k ih =>
    intro n z F G fm hS hx hT hm hA hv h22 h21 hk
    have qn5 := clI (i := n0 5) (by omega)
    have e4 : n 4 = n0 4 := hx.1 4 (by decide)
    have e3 : F 3 = F0 3 := hx.2.2.1 3 (by decide)
    have hB : rB F := rB_cg e3 hB0
    rw [e4] at hT
    have hln := tX_ln (g := F0 3) (L := n0 4) (by omega)
    have eSt : st_.toInt.toNat = S0 := by omega
    obtain ⟨V, hVV⟩ : ∃ V : Nat, V = (F0 17 (Int32.toNatClampNeg (n0 5))).toInt.toNat := ⟨_, rfl⟩
    have hVi : (F0 17 (Int32.toNatClampNeg (n0 5))).toInt = (V : Int) := by omega
    rw [← hVV] at hE ⊢
    have hv2 : (F 17 (Int32.toNatClampNeg (n0 5))).toInt = (V : Int) := by rw [hv]; exact hVi
    refine gz_aload_n dX12_value_72 rfl rfl ?_
    refine mg_50 hS dX12_value_73 ?_
    refine gz_aload_n dX12_value_76 rfl rfl ?_
    refine mg_307 hS dX12_value_77 ?_
    refine gz_ev (w := .int (n0 5)) (congrArg Value.int (hx.1 5 (by decide))) ?_
    refine m_iald 17 hS rfl (N := 22) rfl ((by exact vin_T (rfl : (n0 5).toInt = (n0 5).toInt) (by omega) (by omega))) dX12_value_80 ?_
    refine gz_bipush (v := 40) dX12_value_81 (by decide) ?_
    refine gz_icmp_ne (tgt := 93) dX12_value_83 (by decide) (fun c_83 => ?_) (fun c_83 => ?_)
    ·
      try simp only [mIn_0, lgc_lt, lgc_gt, lgc_le, lgc_ge, lgc_eq] at c_83
      try simp only [fl_lt, fl_le, fl_eq, fL_w, fL_lt, fL_le, tm1, tm10k, tm9, tm99, Int32.reduceToInt, Int64.reduceToInt, Int.not_lt, Int.not_le] at c_83
      refine gz_iload dX12_value_93 rfl ?_
      refine gz_if_lt (tgt := 102) dX12_value_95 (by decide) (fun c_95 => ?_) (fun c_95 => ?_)
      ·
        try simp only [mIn_0, lgc_lt, lgc_gt, lgc_le, lgc_ge, lgc_eq] at c_95
        try simp only [fl_lt, fl_le, fl_eq, fL_w, fL_lt, fL_le, tm1, tm10k, tm9, tm99, Int32.reduceToInt, Int64.reduceToInt, Int.not_lt, Int.not_le] at c_95
        refine gz_lload_n dX12_value_102 rfl rfl ?_
        refine gz_ldc2 (v := (115)) wd_821 dX12_value_103 ?_
        refine gz_lcmp dX12_value_106 ?_
        refine gz_if_ne (tgt := 177) dX12_value_107 (by decide) (fun c_107 => ?_) (fun c_107 => ?_)
        ·
          try simp only [mIn_0, lgc_lt, lgc_gt, lgc_le, lgc_ge, lgc_eq] at c_107
          try simp only [fl_lt, fl_le, fl_eq, fL_w, fL_lt, fL_le, tm1, tm10k, tm9, tm99, Int32.reduceToInt, Int64.reduceToInt, Int.not_lt, Int.not_le] at c_107
          refine gz_bipush (v := 40) dX12_value_177 (by decide) ?_
          refine gz_aload_n dX12_value_179 rfl rfl ?_
          refine mg_307 hS dX12_value_180 ?_
          refine gz_ev (w := .int (n0 5)) (congrArg Value.int (hx.1 5 (by decide))) ?_
          refine gz_imul dX12_value_183 ?_
          refine gz_aload_n dX12_value_184 rfl rfl ?_
          refine mg_50 hS dX12_value_185 ?_
          refine gz_aload_n dX12_value_188 rfl rfl ?_
          refine mg_307 hS dX12_value_189 ?_
          refine gz_ev (w := .int (n0 5)) (congrArg Value.int (hx.1 5 (by decide))) ?_
          refine m_iald 17 hS rfl (N := 22) rfl ((by exact vin_T (rfl : (n0 5).toInt = (n0 5).toInt) (by omega) (by omega))) dX12_value_192 ?_
          refine gz_iadd dX12_value_193 ?_
          obtain ⟨sl, hsl⟩ : ∃ v_ : Int32, v_ = ((40 * (n0 5)) + ((F 17) (Int32.toNatClampNeg (n0 5)))) := ⟨_, rfl⟩
          refine gz_ev (w := .int sl) (congrArg Value.int hsl.symm) ?_
          have qsl : 0 ≤ sl.toInt ∧ sl.toInt < 880 := by rw [hsl]; have q := (T_add (T_mul (show (40 : Int32).toInt = 40 from rfl) (rfl : ((n0 5)).toInt = ((n0 5)).toInt) (by omega)) (rfl : (((F 17) (Int32.toNatClampNeg (n0 5)))).toInt = (((F 17) (Int32.toNatClampNeg (n0 5)))).toInt) (by omega)); omega
          refine gz_istore (lv' := [(6, .int sl), (0, .ref m), (1, .int x1), (2, .int st_), (3, .long v), (5, .int (-1))]) dX12_value_194 (by decide) rfl ?_
          refine gz_aload_n dX12_value_196 rfl rfl ?_
          refine mg_50 hS dX12_value_197 ?_
          refine gz_aload_n dX12_value_200 rfl rfl ?_
          refine mg_307 hS dX12_value_201 ?_
          refine gz_ev (w := .int (n0 5)) (congrArg Value.int (hx.1 5 (by decide))) ?_
          refine gz_dup2 dX12_value_204 rfl rfl ?_
          refine m_iald 17 hS rfl (N := 22) rfl ((by exact vin_T (rfl : (n0 5).toInt = (n0 5).toInt) (by omega) (by omega))) dX12_value_205 ?_
          refine gz_iconst (v := 1) dX12_value_206 (by decide) ?_
          refine gz_iadd dX12_value_207 ?_
          refine m_iast 17 hS rfl (N := 22) rfl ((by exact vin_T (rfl : (n0 5).toInt = (n0 5).toInt) (by omega) (by omega))) dX12_value_208 (fun f_1 hS_1q => ?_)
          have hS_1 : mS cy m a f0 n z (va_up F 17 (upd (F 17) (Int32.toNatClampNeg (n0 5)) (((F 17) (Int32.toNatClampNeg (n0 5))) + 1))) G f_1 := hS_1q
          refine gz_aload_n dX12_value_209 rfl rfl ?_
          refine mg_53 hS_1 dX12_value_210 ?_
          refine gz_iload dX12_value_213 rfl ?_
          refine gz_iload_n dX12_value_215 rfl rfl ?_
          refine m_iast 18 hS_1 rfl (N := 880) rfl ((by exact vin_T (rfl : sl.toInt = sl.toInt) (by omega) (by omega))) dX12_value_216 (fun f_2 hS_2q => ?_)
          have hS_2 : mS cy m a f0 n z (va_up (va_up F 17 (upd (F 17) (Int32.toNatClampNeg (n0 5)) (((F 17) (Int32.toNatClampNeg (n0 5))) + 1))) 18 (upd (F 18) (Int32.toNatClampNeg sl) x1)) G f_2 := hS_2q
          refine gz_aload_n dX12_value_217 rfl rfl ?_
          refine mg_56 hS_2 dX12_value_218 ?_
          refine gz_iload dX12_value_221 rfl ?_
          refine gz_iload dX12_value_223 rfl ?_
          refine m_iast 19 hS_2 rfl (N := 880) rfl ((by exact vin_T (rfl : sl.toInt = sl.toInt) (by omega) (by omega))) dX12_value_225 (fun f_3 hS_3q => ?_)
          have hS_3 : mS cy m a f0 n z (va_up (va_up (va_up F 17 (upd (F 17) (Int32.toNatClampNeg (n0 5)) (((F 17) (Int32.toNatClampNeg (n0 5))) + 1))) 18 (upd (F 18) (Int32.toNatClampNeg sl) x1)) 19 (upd (F 19) (Int32.toNatClampNeg sl) (-1))) G f_3 := hS_3q
          refine gz_aload_n dX12_value_226 rfl rfl ?_
          refine mg_59 hS_3 dX12_value_227 ?_
          refine gz_iload dX12_value_230 rfl ?_
          refine gz_iload dX12_value_232 rfl ?_
          refine gz_if_ge (tgt := 244) dX12_value_234 (by decide) (fun c_234 => ?_) (fun c_234 => ?_)
          · exact absurd c_234 (by decide)
          ·
            try simp only [mIn_0, lgc_lt, lgc_gt, lgc_le, lgc_ge, lgc_eq] at c_234
            try simp only [fl_lt, fl_le, fl_eq, fL_w, fL_lt, fL_le, tm1, tm10k, tm9, tm99, Int32.reduceToInt, Int64.reduceToInt, Int.not_lt, Int.not_le] at c_234
            refine gz_aload_n dX12_value_237 rfl rfl ?_
            refine mg_287 hS_3 dX12_value_238 ?_
            refine gz_ev (w := .int (n 23)) rfl ?_
            refine gz_goto (tgt := 245) dX12_value_241 (by decide) ?_
            refine m_iast 20 hS_3 rfl (N := 880) rfl ((by exact vin_T (rfl : sl.toInt = sl.toInt) (by omega) (by omega))) dX12_value_245 (fun f_4 hS_4q => ?_)
            have hS_4 : mS cy m a f0 n z (va_up (va_up (va_up (va_up F 17 (upd (F 17) (Int32.toNatClampNeg (n0 5)) (((F 17) (Int32.toNatClampNeg (n0 5))) + 1))) 18 (upd (F 18) (Int32.toNatClampNeg sl) x1)) 19 (upd (F 19) (Int32.toNatClampNeg sl) (-1))) 20 (upd (F 20) (Int32.toNatClampNeg sl) (n 23))) G f_4 := hS_4q
            refine gz_iconst (v := 1) dX12_value_246 (by decide) ?_
            have s13_ : (va_up (va_up (va_up (va_up F 17 (upd (F 17) (Int32.toNatClampNeg (n0 5)) (((F 17) (Int32.toNatClampNeg (n0 5))) + 1))) 18 (upd (F 18) (Int32.toNatClampNeg sl) x1)) 19 (upd (F 19) (Int32.toNatClampNeg sl) (-1))) 20 (upd (F 20) (Int32.toNatClampNeg sl) (n 23))) 13 = (F 13) := rfl
            have s14_ : (va_up (va_up (va_up (va_up F 17 (upd (F 17) (Int32.toNatClampNeg (n0 5)) (((F 17) (Int32.toNatClampNeg (n0 5))) + 1))) 18 (upd (F 18) (Int32.toNatClampNeg sl) x1)) 19 (upd (F 19) (Int32.toNatClampNeg sl) (-1))) 20 (upd (F 20) (Int32.toNatClampNeg sl) (n 23))) 14 = (F 14) := rfl
            have s15_ : (va_up (va_up (va_up (va_up F 17 (upd (F 17) (Int32.toNatClampNeg (n0 5)) (((F 17) (Int32.toNatClampNeg (n0 5))) + 1))) 18 (upd (F 18) (Int32.toNatClampNeg sl) x1)) 19 (upd (F 19) (Int32.toNatClampNeg sl) (-1))) 20 (upd (F 20) (Int32.toNatClampNeg sl) (n 23))) 15 = (F 15) := rfl
            have s17_ : (va_up (va_up (va_up (va_up F 17 (upd (F 17) (Int32.toNatClampNeg (n0 5)) (((F 17) (Int32.toNatClampNeg (n0 5))) + 1))) 18 (upd (F 18) (Int32.toNatClampNeg sl) x1)) 19 (upd (F 19) (Int32.toNatClampNeg sl) (-1))) 20 (upd (F 20) (Int32.toNatClampNeg sl) (n 23))) 17 = (upd (F 17) (Int32.toNatClampNeg (n0 5)) (((F 17) (Int32.toNatClampNeg (n0 5))) + 1)) := rfl
            have s19_ : (va_up (va_up (va_up (va_up F 17 (upd (F 17) (Int32.toNatClampNeg (n0 5)) (((F 17) (Int32.toNatClampNeg (n0 5))) + 1))) 18 (upd (F 18) (Int32.toNatClampNeg sl) x1)) 19 (upd (F 19) (Int32.toNatClampNeg sl) (-1))) 20 (upd (F 20) (Int32.toNatClampNeg sl) (n 23))) 19 = (upd (F 19) (Int32.toNatClampNeg sl) (-1)) := rfl
            have hA9 : rAll (va_up (va_up (va_up (va_up F 17 (upd (F 17) (Int32.toNatClampNeg (n0 5)) (((F 17) (Int32.toNatClampNeg (n0 5))) + 1))) 18 (upd (F 18) (Int32.toNatClampNeg sl) x1)) 19 (upd (F 19) (Int32.toNatClampNeg sl) (-1))) 20 (upd (F 20) (Int32.toNatClampNeg sl) (n 23))) := by
              intro q hq
              obtain ⟨q1, q2, q3, q4⟩ := hA q hq
              rw [s13_, s14_, s15_, s19_]
              refine ⟨q1, q2, q3, ?_⟩
              rw [updE]; split
              · decide
              · exact q4
            have v17 : ((va_up (va_up (va_up (va_up F 17 (upd (F 17) (Int32.toNatClampNeg (n0 5)) (((F 17) (Int32.toNatClampNeg (n0 5))) + 1))) 18 (upd (F 18) (Int32.toNatClampNeg sl) x1)) 19 (upd (F 19) (Int32.toNatClampNeg sl) (-1))) 20 (upd (F 20) (Int32.toNatClampNeg sl) (n 23))) 17 (Int32.toNatClampNeg (n0 5))).toInt = (V : Int) + 1 := by rw [s17_, updE, if_pos rfl]; exact T_add hv2 (show (1 : Int32).toInt = 1 from rfl) (by omega)
            exact gz_zret rfl (by first | decide | exact nrb (Or.inl (by assumption)) | exact nrb (by assumption) | (refine nrb ?_; assumption)) dX12_value_247 (Nat.le_of_ble_eq_true rfl) (Nat.le_of_ble_eq_true rfl) (⟨_, rfl, _, _, _, _, hS_4, (fx_F (fx_F (fx_F (fx_F hx (by decide)) (by decide)) (by decide)) (by decide)), Or.inr rfl, (by (try rw [(show n 4 = (n0 4) from (hx.1 4 (by decide)))]); omega), (by omega), hA9, (by omega), (by omega), (by rw [hE, if_neg (show ¬ V = 40 by omega)]; exact ⟨rfl, (by omega), (by omega), v17⟩)⟩)
        ·
          try simp only [mIn_0, lgc_lt, lgc_gt, lgc_le, lgc_ge, lgc_eq] at c_107
          try simp only [fl_lt, fl_le, fl_eq, fL_w, fL_lt, fL_le, tm1, tm10k, tm9, tm99, Int32.reduceToInt, Int64.reduceToInt, Int.not_lt, Int.not_le] at c_107
          exfalso; have z := congrArg Int64.toInt c_107; rw [show (115 : Int64).toInt = 115 from rfl] at z; omega
      · exact absurd c_95 (by decide)
    ·
      try simp only [mIn_0, lgc_lt, lgc_gt, lgc_le, lgc_ge, lgc_eq] at c_83
      try simp only [fl_lt, fl_le, fl_eq, fL_w, fL_lt, fL_le, tm1, tm10k, tm9, tm99, Int32.reduceToInt, Int64.reduceToInt, Int.not_lt, Int.not_le] at c_83
      refine gz_aload_n dX12_value_86 rfl rfl ?_
      refine gz_iconst (v := 4) dX12_value_87 (by decide) ?_
      refine gz_iload_n dX12_value_88 rfl rfl ?_
      refine scX12_279 (k_X12_failsE (x := 4) (y := st_) hS (by omega) (by (try rw [(show n 4 = (n0 4) from (hx.1 4 (by decide)))]); omega) (by decide)) hS.1 ⟨(Nat.le_of_ble_eq_true rfl), (Nat.le_of_ble_eq_true rfl)⟩ ⟨(Nat.le_of_ble_eq_true rfl), (Nat.le_of_ble_eq_true rfl)⟩ rfl rfl (Nat.le_of_ble_eq_true rfl) dX12_value_89 ?_
      rintro r_5 f_5 ⟨n_5, z_5, F_5, G_5, hS_5, hx5, hr_5, hf_5⟩
      simp only [Int32.reduceToInt] at hf_5
      have hAe : rAll F_5 := by
        intro q hq
        obtain ⟨qa0, qb0, qc0, qd0⟩ := hA q hq
        rw [show F_5 13 = (F 13) from (hx5.2.2.1 13 (by decide)), show F_5 14 = (F 14) from (hx5.2.2.1 14 (by decide)), show F_5 15 = (F 15) from (hx5.2.2.1 15 (by decide)), show F_5 19 = (F 19) from (hx5.2.2.1 19 (by decide))]
        refine ⟨?_, ?_, ?_, ?_⟩ <;> (try simp only [updE]) <;> (repeat' split) <;> first | omega | decide
      have e17 : (F_5 17 (Int32.toNatClampNeg (n0 5))).toInt = ((F 17) (Int32.toNatClampNeg (n0 5))).toInt := by rw [show F_5 17 = (F 17) from (hx5.2.2.1 17 (by decide))]
      rw [hv2] at e17
      exact gz_zret rfl (by first | decide | exact nrb (Or.inl (by assumption)) | exact nrb (by assumption) | (refine nrb ?_; assumption)) dX12_value_92 (Nat.le_of_ble_eq_true rfl) (Nat.le_of_ble_eq_true rfl) (⟨_, rfl, _, _, _, _, hS_5, (fx_tr hx hx5 (by decide)), (by first | exact Or.inl rfl | exact Or.inr rfl | assumption | (left; assumption)), (by (try rw [(show n_5 21 = (n 21) from (hx5.1 21 (by decide)))]); (try rw [(show n_5 4 = (n0 4) from ((hx5.1 4 (by decide)).trans (hx.1 4 (by decide))))]); omega), (by (try rw [(show n_5 21 = (n 21) from (hx5.1 21 (by decide)))]); omega), hAe, (by omega), (by omega), (by rw [hE, if_pos (show V = 40 by omega)]; exact ⟨hr_5, (by (try rw [(show n_5 22 = (n_5 22) from rfl)]); omega)⟩)⟩)

set_option maxHeartbeats 4000000 in
set_option maxRecDepth 100000 in
theorem l_X12_valueEd {l : Launch} {D : va_G} {cy : Nat → ClassId} {b : Nat} {m : Nat} {a : Nat → Nat} {f0 : gMem} {n0 : Nat → Int32} {z0 : Nat → Int64} {F0 : Nat → Nat → Int32} {G0 : Nat → Nat → Int64}  {x1 : Int32} {st_ : Int32} {v : Int64} {S0 Q : Nat} (h5 : 0 ≤ (n0 5).toInt ∧ (n0 5).toInt < 20) (h0 : 0 ≤ (F0 17 (Int32.toNatClampNeg (n0 5))).toInt ∧ (F0 17 (Int32.toNatClampNeg (n0 5))).toInt ≤ 40) (hB0 : rB F0) (hvS : v.toInt ≠ 115) (hG : ltR (tX (F0 3) (n0 4)) S0 = 3 ∧ Q = S0) (hst : st_.toInt = (S0 : Int) ∧ st_.toInt ≤ 400) (hE : vaR (tX (F0 3) (n0 4)) (n0 21).toInt.toNat (F0 17 (Int32.toNatClampNeg (n0 5))).toInt.toNat = (if (F0 17 (Int32.toNatClampNeg (n0 5))).toInt.toNat = 40 then .inl (1 + 8 * S0 + 4) else .inr (S0 + 3, (F0 17 (Int32.toNatClampNeg (n0 5))).toInt.toNat + 1))) : ∀ (k : Nat)  (n : Nat → Int32) (z : Nat → Int64) (F : Nat → Nat → Int32) (G : Nat → Nat → Int64) (fm : gMem), mS cy m a f0 n z F G fm → fx [21, 22, 23] [] [17, 18, 19, 20] [] n0 z0 F0 G0 n z F G → ((0 ≤ (n 21).toInt ∧ (n 21).toInt ≤ (n 4).toInt ∧ (n 4).toInt ≤ 400)) → ((n0 21).toInt ≤ (n 21).toInt) → (rAll F) → ((F 17 (Int32.toNatClampNeg (n0 5))) = (F0 17 (Int32.toNatClampNeg (n0 5)))) → ((n 22).toInt = 0) → ((n 21).toInt = (Q : Int)) → (0 < (k : Int)) → gG l (gRm 2 0 0) (gQf D b (pI fun r f2 => ∃ (n2 : Nat → Int32) (z2 : Nat → Int64) (F2 : Nat → Nat → Int32) (G2 : Nat → Nat → Int64), mS cy m a f0 n2 z2 F2 G2 f2 ∧ fx [21, 22, 23] [] [17, 18, 19, 20] [] n0 z0 F0 G0 n2 z2 F2 G2 ∧ (r = 0 ∨ r = 1) ∧ (0 ≤ (n2 21).toInt ∧ (n2 21).toInt ≤ (n2 4).toInt ∧ (n2 4).toInt ≤ 400) ∧ (n0 21).toInt ≤ (n2 21).toInt ∧ rAll F2 ∧ (F0 17 (Int32.toNatClampNeg (n0 5))).toInt ≤ (F2 17 (Int32.toNatClampNeg (n0 5))).toInt ∧ (F2 17 (Int32.toNatClampNeg (n0 5))).toInt ≤ 40 ∧ exM2 (vaR (tX (F0 3) (n0 4)) (n0 21).toInt.toNat (F0 17 (Int32.toNatClampNeg (n0 5))).toInt.toNat) r n2 (F2 17 (Int32.toNatClampNeg (n0 5)))) 0 0) gTt D cy b cX12_value 7 (some .boolean) RX12 "value" 0 0 fm 72 [(0, .ref m), (1, .int x1), (2, .int st_), (3, .long v), (5, .int 6)] [] := by
  intro k
  induction k with
  | zero =>
    intro n z F G fm hS hx hT hm hA hv h22 h21 hk
    exfalso; omega
  | succ k ih =>
    intro n z F G fm hS hx hT hm hA hv h22 h21 hk
    have qn5 := clI (i := n0 5) (by omega)
    have e4 : n 4 = n0 4 := hx.1 4 (by decide)
    have e3 : F 3 = F0 3 := hx.2.2.1 3 (by decide)
    have hB : rB F := rB_cg e3 hB0
    rw [e4] at hT
    have hln := tX_ln (g := F0 3) (L := n0 4) (by omega)
    have eSt : st_.toInt.toNat = S0 := by omega
    obtain ⟨V, hVV⟩ : ∃ V : Nat, V = (F0 17 (Int32.toNatClampNeg (n0 5))).toInt.toNat := ⟨_, rfl⟩
    have hVi : (F0 17 (Int32.toNatClampNeg (n0 5))).toInt = (V : Int) := by omega
    rw [← hVV] at hE ⊢
    have hv2 : (F 17 (Int32.toNatClampNeg (n0 5))).toInt = (V : Int) := by rw [hv]; exact hVi
    refine gz_aload_n dX12_value_72 rfl rfl ?_
    refine mg_50 hS dX12_value_73 ?_
    refine gz_aload_n dX12_value_76 rfl rfl ?_
    refine mg_307 hS dX12_value_77 ?_
    refine gz_ev (w := .int (n0 5)) (congrArg Value.int (hx.1 5 (by decide))) ?_
    refine m_iald 17 hS rfl (N := 22) rfl ((by exact vin_T (rfl : (n0 5).toInt = (n0 5).toInt) (by omega) (by omega))) dX12_value_80 ?_
    refine gz_bipush (v := 40) dX12_value_81 (by decide) ?_
    refine gz_icmp_ne (tgt := 93) dX12_value_83 (by decide) (fun c_83 => ?_) (fun c_83 => ?_)
    ·
      try simp only [mIn_0, lgc_lt, lgc_gt, lgc_le, lgc_ge, lgc_eq] at c_83
      try simp only [fl_lt, fl_le, fl_eq, fL_w, fL_lt, fL_le, tm1, tm10k, tm9, tm99, Int32.reduceToInt, Int64.reduceToInt, Int.not_lt, Int.not_le] at c_83
      refine gz_iload dX12_value_93 rfl ?_
      refine gz_if_lt (tgt := 102) dX12_value_95 (by decide) (fun c_95 => ?_) (fun c_95 => ?_)
      · exact absurd c_95 (by decide)
      ·
        try simp only [mIn_0, lgc_lt, lgc_gt, lgc_le, lgc_ge, lgc_eq] at c_95
        try simp only [fl_lt, fl_le, fl_eq, fL_w, fL_lt, fL_le, tm1, tm10k, tm9, tm99, Int32.reduceToInt, Int64.reduceToInt, Int.not_lt, Int.not_le] at c_95
        refine gz_aload_n dX12_value_98 rfl rfl ?_
        refine scX12_310 (k_X12_skipsE hS (by (try rw [(show n 4 = (n0 4) from (hx.1 4 (by decide)))]); omega) (rB_cg (hx.2.2.1 3 (by decide)) hB0)) hS.1 ⟨(Nat.le_of_ble_eq_true rfl), (Nat.le_of_ble_eq_true rfl)⟩ ⟨(Nat.le_of_ble_eq_true rfl), (Nat.le_of_ble_eq_true rfl)⟩ rfl rfl (Nat.le_of_ble_eq_true rfl) dX12_value_99 ?_
        rintro f_1 ⟨n_1, z_1, F_1, G_1, hS_1, hx1, hT_1, hm_1, hs_1⟩
        try simp only [(show n_1 4 = (n0 4) from ((hx1.1 4 (by decide)).trans (hx.1 4 (by decide))))] at hT_1 hm_1 hs_1
        try simp only [(show F_1 3 = (F0 3) from ((hx1.2.2.1 3 (by decide)).trans (hx.2.2.1 3 (by decide))))] at hT_1 hm_1 hs_1
        try simp only [(show n 4 = (n0 4) from (hx.1 4 (by decide)))] at hT_1 hm_1 hs_1
        try simp only [(show F 3 = (F0 3) from (hx.2.2.1 3 (by decide)))] at hT_1 hm_1 hs_1
        rw [show (n 21).toInt.toNat = S0 by omega, hG.1] at hs_1
        refine gz_lload_n dX12_value_102 rfl rfl ?_
        refine gz_ldc2 (v := (115)) wd_821 dX12_value_103 ?_
        refine gz_lcmp dX12_value_106 ?_
        refine gz_if_ne (tgt := 177) dX12_value_107 (by decide) (fun c_107 => ?_) (fun c_107 => ?_)
        ·
          try simp only [mIn_0, lgc_lt, lgc_gt, lgc_le, lgc_ge, lgc_eq] at c_107
          try simp only [fl_lt, fl_le, fl_eq, fL_w, fL_lt, fL_le, tm1, tm10k, tm9, tm99, Int32.reduceToInt, Int64.reduceToInt, Int.not_lt, Int.not_le] at c_107
          refine gz_bipush (v := 40) dX12_value_177 (by decide) ?_
          refine gz_aload_n dX12_value_179 rfl rfl ?_
          refine mg_307 hS_1 dX12_value_180 ?_
          refine gz_ev (w := .int (n0 5)) (congrArg Value.int ((hx1.1 5 (by decide)).trans (hx.1 5 (by decide)))) ?_
          refine gz_imul dX12_value_183 ?_
          refine gz_aload_n dX12_value_184 rfl rfl ?_
          refine mg_50 hS_1 dX12_value_185 ?_
          refine gz_aload_n dX12_value_188 rfl rfl ?_
          refine mg_307 hS_1 dX12_value_189 ?_
          refine gz_ev (w := .int (n0 5)) (congrArg Value.int ((hx1.1 5 (by decide)).trans (hx.1 5 (by decide)))) ?_
          refine m_iald 17 hS_1 rfl (N := 22) rfl ((by exact vin_T (rfl : (n0 5).toInt = (n0 5).toInt) (by omega) (by omega))) dX12_value_192 ?_
          refine gz_ev (w := .int ((F 17) (Int32.toNatClampNeg (n0 5)))) (congrArg Value.int (congrFun (hx1.2.2.1 17 (by decide)) _)) ?_
          refine gz_iadd dX12_value_193 ?_
          obtain ⟨sl, hsl⟩ : ∃ v_ : Int32, v_ = ((40 * (n0 5)) + ((F 17) (Int32.toNatClampNeg (n0 5)))) := ⟨_, rfl⟩
          refine gz_ev (w := .int sl) (congrArg Value.int hsl.symm) ?_
          have qsl : 0 ≤ sl.toInt ∧ sl.toInt < 880 := by rw [hsl]; have q := (T_add (T_mul (show (40 : Int32).toInt = 40 from rfl) (rfl : ((n0 5)).toInt = ((n0 5)).toInt) (by omega)) (rfl : (((F 17) (Int32.toNatClampNeg (n0 5)))).toInt = (((F 17) (Int32.toNatClampNeg (n0 5)))).toInt) (by omega)); omega
          refine gz_istore (lv' := [(6, .int sl), (0, .ref m), (1, .int x1), (2, .int st_), (3, .long v), (5, .int 6)]) dX12_value_194 (by decide) rfl ?_
          refine gz_aload_n dX12_value_196 rfl rfl ?_
          refine mg_50 hS_1 dX12_value_197 ?_
          refine gz_aload_n dX12_value_200 rfl rfl ?_
          refine mg_307 hS_1 dX12_value_201 ?_
          refine gz_ev (w := .int (n0 5)) (congrArg Value.int ((hx1.1 5 (by decide)).trans (hx.1 5 (by decide)))) ?_
          refine gz_dup2 dX12_value_204 rfl rfl ?_
          refine m_iald 17 hS_1 rfl (N := 22) rfl ((by exact vin_T (rfl : (n0 5).toInt = (n0 5).toInt) (by omega) (by omega))) dX12_value_205 ?_
          refine gz_ev (w := .int ((F 17) (Int32.toNatClampNeg (n0 5)))) (congrArg Value.int (congrFun (hx1.2.2.1 17 (by decide)) _)) ?_
          refine gz_iconst (v := 1) dX12_value_206 (by decide) ?_
          refine gz_iadd dX12_value_207 ?_
          refine m_iast 17 hS_1 rfl (N := 22) rfl ((by exact vin_T (rfl : (n0 5).toInt = (n0 5).toInt) (by omega) (by omega))) dX12_value_208 (fun f_2 hS_2q => ?_)
          have hS_2 : mS cy m a f0 n_1 z_1 (va_up F_1 17 (upd (F 17) (Int32.toNatClampNeg (n0 5)) (((F 17) (Int32.toNatClampNeg (n0 5))) + 1))) G_1 f_2 := (by have e9 := (show F_1 17 = (F 17) from (hx1.2.2.1 17 (by decide))); rw [e9] at hS_2q; exact hS_2q)
          refine gz_aload_n dX12_value_209 rfl rfl ?_
          refine mg_53 hS_2 dX12_value_210 ?_
          refine gz_iload dX12_value_213 rfl ?_
          refine gz_iload_n dX12_value_215 rfl rfl ?_
          refine m_iast 18 hS_2 rfl (N := 880) rfl ((by exact vin_T (rfl : sl.toInt = sl.toInt) (by omega) (by omega))) dX12_value_216 (fun f_3 hS_3q => ?_)
          have hS_3 : mS cy m a f0 n_1 z_1 (va_up (va_up F_1 17 (upd (F 17) (Int32.toNatClampNeg (n0 5)) (((F 17) (Int32.toNatClampNeg (n0 5))) + 1))) 18 (upd (F 18) (Int32.toNatClampNeg sl) x1)) G_1 f_3 := (by have e9 := (show (va_up F_1 17 (upd (F 17) (Int32.toNatClampNeg (n0 5)) (((F 17) (Int32.toNatClampNeg (n0 5))) + 1))) 18 = (F 18) from (hx1.2.2.1 18 (by decide))); rw [e9] at hS_3q; exact hS_3q)
          refine gz_aload_n dX12_value_217 rfl rfl ?_
          refine mg_56 hS_3 dX12_value_218 ?_
          refine gz_iload dX12_value_221 rfl ?_
          refine gz_iload dX12_value_223 rfl ?_
          refine m_iast 19 hS_3 rfl (N := 880) rfl ((by exact vin_T (rfl : sl.toInt = sl.toInt) (by omega) (by omega))) dX12_value_225 (fun f_4 hS_4q => ?_)
          have hS_4 : mS cy m a f0 n_1 z_1 (va_up (va_up (va_up F_1 17 (upd (F 17) (Int32.toNatClampNeg (n0 5)) (((F 17) (Int32.toNatClampNeg (n0 5))) + 1))) 18 (upd (F 18) (Int32.toNatClampNeg sl) x1)) 19 (upd (F 19) (Int32.toNatClampNeg sl) 6)) G_1 f_4 := (by have e9 := (show (va_up (va_up F_1 17 (upd (F 17) (Int32.toNatClampNeg (n0 5)) (((F 17) (Int32.toNatClampNeg (n0 5))) + 1))) 18 (upd (F 18) (Int32.toNatClampNeg sl) x1)) 19 = (F 19) from (hx1.2.2.1 19 (by decide))); rw [e9] at hS_4q; exact hS_4q)
          refine gz_aload_n dX12_value_226 rfl rfl ?_
          refine mg_59 hS_4 dX12_value_227 ?_
          refine gz_iload dX12_value_230 rfl ?_
          refine gz_iload dX12_value_232 rfl ?_
          refine gz_if_ge (tgt := 244) dX12_value_234 (by decide) (fun c_234 => ?_) (fun c_234 => ?_)
          ·
            try simp only [mIn_0, lgc_lt, lgc_gt, lgc_le, lgc_ge, lgc_eq] at c_234
            try simp only [fl_lt, fl_le, fl_eq, fL_w, fL_lt, fL_le, tm1, tm10k, tm9, tm99, Int32.reduceToInt, Int64.reduceToInt, Int.not_lt, Int.not_le] at c_234
            refine gz_iconst (v := 0) dX12_value_244 (by decide) ?_
            refine m_iast 20 hS_4 rfl (N := 880) rfl ((by exact vin_T (rfl : sl.toInt = sl.toInt) (by omega) (by omega))) dX12_value_245 (fun f_5 hS_5q => ?_)
            have hS_5 : mS cy m a f0 n_1 z_1 (va_up (va_up (va_up (va_up F_1 17 (upd (F 17) (Int32.toNatClampNeg (n0 5)) (((F 17) (Int32.toNatClampNeg (n0 5))) + 1))) 18 (upd (F 18) (Int32.toNatClampNeg sl) x1)) 19 (upd (F 19) (Int32.toNatClampNeg sl) 6)) 20 (upd (F 20) (Int32.toNatClampNeg sl) 0)) G_1 f_5 := (by have e9 := (show (va_up (va_up (va_up F_1 17 (upd (F 17) (Int32.toNatClampNeg (n0 5)) (((F 17) (Int32.toNatClampNeg (n0 5))) + 1))) 18 (upd (F 18) (Int32.toNatClampNeg sl) x1)) 19 (upd (F 19) (Int32.toNatClampNeg sl) 6)) 20 = (F 20) from (hx1.2.2.1 20 (by decide))); rw [e9] at hS_5q; exact hS_5q)
            refine gz_iconst (v := 1) dX12_value_246 (by decide) ?_
            have s13_ : (va_up (va_up (va_up (va_up F_1 17 (upd (F 17) (Int32.toNatClampNeg (n0 5)) (((F 17) (Int32.toNatClampNeg (n0 5))) + 1))) 18 (upd (F 18) (Int32.toNatClampNeg sl) x1)) 19 (upd (F 19) (Int32.toNatClampNeg sl) 6)) 20 (upd (F 20) (Int32.toNatClampNeg sl) 0)) 13 = (F 13) := (hx1.2.2.1 13 (by decide))
            have s14_ : (va_up (va_up (va_up (va_up F_1 17 (upd (F 17) (Int32.toNatClampNeg (n0 5)) (((F 17) (Int32.toNatClampNeg (n0 5))) + 1))) 18 (upd (F 18) (Int32.toNatClampNeg sl) x1)) 19 (upd (F 19) (Int32.toNatClampNeg sl) 6)) 20 (upd (F 20) (Int32.toNatClampNeg sl) 0)) 14 = (F 14) := (hx1.2.2.1 14 (by decide))
            have s15_ : (va_up (va_up (va_up (va_up F_1 17 (upd (F 17) (Int32.toNatClampNeg (n0 5)) (((F 17) (Int32.toNatClampNeg (n0 5))) + 1))) 18 (upd (F 18) (Int32.toNatClampNeg sl) x1)) 19 (upd (F 19) (Int32.toNatClampNeg sl) 6)) 20 (upd (F 20) (Int32.toNatClampNeg sl) 0)) 15 = (F 15) := (hx1.2.2.1 15 (by decide))
            have s17_ : (va_up (va_up (va_up (va_up F_1 17 (upd (F 17) (Int32.toNatClampNeg (n0 5)) (((F 17) (Int32.toNatClampNeg (n0 5))) + 1))) 18 (upd (F 18) (Int32.toNatClampNeg sl) x1)) 19 (upd (F 19) (Int32.toNatClampNeg sl) 6)) 20 (upd (F 20) (Int32.toNatClampNeg sl) 0)) 17 = (upd (F 17) (Int32.toNatClampNeg (n0 5)) (((F 17) (Int32.toNatClampNeg (n0 5))) + 1)) := rfl
            have s19_ : (va_up (va_up (va_up (va_up F_1 17 (upd (F 17) (Int32.toNatClampNeg (n0 5)) (((F 17) (Int32.toNatClampNeg (n0 5))) + 1))) 18 (upd (F 18) (Int32.toNatClampNeg sl) x1)) 19 (upd (F 19) (Int32.toNatClampNeg sl) 6)) 20 (upd (F 20) (Int32.toNatClampNeg sl) 0)) 19 = (upd (F 19) (Int32.toNatClampNeg sl) 6) := rfl
            have hA9 : rAll (va_up (va_up (va_up (va_up F_1 17 (upd (F 17) (Int32.toNatClampNeg (n0 5)) (((F 17) (Int32.toNatClampNeg (n0 5))) + 1))) 18 (upd (F 18) (Int32.toNatClampNeg sl) x1)) 19 (upd (F 19) (Int32.toNatClampNeg sl) 6)) 20 (upd (F 20) (Int32.toNatClampNeg sl) 0)) := by
              intro q hq
              obtain ⟨q1, q2, q3, q4⟩ := hA q hq
              rw [s13_, s14_, s15_, s19_]
              refine ⟨q1, q2, q3, ?_⟩
              rw [updE]; split
              · decide
              · exact q4
            have v17 : ((va_up (va_up (va_up (va_up F_1 17 (upd (F 17) (Int32.toNatClampNeg (n0 5)) (((F 17) (Int32.toNatClampNeg (n0 5))) + 1))) 18 (upd (F 18) (Int32.toNatClampNeg sl) x1)) 19 (upd (F 19) (Int32.toNatClampNeg sl) 6)) 20 (upd (F 20) (Int32.toNatClampNeg sl) 0)) 17 (Int32.toNatClampNeg (n0 5))).toInt = (V : Int) + 1 := by rw [s17_, updE, if_pos rfl]; exact T_add hv2 (show (1 : Int32).toInt = 1 from rfl) (by omega)
            exact gz_zret rfl (by first | decide | exact nrb (Or.inl (by assumption)) | exact nrb (by assumption) | (refine nrb ?_; assumption)) dX12_value_247 (Nat.le_of_ble_eq_true rfl) (Nat.le_of_ble_eq_true rfl) (⟨_, rfl, _, _, _, _, hS_5, (fx_F (fx_F (fx_F (fx_F (fx_tr hx hx1 (by decide)) (by decide)) (by decide)) (by decide)) (by decide)), Or.inr rfl, (by (try rw [(show n_1 21 = (n_1 21) from rfl)]); (try rw [(show n_1 4 = (n0 4) from ((hx1.1 4 (by decide)).trans (hx.1 4 (by decide))))]); omega), (by (try rw [(show n_1 21 = (n_1 21) from rfl)]); omega), hA9, (by omega), (by omega), (by rw [hE, if_neg (show ¬ V = 40 by omega)]; exact ⟨rfl, (by (try rw [(show n_1 22 = (n 22) from (hx1.1 22 (by decide)))]); omega), (by (try rw [(show n_1 21 = (n_1 21) from rfl)]); omega), v17⟩)⟩)
          · exact absurd c_234 (by decide)
        ·
          try simp only [mIn_0, lgc_lt, lgc_gt, lgc_le, lgc_ge, lgc_eq] at c_107
          try simp only [fl_lt, fl_le, fl_eq, fL_w, fL_lt, fL_le, tm1, tm10k, tm9, tm99, Int32.reduceToInt, Int64.reduceToInt, Int.not_lt, Int.not_le] at c_107
          exfalso; have z := congrArg Int64.toInt c_107; rw [show (115 : Int64).toInt = 115 from rfl] at z; omega
    ·
      try simp only [mIn_0, lgc_lt, lgc_gt, lgc_le, lgc_ge, lgc_eq] at c_83
      try simp only [fl_lt, fl_le, fl_eq, fL_w, fL_lt, fL_le, tm1, tm10k, tm9, tm99, Int32.reduceToInt, Int64.reduceToInt, Int.not_lt, Int.not_le] at c_83
      refine gz_aload_n dX12_value_86 rfl rfl ?_
      refine gz_iconst (v := 4) dX12_value_87 (by decide) ?_
      refine gz_iload_n dX12_value_88 rfl rfl ?_
      refine scX12_279 (k_X12_failsE (x := 4) (y := st_) hS (by omega) (by (try rw [(show n 4 = (n0 4) from (hx.1 4 (by decide)))]); omega) (by decide)) hS.1 ⟨(Nat.le_of_ble_eq_true rfl), (Nat.le_of_ble_eq_true rfl)⟩ ⟨(Nat.le_of_ble_eq_true rfl), (Nat.le_of_ble_eq_true rfl)⟩ rfl rfl (Nat.le_of_ble_eq_true rfl) dX12_value_89 ?_
      rintro r_6 f_6 ⟨n_6, z_6, F_6, G_6, hS_6, hx6, hr_6, hf_6⟩
      simp only [Int32.reduceToInt] at hf_6
      have hAe : rAll F_6 := by
        intro q hq
        obtain ⟨qa0, qb0, qc0, qd0⟩ := hA q hq
        rw [show F_6 13 = (F 13) from (hx6.2.2.1 13 (by decide)), show F_6 14 = (F 14) from (hx6.2.2.1 14 (by decide)), show F_6 15 = (F 15) from (hx6.2.2.1 15 (by decide)), show F_6 19 = (F 19) from (hx6.2.2.1 19 (by decide))]
        refine ⟨?_, ?_, ?_, ?_⟩ <;> (try simp only [updE]) <;> (repeat' split) <;> first | omega | decide
      have e17 : (F_6 17 (Int32.toNatClampNeg (n0 5))).toInt = ((F 17) (Int32.toNatClampNeg (n0 5))).toInt := by rw [show F_6 17 = (F 17) from (hx6.2.2.1 17 (by decide))]
      rw [hv2] at e17
      exact gz_zret rfl (by first | decide | exact nrb (Or.inl (by assumption)) | exact nrb (by assumption) | (refine nrb ?_; assumption)) dX12_value_92 (Nat.le_of_ble_eq_true rfl) (Nat.le_of_ble_eq_true rfl) (⟨_, rfl, _, _, _, _, hS_6, (fx_tr hx hx6 (by decide)), (by first | exact Or.inl rfl | exact Or.inr rfl | assumption | (left; assumption)), (by (try rw [(show n_6 21 = (n 21) from (hx6.1 21 (by decide)))]); (try rw [(show n_6 4 = (n0 4) from ((hx6.1 4 (by decide)).trans (hx.1 4 (by decide))))]); omega), (by (try rw [(show n_6 21 = (n 21) from (hx6.1 21 (by decide)))]); omega), hAe, (by omega), (by omega), (by rw [hE, if_pos (show V = 40 by omega)]; exact ⟨hr_6, (by (try rw [(show n_6 22 = (n_6 22) from rfl)]); omega)⟩)⟩)

set_option maxHeartbeats 4000000 in
set_option maxRecDepth 100000 in
theorem l_X12_valueEs {l : Launch} {D : va_G} {cy : Nat → ClassId} {b : Nat} {m : Nat} {a : Nat → Nat} {f0 : gMem} {n0 : Nat → Int32} {z0 : Nat → Int64} {F0 : Nat → Nat → Int32} {G0 : Nat → Nat → Int64}  {x1 : Int32} {st_ : Int32} {v : Int64} {S0 Q : Nat} (h5 : 0 ≤ (n0 5).toInt ∧ (n0 5).toInt < 20) (h0 : 0 ≤ (F0 17 (Int32.toNatClampNeg (n0 5))).toInt ∧ (F0 17 (Int32.toNatClampNeg (n0 5))).toInt ≤ 40) (hB0 : rB F0) (hvS : v.toInt = 115) (hG : ltR (tX (F0 3) (n0 4)) S0 = 1 ∧ Q = S0 ∧ (tX (F0 3) (n0 4)) S0 = 115) (hst : st_.toInt = (S0 : Int) ∧ st_.toInt ≤ 400) (hE : vaR (tX (F0 3) (n0 4)) (n0 21).toInt.toNat (F0 17 (Int32.toNatClampNeg (n0 5))).toInt.toNat = (if (F0 17 (Int32.toNatClampNeg (n0 5))).toInt.toNat = 40 then .inl (1 + 8 * S0 + 4) else if 48 ≤ (tX (F0 3) (n0 4)) (S0 + 1) ∧ (tX (F0 3) (n0 4)) (S0 + 1) ≤ 53 then .inr (S0 + 2, (F0 17 (Int32.toNatClampNeg (n0 5))).toInt.toNat + 1) else .inl (1 + 8 * (S0 + 1)))) : ∀ (k : Nat)  (n : Nat → Int32) (z : Nat → Int64) (F : Nat → Nat → Int32) (G : Nat → Nat → Int64) (fm : gMem), mS cy m a f0 n z F G fm → fx [21, 22, 23] [] [17, 18, 19, 20] [] n0 z0 F0 G0 n z F G → ((0 ≤ (n 21).toInt ∧ (n 21).toInt ≤ (n 4).toInt ∧ (n 4).toInt ≤ 400)) → ((n0 21).toInt ≤ (n 21).toInt) → (rAll F) → ((F 17 (Int32.toNatClampNeg (n0 5))) = (F0 17 (Int32.toNatClampNeg (n0 5)))) → ((n 22).toInt = 0) → ((n 21).toInt = (Q : Int)) → (0 < (k : Int)) → gG l (gRm 2 0 0) (gQf D b (pI fun r f2 => ∃ (n2 : Nat → Int32) (z2 : Nat → Int64) (F2 : Nat → Nat → Int32) (G2 : Nat → Nat → Int64), mS cy m a f0 n2 z2 F2 G2 f2 ∧ fx [21, 22, 23] [] [17, 18, 19, 20] [] n0 z0 F0 G0 n2 z2 F2 G2 ∧ (r = 0 ∨ r = 1) ∧ (0 ≤ (n2 21).toInt ∧ (n2 21).toInt ≤ (n2 4).toInt ∧ (n2 4).toInt ≤ 400) ∧ (n0 21).toInt ≤ (n2 21).toInt ∧ rAll F2 ∧ (F0 17 (Int32.toNatClampNeg (n0 5))).toInt ≤ (F2 17 (Int32.toNatClampNeg (n0 5))).toInt ∧ (F2 17 (Int32.toNatClampNeg (n0 5))).toInt ≤ 40 ∧ exM2 (vaR (tX (F0 3) (n0 4)) (n0 21).toInt.toNat (F0 17 (Int32.toNatClampNeg (n0 5))).toInt.toNat) r n2 (F2 17 (Int32.toNatClampNeg (n0 5)))) 0 0) gTt D cy b cX12_value 7 (some .boolean) RX12 "value" 0 0 fm 72 [(0, .ref m), (1, .int x1), (2, .int st_), (3, .long v), (5, .int 0)] [] := by
  intro k
  induction k with
  | zero =>
    intro n z F G fm hS hx hT hm hA hv h22 h21 hk
    exfalso; omega
  | succ k ih =>
    intro n z F G fm hS hx hT hm hA hv h22 h21 hk
    have qn5 := clI (i := n0 5) (by omega)
    have e4 : n 4 = n0 4 := hx.1 4 (by decide)
    have e3 : F 3 = F0 3 := hx.2.2.1 3 (by decide)
    have hB : rB F := rB_cg e3 hB0
    rw [e4] at hT
    have hln := tX_ln (g := F0 3) (L := n0 4) (by omega)
    have eSt : st_.toInt.toNat = S0 := by omega
    obtain ⟨V, hVV⟩ : ∃ V : Nat, V = (F0 17 (Int32.toNatClampNeg (n0 5))).toInt.toNat := ⟨_, rfl⟩
    have hVi : (F0 17 (Int32.toNatClampNeg (n0 5))).toInt = (V : Int) := by omega
    rw [← hVV] at hE ⊢
    have hv2 : (F 17 (Int32.toNatClampNeg (n0 5))).toInt = (V : Int) := by rw [hv]; exact hVi
    refine gz_aload_n dX12_value_72 rfl rfl ?_
    refine mg_50 hS dX12_value_73 ?_
    refine gz_aload_n dX12_value_76 rfl rfl ?_
    refine mg_307 hS dX12_value_77 ?_
    refine gz_ev (w := .int (n0 5)) (congrArg Value.int (hx.1 5 (by decide))) ?_
    refine m_iald 17 hS rfl (N := 22) rfl ((by exact vin_T (rfl : (n0 5).toInt = (n0 5).toInt) (by omega) (by omega))) dX12_value_80 ?_
    refine gz_bipush (v := 40) dX12_value_81 (by decide) ?_
    refine gz_icmp_ne (tgt := 93) dX12_value_83 (by decide) (fun c_83 => ?_) (fun c_83 => ?_)
    ·
      try simp only [mIn_0, lgc_lt, lgc_gt, lgc_le, lgc_ge, lgc_eq] at c_83
      try simp only [fl_lt, fl_le, fl_eq, fL_w, fL_lt, fL_le, tm1, tm10k, tm9, tm99, Int32.reduceToInt, Int64.reduceToInt, Int.not_lt, Int.not_le] at c_83
      refine gz_iload dX12_value_93 rfl ?_
      refine gz_if_lt (tgt := 102) dX12_value_95 (by decide) (fun c_95 => ?_) (fun c_95 => ?_)
      · exact absurd c_95 (by decide)
      ·
        try simp only [mIn_0, lgc_lt, lgc_gt, lgc_le, lgc_ge, lgc_eq] at c_95
        try simp only [fl_lt, fl_le, fl_eq, fL_w, fL_lt, fL_le, tm1, tm10k, tm9, tm99, Int32.reduceToInt, Int64.reduceToInt, Int.not_lt, Int.not_le] at c_95
        refine gz_aload_n dX12_value_98 rfl rfl ?_
        refine scX12_310 (k_X12_skipsE hS (by (try rw [(show n 4 = (n0 4) from (hx.1 4 (by decide)))]); omega) (rB_cg (hx.2.2.1 3 (by decide)) hB0)) hS.1 ⟨(Nat.le_of_ble_eq_true rfl), (Nat.le_of_ble_eq_true rfl)⟩ ⟨(Nat.le_of_ble_eq_true rfl), (Nat.le_of_ble_eq_true rfl)⟩ rfl rfl (Nat.le_of_ble_eq_true rfl) dX12_value_99 ?_
        rintro f_1 ⟨n_1, z_1, F_1, G_1, hS_1, hx1, hT_1, hm_1, hs_1⟩
        try simp only [(show n_1 4 = (n0 4) from ((hx1.1 4 (by decide)).trans (hx.1 4 (by decide))))] at hT_1 hm_1 hs_1
        try simp only [(show F_1 3 = (F0 3) from ((hx1.2.2.1 3 (by decide)).trans (hx.2.2.1 3 (by decide))))] at hT_1 hm_1 hs_1
        try simp only [(show n 4 = (n0 4) from (hx.1 4 (by decide)))] at hT_1 hm_1 hs_1
        try simp only [(show F 3 = (F0 3) from (hx.2.2.1 3 (by decide)))] at hT_1 hm_1 hs_1
        rw [show (n 21).toInt.toNat = S0 by omega, hG.1] at hs_1
        refine gz_lload_n dX12_value_102 rfl rfl ?_
        refine gz_ldc2 (v := (115)) wd_821 dX12_value_103 ?_
        refine gz_lcmp dX12_value_106 ?_
        refine gz_if_ne (tgt := 177) dX12_value_107 (by decide) (fun c_107 => ?_) (fun c_107 => ?_)
        ·
          try simp only [mIn_0, lgc_lt, lgc_gt, lgc_le, lgc_ge, lgc_eq] at c_107
          try simp only [fl_lt, fl_le, fl_eq, fL_w, fL_lt, fL_le, tm1, tm10k, tm9, tm99, Int32.reduceToInt, Int64.reduceToInt, Int.not_lt, Int.not_le] at c_107
          exact absurd (Int64.toInt_inj.mp (show v.toInt = (115 : Int64).toInt by rw [show (115 : Int64).toInt = 115 from rfl]; omega)) c_107
        ·
          try simp only [mIn_0, lgc_lt, lgc_gt, lgc_le, lgc_ge, lgc_eq] at c_107
          try simp only [fl_lt, fl_le, fl_eq, fL_w, fL_lt, fL_le, tm1, tm10k, tm9, tm99, Int32.reduceToInt, Int64.reduceToInt, Int.not_lt, Int.not_le] at c_107
          refine gz_aload_n dX12_value_110 rfl rfl ?_
          refine gz_iload_n dX12_value_111 rfl rfl ?_
          refine scX12_283 (k_X12_isDigitE (x := st_) hS_1 (by (try rw [(show n_1 21 = (n_1 21) from rfl)]); (try rw [(show n_1 4 = (n0 4) from ((hx1.1 4 (by decide)).trans (hx.1 4 (by decide))))]); omega) (by (try rw [(show n_1 21 = (n_1 21) from rfl)]); (try rw [(show n_1 4 = (n0 4) from ((hx1.1 4 (by decide)).trans (hx.1 4 (by decide))))]); omega) (rB_cg ((hx1.2.2.1 3 (by decide)).trans (hx.2.2.1 3 (by decide))) hB0)) hS_1.1 ⟨(Nat.le_of_ble_eq_true rfl), (Nat.le_of_ble_eq_true rfl)⟩ ⟨(Nat.le_of_ble_eq_true rfl), (Nat.le_of_ble_eq_true rfl)⟩ rfl rfl (Nat.le_of_ble_eq_true rfl) dX12_value_112 ?_
          rintro r_2 f9 ⟨hb_2, y9⟩; rw [y9]
          try simp only [(show n_1 4 = (n0 4) from ((hx1.1 4 (by decide)).trans (hx.1 4 (by decide))))] at hb_2
          try simp only [(show F_1 3 = (F0 3) from ((hx1.2.2.1 3 (by decide)).trans (hx.2.2.1 3 (by decide))))] at hb_2
          have hbb_2 : r_2 = 0 ∨ r_2 = 1 := hb_2.imp And.left And.left
          simp only [fl_eq, Int32.reduceToInt] at hb_2
          rw [eSt] at hb_2
          refine gz_if_ne (tgt := 177) dX12_value_115 (by decide) (fun c_115 => ?_) (fun c_115 => ?_)
          ·
            try simp only [mIn_0, lgc_lt, lgc_gt, lgc_le, lgc_ge, lgc_eq] at c_115
            try simp only [fl_lt, fl_le, fl_eq, fL_w, fL_lt, fL_le, tm1, tm10k, tm9, tm99, Int32.reduceToInt, Int64.reduceToInt, Int.not_lt, Int.not_le] at c_115
            exfalso; omega
          ·
            try simp only [mIn_0, lgc_lt, lgc_gt, lgc_le, lgc_ge, lgc_eq] at c_115
            try simp only [fl_lt, fl_le, fl_eq, fL_w, fL_lt, fL_le, tm1, tm10k, tm9, tm99, Int32.reduceToInt, Int64.reduceToInt, Int.not_lt, Int.not_le] at c_115
            refine gz_aload_n dX12_value_118 rfl rfl ?_
            refine gz_aload_n dX12_value_119 rfl rfl ?_
            refine mg_272 hS_1 dX12_value_120 ?_
            refine gz_ev (w := .int (n_1 21)) rfl ?_
            refine scX12_283 (k_X12_isDigitE (x := (n_1 21)) hS_1 (by (try rw [(show n_1 21 = (n_1 21) from rfl)]); (try rw [(show n_1 4 = (n0 4) from ((hx1.1 4 (by decide)).trans (hx.1 4 (by decide))))]); omega) (by (try rw [(show n_1 21 = (n_1 21) from rfl)]); (try rw [(show n_1 4 = (n0 4) from ((hx1.1 4 (by decide)).trans (hx.1 4 (by decide))))]); omega) (rB_cg ((hx1.2.2.1 3 (by decide)).trans (hx.2.2.1 3 (by decide))) hB0)) hS_1.1 ⟨(Nat.le_of_ble_eq_true rfl), (Nat.le_of_ble_eq_true rfl)⟩ ⟨(Nat.le_of_ble_eq_true rfl), (Nat.le_of_ble_eq_true rfl)⟩ rfl rfl (Nat.le_of_ble_eq_true rfl) dX12_value_123 ?_
            rintro r_3 f9 ⟨hb_3, y9⟩; rw [y9]
            try simp only [(show n_1 4 = (n0 4) from ((hx1.1 4 (by decide)).trans (hx.1 4 (by decide))))] at hb_3
            try simp only [(show F_1 3 = (F0 3) from ((hx1.2.2.1 3 (by decide)).trans (hx.2.2.1 3 (by decide))))] at hb_3
            have hbb_3 : r_3 = 0 ∨ r_3 = 1 := hb_3.imp And.left And.left
            simp only [fl_eq, Int32.reduceToInt] at hb_3
            have en1 : (n_1 21).toInt.toNat = S0 + 1 := by omega
            rw [en1] at hb_3
            refine gz_if_eq (tgt := 143) dX12_value_126 (by decide) (fun c_126 => ?_) (fun c_126 => ?_)
            ·
              try simp only [mIn_0, lgc_lt, lgc_gt, lgc_le, lgc_ge, lgc_eq] at c_126
              try simp only [fl_lt, fl_le, fl_eq, fL_w, fL_lt, fL_le, tm1, tm10k, tm9, tm99, Int32.reduceToInt, Int64.reduceToInt, Int.not_lt, Int.not_le] at c_126
              refine gz_aload_n dX12_value_143 rfl rfl ?_
              refine gz_iconst (v := 0) dX12_value_144 (by decide) ?_
              refine gz_aload_n dX12_value_145 rfl rfl ?_
              refine mg_272 hS_1 dX12_value_146 ?_
              refine gz_ev (w := .int (n_1 21)) rfl ?_
              refine scX12_279 (k_X12_failsE (x := 0) (y := (n_1 21)) hS_1 (by (try rw [(show n_1 22 = (n 22) from (hx1.1 22 (by decide)))]); omega) (by (try rw [(show n_1 21 = (n_1 21) from rfl)]); (try rw [(show n_1 4 = (n0 4) from ((hx1.1 4 (by decide)).trans (hx.1 4 (by decide))))]); omega) (by decide)) hS_1.1 ⟨(Nat.le_of_ble_eq_true rfl), (Nat.le_of_ble_eq_true rfl)⟩ ⟨(Nat.le_of_ble_eq_true rfl), (Nat.le_of_ble_eq_true rfl)⟩ rfl rfl (Nat.le_of_ble_eq_true rfl) dX12_value_149 ?_
              rintro r_4 f_4 ⟨n_4, z_4, F_4, G_4, hS_4, hx4, hr_4, hf_4⟩
              try simp only [(show n_1 22 = (n 22) from (hx1.1 22 (by decide)))] at hr_4 hf_4
              simp only [Int32.reduceToInt] at hf_4
              have hAe : rAll F_4 := by
                intro q hq
                obtain ⟨qa0, qb0, qc0, qd0⟩ := hA q hq
                rw [show F_4 13 = (F 13) from ((hx4.2.2.1 13 (by decide)).trans (hx1.2.2.1 13 (by decide))), show F_4 14 = (F 14) from ((hx4.2.2.1 14 (by decide)).trans (hx1.2.2.1 14 (by decide))), show F_4 15 = (F 15) from ((hx4.2.2.1 15 (by decide)).trans (hx1.2.2.1 15 (by decide))), show F_4 19 = (F 19) from ((hx4.2.2.1 19 (by decide)).trans (hx1.2.2.1 19 (by decide)))]
                refine ⟨?_, ?_, ?_, ?_⟩ <;> (try simp only [updE]) <;> (repeat' split) <;> first | omega | decide
              have e17 : (F_4 17 (Int32.toNatClampNeg (n0 5))).toInt = ((F 17) (Int32.toNatClampNeg (n0 5))).toInt := by rw [show F_4 17 = (F 17) from ((hx4.2.2.1 17 (by decide)).trans (hx1.2.2.1 17 (by decide)))]
              rw [hv2] at e17
              exact gz_zret rfl (by first | decide | exact nrb (Or.inl (by assumption)) | exact nrb (by assumption) | (refine nrb ?_; assumption)) dX12_value_152 (Nat.le_of_ble_eq_true rfl) (Nat.le_of_ble_eq_true rfl) (⟨_, rfl, _, _, _, _, hS_4, (fx_tr (fx_tr hx hx1 (by decide)) hx4 (by decide)), (by first | exact Or.inl rfl | exact Or.inr rfl | assumption | (left; assumption)), (by (try rw [(show n_4 21 = (n_1 21) from (hx4.1 21 (by decide)))]); (try rw [(show n_4 4 = (n0 4) from ((hx4.1 4 (by decide)).trans ((hx1.1 4 (by decide)).trans (hx.1 4 (by decide)))))]); omega), (by (try rw [(show n_4 21 = (n_1 21) from (hx4.1 21 (by decide)))]); omega), hAe, (by omega), (by omega), (by rw [hE, if_neg (show ¬ V = 40 by omega), if_neg (show ¬ (48 ≤ (tX (F0 3) (n0 4)) (S0 + 1) ∧ (tX (F0 3) (n0 4)) (S0 + 1) ≤ 53) by omega)]; exact ⟨hr_4, (by (try rw [(show n_4 22 = (n_4 22) from rfl)]); omega)⟩)⟩)
            ·
              try simp only [mIn_0, lgc_lt, lgc_gt, lgc_le, lgc_ge, lgc_eq] at c_126
              try simp only [fl_lt, fl_le, fl_eq, fL_w, fL_lt, fL_le, tm1, tm10k, tm9, tm99, Int32.reduceToInt, Int64.reduceToInt, Int.not_lt, Int.not_le] at c_126
              refine gz_aload_n dX12_value_129 rfl rfl ?_
              refine mg_13 hS_1 dX12_value_130 ?_
              refine gz_aload_n dX12_value_133 rfl rfl ?_
              refine mg_272 hS_1 dX12_value_134 ?_
              refine gz_ev (w := .int (n_1 21)) rfl ?_
              refine m_bald 3 hS_1 rfl (N := 400) rfl ((by exact vin_T (rfl : ((n_1 21)).toInt = ((n_1 21)).toInt) (by omega) (by omega))) dX12_value_137 ?_
              refine gz_ev (w := .int ((F0 3) (Int32.toNatClampNeg (n_1 21)))) (congrArg Value.int (congrFun ((hx1.2.2.1 3 (by decide)).trans (hx.2.2.1 3 (by decide))) _)) ?_
              refine gz_bipush (v := 53) dX12_value_138 (by decide) ?_
              refine gz_icmp_le (tgt := 153) dX12_value_140 (by decide) (fun c_140 => ?_) (fun c_140 => ?_)
              ·
                try simp only [mIn_0, lgc_lt, lgc_gt, lgc_le, lgc_ge, lgc_eq] at c_140
                try simp only [fl_lt, fl_le, fl_eq, fL_w, fL_lt, fL_le, tm1, tm10k, tm9, tm99, Int32.reduceToInt, Int64.reduceToInt, Int.not_lt, Int.not_le] at c_140
                refine gz_aload_n dX12_value_153 rfl rfl ?_
                refine mg_13 hS_1 dX12_value_154 ?_
                refine gz_aload_n dX12_value_157 rfl rfl ?_
                refine mg_272 hS_1 dX12_value_158 ?_
                refine gz_ev (w := .int (n_1 21)) rfl ?_
                refine m_bald 3 hS_1 rfl (N := 400) rfl ((by exact vin_T (rfl : ((n_1 21)).toInt = ((n_1 21)).toInt) (by omega) (by omega))) dX12_value_161 ?_
                refine gz_ev (w := .int ((F0 3) (Int32.toNatClampNeg (n_1 21)))) (congrArg Value.int (congrFun ((hx1.2.2.1 3 (by decide)).trans (hx.2.2.1 3 (by decide))) _)) ?_
                refine gz_bipush (v := 48) dX12_value_162 (by decide) ?_
                refine gz_isub dX12_value_164 ?_
                obtain ⟨wt, hwt⟩ : ∃ v_ : Int32, v_ = (((F0 3) (Int32.toNatClampNeg (n_1 21))) - 48) := ⟨_, rfl⟩
                refine gz_ev (w := .int wt) (congrArg Value.int hwt.symm) ?_
                have qwt : 0 ≤ wt.toInt ∧ wt.toInt ≤ 5 := by rw [hwt]; have q := (T_sub (rfl : (((F0 3) (Int32.toNatClampNeg (n_1 21)))).toInt = (((F0 3) (Int32.toNatClampNeg (n_1 21)))).toInt) (show (48 : Int32).toInt = 48 from rfl) (by omega)); omega
                refine gz_istore (lv' := [(5, .int wt), (0, .ref m), (1, .int x1), (2, .int st_), (3, .long v)]) dX12_value_165 (by decide) rfl ?_
                refine gz_aload_n dX12_value_167 rfl rfl ?_
                refine gz_dup dX12_value_168 rfl ?_
                refine mg_272 hS_1 dX12_value_169 ?_
                refine gz_ev (w := .int (n_1 21)) rfl ?_
                refine gz_iconst (v := 1) dX12_value_172 (by decide) ?_
                refine gz_iadd dX12_value_173 ?_
                refine mp_272 hS_1 dX12_value_174 (fun f_5 hS_5 => ?_)
                refine gz_bipush (v := 40) dX12_value_177 (by decide) ?_
                refine gz_aload_n dX12_value_179 rfl rfl ?_
                refine mg_307 hS_5 dX12_value_180 ?_
                refine gz_ev (w := .int (n0 5)) (congrArg Value.int ((hx1.1 5 (by decide)).trans (hx.1 5 (by decide)))) ?_
                refine gz_imul dX12_value_183 ?_
                refine gz_aload_n dX12_value_184 rfl rfl ?_
                refine mg_50 hS_5 dX12_value_185 ?_
                refine gz_aload_n dX12_value_188 rfl rfl ?_
                refine mg_307 hS_5 dX12_value_189 ?_
                refine gz_ev (w := .int (n0 5)) (congrArg Value.int ((hx1.1 5 (by decide)).trans (hx.1 5 (by decide)))) ?_
                refine m_iald 17 hS_5 rfl (N := 22) rfl ((by exact vin_T (rfl : (n0 5).toInt = (n0 5).toInt) (by omega) (by omega))) dX12_value_192 ?_
                refine gz_ev (w := .int ((F 17) (Int32.toNatClampNeg (n0 5)))) (congrArg Value.int (congrFun (hx1.2.2.1 17 (by decide)) _)) ?_
                refine gz_iadd dX12_value_193 ?_
                obtain ⟨sl, hsl⟩ : ∃ v_ : Int32, v_ = ((40 * (n0 5)) + ((F 17) (Int32.toNatClampNeg (n0 5)))) := ⟨_, rfl⟩
                refine gz_ev (w := .int sl) (congrArg Value.int hsl.symm) ?_
                have qsl : 0 ≤ sl.toInt ∧ sl.toInt < 880 := by rw [hsl]; have q := (T_add (T_mul (show (40 : Int32).toInt = 40 from rfl) (rfl : ((n0 5)).toInt = ((n0 5)).toInt) (by omega)) (rfl : (((F 17) (Int32.toNatClampNeg (n0 5)))).toInt = (((F 17) (Int32.toNatClampNeg (n0 5)))).toInt) (by omega)); omega
                refine gz_istore (lv' := [(6, .int sl), (5, .int wt), (0, .ref m), (1, .int x1), (2, .int st_), (3, .long v)]) dX12_value_194 (by decide) rfl ?_
                refine gz_aload_n dX12_value_196 rfl rfl ?_
                refine mg_50 hS_5 dX12_value_197 ?_
                refine gz_aload_n dX12_value_200 rfl rfl ?_
                refine mg_307 hS_5 dX12_value_201 ?_
                refine gz_ev (w := .int (n0 5)) (congrArg Value.int ((hx1.1 5 (by decide)).trans (hx.1 5 (by decide)))) ?_
                refine gz_dup2 dX12_value_204 rfl rfl ?_
                refine m_iald 17 hS_5 rfl (N := 22) rfl ((by exact vin_T (rfl : (n0 5).toInt = (n0 5).toInt) (by omega) (by omega))) dX12_value_205 ?_
                refine gz_ev (w := .int ((F 17) (Int32.toNatClampNeg (n0 5)))) (congrArg Value.int (congrFun (hx1.2.2.1 17 (by decide)) _)) ?_
                refine gz_iconst (v := 1) dX12_value_206 (by decide) ?_
                refine gz_iadd dX12_value_207 ?_
                refine m_iast 17 hS_5 rfl (N := 22) rfl ((by exact vin_T (rfl : (n0 5).toInt = (n0 5).toInt) (by omega) (by omega))) dX12_value_208 (fun f_6 hS_6q => ?_)
                have hS_6 : mS cy m a f0 (va_up n_1 21 ((n_1 21) + 1)) z_1 (va_up F_1 17 (upd (F 17) (Int32.toNatClampNeg (n0 5)) (((F 17) (Int32.toNatClampNeg (n0 5))) + 1))) G_1 f_6 := (by have e9 := (show F_1 17 = (F 17) from (hx1.2.2.1 17 (by decide))); rw [e9] at hS_6q; exact hS_6q)
                refine gz_aload_n dX12_value_209 rfl rfl ?_
                refine mg_53 hS_6 dX12_value_210 ?_
                refine gz_iload dX12_value_213 rfl ?_
                refine gz_iload_n dX12_value_215 rfl rfl ?_
                refine m_iast 18 hS_6 rfl (N := 880) rfl ((by exact vin_T (rfl : sl.toInt = sl.toInt) (by omega) (by omega))) dX12_value_216 (fun f_7 hS_7q => ?_)
                have hS_7 : mS cy m a f0 (va_up n_1 21 ((n_1 21) + 1)) z_1 (va_up (va_up F_1 17 (upd (F 17) (Int32.toNatClampNeg (n0 5)) (((F 17) (Int32.toNatClampNeg (n0 5))) + 1))) 18 (upd (F 18) (Int32.toNatClampNeg sl) x1)) G_1 f_7 := (by have e9 := (show (va_up F_1 17 (upd (F 17) (Int32.toNatClampNeg (n0 5)) (((F 17) (Int32.toNatClampNeg (n0 5))) + 1))) 18 = (F 18) from (hx1.2.2.1 18 (by decide))); rw [e9] at hS_7q; exact hS_7q)
                refine gz_aload_n dX12_value_217 rfl rfl ?_
                refine mg_56 hS_7 dX12_value_218 ?_
                refine gz_iload dX12_value_221 rfl ?_
                refine gz_iload dX12_value_223 rfl ?_
                refine m_iast 19 hS_7 rfl (N := 880) rfl ((by exact vin_T (rfl : sl.toInt = sl.toInt) (by omega) (by omega))) dX12_value_225 (fun f_8 hS_8q => ?_)
                have hS_8 : mS cy m a f0 (va_up n_1 21 ((n_1 21) + 1)) z_1 (va_up (va_up (va_up F_1 17 (upd (F 17) (Int32.toNatClampNeg (n0 5)) (((F 17) (Int32.toNatClampNeg (n0 5))) + 1))) 18 (upd (F 18) (Int32.toNatClampNeg sl) x1)) 19 (upd (F 19) (Int32.toNatClampNeg sl) wt)) G_1 f_8 := (by have e9 := (show (va_up (va_up F_1 17 (upd (F 17) (Int32.toNatClampNeg (n0 5)) (((F 17) (Int32.toNatClampNeg (n0 5))) + 1))) 18 (upd (F 18) (Int32.toNatClampNeg sl) x1)) 19 = (F 19) from (hx1.2.2.1 19 (by decide))); rw [e9] at hS_8q; exact hS_8q)
                refine gz_aload_n dX12_value_226 rfl rfl ?_
                refine mg_59 hS_8 dX12_value_227 ?_
                refine gz_iload dX12_value_230 rfl ?_
                refine gz_iload dX12_value_232 rfl ?_
                refine gz_if_ge (tgt := 244) dX12_value_234 (by decide) (fun c_234 => ?_) (fun c_234 => ?_)
                ·
                  try simp only [mIn_0, lgc_lt, lgc_gt, lgc_le, lgc_ge, lgc_eq] at c_234
                  try simp only [fl_lt, fl_le, fl_eq, fL_w, fL_lt, fL_le, tm1, tm10k, tm9, tm99, Int32.reduceToInt, Int64.reduceToInt, Int.not_lt, Int.not_le] at c_234
                  refine gz_iconst (v := 0) dX12_value_244 (by decide) ?_
                  refine m_iast 20 hS_8 rfl (N := 880) rfl ((by exact vin_T (rfl : sl.toInt = sl.toInt) (by omega) (by omega))) dX12_value_245 (fun f_9 hS_9q => ?_)
                  have hS_9 : mS cy m a f0 (va_up n_1 21 ((n_1 21) + 1)) z_1 (va_up (va_up (va_up (va_up F_1 17 (upd (F 17) (Int32.toNatClampNeg (n0 5)) (((F 17) (Int32.toNatClampNeg (n0 5))) + 1))) 18 (upd (F 18) (Int32.toNatClampNeg sl) x1)) 19 (upd (F 19) (Int32.toNatClampNeg sl) wt)) 20 (upd (F 20) (Int32.toNatClampNeg sl) 0)) G_1 f_9 := (by have e9 := (show (va_up (va_up (va_up F_1 17 (upd (F 17) (Int32.toNatClampNeg (n0 5)) (((F 17) (Int32.toNatClampNeg (n0 5))) + 1))) 18 (upd (F 18) (Int32.toNatClampNeg sl) x1)) 19 (upd (F 19) (Int32.toNatClampNeg sl) wt)) 20 = (F 20) from (hx1.2.2.1 20 (by decide))); rw [e9] at hS_9q; exact hS_9q)
                  refine gz_iconst (v := 1) dX12_value_246 (by decide) ?_
                  have s13_ : (va_up (va_up (va_up (va_up F_1 17 (upd (F 17) (Int32.toNatClampNeg (n0 5)) (((F 17) (Int32.toNatClampNeg (n0 5))) + 1))) 18 (upd (F 18) (Int32.toNatClampNeg sl) x1)) 19 (upd (F 19) (Int32.toNatClampNeg sl) wt)) 20 (upd (F 20) (Int32.toNatClampNeg sl) 0)) 13 = (F 13) := (hx1.2.2.1 13 (by decide))
                  have s14_ : (va_up (va_up (va_up (va_up F_1 17 (upd (F 17) (Int32.toNatClampNeg (n0 5)) (((F 17) (Int32.toNatClampNeg (n0 5))) + 1))) 18 (upd (F 18) (Int32.toNatClampNeg sl) x1)) 19 (upd (F 19) (Int32.toNatClampNeg sl) wt)) 20 (upd (F 20) (Int32.toNatClampNeg sl) 0)) 14 = (F 14) := (hx1.2.2.1 14 (by decide))
                  have s15_ : (va_up (va_up (va_up (va_up F_1 17 (upd (F 17) (Int32.toNatClampNeg (n0 5)) (((F 17) (Int32.toNatClampNeg (n0 5))) + 1))) 18 (upd (F 18) (Int32.toNatClampNeg sl) x1)) 19 (upd (F 19) (Int32.toNatClampNeg sl) wt)) 20 (upd (F 20) (Int32.toNatClampNeg sl) 0)) 15 = (F 15) := (hx1.2.2.1 15 (by decide))
                  have s17_ : (va_up (va_up (va_up (va_up F_1 17 (upd (F 17) (Int32.toNatClampNeg (n0 5)) (((F 17) (Int32.toNatClampNeg (n0 5))) + 1))) 18 (upd (F 18) (Int32.toNatClampNeg sl) x1)) 19 (upd (F 19) (Int32.toNatClampNeg sl) wt)) 20 (upd (F 20) (Int32.toNatClampNeg sl) 0)) 17 = (upd (F 17) (Int32.toNatClampNeg (n0 5)) (((F 17) (Int32.toNatClampNeg (n0 5))) + 1)) := rfl
                  have s19_ : (va_up (va_up (va_up (va_up F_1 17 (upd (F 17) (Int32.toNatClampNeg (n0 5)) (((F 17) (Int32.toNatClampNeg (n0 5))) + 1))) 18 (upd (F 18) (Int32.toNatClampNeg sl) x1)) 19 (upd (F 19) (Int32.toNatClampNeg sl) wt)) 20 (upd (F 20) (Int32.toNatClampNeg sl) 0)) 19 = (upd (F 19) (Int32.toNatClampNeg sl) wt) := rfl
                  have hA9 : rAll (va_up (va_up (va_up (va_up F_1 17 (upd (F 17) (Int32.toNatClampNeg (n0 5)) (((F 17) (Int32.toNatClampNeg (n0 5))) + 1))) 18 (upd (F 18) (Int32.toNatClampNeg sl) x1)) 19 (upd (F 19) (Int32.toNatClampNeg sl) wt)) 20 (upd (F 20) (Int32.toNatClampNeg sl) 0)) := by
                    intro q hq
                    obtain ⟨q1, q2, q3, q4⟩ := hA q hq
                    rw [s13_, s14_, s15_, s19_]
                    refine ⟨q1, q2, q3, ?_⟩
                    rw [updE]; split
                    · omega
                    · exact q4
                  have v17 : ((va_up (va_up (va_up (va_up F_1 17 (upd (F 17) (Int32.toNatClampNeg (n0 5)) (((F 17) (Int32.toNatClampNeg (n0 5))) + 1))) 18 (upd (F 18) (Int32.toNatClampNeg sl) x1)) 19 (upd (F 19) (Int32.toNatClampNeg sl) wt)) 20 (upd (F 20) (Int32.toNatClampNeg sl) 0)) 17 (Int32.toNatClampNeg (n0 5))).toInt = (V : Int) + 1 := by rw [s17_, updE, if_pos rfl]; exact T_add hv2 (show (1 : Int32).toInt = 1 from rfl) (by omega)
                  exact gz_zret rfl (by first | decide | exact nrb (Or.inl (by assumption)) | exact nrb (by assumption) | (refine nrb ?_; assumption)) dX12_value_247 (Nat.le_of_ble_eq_true rfl) (Nat.le_of_ble_eq_true rfl) (⟨_, rfl, _, _, _, _, hS_9, (fx_F (fx_F (fx_F (fx_F (fx_n (fx_tr hx hx1 (by decide)) (by decide)) (by decide)) (by decide)) (by decide)) (by decide)), Or.inr rfl, (by (try rw [(show (va_up n_1 21 ((n_1 21) + 1)) 21 = ((n_1 21) + 1) from rfl)]); (try rw [(show (va_up n_1 21 ((n_1 21) + 1)) 4 = (n0 4) from ((hx1.1 4 (by decide)).trans (hx.1 4 (by decide))))]); have q1_ := (T_add (rfl : ((n_1 21)).toInt = ((n_1 21)).toInt) (show (1 : Int32).toInt = 1 from rfl) (by omega)); omega), (by (try rw [(show (va_up n_1 21 ((n_1 21) + 1)) 21 = ((n_1 21) + 1) from rfl)]); have q1_ := (T_add (rfl : ((n_1 21)).toInt = ((n_1 21)).toInt) (show (1 : Int32).toInt = 1 from rfl) (by omega)); omega), hA9, (by omega), (by omega), (by rw [hE, if_neg (show ¬ V = 40 by omega), if_pos (show 48 ≤ (tX (F0 3) (n0 4)) (S0 + 1) ∧ (tX (F0 3) (n0 4)) (S0 + 1) ≤ 53 by omega)]; exact ⟨rfl, (by (try rw [(show (va_up n_1 21 ((n_1 21) + 1)) 22 = (n 22) from (hx1.1 22 (by decide)))]); omega), (by (try rw [(show (va_up n_1 21 ((n_1 21) + 1)) 21 = ((n_1 21) + 1) from rfl)]); have q1_ := (T_add (rfl : ((n_1 21)).toInt = ((n_1 21)).toInt) (show (1 : Int32).toInt = 1 from rfl) (by omega)); omega), v17⟩)⟩)
                ·
                  try simp only [mIn_0, lgc_lt, lgc_gt, lgc_le, lgc_ge, lgc_eq] at c_234
                  try simp only [fl_lt, fl_le, fl_eq, fL_w, fL_lt, fL_le, tm1, tm10k, tm9, tm99, Int32.reduceToInt, Int64.reduceToInt, Int.not_lt, Int.not_le] at c_234
                  refine gz_aload_n dX12_value_237 rfl rfl ?_
                  refine mg_287 hS_8 dX12_value_238 ?_
                  refine gz_ev (w := .int (n 23)) (congrArg Value.int (hx1.1 23 (by decide))) ?_
                  refine gz_goto (tgt := 245) dX12_value_241 (by decide) ?_
                  refine m_iast 20 hS_8 rfl (N := 880) rfl ((by exact vin_T (rfl : sl.toInt = sl.toInt) (by omega) (by omega))) dX12_value_245 (fun f_10 hS_10q => ?_)
                  have hS_10 : mS cy m a f0 (va_up n_1 21 ((n_1 21) + 1)) z_1 (va_up (va_up (va_up (va_up F_1 17 (upd (F 17) (Int32.toNatClampNeg (n0 5)) (((F 17) (Int32.toNatClampNeg (n0 5))) + 1))) 18 (upd (F 18) (Int32.toNatClampNeg sl) x1)) 19 (upd (F 19) (Int32.toNatClampNeg sl) wt)) 20 (upd (F 20) (Int32.toNatClampNeg sl) (n 23))) G_1 f_10 := (by have e9 := (show (va_up (va_up (va_up F_1 17 (upd (F 17) (Int32.toNatClampNeg (n0 5)) (((F 17) (Int32.toNatClampNeg (n0 5))) + 1))) 18 (upd (F 18) (Int32.toNatClampNeg sl) x1)) 19 (upd (F 19) (Int32.toNatClampNeg sl) wt)) 20 = (F 20) from (hx1.2.2.1 20 (by decide))); rw [e9] at hS_10q; exact hS_10q)
                  refine gz_iconst (v := 1) dX12_value_246 (by decide) ?_
                  have s13_ : (va_up (va_up (va_up (va_up F_1 17 (upd (F 17) (Int32.toNatClampNeg (n0 5)) (((F 17) (Int32.toNatClampNeg (n0 5))) + 1))) 18 (upd (F 18) (Int32.toNatClampNeg sl) x1)) 19 (upd (F 19) (Int32.toNatClampNeg sl) wt)) 20 (upd (F 20) (Int32.toNatClampNeg sl) (n 23))) 13 = (F 13) := (hx1.2.2.1 13 (by decide))
                  have s14_ : (va_up (va_up (va_up (va_up F_1 17 (upd (F 17) (Int32.toNatClampNeg (n0 5)) (((F 17) (Int32.toNatClampNeg (n0 5))) + 1))) 18 (upd (F 18) (Int32.toNatClampNeg sl) x1)) 19 (upd (F 19) (Int32.toNatClampNeg sl) wt)) 20 (upd (F 20) (Int32.toNatClampNeg sl) (n 23))) 14 = (F 14) := (hx1.2.2.1 14 (by decide))
                  have s15_ : (va_up (va_up (va_up (va_up F_1 17 (upd (F 17) (Int32.toNatClampNeg (n0 5)) (((F 17) (Int32.toNatClampNeg (n0 5))) + 1))) 18 (upd (F 18) (Int32.toNatClampNeg sl) x1)) 19 (upd (F 19) (Int32.toNatClampNeg sl) wt)) 20 (upd (F 20) (Int32.toNatClampNeg sl) (n 23))) 15 = (F 15) := (hx1.2.2.1 15 (by decide))
                  have s17_ : (va_up (va_up (va_up (va_up F_1 17 (upd (F 17) (Int32.toNatClampNeg (n0 5)) (((F 17) (Int32.toNatClampNeg (n0 5))) + 1))) 18 (upd (F 18) (Int32.toNatClampNeg sl) x1)) 19 (upd (F 19) (Int32.toNatClampNeg sl) wt)) 20 (upd (F 20) (Int32.toNatClampNeg sl) (n 23))) 17 = (upd (F 17) (Int32.toNatClampNeg (n0 5)) (((F 17) (Int32.toNatClampNeg (n0 5))) + 1)) := rfl
                  have s19_ : (va_up (va_up (va_up (va_up F_1 17 (upd (F 17) (Int32.toNatClampNeg (n0 5)) (((F 17) (Int32.toNatClampNeg (n0 5))) + 1))) 18 (upd (F 18) (Int32.toNatClampNeg sl) x1)) 19 (upd (F 19) (Int32.toNatClampNeg sl) wt)) 20 (upd (F 20) (Int32.toNatClampNeg sl) (n 23))) 19 = (upd (F 19) (Int32.toNatClampNeg sl) wt) := rfl
                  have hA9 : rAll (va_up (va_up (va_up (va_up F_1 17 (upd (F 17) (Int32.toNatClampNeg (n0 5)) (((F 17) (Int32.toNatClampNeg (n0 5))) + 1))) 18 (upd (F 18) (Int32.toNatClampNeg sl) x1)) 19 (upd (F 19) (Int32.toNatClampNeg sl) wt)) 20 (upd (F 20) (Int32.toNatClampNeg sl) (n 23))) := by
                    intro q hq
                    obtain ⟨q1, q2, q3, q4⟩ := hA q hq
                    rw [s13_, s14_, s15_, s19_]
                    refine ⟨q1, q2, q3, ?_⟩
                    rw [updE]; split
                    · omega
                    · exact q4
                  have v17 : ((va_up (va_up (va_up (va_up F_1 17 (upd (F 17) (Int32.toNatClampNeg (n0 5)) (((F 17) (Int32.toNatClampNeg (n0 5))) + 1))) 18 (upd (F 18) (Int32.toNatClampNeg sl) x1)) 19 (upd (F 19) (Int32.toNatClampNeg sl) wt)) 20 (upd (F 20) (Int32.toNatClampNeg sl) (n 23))) 17 (Int32.toNatClampNeg (n0 5))).toInt = (V : Int) + 1 := by rw [s17_, updE, if_pos rfl]; exact T_add hv2 (show (1 : Int32).toInt = 1 from rfl) (by omega)
                  exact gz_zret rfl (by first | decide | exact nrb (Or.inl (by assumption)) | exact nrb (by assumption) | (refine nrb ?_; assumption)) dX12_value_247 (Nat.le_of_ble_eq_true rfl) (Nat.le_of_ble_eq_true rfl) (⟨_, rfl, _, _, _, _, hS_10, (fx_F (fx_F (fx_F (fx_F (fx_n (fx_tr hx hx1 (by decide)) (by decide)) (by decide)) (by decide)) (by decide)) (by decide)), Or.inr rfl, (by (try rw [(show (va_up n_1 21 ((n_1 21) + 1)) 21 = ((n_1 21) + 1) from rfl)]); (try rw [(show (va_up n_1 21 ((n_1 21) + 1)) 4 = (n0 4) from ((hx1.1 4 (by decide)).trans (hx.1 4 (by decide))))]); have q1_ := (T_add (rfl : ((n_1 21)).toInt = ((n_1 21)).toInt) (show (1 : Int32).toInt = 1 from rfl) (by omega)); omega), (by (try rw [(show (va_up n_1 21 ((n_1 21) + 1)) 21 = ((n_1 21) + 1) from rfl)]); have q1_ := (T_add (rfl : ((n_1 21)).toInt = ((n_1 21)).toInt) (show (1 : Int32).toInt = 1 from rfl) (by omega)); omega), hA9, (by omega), (by omega), (by rw [hE, if_neg (show ¬ V = 40 by omega), if_pos (show 48 ≤ (tX (F0 3) (n0 4)) (S0 + 1) ∧ (tX (F0 3) (n0 4)) (S0 + 1) ≤ 53 by omega)]; exact ⟨rfl, (by (try rw [(show (va_up n_1 21 ((n_1 21) + 1)) 22 = (n 22) from (hx1.1 22 (by decide)))]); omega), (by (try rw [(show (va_up n_1 21 ((n_1 21) + 1)) 21 = ((n_1 21) + 1) from rfl)]); have q1_ := (T_add (rfl : ((n_1 21)).toInt = ((n_1 21)).toInt) (show (1 : Int32).toInt = 1 from rfl) (by omega)); omega), v17⟩)⟩)
              ·
                try simp only [mIn_0, lgc_lt, lgc_gt, lgc_le, lgc_ge, lgc_eq] at c_140
                try simp only [fl_lt, fl_le, fl_eq, fL_w, fL_lt, fL_le, tm1, tm10k, tm9, tm99, Int32.reduceToInt, Int64.reduceToInt, Int.not_lt, Int.not_le] at c_140
                refine gz_aload_n dX12_value_143 rfl rfl ?_
                refine gz_iconst (v := 0) dX12_value_144 (by decide) ?_
                refine gz_aload_n dX12_value_145 rfl rfl ?_
                refine mg_272 hS_1 dX12_value_146 ?_
                refine gz_ev (w := .int (n_1 21)) rfl ?_
                refine scX12_279 (k_X12_failsE (x := 0) (y := (n_1 21)) hS_1 (by (try rw [(show n_1 22 = (n 22) from (hx1.1 22 (by decide)))]); omega) (by (try rw [(show n_1 21 = (n_1 21) from rfl)]); (try rw [(show n_1 4 = (n0 4) from ((hx1.1 4 (by decide)).trans (hx.1 4 (by decide))))]); omega) (by decide)) hS_1.1 ⟨(Nat.le_of_ble_eq_true rfl), (Nat.le_of_ble_eq_true rfl)⟩ ⟨(Nat.le_of_ble_eq_true rfl), (Nat.le_of_ble_eq_true rfl)⟩ rfl rfl (Nat.le_of_ble_eq_true rfl) dX12_value_149 ?_
                rintro r_11 f_11 ⟨n_11, z_11, F_11, G_11, hS_11, hx11, hr_11, hf_11⟩
                try simp only [(show n_1 22 = (n 22) from (hx1.1 22 (by decide)))] at hr_11 hf_11
                simp only [Int32.reduceToInt] at hf_11
                have hAe : rAll F_11 := by
                  intro q hq
                  obtain ⟨qa0, qb0, qc0, qd0⟩ := hA q hq
                  rw [show F_11 13 = (F 13) from ((hx11.2.2.1 13 (by decide)).trans (hx1.2.2.1 13 (by decide))), show F_11 14 = (F 14) from ((hx11.2.2.1 14 (by decide)).trans (hx1.2.2.1 14 (by decide))), show F_11 15 = (F 15) from ((hx11.2.2.1 15 (by decide)).trans (hx1.2.2.1 15 (by decide))), show F_11 19 = (F 19) from ((hx11.2.2.1 19 (by decide)).trans (hx1.2.2.1 19 (by decide)))]
                  refine ⟨?_, ?_, ?_, ?_⟩ <;> (try simp only [updE]) <;> (repeat' split) <;> first | omega | decide
                have e17 : (F_11 17 (Int32.toNatClampNeg (n0 5))).toInt = ((F 17) (Int32.toNatClampNeg (n0 5))).toInt := by rw [show F_11 17 = (F 17) from ((hx11.2.2.1 17 (by decide)).trans (hx1.2.2.1 17 (by decide)))]
                rw [hv2] at e17
                exact gz_zret rfl (by first | decide | exact nrb (Or.inl (by assumption)) | exact nrb (by assumption) | (refine nrb ?_; assumption)) dX12_value_152 (Nat.le_of_ble_eq_true rfl) (Nat.le_of_ble_eq_true rfl) (⟨_, rfl, _, _, _, _, hS_11, (fx_tr (fx_tr hx hx1 (by decide)) hx11 (by decide)), (by first | exact Or.inl rfl | exact Or.inr rfl | assumption | (left; assumption)), (by (try rw [(show n_11 21 = (n_1 21) from (hx11.1 21 (by decide)))]); (try rw [(show n_11 4 = (n0 4) from ((hx11.1 4 (by decide)).trans ((hx1.1 4 (by decide)).trans (hx.1 4 (by decide)))))]); omega), (by (try rw [(show n_11 21 = (n_1 21) from (hx11.1 21 (by decide)))]); omega), hAe, (by omega), (by omega), (by rw [hE, if_neg (show ¬ V = 40 by omega), if_neg (show ¬ (48 ≤ (tX (F0 3) (n0 4)) (S0 + 1) ∧ (tX (F0 3) (n0 4)) (S0 + 1) ≤ 53) by omega)]; exact ⟨hr_11, (by (try rw [(show n_11 22 = (n_11 22) from rfl)]); omega)⟩)⟩)
    ·
      try simp only [mIn_0, lgc_lt, lgc_gt, lgc_le, lgc_ge, lgc_eq] at c_83
      try simp only [fl_lt, fl_le, fl_eq, fL_w, fL_lt, fL_le, tm1, tm10k, tm9, tm99, Int32.reduceToInt, Int64.reduceToInt, Int.not_lt, Int.not_le] at c_83
      refine gz_aload_n dX12_value_86 rfl rfl ?_
      refine gz_iconst (v := 4) dX12_value_87 (by decide) ?_
      refine gz_iload_n dX12_value_88 rfl rfl ?_
      refine scX12_279 (k_X12_failsE (x := 4) (y := st_) hS (by omega) (by (try rw [(show n 4 = (n0 4) from (hx.1 4 (by decide)))]); omega) (by decide)) hS.1 ⟨(Nat.le_of_ble_eq_true rfl), (Nat.le_of_ble_eq_true rfl)⟩ ⟨(Nat.le_of_ble_eq_true rfl), (Nat.le_of_ble_eq_true rfl)⟩ rfl rfl (Nat.le_of_ble_eq_true rfl) dX12_value_89 ?_
      rintro r_12 f_12 ⟨n_12, z_12, F_12, G_12, hS_12, hx12, hr_12, hf_12⟩
      simp only [Int32.reduceToInt] at hf_12
      have hAe : rAll F_12 := by
        intro q hq
        obtain ⟨qa0, qb0, qc0, qd0⟩ := hA q hq
        rw [show F_12 13 = (F 13) from (hx12.2.2.1 13 (by decide)), show F_12 14 = (F 14) from (hx12.2.2.1 14 (by decide)), show F_12 15 = (F 15) from (hx12.2.2.1 15 (by decide)), show F_12 19 = (F 19) from (hx12.2.2.1 19 (by decide))]
        refine ⟨?_, ?_, ?_, ?_⟩ <;> (try simp only [updE]) <;> (repeat' split) <;> first | omega | decide
      have e17 : (F_12 17 (Int32.toNatClampNeg (n0 5))).toInt = ((F 17) (Int32.toNatClampNeg (n0 5))).toInt := by rw [show F_12 17 = (F 17) from (hx12.2.2.1 17 (by decide))]
      rw [hv2] at e17
      exact gz_zret rfl (by first | decide | exact nrb (Or.inl (by assumption)) | exact nrb (by assumption) | (refine nrb ?_; assumption)) dX12_value_92 (Nat.le_of_ble_eq_true rfl) (Nat.le_of_ble_eq_true rfl) (⟨_, rfl, _, _, _, _, hS_12, (fx_tr hx hx12 (by decide)), (by first | exact Or.inl rfl | exact Or.inr rfl | assumption | (left; assumption)), (by (try rw [(show n_12 21 = (n 21) from (hx12.1 21 (by decide)))]); (try rw [(show n_12 4 = (n0 4) from ((hx12.1 4 (by decide)).trans (hx.1 4 (by decide))))]); omega), (by (try rw [(show n_12 21 = (n 21) from (hx12.1 21 (by decide)))]); omega), hAe, (by omega), (by omega), (by rw [hE, if_pos (show V = 40 by omega)]; exact ⟨hr_12, (by (try rw [(show n_12 22 = (n_12 22) from rfl)]); omega)⟩)⟩)

set_option maxHeartbeats 4000000 in
set_option maxRecDepth 100000 in
theorem k_X12_valueE {l : Launch} {D : va_G} {cy : Nat → ClassId} {b : Nat} {f : gMem} {m : Nat} {a : Nat → Nat} {f0 : gMem} {n : Nat → Int32} {z : Nat → Int64} {F : Nat → Nat → Int32} {G : Nat → Nat → Int64}  {x1 : Int32} (hS : mS cy m a f0 n z F G f) (hT : (0 ≤ (n 21).toInt ∧ (n 21).toInt ≤ (n 4).toInt ∧ (n 4).toInt ≤ 400)) (h5 : 0 ≤ (n 5).toInt ∧ (n 5).toInt < 20) (hA : rAll F) (h0 : 0 ≤ (F 17 (Int32.toNatClampNeg (n 5))).toInt ∧ (F 17 (Int32.toNatClampNeg (n 5))).toInt ≤ 40) (hB : rB F) (h22 : (n 22).toInt = 0) : gC l D cy b yX12_value cX12_value 7 (some .boolean) 2 0 0 [.ref m, .int x1] f (pI fun r f2 => ∃ (n2 : Nat → Int32) (z2 : Nat → Int64) (F2 : Nat → Nat → Int32) (G2 : Nat → Nat → Int64), mS cy m a f0 n2 z2 F2 G2 f2 ∧ fx [21, 22, 23] [] [17, 18, 19, 20] [] n z F G n2 z2 F2 G2 ∧ (r = 0 ∨ r = 1) ∧ (0 ≤ (n2 21).toInt ∧ (n2 21).toInt ≤ (n2 4).toInt ∧ (n2 4).toInt ≤ 400) ∧ (n 21).toInt ≤ (n2 21).toInt ∧ rAll F2 ∧ (F 17 (Int32.toNatClampNeg (n 5))).toInt ≤ (F2 17 (Int32.toNatClampNeg (n 5))).toInt ∧ (F2 17 (Int32.toNatClampNeg (n 5))).toInt ≤ 40 ∧ exM2 (vaR (tX (F 3) (n 4)) (n 21).toInt.toNat (F 17 (Int32.toNatClampNeg (n 5))).toInt.toNat) r n2 (F2 17 (Int32.toNatClampNeg (n 5)))) := by
  have qn5 := clI (i := n 5) (by omega)
  have hln := tX_ln (g := F 3) (L := n 4) (by omega)
  have hsk := skR_le hln (p := (n 21).toInt.toNat) (by omega)
  refine gC_of (by decide) (Nat.le_of_ble_eq_true rfl) ?_
  show gG l _ _ _ D cy b cX12_value 7 _ RX12 "value" 0 0 f 0 [(0, .ref m), (1, .int x1)] []
  refine gz_aload_n dX12_value_0 rfl rfl ?_
  refine scX12_275 (k_X12_see_E hS (by omega) hB) hS.1 ⟨(Nat.le_of_ble_eq_true rfl), (Nat.le_of_ble_eq_true rfl)⟩ ⟨(Nat.le_of_ble_eq_true rfl), (Nat.le_of_ble_eq_true rfl)⟩ rfl rfl (Nat.le_of_ble_eq_true rfl) dX12_value_1 ?_
  rintro r_1 f_1 ⟨n_1, z_1, F_1, G_1, hS_1, hx1, hT_1, hm_1, hq_1, hs_1, hv_1⟩
  try simp only [(show n_1 4 = (n 4) from (hx1.1 4 (by decide)))] at hT_1 hm_1 hq_1 hs_1 hv_1
  try simp only [(show F_1 3 = (F 3) from (hx1.2.2.1 3 (by decide)))] at hT_1 hm_1 hq_1 hs_1 hv_1
  refine gz_pop dX12_value_4 rfl ?_
  refine gz_aload_n dX12_value_5 rfl rfl ?_
  refine mg_272 hS_1 dX12_value_6 ?_
  refine gz_ev (w := .int (n_1 21)) rfl ?_
  refine gz_istore_n (lv' := [(2, .int (n_1 21)), (0, .ref m), (1, .int x1)]) dX12_value_9 rfl (by decide) rfl ?_
  refine gz_aload_n dX12_value_10 rfl rfl ?_
  refine scX12_295 (k_X12_lettersE hS_1 (by (try rw [(show n_1 21 = (n_1 21) from rfl)]); (try rw [(show n_1 4 = (n 4) from (hx1.1 4 (by decide)))]); omega) (rB_cg (hx1.2.2.1 3 (by decide)) hB)) hS_1.1 ⟨(Nat.le_of_ble_eq_true rfl), (Nat.le_of_ble_eq_true rfl)⟩ ⟨(Nat.le_of_ble_eq_true rfl), (Nat.le_of_ble_eq_true rfl)⟩ rfl rfl (Nat.le_of_ble_eq_true rfl) dX12_value_11 ?_
  rintro r_2 f_2 ⟨n_2, z_2, F_2, G_2, hS_2, hx2, hT_2, hm_2, hs_2, hl_2⟩
  try simp only [(show n_2 4 = (n 4) from ((hx2.1 4 (by decide)).trans (hx1.1 4 (by decide))))] at hT_2 hm_2 hs_2 hl_2
  try simp only [(show F_2 3 = (F 3) from ((hx2.2.2.1 3 (by decide)).trans (hx1.2.2.1 3 (by decide))))] at hT_2 hm_2 hs_2 hl_2
  try simp only [(show n_1 4 = (n 4) from (hx1.1 4 (by decide)))] at hT_2 hm_2 hs_2 hl_2
  try simp only [(show F_1 3 = (F 3) from (hx1.2.2.1 3 (by decide)))] at hT_2 hm_2 hs_2 hl_2
  rw [show (n_1 21).toInt.toNat = (skR (tX (F 3) (n 4)) (n 21).toInt.toNat) by omega, skR_id hln (by omega)] at hs_2 hl_2
  obtain ⟨S0, hS0⟩ : ∃ S0 : Nat, S0 = (skR (tX (F 3) (n 4)) (n 21).toInt.toNat) := ⟨_, rfl⟩
  rw [← hS0] at hs_2 hl_2 hsk
  have hlt7 := fun i (h : i < ltR (tX (F 3) (n 4)) S0) => ltR_at h
  have hqD := nq_D (T := (tX (F 3) (n 4))) (p := S0)
  have hqS := nq_S (T := (tX (F 3) (n 4))) (p := S0)
  rw [← hl_2] at hqD hqS
  have e0_ : (tX (F 3) (n 4)) (S0 + 0) = (tX (F 3) (n 4)) S0 := rfl
  by_cases hdg : 48 ≤ (tX (F 3) (n 4)) S0 ∧ (tX (F 3) (n 4)) S0 ≤ 57
  ·
    have hL0 : ltR (tX (F 3) (n 4)) S0 = 0 := ltR_no (by omega)
    have hn1 : r_2.toInt ≠ 115 := fun z => by have y := hqS.mp z; omega
    have hn2 : r_2.toInt ≠ 6578553 := fun z => by have y := hqD.mp z; omega
    refine gz_lstore_n (lv' := [(3, .long r_2), (2, .int (n_1 21)), (0, .ref m), (1, .int x1)]) dX12_value_14 rfl (by decide) rfl ?_
    refine gz_lload_n dX12_value_15 rfl rfl ?_
    refine gz_ldc2 (v := (6578553)) wd_820 dX12_value_16 ?_
    refine gz_lcmp dX12_value_19 ?_
    refine gz_if_ne (tgt := 28) dX12_value_20 (by decide) (fun c_20 => ?_) (fun c_20 => ?_)
    ·
      try simp only [mIn_0, lgc_lt, lgc_gt, lgc_le, lgc_ge, lgc_eq] at c_20
      try simp only [fl_lt, fl_le, fl_eq, fL_w, fL_lt, fL_le, tm1, tm10k, tm9, tm99, Int32.reduceToInt, Int64.reduceToInt, Int.not_lt, Int.not_le] at c_20
      refine gz_lload_n dX12_value_28 rfl rfl ?_
      refine gz_ldc2 (v := (115)) wd_821 dX12_value_29 ?_
      refine gz_lcmp dX12_value_32 ?_
      refine gz_if_ne (tgt := 40) dX12_value_33 (by decide) (fun c_33 => ?_) (fun c_33 => ?_)
      ·
        try simp only [mIn_0, lgc_lt, lgc_gt, lgc_le, lgc_ge, lgc_eq] at c_33
        try simp only [fl_lt, fl_le, fl_eq, fL_w, fL_lt, fL_le, tm1, tm10k, tm9, tm99, Int32.reduceToInt, Int64.reduceToInt, Int.not_lt, Int.not_le] at c_33
        refine gz_iconst (v := (-1)) dX12_value_40 (by decide) ?_
        refine gz_istore (lv' := [(5, .int (-1)), (3, .long r_2), (2, .int (n_1 21)), (0, .ref m), (1, .int x1)]) dX12_value_41 (by decide) rfl ?_
        refine gz_aload_n dX12_value_43 rfl rfl ?_
        refine gz_iload_n dX12_value_44 rfl rfl ?_
        refine scX12_283 (k_X12_isDigitE (x := (n_1 21)) hS_2 (by (try rw [(show n_2 21 = (n_2 21) from rfl)]); (try rw [(show n_2 4 = (n 4) from ((hx2.1 4 (by decide)).trans (hx1.1 4 (by decide))))]); omega) (by (try rw [(show n_2 21 = (n_2 21) from rfl)]); (try rw [(show n_2 4 = (n 4) from ((hx2.1 4 (by decide)).trans (hx1.1 4 (by decide))))]); omega) (rB_cg ((hx2.2.2.1 3 (by decide)).trans (hx1.2.2.1 3 (by decide))) hB)) hS_2.1 ⟨(Nat.le_of_ble_eq_true rfl), (Nat.le_of_ble_eq_true rfl)⟩ ⟨(Nat.le_of_ble_eq_true rfl), (Nat.le_of_ble_eq_true rfl)⟩ rfl rfl (Nat.le_of_ble_eq_true rfl) dX12_value_45 ?_
        rintro r_3 f9 ⟨hb_3, y9⟩; rw [y9]
        try simp only [(show n_2 4 = (n 4) from ((hx2.1 4 (by decide)).trans (hx1.1 4 (by decide))))] at hb_3
        try simp only [(show F_2 3 = (F 3) from ((hx2.2.2.1 3 (by decide)).trans (hx1.2.2.1 3 (by decide))))] at hb_3
        have hbb_3 : r_3 = 0 ∨ r_3 = 1 := hb_3.imp And.left And.left
        simp only [fl_eq, Int32.reduceToInt] at hb_3
        try rw [show (n_1 21).toInt.toNat = S0 by omega] at hb_3
        refine gz_if_eq (tgt := 60) dX12_value_48 (by decide) (fun c_48 => ?_) (fun c_48 => ?_)
        ·
          try simp only [mIn_0, lgc_lt, lgc_gt, lgc_le, lgc_ge, lgc_eq] at c_48
          try simp only [fl_lt, fl_le, fl_eq, fL_w, fL_lt, fL_le, tm1, tm10k, tm9, tm99, Int32.reduceToInt, Int64.reduceToInt, Int.not_lt, Int.not_le] at c_48
          exfalso; omega
        ·
          try simp only [mIn_0, lgc_lt, lgc_gt, lgc_le, lgc_ge, lgc_eq] at c_48
          try simp only [fl_lt, fl_le, fl_eq, fL_w, fL_lt, fL_le, tm1, tm10k, tm9, tm99, Int32.reduceToInt, Int64.reduceToInt, Int.not_lt, Int.not_le] at c_48
          refine gz_aload_n dX12_value_51 rfl rfl ?_
          refine scX12_303 (k_X12_readsE hS_2 (by (try rw [(show n_2 21 = (n_2 21) from rfl)]); (try rw [(show n_2 4 = (n 4) from ((hx2.1 4 (by decide)).trans (hx1.1 4 (by decide))))]); omega) (rB_cg ((hx2.2.2.1 3 (by decide)).trans (hx1.2.2.1 3 (by decide))) hB) (by (try rw [(show n_2 22 = (n 22) from ((hx2.1 22 (by decide)).trans (hx1.1 22 (by decide))))]); omega)) hS_2.1 ⟨(Nat.le_of_ble_eq_true rfl), (Nat.le_of_ble_eq_true rfl)⟩ ⟨(Nat.le_of_ble_eq_true rfl), (Nat.le_of_ble_eq_true rfl)⟩ rfl rfl (Nat.le_of_ble_eq_true rfl) dX12_value_52 ?_
          rintro r_4 f_4 ⟨n_4, z_4, F_4, G_4, hS_4, hx4, hb_4, hT_4, hm_4, hE_4⟩
          try simp only [(show n_2 22 = (n 22) from ((hx2.1 22 (by decide)).trans (hx1.1 22 (by decide))))] at hb_4 hT_4 hm_4 hE_4
          try simp only [(show n_2 23 = (n 23) from ((hx2.1 23 (by decide)).trans (hx1.1 23 (by decide))))] at hb_4 hT_4 hm_4 hE_4
          try simp only [(show n_4 4 = (n 4) from ((hx4.1 4 (by decide)).trans ((hx2.1 4 (by decide)).trans (hx1.1 4 (by decide)))))] at hb_4 hT_4 hm_4 hE_4
          try simp only [(show F_4 3 = (F 3) from ((hx4.2.2.1 3 (by decide)).trans ((hx2.2.2.1 3 (by decide)).trans (hx1.2.2.1 3 (by decide)))))] at hb_4 hT_4 hm_4 hE_4
          try simp only [(show n_2 4 = (n 4) from ((hx2.1 4 (by decide)).trans (hx1.1 4 (by decide))))] at hb_4 hT_4 hm_4 hE_4
          try simp only [(show F_2 3 = (F 3) from ((hx2.2.2.1 3 (by decide)).trans (hx1.2.2.1 3 (by decide))))] at hb_4 hT_4 hm_4 hE_4
          rw [show (n_2 21).toInt.toNat = S0 by omega, skR_no (show (tX (F 3) (n 4)) S0 ≠ 32 by omega)] at hE_4
          cases hn : nuR (tX (F 3) (n 4)) S0 with
          | inl chn =>
            rw [hn] at hE_4
            obtain ⟨a1hn, a2hn⟩ := hE_4
            refine gz_ev (w := .int 0) (congrArg Value.int a1hn) ?_
            refine gz_if_ne (tgt := 72) dX12_value_55 (by decide) (fun c_55 => ?_) (fun c_55 => ?_)
            · exact absurd c_55 (by decide)
            ·
              try simp only [mIn_0, lgc_lt, lgc_gt, lgc_le, lgc_ge, lgc_eq] at c_55
              try simp only [fl_lt, fl_le, fl_eq, fL_w, fL_lt, fL_le, tm1, tm10k, tm9, tm99, Int32.reduceToInt, Int64.reduceToInt, Int.not_lt, Int.not_le] at c_55
              refine gz_iconst (v := 0) dX12_value_58 (by decide) ?_
              have hAe : rAll F_4 := by
                intro q hq
                obtain ⟨qa0, qb0, qc0, qd0⟩ := hA q hq
                rw [show F_4 13 = (F 13) from ((hx4.2.2.1 13 (by decide)).trans ((hx2.2.2.1 13 (by decide)).trans (hx1.2.2.1 13 (by decide)))), show F_4 14 = (F 14) from ((hx4.2.2.1 14 (by decide)).trans ((hx2.2.2.1 14 (by decide)).trans (hx1.2.2.1 14 (by decide)))), show F_4 15 = (F 15) from ((hx4.2.2.1 15 (by decide)).trans ((hx2.2.2.1 15 (by decide)).trans (hx1.2.2.1 15 (by decide)))), show F_4 19 = (F 19) from ((hx4.2.2.1 19 (by decide)).trans ((hx2.2.2.1 19 (by decide)).trans (hx1.2.2.1 19 (by decide))))]
                refine ⟨?_, ?_, ?_, ?_⟩ <;> (try simp only [updE]) <;> (repeat' split) <;> first | omega | decide
              have e17 : (F_4 17 (Int32.toNatClampNeg (n 5))).toInt = ((F 17) (Int32.toNatClampNeg (n 5))).toInt := by rw [show F_4 17 = (F 17) from ((hx4.2.2.1 17 (by decide)).trans ((hx2.2.2.1 17 (by decide)).trans (hx1.2.2.1 17 (by decide))))]
              exact gz_zret rfl (by first | decide | exact nrb (Or.inl (by assumption)) | exact nrb (by assumption) | (refine nrb ?_; assumption)) dX12_value_59 (Nat.le_of_ble_eq_true rfl) (Nat.le_of_ble_eq_true rfl) (⟨_, rfl, _, _, _, _, hS_4, (fx_tr (fx_tr (fx_tr fx_rf hx1 (by decide)) hx2 (by decide)) hx4 (by decide)), (by first | exact Or.inl rfl | exact Or.inr rfl | assumption | (left; assumption)), (by (try rw [(show n_4 21 = (n_4 21) from rfl)]); (try rw [(show n_4 4 = (n 4) from ((hx4.1 4 (by decide)).trans ((hx2.1 4 (by decide)).trans (hx1.1 4 (by decide)))))]); omega), (by (try rw [(show n_4 21 = (n_4 21) from rfl)]); omega), hAe, (by omega), (by omega), (by unfold vaR; rw [← hS0, if_pos hdg, hn]; exact ⟨rfl, a2hn⟩)⟩)
          | inr rhn =>
            rw [hn] at hE_4
            obtain ⟨a1hn, a2hn, a3hn⟩ := hE_4
            refine gz_ev (w := .int 1) (congrArg Value.int a1hn) ?_
            refine gz_if_ne (tgt := 72) dX12_value_55 (by decide) (fun c_55 => ?_) (fun c_55 => ?_)
            ·
              try simp only [mIn_0, lgc_lt, lgc_gt, lgc_le, lgc_ge, lgc_eq] at c_55
              try simp only [fl_lt, fl_le, fl_eq, fL_w, fL_lt, fL_le, tm1, tm10k, tm9, tm99, Int32.reduceToInt, Int64.reduceToInt, Int.not_lt, Int.not_le] at c_55
              refine gz_sub (lv' := [(0, .ref m), (1, .int x1), (2, .int (n_1 21)), (3, .long r_2), (5, .int (-1))]) (by simp [List.lookup]) ?_
              have hAe : rAll F_4 := by
                intro q hq
                obtain ⟨qa0, qb0, qc0, qd0⟩ := hA q hq
                rw [show F_4 13 = (F 13) from ((hx4.2.2.1 13 (by decide)).trans ((hx2.2.2.1 13 (by decide)).trans (hx1.2.2.1 13 (by decide)))), show F_4 14 = (F 14) from ((hx4.2.2.1 14 (by decide)).trans ((hx2.2.2.1 14 (by decide)).trans (hx1.2.2.1 14 (by decide)))), show F_4 15 = (F 15) from ((hx4.2.2.1 15 (by decide)).trans ((hx2.2.2.1 15 (by decide)).trans (hx1.2.2.1 15 (by decide)))), show F_4 19 = (F 19) from ((hx4.2.2.1 19 (by decide)).trans ((hx2.2.2.1 19 (by decide)).trans (hx1.2.2.1 19 (by decide))))]
                refine ⟨?_, ?_, ?_, ?_⟩ <;> (try simp only [updE]) <;> (repeat' split) <;> first | omega | decide
              have e17 : (F_4 17 (Int32.toNatClampNeg (n 5))).toInt = ((F 17) (Int32.toNatClampNeg (n 5))).toInt := by rw [show F_4 17 = (F 17) from ((hx4.2.2.1 17 (by decide)).trans ((hx2.2.2.1 17 (by decide)).trans (hx1.2.2.1 17 (by decide))))]
              have hv_ : F_4 17 (Int32.toNatClampNeg (n 5)) = F 17 (Int32.toNatClampNeg (n 5)) := by rw [show F_4 17 = (F 17) from ((hx4.2.2.1 17 (by decide)).trans ((hx2.2.2.1 17 (by decide)).trans (hx1.2.2.1 17 (by decide))))]
              exact l_X12_valueEg (S0 := S0) (Q := rhn) h5 h0 hB hn1 ⟨(by (try rw [(show n_4 21 = (n_4 21) from rfl)]); omega), (by (try rw [(show n_4 21 = (n_4 21) from rfl)]); (try rw [(show n_4 4 = (n 4) from ((hx4.1 4 (by decide)).trans ((hx2.1 4 (by decide)).trans (hx1.1 4 (by decide)))))]); omega)⟩ (by unfold vaR; rw [← hS0, if_pos hdg, hn]) 1 _ _ _ _ _ hS_4 (fx_tr (fx_tr (fx_tr fx_rf hx1 (by decide)) hx2 (by decide)) hx4 (by decide)) (by (try rw [(show n_4 21 = (n_4 21) from rfl)]); (try rw [(show n_4 4 = (n 4) from ((hx4.1 4 (by decide)).trans ((hx2.1 4 (by decide)).trans (hx1.1 4 (by decide)))))]); omega) (by (try rw [(show n_4 21 = (n_4 21) from rfl)]); omega) hAe hv_ (by (try rw [(show n_4 22 = (n_4 22) from rfl)]); omega) (by (try rw [(show n_4 21 = (n_4 21) from rfl)]); omega) (by decide)
            · exact absurd c_55 (by decide)
      ·
        try simp only [mIn_0, lgc_lt, lgc_gt, lgc_le, lgc_ge, lgc_eq] at c_33
        try simp only [fl_lt, fl_le, fl_eq, fL_w, fL_lt, fL_le, tm1, tm10k, tm9, tm99, Int32.reduceToInt, Int64.reduceToInt, Int.not_lt, Int.not_le] at c_33
        exfalso; have z := congrArg Int64.toInt c_33; rw [show (115 : Int64).toInt = 115 from rfl] at z; omega
    ·
      try simp only [mIn_0, lgc_lt, lgc_gt, lgc_le, lgc_ge, lgc_eq] at c_20
      try simp only [fl_lt, fl_le, fl_eq, fL_w, fL_lt, fL_le, tm1, tm10k, tm9, tm99, Int32.reduceToInt, Int64.reduceToInt, Int.not_lt, Int.not_le] at c_20
      exfalso; have z := congrArg Int64.toInt c_20; rw [show (6578553 : Int64).toInt = 6578553 from rfl] at z; omega
  ·
    by_cases hD : ltR (tX (F 3) (n 4)) S0 = 3 ∧ (tX (F 3) (n 4)) S0 = 100 ∧ (tX (F 3) (n 4)) (S0 + 1) = 97 ∧ (tX (F 3) (n 4)) (S0 + 2) = 121
    ·
      have hn2 : r_2.toInt = 6578553 := hqD.mpr ⟨hD.1, hD.2.1, hD.2.2.1, hD.2.2.2⟩
      have hn1 : r_2.toInt ≠ 115 := by omega
      refine gz_lstore_n (lv' := [(3, .long r_2), (2, .int (n_1 21)), (0, .ref m), (1, .int x1)]) dX12_value_14 rfl (by decide) rfl ?_
      refine gz_lload_n dX12_value_15 rfl rfl ?_
      refine gz_ldc2 (v := (6578553)) wd_820 dX12_value_16 ?_
      refine gz_lcmp dX12_value_19 ?_
      refine gz_if_ne (tgt := 28) dX12_value_20 (by decide) (fun c_20 => ?_) (fun c_20 => ?_)
      ·
        try simp only [mIn_0, lgc_lt, lgc_gt, lgc_le, lgc_ge, lgc_eq] at c_20
        try simp only [fl_lt, fl_le, fl_eq, fL_w, fL_lt, fL_le, tm1, tm10k, tm9, tm99, Int32.reduceToInt, Int64.reduceToInt, Int.not_lt, Int.not_le] at c_20
        exact absurd (Int64.toInt_inj.mp (show r_2.toInt = (6578553 : Int64).toInt by rw [show (6578553 : Int64).toInt = 6578553 from rfl]; omega)) c_20
      ·
        try simp only [mIn_0, lgc_lt, lgc_gt, lgc_le, lgc_ge, lgc_eq] at c_20
        try simp only [fl_lt, fl_le, fl_eq, fL_w, fL_lt, fL_le, tm1, tm10k, tm9, tm99, Int32.reduceToInt, Int64.reduceToInt, Int.not_lt, Int.not_le] at c_20
        refine gz_bipush (v := 6) dX12_value_23 (by decide) ?_
        refine gz_goto (tgt := 41) dX12_value_25 (by decide) ?_
        refine gz_istore (lv' := [(5, .int 6), (3, .long r_2), (2, .int (n_1 21)), (0, .ref m), (1, .int x1)]) dX12_value_41 (by decide) rfl ?_
        refine gz_aload_n dX12_value_43 rfl rfl ?_
        refine gz_iload_n dX12_value_44 rfl rfl ?_
        refine scX12_283 (k_X12_isDigitE (x := (n_1 21)) hS_2 (by (try rw [(show n_2 21 = (n_2 21) from rfl)]); (try rw [(show n_2 4 = (n 4) from ((hx2.1 4 (by decide)).trans (hx1.1 4 (by decide))))]); omega) (by (try rw [(show n_2 21 = (n_2 21) from rfl)]); (try rw [(show n_2 4 = (n 4) from ((hx2.1 4 (by decide)).trans (hx1.1 4 (by decide))))]); omega) (rB_cg ((hx2.2.2.1 3 (by decide)).trans (hx1.2.2.1 3 (by decide))) hB)) hS_2.1 ⟨(Nat.le_of_ble_eq_true rfl), (Nat.le_of_ble_eq_true rfl)⟩ ⟨(Nat.le_of_ble_eq_true rfl), (Nat.le_of_ble_eq_true rfl)⟩ rfl rfl (Nat.le_of_ble_eq_true rfl) dX12_value_45 ?_
        rintro r_5 f9 ⟨hb_5, y9⟩; rw [y9]
        try simp only [(show n_2 4 = (n 4) from ((hx2.1 4 (by decide)).trans (hx1.1 4 (by decide))))] at hb_5
        try simp only [(show F_2 3 = (F 3) from ((hx2.2.2.1 3 (by decide)).trans (hx1.2.2.1 3 (by decide))))] at hb_5
        have hbb_5 : r_5 = 0 ∨ r_5 = 1 := hb_5.imp And.left And.left
        simp only [fl_eq, Int32.reduceToInt] at hb_5
        try rw [show (n_1 21).toInt.toNat = S0 by omega] at hb_5
        refine gz_if_eq (tgt := 60) dX12_value_48 (by decide) (fun c_48 => ?_) (fun c_48 => ?_)
        ·
          try simp only [mIn_0, lgc_lt, lgc_gt, lgc_le, lgc_ge, lgc_eq] at c_48
          try simp only [fl_lt, fl_le, fl_eq, fL_w, fL_lt, fL_le, tm1, tm10k, tm9, tm99, Int32.reduceToInt, Int64.reduceToInt, Int.not_lt, Int.not_le] at c_48
          refine gz_iload dX12_value_60 rfl ?_
          refine gz_if_ge (tgt := 72) dX12_value_62 (by decide) (fun c_62 => ?_) (fun c_62 => ?_)
          ·
            try simp only [mIn_0, lgc_lt, lgc_gt, lgc_le, lgc_ge, lgc_eq] at c_62
            try simp only [fl_lt, fl_le, fl_eq, fL_w, fL_lt, fL_le, tm1, tm10k, tm9, tm99, Int32.reduceToInt, Int64.reduceToInt, Int.not_lt, Int.not_le] at c_62
            refine gz_sub (lv' := [(0, .ref m), (1, .int x1), (2, .int (n_1 21)), (3, .long r_2), (5, .int 6)]) (by simp [List.lookup]) ?_
            have hAe : rAll F_2 := by
              intro q hq
              obtain ⟨qa0, qb0, qc0, qd0⟩ := hA q hq
              rw [show F_2 13 = (F 13) from ((hx2.2.2.1 13 (by decide)).trans (hx1.2.2.1 13 (by decide))), show F_2 14 = (F 14) from ((hx2.2.2.1 14 (by decide)).trans (hx1.2.2.1 14 (by decide))), show F_2 15 = (F 15) from ((hx2.2.2.1 15 (by decide)).trans (hx1.2.2.1 15 (by decide))), show F_2 19 = (F 19) from ((hx2.2.2.1 19 (by decide)).trans (hx1.2.2.1 19 (by decide)))]
              refine ⟨?_, ?_, ?_, ?_⟩ <;> (try simp only [updE]) <;> (repeat' split) <;> first | omega | decide
            have e17 : (F_2 17 (Int32.toNatClampNeg (n 5))).toInt = ((F 17) (Int32.toNatClampNeg (n 5))).toInt := by rw [show F_2 17 = (F 17) from ((hx2.2.2.1 17 (by decide)).trans (hx1.2.2.1 17 (by decide)))]
            have hv_ : F_2 17 (Int32.toNatClampNeg (n 5)) = F 17 (Int32.toNatClampNeg (n 5)) := by rw [show F_2 17 = (F 17) from ((hx2.2.2.1 17 (by decide)).trans (hx1.2.2.1 17 (by decide)))]
            exact l_X12_valueEd (S0 := S0) (Q := S0) h5 h0 hB hn1 ⟨hD.1, rfl⟩ ⟨(by (try rw [(show n_2 21 = (n_2 21) from rfl)]); omega), (by (try rw [(show n_2 21 = (n_2 21) from rfl)]); (try rw [(show n_2 4 = (n 4) from ((hx2.1 4 (by decide)).trans (hx1.1 4 (by decide))))]); omega)⟩ (by unfold vaR; rw [← hS0, if_neg hdg, if_pos hD]) 1 _ _ _ _ _ hS_2 (fx_tr (fx_tr fx_rf hx1 (by decide)) hx2 (by decide)) (by (try rw [(show n_2 21 = (n_2 21) from rfl)]); (try rw [(show n_2 4 = (n 4) from ((hx2.1 4 (by decide)).trans (hx1.1 4 (by decide))))]); omega) (by (try rw [(show n_2 21 = (n_2 21) from rfl)]); omega) hAe hv_ (by (try rw [(show n_2 22 = (n 22) from ((hx2.1 22 (by decide)).trans (hx1.1 22 (by decide))))]); omega) (by (try rw [(show n_2 21 = (n_2 21) from rfl)]); omega) (by decide)
          · exact absurd c_62 (by decide)
        ·
          try simp only [mIn_0, lgc_lt, lgc_gt, lgc_le, lgc_ge, lgc_eq] at c_48
          try simp only [fl_lt, fl_le, fl_eq, fL_w, fL_lt, fL_le, tm1, tm10k, tm9, tm99, Int32.reduceToInt, Int64.reduceToInt, Int.not_lt, Int.not_le] at c_48
          exfalso; omega
    ·
      by_cases hX : ltR (tX (F 3) (n 4)) S0 = 1 ∧ (tX (F 3) (n 4)) S0 = 115
      ·
        have hn1 : r_2.toInt = 115 := hqS.mpr ⟨hX.1, hX.2⟩
        have hn2 : r_2.toInt ≠ 6578553 := by omega
        refine gz_lstore_n (lv' := [(3, .long r_2), (2, .int (n_1 21)), (0, .ref m), (1, .int x1)]) dX12_value_14 rfl (by decide) rfl ?_
        refine gz_lload_n dX12_value_15 rfl rfl ?_
        refine gz_ldc2 (v := (6578553)) wd_820 dX12_value_16 ?_
        refine gz_lcmp dX12_value_19 ?_
        refine gz_if_ne (tgt := 28) dX12_value_20 (by decide) (fun c_20 => ?_) (fun c_20 => ?_)
        ·
          try simp only [mIn_0, lgc_lt, lgc_gt, lgc_le, lgc_ge, lgc_eq] at c_20
          try simp only [fl_lt, fl_le, fl_eq, fL_w, fL_lt, fL_le, tm1, tm10k, tm9, tm99, Int32.reduceToInt, Int64.reduceToInt, Int.not_lt, Int.not_le] at c_20
          refine gz_lload_n dX12_value_28 rfl rfl ?_
          refine gz_ldc2 (v := (115)) wd_821 dX12_value_29 ?_
          refine gz_lcmp dX12_value_32 ?_
          refine gz_if_ne (tgt := 40) dX12_value_33 (by decide) (fun c_33 => ?_) (fun c_33 => ?_)
          ·
            try simp only [mIn_0, lgc_lt, lgc_gt, lgc_le, lgc_ge, lgc_eq] at c_33
            try simp only [fl_lt, fl_le, fl_eq, fL_w, fL_lt, fL_le, tm1, tm10k, tm9, tm99, Int32.reduceToInt, Int64.reduceToInt, Int.not_lt, Int.not_le] at c_33
            exact absurd (Int64.toInt_inj.mp (show r_2.toInt = (115 : Int64).toInt by rw [show (115 : Int64).toInt = 115 from rfl]; omega)) c_33
          ·
            try simp only [mIn_0, lgc_lt, lgc_gt, lgc_le, lgc_ge, lgc_eq] at c_33
            try simp only [fl_lt, fl_le, fl_eq, fL_w, fL_lt, fL_le, tm1, tm10k, tm9, tm99, Int32.reduceToInt, Int64.reduceToInt, Int.not_lt, Int.not_le] at c_33
            refine gz_iconst (v := 0) dX12_value_36 (by decide) ?_
            refine gz_goto (tgt := 41) dX12_value_37 (by decide) ?_
            refine gz_istore (lv' := [(5, .int 0), (3, .long r_2), (2, .int (n_1 21)), (0, .ref m), (1, .int x1)]) dX12_value_41 (by decide) rfl ?_
            refine gz_aload_n dX12_value_43 rfl rfl ?_
            refine gz_iload_n dX12_value_44 rfl rfl ?_
            refine scX12_283 (k_X12_isDigitE (x := (n_1 21)) hS_2 (by (try rw [(show n_2 21 = (n_2 21) from rfl)]); (try rw [(show n_2 4 = (n 4) from ((hx2.1 4 (by decide)).trans (hx1.1 4 (by decide))))]); omega) (by (try rw [(show n_2 21 = (n_2 21) from rfl)]); (try rw [(show n_2 4 = (n 4) from ((hx2.1 4 (by decide)).trans (hx1.1 4 (by decide))))]); omega) (rB_cg ((hx2.2.2.1 3 (by decide)).trans (hx1.2.2.1 3 (by decide))) hB)) hS_2.1 ⟨(Nat.le_of_ble_eq_true rfl), (Nat.le_of_ble_eq_true rfl)⟩ ⟨(Nat.le_of_ble_eq_true rfl), (Nat.le_of_ble_eq_true rfl)⟩ rfl rfl (Nat.le_of_ble_eq_true rfl) dX12_value_45 ?_
            rintro r_6 f9 ⟨hb_6, y9⟩; rw [y9]
            try simp only [(show n_2 4 = (n 4) from ((hx2.1 4 (by decide)).trans (hx1.1 4 (by decide))))] at hb_6
            try simp only [(show F_2 3 = (F 3) from ((hx2.2.2.1 3 (by decide)).trans (hx1.2.2.1 3 (by decide))))] at hb_6
            have hbb_6 : r_6 = 0 ∨ r_6 = 1 := hb_6.imp And.left And.left
            simp only [fl_eq, Int32.reduceToInt] at hb_6
            try rw [show (n_1 21).toInt.toNat = S0 by omega] at hb_6
            refine gz_if_eq (tgt := 60) dX12_value_48 (by decide) (fun c_48 => ?_) (fun c_48 => ?_)
            ·
              try simp only [mIn_0, lgc_lt, lgc_gt, lgc_le, lgc_ge, lgc_eq] at c_48
              try simp only [fl_lt, fl_le, fl_eq, fL_w, fL_lt, fL_le, tm1, tm10k, tm9, tm99, Int32.reduceToInt, Int64.reduceToInt, Int.not_lt, Int.not_le] at c_48
              refine gz_iload dX12_value_60 rfl ?_
              refine gz_if_ge (tgt := 72) dX12_value_62 (by decide) (fun c_62 => ?_) (fun c_62 => ?_)
              ·
                try simp only [mIn_0, lgc_lt, lgc_gt, lgc_le, lgc_ge, lgc_eq] at c_62
                try simp only [fl_lt, fl_le, fl_eq, fL_w, fL_lt, fL_le, tm1, tm10k, tm9, tm99, Int32.reduceToInt, Int64.reduceToInt, Int.not_lt, Int.not_le] at c_62
                refine gz_sub (lv' := [(0, .ref m), (1, .int x1), (2, .int (n_1 21)), (3, .long r_2), (5, .int 0)]) (by simp [List.lookup]) ?_
                have hAe : rAll F_2 := by
                  intro q hq
                  obtain ⟨qa0, qb0, qc0, qd0⟩ := hA q hq
                  rw [show F_2 13 = (F 13) from ((hx2.2.2.1 13 (by decide)).trans (hx1.2.2.1 13 (by decide))), show F_2 14 = (F 14) from ((hx2.2.2.1 14 (by decide)).trans (hx1.2.2.1 14 (by decide))), show F_2 15 = (F 15) from ((hx2.2.2.1 15 (by decide)).trans (hx1.2.2.1 15 (by decide))), show F_2 19 = (F 19) from ((hx2.2.2.1 19 (by decide)).trans (hx1.2.2.1 19 (by decide)))]
                  refine ⟨?_, ?_, ?_, ?_⟩ <;> (try simp only [updE]) <;> (repeat' split) <;> first | omega | decide
                have e17 : (F_2 17 (Int32.toNatClampNeg (n 5))).toInt = ((F 17) (Int32.toNatClampNeg (n 5))).toInt := by rw [show F_2 17 = (F 17) from ((hx2.2.2.1 17 (by decide)).trans (hx1.2.2.1 17 (by decide)))]
                have hv_ : F_2 17 (Int32.toNatClampNeg (n 5)) = F 17 (Int32.toNatClampNeg (n 5)) := by rw [show F_2 17 = (F 17) from ((hx2.2.2.1 17 (by decide)).trans (hx1.2.2.1 17 (by decide)))]
                exact l_X12_valueEs (S0 := S0) (Q := S0) h5 h0 hB hn1 ⟨hX.1, rfl, hX.2⟩ ⟨(by (try rw [(show n_2 21 = (n_2 21) from rfl)]); omega), (by (try rw [(show n_2 21 = (n_2 21) from rfl)]); (try rw [(show n_2 4 = (n 4) from ((hx2.1 4 (by decide)).trans (hx1.1 4 (by decide))))]); omega)⟩ (by unfold vaR; rw [← hS0, if_neg hdg, if_neg hD, if_pos hX]) 1 _ _ _ _ _ hS_2 (fx_tr (fx_tr fx_rf hx1 (by decide)) hx2 (by decide)) (by (try rw [(show n_2 21 = (n_2 21) from rfl)]); (try rw [(show n_2 4 = (n 4) from ((hx2.1 4 (by decide)).trans (hx1.1 4 (by decide))))]); omega) (by (try rw [(show n_2 21 = (n_2 21) from rfl)]); omega) hAe hv_ (by (try rw [(show n_2 22 = (n 22) from ((hx2.1 22 (by decide)).trans (hx1.1 22 (by decide))))]); omega) (by (try rw [(show n_2 21 = (n_2 21) from rfl)]); omega) (by decide)
              · exact absurd c_62 (by decide)
            ·
              try simp only [mIn_0, lgc_lt, lgc_gt, lgc_le, lgc_ge, lgc_eq] at c_48
              try simp only [fl_lt, fl_le, fl_eq, fL_w, fL_lt, fL_le, tm1, tm10k, tm9, tm99, Int32.reduceToInt, Int64.reduceToInt, Int.not_lt, Int.not_le] at c_48
              exfalso; omega
        ·
          try simp only [mIn_0, lgc_lt, lgc_gt, lgc_le, lgc_ge, lgc_eq] at c_20
          try simp only [fl_lt, fl_le, fl_eq, fL_w, fL_lt, fL_le, tm1, tm10k, tm9, tm99, Int32.reduceToInt, Int64.reduceToInt, Int.not_lt, Int.not_le] at c_20
          exfalso; have z := congrArg Int64.toInt c_20; rw [show (6578553 : Int64).toInt = 6578553 from rfl] at z; omega
      ·
        have hn1 : r_2.toInt ≠ 115 := fun z => hX ⟨(hqS.mp z).1, (hqS.mp z).2⟩
        have hn2 : r_2.toInt ≠ 6578553 := fun z => hD ⟨(hqD.mp z).1, (hqD.mp z).2.1, (hqD.mp z).2.2.1, (hqD.mp z).2.2.2⟩
        refine gz_lstore_n (lv' := [(3, .long r_2), (2, .int (n_1 21)), (0, .ref m), (1, .int x1)]) dX12_value_14 rfl (by decide) rfl ?_
        refine gz_lload_n dX12_value_15 rfl rfl ?_
        refine gz_ldc2 (v := (6578553)) wd_820 dX12_value_16 ?_
        refine gz_lcmp dX12_value_19 ?_
        refine gz_if_ne (tgt := 28) dX12_value_20 (by decide) (fun c_20 => ?_) (fun c_20 => ?_)
        ·
          try simp only [mIn_0, lgc_lt, lgc_gt, lgc_le, lgc_ge, lgc_eq] at c_20
          try simp only [fl_lt, fl_le, fl_eq, fL_w, fL_lt, fL_le, tm1, tm10k, tm9, tm99, Int32.reduceToInt, Int64.reduceToInt, Int.not_lt, Int.not_le] at c_20
          refine gz_lload_n dX12_value_28 rfl rfl ?_
          refine gz_ldc2 (v := (115)) wd_821 dX12_value_29 ?_
          refine gz_lcmp dX12_value_32 ?_
          refine gz_if_ne (tgt := 40) dX12_value_33 (by decide) (fun c_33 => ?_) (fun c_33 => ?_)
          ·
            try simp only [mIn_0, lgc_lt, lgc_gt, lgc_le, lgc_ge, lgc_eq] at c_33
            try simp only [fl_lt, fl_le, fl_eq, fL_w, fL_lt, fL_le, tm1, tm10k, tm9, tm99, Int32.reduceToInt, Int64.reduceToInt, Int.not_lt, Int.not_le] at c_33
            refine gz_iconst (v := (-1)) dX12_value_40 (by decide) ?_
            refine gz_istore (lv' := [(5, .int (-1)), (3, .long r_2), (2, .int (n_1 21)), (0, .ref m), (1, .int x1)]) dX12_value_41 (by decide) rfl ?_
            refine gz_aload_n dX12_value_43 rfl rfl ?_
            refine gz_iload_n dX12_value_44 rfl rfl ?_
            refine scX12_283 (k_X12_isDigitE (x := (n_1 21)) hS_2 (by (try rw [(show n_2 21 = (n_2 21) from rfl)]); (try rw [(show n_2 4 = (n 4) from ((hx2.1 4 (by decide)).trans (hx1.1 4 (by decide))))]); omega) (by (try rw [(show n_2 21 = (n_2 21) from rfl)]); (try rw [(show n_2 4 = (n 4) from ((hx2.1 4 (by decide)).trans (hx1.1 4 (by decide))))]); omega) (rB_cg ((hx2.2.2.1 3 (by decide)).trans (hx1.2.2.1 3 (by decide))) hB)) hS_2.1 ⟨(Nat.le_of_ble_eq_true rfl), (Nat.le_of_ble_eq_true rfl)⟩ ⟨(Nat.le_of_ble_eq_true rfl), (Nat.le_of_ble_eq_true rfl)⟩ rfl rfl (Nat.le_of_ble_eq_true rfl) dX12_value_45 ?_
            rintro r_7 f9 ⟨hb_7, y9⟩; rw [y9]
            try simp only [(show n_2 4 = (n 4) from ((hx2.1 4 (by decide)).trans (hx1.1 4 (by decide))))] at hb_7
            try simp only [(show F_2 3 = (F 3) from ((hx2.2.2.1 3 (by decide)).trans (hx1.2.2.1 3 (by decide))))] at hb_7
            have hbb_7 : r_7 = 0 ∨ r_7 = 1 := hb_7.imp And.left And.left
            simp only [fl_eq, Int32.reduceToInt] at hb_7
            try rw [show (n_1 21).toInt.toNat = S0 by omega] at hb_7
            refine gz_if_eq (tgt := 60) dX12_value_48 (by decide) (fun c_48 => ?_) (fun c_48 => ?_)
            ·
              try simp only [mIn_0, lgc_lt, lgc_gt, lgc_le, lgc_ge, lgc_eq] at c_48
              try simp only [fl_lt, fl_le, fl_eq, fL_w, fL_lt, fL_le, tm1, tm10k, tm9, tm99, Int32.reduceToInt, Int64.reduceToInt, Int.not_lt, Int.not_le] at c_48
              refine gz_iload dX12_value_60 rfl ?_
              refine gz_if_ge (tgt := 72) dX12_value_62 (by decide) (fun c_62 => ?_) (fun c_62 => ?_)
              · exact absurd c_62 (by decide)
              ·
                try simp only [mIn_0, lgc_lt, lgc_gt, lgc_le, lgc_ge, lgc_eq] at c_62
                try simp only [fl_lt, fl_le, fl_eq, fL_w, fL_lt, fL_le, tm1, tm10k, tm9, tm99, Int32.reduceToInt, Int64.reduceToInt, Int.not_lt, Int.not_le] at c_62
                refine gz_aload_n dX12_value_65 rfl rfl ?_
                refine gz_iconst (v := 0) dX12_value_66 (by decide) ?_
                refine gz_iload_n dX12_value_67 rfl rfl ?_
                refine scX12_279 (k_X12_failsE (x := 0) (y := (n_1 21)) hS_2 (by (try rw [(show n_2 22 = (n 22) from ((hx2.1 22 (by decide)).trans (hx1.1 22 (by decide))))]); omega) (by (try rw [(show n_2 21 = (n_2 21) from rfl)]); (try rw [(show n_2 4 = (n 4) from ((hx2.1 4 (by decide)).trans (hx1.1 4 (by decide))))]); omega) (by decide)) hS_2.1 ⟨(Nat.le_of_ble_eq_true rfl), (Nat.le_of_ble_eq_true rfl)⟩ ⟨(Nat.le_of_ble_eq_true rfl), (Nat.le_of_ble_eq_true rfl)⟩ rfl rfl (Nat.le_of_ble_eq_true rfl) dX12_value_68 ?_
                rintro r_8 f_8 ⟨n_8, z_8, F_8, G_8, hS_8, hx8, hr_8, hf_8⟩
                try simp only [(show n_2 22 = (n 22) from ((hx2.1 22 (by decide)).trans (hx1.1 22 (by decide))))] at hr_8 hf_8
                simp only [Int32.reduceToInt] at hf_8
                have hAe : rAll F_8 := by
                  intro q hq
                  obtain ⟨qa0, qb0, qc0, qd0⟩ := hA q hq
                  rw [show F_8 13 = (F 13) from ((hx8.2.2.1 13 (by decide)).trans ((hx2.2.2.1 13 (by decide)).trans (hx1.2.2.1 13 (by decide)))), show F_8 14 = (F 14) from ((hx8.2.2.1 14 (by decide)).trans ((hx2.2.2.1 14 (by decide)).trans (hx1.2.2.1 14 (by decide)))), show F_8 15 = (F 15) from ((hx8.2.2.1 15 (by decide)).trans ((hx2.2.2.1 15 (by decide)).trans (hx1.2.2.1 15 (by decide)))), show F_8 19 = (F 19) from ((hx8.2.2.1 19 (by decide)).trans ((hx2.2.2.1 19 (by decide)).trans (hx1.2.2.1 19 (by decide))))]
                  refine ⟨?_, ?_, ?_, ?_⟩ <;> (try simp only [updE]) <;> (repeat' split) <;> first | omega | decide
                have e17 : (F_8 17 (Int32.toNatClampNeg (n 5))).toInt = ((F 17) (Int32.toNatClampNeg (n 5))).toInt := by rw [show F_8 17 = (F 17) from ((hx8.2.2.1 17 (by decide)).trans ((hx2.2.2.1 17 (by decide)).trans (hx1.2.2.1 17 (by decide))))]
                exact gz_zret rfl (by first | decide | exact nrb (Or.inl (by assumption)) | exact nrb (by assumption) | (refine nrb ?_; assumption)) dX12_value_71 (Nat.le_of_ble_eq_true rfl) (Nat.le_of_ble_eq_true rfl) (⟨_, rfl, _, _, _, _, hS_8, (fx_tr (fx_tr (fx_tr fx_rf hx1 (by decide)) hx2 (by decide)) hx8 (by decide)), (by first | exact Or.inl rfl | exact Or.inr rfl | assumption | (left; assumption)), (by (try rw [(show n_8 21 = (n_2 21) from (hx8.1 21 (by decide)))]); (try rw [(show n_8 4 = (n 4) from ((hx8.1 4 (by decide)).trans ((hx2.1 4 (by decide)).trans (hx1.1 4 (by decide)))))]); omega), (by (try rw [(show n_8 21 = (n_2 21) from (hx8.1 21 (by decide)))]); omega), hAe, (by omega), (by omega), (by unfold vaR; rw [← hS0, if_neg hdg, if_neg hD, if_neg hX]; exact ⟨hr_8, (by (try rw [(show n_8 22 = (n_8 22) from rfl)]); omega)⟩)⟩)
            ·
              try simp only [mIn_0, lgc_lt, lgc_gt, lgc_le, lgc_ge, lgc_eq] at c_48
              try simp only [fl_lt, fl_le, fl_eq, fL_w, fL_lt, fL_le, tm1, tm10k, tm9, tm99, Int32.reduceToInt, Int64.reduceToInt, Int.not_lt, Int.not_le] at c_48
              exfalso; omega
          ·
            try simp only [mIn_0, lgc_lt, lgc_gt, lgc_le, lgc_ge, lgc_eq] at c_33
            try simp only [fl_lt, fl_le, fl_eq, fL_w, fL_lt, fL_le, tm1, tm10k, tm9, tm99, Int32.reduceToInt, Int64.reduceToInt, Int.not_lt, Int.not_le] at c_33
            exfalso; have z := congrArg Int64.toInt c_33; rw [show (115 : Int64).toInt = 115 from rfl] at z; omega
        ·
          try simp only [mIn_0, lgc_lt, lgc_gt, lgc_le, lgc_ge, lgc_eq] at c_20
          try simp only [fl_lt, fl_le, fl_eq, fL_w, fL_lt, fL_le, tm1, tm10k, tm9, tm99, Int32.reduceToInt, Int64.reduceToInt, Int.not_lt, Int.not_le] at c_20
          exfalso; have z := congrArg Int64.toInt c_20; rw [show (6578553 : Int64).toInt = 6578553 from rfl] at z; omega

set_option maxHeartbeats 4000000 in
set_option maxRecDepth 100000 in
theorem l_X12_sumE {l : Launch} {D : va_G} {cy : Nat → ClassId} {b : Nat} {m : Nat} {a : Nat → Nat} {f0 : gMem} {n0 : Nat → Int32} {z0 : Nat → Int64} {F0 : Nat → Nat → Int32} {G0 : Nat → Nat → Int64}   (h5 : 0 ≤ (n0 5).toInt ∧ (n0 5).toInt < 20) (h0 : 0 ≤ (F0 17 (Int32.toNatClampNeg (n0 5))).toInt ∧ (F0 17 (Int32.toNatClampNeg (n0 5))).toInt ≤ 40) (hB0 : rB F0) : ∀ (k : Nat) (x : Int32) (P1 V1 m1 : Nat) (n : Nat → Int32) (z : Nat → Int64) (F : Nat → Nat → Int32) (G : Nat → Nat → Int64) (fm : gMem), mS cy m a f0 n z F G fm → fx [21, 22, 23] [] [17, 18, 19, 20] [] n0 z0 F0 G0 n z F G → ((0 ≤ (n 21).toInt ∧ (n 21).toInt ≤ (n 4).toInt ∧ (n 4).toInt ≤ 400)) → ((n0 21).toInt ≤ (n 21).toInt) → (rAll F) → ((F0 17 (Int32.toNatClampNeg (n0 5))).toInt ≤ (F 17 (Int32.toNatClampNeg (n0 5))).toInt ∧ (F 17 (Int32.toNatClampNeg (n0 5))).toInt ≤ 40) → ((n 22).toInt = 0) → ((n 21).toInt = (P1 : Int) ∧ (F 17 (Int32.toNatClampNeg (n0 5))).toInt = (V1 : Int) ∧ 41 ≤ m1 + V1) → (suR (tX (F0 3) (n0 4)) m1 P1 V1 = suR (tX (F0 3) (n0 4)) 41 (n0 21).toInt.toNat (F0 17 (Int32.toNatClampNeg (n0 5))).toInt.toNat) → ((n0 4).toInt - (n 21).toInt < (k : Int)) → gG l (gRm 3 0 0) (gQf D b (pI fun r f2 => ∃ (n2 : Nat → Int32) (z2 : Nat → Int64) (F2 : Nat → Nat → Int32) (G2 : Nat → Nat → Int64), mS cy m a f0 n2 z2 F2 G2 f2 ∧ fx [21, 22, 23] [] [17, 18, 19, 20] [] n0 z0 F0 G0 n2 z2 F2 G2 ∧ (r = 0 ∨ r = 1) ∧ (0 ≤ (n2 21).toInt ∧ (n2 21).toInt ≤ (n2 4).toInt ∧ (n2 4).toInt ≤ 400) ∧ (n0 21).toInt ≤ (n2 21).toInt ∧ rAll F2 ∧ (F0 17 (Int32.toNatClampNeg (n0 5))).toInt ≤ (F2 17 (Int32.toNatClampNeg (n0 5))).toInt ∧ (F2 17 (Int32.toNatClampNeg (n0 5))).toInt ≤ 40 ∧ exM2 (suR (tX (F0 3) (n0 4)) 41 (n0 21).toInt.toNat (F0 17 (Int32.toNatClampNeg (n0 5))).toInt.toNat) r n2 (F2 17 (Int32.toNatClampNeg (n0 5)))) 0 0) gTt D cy b cX12_sum 2 (some .boolean) RX12 "sum" 0 0 fm 2 [(0, .ref m), (1, .int x)] [] := by
  intro k
  induction k with
  | zero =>
    intro x P1 V1 m1 n z F G fm hS hx hT hm hA hv h22 h21 hSu hk
    exfalso; have e4 : n 4 = n0 4 := hx.1 4 (by decide); rw [e4] at hT; omega
  | succ k ih =>
    intro x P1 V1 m1 n z F G fm hS hx hT hm hA hv h22 h21 hSu hk
    have qn5 := clI (i := n0 5) (by omega)
    have e4 : n 4 = n0 4 := hx.1 4 (by decide)
    have e3 : F 3 = F0 3 := hx.2.2.1 3 (by decide)
    have hB : rB F := rB_cg e3 hB0
    rw [e4] at hT
    have hln := tX_ln (g := F0 3) (L := n0 4) (by omega)
    refine gz_aload_n dX12_sum_2 rfl rfl ?_
    refine gz_iload_n dX12_sum_3 rfl rfl ?_
    refine scX12_313 (k_X12_valueE (x1 := x) hS (by (try rw [(show n 4 = (n0 4) from (hx.1 4 (by decide)))]); omega) (by rw [(show n 5 = (n0 5) from (hx.1 5 (by decide)))]; omega) hA (by rw [(show n 5 = (n0 5) from (hx.1 5 (by decide)))]; omega) hB (by omega)) hS.1 ⟨(Nat.le_of_ble_eq_true rfl), (Nat.le_of_ble_eq_true rfl)⟩ ⟨(Nat.le_of_ble_eq_true rfl), (Nat.le_of_ble_eq_true rfl)⟩ rfl rfl (Nat.le_of_ble_eq_true rfl) dX12_sum_4 ?_
    rintro r_1 f_1 ⟨n_1, z_1, F_1, G_1, hS_1, hx1, hb_1, hT_1, hm_1, hA_1, hva_1, hvb_1, hE_1⟩
    try simp only [(show n_1 4 = (n0 4) from ((hx1.1 4 (by decide)).trans (hx.1 4 (by decide))))] at hb_1 hT_1 hm_1 hA_1 hva_1 hvb_1 hE_1
    try simp only [(show n_1 5 = (n0 5) from ((hx1.1 5 (by decide)).trans (hx.1 5 (by decide))))] at hb_1 hT_1 hm_1 hA_1 hva_1 hvb_1 hE_1
    try simp only [(show F_1 3 = (F0 3) from ((hx1.2.2.1 3 (by decide)).trans (hx.2.2.1 3 (by decide))))] at hb_1 hT_1 hm_1 hA_1 hva_1 hvb_1 hE_1
    try simp only [(show n 4 = (n0 4) from (hx.1 4 (by decide)))] at hb_1 hT_1 hm_1 hA_1 hva_1 hvb_1 hE_1
    try simp only [(show n 5 = (n0 5) from (hx.1 5 (by decide)))] at hb_1 hT_1 hm_1 hA_1 hva_1 hvb_1 hE_1
    try simp only [(show F 3 = (F0 3) from (hx.2.2.1 3 (by decide)))] at hb_1 hT_1 hm_1 hA_1 hva_1 hvb_1 hE_1
    try rw [(show n 5 = (n0 5) from (hx.1 5 (by decide)))] at hva_1 hvb_1 hE_1
    rw [show (n 21).toInt.toNat = P1 by omega, show (F 17 (Int32.toNatClampNeg (n0 5))).toInt.toNat = V1 by omega] at hE_1
    obtain ⟨m2, hm2⟩ : ∃ m2, m1 = m2 + 1 := ⟨m1 - 1, by omega⟩
    rw [hm2] at hSu
    have hSS : suR (tX (F0 3) (n0 4)) (m2 + 1) P1 V1 = (match vaR (tX (F0 3) (n0 4)) P1 V1 with | .inl c => .inl c | .inr (q, V2) => if (tX (F0 3) (n0 4)) (skR (tX (F0 3) (n0 4)) q) = 43 ∨ (tX (F0 3) (n0 4)) (skR (tX (F0 3) (n0 4)) q) = 45 ∨ (tX (F0 3) (n0 4)) (skR (tX (F0 3) (n0 4)) q) = 42 then suR (tX (F0 3) (n0 4)) m2 (skR (tX (F0 3) (n0 4)) q + 1) V2 else .inr (skR (tX (F0 3) (n0 4)) q, V2)) := rfl
    rw [hSS] at hSu
    cases hq : vaR (tX (F0 3) (n0 4)) P1 V1 with
    | inl cq =>
      rw [hq] at hE_1 hSu
      dsimp only at hSu
      obtain ⟨a1q, a2q⟩ := hE_1
      refine gz_ev (w := .int 0) (congrArg Value.int a1q) ?_
      refine gz_if_ne (tgt := 12) dX12_sum_7 (by decide) (fun c_7 => ?_) (fun c_7 => ?_)
      · exact absurd c_7 (by decide)
      ·
        try simp only [mIn_0, lgc_lt, lgc_gt, lgc_le, lgc_ge, lgc_eq] at c_7
        try simp only [fl_lt, fl_le, fl_eq, fL_w, fL_lt, fL_le, tm1, tm10k, tm9, tm99, Int32.reduceToInt, Int64.reduceToInt, Int.not_lt, Int.not_le] at c_7
        refine gz_iconst (v := 0) dX12_sum_10 (by decide) ?_
        have hAe : rAll F_1 := by
          intro q hq
          obtain ⟨qa0, qb0, qc0, qd0⟩ := hA q hq
          obtain ⟨qa1, qb1, qc1, qd1⟩ := hA_1 q hq
          rw [show F_1 13 = (F 13) from (hx1.2.2.1 13 (by decide)), show F_1 14 = (F 14) from (hx1.2.2.1 14 (by decide)), show F_1 15 = (F 15) from (hx1.2.2.1 15 (by decide)), show F_1 19 = (F_1 19) from rfl]
          refine ⟨?_, ?_, ?_, ?_⟩ <;> (try simp only [updE]) <;> (repeat' split) <;> first | omega | decide
        have e17 : (F_1 17 (Int32.toNatClampNeg (n0 5))).toInt = ((F_1 17) (Int32.toNatClampNeg (n0 5))).toInt := by rw [show F_1 17 = (F_1 17) from rfl]
        exact gz_zret rfl (by first | decide | exact nrb (Or.inl (by assumption)) | exact nrb (by assumption) | (refine nrb ?_; assumption)) dX12_sum_11 (Nat.le_of_ble_eq_true rfl) (Nat.le_of_ble_eq_true rfl) (⟨_, rfl, _, _, _, _, hS_1, (fx_tr hx hx1 (by decide)), (by first | exact Or.inl rfl | exact Or.inr rfl | assumption | (left; assumption)), (by (try rw [(show n_1 21 = (n_1 21) from rfl)]); (try rw [(show n_1 4 = (n0 4) from ((hx1.1 4 (by decide)).trans (hx.1 4 (by decide))))]); omega), (by (try rw [(show n_1 21 = (n_1 21) from rfl)]); omega), hAe, (by omega), (by omega), (by rw [← hSu]; exact ⟨rfl, a2q⟩)⟩)
    | inr rq =>
      obtain ⟨Q1, V2⟩ := rq
      have ok := vaR_ok hln (show P1 ≤ (n0 4).toInt.toNat by omega) (show V1 ≤ 40 by omega) hq
      rw [hq] at hE_1 hSu
      dsimp only at hSu
      obtain ⟨a1q, a2q, a3q, a4q⟩ := hE_1
      refine gz_ev (w := .int 1) (congrArg Value.int a1q) ?_
      refine gz_if_ne (tgt := 12) dX12_sum_7 (by decide) (fun c_7 => ?_) (fun c_7 => ?_)
      ·
        try simp only [mIn_0, lgc_lt, lgc_gt, lgc_le, lgc_ge, lgc_eq] at c_7
        try simp only [fl_lt, fl_le, fl_eq, fL_w, fL_lt, fL_le, tm1, tm10k, tm9, tm99, Int32.reduceToInt, Int64.reduceToInt, Int.not_lt, Int.not_le] at c_7
        refine gz_aload_n dX12_sum_12 rfl rfl ?_
        refine scX12_275 (k_X12_see_E hS_1 (by (try rw [(show n_1 21 = (n_1 21) from rfl)]); (try rw [(show n_1 4 = (n0 4) from ((hx1.1 4 (by decide)).trans (hx.1 4 (by decide))))]); omega) (rB_cg ((hx1.2.2.1 3 (by decide)).trans (hx.2.2.1 3 (by decide))) hB0)) hS_1.1 ⟨(Nat.le_of_ble_eq_true rfl), (Nat.le_of_ble_eq_true rfl)⟩ ⟨(Nat.le_of_ble_eq_true rfl), (Nat.le_of_ble_eq_true rfl)⟩ rfl rfl (Nat.le_of_ble_eq_true rfl) dX12_sum_13 ?_
        rintro r_2 f_2 ⟨n_2, z_2, F_2, G_2, hS_2, hx2, hT_2, hm_2, hq_2, hs_2, hv_2⟩
        try simp only [(show n_2 4 = (n0 4) from ((hx2.1 4 (by decide)).trans ((hx1.1 4 (by decide)).trans (hx.1 4 (by decide)))))] at hT_2 hm_2 hq_2 hs_2 hv_2
        try simp only [(show F_2 3 = (F0 3) from ((hx2.2.2.1 3 (by decide)).trans ((hx1.2.2.1 3 (by decide)).trans (hx.2.2.1 3 (by decide)))))] at hT_2 hm_2 hq_2 hs_2 hv_2
        try simp only [(show n_1 4 = (n0 4) from ((hx1.1 4 (by decide)).trans (hx.1 4 (by decide))))] at hT_2 hm_2 hq_2 hs_2 hv_2
        try simp only [(show F_1 3 = (F0 3) from ((hx1.2.2.1 3 (by decide)).trans (hx.2.2.1 3 (by decide))))] at hT_2 hm_2 hq_2 hs_2 hv_2
        rw [show (n_1 21).toInt.toNat = Q1 by omega] at hs_2 hv_2
        have hsk2 := skR_le hln (show Q1 ≤ (n0 4).toInt.toNat by omega)
        refine gz_istore_n (lv' := [(1, .int r_2), (0, .ref m)]) dX12_sum_16 rfl (by decide) rfl ?_
        refine gz_iload_n dX12_sum_17 rfl rfl ?_
        refine gz_bipush (v := 43) dX12_sum_18 (by decide) ?_
        refine gz_icmp_eq (tgt := 37) dX12_sum_20 (by decide) (fun c_20 => ?_) (fun c_20 => ?_)
        ·
          try simp only [mIn_0, lgc_lt, lgc_gt, lgc_le, lgc_ge, lgc_eq] at c_20
          try simp only [fl_lt, fl_le, fl_eq, fL_w, fL_lt, fL_le, tm1, tm10k, tm9, tm99, Int32.reduceToInt, Int64.reduceToInt, Int.not_lt, Int.not_le] at c_20
          refine gz_iload_n dX12_sum_37 rfl rfl ?_
          refine gz_if_eq (tgt := 51) dX12_sum_38 (by decide) (fun c_38 => ?_) (fun c_38 => ?_)
          ·
            try simp only [mIn_0, lgc_lt, lgc_gt, lgc_le, lgc_ge, lgc_eq] at c_38
            try simp only [fl_lt, fl_le, fl_eq, fL_w, fL_lt, fL_le, tm1, tm10k, tm9, tm99, Int32.reduceToInt, Int64.reduceToInt, Int.not_lt, Int.not_le] at c_38
            refine gz_iload_n dX12_sum_51 rfl rfl ?_
            refine gz_if_ne (tgt := 2) dX12_sum_52 (by decide) (fun c_52 => ?_) (fun c_52 => ?_)
            ·
              try simp only [mIn_0, lgc_lt, lgc_gt, lgc_le, lgc_ge, lgc_eq] at c_52
              try simp only [fl_lt, fl_le, fl_eq, fL_w, fL_lt, fL_le, tm1, tm10k, tm9, tm99, Int32.reduceToInt, Int64.reduceToInt, Int.not_lt, Int.not_le] at c_52
              refine gz_sub (lv' := [(0, .ref m), (1, .int r_2)]) (by simp [List.lookup]) ?_
              have hAe : rAll F_2 := by
                intro q hq
                obtain ⟨qa0, qb0, qc0, qd0⟩ := hA q hq
                obtain ⟨qa1, qb1, qc1, qd1⟩ := hA_1 q hq
                rw [show F_2 13 = (F 13) from ((hx2.2.2.1 13 (by decide)).trans (hx1.2.2.1 13 (by decide))), show F_2 14 = (F 14) from ((hx2.2.2.1 14 (by decide)).trans (hx1.2.2.1 14 (by decide))), show F_2 15 = (F 15) from ((hx2.2.2.1 15 (by decide)).trans (hx1.2.2.1 15 (by decide))), show F_2 19 = (F_1 19) from (hx2.2.2.1 19 (by decide))]
                refine ⟨?_, ?_, ?_, ?_⟩ <;> (try simp only [updE]) <;> (repeat' split) <;> first | omega | decide
              have e17 : (F_2 17 (Int32.toNatClampNeg (n0 5))).toInt = ((F_1 17) (Int32.toNatClampNeg (n0 5))).toInt := by rw [show F_2 17 = (F_1 17) from (hx2.2.2.1 17 (by decide))]
              have hc9 : (tX (F0 3) (n0 4)) (skR (tX (F0 3) (n0 4)) Q1) = 43 ∨ (tX (F0 3) (n0 4)) (skR (tX (F0 3) (n0 4)) Q1) = 45 ∨ (tX (F0 3) (n0 4)) (skR (tX (F0 3) (n0 4)) Q1) = 42 := by omega
              rw [if_pos hc9] at hSu
              exact ih r_2 (skR (tX (F0 3) (n0 4)) Q1 + 1) V2 m2 _ _ _ _ _ hS_2 (fx_tr (fx_tr hx hx1 (by decide)) hx2 (by decide)) ((by (try rw [(show n_2 21 = (n_2 21) from rfl)]); (try rw [(show n_2 4 = (n0 4) from ((hx2.1 4 (by decide)).trans ((hx1.1 4 (by decide)).trans (hx.1 4 (by decide)))))]); omega)) ((by (try rw [(show n_2 21 = (n_2 21) from rfl)]); omega)) (hAe) ((by omega)) ((by (try rw [(show n_2 22 = (n_1 22) from (hx2.1 22 (by decide)))]); omega)) (⟨(by (try rw [(show n_2 21 = (n_2 21) from rfl)]); omega), by omega, by omega⟩) (hSu) ((by (try rw [(show n_2 21 = (n_2 21) from rfl)]); (try rw [(show n_2 4 = (n0 4) from ((hx2.1 4 (by decide)).trans ((hx1.1 4 (by decide)).trans (hx.1 4 (by decide)))))]); omega))
            ·
              try simp only [mIn_0, lgc_lt, lgc_gt, lgc_le, lgc_ge, lgc_eq] at c_52
              try simp only [fl_lt, fl_le, fl_eq, fL_w, fL_lt, fL_le, tm1, tm10k, tm9, tm99, Int32.reduceToInt, Int64.reduceToInt, Int.not_lt, Int.not_le] at c_52
              refine gz_iconst (v := 1) dX12_sum_55 (by decide) ?_
              have hAe : rAll F_2 := by
                intro q hq
                obtain ⟨qa0, qb0, qc0, qd0⟩ := hA q hq
                obtain ⟨qa1, qb1, qc1, qd1⟩ := hA_1 q hq
                rw [show F_2 13 = (F 13) from ((hx2.2.2.1 13 (by decide)).trans (hx1.2.2.1 13 (by decide))), show F_2 14 = (F 14) from ((hx2.2.2.1 14 (by decide)).trans (hx1.2.2.1 14 (by decide))), show F_2 15 = (F 15) from ((hx2.2.2.1 15 (by decide)).trans (hx1.2.2.1 15 (by decide))), show F_2 19 = (F_1 19) from (hx2.2.2.1 19 (by decide))]
                refine ⟨?_, ?_, ?_, ?_⟩ <;> (try simp only [updE]) <;> (repeat' split) <;> first | omega | decide
              have e17 : (F_2 17 (Int32.toNatClampNeg (n0 5))).toInt = ((F_1 17) (Int32.toNatClampNeg (n0 5))).toInt := by rw [show F_2 17 = (F_1 17) from (hx2.2.2.1 17 (by decide))]
              exact gz_zret rfl (by first | decide | exact nrb (Or.inl (by assumption)) | exact nrb (by assumption) | (refine nrb ?_; assumption)) dX12_sum_56 (Nat.le_of_ble_eq_true rfl) (Nat.le_of_ble_eq_true rfl) (⟨_, rfl, _, _, _, _, hS_2, (fx_tr (fx_tr hx hx1 (by decide)) hx2 (by decide)), (by first | exact Or.inl rfl | exact Or.inr rfl | assumption | (left; assumption)), (by (try rw [(show n_2 21 = (n_2 21) from rfl)]); (try rw [(show n_2 4 = (n0 4) from ((hx2.1 4 (by decide)).trans ((hx1.1 4 (by decide)).trans (hx.1 4 (by decide)))))]); omega), (by (try rw [(show n_2 21 = (n_2 21) from rfl)]); omega), hAe, (by omega), (by omega), (by rw [← hSu, if_neg (show ¬ ((tX (F0 3) (n0 4)) (skR (tX (F0 3) (n0 4)) Q1) = 43 ∨ (tX (F0 3) (n0 4)) (skR (tX (F0 3) (n0 4)) Q1) = 45 ∨ (tX (F0 3) (n0 4)) (skR (tX (F0 3) (n0 4)) Q1) = 42) by omega)]; exact ⟨rfl, (by (try rw [(show n_2 22 = (n_1 22) from (hx2.1 22 (by decide)))]); omega), (by (try rw [(show n_2 21 = (n_2 21) from rfl)]); omega), (by omega)⟩)⟩)
          ·
            try simp only [mIn_0, lgc_lt, lgc_gt, lgc_le, lgc_ge, lgc_eq] at c_38
            try simp only [fl_lt, fl_le, fl_eq, fL_w, fL_lt, fL_le, tm1, tm10k, tm9, tm99, Int32.reduceToInt, Int64.reduceToInt, Int.not_lt, Int.not_le] at c_38
            refine gz_aload_n dX12_sum_41 rfl rfl ?_
            refine gz_dup dX12_sum_42 rfl ?_
            refine mg_272 hS_2 dX12_sum_43 ?_
            refine gz_ev (w := .int (n_2 21)) rfl ?_
            refine gz_iconst (v := 1) dX12_sum_46 (by decide) ?_
            refine gz_iadd dX12_sum_47 ?_
            refine mp_272 hS_2 dX12_sum_48 (fun f_3 hS_3 => ?_)
            refine gz_iload_n dX12_sum_51 rfl rfl ?_
            refine gz_if_ne (tgt := 2) dX12_sum_52 (by decide) (fun c_52 => ?_) (fun c_52 => ?_)
            ·
              try simp only [mIn_0, lgc_lt, lgc_gt, lgc_le, lgc_ge, lgc_eq] at c_52
              try simp only [fl_lt, fl_le, fl_eq, fL_w, fL_lt, fL_le, tm1, tm10k, tm9, tm99, Int32.reduceToInt, Int64.reduceToInt, Int.not_lt, Int.not_le] at c_52
              refine gz_sub (lv' := [(0, .ref m), (1, .int r_2)]) (by simp [List.lookup]) ?_
              have hAe : rAll F_2 := by
                intro q hq
                obtain ⟨qa0, qb0, qc0, qd0⟩ := hA q hq
                obtain ⟨qa1, qb1, qc1, qd1⟩ := hA_1 q hq
                rw [show F_2 13 = (F 13) from ((hx2.2.2.1 13 (by decide)).trans (hx1.2.2.1 13 (by decide))), show F_2 14 = (F 14) from ((hx2.2.2.1 14 (by decide)).trans (hx1.2.2.1 14 (by decide))), show F_2 15 = (F 15) from ((hx2.2.2.1 15 (by decide)).trans (hx1.2.2.1 15 (by decide))), show F_2 19 = (F_1 19) from (hx2.2.2.1 19 (by decide))]
                refine ⟨?_, ?_, ?_, ?_⟩ <;> (try simp only [updE]) <;> (repeat' split) <;> first | omega | decide
              have e17 : (F_2 17 (Int32.toNatClampNeg (n0 5))).toInt = ((F_1 17) (Int32.toNatClampNeg (n0 5))).toInt := by rw [show F_2 17 = (F_1 17) from (hx2.2.2.1 17 (by decide))]
              have hc9 : (tX (F0 3) (n0 4)) (skR (tX (F0 3) (n0 4)) Q1) = 43 ∨ (tX (F0 3) (n0 4)) (skR (tX (F0 3) (n0 4)) Q1) = 45 ∨ (tX (F0 3) (n0 4)) (skR (tX (F0 3) (n0 4)) Q1) = 42 := by omega
              rw [if_pos hc9] at hSu
              exact ih r_2 (skR (tX (F0 3) (n0 4)) Q1 + 1) V2 m2 _ _ _ _ _ hS_3 (fx_n (fx_tr (fx_tr hx hx1 (by decide)) hx2 (by decide)) (by decide)) ((by (try rw [(show (va_up n_2 21 ((n_2 21) + 1)) 21 = ((n_2 21) + 1) from rfl)]); (try rw [(show (va_up n_2 21 ((n_2 21) + 1)) 4 = (n0 4) from ((hx2.1 4 (by decide)).trans ((hx1.1 4 (by decide)).trans (hx.1 4 (by decide)))))]); have q1_ := (T_add (rfl : ((n_2 21)).toInt = ((n_2 21)).toInt) (show (1 : Int32).toInt = 1 from rfl) (by omega)); omega)) ((by (try rw [(show (va_up n_2 21 ((n_2 21) + 1)) 21 = ((n_2 21) + 1) from rfl)]); have q1_ := (T_add (rfl : ((n_2 21)).toInt = ((n_2 21)).toInt) (show (1 : Int32).toInt = 1 from rfl) (by omega)); omega)) (hAe) ((by omega)) ((by (try rw [(show (va_up n_2 21 ((n_2 21) + 1)) 22 = (n_1 22) from (hx2.1 22 (by decide)))]); omega)) (⟨(by (try rw [(show (va_up n_2 21 ((n_2 21) + 1)) 21 = ((n_2 21) + 1) from rfl)]); have q1_ := (T_add (rfl : ((n_2 21)).toInt = ((n_2 21)).toInt) (show (1 : Int32).toInt = 1 from rfl) (by omega)); omega), by omega, by omega⟩) (hSu) ((by (try rw [(show (va_up n_2 21 ((n_2 21) + 1)) 21 = ((n_2 21) + 1) from rfl)]); (try rw [(show (va_up n_2 21 ((n_2 21) + 1)) 4 = (n0 4) from ((hx2.1 4 (by decide)).trans ((hx1.1 4 (by decide)).trans (hx.1 4 (by decide)))))]); have q1_ := (T_add (rfl : ((n_2 21)).toInt = ((n_2 21)).toInt) (show (1 : Int32).toInt = 1 from rfl) (by omega)); omega))
            ·
              try simp only [mIn_0, lgc_lt, lgc_gt, lgc_le, lgc_ge, lgc_eq] at c_52
              try simp only [fl_lt, fl_le, fl_eq, fL_w, fL_lt, fL_le, tm1, tm10k, tm9, tm99, Int32.reduceToInt, Int64.reduceToInt, Int.not_lt, Int.not_le] at c_52
              refine gz_iconst (v := 1) dX12_sum_55 (by decide) ?_
              have hAe : rAll F_2 := by
                intro q hq
                obtain ⟨qa0, qb0, qc0, qd0⟩ := hA q hq
                obtain ⟨qa1, qb1, qc1, qd1⟩ := hA_1 q hq
                rw [show F_2 13 = (F 13) from ((hx2.2.2.1 13 (by decide)).trans (hx1.2.2.1 13 (by decide))), show F_2 14 = (F 14) from ((hx2.2.2.1 14 (by decide)).trans (hx1.2.2.1 14 (by decide))), show F_2 15 = (F 15) from ((hx2.2.2.1 15 (by decide)).trans (hx1.2.2.1 15 (by decide))), show F_2 19 = (F_1 19) from (hx2.2.2.1 19 (by decide))]
                refine ⟨?_, ?_, ?_, ?_⟩ <;> (try simp only [updE]) <;> (repeat' split) <;> first | omega | decide
              have e17 : (F_2 17 (Int32.toNatClampNeg (n0 5))).toInt = ((F_1 17) (Int32.toNatClampNeg (n0 5))).toInt := by rw [show F_2 17 = (F_1 17) from (hx2.2.2.1 17 (by decide))]
              exact gz_zret rfl (by first | decide | exact nrb (Or.inl (by assumption)) | exact nrb (by assumption) | (refine nrb ?_; assumption)) dX12_sum_56 (Nat.le_of_ble_eq_true rfl) (Nat.le_of_ble_eq_true rfl) (⟨_, rfl, _, _, _, _, hS_3, (fx_n (fx_tr (fx_tr hx hx1 (by decide)) hx2 (by decide)) (by decide)), (by first | exact Or.inl rfl | exact Or.inr rfl | assumption | (left; assumption)), (by (try rw [(show (va_up n_2 21 ((n_2 21) + 1)) 21 = ((n_2 21) + 1) from rfl)]); (try rw [(show (va_up n_2 21 ((n_2 21) + 1)) 4 = (n0 4) from ((hx2.1 4 (by decide)).trans ((hx1.1 4 (by decide)).trans (hx.1 4 (by decide)))))]); have q1_ := (T_add (rfl : ((n_2 21)).toInt = ((n_2 21)).toInt) (show (1 : Int32).toInt = 1 from rfl) (by omega)); omega), (by (try rw [(show (va_up n_2 21 ((n_2 21) + 1)) 21 = ((n_2 21) + 1) from rfl)]); have q1_ := (T_add (rfl : ((n_2 21)).toInt = ((n_2 21)).toInt) (show (1 : Int32).toInt = 1 from rfl) (by omega)); omega), hAe, (by omega), (by omega), (by rw [← hSu, if_neg (show ¬ ((tX (F0 3) (n0 4)) (skR (tX (F0 3) (n0 4)) Q1) = 43 ∨ (tX (F0 3) (n0 4)) (skR (tX (F0 3) (n0 4)) Q1) = 45 ∨ (tX (F0 3) (n0 4)) (skR (tX (F0 3) (n0 4)) Q1) = 42) by omega)]; exact ⟨rfl, (by (try rw [(show (va_up n_2 21 ((n_2 21) + 1)) 22 = (n_1 22) from (hx2.1 22 (by decide)))]); omega), (by (try rw [(show (va_up n_2 21 ((n_2 21) + 1)) 21 = ((n_2 21) + 1) from rfl)]); have q1_ := (T_add (rfl : ((n_2 21)).toInt = ((n_2 21)).toInt) (show (1 : Int32).toInt = 1 from rfl) (by omega)); omega), (by omega)⟩)⟩)
        ·
          try simp only [mIn_0, lgc_lt, lgc_gt, lgc_le, lgc_ge, lgc_eq] at c_20
          try simp only [fl_lt, fl_le, fl_eq, fL_w, fL_lt, fL_le, tm1, tm10k, tm9, tm99, Int32.reduceToInt, Int64.reduceToInt, Int.not_lt, Int.not_le] at c_20
          refine gz_iload_n dX12_sum_23 rfl rfl ?_
          refine gz_bipush (v := 45) dX12_sum_24 (by decide) ?_
          refine gz_icmp_eq (tgt := 37) dX12_sum_26 (by decide) (fun c_26 => ?_) (fun c_26 => ?_)
          ·
            try simp only [mIn_0, lgc_lt, lgc_gt, lgc_le, lgc_ge, lgc_eq] at c_26
            try simp only [fl_lt, fl_le, fl_eq, fL_w, fL_lt, fL_le, tm1, tm10k, tm9, tm99, Int32.reduceToInt, Int64.reduceToInt, Int.not_lt, Int.not_le] at c_26
            refine gz_iload_n dX12_sum_37 rfl rfl ?_
            refine gz_if_eq (tgt := 51) dX12_sum_38 (by decide) (fun c_38 => ?_) (fun c_38 => ?_)
            ·
              try simp only [mIn_0, lgc_lt, lgc_gt, lgc_le, lgc_ge, lgc_eq] at c_38
              try simp only [fl_lt, fl_le, fl_eq, fL_w, fL_lt, fL_le, tm1, tm10k, tm9, tm99, Int32.reduceToInt, Int64.reduceToInt, Int.not_lt, Int.not_le] at c_38
              refine gz_iload_n dX12_sum_51 rfl rfl ?_
              refine gz_if_ne (tgt := 2) dX12_sum_52 (by decide) (fun c_52 => ?_) (fun c_52 => ?_)
              ·
                try simp only [mIn_0, lgc_lt, lgc_gt, lgc_le, lgc_ge, lgc_eq] at c_52
                try simp only [fl_lt, fl_le, fl_eq, fL_w, fL_lt, fL_le, tm1, tm10k, tm9, tm99, Int32.reduceToInt, Int64.reduceToInt, Int.not_lt, Int.not_le] at c_52
                refine gz_sub (lv' := [(0, .ref m), (1, .int r_2)]) (by simp [List.lookup]) ?_
                have hAe : rAll F_2 := by
                  intro q hq
                  obtain ⟨qa0, qb0, qc0, qd0⟩ := hA q hq
                  obtain ⟨qa1, qb1, qc1, qd1⟩ := hA_1 q hq
                  rw [show F_2 13 = (F 13) from ((hx2.2.2.1 13 (by decide)).trans (hx1.2.2.1 13 (by decide))), show F_2 14 = (F 14) from ((hx2.2.2.1 14 (by decide)).trans (hx1.2.2.1 14 (by decide))), show F_2 15 = (F 15) from ((hx2.2.2.1 15 (by decide)).trans (hx1.2.2.1 15 (by decide))), show F_2 19 = (F_1 19) from (hx2.2.2.1 19 (by decide))]
                  refine ⟨?_, ?_, ?_, ?_⟩ <;> (try simp only [updE]) <;> (repeat' split) <;> first | omega | decide
                have e17 : (F_2 17 (Int32.toNatClampNeg (n0 5))).toInt = ((F_1 17) (Int32.toNatClampNeg (n0 5))).toInt := by rw [show F_2 17 = (F_1 17) from (hx2.2.2.1 17 (by decide))]
                have hc9 : (tX (F0 3) (n0 4)) (skR (tX (F0 3) (n0 4)) Q1) = 43 ∨ (tX (F0 3) (n0 4)) (skR (tX (F0 3) (n0 4)) Q1) = 45 ∨ (tX (F0 3) (n0 4)) (skR (tX (F0 3) (n0 4)) Q1) = 42 := by omega
                rw [if_pos hc9] at hSu
                exact ih r_2 (skR (tX (F0 3) (n0 4)) Q1 + 1) V2 m2 _ _ _ _ _ hS_2 (fx_tr (fx_tr hx hx1 (by decide)) hx2 (by decide)) ((by (try rw [(show n_2 21 = (n_2 21) from rfl)]); (try rw [(show n_2 4 = (n0 4) from ((hx2.1 4 (by decide)).trans ((hx1.1 4 (by decide)).trans (hx.1 4 (by decide)))))]); omega)) ((by (try rw [(show n_2 21 = (n_2 21) from rfl)]); omega)) (hAe) ((by omega)) ((by (try rw [(show n_2 22 = (n_1 22) from (hx2.1 22 (by decide)))]); omega)) (⟨(by (try rw [(show n_2 21 = (n_2 21) from rfl)]); omega), by omega, by omega⟩) (hSu) ((by (try rw [(show n_2 21 = (n_2 21) from rfl)]); (try rw [(show n_2 4 = (n0 4) from ((hx2.1 4 (by decide)).trans ((hx1.1 4 (by decide)).trans (hx.1 4 (by decide)))))]); omega))
              ·
                try simp only [mIn_0, lgc_lt, lgc_gt, lgc_le, lgc_ge, lgc_eq] at c_52
                try simp only [fl_lt, fl_le, fl_eq, fL_w, fL_lt, fL_le, tm1, tm10k, tm9, tm99, Int32.reduceToInt, Int64.reduceToInt, Int.not_lt, Int.not_le] at c_52
                refine gz_iconst (v := 1) dX12_sum_55 (by decide) ?_
                have hAe : rAll F_2 := by
                  intro q hq
                  obtain ⟨qa0, qb0, qc0, qd0⟩ := hA q hq
                  obtain ⟨qa1, qb1, qc1, qd1⟩ := hA_1 q hq
                  rw [show F_2 13 = (F 13) from ((hx2.2.2.1 13 (by decide)).trans (hx1.2.2.1 13 (by decide))), show F_2 14 = (F 14) from ((hx2.2.2.1 14 (by decide)).trans (hx1.2.2.1 14 (by decide))), show F_2 15 = (F 15) from ((hx2.2.2.1 15 (by decide)).trans (hx1.2.2.1 15 (by decide))), show F_2 19 = (F_1 19) from (hx2.2.2.1 19 (by decide))]
                  refine ⟨?_, ?_, ?_, ?_⟩ <;> (try simp only [updE]) <;> (repeat' split) <;> first | omega | decide
                have e17 : (F_2 17 (Int32.toNatClampNeg (n0 5))).toInt = ((F_1 17) (Int32.toNatClampNeg (n0 5))).toInt := by rw [show F_2 17 = (F_1 17) from (hx2.2.2.1 17 (by decide))]
                exact gz_zret rfl (by first | decide | exact nrb (Or.inl (by assumption)) | exact nrb (by assumption) | (refine nrb ?_; assumption)) dX12_sum_56 (Nat.le_of_ble_eq_true rfl) (Nat.le_of_ble_eq_true rfl) (⟨_, rfl, _, _, _, _, hS_2, (fx_tr (fx_tr hx hx1 (by decide)) hx2 (by decide)), (by first | exact Or.inl rfl | exact Or.inr rfl | assumption | (left; assumption)), (by (try rw [(show n_2 21 = (n_2 21) from rfl)]); (try rw [(show n_2 4 = (n0 4) from ((hx2.1 4 (by decide)).trans ((hx1.1 4 (by decide)).trans (hx.1 4 (by decide)))))]); omega), (by (try rw [(show n_2 21 = (n_2 21) from rfl)]); omega), hAe, (by omega), (by omega), (by rw [← hSu, if_neg (show ¬ ((tX (F0 3) (n0 4)) (skR (tX (F0 3) (n0 4)) Q1) = 43 ∨ (tX (F0 3) (n0 4)) (skR (tX (F0 3) (n0 4)) Q1) = 45 ∨ (tX (F0 3) (n0 4)) (skR (tX (F0 3) (n0 4)) Q1) = 42) by omega)]; exact ⟨rfl, (by (try rw [(show n_2 22 = (n_1 22) from (hx2.1 22 (by decide)))]); omega), (by (try rw [(show n_2 21 = (n_2 21) from rfl)]); omega), (by omega)⟩)⟩)
            ·
              try simp only [mIn_0, lgc_lt, lgc_gt, lgc_le, lgc_ge, lgc_eq] at c_38
              try simp only [fl_lt, fl_le, fl_eq, fL_w, fL_lt, fL_le, tm1, tm10k, tm9, tm99, Int32.reduceToInt, Int64.reduceToInt, Int.not_lt, Int.not_le] at c_38
              refine gz_aload_n dX12_sum_41 rfl rfl ?_
              refine gz_dup dX12_sum_42 rfl ?_
              refine mg_272 hS_2 dX12_sum_43 ?_
              refine gz_ev (w := .int (n_2 21)) rfl ?_
              refine gz_iconst (v := 1) dX12_sum_46 (by decide) ?_
              refine gz_iadd dX12_sum_47 ?_
              refine mp_272 hS_2 dX12_sum_48 (fun f_4 hS_4 => ?_)
              refine gz_iload_n dX12_sum_51 rfl rfl ?_
              refine gz_if_ne (tgt := 2) dX12_sum_52 (by decide) (fun c_52 => ?_) (fun c_52 => ?_)
              ·
                try simp only [mIn_0, lgc_lt, lgc_gt, lgc_le, lgc_ge, lgc_eq] at c_52
                try simp only [fl_lt, fl_le, fl_eq, fL_w, fL_lt, fL_le, tm1, tm10k, tm9, tm99, Int32.reduceToInt, Int64.reduceToInt, Int.not_lt, Int.not_le] at c_52
                refine gz_sub (lv' := [(0, .ref m), (1, .int r_2)]) (by simp [List.lookup]) ?_
                have hAe : rAll F_2 := by
                  intro q hq
                  obtain ⟨qa0, qb0, qc0, qd0⟩ := hA q hq
                  obtain ⟨qa1, qb1, qc1, qd1⟩ := hA_1 q hq
                  rw [show F_2 13 = (F 13) from ((hx2.2.2.1 13 (by decide)).trans (hx1.2.2.1 13 (by decide))), show F_2 14 = (F 14) from ((hx2.2.2.1 14 (by decide)).trans (hx1.2.2.1 14 (by decide))), show F_2 15 = (F 15) from ((hx2.2.2.1 15 (by decide)).trans (hx1.2.2.1 15 (by decide))), show F_2 19 = (F_1 19) from (hx2.2.2.1 19 (by decide))]
                  refine ⟨?_, ?_, ?_, ?_⟩ <;> (try simp only [updE]) <;> (repeat' split) <;> first | omega | decide
                have e17 : (F_2 17 (Int32.toNatClampNeg (n0 5))).toInt = ((F_1 17) (Int32.toNatClampNeg (n0 5))).toInt := by rw [show F_2 17 = (F_1 17) from (hx2.2.2.1 17 (by decide))]
                have hc9 : (tX (F0 3) (n0 4)) (skR (tX (F0 3) (n0 4)) Q1) = 43 ∨ (tX (F0 3) (n0 4)) (skR (tX (F0 3) (n0 4)) Q1) = 45 ∨ (tX (F0 3) (n0 4)) (skR (tX (F0 3) (n0 4)) Q1) = 42 := by omega
                rw [if_pos hc9] at hSu
                exact ih r_2 (skR (tX (F0 3) (n0 4)) Q1 + 1) V2 m2 _ _ _ _ _ hS_4 (fx_n (fx_tr (fx_tr hx hx1 (by decide)) hx2 (by decide)) (by decide)) ((by (try rw [(show (va_up n_2 21 ((n_2 21) + 1)) 21 = ((n_2 21) + 1) from rfl)]); (try rw [(show (va_up n_2 21 ((n_2 21) + 1)) 4 = (n0 4) from ((hx2.1 4 (by decide)).trans ((hx1.1 4 (by decide)).trans (hx.1 4 (by decide)))))]); have q1_ := (T_add (rfl : ((n_2 21)).toInt = ((n_2 21)).toInt) (show (1 : Int32).toInt = 1 from rfl) (by omega)); omega)) ((by (try rw [(show (va_up n_2 21 ((n_2 21) + 1)) 21 = ((n_2 21) + 1) from rfl)]); have q1_ := (T_add (rfl : ((n_2 21)).toInt = ((n_2 21)).toInt) (show (1 : Int32).toInt = 1 from rfl) (by omega)); omega)) (hAe) ((by omega)) ((by (try rw [(show (va_up n_2 21 ((n_2 21) + 1)) 22 = (n_1 22) from (hx2.1 22 (by decide)))]); omega)) (⟨(by (try rw [(show (va_up n_2 21 ((n_2 21) + 1)) 21 = ((n_2 21) + 1) from rfl)]); have q1_ := (T_add (rfl : ((n_2 21)).toInt = ((n_2 21)).toInt) (show (1 : Int32).toInt = 1 from rfl) (by omega)); omega), by omega, by omega⟩) (hSu) ((by (try rw [(show (va_up n_2 21 ((n_2 21) + 1)) 21 = ((n_2 21) + 1) from rfl)]); (try rw [(show (va_up n_2 21 ((n_2 21) + 1)) 4 = (n0 4) from ((hx2.1 4 (by decide)).trans ((hx1.1 4 (by decide)).trans (hx.1 4 (by decide)))))]); have q1_ := (T_add (rfl : ((n_2 21)).toInt = ((n_2 21)).toInt) (show (1 : Int32).toInt = 1 from rfl) (by omega)); omega))
              ·
                try simp only [mIn_0, lgc_lt, lgc_gt, lgc_le, lgc_ge, lgc_eq] at c_52
                try simp only [fl_lt, fl_le, fl_eq, fL_w, fL_lt, fL_le, tm1, tm10k, tm9, tm99, Int32.reduceToInt, Int64.reduceToInt, Int.not_lt, Int.not_le] at c_52
                refine gz_iconst (v := 1) dX12_sum_55 (by decide) ?_
                have hAe : rAll F_2 := by
                  intro q hq
                  obtain ⟨qa0, qb0, qc0, qd0⟩ := hA q hq
                  obtain ⟨qa1, qb1, qc1, qd1⟩ := hA_1 q hq
                  rw [show F_2 13 = (F 13) from ((hx2.2.2.1 13 (by decide)).trans (hx1.2.2.1 13 (by decide))), show F_2 14 = (F 14) from ((hx2.2.2.1 14 (by decide)).trans (hx1.2.2.1 14 (by decide))), show F_2 15 = (F 15) from ((hx2.2.2.1 15 (by decide)).trans (hx1.2.2.1 15 (by decide))), show F_2 19 = (F_1 19) from (hx2.2.2.1 19 (by decide))]
                  refine ⟨?_, ?_, ?_, ?_⟩ <;> (try simp only [updE]) <;> (repeat' split) <;> first | omega | decide
                have e17 : (F_2 17 (Int32.toNatClampNeg (n0 5))).toInt = ((F_1 17) (Int32.toNatClampNeg (n0 5))).toInt := by rw [show F_2 17 = (F_1 17) from (hx2.2.2.1 17 (by decide))]
                exact gz_zret rfl (by first | decide | exact nrb (Or.inl (by assumption)) | exact nrb (by assumption) | (refine nrb ?_; assumption)) dX12_sum_56 (Nat.le_of_ble_eq_true rfl) (Nat.le_of_ble_eq_true rfl) (⟨_, rfl, _, _, _, _, hS_4, (fx_n (fx_tr (fx_tr hx hx1 (by decide)) hx2 (by decide)) (by decide)), (by first | exact Or.inl rfl | exact Or.inr rfl | assumption | (left; assumption)), (by (try rw [(show (va_up n_2 21 ((n_2 21) + 1)) 21 = ((n_2 21) + 1) from rfl)]); (try rw [(show (va_up n_2 21 ((n_2 21) + 1)) 4 = (n0 4) from ((hx2.1 4 (by decide)).trans ((hx1.1 4 (by decide)).trans (hx.1 4 (by decide)))))]); have q1_ := (T_add (rfl : ((n_2 21)).toInt = ((n_2 21)).toInt) (show (1 : Int32).toInt = 1 from rfl) (by omega)); omega), (by (try rw [(show (va_up n_2 21 ((n_2 21) + 1)) 21 = ((n_2 21) + 1) from rfl)]); have q1_ := (T_add (rfl : ((n_2 21)).toInt = ((n_2 21)).toInt) (show (1 : Int32).toInt = 1 from rfl) (by omega)); omega), hAe, (by omega), (by omega), (by rw [← hSu, if_neg (show ¬ ((tX (F0 3) (n0 4)) (skR (tX (F0 3) (n0 4)) Q1) = 43 ∨ (tX (F0 3) (n0 4)) (skR (tX (F0 3) (n0 4)) Q1) = 45 ∨ (tX (F0 3) (n0 4)) (skR (tX (F0 3) (n0 4)) Q1) = 42) by omega)]; exact ⟨rfl, (by (try rw [(show (va_up n_2 21 ((n_2 21) + 1)) 22 = (n_1 22) from (hx2.1 22 (by decide)))]); omega), (by (try rw [(show (va_up n_2 21 ((n_2 21) + 1)) 21 = ((n_2 21) + 1) from rfl)]); have q1_ := (T_add (rfl : ((n_2 21)).toInt = ((n_2 21)).toInt) (show (1 : Int32).toInt = 1 from rfl) (by omega)); omega), (by omega)⟩)⟩)
          ·
            try simp only [mIn_0, lgc_lt, lgc_gt, lgc_le, lgc_ge, lgc_eq] at c_26
            try simp only [fl_lt, fl_le, fl_eq, fL_w, fL_lt, fL_le, tm1, tm10k, tm9, tm99, Int32.reduceToInt, Int64.reduceToInt, Int.not_lt, Int.not_le] at c_26
            refine gz_iload_n dX12_sum_29 rfl rfl ?_
            refine gz_bipush (v := 42) dX12_sum_30 (by decide) ?_
            refine gz_icmp_eq (tgt := 37) dX12_sum_32 (by decide) (fun c_32 => ?_) (fun c_32 => ?_)
            ·
              try simp only [mIn_0, lgc_lt, lgc_gt, lgc_le, lgc_ge, lgc_eq] at c_32
              try simp only [fl_lt, fl_le, fl_eq, fL_w, fL_lt, fL_le, tm1, tm10k, tm9, tm99, Int32.reduceToInt, Int64.reduceToInt, Int.not_lt, Int.not_le] at c_32
              refine gz_iload_n dX12_sum_37 rfl rfl ?_
              refine gz_if_eq (tgt := 51) dX12_sum_38 (by decide) (fun c_38 => ?_) (fun c_38 => ?_)
              ·
                try simp only [mIn_0, lgc_lt, lgc_gt, lgc_le, lgc_ge, lgc_eq] at c_38
                try simp only [fl_lt, fl_le, fl_eq, fL_w, fL_lt, fL_le, tm1, tm10k, tm9, tm99, Int32.reduceToInt, Int64.reduceToInt, Int.not_lt, Int.not_le] at c_38
                refine gz_iload_n dX12_sum_51 rfl rfl ?_
                refine gz_if_ne (tgt := 2) dX12_sum_52 (by decide) (fun c_52 => ?_) (fun c_52 => ?_)
                ·
                  try simp only [mIn_0, lgc_lt, lgc_gt, lgc_le, lgc_ge, lgc_eq] at c_52
                  try simp only [fl_lt, fl_le, fl_eq, fL_w, fL_lt, fL_le, tm1, tm10k, tm9, tm99, Int32.reduceToInt, Int64.reduceToInt, Int.not_lt, Int.not_le] at c_52
                  refine gz_sub (lv' := [(0, .ref m), (1, .int r_2)]) (by simp [List.lookup]) ?_
                  have hAe : rAll F_2 := by
                    intro q hq
                    obtain ⟨qa0, qb0, qc0, qd0⟩ := hA q hq
                    obtain ⟨qa1, qb1, qc1, qd1⟩ := hA_1 q hq
                    rw [show F_2 13 = (F 13) from ((hx2.2.2.1 13 (by decide)).trans (hx1.2.2.1 13 (by decide))), show F_2 14 = (F 14) from ((hx2.2.2.1 14 (by decide)).trans (hx1.2.2.1 14 (by decide))), show F_2 15 = (F 15) from ((hx2.2.2.1 15 (by decide)).trans (hx1.2.2.1 15 (by decide))), show F_2 19 = (F_1 19) from (hx2.2.2.1 19 (by decide))]
                    refine ⟨?_, ?_, ?_, ?_⟩ <;> (try simp only [updE]) <;> (repeat' split) <;> first | omega | decide
                  have e17 : (F_2 17 (Int32.toNatClampNeg (n0 5))).toInt = ((F_1 17) (Int32.toNatClampNeg (n0 5))).toInt := by rw [show F_2 17 = (F_1 17) from (hx2.2.2.1 17 (by decide))]
                  have hc9 : (tX (F0 3) (n0 4)) (skR (tX (F0 3) (n0 4)) Q1) = 43 ∨ (tX (F0 3) (n0 4)) (skR (tX (F0 3) (n0 4)) Q1) = 45 ∨ (tX (F0 3) (n0 4)) (skR (tX (F0 3) (n0 4)) Q1) = 42 := by omega
                  rw [if_pos hc9] at hSu
                  exact ih r_2 (skR (tX (F0 3) (n0 4)) Q1 + 1) V2 m2 _ _ _ _ _ hS_2 (fx_tr (fx_tr hx hx1 (by decide)) hx2 (by decide)) ((by (try rw [(show n_2 21 = (n_2 21) from rfl)]); (try rw [(show n_2 4 = (n0 4) from ((hx2.1 4 (by decide)).trans ((hx1.1 4 (by decide)).trans (hx.1 4 (by decide)))))]); omega)) ((by (try rw [(show n_2 21 = (n_2 21) from rfl)]); omega)) (hAe) ((by omega)) ((by (try rw [(show n_2 22 = (n_1 22) from (hx2.1 22 (by decide)))]); omega)) (⟨(by (try rw [(show n_2 21 = (n_2 21) from rfl)]); omega), by omega, by omega⟩) (hSu) ((by (try rw [(show n_2 21 = (n_2 21) from rfl)]); (try rw [(show n_2 4 = (n0 4) from ((hx2.1 4 (by decide)).trans ((hx1.1 4 (by decide)).trans (hx.1 4 (by decide)))))]); omega))
                ·
                  try simp only [mIn_0, lgc_lt, lgc_gt, lgc_le, lgc_ge, lgc_eq] at c_52
                  try simp only [fl_lt, fl_le, fl_eq, fL_w, fL_lt, fL_le, tm1, tm10k, tm9, tm99, Int32.reduceToInt, Int64.reduceToInt, Int.not_lt, Int.not_le] at c_52
                  refine gz_iconst (v := 1) dX12_sum_55 (by decide) ?_
                  have hAe : rAll F_2 := by
                    intro q hq
                    obtain ⟨qa0, qb0, qc0, qd0⟩ := hA q hq
                    obtain ⟨qa1, qb1, qc1, qd1⟩ := hA_1 q hq
                    rw [show F_2 13 = (F 13) from ((hx2.2.2.1 13 (by decide)).trans (hx1.2.2.1 13 (by decide))), show F_2 14 = (F 14) from ((hx2.2.2.1 14 (by decide)).trans (hx1.2.2.1 14 (by decide))), show F_2 15 = (F 15) from ((hx2.2.2.1 15 (by decide)).trans (hx1.2.2.1 15 (by decide))), show F_2 19 = (F_1 19) from (hx2.2.2.1 19 (by decide))]
                    refine ⟨?_, ?_, ?_, ?_⟩ <;> (try simp only [updE]) <;> (repeat' split) <;> first | omega | decide
                  have e17 : (F_2 17 (Int32.toNatClampNeg (n0 5))).toInt = ((F_1 17) (Int32.toNatClampNeg (n0 5))).toInt := by rw [show F_2 17 = (F_1 17) from (hx2.2.2.1 17 (by decide))]
                  exact gz_zret rfl (by first | decide | exact nrb (Or.inl (by assumption)) | exact nrb (by assumption) | (refine nrb ?_; assumption)) dX12_sum_56 (Nat.le_of_ble_eq_true rfl) (Nat.le_of_ble_eq_true rfl) (⟨_, rfl, _, _, _, _, hS_2, (fx_tr (fx_tr hx hx1 (by decide)) hx2 (by decide)), (by first | exact Or.inl rfl | exact Or.inr rfl | assumption | (left; assumption)), (by (try rw [(show n_2 21 = (n_2 21) from rfl)]); (try rw [(show n_2 4 = (n0 4) from ((hx2.1 4 (by decide)).trans ((hx1.1 4 (by decide)).trans (hx.1 4 (by decide)))))]); omega), (by (try rw [(show n_2 21 = (n_2 21) from rfl)]); omega), hAe, (by omega), (by omega), (by rw [← hSu, if_neg (show ¬ ((tX (F0 3) (n0 4)) (skR (tX (F0 3) (n0 4)) Q1) = 43 ∨ (tX (F0 3) (n0 4)) (skR (tX (F0 3) (n0 4)) Q1) = 45 ∨ (tX (F0 3) (n0 4)) (skR (tX (F0 3) (n0 4)) Q1) = 42) by omega)]; exact ⟨rfl, (by (try rw [(show n_2 22 = (n_1 22) from (hx2.1 22 (by decide)))]); omega), (by (try rw [(show n_2 21 = (n_2 21) from rfl)]); omega), (by omega)⟩)⟩)
              ·
                try simp only [mIn_0, lgc_lt, lgc_gt, lgc_le, lgc_ge, lgc_eq] at c_38
                try simp only [fl_lt, fl_le, fl_eq, fL_w, fL_lt, fL_le, tm1, tm10k, tm9, tm99, Int32.reduceToInt, Int64.reduceToInt, Int.not_lt, Int.not_le] at c_38
                refine gz_aload_n dX12_sum_41 rfl rfl ?_
                refine gz_dup dX12_sum_42 rfl ?_
                refine mg_272 hS_2 dX12_sum_43 ?_
                refine gz_ev (w := .int (n_2 21)) rfl ?_
                refine gz_iconst (v := 1) dX12_sum_46 (by decide) ?_
                refine gz_iadd dX12_sum_47 ?_
                refine mp_272 hS_2 dX12_sum_48 (fun f_5 hS_5 => ?_)
                refine gz_iload_n dX12_sum_51 rfl rfl ?_
                refine gz_if_ne (tgt := 2) dX12_sum_52 (by decide) (fun c_52 => ?_) (fun c_52 => ?_)
                ·
                  try simp only [mIn_0, lgc_lt, lgc_gt, lgc_le, lgc_ge, lgc_eq] at c_52
                  try simp only [fl_lt, fl_le, fl_eq, fL_w, fL_lt, fL_le, tm1, tm10k, tm9, tm99, Int32.reduceToInt, Int64.reduceToInt, Int.not_lt, Int.not_le] at c_52
                  refine gz_sub (lv' := [(0, .ref m), (1, .int r_2)]) (by simp [List.lookup]) ?_
                  have hAe : rAll F_2 := by
                    intro q hq
                    obtain ⟨qa0, qb0, qc0, qd0⟩ := hA q hq
                    obtain ⟨qa1, qb1, qc1, qd1⟩ := hA_1 q hq
                    rw [show F_2 13 = (F 13) from ((hx2.2.2.1 13 (by decide)).trans (hx1.2.2.1 13 (by decide))), show F_2 14 = (F 14) from ((hx2.2.2.1 14 (by decide)).trans (hx1.2.2.1 14 (by decide))), show F_2 15 = (F 15) from ((hx2.2.2.1 15 (by decide)).trans (hx1.2.2.1 15 (by decide))), show F_2 19 = (F_1 19) from (hx2.2.2.1 19 (by decide))]
                    refine ⟨?_, ?_, ?_, ?_⟩ <;> (try simp only [updE]) <;> (repeat' split) <;> first | omega | decide
                  have e17 : (F_2 17 (Int32.toNatClampNeg (n0 5))).toInt = ((F_1 17) (Int32.toNatClampNeg (n0 5))).toInt := by rw [show F_2 17 = (F_1 17) from (hx2.2.2.1 17 (by decide))]
                  have hc9 : (tX (F0 3) (n0 4)) (skR (tX (F0 3) (n0 4)) Q1) = 43 ∨ (tX (F0 3) (n0 4)) (skR (tX (F0 3) (n0 4)) Q1) = 45 ∨ (tX (F0 3) (n0 4)) (skR (tX (F0 3) (n0 4)) Q1) = 42 := by omega
                  rw [if_pos hc9] at hSu
                  exact ih r_2 (skR (tX (F0 3) (n0 4)) Q1 + 1) V2 m2 _ _ _ _ _ hS_5 (fx_n (fx_tr (fx_tr hx hx1 (by decide)) hx2 (by decide)) (by decide)) ((by (try rw [(show (va_up n_2 21 ((n_2 21) + 1)) 21 = ((n_2 21) + 1) from rfl)]); (try rw [(show (va_up n_2 21 ((n_2 21) + 1)) 4 = (n0 4) from ((hx2.1 4 (by decide)).trans ((hx1.1 4 (by decide)).trans (hx.1 4 (by decide)))))]); have q1_ := (T_add (rfl : ((n_2 21)).toInt = ((n_2 21)).toInt) (show (1 : Int32).toInt = 1 from rfl) (by omega)); omega)) ((by (try rw [(show (va_up n_2 21 ((n_2 21) + 1)) 21 = ((n_2 21) + 1) from rfl)]); have q1_ := (T_add (rfl : ((n_2 21)).toInt = ((n_2 21)).toInt) (show (1 : Int32).toInt = 1 from rfl) (by omega)); omega)) (hAe) ((by omega)) ((by (try rw [(show (va_up n_2 21 ((n_2 21) + 1)) 22 = (n_1 22) from (hx2.1 22 (by decide)))]); omega)) (⟨(by (try rw [(show (va_up n_2 21 ((n_2 21) + 1)) 21 = ((n_2 21) + 1) from rfl)]); have q1_ := (T_add (rfl : ((n_2 21)).toInt = ((n_2 21)).toInt) (show (1 : Int32).toInt = 1 from rfl) (by omega)); omega), by omega, by omega⟩) (hSu) ((by (try rw [(show (va_up n_2 21 ((n_2 21) + 1)) 21 = ((n_2 21) + 1) from rfl)]); (try rw [(show (va_up n_2 21 ((n_2 21) + 1)) 4 = (n0 4) from ((hx2.1 4 (by decide)).trans ((hx1.1 4 (by decide)).trans (hx.1 4 (by decide)))))]); have q1_ := (T_add (rfl : ((n_2 21)).toInt = ((n_2 21)).toInt) (show (1 : Int32).toInt = 1 from rfl) (by omega)); omega))
                ·
                  try simp only [mIn_0, lgc_lt, lgc_gt, lgc_le, lgc_ge, lgc_eq] at c_52
                  try simp only [fl_lt, fl_le, fl_eq, fL_w, fL_lt, fL_le, tm1, tm10k, tm9, tm99, Int32.reduceToInt, Int64.reduceToInt, Int.not_lt, Int.not_le] at c_52
                  refine gz_iconst (v := 1) dX12_sum_55 (by decide) ?_
                  have hAe : rAll F_2 := by
                    intro q hq
                    obtain ⟨qa0, qb0, qc0, qd0⟩ := hA q hq
                    obtain ⟨qa1, qb1, qc1, qd1⟩ := hA_1 q hq
                    rw [show F_2 13 = (F 13) from ((hx2.2.2.1 13 (by decide)).trans (hx1.2.2.1 13 (by decide))), show F_2 14 = (F 14) from ((hx2.2.2.1 14 (by decide)).trans (hx1.2.2.1 14 (by decide))), show F_2 15 = (F 15) from ((hx2.2.2.1 15 (by decide)).trans (hx1.2.2.1 15 (by decide))), show F_2 19 = (F_1 19) from (hx2.2.2.1 19 (by decide))]
                    refine ⟨?_, ?_, ?_, ?_⟩ <;> (try simp only [updE]) <;> (repeat' split) <;> first | omega | decide
                  have e17 : (F_2 17 (Int32.toNatClampNeg (n0 5))).toInt = ((F_1 17) (Int32.toNatClampNeg (n0 5))).toInt := by rw [show F_2 17 = (F_1 17) from (hx2.2.2.1 17 (by decide))]
                  exact gz_zret rfl (by first | decide | exact nrb (Or.inl (by assumption)) | exact nrb (by assumption) | (refine nrb ?_; assumption)) dX12_sum_56 (Nat.le_of_ble_eq_true rfl) (Nat.le_of_ble_eq_true rfl) (⟨_, rfl, _, _, _, _, hS_5, (fx_n (fx_tr (fx_tr hx hx1 (by decide)) hx2 (by decide)) (by decide)), (by first | exact Or.inl rfl | exact Or.inr rfl | assumption | (left; assumption)), (by (try rw [(show (va_up n_2 21 ((n_2 21) + 1)) 21 = ((n_2 21) + 1) from rfl)]); (try rw [(show (va_up n_2 21 ((n_2 21) + 1)) 4 = (n0 4) from ((hx2.1 4 (by decide)).trans ((hx1.1 4 (by decide)).trans (hx.1 4 (by decide)))))]); have q1_ := (T_add (rfl : ((n_2 21)).toInt = ((n_2 21)).toInt) (show (1 : Int32).toInt = 1 from rfl) (by omega)); omega), (by (try rw [(show (va_up n_2 21 ((n_2 21) + 1)) 21 = ((n_2 21) + 1) from rfl)]); have q1_ := (T_add (rfl : ((n_2 21)).toInt = ((n_2 21)).toInt) (show (1 : Int32).toInt = 1 from rfl) (by omega)); omega), hAe, (by omega), (by omega), (by rw [← hSu, if_neg (show ¬ ((tX (F0 3) (n0 4)) (skR (tX (F0 3) (n0 4)) Q1) = 43 ∨ (tX (F0 3) (n0 4)) (skR (tX (F0 3) (n0 4)) Q1) = 45 ∨ (tX (F0 3) (n0 4)) (skR (tX (F0 3) (n0 4)) Q1) = 42) by omega)]; exact ⟨rfl, (by (try rw [(show (va_up n_2 21 ((n_2 21) + 1)) 22 = (n_1 22) from (hx2.1 22 (by decide)))]); omega), (by (try rw [(show (va_up n_2 21 ((n_2 21) + 1)) 21 = ((n_2 21) + 1) from rfl)]); have q1_ := (T_add (rfl : ((n_2 21)).toInt = ((n_2 21)).toInt) (show (1 : Int32).toInt = 1 from rfl) (by omega)); omega), (by omega)⟩)⟩)
            ·
              try simp only [mIn_0, lgc_lt, lgc_gt, lgc_le, lgc_ge, lgc_eq] at c_32
              try simp only [fl_lt, fl_le, fl_eq, fL_w, fL_lt, fL_le, tm1, tm10k, tm9, tm99, Int32.reduceToInt, Int64.reduceToInt, Int.not_lt, Int.not_le] at c_32
              refine gz_iconst (v := 0) dX12_sum_35 (by decide) ?_
              refine gz_istore_n (lv' := [(1, .int 0), (0, .ref m)]) dX12_sum_36 rfl (by decide) rfl ?_
              refine gz_iload_n dX12_sum_37 rfl rfl ?_
              refine gz_if_eq (tgt := 51) dX12_sum_38 (by decide) (fun c_38 => ?_) (fun c_38 => ?_)
              ·
                try simp only [mIn_0, lgc_lt, lgc_gt, lgc_le, lgc_ge, lgc_eq] at c_38
                try simp only [fl_lt, fl_le, fl_eq, fL_w, fL_lt, fL_le, tm1, tm10k, tm9, tm99, Int32.reduceToInt, Int64.reduceToInt, Int.not_lt, Int.not_le] at c_38
                refine gz_iload_n dX12_sum_51 rfl rfl ?_
                refine gz_if_ne (tgt := 2) dX12_sum_52 (by decide) (fun c_52 => ?_) (fun c_52 => ?_)
                · exact absurd c_52 (by decide)
                ·
                  try simp only [mIn_0, lgc_lt, lgc_gt, lgc_le, lgc_ge, lgc_eq] at c_52
                  try simp only [fl_lt, fl_le, fl_eq, fL_w, fL_lt, fL_le, tm1, tm10k, tm9, tm99, Int32.reduceToInt, Int64.reduceToInt, Int.not_lt, Int.not_le] at c_52
                  refine gz_iconst (v := 1) dX12_sum_55 (by decide) ?_
                  have hAe : rAll F_2 := by
                    intro q hq
                    obtain ⟨qa0, qb0, qc0, qd0⟩ := hA q hq
                    obtain ⟨qa1, qb1, qc1, qd1⟩ := hA_1 q hq
                    rw [show F_2 13 = (F 13) from ((hx2.2.2.1 13 (by decide)).trans (hx1.2.2.1 13 (by decide))), show F_2 14 = (F 14) from ((hx2.2.2.1 14 (by decide)).trans (hx1.2.2.1 14 (by decide))), show F_2 15 = (F 15) from ((hx2.2.2.1 15 (by decide)).trans (hx1.2.2.1 15 (by decide))), show F_2 19 = (F_1 19) from (hx2.2.2.1 19 (by decide))]
                    refine ⟨?_, ?_, ?_, ?_⟩ <;> (try simp only [updE]) <;> (repeat' split) <;> first | omega | decide
                  have e17 : (F_2 17 (Int32.toNatClampNeg (n0 5))).toInt = ((F_1 17) (Int32.toNatClampNeg (n0 5))).toInt := by rw [show F_2 17 = (F_1 17) from (hx2.2.2.1 17 (by decide))]
                  exact gz_zret rfl (by first | decide | exact nrb (Or.inl (by assumption)) | exact nrb (by assumption) | (refine nrb ?_; assumption)) dX12_sum_56 (Nat.le_of_ble_eq_true rfl) (Nat.le_of_ble_eq_true rfl) (⟨_, rfl, _, _, _, _, hS_2, (fx_tr (fx_tr hx hx1 (by decide)) hx2 (by decide)), (by first | exact Or.inl rfl | exact Or.inr rfl | assumption | (left; assumption)), (by (try rw [(show n_2 21 = (n_2 21) from rfl)]); (try rw [(show n_2 4 = (n0 4) from ((hx2.1 4 (by decide)).trans ((hx1.1 4 (by decide)).trans (hx.1 4 (by decide)))))]); omega), (by (try rw [(show n_2 21 = (n_2 21) from rfl)]); omega), hAe, (by omega), (by omega), (by rw [← hSu, if_neg (show ¬ ((tX (F0 3) (n0 4)) (skR (tX (F0 3) (n0 4)) Q1) = 43 ∨ (tX (F0 3) (n0 4)) (skR (tX (F0 3) (n0 4)) Q1) = 45 ∨ (tX (F0 3) (n0 4)) (skR (tX (F0 3) (n0 4)) Q1) = 42) by omega)]; exact ⟨rfl, (by (try rw [(show n_2 22 = (n_1 22) from (hx2.1 22 (by decide)))]); omega), (by (try rw [(show n_2 21 = (n_2 21) from rfl)]); omega), (by omega)⟩)⟩)
              · exact absurd c_38 (by decide)
      · exact absurd c_7 (by decide)

set_option maxHeartbeats 4000000 in
set_option maxRecDepth 100000 in
theorem k_X12_sumE {l : Launch} {D : va_G} {cy : Nat → ClassId} {b : Nat} {f : gMem} {m : Nat} {a : Nat → Nat} {f0 : gMem} {n : Nat → Int32} {z : Nat → Int64} {F : Nat → Nat → Int32} {G : Nat → Nat → Int64}   (hS : mS cy m a f0 n z F G f) (hT : (0 ≤ (n 21).toInt ∧ (n 21).toInt ≤ (n 4).toInt ∧ (n 4).toInt ≤ 400)) (h5 : 0 ≤ (n 5).toInt ∧ (n 5).toInt < 20) (hA : rAll F) (h0 : 0 ≤ (F 17 (Int32.toNatClampNeg (n 5))).toInt ∧ (F 17 (Int32.toNatClampNeg (n 5))).toInt ≤ 40) (hB : rB F) (h22 : (n 22).toInt = 0) : gC l D cy b yX12_sum cX12_sum 2 (some .boolean) 3 0 0 [.ref m] f (pI fun r f2 => ∃ (n2 : Nat → Int32) (z2 : Nat → Int64) (F2 : Nat → Nat → Int32) (G2 : Nat → Nat → Int64), mS cy m a f0 n2 z2 F2 G2 f2 ∧ fx [21, 22, 23] [] [17, 18, 19, 20] [] n z F G n2 z2 F2 G2 ∧ (r = 0 ∨ r = 1) ∧ (0 ≤ (n2 21).toInt ∧ (n2 21).toInt ≤ (n2 4).toInt ∧ (n2 4).toInt ≤ 400) ∧ (n 21).toInt ≤ (n2 21).toInt ∧ rAll F2 ∧ (F 17 (Int32.toNatClampNeg (n 5))).toInt ≤ (F2 17 (Int32.toNatClampNeg (n 5))).toInt ∧ (F2 17 (Int32.toNatClampNeg (n 5))).toInt ≤ 40 ∧ exM2 (suR (tX (F 3) (n 4)) 41 (n 21).toInt.toNat (F 17 (Int32.toNatClampNeg (n 5))).toInt.toNat) r n2 (F2 17 (Int32.toNatClampNeg (n 5)))) := by
  refine gC_of (by decide) (Nat.le_of_ble_eq_true rfl) ?_
  show gG l _ _ _ D cy b cX12_sum 2 _ RX12 "sum" 0 0 f 0 [(0, .ref m)] []
  refine gz_iconst (v := 0) dX12_sum_0 (by decide) ?_
  refine gz_istore_n (lv' := [(1, .int 0), (0, .ref m)]) dX12_sum_1 rfl (by decide) rfl ?_
  refine gz_sub (lv' := [(0, .ref m), (1, .int 0)]) (by simp [List.lookup]) ?_
  exact l_X12_sumE h5 h0 hB 402 0 ((n 21).toInt.toNat) ((F 17 (Int32.toNatClampNeg (n 5))).toInt.toNat) 41 _ _ _ _ _ hS fx_rf (hT) (Int.le_refl _) (hA) (by omega) (h22) (⟨by omega, by omega, by omega⟩) (rfl) (by omega)
