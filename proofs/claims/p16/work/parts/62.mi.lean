theorem sm_shift {F : Nat → Nat → Int32} {g g2 : Nat → Int32} {k : Nat} : ∀ t, k ≤ t → (∀ j, j < t → g2 j = if k ≤ j then g (j + 1) else g j) → smF F g2 t + szF F (g k).toInt = smF F g (t + 1) := by
  intro t
  induction t with
  | zero => intro h _; have e : k = 0 := by omega
            subst e; unfold smF; unfold smF; omega
  | succ t ih =>
    intro h hj
    by_cases e : k = t + 1
    · have e2 : smF F g2 (t + 1) = smF F g (t + 1) := smF_cg _ (fun i hi => by rw [hj i hi, if_neg (by omega)])
      rw [e2, e]; show _ = szF F (g (t + 1)).toInt + smF F g (t + 1); omega
    · have q := ih (by omega) (fun j hq => hj j (by omega))
      have e3 : g2 t = g (t + 1) := by rw [hj t (by omega), if_pos (by omega)]
      rw [smF.eq_def F g2 (t + 1), smF.eq_def F g (t + 1 + 1)]
      simp only
      rw [e3]; omega

set_option maxHeartbeats 4000000 in
set_option maxRecDepth 100000 in
theorem l_X12_brings {l : Launch} {D : va_G} {cy : Nat → ClassId} {b : Nat} {m : Nat} {a : Nat → Nat} {f0 : gMem} {n0 : Nat → Int32} {z0 : Nat → Int64} {F0 : Nat → Nat → Int32} {G0 : Nat → Nat → Int64}  {x1 : Int32} {y : Int64} {Bd : Nat} (a50 : 0 ≤ (n0 5).toInt ∧ (n0 5).toInt ≤ 20) (bA0 : rAll F0) (bW0 : rW F0 (n0 5).toInt) (hB : Bd ≤ 40) : ∀ (k : Nat) (u : Int64) (Sz Qz : Nat) (n : Nat → Int32) (z : Nat → Int64) (F : Nat → Nat → Int32) (G : Nat → Nat → Int64) (fm : gMem), mS cy m a f0 n z F G fm → fx [43, 72] [] [44, 73] [45, 74] n0 z0 F0 G0 n z F G → (stk F (n 5).toInt (F 44) (n 43).toInt.toNat Sz ∧ 0 ≤ (n 43).toInt) → ((∀ i : Nat, (i : Int) < (n 72).toInt → vS F (n 5).toInt ((F 73) i)) ∧ stk F (n 5).toInt (F 73) (n 72).toInt.toNat Qz) → (0 ≤ (n 72).toInt) → (Sz + Qz ≤ Bd) → (Sz < k) → ((n0 72).toInt ≤ (n 72).toInt) → gG l (gRm 3 0 0) (gQf D b (pL fun r f2 => ∃ (n2 : Nat → Int32) (z2 : Nat → Int64) (F2 : Nat → Nat → Int32) (G2 : Nat → Nat → Int64), mS cy m a f0 n2 z2 F2 G2 f2 ∧ fx [43, 72] [] [44, 73] [45, 74] n0 z0 F0 G0 n2 z2 F2 G2 ∧ ∃ Q2 : Nat, Q2 ≤ Bd ∧ ((∀ i : Nat, (i : Int) < (n2 72).toInt → vS F2 (n2 5).toInt ((F2 73) i)) ∧ stk F2 (n2 5).toInt (F2 73) (n2 72).toInt.toNat Q2) ∧ (n0 72).toInt ≤ (n2 72).toInt) 0 0) gTt D cy b cX12_brings 10 (some .long) RX12 "brings" 0 0 fm 14 [(0, .ref m), (1, .int x1), (2, .long y), (4, .long u)] [] := by
  intro k
  induction k with
  | zero =>
    intro u Sz Qz n z F G fm hS hx hT hQ h72 h40 hk hm
    exfalso; omega
  | succ k ih =>
    intro u Sz Qz n z F G fm hS hx hT hQ h72 h40 hk hm
    have a5 : 0 ≤ (n 5).toInt ∧ (n 5).toInt ≤ 20 := by rw [hx.1 5 (by decide)]; exact a50
    have bA := rAll_w (fun k hk => hx.2.2.1 k ((by decide : ∀ k : Nat, k ∈ wK → k ∉ ([44, 73] : List Nat)) k hk)) bA0
    have bW : rW F (n 5).toInt := by rw [hx.1 5 (by decide)]; exact rW_w (fun k hk => hx.2.2.1 k ((by decide : ∀ k : Nat, k ∈ wK → k ∉ ([44, 73] : List Nat)) k hk)) bW0
    have ql := stk_len bW hT.1
    have ql2 := stk_len bW hQ.2
    refine gz_aload_n dX12_brings_14 rfl rfl ?_
    refine mg_361 hS dX12_brings_15 ?_
    refine gz_if_le (tgt := 207) dX12_brings_18 (by decide) (fun c_18 => ?_) (fun c_18 => ?_)
    ·
      try simp only [mIn_0, lgc_lt, lgc_gt, lgc_le, lgc_ge, lgc_eq] at c_18
      try simp only [fl_lt, fl_le, fl_eq, fL_w, fL_lt, fL_le, tm1, tm10k, tm9, tm99, Int32.reduceToInt, Int64.reduceToInt, Int.not_lt, Int.not_le] at c_18
      refine gz_lload dX12_brings_207 rfl ?_
      exact gz_lret rfl dX12_brings_209 (Nat.le_of_ble_eq_true rfl) (Nat.le_of_ble_eq_true rfl) (⟨_, rfl, _, _, _, _, hS, hx, Qz, by omega, hQ, hm⟩)
    ·
      try simp only [mIn_0, lgc_lt, lgc_gt, lgc_le, lgc_ge, lgc_eq] at c_18
      try simp only [fl_lt, fl_le, fl_eq, fL_w, fL_lt, fL_le, tm1, tm10k, tm9, tm99, Int32.reduceToInt, Int64.reduceToInt, Int.not_lt, Int.not_le] at c_18
      refine gz_aload_n dX12_brings_21 rfl rfl ?_
      refine gz_dup dX12_brings_22 rfl ?_
      refine mg_361 hS dX12_brings_23 ?_
      refine gz_iconst (v := 1) dX12_brings_26 (by decide) ?_
      refine gz_isub dX12_brings_27 ?_
      refine mp_361 hS dX12_brings_28 (fun f_1 hS_1 => ?_)
      refine gz_aload_n dX12_brings_31 rfl rfl ?_
      refine mg_130 hS_1 dX12_brings_32 ?_
      refine gz_aload_n dX12_brings_35 rfl rfl ?_
      refine mg_361 hS_1 dX12_brings_36 ?_
      refine gz_ev (w := .int ((n 43) - 1)) rfl ?_
      refine m_iald 44 hS_1 rfl (N := 64) rfl ((by have q9 := (T_sub (rfl : ((n 43)).toInt = ((n 43)).toInt) (show (1 : Int32).toInt = 1 from rfl) (by omega)); exact vin_T q9 (by omega) (by omega))) dX12_brings_39 ?_
      refine gz_ev (w := .int ((F 44) (Int32.toNatClampNeg ((n 43) - 1)))) rfl ?_
      have t1 : ((n 43) - 1).toInt = (n 43).toInt - 1 := T_sub rfl (show (1 : Int32).toInt = 1 from rfl) (by omega)
      obtain ⟨wv, hwv⟩ : ∃ wv, wv = ((F 44) (Int32.toNatClampNeg ((n 43) - 1))) := ⟨_, rfl⟩
      refine gz_ev (w := .int wv) (congrArg Value.int hwv.symm) ?_
      obtain ⟨hv, S2, hT3, hS3⟩ := stk_pop (t := ((n 43) - 1).toInt.toNat) (show stk F (n 5).toInt (F 44) (((n 43) - 1).toInt.toNat + 1) Sz by rw [show ((n 43) - 1).toInt.toNat + 1 = (n 43).toInt.toNat by omega]; exact hT.1)
      have hv2 : vW F (n 5).toInt wv.toInt := by rw [hwv]; exact hv
      have hS4 : S2 + szF F wv.toInt = Sz := by rw [hwv]; exact hS3
      have qv := vW_lt bW a5 hv2
      have qz := szF_pos bW hv2
      have qk : 0 ≤ (F 7 (Int32.toNatClampNeg wv)).toInt ∧ (F 7 (Int32.toNatClampNeg wv)).toInt ≤ 10 := knd_ok bW hv2
      refine gz_istore (lv' := [(6, .int wv), (0, .ref m), (1, .int x1), (2, .long y), (4, .long u)]) dX12_brings_40 (by decide) rfl ?_
      refine gz_aload_n dX12_brings_42 rfl rfl ?_
      refine mg_133 hS_1 dX12_brings_43 ?_
      refine gz_aload_n dX12_brings_46 rfl rfl ?_
      refine mg_361 hS_1 dX12_brings_47 ?_
      refine gz_ev (w := .int ((n 43) - 1)) rfl ?_
      refine m_lald 45 hS_1 rfl (N := 64) rfl ((by have q9 := (T_sub (rfl : ((n 43)).toInt = ((n 43)).toInt) (show (1 : Int32).toInt = 1 from rfl) (by omega)); exact vin_T q9 (by omega) (by omega))) dX12_brings_50 ?_
      refine gz_ev (w := .long ((G 45) (Int32.toNatClampNeg ((n 43) - 1)))) rfl ?_
      refine gz_lstore (lv' := [(7, .long ((G 45) (Int32.toNatClampNeg ((n 43) - 1)))), (6, .int wv), (0, .ref m), (1, .int x1), (2, .long y), (4, .long u)]) dX12_brings_51 (by decide) rfl ?_
      refine gz_aload_n dX12_brings_53 rfl rfl ?_
      refine gz_iload dX12_brings_54 rfl ?_
      refine scX12_374 (k_X12_isLapsed (x1 := wv) hS_1 a5 bA bW hv2) hS_1.1 ⟨(Nat.le_of_ble_eq_true rfl), (Nat.le_of_ble_eq_true rfl)⟩ ⟨(Nat.le_of_ble_eq_true rfl), (Nat.le_of_ble_eq_true rfl)⟩ rfl rfl (Nat.le_of_ble_eq_true rfl) dX12_brings_56 ?_
      rintro r_2 f9 ⟨hb_2, y9⟩; rw [y9]
      refine gz_if_ne (tgt := 14) dX12_brings_59 (by decide) (fun c_59 => ?_) (fun c_59 => ?_)
      ·
        try simp only [mIn_0, lgc_lt, lgc_gt, lgc_le, lgc_ge, lgc_eq] at c_59
        try simp only [fl_lt, fl_le, fl_eq, fL_w, fL_lt, fL_le, tm1, tm10k, tm9, tm99, Int32.reduceToInt, Int64.reduceToInt, Int.not_lt, Int.not_le] at c_59
        refine gz_sub (lv' := [(0, .ref m), (1, .int x1), (2, .long y), (4, .long u)]) (by simp [List.lookup]) ?_
        have hxx : fx [43, 72] [] [44, 73] [45, 74] n z F G (va_up n 43 ((n 43) - 1)) z F G := (fx_n fx_rf (by decide))
        have e43 : ((va_up n 43 ((n 43) - 1)) 43).toInt.toNat = ((n 43) - 1).toInt.toNat + 0 := (by (try rw [(show (va_up n 43 ((n 43) - 1)) 43 = ((n 43) - 1) from rfl)]); have q1_ := (T_sub (rfl : ((n 43)).toInt = ((n 43)).toInt) (show (1 : Int32).toInt = 1 from rfl) (by omega)); omega)
        have e43b : 0 ≤ ((va_up n 43 ((n 43) - 1)) 43).toInt := (by (try rw [(show (va_up n 43 ((n 43) - 1)) 43 = ((n 43) - 1) from rfl)]); have q1_ := (T_sub (rfl : ((n 43)).toInt = ((n 43)).toInt) (show (1 : Int32).toInt = 1 from rfl) (by omega)); omega)
        have e5 : (va_up n 43 ((n 43) - 1)) 5 = n 5 := hxx.1 5 (by decide)
        have e44 : F 44 = (F 44) := (show F 44 = (F 44) from rfl).trans rfl
        have hT9 : stk F ((va_up n 43 ((n 43) - 1)) 5).toInt (F 44) ((va_up n 43 ((n 43) - 1)) 43).toInt.toNat S2 := by rw [e43, e5, e44]; exact stk_w (fun k hk => hxx.2.2.1 k ((by decide : ∀ k : Nat, k ∈ wK → k ∉ ([44, 73] : List Nat)) k hk)) hT3
        have e72 : (va_up n 43 ((n 43) - 1)) 72 = n 72 := rfl
        have e73 : F 73 = F 73 := rfl
        have hQ9 : (∀ i : Nat, (i : Int) < ((va_up n 43 ((n 43) - 1)) 72).toInt → vS F ((va_up n 43 ((n 43) - 1)) 5).toInt ((F 73) i)) ∧ stk F ((va_up n 43 ((n 43) - 1)) 5).toInt (F 73) ((va_up n 43 ((n 43) - 1)) 72).toInt.toNat Qz := by rw [e72, e73, e5]; exact ⟨fun i hi => vS_cg (hxx.2.2.1 6 (by decide)) (hxx.2.2.1 7 (by decide)) (hQ.1 i hi), stk_w (fun k hk => hxx.2.2.1 k ((by decide : ∀ k : Nat, k ∈ wK → k ∉ ([44, 73] : List Nat)) k hk)) hQ.2⟩
        exact ih u S2 Qz _ _ _ _ _ hS_1 (fx_n hx (by decide)) (⟨hT9, e43b⟩) (hQ9) (by rw [e72]; omega) (by omega) (by omega) (by rw [e72]; omega)
      ·
        try simp only [mIn_0, lgc_lt, lgc_gt, lgc_le, lgc_ge, lgc_eq] at c_59
        try simp only [fl_lt, fl_le, fl_eq, fL_w, fL_lt, fL_le, tm1, tm10k, tm9, tm99, Int32.reduceToInt, Int64.reduceToInt, Int.not_lt, Int.not_le] at c_59
        refine gz_aload_n dX12_brings_62 rfl rfl ?_
        refine mg_20 hS_1 dX12_brings_63 ?_
        refine gz_iload dX12_brings_66 rfl ?_
        refine m_iald 7 hS_1 rfl (N := 880) rfl ((by exact vin_T (rfl : (wv).toInt = (wv).toInt) (by omega) (by omega))) dX12_brings_68 ?_
        refine gz_ev (w := .int ((F 7) (Int32.toNatClampNeg wv))) rfl ?_
        refine gz_if_ne (tgt := 75) dX12_brings_69 (by decide) (fun c_69 => ?_) (fun c_69 => ?_)
        ·
          try simp only [mIn_0, lgc_lt, lgc_gt, lgc_le, lgc_ge, lgc_eq] at c_69
          try simp only [fl_lt, fl_le, fl_eq, fL_w, fL_lt, fL_le, tm1, tm10k, tm9, tm99, Int32.reduceToInt, Int64.reduceToInt, Int.not_lt, Int.not_le] at c_69
          refine gz_aload_n dX12_brings_75 rfl rfl ?_
          refine gz_iload dX12_brings_76 rfl ?_
          refine scX12_377 (k_X12_leadsTo (x1 := wv) hS_1 a5 bA bW hv2) hS_1.1 ⟨(Nat.le_of_ble_eq_true rfl), (Nat.le_of_ble_eq_true rfl)⟩ ⟨(Nat.le_of_ble_eq_true rfl), (Nat.le_of_ble_eq_true rfl)⟩ rfl rfl (Nat.le_of_ble_eq_true rfl) dX12_brings_78 ?_
          rintro r_3 f9 ⟨hb_3, y9⟩; rw [y9]
          refine gz_istore (lv' := [(9, .int r_3), (7, .long ((G 45) (Int32.toNatClampNeg ((n 43) - 1)))), (6, .int wv), (0, .ref m), (1, .int x1), (2, .long y), (4, .long u)]) dX12_brings_81 (by decide) rfl ?_
          refine gz_iload dX12_brings_83 rfl ?_
          refine gz_if_lt (tgt := 105) dX12_brings_85 (by decide) (fun c_85 => ?_) (fun c_85 => ?_)
          ·
            try simp only [mIn_0, lgc_lt, lgc_gt, lgc_le, lgc_ge, lgc_eq] at c_85
            try simp only [fl_lt, fl_le, fl_eq, fL_w, fL_lt, fL_le, tm1, tm10k, tm9, tm99, Int32.reduceToInt, Int64.reduceToInt, Int.not_lt, Int.not_le] at c_85
            refine gz_aload_n dX12_brings_105 rfl rfl ?_
            refine mg_20 hS_1 dX12_brings_106 ?_
            refine gz_iload dX12_brings_109 rfl ?_
            refine m_iald 7 hS_1 rfl (N := 880) rfl ((by exact vin_T (rfl : (wv).toInt = (wv).toInt) (by omega) (by omega))) dX12_brings_111 ?_
            refine gz_ev (w := .int ((F 7) (Int32.toNatClampNeg wv))) rfl ?_
            refine gz_iconst (v := 1) dX12_brings_112 (by decide) ?_
            refine gz_icmp_ne (tgt := 132) dX12_brings_113 (by decide) (fun c_113 => ?_) (fun c_113 => ?_)
            ·
              try simp only [mIn_0, lgc_lt, lgc_gt, lgc_le, lgc_ge, lgc_eq] at c_113
              try simp only [fl_lt, fl_le, fl_eq, fL_w, fL_lt, fL_le, tm1, tm10k, tm9, tm99, Int32.reduceToInt, Int64.reduceToInt, Int.not_lt, Int.not_le] at c_113
              refine gz_aload_n dX12_brings_132 rfl rfl ?_
              refine mg_20 hS_1 dX12_brings_133 ?_
              refine gz_iload dX12_brings_136 rfl ?_
              refine m_iald 7 hS_1 rfl (N := 880) rfl ((by exact vin_T (rfl : (wv).toInt = (wv).toInt) (by omega) (by omega))) dX12_brings_138 ?_
              refine gz_ev (w := .int ((F 7) (Int32.toNatClampNeg wv))) rfl ?_
              refine gz_iconst (v := 3) dX12_brings_139 (by decide) ?_
              refine gz_icmp_ne (tgt := 172) dX12_brings_140 (by decide) (fun c_140 => ?_) (fun c_140 => ?_)
              ·
                try simp only [mIn_0, lgc_lt, lgc_gt, lgc_le, lgc_ge, lgc_eq] at c_140
                try simp only [fl_lt, fl_le, fl_eq, fL_w, fL_lt, fL_le, tm1, tm10k, tm9, tm99, Int32.reduceToInt, Int64.reduceToInt, Int.not_lt, Int.not_le] at c_140
                refine gz_aload_n dX12_brings_172 rfl rfl ?_
                refine mg_201 hS_1 dX12_brings_173 ?_
                refine gz_aload_n dX12_brings_176 rfl rfl ?_
                refine mg_495 hS_1 dX12_brings_177 ?_
                refine gz_ev (w := .int (n 72)) rfl ?_
                refine gz_iload dX12_brings_180 rfl ?_
                refine m_iast 73 hS_1 rfl (N := 64) rfl ((by exact vin_T (rfl : ((n 72)).toInt = ((n 72)).toInt) (by omega) (by omega))) dX12_brings_182 (fun f_4 hS_4q => ?_)
                have hS_4 : mS cy m a f0 (va_up n 43 ((n 43) - 1)) z (va_up F 73 (upd (F 73) (Int32.toNatClampNeg (n 72)) wv)) G f_4 := hS_4q
                refine gz_aload_n dX12_brings_183 rfl rfl ?_
                refine mg_204 hS_4 dX12_brings_184 ?_
                refine gz_aload_n dX12_brings_187 rfl rfl ?_
                refine mg_495 hS_4 dX12_brings_188 ?_
                refine gz_ev (w := .int (n 72)) rfl ?_
                refine gz_lload dX12_brings_191 rfl ?_
                refine m_last 74 hS_4 rfl (N := 64) rfl ((by exact vin_T (rfl : ((n 72)).toInt = ((n 72)).toInt) (by omega) (by omega))) dX12_brings_193 (fun f_5 hS_5q => ?_)
                have hS_5 : mS cy m a f0 (va_up n 43 ((n 43) - 1)) z (va_up F 73 (upd (F 73) (Int32.toNatClampNeg (n 72)) wv)) (va_up G 74 (vp_updL (G 74) (Int32.toNatClampNeg (n 72)) ((G 45) (Int32.toNatClampNeg ((n 43) - 1))))) f_5 := hS_5q
                refine gz_aload_n dX12_brings_194 rfl rfl ?_
                refine gz_dup dX12_brings_195 rfl ?_
                refine mg_495 hS_5 dX12_brings_196 ?_
                refine gz_ev (w := .int (n 72)) rfl ?_
                refine gz_iconst (v := 1) dX12_brings_199 (by decide) ?_
                refine gz_iadd dX12_brings_200 ?_
                refine mp_495 hS_5 dX12_brings_201 (fun f_6 hS_6 => ?_)
                refine gz_goto (tgt := 14) dX12_brings_204 (by decide) ?_
                refine gz_sub (lv' := [(0, .ref m), (1, .int x1), (2, .long y), (4, .long u)]) (by simp [List.lookup]) ?_
                have hxx : fx [43, 72] [] [44, 73] [45, 74] n z F G (va_up (va_up n 43 ((n 43) - 1)) 72 ((n 72) + 1)) z (va_up F 73 (upd (F 73) (Int32.toNatClampNeg (n 72)) wv)) (va_up G 74 (vp_updL (G 74) (Int32.toNatClampNeg (n 72)) ((G 45) (Int32.toNatClampNeg ((n 43) - 1))))) := (fx_n (fx_G (fx_F (fx_n fx_rf (by decide)) (by decide)) (by decide)) (by decide))
                have e43 : ((va_up (va_up n 43 ((n 43) - 1)) 72 ((n 72) + 1)) 43).toInt.toNat = ((n 43) - 1).toInt.toNat + 0 := (by (try rw [(show (va_up (va_up n 43 ((n 43) - 1)) 72 ((n 72) + 1)) 43 = ((n 43) - 1) from rfl)]); have q1_ := (T_sub (rfl : ((n 43)).toInt = ((n 43)).toInt) (show (1 : Int32).toInt = 1 from rfl) (by omega)); omega)
                have e43b : 0 ≤ ((va_up (va_up n 43 ((n 43) - 1)) 72 ((n 72) + 1)) 43).toInt := (by (try rw [(show (va_up (va_up n 43 ((n 43) - 1)) 72 ((n 72) + 1)) 43 = ((n 43) - 1) from rfl)]); have q1_ := (T_sub (rfl : ((n 43)).toInt = ((n 43)).toInt) (show (1 : Int32).toInt = 1 from rfl) (by omega)); omega)
                have e5 : (va_up (va_up n 43 ((n 43) - 1)) 72 ((n 72) + 1)) 5 = n 5 := hxx.1 5 (by decide)
                have e44 : (va_up F 73 (upd (F 73) (Int32.toNatClampNeg (n 72)) wv)) 44 = (F 44) := (show (va_up F 73 (upd (F 73) (Int32.toNatClampNeg (n 72)) wv)) 44 = (F 44) from rfl).trans rfl
                have hT9 : stk (va_up F 73 (upd (F 73) (Int32.toNatClampNeg (n 72)) wv)) ((va_up (va_up n 43 ((n 43) - 1)) 72 ((n 72) + 1)) 5).toInt ((va_up F 73 (upd (F 73) (Int32.toNatClampNeg (n 72)) wv)) 44) ((va_up (va_up n 43 ((n 43) - 1)) 72 ((n 72) + 1)) 43).toInt.toNat S2 := by rw [e43, e5, e44]; exact stk_w (fun k hk => hxx.2.2.1 k ((by decide : ∀ k : Nat, k ∈ wK → k ∉ ([44, 73] : List Nat)) k hk)) hT3
                have e72 : ((va_up (va_up n 43 ((n 43) - 1)) 72 ((n 72) + 1)) 72).toInt = (n 72).toInt + 1 := (by (try rw [(show (va_up (va_up n 43 ((n 43) - 1)) 72 ((n 72) + 1)) 72 = ((n 72) + 1) from rfl)]); have q1_ := (T_add (rfl : ((n 72)).toInt = ((n 72)).toInt) (show (1 : Int32).toInt = 1 from rfl) (by omega)); omega)
                have qcl : Int32.toNatClampNeg (n 72) = (n 72).toInt.toNat := rfl
                have hvs : vS F (n 5).toInt wv := ⟨hv2, (by show (F 7 (Int32.toNatClampNeg wv)).toInt = 4 ∨ (F 7 (Int32.toNatClampNeg wv)).toInt = 6 ∨ (F 7 (Int32.toNatClampNeg wv)).toInt = 7; omega)⟩
                have hQ9 : (∀ i : Nat, (i : Int) < ((va_up (va_up n 43 ((n 43) - 1)) 72 ((n 72) + 1)) 72).toInt → vS (va_up F 73 (upd (F 73) (Int32.toNatClampNeg (n 72)) wv)) ((va_up (va_up n 43 ((n 43) - 1)) 72 ((n 72) + 1)) 5).toInt (((va_up F 73 (upd (F 73) (Int32.toNatClampNeg (n 72)) wv)) 73) i)) ∧ stk (va_up F 73 (upd (F 73) (Int32.toNatClampNeg (n 72)) wv)) ((va_up (va_up n 43 ((n 43) - 1)) 72 ((n 72) + 1)) 5).toInt ((va_up F 73 (upd (F 73) (Int32.toNatClampNeg (n 72)) wv)) 73) ((va_up (va_up n 43 ((n 43) - 1)) 72 ((n 72) + 1)) 72).toInt.toNat (Qz + szF F wv.toInt) := by
                  refine ⟨fun i hi => ?_, ?_⟩
                  · show vS _ _ (upd (F 73) (Int32.toNatClampNeg (n 72)) wv i)
                    rw [updE, e5]
                    by_cases e : i = Int32.toNatClampNeg (n 72)
                    · rw [if_pos e]; exact vS_cg (hxx.2.2.1 6 (by decide)) (hxx.2.2.1 7 (by decide)) hvs
                    · rw [if_neg e]; exact vS_cg (hxx.2.2.1 6 (by decide)) (hxx.2.2.1 7 (by decide)) (hQ.1 i (by omega))
                  · rw [show ((va_up (va_up n 43 ((n 43) - 1)) 72 ((n 72) + 1)) 72).toInt.toNat = (n 72).toInt.toNat + 1 by omega, e5]; show stk _ _ (upd (F 73) (n 72).toInt.toNat wv) _ _; exact stk_w (fun k hk => hxx.2.2.1 k ((by decide : ∀ k : Nat, k ∈ wK → k ∉ ([44, 73] : List Nat)) k hk)) (stk_push hQ.2 hv2)
                exact ih u S2 (Qz + szF F wv.toInt) _ _ _ _ _ hS_6 (fx_n (fx_G (fx_F (fx_n hx (by decide)) (by decide)) (by decide)) (by decide)) (⟨hT9, e43b⟩) (hQ9) (by rw [e72]; omega) (by omega) (by omega) (by rw [e72]; omega)
              ·
                try simp only [mIn_0, lgc_lt, lgc_gt, lgc_le, lgc_ge, lgc_eq] at c_140
                try simp only [fl_lt, fl_le, fl_eq, fL_w, fL_lt, fL_le, tm1, tm10k, tm9, tm99, Int32.reduceToInt, Int64.reduceToInt, Int.not_lt, Int.not_le] at c_140
                refine gz_aload_n dX12_brings_143 rfl rfl ?_
                refine gz_aload_n dX12_brings_144 rfl rfl ?_
                refine mg_35 hS_1 dX12_brings_145 ?_
                refine gz_iload dX12_brings_148 rfl ?_
                refine m_iald 12 hS_1 rfl (N := 880) rfl ((by exact vin_T (rfl : (wv).toInt = (wv).toInt) (by omega) (by omega))) dX12_brings_150 ?_
                refine gz_ev (w := .int ((F 12) (Int32.toNatClampNeg wv))) rfl ?_
                refine gz_lload dX12_brings_151 rfl ?_
                have q_1 : vW F (n 5).toInt (F 11 (Int32.toNatClampNeg wv)).toInt ∧ szF F (F 11 (Int32.toNatClampNeg wv)).toInt + 1 ≤ szF F wv.toInt := one_ok bW hv2 (show 2 ≤ (F 7 (Int32.toNatClampNeg wv)).toInt by omega)
                have q_2 : vW F (n 5).toInt (F 12 (Int32.toNatClampNeg wv)).toInt ∧ szF F (F 11 (Int32.toNatClampNeg wv)).toInt + szF F (F 12 (Int32.toNatClampNeg wv)).toInt + 1 ≤ szF F wv.toInt := two_ok bW hv2 (show 3 ≤ (F 7 (Int32.toNatClampNeg wv)).toInt ∧ (F 7 (Int32.toNatClampNeg wv)).toInt ≤ 5 by omega)
                refine scX12_370 (k_X12_comes (x1 := ((F 12) (Int32.toNatClampNeg wv))) hS_1 (by (try rw [(show (va_up n 43 ((n 43) - 1)) 43 = ((n 43) - 1) from rfl)]); have q1_ := (T_sub (rfl : ((n 43)).toInt = ((n 43)).toInt) (show (1 : Int32).toInt = 1 from rfl) (by omega)); omega)) hS_1.1 ⟨(Nat.le_of_ble_eq_true rfl), (Nat.le_of_ble_eq_true rfl)⟩ ⟨(Nat.le_of_ble_eq_true rfl), (Nat.le_of_ble_eq_true rfl)⟩ rfl rfl (Nat.le_of_ble_eq_true rfl) dX12_brings_153 ?_
                rintro f_7 ⟨n_7, z_7, F_7, G_7, hS_7, hx7, h43_7, h44_7⟩
                refine gz_aload_n dX12_brings_156 rfl rfl ?_
                refine gz_aload_n dX12_brings_157 rfl rfl ?_
                refine mg_32 hS_7 dX12_brings_158 ?_
                refine gz_iload dX12_brings_161 rfl ?_
                refine m_iald 11 hS_7 rfl (N := 880) rfl ((by exact vin_T (rfl : (wv).toInt = (wv).toInt) (by omega) (by omega))) dX12_brings_163 ?_
                refine gz_ev (w := .int ((F 11) (Int32.toNatClampNeg wv))) (congrArg Value.int (congrFun (hx7.2.2.1 11 (by decide)) _)) ?_
                refine gz_lload dX12_brings_164 rfl ?_
                refine scX12_370 (k_X12_comes (x1 := ((F 11) (Int32.toNatClampNeg wv))) hS_7 (by (try rw [(show n_7 43 = (((n 43) - 1) + 1) from h43_7)]); have q1_ := (T_add (T_sub (rfl : ((n 43)).toInt = ((n 43)).toInt) (show (1 : Int32).toInt = 1 from rfl) (by omega)) (show (1 : Int32).toInt = 1 from rfl) (by omega)); omega)) hS_7.1 ⟨(Nat.le_of_ble_eq_true rfl), (Nat.le_of_ble_eq_true rfl)⟩ ⟨(Nat.le_of_ble_eq_true rfl), (Nat.le_of_ble_eq_true rfl)⟩ rfl rfl (Nat.le_of_ble_eq_true rfl) dX12_brings_166 ?_
                rintro f_8 ⟨n_8, z_8, F_8, G_8, hS_8, hx8, h43_8, h44_8⟩
                rw [(show F_7 44 = (upd (F 44) (Int32.toNatClampNeg ((n 43) - 1)) ((F 12) (Int32.toNatClampNeg wv))) from h44_7)] at h44_8
                rw [(show n_7 43 = (((n 43) - 1) + 1) from h43_7)] at h44_8
                refine gz_goto (tgt := 204) dX12_brings_169 (by decide) ?_
                refine gz_goto (tgt := 14) dX12_brings_204 (by decide) ?_
                refine gz_sub (lv' := [(0, .ref m), (1, .int x1), (2, .long y), (4, .long u)]) (by simp [List.lookup]) ?_
                have hxx : fx [43, 72] [] [44, 73] [45, 74] n z F G n_8 z_8 F_8 G_8 := (fx_tr (fx_tr (fx_n fx_rf (by decide)) hx7 (by decide)) hx8 (by decide))
                have hp0 := stk_push (x := ((F 12) (Int32.toNatClampNeg wv))) hT3 q_2.1
                have hp1 := stk_push (x := ((F 11) (Int32.toNatClampNeg wv))) hp0 q_1.1
                have e43 : (n_8 43).toInt.toNat = ((n 43) - 1).toInt.toNat + 2 := (by (try rw [(show n_8 43 = ((((n 43) - 1) + 1) + 1) from (h43_8.trans (congrArg (· + 1) h43_7)))]); have q1_ := (T_add (T_add (T_sub (rfl : ((n 43)).toInt = ((n 43)).toInt) (show (1 : Int32).toInt = 1 from rfl) (by omega)) (show (1 : Int32).toInt = 1 from rfl) (by omega)) (show (1 : Int32).toInt = 1 from rfl) (by omega)); omega)
                have e43b : 0 ≤ (n_8 43).toInt := (by (try rw [(show n_8 43 = ((((n 43) - 1) + 1) + 1) from (h43_8.trans (congrArg (· + 1) h43_7)))]); have q1_ := (T_add (T_add (T_sub (rfl : ((n 43)).toInt = ((n 43)).toInt) (show (1 : Int32).toInt = 1 from rfl) (by omega)) (show (1 : Int32).toInt = 1 from rfl) (by omega)) (show (1 : Int32).toInt = 1 from rfl) (by omega)); omega)
                have e5 : n_8 5 = n 5 := hxx.1 5 (by decide)
                have e44 : F_8 44 = (upd (upd (F 44) (((n 43) - 1).toInt.toNat) ((F 12) (Int32.toNatClampNeg wv))) (((n 43) - 1).toInt.toNat + 1) ((F 11) (Int32.toNatClampNeg wv))) := (show F_8 44 = (upd (upd (F 44) (Int32.toNatClampNeg ((n 43) - 1)) ((F 12) (Int32.toNatClampNeg wv))) (Int32.toNatClampNeg (((n 43) - 1) + 1)) ((F 11) (Int32.toNatClampNeg wv))) from h44_8).trans (by rw [show Int32.toNatClampNeg (((n 43) - 1) + 1) = ((n 43) - 1).toInt.toNat + 1 from by have q := T_add (rfl : ((n 43) - 1).toInt = ((n 43) - 1).toInt) (show (1 : Int32).toInt = 1 from rfl) (by omega); rw [clN, q]; omega]; rfl)
                have hT9 : stk F_8 (n_8 5).toInt (F_8 44) (n_8 43).toInt.toNat ((S2 + szF F ((F 12) (Int32.toNatClampNeg wv)).toInt) + szF F ((F 11) (Int32.toNatClampNeg wv)).toInt) := by rw [e43, e5, e44]; exact stk_w (fun k hk => hxx.2.2.1 k ((by decide : ∀ k : Nat, k ∈ wK → k ∉ ([44, 73] : List Nat)) k hk)) hp1
                have e72 : n_8 72 = n 72 := ((hx8.1 72 (by decide)).trans (hx7.1 72 (by decide)))
                have e73 : F_8 73 = F 73 := ((hx8.2.2.1 73 (by decide)).trans (hx7.2.2.1 73 (by decide)))
                have hQ9 : (∀ i : Nat, (i : Int) < (n_8 72).toInt → vS F_8 (n_8 5).toInt ((F_8 73) i)) ∧ stk F_8 (n_8 5).toInt (F_8 73) (n_8 72).toInt.toNat Qz := by rw [e72, e73, e5]; exact ⟨fun i hi => vS_cg (hxx.2.2.1 6 (by decide)) (hxx.2.2.1 7 (by decide)) (hQ.1 i hi), stk_w (fun k hk => hxx.2.2.1 k ((by decide : ∀ k : Nat, k ∈ wK → k ∉ ([44, 73] : List Nat)) k hk)) hQ.2⟩
                exact ih u ((S2 + szF F ((F 12) (Int32.toNatClampNeg wv)).toInt) + szF F ((F 11) (Int32.toNatClampNeg wv)).toInt) Qz _ _ _ _ _ hS_8 (fx_tr (fx_tr (fx_n hx (by decide)) hx7 (by decide)) hx8 (by decide)) (⟨hT9, e43b⟩) (hQ9) (by rw [e72]; omega) (by omega) (by omega) (by rw [e72]; omega)
            ·
              try simp only [mIn_0, lgc_lt, lgc_gt, lgc_le, lgc_ge, lgc_eq] at c_113
              try simp only [fl_lt, fl_le, fl_eq, fL_w, fL_lt, fL_le, tm1, tm10k, tm9, tm99, Int32.reduceToInt, Int64.reduceToInt, Int.not_lt, Int.not_le] at c_113
              refine gz_lload dX12_brings_116 rfl ?_
              refine gz_aload_n dX12_brings_118 rfl rfl ?_
              refine gz_iload dX12_brings_119 rfl ?_
              refine gz_lload dX12_brings_121 rfl ?_
              refine scX12_384 (k_X12_paysOf (x1 := wv) hS_1 a5 bA bW hv2) hS_1.1 ⟨(Nat.le_of_ble_eq_true rfl), (Nat.le_of_ble_eq_true rfl)⟩ ⟨(Nat.le_of_ble_eq_true rfl), (Nat.le_of_ble_eq_true rfl)⟩ rfl rfl (Nat.le_of_ble_eq_true rfl) dX12_brings_123 ?_
              rintro r_9 f9 ⟨-, y9⟩; rw [y9]
              refine gz_ladd dX12_brings_126 ?_
              refine gz_lstore (lv' := [(4, .long (u + r_9)), (9, .int r_3), (7, .long ((G 45) (Int32.toNatClampNeg ((n 43) - 1)))), (6, .int wv), (0, .ref m), (1, .int x1), (2, .long y)]) dX12_brings_127 (by decide) rfl ?_
              refine gz_goto (tgt := 204) dX12_brings_129 (by decide) ?_
              refine gz_goto (tgt := 14) dX12_brings_204 (by decide) ?_
              refine gz_sub (lv' := [(0, .ref m), (1, .int x1), (2, .long y), (4, .long (u + r_9))]) (by simp [List.lookup]) ?_
              have hxx : fx [43, 72] [] [44, 73] [45, 74] n z F G (va_up n 43 ((n 43) - 1)) z F G := (fx_n fx_rf (by decide))
              have e43 : ((va_up n 43 ((n 43) - 1)) 43).toInt.toNat = ((n 43) - 1).toInt.toNat + 0 := (by (try rw [(show (va_up n 43 ((n 43) - 1)) 43 = ((n 43) - 1) from rfl)]); have q1_ := (T_sub (rfl : ((n 43)).toInt = ((n 43)).toInt) (show (1 : Int32).toInt = 1 from rfl) (by omega)); omega)
              have e43b : 0 ≤ ((va_up n 43 ((n 43) - 1)) 43).toInt := (by (try rw [(show (va_up n 43 ((n 43) - 1)) 43 = ((n 43) - 1) from rfl)]); have q1_ := (T_sub (rfl : ((n 43)).toInt = ((n 43)).toInt) (show (1 : Int32).toInt = 1 from rfl) (by omega)); omega)
              have e5 : (va_up n 43 ((n 43) - 1)) 5 = n 5 := hxx.1 5 (by decide)
              have e44 : F 44 = (F 44) := (show F 44 = (F 44) from rfl).trans rfl
              have hT9 : stk F ((va_up n 43 ((n 43) - 1)) 5).toInt (F 44) ((va_up n 43 ((n 43) - 1)) 43).toInt.toNat S2 := by rw [e43, e5, e44]; exact stk_w (fun k hk => hxx.2.2.1 k ((by decide : ∀ k : Nat, k ∈ wK → k ∉ ([44, 73] : List Nat)) k hk)) hT3
              have e72 : (va_up n 43 ((n 43) - 1)) 72 = n 72 := rfl
              have e73 : F 73 = F 73 := rfl
              have hQ9 : (∀ i : Nat, (i : Int) < ((va_up n 43 ((n 43) - 1)) 72).toInt → vS F ((va_up n 43 ((n 43) - 1)) 5).toInt ((F 73) i)) ∧ stk F ((va_up n 43 ((n 43) - 1)) 5).toInt (F 73) ((va_up n 43 ((n 43) - 1)) 72).toInt.toNat Qz := by rw [e72, e73, e5]; exact ⟨fun i hi => vS_cg (hxx.2.2.1 6 (by decide)) (hxx.2.2.1 7 (by decide)) (hQ.1 i hi), stk_w (fun k hk => hxx.2.2.1 k ((by decide : ∀ k : Nat, k ∈ wK → k ∉ ([44, 73] : List Nat)) k hk)) hQ.2⟩
              exact ih (u + r_9) S2 Qz _ _ _ _ _ hS_1 (fx_n hx (by decide)) (⟨hT9, e43b⟩) (hQ9) (by rw [e72]; omega) (by omega) (by omega) (by rw [e72]; omega)
          ·
            try simp only [mIn_0, lgc_lt, lgc_gt, lgc_le, lgc_ge, lgc_eq] at c_85
            try simp only [fl_lt, fl_le, fl_eq, fL_w, fL_lt, fL_le, tm1, tm10k, tm9, tm99, Int32.reduceToInt, Int64.reduceToInt, Int.not_lt, Int.not_le] at c_85
            refine gz_aload_n dX12_brings_88 rfl rfl ?_
            refine gz_iload dX12_brings_89 rfl ?_
            refine gz_aload_n dX12_brings_91 rfl rfl ?_
            refine gz_iload dX12_brings_92 rfl ?_
            refine gz_lload dX12_brings_94 rfl ?_
            refine scX12_380 (k_X12_factorBehind (x1 := wv) hS_1 a5 bA bW hv2) hS_1.1 ⟨(Nat.le_of_ble_eq_true rfl), (Nat.le_of_ble_eq_true rfl)⟩ ⟨(Nat.le_of_ble_eq_true rfl), (Nat.le_of_ble_eq_true rfl)⟩ rfl rfl (Nat.le_of_ble_eq_true rfl) dX12_brings_96 ?_
            rintro r_10 f9 ⟨-, y9⟩; rw [y9]
            have q_vx : 0 ≤ r_3.toInt ∧ vW F (n 5).toInt r_3.toInt ∧ szF F r_3.toInt + 1 ≤ szF F wv.toInt := by rcases hb_3 with z9 | z9 <;> first | exact z9 | (exfalso; omega)
            refine scX12_370 (k_X12_comes (x1 := r_3) hS_1 (by (try rw [(show (va_up n 43 ((n 43) - 1)) 43 = ((n 43) - 1) from rfl)]); have q1_ := (T_sub (rfl : ((n 43)).toInt = ((n 43)).toInt) (show (1 : Int32).toInt = 1 from rfl) (by omega)); omega)) hS_1.1 ⟨(Nat.le_of_ble_eq_true rfl), (Nat.le_of_ble_eq_true rfl)⟩ ⟨(Nat.le_of_ble_eq_true rfl), (Nat.le_of_ble_eq_true rfl)⟩ rfl rfl (Nat.le_of_ble_eq_true rfl) dX12_brings_99 ?_
            rintro f_11 ⟨n_11, z_11, F_11, G_11, hS_11, hx11, h43_11, h44_11⟩
            refine gz_goto (tgt := 204) dX12_brings_102 (by decide) ?_
            refine gz_goto (tgt := 14) dX12_brings_204 (by decide) ?_
            refine gz_sub (lv' := [(0, .ref m), (1, .int x1), (2, .long y), (4, .long u)]) (by simp [List.lookup]) ?_
            have hxx : fx [43, 72] [] [44, 73] [45, 74] n z F G n_11 z_11 F_11 G_11 := (fx_tr (fx_n fx_rf (by decide)) hx11 (by decide))
            have hp0 := stk_push (x := r_3) hT3 q_vx.2.1
            have e43 : (n_11 43).toInt.toNat = ((n 43) - 1).toInt.toNat + 1 := (by (try rw [(show n_11 43 = (((n 43) - 1) + 1) from h43_11)]); have q1_ := (T_add (T_sub (rfl : ((n 43)).toInt = ((n 43)).toInt) (show (1 : Int32).toInt = 1 from rfl) (by omega)) (show (1 : Int32).toInt = 1 from rfl) (by omega)); omega)
            have e43b : 0 ≤ (n_11 43).toInt := (by (try rw [(show n_11 43 = (((n 43) - 1) + 1) from h43_11)]); have q1_ := (T_add (T_sub (rfl : ((n 43)).toInt = ((n 43)).toInt) (show (1 : Int32).toInt = 1 from rfl) (by omega)) (show (1 : Int32).toInt = 1 from rfl) (by omega)); omega)
            have e5 : n_11 5 = n 5 := hxx.1 5 (by decide)
            have e44 : F_11 44 = (upd (F 44) (((n 43) - 1).toInt.toNat) r_3) := (show F_11 44 = (upd (F 44) (Int32.toNatClampNeg ((n 43) - 1)) r_3) from h44_11).trans rfl
            have hT9 : stk F_11 (n_11 5).toInt (F_11 44) (n_11 43).toInt.toNat (S2 + szF F r_3.toInt) := by rw [e43, e5, e44]; exact stk_w (fun k hk => hxx.2.2.1 k ((by decide : ∀ k : Nat, k ∈ wK → k ∉ ([44, 73] : List Nat)) k hk)) hp0
            have e72 : n_11 72 = n 72 := (hx11.1 72 (by decide))
            have e73 : F_11 73 = F 73 := (hx11.2.2.1 73 (by decide))
            have hQ9 : (∀ i : Nat, (i : Int) < (n_11 72).toInt → vS F_11 (n_11 5).toInt ((F_11 73) i)) ∧ stk F_11 (n_11 5).toInt (F_11 73) (n_11 72).toInt.toNat Qz := by rw [e72, e73, e5]; exact ⟨fun i hi => vS_cg (hxx.2.2.1 6 (by decide)) (hxx.2.2.1 7 (by decide)) (hQ.1 i hi), stk_w (fun k hk => hxx.2.2.1 k ((by decide : ∀ k : Nat, k ∈ wK → k ∉ ([44, 73] : List Nat)) k hk)) hQ.2⟩
            exact ih u (S2 + szF F r_3.toInt) Qz _ _ _ _ _ hS_11 (fx_tr (fx_n hx (by decide)) hx11 (by decide)) (⟨hT9, e43b⟩) (hQ9) (by rw [e72]; omega) (by omega) (by omega) (by rw [e72]; omega)
        ·
          try simp only [mIn_0, lgc_lt, lgc_gt, lgc_le, lgc_ge, lgc_eq] at c_69
          try simp only [fl_lt, fl_le, fl_eq, fL_w, fL_lt, fL_le, tm1, tm10k, tm9, tm99, Int32.reduceToInt, Int64.reduceToInt, Int.not_lt, Int.not_le] at c_69
          refine gz_goto (tgt := 14) dX12_brings_72 (by decide) ?_
          refine gz_sub (lv' := [(0, .ref m), (1, .int x1), (2, .long y), (4, .long u)]) (by simp [List.lookup]) ?_
          have hxx : fx [43, 72] [] [44, 73] [45, 74] n z F G (va_up n 43 ((n 43) - 1)) z F G := (fx_n fx_rf (by decide))
          have e43 : ((va_up n 43 ((n 43) - 1)) 43).toInt.toNat = ((n 43) - 1).toInt.toNat + 0 := (by (try rw [(show (va_up n 43 ((n 43) - 1)) 43 = ((n 43) - 1) from rfl)]); have q1_ := (T_sub (rfl : ((n 43)).toInt = ((n 43)).toInt) (show (1 : Int32).toInt = 1 from rfl) (by omega)); omega)
          have e43b : 0 ≤ ((va_up n 43 ((n 43) - 1)) 43).toInt := (by (try rw [(show (va_up n 43 ((n 43) - 1)) 43 = ((n 43) - 1) from rfl)]); have q1_ := (T_sub (rfl : ((n 43)).toInt = ((n 43)).toInt) (show (1 : Int32).toInt = 1 from rfl) (by omega)); omega)
          have e5 : (va_up n 43 ((n 43) - 1)) 5 = n 5 := hxx.1 5 (by decide)
          have e44 : F 44 = (F 44) := (show F 44 = (F 44) from rfl).trans rfl
          have hT9 : stk F ((va_up n 43 ((n 43) - 1)) 5).toInt (F 44) ((va_up n 43 ((n 43) - 1)) 43).toInt.toNat S2 := by rw [e43, e5, e44]; exact stk_w (fun k hk => hxx.2.2.1 k ((by decide : ∀ k : Nat, k ∈ wK → k ∉ ([44, 73] : List Nat)) k hk)) hT3
          have e72 : (va_up n 43 ((n 43) - 1)) 72 = n 72 := rfl
          have e73 : F 73 = F 73 := rfl
          have hQ9 : (∀ i : Nat, (i : Int) < ((va_up n 43 ((n 43) - 1)) 72).toInt → vS F ((va_up n 43 ((n 43) - 1)) 5).toInt ((F 73) i)) ∧ stk F ((va_up n 43 ((n 43) - 1)) 5).toInt (F 73) ((va_up n 43 ((n 43) - 1)) 72).toInt.toNat Qz := by rw [e72, e73, e5]; exact ⟨fun i hi => vS_cg (hxx.2.2.1 6 (by decide)) (hxx.2.2.1 7 (by decide)) (hQ.1 i hi), stk_w (fun k hk => hxx.2.2.1 k ((by decide : ∀ k : Nat, k ∈ wK → k ∉ ([44, 73] : List Nat)) k hk)) hQ.2⟩
          exact ih u S2 Qz _ _ _ _ _ hS_1 (fx_n hx (by decide)) (⟨hT9, e43b⟩) (hQ9) (by rw [e72]; omega) (by omega) (by omega) (by rw [e72]; omega)

set_option maxHeartbeats 4000000 in
set_option maxRecDepth 100000 in
theorem k_X12_brings {l : Launch} {D : va_G} {cy : Nat → ClassId} {b : Nat} {f : gMem} {m : Nat} {a : Nat → Nat} {f0 : gMem} {n : Nat → Int32} {z : Nat → Int64} {F : Nat → Nat → Int32} {G : Nat → Nat → Int64}  {x1 : Int32} {y : Int64} {Bd : Nat} {Qz : Nat} (hS : mS cy m a f0 n z F G f) (a5 : 0 ≤ (n 5).toInt ∧ (n 5).toInt ≤ 20) (bA : rAll F) (bW : rW F (n 5).toInt) (hv : vW F (n 5).toInt x1.toInt) (hQ : (∀ i : Nat, (i : Int) < (n 72).toInt → vS F (n 5).toInt ((F 73) i)) ∧ stk F (n 5).toInt (F 73) (n 72).toInt.toNat Qz) (h72 : 0 ≤ (n 72).toInt) (hB : Qz + szF F x1.toInt ≤ Bd ∧ Bd ≤ 40) : gC l D cy b yX12_brings cX12_brings 10 (some .long) 3 0 0 [.ref m, .int x1, .long y] f (pL fun r f2 => ∃ (n2 : Nat → Int32) (z2 : Nat → Int64) (F2 : Nat → Nat → Int32) (G2 : Nat → Nat → Int64), mS cy m a f0 n2 z2 F2 G2 f2 ∧ fx [43, 72] [] [44, 73] [45, 74] n z F G n2 z2 F2 G2 ∧ ∃ Q2 : Nat, Q2 ≤ Bd ∧ ((∀ i : Nat, (i : Int) < (n2 72).toInt → vS F2 (n2 5).toInt ((F2 73) i)) ∧ stk F2 (n2 5).toInt (F2 73) (n2 72).toInt.toNat Q2) ∧ (n 72).toInt ≤ (n2 72).toInt) := by
  have qz := szF_pos bW hv
  refine gC_of (by decide) (Nat.le_of_ble_eq_true rfl) ?_
  show gG l _ _ _ D cy b cX12_brings 10 _ RX12 "brings" 0 0 f 0 [(0, .ref m), (1, .int x1), (2, .long y)] []
  refine gz_lconst (v := 0) dX12_brings_0 (by decide) ?_
  refine gz_lstore (lv' := [(4, .long 0), (0, .ref m), (1, .int x1), (2, .long y)]) dX12_brings_1 (by decide) rfl ?_
  refine gz_aload_n dX12_brings_3 rfl rfl ?_
  refine gz_iconst (v := 0) dX12_brings_4 (by decide) ?_
  refine mp_361 hS dX12_brings_5 (fun f_1 hS_1 => ?_)
  refine gz_aload_n dX12_brings_8 rfl rfl ?_
  refine gz_iload_n dX12_brings_9 rfl rfl ?_
  refine gz_lload_n dX12_brings_10 rfl rfl ?_
  refine scX12_370 (k_X12_comes (x1 := x1) hS_1 (show 0 ≤ (0 : Int32).toInt ∧ (0 : Int32).toInt < 64 by decide)) hS_1.1 ⟨(Nat.le_of_ble_eq_true rfl), (Nat.le_of_ble_eq_true rfl)⟩ ⟨(Nat.le_of_ble_eq_true rfl), (Nat.le_of_ble_eq_true rfl)⟩ rfl rfl (Nat.le_of_ble_eq_true rfl) dX12_brings_11 ?_
  rintro f_2 ⟨n_2, z_2, F_2, G_2, hS_2, hx2, h43_2, h44_2⟩
  have hxx : fx [43] [] [44] [45] n z F G n_2 z_2 F_2 G_2 := (fx_tr (fx_n fx_rf (by decide)) hx2 (by decide))
  have e43 : (n_2 43).toInt = 1 := by rw [h43_2]; rfl
  have hT9 : stk F_2 (n_2 5).toInt (F_2 44) (n_2 43).toInt.toNat (0 + szF F x1.toInt) := by rw [e43, h44_2, hxx.1 5 (by decide)]; exact stk_w (fun k hk => hxx.2.2.1 k ((by decide : ∀ k : Nat, k ∈ wK → k ∉ ([44] : List Nat)) k hk)) (stk_push stk_0 hv)
  have hQ9 : (∀ i : Nat, (i : Int) < (n_2 72).toInt → vS F_2 (n_2 5).toInt ((F_2 73) i)) ∧ stk F_2 (n_2 5).toInt (F_2 73) (n_2 72).toInt.toNat Qz := by rw [hxx.1 72 (by decide), hxx.1 5 (by decide), hxx.2.2.1 73 (by decide)]; exact ⟨fun i hi => vS_cg (hxx.2.2.1 6 (by decide)) (hxx.2.2.1 7 (by decide)) (hQ.1 i hi), stk_w (fun k hk => hxx.2.2.1 k ((by decide : ∀ k : Nat, k ∈ wK → k ∉ ([44] : List Nat)) k hk)) hQ.2⟩
  refine gz_sub (lv' := [(0, .ref m), (1, .int x1), (2, .long y), (4, .long 0)]) (by simp [List.lookup]) ?_
  exact l_X12_brings a5 bA bW hB.2 41 0 _ _ _ _ _ _ _ hS_2 (fx_tr fx_rf hxx (by decide)) ⟨hT9, by omega⟩ hQ9 (by rw [hxx.1 72 (by decide)]; exact h72) (by omega) (by omega) (by rw [hxx.1 72 (by decide)]; exact Int.le_refl _)

set_option maxHeartbeats 4000000 in
set_option maxRecDepth 100000 in
theorem l_X12_runs3 {l : Launch} {D : va_G} {cy : Nat → ClassId} {b : Nat} {m : Nat} {a : Nat → Nat} {f0 : gMem} {n0 : Nat → Int32} {z0 : Nat → Int64} {F0 : Nat → Nat → Int32} {G0 : Nat → Nat → Int64}  {x1 x2 x3 : Int32} {y : Int64} {i left x8 x7 wv la : Int32} {v : Int64} {g : Nat → Int32} {t72 : Int} (a50 : 0 ≤ (n0 5).toInt ∧ (n0 5).toInt ≤ 20) (bA0 : rAll F0) (bW0 : rW F0 (n0 5).toInt) (a530 : 1 ≤ (n0 53).toInt ∧ (n0 53).toInt ≤ 3) (hq : ∀  (n : Nat → Int32) (z : Nat → Int64) (F : Nat → Nat → Int32) (G : Nat → Nat → Int64) (fm : gMem), mS cy m a f0 n z F G fm → fx [43, 72] [29] [44, 73] [28, 45, 74, 75] n0 z0 F0 G0 n z F G → (∀ i : Nat, (i : Int) < (n 72).toInt → F 73 i = if x8.toInt ≤ (i : Int) then g (i + 1) else g i) → ((n 72).toInt = t72) → gG l (gRm 4 0 0) (gQf D b (pV fun f2 => ∃ (n2 : Nat → Int32) (z2 : Nat → Int64) (F2 : Nat → Nat → Int32) (G2 : Nat → Nat → Int64), mS cy m a f0 n2 z2 F2 G2 f2 ∧ fx [43, 72] [29] [44, 73] [28, 45, 74, 75] n0 z0 F0 G0 n2 z2 F2 G2) 0 0) gTt D cy b cX12_runs 15 none RX12 "runs" 0 0 fm 185 [(10, .int wv), (11, .long v), (13, .int la), (9, .int left), (8, .int x8), (7, .int x7), (6, .int i), (0, .ref m), (1, .int x1), (2, .int x2), (3, .int x3), (4, .long y)] []) : ∀ (k : Nat) (j : Int32) (n : Nat → Int32) (z : Nat → Int64) (F : Nat → Nat → Int32) (G : Nat → Nat → Int64) (fm : gMem), mS cy m a f0 n z F G fm → fx [43, 72] [29] [44, 73] [28, 45, 74, 75] n0 z0 F0 G0 n z F G → (∀ i : Nat, F 73 i = if x8.toInt ≤ (i : Int) ∧ (i : Int) < j.toInt then g (i + 1) else g i) → ((n 72).toInt = t72) → (0 ≤ x8.toInt ∧ x8.toInt ≤ j.toInt ∧ j.toInt ≤ (n 72).toInt ∧ (n 72).toInt ≤ 40) → ((n 72).toInt - j.toInt < (k : Int)) → gG l (gRm 4 0 0) (gQf D b (pV fun f2 => ∃ (n2 : Nat → Int32) (z2 : Nat → Int64) (F2 : Nat → Nat → Int32) (G2 : Nat → Nat → Int64), mS cy m a f0 n2 z2 F2 G2 f2 ∧ fx [43, 72] [29] [44, 73] [28, 45, 74, 75] n0 z0 F0 G0 n2 z2 F2 G2) 0 0) gTt D cy b cX12_runs 15 none RX12 "runs" 0 0 fm 138 [(14, .int j), (10, .int wv), (11, .long v), (13, .int la), (9, .int left), (8, .int x8), (7, .int x7), (6, .int i), (0, .ref m), (1, .int x1), (2, .int x2), (3, .int x3), (4, .long y)] [] := by
  intro k
  induction k with
  | zero =>
    intro j n z F G fm hS hx hG h72 hj hk
    exfalso; omega
  | succ k ih =>
    intro j n z F G fm hS hx hG h72 hj hk
    refine gz_iload dX12_runs_138 rfl ?_
    refine gz_aload_n dX12_runs_140 rfl rfl ?_
    refine mg_495 hS dX12_runs_141 ?_
    refine gz_icmp_ge (tgt := 185) dX12_runs_144 (by decide) (fun c_144 => ?_) (fun c_144 => ?_)
    ·
      try simp only [mIn_0, lgc_lt, lgc_gt, lgc_le, lgc_ge, lgc_eq] at c_144
      try simp only [fl_lt, fl_le, fl_eq, fL_w, fL_lt, fL_le, tm1, tm10k, tm9, tm99, Int32.reduceToInt, Int64.reduceToInt, Int.not_lt, Int.not_le] at c_144
      refine gz_sub (lv' := [(10, .int wv), (11, .long v), (13, .int la), (9, .int left), (8, .int x8), (7, .int x7), (6, .int i), (0, .ref m), (1, .int x1), (2, .int x2), (3, .int x3), (4, .long y)]) (by simp [List.lookup]) ?_
      exact hq  _ _ _ _ _ hS hx (fun i hi => by rw [hG]; by_cases e : x8.toInt ≤ (i : Int); (rw [if_pos ⟨e, by omega⟩, if_pos e]); (rw [if_neg (fun q => e q.1), if_neg e])) (h72)
    ·
      try simp only [mIn_0, lgc_lt, lgc_gt, lgc_le, lgc_ge, lgc_eq] at c_144
      try simp only [fl_lt, fl_le, fl_eq, fL_w, fL_lt, fL_le, tm1, tm10k, tm9, tm99, Int32.reduceToInt, Int64.reduceToInt, Int.not_lt, Int.not_le] at c_144
      refine gz_aload_n dX12_runs_147 rfl rfl ?_
      refine mg_201 hS dX12_runs_148 ?_
      refine gz_iload dX12_runs_151 rfl ?_
      refine gz_aload_n dX12_runs_153 rfl rfl ?_
      refine mg_201 hS dX12_runs_154 ?_
      refine gz_iload dX12_runs_157 rfl ?_
      refine gz_iconst (v := 1) dX12_runs_159 (by decide) ?_
      refine gz_iadd dX12_runs_160 ?_
      refine m_iald 73 hS rfl (N := 64) rfl ((by have q9 := (T_add (rfl : (j).toInt = (j).toInt) (show (1 : Int32).toInt = 1 from rfl) (by omega)); exact vin_T q9 (by omega) (by omega))) dX12_runs_161 ?_
      refine m_iast 73 hS rfl (N := 64) rfl ((by exact vin_T (rfl : (j).toInt = (j).toInt) (by omega) (by omega))) dX12_runs_162 (fun f_1 hS_1q => ?_)
      have hS_1 : mS cy m a f0 n z (va_up F 73 (upd (F 73) (Int32.toNatClampNeg j) ((F 73) (Int32.toNatClampNeg (j + 1))))) G f_1 := hS_1q
      refine gz_aload_n dX12_runs_163 rfl rfl ?_
      refine mg_204 hS_1 dX12_runs_164 ?_
      refine gz_iload dX12_runs_167 rfl ?_
      refine gz_aload_n dX12_runs_169 rfl rfl ?_
      refine mg_204 hS_1 dX12_runs_170 ?_
      refine gz_iload dX12_runs_173 rfl ?_
      refine gz_iconst (v := 1) dX12_runs_175 (by decide) ?_
      refine gz_iadd dX12_runs_176 ?_
      refine m_lald 74 hS_1 rfl (N := 64) rfl ((by have q9 := (T_add (rfl : (j).toInt = (j).toInt) (show (1 : Int32).toInt = 1 from rfl) (by omega)); exact vin_T q9 (by omega) (by omega))) dX12_runs_177 ?_
      refine gz_ev (w := .long ((G 74) (Int32.toNatClampNeg (j + 1)))) rfl ?_
      refine m_last 74 hS_1 rfl (N := 64) rfl ((by exact vin_T (rfl : (j).toInt = (j).toInt) (by omega) (by omega))) dX12_runs_178 (fun f_2 hS_2q => ?_)
      have hS_2 : mS cy m a f0 n z (va_up F 73 (upd (F 73) (Int32.toNatClampNeg j) ((F 73) (Int32.toNatClampNeg (j + 1))))) (va_up G 74 (vp_updL (G 74) (Int32.toNatClampNeg j) ((G 74) (Int32.toNatClampNeg (j + 1))))) f_2 := hS_2q
      refine gz_iinc (v := (j + 1)) (lv' := [(14, .int (j + 1)), (10, .int wv), (11, .long v), (13, .int la), (9, .int left), (8, .int x8), (7, .int x7), (6, .int i), (0, .ref m), (1, .int x1), (2, .int x2), (3, .int x3), (4, .long y)]) dX12_runs_179 rfl rfl (by decide) rfl ?_
      refine gz_goto (tgt := 138) dX12_runs_182 (by decide) ?_
      refine gz_sub (lv' := [(14, .int (j + 1)), (10, .int wv), (11, .long v), (13, .int la), (9, .int left), (8, .int x8), (7, .int x7), (6, .int i), (0, .ref m), (1, .int x1), (2, .int x2), (3, .int x3), (4, .long y)]) (by simp [List.lookup]) ?_
      have hxx : fx [] [] [73] [74] n z F G n z (va_up F 73 (upd (F 73) (Int32.toNatClampNeg j) ((F 73) (Int32.toNatClampNeg (j + 1))))) (va_up G 74 (vp_updL (G 74) (Int32.toNatClampNeg j) ((G 74) (Int32.toNatClampNeg (j + 1))))) := (fx_G (fx_F fx_rf (by decide)) (by decide))
      have qj : (j + 1).toInt = j.toInt + 1 := T_add rfl (show (1 : Int32).toInt = 1 from rfl) (by omega)
      have c1 := clI (i := j) (by omega)
      have c2 := clI (i := j + 1) (by omega)
      have c8 := clI (i := x8) (by omega)
      have hG9 : ∀ i : Nat, (va_up F 73 (upd (F 73) (Int32.toNatClampNeg j) ((F 73) (Int32.toNatClampNeg (j + 1))))) 73 i = if x8.toInt ≤ (i : Int) ∧ (i : Int) < (j + 1).toInt then g (i + 1) else g i := by
        intro i
        show upd (F 73) (Int32.toNatClampNeg j) (F 73 (Int32.toNatClampNeg (j + 1))) i = _
        rw [updE]
        by_cases e : i = Int32.toNatClampNeg j
        · rw [if_pos e, hG, if_neg (by omega), if_pos (by omega)]; congr 1; omega
        · rw [if_neg e, hG]
          by_cases e2 : x8.toInt ≤ (i : Int) ∧ (i : Int) < j.toInt
          · rw [if_pos e2, if_pos (by omega)]
          · rw [if_neg e2, if_neg (by omega)]
      exact ih (j + 1) _ _ _ _ _ hS_2 (fx_G (fx_F hx (by decide)) (by decide)) (hG9) (h72) (by omega) (by omega)

set_option maxHeartbeats 4000000 in
set_option maxRecDepth 100000 in
theorem l_X12_runs2 {l : Launch} {D : va_G} {cy : Nat → ClassId} {b : Nat} {m : Nat} {a : Nat → Nat} {f0 : gMem} {n0 : Nat → Int32} {z0 : Nat → Int64} {F0 : Nat → Nat → Int32} {G0 : Nat → Nat → Int64}  {x1 x2 x3 : Int32} {y : Int64} {i x7 : Int32} (a50 : 0 ≤ (n0 5).toInt ∧ (n0 5).toInt ≤ 20) (bA0 : rAll F0) (bW0 : rW F0 (n0 5).toInt) (a530 : 1 ≤ (n0 53).toInt ∧ (n0 53).toInt ≤ 3) (hq : ∀  (n : Nat → Int32) (z : Nat → Int64) (F : Nat → Nat → Int32) (G : Nat → Nat → Int64) (fm : gMem), mS cy m a f0 n z F G fm → fx [43, 72] [29] [44, 73] [28, 45, 74, 75] n0 z0 F0 G0 n z F G → (0 ≤ (n 72).toInt) → (∃ Qz : Nat, Qz ≤ 40 ∧ (∀ i : Nat, (i : Int) < (n 72).toInt → vS F (n 5).toInt ((F 73) i)) ∧ stk F (n 5).toInt (F 73) (n 72).toInt.toNat Qz) → gG l (gRm 4 0 0) (gQf D b (pV fun f2 => ∃ (n2 : Nat → Int32) (z2 : Nat → Int64) (F2 : Nat → Nat → Int32) (G2 : Nat → Nat → Int64), mS cy m a f0 n2 z2 F2 G2 f2 ∧ fx [43, 72] [29] [44, 73] [28, 45, 74, 75] n0 z0 F0 G0 n2 z2 F2 G2) 0 0) gTt D cy b cX12_runs 15 none RX12 "runs" 0 0 fm 222 [(6, .int i), (0, .ref m), (1, .int x1), (2, .int x2), (3, .int x3), (4, .long y)] []) : ∀ (k : Nat) (left x8 : Int32) (n : Nat → Int32) (z : Nat → Int64) (F : Nat → Nat → Int32) (G : Nat → Nat → Int64) (fm : gMem), mS cy m a f0 n z F G fm → fx [43, 72] [29] [44, 73] [28, 45, 74, 75] n0 z0 F0 G0 n z F G → (0 ≤ (n 72).toInt) → (∃ Qz : Nat, Qz ≤ 40 ∧ (∀ i : Nat, (i : Int) < (n 72).toInt → vS F (n 5).toInt ((F 73) i)) ∧ stk F (n 5).toInt (F 73) (n 72).toInt.toNat Qz) → (0 ≤ x8.toInt ∧ x8.toInt + left.toInt ≤ (n 72).toInt) → (0 ≤ i.toInt ∧ i.toInt ≤ 4) → (left.toInt < (k : Int) ∧ 0 ≤ left.toInt) → gG l (gRm 4 0 0) (gQf D b (pV fun f2 => ∃ (n2 : Nat → Int32) (z2 : Nat → Int64) (F2 : Nat → Nat → Int32) (G2 : Nat → Nat → Int64), mS cy m a f0 n2 z2 F2 G2 f2 ∧ fx [43, 72] [29] [44, 73] [28, 45, 74, 75] n0 z0 F0 G0 n2 z2 F2 G2) 0 0) gTt D cy b cX12_runs 15 none RX12 "runs" 0 0 fm 73 [(9, .int left), (8, .int x8), (7, .int x7), (6, .int i), (0, .ref m), (1, .int x1), (2, .int x2), (3, .int x3), (4, .long y)] [] := by
  intro k
  induction k with
  | zero =>
    intro left x8 n z F G fm hS hx h72 hQ hc hi hk
    exfalso; omega
  | succ k ih =>
    intro left x8 n z F G fm hS hx h72 hQ hc hi hk
    have a5 : 0 ≤ (n 5).toInt ∧ (n 5).toInt ≤ 20 := by rw [hx.1 5 (by decide)]; exact a50
    have bA := rAll_w (fun k hk => hx.2.2.1 k ((by decide : ∀ k : Nat, k ∈ wK → k ∉ ([44, 73] : List Nat)) k hk)) bA0
    have bW : rW F (n 5).toInt := by rw [hx.1 5 (by decide)]; exact rW_w (fun k hk => hx.2.2.1 k ((by decide : ∀ k : Nat, k ∈ wK → k ∉ ([44, 73] : List Nat)) k hk)) bW0
    have a53 : 1 ≤ (n 53).toInt ∧ (n 53).toInt ≤ 3 := by rw [hx.1 53 (by decide)]; exact a530
    obtain ⟨Qz, hQ1_, hQ2⟩ := hQ
    have ql := stk_len bW hQ2.2
    refine gz_iload dX12_runs_73 rfl ?_
    refine gz_if_le (tgt := 222) dX12_runs_75 (by decide) (fun c_75 => ?_) (fun c_75 => ?_)
    ·
      try simp only [mIn_0, lgc_lt, lgc_gt, lgc_le, lgc_ge, lgc_eq] at c_75
      try simp only [fl_lt, fl_le, fl_eq, fL_w, fL_lt, fL_le, tm1, tm10k, tm9, tm99, Int32.reduceToInt, Int64.reduceToInt, Int.not_lt, Int.not_le] at c_75
      refine gz_sub (lv' := [(6, .int i), (0, .ref m), (1, .int x1), (2, .int x2), (3, .int x3), (4, .long y)]) (by simp [List.lookup]) ?_
      exact hq  _ _ _ _ _ hS hx (h72) (⟨Qz, hQ1_, hQ2⟩)
    ·
      try simp only [mIn_0, lgc_lt, lgc_gt, lgc_le, lgc_ge, lgc_eq] at c_75
      try simp only [fl_lt, fl_le, fl_eq, fL_w, fL_lt, fL_le, tm1, tm10k, tm9, tm99, Int32.reduceToInt, Int64.reduceToInt, Int.not_lt, Int.not_le] at c_75
      refine gz_aload_n dX12_runs_78 rfl rfl ?_
      refine mg_201 hS dX12_runs_79 ?_
      refine gz_iload dX12_runs_82 rfl ?_
      refine m_iald 73 hS rfl (N := 64) rfl ((by exact vin_T (rfl : (x8).toInt = (x8).toInt) (by omega) (by omega))) dX12_runs_84 ?_
      have c8 := clI (i := x8) (by omega)
      obtain ⟨wv, hwv⟩ : ∃ wv, wv = ((F 73) (Int32.toNatClampNeg x8)) := ⟨_, rfl⟩
      refine gz_ev (w := .int wv) (congrArg Value.int hwv.symm) ?_
      have hv : vS F (n 5).toInt wv := by rw [hwv]; exact hQ2.1 _ (by omega)
      have qv := vW_lt bW a5 hv.1
      have qz := szF_pos bW hv.1
      have qk : (F 7 (Int32.toNatClampNeg wv)).toInt = 4 ∨ (F 7 (Int32.toNatClampNeg wv)).toInt = 6 ∨ (F 7 (Int32.toNatClampNeg wv)).toInt = 7 := hv.2
      refine gz_istore (lv' := [(10, .int wv), (9, .int left), (8, .int x8), (7, .int x7), (6, .int i), (0, .ref m), (1, .int x1), (2, .int x2), (3, .int x3), (4, .long y)]) dX12_runs_85 (by decide) rfl ?_
      refine gz_aload_n dX12_runs_87 rfl rfl ?_
      refine mg_204 hS dX12_runs_88 ?_
      refine gz_iload dX12_runs_91 rfl ?_
      refine m_lald 74 hS rfl (N := 64) rfl ((by exact vin_T (rfl : (x8).toInt = (x8).toInt) (by omega) (by omega))) dX12_runs_93 ?_
      obtain ⟨vv, hvv⟩ : ∃ vv, vv = ((G 74) (Int32.toNatClampNeg x8)) := ⟨_, rfl⟩
      refine gz_ev (w := .long vv) (congrArg Value.long hvv.symm) ?_
      refine gz_lstore (lv' := [(11, .long vv), (10, .int wv), (9, .int left), (8, .int x8), (7, .int x7), (6, .int i), (0, .ref m), (1, .int x1), (2, .int x2), (3, .int x3), (4, .long y)]) dX12_runs_94 (by decide) rfl ?_
      refine gz_aload_n dX12_runs_96 rfl rfl ?_
      refine gz_iload dX12_runs_97 rfl ?_
      refine scX12_374 (k_X12_isLapsed (x1 := wv) hS a5 bA bW hv.1) hS.1 ⟨(Nat.le_of_ble_eq_true rfl), (Nat.le_of_ble_eq_true rfl)⟩ ⟨(Nat.le_of_ble_eq_true rfl), (Nat.le_of_ble_eq_true rfl)⟩ rfl rfl (Nat.le_of_ble_eq_true rfl) dX12_runs_99 ?_
      rintro r_1 f9 ⟨hb_1, y9⟩; rw [y9]
      refine gz_istore (lv' := [(13, .int r_1), (11, .long vv), (10, .int wv), (9, .int left), (8, .int x8), (7, .int x7), (6, .int i), (0, .ref m), (1, .int x1), (2, .int x2), (3, .int x3), (4, .long y)]) dX12_runs_102 (by decide) rfl ?_
      refine gz_iload dX12_runs_104 rfl ?_
      refine gz_if_ne (tgt := 124) dX12_runs_106 (by decide) (fun c_106 => ?_) (fun c_106 => ?_)
      ·
        try simp only [mIn_0, lgc_lt, lgc_gt, lgc_le, lgc_ge, lgc_eq] at c_106
        try simp only [fl_lt, fl_le, fl_eq, fL_w, fL_lt, fL_le, tm1, tm10k, tm9, tm99, Int32.reduceToInt, Int64.reduceToInt, Int.not_lt, Int.not_le] at c_106
        refine gz_aload_n dX12_runs_124 rfl rfl ?_
        refine gz_dup dX12_runs_125 rfl ?_
        refine mg_495 hS dX12_runs_126 ?_
        refine gz_iconst (v := 1) dX12_runs_129 (by decide) ?_
        refine gz_isub dX12_runs_130 ?_
        refine mp_495 hS dX12_runs_131 (fun f_2 hS_2 => ?_)
        refine gz_iload dX12_runs_134 rfl ?_
        refine gz_istore (lv' := [(14, .int x8), (13, .int r_1), (11, .long vv), (10, .int wv), (9, .int left), (8, .int x8), (7, .int x7), (6, .int i), (0, .ref m), (1, .int x1), (2, .int x2), (3, .int x3), (4, .long y)]) dX12_runs_136 (by decide) rfl ?_
        have e72 : ((va_up n 72 ((n 72) - 1)) 72).toInt = (n 72).toInt - 1 := (by (try rw [(show (va_up n 72 ((n 72) - 1)) 72 = ((n 72) - 1) from rfl)]); have q1_ := (T_sub (rfl : ((n 72)).toInt = ((n 72)).toInt) (show (1 : Int32).toInt = 1 from rfl) (by omega)); omega)
        refine gz_sub (lv' := [(14, .int x8), (10, .int wv), (11, .long vv), (13, .int r_1), (9, .int left), (8, .int x8), (7, .int x7), (6, .int i), (0, .ref m), (1, .int x1), (2, .int x2), (3, .int x3), (4, .long y)]) (by simp [List.lookup]) ?_
        refine l_X12_runs3 (x8 := x8) (g := F 73) (t72 := (n 72).toInt - 1) a50 bA0 bW0 a530 ?_ 42 x8 _ _ _ _ _ hS_2 (fx_n hx (by decide)) (fun i => by rw [if_neg (by omega)]) e72 (by omega) (by omega)
        intro n1 z1 F1 G1 fm1 hS1 hx1 hG1 h721
        have e51 : n1 5 = n 5 := (hx1.1 5 (by decide)).trans (hx.1 5 (by decide)).symm
        have ew : ∀ k, k ∈ wK → F1 k = F k := fun k hk => (hx1.2.2.1 k ((by decide : ∀ k : Nat, k ∈ wK → k ∉ ([44, 73] : List Nat)) k hk)).trans (hx.2.2.1 k ((by decide : ∀ k : Nat, k ∈ wK → k ∉ ([44, 73] : List Nat)) k hk)).symm
        have hs1 := sm_shift (F := F) (g := F 73) (g2 := F1 73) (k := Int32.toNatClampNeg x8) (n1 72).toInt.toNat (by omega) (fun j hj => by rw [hG1 j (by omega)]; by_cases e : x8.toInt ≤ (j : Int); (rw [if_pos e, if_pos (by omega)]); (rw [if_neg e, if_neg (by omega)]))
        rw [← hwv, show (n1 72).toInt.toNat + 1 = (n 72).toInt.toNat by omega, hQ2.2.2] at hs1
        have hV1 : ∀ i : Nat, (i : Int) < (n1 72).toInt → vS F (n 5).toInt (F1 73 i) := fun i hi => by rw [hG1 i hi]; by_cases e : x8.toInt ≤ (i : Int); (rw [if_pos e]; exact hQ2.1 _ (by omega)); (rw [if_neg e]; exact hQ2.1 _ (by omega))
        have hQ1 : (∀ i : Nat, (i : Int) < (n1 72).toInt → vS F1 (n1 5).toInt ((F1 73) i)) ∧ stk F1 (n1 5).toInt (F1 73) (n1 72).toInt.toNat (smF F (F1 73) (n1 72).toInt.toNat) := ⟨fun i hi => by rw [e51]; exact vS_cg (ew 6 (by decide)) (ew 7 (by decide)) (hV1 i hi), by rw [e51]; exact stk_w ew ⟨fun i hi => (hV1 i (by omega)).1, rfl⟩⟩
        have a51 : 0 ≤ (n1 5).toInt ∧ (n1 5).toInt ≤ 20 := by rw [e51]; exact a5
        have bA1 := rAll_w ew bA
        have bW1 : rW F1 (n1 5).toInt := by rw [e51]; exact rW_w ew bW
        have hv1 : vS F1 (n1 5).toInt wv := by rw [e51]; exact vS_cg (ew 6 (by decide)) (ew 7 (by decide)) hv
        have hz1 : szF F1 wv.toInt = szF F wv.toInt := szF_w ew
        have qk1 : (F1 7 (Int32.toNatClampNeg wv)).toInt = 4 ∨ (F1 7 (Int32.toNatClampNeg wv)).toInt = 6 ∨ (F1 7 (Int32.toNatClampNeg wv)).toInt = 7 := hv1.2
        clear hS
        refine gz_iload dX12_runs_185 rfl ?_
        refine gz_if_ne (tgt := 216) dX12_runs_187 (by decide) (fun c_187 => ?_) (fun c_187 => ?_)
        ·
          try simp only [mIn_0, lgc_lt, lgc_gt, lgc_le, lgc_ge, lgc_eq] at c_187
          try simp only [fl_lt, fl_le, fl_eq, fL_w, fL_lt, fL_le, tm1, tm10k, tm9, tm99, Int32.reduceToInt, Int64.reduceToInt, Int.not_lt, Int.not_le] at c_187
          refine gz_iinc (v := (left + (-1))) (lv' := [(9, .int (left + (-1))), (10, .int wv), (11, .long vv), (13, .int r_1), (8, .int x8), (7, .int x7), (6, .int i), (0, .ref m), (1, .int x1), (2, .int x2), (3, .int x3), (4, .long y)]) dX12_runs_216 rfl (congrArg (fun z => left + z) oi_m1) (by decide) rfl ?_
          refine gz_goto (tgt := 73) dX12_runs_219 (by decide) ?_
          refine gz_sub (lv' := [(9, .int (left + (-1))), (8, .int x8), (7, .int x7), (6, .int i), (0, .ref m), (1, .int x1), (2, .int x2), (3, .int x3), (4, .long y)]) (by simp [List.lookup]) ?_
          have hdc : (left + (-1)).toInt = left.toInt - 1 := T_dec (by omega) (by omega)
          generalize left + (-1) = left2 at hdc ⊢
          exact ih left2 x8 _ _ _ _ _ hS1 hx1 (by omega) (⟨_, by omega, hQ1⟩) (by omega) (hi) (by omega)
        ·
          try simp only [mIn_0, lgc_lt, lgc_gt, lgc_le, lgc_ge, lgc_eq] at c_187
          try simp only [fl_lt, fl_le, fl_eq, fL_w, fL_lt, fL_le, tm1, tm10k, tm9, tm99, Int32.reduceToInt, Int64.reduceToInt, Int.not_lt, Int.not_le] at c_187
          refine gz_aload_n dX12_runs_190 rfl rfl ?_
          refine mg_207 hS1 dX12_runs_191 ?_
          refine gz_iload dX12_runs_194 rfl ?_
          refine gz_dup2 dX12_runs_196 rfl rfl ?_
          refine m_lald 75 hS1 rfl (N := 5) rfl ((by exact vin_T (rfl : i.toInt = i.toInt) (by omega) (by omega))) dX12_runs_197 ?_
          refine gz_lload dX12_runs_198 rfl ?_
          refine gz_aload_n dX12_runs_200 rfl rfl ?_
          refine gz_aload_n dX12_runs_201 rfl rfl ?_
          refine mg_32 hS1 dX12_runs_202 ?_
          refine gz_iload dX12_runs_205 rfl ?_
          refine m_iald 11 hS1 rfl (N := 880) rfl ((by exact vin_T (rfl : (wv).toInt = (wv).toInt) (by omega) (by omega))) dX12_runs_207 ?_
          refine gz_lload dX12_runs_208 rfl ?_
          have q1 : vW F1 (n1 5).toInt (F1 11 (Int32.toNatClampNeg wv)).toInt ∧ szF F1 (F1 11 (Int32.toNatClampNeg wv)).toInt + 1 ≤ szF F1 wv.toInt := one_ok bW1 hv1.1 (show 2 ≤ (F1 7 (Int32.toNatClampNeg wv)).toInt by omega)
          refine scX12_498 (k_X12_brings (x1 := ((F1 11) (Int32.toNatClampNeg wv))) (Bd := 40) hS1 a51 bA1 bW1 q1.1 hQ1 (by omega) ⟨by omega, by omega⟩) hS1.1 ⟨(Nat.le_of_ble_eq_true rfl), (Nat.le_of_ble_eq_true rfl)⟩ ⟨(Nat.le_of_ble_eq_true rfl), (Nat.le_of_ble_eq_true rfl)⟩ rfl rfl (Nat.le_of_ble_eq_true rfl) dX12_runs_210 ?_
          rintro r_3 f_3 ⟨n_3, z_3, F_3, G_3, hS_3, hx3, hQ_3⟩
          refine gz_lmul dX12_runs_213 ?_
          refine gz_ladd dX12_runs_214 ?_
          refine m_last 75 hS_3 rfl (N := 5) rfl ((by exact vin_T (rfl : i.toInt = i.toInt) (by omega) (by omega))) dX12_runs_215 (fun f_4 hS_4q => ?_)
          have hS_4 : mS cy m a f0 n_3 z_3 F_3 (va_up G_3 75 (vp_updL (G1 75) (Int32.toNatClampNeg i) (((G1 75) (Int32.toNatClampNeg i)) + (y * r_3)))) f_4 := (by have e9 := (show G_3 75 = (G1 75) from (hx3.2.2.2 75 (by decide))); rw [e9] at hS_4q; exact hS_4q)
          refine gz_iinc (v := (left + (-1))) (lv' := [(9, .int (left + (-1))), (10, .int wv), (11, .long vv), (13, .int r_1), (8, .int x8), (7, .int x7), (6, .int i), (0, .ref m), (1, .int x1), (2, .int x2), (3, .int x3), (4, .long y)]) dX12_runs_216 rfl (congrArg (fun z => left + z) oi_m1) (by decide) rfl ?_
          refine gz_goto (tgt := 73) dX12_runs_219 (by decide) ?_
          refine gz_sub (lv' := [(9, .int (left + (-1))), (8, .int x8), (7, .int x7), (6, .int i), (0, .ref m), (1, .int x1), (2, .int x2), (3, .int x3), (4, .long y)]) (by simp [List.lookup]) ?_
          have hdc : (left + (-1)).toInt = left.toInt - 1 := T_dec (by omega) (by omega)
          generalize left + (-1) = left2 at hdc ⊢
          exact ih left2 x8 _ _ _ _ _ hS_4 (fx_G (fx_tr hx1 hx3 (by decide)) (by decide)) (by obtain ⟨Q2, z1, z2, z3⟩ := hQ_3; show 0 ≤ (n_3 72).toInt; omega) (by obtain ⟨Q2, z1, z2, z3⟩ := hQ_3; exact ⟨Q2, z1, z2⟩) (by obtain ⟨Q2, z1, z2, z3⟩ := hQ_3; have z4 : (n1 72).toInt ≤ (n_3 72).toInt := z3; show 0 ≤ x8.toInt ∧ x8.toInt + left2.toInt ≤ (n_3 72).toInt; omega) (hi) (by omega)
      ·
        try simp only [mIn_0, lgc_lt, lgc_gt, lgc_le, lgc_ge, lgc_eq] at c_106
        try simp only [fl_lt, fl_le, fl_eq, fL_w, fL_lt, fL_le, tm1, tm10k, tm9, tm99, Int32.reduceToInt, Int64.reduceToInt, Int.not_lt, Int.not_le] at c_106
        refine gz_aload_n dX12_runs_109 rfl rfl ?_
        refine gz_iload dX12_runs_110 rfl ?_
        refine scX12_348 (k_X12_holds (x1 := wv) hS bA (by omega)) hS.1 ⟨(Nat.le_of_ble_eq_true rfl), (Nat.le_of_ble_eq_true rfl)⟩ ⟨(Nat.le_of_ble_eq_true rfl), (Nat.le_of_ble_eq_true rfl)⟩ rfl rfl (Nat.le_of_ble_eq_true rfl) dX12_runs_112 ?_
        rintro r_5 f9 ⟨hb_5, y9⟩; rw [y9]
        refine gz_if_ne (tgt := 124) dX12_runs_115 (by decide) (fun c_115 => ?_) (fun c_115 => ?_)
        ·
          try simp only [mIn_0, lgc_lt, lgc_gt, lgc_le, lgc_ge, lgc_eq] at c_115
          try simp only [fl_lt, fl_le, fl_eq, fL_w, fL_lt, fL_le, tm1, tm10k, tm9, tm99, Int32.reduceToInt, Int64.reduceToInt, Int.not_lt, Int.not_le] at c_115
          refine gz_aload_n dX12_runs_124 rfl rfl ?_
          refine gz_dup dX12_runs_125 rfl ?_
          refine mg_495 hS dX12_runs_126 ?_
          refine gz_iconst (v := 1) dX12_runs_129 (by decide) ?_
          refine gz_isub dX12_runs_130 ?_
          refine mp_495 hS dX12_runs_131 (fun f_6 hS_6 => ?_)
          refine gz_iload dX12_runs_134 rfl ?_
          refine gz_istore (lv' := [(14, .int x8), (13, .int r_1), (11, .long vv), (10, .int wv), (9, .int left), (8, .int x8), (7, .int x7), (6, .int i), (0, .ref m), (1, .int x1), (2, .int x2), (3, .int x3), (4, .long y)]) dX12_runs_136 (by decide) rfl ?_
          have e72 : ((va_up n 72 ((n 72) - 1)) 72).toInt = (n 72).toInt - 1 := (by (try rw [(show (va_up n 72 ((n 72) - 1)) 72 = ((n 72) - 1) from rfl)]); have q1_ := (T_sub (rfl : ((n 72)).toInt = ((n 72)).toInt) (show (1 : Int32).toInt = 1 from rfl) (by omega)); omega)
          refine gz_sub (lv' := [(14, .int x8), (10, .int wv), (11, .long vv), (13, .int r_1), (9, .int left), (8, .int x8), (7, .int x7), (6, .int i), (0, .ref m), (1, .int x1), (2, .int x2), (3, .int x3), (4, .long y)]) (by simp [List.lookup]) ?_
          refine l_X12_runs3 (x8 := x8) (g := F 73) (t72 := (n 72).toInt - 1) a50 bA0 bW0 a530 ?_ 42 x8 _ _ _ _ _ hS_6 (fx_n hx (by decide)) (fun i => by rw [if_neg (by omega)]) e72 (by omega) (by omega)
          intro n1 z1 F1 G1 fm1 hS1 hx1 hG1 h721
          have e51 : n1 5 = n 5 := (hx1.1 5 (by decide)).trans (hx.1 5 (by decide)).symm
          have ew : ∀ k, k ∈ wK → F1 k = F k := fun k hk => (hx1.2.2.1 k ((by decide : ∀ k : Nat, k ∈ wK → k ∉ ([44, 73] : List Nat)) k hk)).trans (hx.2.2.1 k ((by decide : ∀ k : Nat, k ∈ wK → k ∉ ([44, 73] : List Nat)) k hk)).symm
          have hs1 := sm_shift (F := F) (g := F 73) (g2 := F1 73) (k := Int32.toNatClampNeg x8) (n1 72).toInt.toNat (by omega) (fun j hj => by rw [hG1 j (by omega)]; by_cases e : x8.toInt ≤ (j : Int); (rw [if_pos e, if_pos (by omega)]); (rw [if_neg e, if_neg (by omega)]))
          rw [← hwv, show (n1 72).toInt.toNat + 1 = (n 72).toInt.toNat by omega, hQ2.2.2] at hs1
          have hV1 : ∀ i : Nat, (i : Int) < (n1 72).toInt → vS F (n 5).toInt (F1 73 i) := fun i hi => by rw [hG1 i hi]; by_cases e : x8.toInt ≤ (i : Int); (rw [if_pos e]; exact hQ2.1 _ (by omega)); (rw [if_neg e]; exact hQ2.1 _ (by omega))
          have hQ1 : (∀ i : Nat, (i : Int) < (n1 72).toInt → vS F1 (n1 5).toInt ((F1 73) i)) ∧ stk F1 (n1 5).toInt (F1 73) (n1 72).toInt.toNat (smF F (F1 73) (n1 72).toInt.toNat) := ⟨fun i hi => by rw [e51]; exact vS_cg (ew 6 (by decide)) (ew 7 (by decide)) (hV1 i hi), by rw [e51]; exact stk_w ew ⟨fun i hi => (hV1 i (by omega)).1, rfl⟩⟩
          have a51 : 0 ≤ (n1 5).toInt ∧ (n1 5).toInt ≤ 20 := by rw [e51]; exact a5
          have bA1 := rAll_w ew bA
          have bW1 : rW F1 (n1 5).toInt := by rw [e51]; exact rW_w ew bW
          have hv1 : vS F1 (n1 5).toInt wv := by rw [e51]; exact vS_cg (ew 6 (by decide)) (ew 7 (by decide)) hv
          have hz1 : szF F1 wv.toInt = szF F wv.toInt := szF_w ew
          have qk1 : (F1 7 (Int32.toNatClampNeg wv)).toInt = 4 ∨ (F1 7 (Int32.toNatClampNeg wv)).toInt = 6 ∨ (F1 7 (Int32.toNatClampNeg wv)).toInt = 7 := hv1.2
          clear hS
          refine gz_iload dX12_runs_185 rfl ?_
          refine gz_if_ne (tgt := 216) dX12_runs_187 (by decide) (fun c_187 => ?_) (fun c_187 => ?_)
          ·
            try simp only [mIn_0, lgc_lt, lgc_gt, lgc_le, lgc_ge, lgc_eq] at c_187
            try simp only [fl_lt, fl_le, fl_eq, fL_w, fL_lt, fL_le, tm1, tm10k, tm9, tm99, Int32.reduceToInt, Int64.reduceToInt, Int.not_lt, Int.not_le] at c_187
            refine gz_iinc (v := (left + (-1))) (lv' := [(9, .int (left + (-1))), (10, .int wv), (11, .long vv), (13, .int r_1), (8, .int x8), (7, .int x7), (6, .int i), (0, .ref m), (1, .int x1), (2, .int x2), (3, .int x3), (4, .long y)]) dX12_runs_216 rfl (congrArg (fun z => left + z) oi_m1) (by decide) rfl ?_
            refine gz_goto (tgt := 73) dX12_runs_219 (by decide) ?_
            refine gz_sub (lv' := [(9, .int (left + (-1))), (8, .int x8), (7, .int x7), (6, .int i), (0, .ref m), (1, .int x1), (2, .int x2), (3, .int x3), (4, .long y)]) (by simp [List.lookup]) ?_
            have hdc : (left + (-1)).toInt = left.toInt - 1 := T_dec (by omega) (by omega)
            generalize left + (-1) = left2 at hdc ⊢
            exact ih left2 x8 _ _ _ _ _ hS1 hx1 (by omega) (⟨_, by omega, hQ1⟩) (by omega) (hi) (by omega)
          ·
            try simp only [mIn_0, lgc_lt, lgc_gt, lgc_le, lgc_ge, lgc_eq] at c_187
            try simp only [fl_lt, fl_le, fl_eq, fL_w, fL_lt, fL_le, tm1, tm10k, tm9, tm99, Int32.reduceToInt, Int64.reduceToInt, Int.not_lt, Int.not_le] at c_187
            refine gz_aload_n dX12_runs_190 rfl rfl ?_
            refine mg_207 hS1 dX12_runs_191 ?_
            refine gz_iload dX12_runs_194 rfl ?_
            refine gz_dup2 dX12_runs_196 rfl rfl ?_
            refine m_lald 75 hS1 rfl (N := 5) rfl ((by exact vin_T (rfl : i.toInt = i.toInt) (by omega) (by omega))) dX12_runs_197 ?_
            refine gz_lload dX12_runs_198 rfl ?_
            refine gz_aload_n dX12_runs_200 rfl rfl ?_
            refine gz_aload_n dX12_runs_201 rfl rfl ?_
            refine mg_32 hS1 dX12_runs_202 ?_
            refine gz_iload dX12_runs_205 rfl ?_
            refine m_iald 11 hS1 rfl (N := 880) rfl ((by exact vin_T (rfl : (wv).toInt = (wv).toInt) (by omega) (by omega))) dX12_runs_207 ?_
            refine gz_lload dX12_runs_208 rfl ?_
            have q1 : vW F1 (n1 5).toInt (F1 11 (Int32.toNatClampNeg wv)).toInt ∧ szF F1 (F1 11 (Int32.toNatClampNeg wv)).toInt + 1 ≤ szF F1 wv.toInt := one_ok bW1 hv1.1 (show 2 ≤ (F1 7 (Int32.toNatClampNeg wv)).toInt by omega)
            refine scX12_498 (k_X12_brings (x1 := ((F1 11) (Int32.toNatClampNeg wv))) (Bd := 40) hS1 a51 bA1 bW1 q1.1 hQ1 (by omega) ⟨by omega, by omega⟩) hS1.1 ⟨(Nat.le_of_ble_eq_true rfl), (Nat.le_of_ble_eq_true rfl)⟩ ⟨(Nat.le_of_ble_eq_true rfl), (Nat.le_of_ble_eq_true rfl)⟩ rfl rfl (Nat.le_of_ble_eq_true rfl) dX12_runs_210 ?_
            rintro r_7 f_7 ⟨n_7, z_7, F_7, G_7, hS_7, hx7, hQ_7⟩
            refine gz_lmul dX12_runs_213 ?_
            refine gz_ladd dX12_runs_214 ?_
            refine m_last 75 hS_7 rfl (N := 5) rfl ((by exact vin_T (rfl : i.toInt = i.toInt) (by omega) (by omega))) dX12_runs_215 (fun f_8 hS_8q => ?_)
            have hS_8 : mS cy m a f0 n_7 z_7 F_7 (va_up G_7 75 (vp_updL (G1 75) (Int32.toNatClampNeg i) (((G1 75) (Int32.toNatClampNeg i)) + (y * r_7)))) f_8 := (by have e9 := (show G_7 75 = (G1 75) from (hx7.2.2.2 75 (by decide))); rw [e9] at hS_8q; exact hS_8q)
            refine gz_iinc (v := (left + (-1))) (lv' := [(9, .int (left + (-1))), (10, .int wv), (11, .long vv), (13, .int r_1), (8, .int x8), (7, .int x7), (6, .int i), (0, .ref m), (1, .int x1), (2, .int x2), (3, .int x3), (4, .long y)]) dX12_runs_216 rfl (congrArg (fun z => left + z) oi_m1) (by decide) rfl ?_
            refine gz_goto (tgt := 73) dX12_runs_219 (by decide) ?_
            refine gz_sub (lv' := [(9, .int (left + (-1))), (8, .int x8), (7, .int x7), (6, .int i), (0, .ref m), (1, .int x1), (2, .int x2), (3, .int x3), (4, .long y)]) (by simp [List.lookup]) ?_
            have hdc : (left + (-1)).toInt = left.toInt - 1 := T_dec (by omega) (by omega)
            generalize left + (-1) = left2 at hdc ⊢
            exact ih left2 x8 _ _ _ _ _ hS_8 (fx_G (fx_tr hx1 hx7 (by decide)) (by decide)) (by obtain ⟨Q2, z1, z2, z3⟩ := hQ_7; show 0 ≤ (n_7 72).toInt; omega) (by obtain ⟨Q2, z1, z2, z3⟩ := hQ_7; exact ⟨Q2, z1, z2⟩) (by obtain ⟨Q2, z1, z2, z3⟩ := hQ_7; have z4 : (n1 72).toInt ≤ (n_7 72).toInt := z3; show 0 ≤ x8.toInt ∧ x8.toInt + left2.toInt ≤ (n_7 72).toInt; omega) (hi) (by omega)
        ·
          try simp only [mIn_0, lgc_lt, lgc_gt, lgc_le, lgc_ge, lgc_eq] at c_115
          try simp only [fl_lt, fl_le, fl_eq, fL_w, fL_lt, fL_le, tm1, tm10k, tm9, tm99, Int32.reduceToInt, Int64.reduceToInt, Int.not_lt, Int.not_le] at c_115
          refine gz_iinc (v := (x8 + 1)) (lv' := [(8, .int (x8 + 1)), (13, .int r_1), (11, .long vv), (10, .int wv), (9, .int left), (7, .int x7), (6, .int i), (0, .ref m), (1, .int x1), (2, .int x2), (3, .int x3), (4, .long y)]) dX12_runs_118 rfl rfl (by decide) rfl ?_
          refine gz_goto (tgt := 216) dX12_runs_121 (by decide) ?_
          refine gz_iinc (v := (left + (-1))) (lv' := [(9, .int (left + (-1))), (8, .int (x8 + 1)), (13, .int r_1), (11, .long vv), (10, .int wv), (7, .int x7), (6, .int i), (0, .ref m), (1, .int x1), (2, .int x2), (3, .int x3), (4, .long y)]) dX12_runs_216 rfl (congrArg (fun z => left + z) oi_m1) (by decide) rfl ?_
          refine gz_goto (tgt := 73) dX12_runs_219 (by decide) ?_
          refine gz_sub (lv' := [(9, .int (left + (-1))), (8, .int (x8 + 1)), (7, .int x7), (6, .int i), (0, .ref m), (1, .int x1), (2, .int x2), (3, .int x3), (4, .long y)]) (by simp [List.lookup]) ?_
          have hdc : (left + (-1)).toInt = left.toInt - 1 := T_dec (by omega) (by omega)
          generalize left + (-1) = left2 at hdc ⊢
          have qx : (x8 + 1).toInt = x8.toInt + 1 := T_add rfl (show (1 : Int32).toInt = 1 from rfl) (by omega)
          exact ih left2 (x8 + 1) _ _ _ _ _ hS hx (h72) (⟨Qz, hQ1_, hQ2⟩) (by omega) (hi) (by omega)

set_option maxHeartbeats 4000000 in
set_option maxRecDepth 100000 in
theorem l_X12_runs {l : Launch} {D : va_G} {cy : Nat → ClassId} {b : Nat} {m : Nat} {a : Nat → Nat} {f0 : gMem} {n0 : Nat → Int32} {z0 : Nat → Int64} {F0 : Nat → Nat → Int32} {G0 : Nat → Nat → Int64}  {x1 x2 x3 : Int32} {y : Int64} (a50 : 0 ≤ (n0 5).toInt ∧ (n0 5).toInt ≤ 20) (bA0 : rAll F0) (bW0 : rW F0 (n0 5).toInt) (a530 : 1 ≤ (n0 53).toInt ∧ (n0 53).toInt ≤ 3) (h2 : 0 ≤ x2.toInt) (h3 : x3.toInt ≤ 4) : ∀ (k : Nat) (i : Int32) (n : Nat → Int32) (z : Nat → Int64) (F : Nat → Nat → Int32) (G : Nat → Nat → Int64) (fm : gMem), mS cy m a f0 n z F G fm → fx [43, 72] [29] [44, 73] [28, 45, 74, 75] n0 z0 F0 G0 n z F G → (0 ≤ (n 72).toInt) → (∃ Qz : Nat, Qz ≤ 40 ∧ (∀ i : Nat, (i : Int) < (n 72).toInt → vS F (n 5).toInt ((F 73) i)) ∧ stk F (n 5).toInt (F 73) (n 72).toInt.toNat Qz) → (1 ≤ i.toInt ∧ i.toInt ≤ 5) → (i.toInt + (k : Int) = 6) → gG l (gRm 4 0 0) (gQf D b (pV fun f2 => ∃ (n2 : Nat → Int32) (z2 : Nat → Int64) (F2 : Nat → Nat → Int32) (G2 : Nat → Nat → Int64), mS cy m a f0 n2 z2 F2 G2 f2 ∧ fx [43, 72] [29] [44, 73] [28, 45, 74, 75] n0 z0 F0 G0 n2 z2 F2 G2) 0 0) gTt D cy b cX12_runs 15 none RX12 "runs" 0 0 fm 35 [(6, .int i), (0, .ref m), (1, .int x1), (2, .int x2), (3, .int x3), (4, .long y)] [] := by
  intro k
  induction k with
  | zero =>
    intro i n z F G fm hS hx h72 hQ hi hk
    exfalso; omega
  | succ k ih =>
    intro i n z F G fm hS hx h72 hQ hi hk
    have a5 : 0 ≤ (n 5).toInt ∧ (n 5).toInt ≤ 20 := by rw [hx.1 5 (by decide)]; exact a50
    have bA := rAll_w (fun k hk => hx.2.2.1 k ((by decide : ∀ k : Nat, k ∈ wK → k ∉ ([44, 73] : List Nat)) k hk)) bA0
    have bW : rW F (n 5).toInt := by rw [hx.1 5 (by decide)]; exact rW_w (fun k hk => hx.2.2.1 k ((by decide : ∀ k : Nat, k ∈ wK → k ∉ ([44, 73] : List Nat)) k hk)) bW0
    have a53 : 1 ≤ (n 53).toInt ∧ (n 53).toInt ≤ 3 := by rw [hx.1 53 (by decide)]; exact a530
    refine gz_iload dX12_runs_35 rfl ?_
    refine gz_iload_n dX12_runs_37 rfl rfl ?_
    refine gz_icmp_gt (tgt := 228) dX12_runs_38 (by decide) (fun c_38 => ?_) (fun c_38 => ?_)
    ·
      try simp only [mIn_0, lgc_lt, lgc_gt, lgc_le, lgc_ge, lgc_eq] at c_38
      try simp only [fl_lt, fl_le, fl_eq, fL_w, fL_lt, fL_le, tm1, tm10k, tm9, tm99, Int32.reduceToInt, Int64.reduceToInt, Int.not_lt, Int.not_le] at c_38
      exact gz_vret rfl dX12_runs_228 (Nat.le_of_ble_eq_true rfl) (Nat.le_of_ble_eq_true rfl) (⟨rfl, _, _, _, _, hS, hx⟩)
    ·
      try simp only [mIn_0, lgc_lt, lgc_gt, lgc_le, lgc_ge, lgc_eq] at c_38
      try simp only [fl_lt, fl_le, fl_eq, fL_w, fL_lt, fL_le, tm1, tm10k, tm9, tm99, Int32.reduceToInt, Int64.reduceToInt, Int.not_lt, Int.not_le] at c_38
      refine gz_iload_n dX12_runs_41 rfl rfl ?_
      refine gz_aload_n dX12_runs_42 rfl rfl ?_
      refine mg_151 hS dX12_runs_43 ?_
      refine gz_iload_n dX12_runs_46 rfl rfl ?_
      refine gz_iload dX12_runs_47 rfl ?_
      refine gz_isub dX12_runs_49 ?_
      have qd : (x3 - i).toInt = x3.toInt - i.toInt := T_sub rfl rfl (by omega)
      refine scX12_463 (k_X12_powerW (x1 := (n 53)) (x2 := (x3 - i)) (by omega) (by omega)) ⟨(Nat.le_of_ble_eq_true rfl), (Nat.le_of_ble_eq_true rfl)⟩ ⟨(Nat.le_of_ble_eq_true rfl), (Nat.le_of_ble_eq_true rfl)⟩ rfl rfl (Nat.le_of_ble_eq_true rfl) dX12_runs_50 ?_
      rintro r_p f9 ⟨hp, y9⟩; rw [y9]
      refine gz_idiv dX12_runs_53 (by intro e; rw [e] at hp; have e0 : (0 : Int32).toInt = 0 := rfl; omega) ?_
      refine gz_istore (lv' := [(7, .int (x2 / r_p)), (6, .int i), (0, .ref m), (1, .int x1), (2, .int x2), (3, .int x3), (4, .long y)]) dX12_runs_54 (by decide) rfl ?_
      refine gz_aload_n dX12_runs_56 rfl rfl ?_
      refine gz_iload dX12_runs_57 rfl ?_
      refine gz_iload dX12_runs_59 rfl ?_
      refine scX12_453 (k_X12_asIn (x1 := i) (x2 := (x2 / r_p)) hS a53 (by omega) (div_ok h2 (by omega)).1) hS.1 ⟨(Nat.le_of_ble_eq_true rfl), (Nat.le_of_ble_eq_true rfl)⟩ ⟨(Nat.le_of_ble_eq_true rfl), (Nat.le_of_ble_eq_true rfl)⟩ rfl rfl (Nat.le_of_ble_eq_true rfl) dX12_runs_61 ?_
      rintro f_1 ⟨n_1, z_1, F_1, G_1, hS_1, hx1⟩
      refine gz_iconst (v := 0) dX12_runs_64 (by decide) ?_
      refine gz_istore (lv' := [(8, .int 0), (7, .int (x2 / r_p)), (6, .int i), (0, .ref m), (1, .int x1), (2, .int x2), (3, .int x3), (4, .long y)]) dX12_runs_65 (by decide) rfl ?_
      refine gz_aload_n dX12_runs_67 rfl rfl ?_
      refine mg_495 hS_1 dX12_runs_68 ?_
      refine gz_ev (w := .int (n 72)) (congrArg Value.int (hx1.1 72 (by decide))) ?_
      refine gz_istore (lv' := [(9, .int (n 72)), (8, .int 0), (7, .int (x2 / r_p)), (6, .int i), (0, .ref m), (1, .int x1), (2, .int x2), (3, .int x3), (4, .long y)]) dX12_runs_71 (by decide) rfl ?_
      have e72 : n_1 72 = n 72 := hx1.1 72 (by decide)
      have e5 : n_1 5 = n 5 := hx1.1 5 (by decide)
      have e73 : F_1 73 = F 73 := hx1.2.2.1 73 (by decide)
      obtain ⟨x7, hx7_⟩ : ∃ x7, x7 = (x2 / r_p) := ⟨_, rfl⟩
      refine gz_sub (lv' := [(9, .int (n 72)), (8, .int 0), (7, .int x7), (6, .int i), (0, .ref m), (1, .int x1), (2, .int x2), (3, .int x3), (4, .long y)]) (by rw [hx7_]; simp [List.lookup]) ?_
      refine l_X12_runs2 (i := i) (x7 := x7) a50 bA0 bW0 a530 ?_ 41 (n 72) 0 _ _ _ _ _ hS_1 (fx_tr hx hx1 (by decide)) (by rw [e72]; exact h72) (by obtain ⟨Qz, z1, z2⟩ := hQ; exact ⟨Qz, z1, by rw [e72, e5, e73]; exact ⟨fun q hq => vS_cg (hx1.2.2.1 6 (by decide)) (hx1.2.2.1 7 (by decide)) (z2.1 q hq), stk_w (fun k hk => hx1.2.2.1 k ((by decide : ∀ k : Nat, k ∈ wK → k ∉ ([] : List Nat)) k hk)) z2.2⟩⟩) (by have e0 : (0 : Int32).toInt = 0 := rfl; rw [e72]; omega) (by omega) (by obtain ⟨Qz, z1, z2⟩ := hQ; have z3 := stk_len bW z2.2; omega)
      clear hS hx h72 hQ a5 bA bW a53
      clear e72 e5 e73
      intro n z F G fm hS hx h72 hQ
      refine gz_iinc (v := (i + 1)) (lv' := [(6, .int (i + 1)), (0, .ref m), (1, .int x1), (2, .int x2), (3, .int x3), (4, .long y)]) dX12_runs_222 rfl rfl (by decide) rfl ?_
      refine gz_goto (tgt := 35) dX12_runs_225 (by decide) ?_
      refine gz_sub (lv' := [(6, .int (i + 1)), (0, .ref m), (1, .int x1), (2, .int x2), (3, .int x3), (4, .long y)]) (by simp [List.lookup]) ?_
      exact ih (i + 1) _ _ _ _ _ hS hx (h72) (hQ) ((by have q1_ := (T_add (rfl : (i).toInt = (i).toInt) (show (1 : Int32).toInt = 1 from rfl) (by omega)); omega)) ((by have q1_ := (T_add (rfl : (i).toInt = (i).toInt) (show (1 : Int32).toInt = 1 from rfl) (by omega)); omega))

set_option maxHeartbeats 4000000 in
set_option maxRecDepth 100000 in
theorem k_X12_runs {l : Launch} {D : va_G} {cy : Nat → ClassId} {b : Nat} {f : gMem} {m : Nat} {a : Nat → Nat} {f0 : gMem} {n : Nat → Int32} {z : Nat → Int64} {F : Nat → Nat → Int32} {G : Nat → Nat → Int64}  {x1 x2 x3 : Int32} {y : Int64} (hS : mS cy m a f0 n z F G f) (a5 : 0 ≤ (n 5).toInt ∧ (n 5).toInt ≤ 20) (bA : rAll F) (bW : rW F (n 5).toInt) (a53 : 1 ≤ (n 53).toInt ∧ (n 53).toInt ≤ 3) (h2 : 0 ≤ x2.toInt) (h3 : x3.toInt ≤ 4) (hf1 : 0 ≤ x1.toInt ∧ x1.toInt < (n 5).toInt) : gC l D cy b yX12_runs cX12_runs 15 none 4 0 0 [.ref m, .int x1, .int x2, .int x3, .long y] f (pV fun f2 => ∃ (n2 : Nat → Int32) (z2 : Nat → Int64) (F2 : Nat → Nat → Int32) (G2 : Nat → Nat → Int64), mS cy m a f0 n2 z2 F2 G2 f2 ∧ fx [43, 72] [29] [44, 73] [28, 45, 74, 75] n z F G n2 z2 F2 G2) := by
  refine gC_of (by decide) (Nat.le_of_ble_eq_true rfl) ?_
  show gG l _ _ _ D cy b cX12_runs 15 _ RX12 "runs" 0 0 f 0 [(0, .ref m), (1, .int x1), (2, .int x2), (3, .int x3), (4, .long y)] []
  refine gz_aload_n dX12_runs_0 rfl rfl ?_
  refine gz_iconst (v := 0) dX12_runs_1 (by decide) ?_
  refine mp_495 hS dX12_runs_2 (fun f_1 hS_1 => ?_)
  refine gz_aload_n dX12_runs_5 rfl rfl ?_
  refine gz_iconst (v := 0) dX12_runs_6 (by decide) ?_
  refine gz_iconst (v := 0) dX12_runs_7 (by decide) ?_
  refine scX12_453 (k_X12_asIn (x1 := 0) (x2 := 0) hS_1 a53 (by decide) (by decide)) hS_1.1 ⟨(Nat.le_of_ble_eq_true rfl), (Nat.le_of_ble_eq_true rfl)⟩ ⟨(Nat.le_of_ble_eq_true rfl), (Nat.le_of_ble_eq_true rfl)⟩ rfl rfl (Nat.le_of_ble_eq_true rfl) dX12_runs_8 ?_
  rintro f_2 ⟨n_2, z_2, F_2, G_2, hS_2, hx2⟩
  refine gz_aload_n dX12_runs_11 rfl rfl ?_
  refine mg_207 hS_2 dX12_runs_12 ?_
  refine gz_iconst (v := 0) dX12_runs_15 (by decide) ?_
  refine gz_dup2 dX12_runs_16 rfl rfl ?_
  refine m_lald 75 hS_2 rfl (N := 5) rfl (vin_T (v := 0) rfl (by decide) (by decide)) dX12_runs_17 ?_
  refine gz_ev (w := .long ((G 75) (Int32.toNatClampNeg 0))) (congrArg Value.long (congrFun (hx2.2.2.2 75 (by decide)) _)) ?_
  refine gz_lload dX12_runs_18 rfl ?_
  refine gz_aload_n dX12_runs_20 rfl rfl ?_
  refine gz_bipush (v := 40) dX12_runs_21 (by decide) ?_
  refine gz_iload_n dX12_runs_23 rfl rfl ?_
  refine gz_imul dX12_runs_24 ?_
  refine gz_lconst (v := 1) dX12_runs_25 (by decide) ?_
  have hxx : fx [72] [29] [] [28] n z F G n_2 z_2 F_2 G_2 := (fx_tr (fx_n fx_rf (by decide)) hx2 (by decide))
  have qx : (40 * x1).toInt = 40 * x1.toInt := T_mul (show (40 : Int32).toInt = 40 from rfl) rfl (by omega)
  have qc := clI (i := x1) (by omega)
  have qb := (bW (Int32.toNatClampNeg x1) (by omega)).1
  have hv0 : vW F (n 5).toInt (40 * x1).toInt := ⟨Int32.toNatClampNeg x1, 0, by omega, by omega, by omega⟩
  have qz := szF_pos bW hv0
  have e5 : n_2 5 = n 5 := hxx.1 5 (by decide)
  have e72 : (n_2 72).toInt = 0 := by rw [hx2.1 72 (by decide)]; rfl
  refine scX12_498 (k_X12_brings (x1 := (40 * x1)) (Qz := 0) (Bd := 40) hS_2 (by rw [e5]; exact a5) (rAll_w (fun k hk => hxx.2.2.1 k ((by decide : ∀ k : Nat, k ∈ wK → k ∉ ([] : List Nat)) k hk)) bA) (by rw [e5]; exact rW_w (fun k hk => hxx.2.2.1 k ((by decide : ∀ k : Nat, k ∈ wK → k ∉ ([] : List Nat)) k hk)) bW) (by rw [e5]; exact vW_cg (hxx.2.2.1 6 (by decide)) hv0) ⟨fun i hi => by omega, by rw [e72]; exact stk_0⟩ (by omega) ⟨by rw [szF_w (fun k hk => hxx.2.2.1 k ((by decide : ∀ k : Nat, k ∈ wK → k ∉ ([] : List Nat)) k hk))]; omega, by decide⟩) hS_2.1 ⟨(Nat.le_of_ble_eq_true rfl), (Nat.le_of_ble_eq_true rfl)⟩ ⟨(Nat.le_of_ble_eq_true rfl), (Nat.le_of_ble_eq_true rfl)⟩ rfl rfl (Nat.le_of_ble_eq_true rfl) dX12_runs_26 ?_
  rintro r_3 f_3 ⟨n_3, z_3, F_3, G_3, hS_3, hx3, hQ_3⟩
  refine gz_lmul dX12_runs_29 ?_
  refine gz_ladd dX12_runs_30 ?_
  refine m_last 75 hS_3 rfl (N := 5) rfl (vin_T (v := 0) rfl (by decide) (by decide)) dX12_runs_31 (fun f_4 hS_4q => ?_)
  have hS_4 : mS cy m a f0 n_3 z_3 F_3 (va_up G_3 75 (vp_updL (G 75) (Int32.toNatClampNeg 0) (((G 75) (Int32.toNatClampNeg 0)) + (y * r_3)))) f_4 := (by have e9 := (show G_3 75 = (G 75) from ((hx3.2.2.2 75 (by decide)).trans (hx2.2.2.2 75 (by decide)))); rw [e9] at hS_4q; exact hS_4q)
  refine gz_iconst (v := 1) dX12_runs_32 (by decide) ?_
  refine gz_istore (lv' := [(6, .int 1), (0, .ref m), (1, .int x1), (2, .int x2), (3, .int x3), (4, .long y)]) dX12_runs_33 (by decide) rfl ?_
  obtain ⟨Q2, z1, z2, z3⟩ := hQ_3
  refine gz_sub (lv' := [(6, .int 1), (0, .ref m), (1, .int x1), (2, .int x2), (3, .int x3), (4, .long y)]) (by simp [List.lookup]) ?_
  exact l_X12_runs a5 bA bW a53 h2 h3 5 1 _ _ _ _ _ hS_4 (fx_G (fx_tr (fx_tr (fx_n fx_rf (by decide)) hx2 (by decide)) hx3 (by decide)) (by decide)) (by show 0 ≤ (n_3 72).toInt; omega) ⟨Q2, z1, z2⟩ (by decide) (by decide)

set_option maxHeartbeats 4000000 in
set_option maxRecDepth 100000 in
theorem l_X12_parted1 {l : Launch} {D : va_G} {cy : Nat → ClassId} {b : Nat} {m : Nat} {a : Nat → Nat} {f0 : gMem} {n0 : Nat → Int32} {z0 : Nat → Int64} {F0 : Nat → Nat → Int32} {G0 : Nat → Nat → Int64}  {x1 x2 x3 : Int32} {wd : Int32} (hd : 1 ≤ x3.toInt ∧ x3.toInt ≤ 4) (hq : ∀  (n : Nat → Int32) (z : Nat → Int64) (F : Nat → Nat → Int32) (G : Nat → Nat → Int64) (fm : gMem), mS cy m a f0 n z F G fm → fx [43, 72] [29] [44, 56, 73] [28, 45, 74, 75] n0 z0 F0 G0 n z F G → (RI n F) → gG l (gRm 5 0 0) (gQf D b (pI fun r f2 => ∃ (n2 : Nat → Int32) (z2 : Nat → Int64) (F2 : Nat → Nat → Int32) (G2 : Nat → Nat → Int64), mS cy m a f0 n2 z2 F2 G2 f2 ∧ fx [43, 72] [29] [44, 56, 73] [28, 45, 74, 75] n0 z0 F0 G0 n2 z2 F2 G2 ∧ RI n2 F2) 0 0) gTt D cy b cX12_parted 6 (some .int) RX12 "parted" 0 0 fm 89 [(4, .int wd), (0, .ref m), (1, .int x1), (2, .int x2), (3, .int x3)] []) : ∀ (k : Nat) (e : Int32) (n : Nat → Int32) (z : Nat → Int64) (F : Nat → Nat → Int32) (G : Nat → Nat → Int64) (fm : gMem), mS cy m a f0 n z F G fm → fx [43, 72] [29] [44, 56, 73] [28, 45, 74, 75] n0 z0 F0 G0 n z F G → (RI n F) → (0 ≤ e.toInt ∧ e.toInt ≤ 5 ∧ e.toInt + (k : Int) = 6) → gG l (gRm 5 0 0) (gQf D b (pI fun r f2 => ∃ (n2 : Nat → Int32) (z2 : Nat → Int64) (F2 : Nat → Nat → Int32) (G2 : Nat → Nat → Int64), mS cy m a f0 n2 z2 F2 G2 f2 ∧ fx [43, 72] [29] [44, 56, 73] [28, 45, 74, 75] n0 z0 F0 G0 n2 z2 F2 G2 ∧ RI n2 F2) 0 0) gTt D cy b cX12_parted 6 (some .int) RX12 "parted" 0 0 fm 69 [(5, .int e), (4, .int wd), (0, .ref m), (1, .int x1), (2, .int x2), (3, .int x3)] [] := by
  intro k
  induction k with
  | zero =>
    intro e n z F G fm hS hx hR hk
    exfalso; omega
  | succ k ih =>
    intro e n z F G fm hS hx hR hk
    refine gz_iload dX12_parted_69 rfl ?_
    refine gz_iload_n dX12_parted_71 rfl rfl ?_
    refine gz_icmp_gt (tgt := 89) dX12_parted_72 (by decide) (fun c_72 => ?_) (fun c_72 => ?_)
    ·
      try simp only [mIn_0, lgc_lt, lgc_gt, lgc_le, lgc_ge, lgc_eq] at c_72
      try simp only [fl_lt, fl_le, fl_eq, fL_w, fL_lt, fL_le, tm1, tm10k, tm9, tm99, Int32.reduceToInt, Int64.reduceToInt, Int.not_lt, Int.not_le] at c_72
      refine gz_sub (lv' := [(4, .int wd), (0, .ref m), (1, .int x1), (2, .int x2), (3, .int x3)]) (by simp [List.lookup]) ?_
      exact hq  _ _ _ _ _ hS hx (hR)
    ·
      try simp only [mIn_0, lgc_lt, lgc_gt, lgc_le, lgc_ge, lgc_eq] at c_72
      try simp only [fl_lt, fl_le, fl_eq, fL_w, fL_lt, fL_le, tm1, tm10k, tm9, tm99, Int32.reduceToInt, Int64.reduceToInt, Int.not_lt, Int.not_le] at c_72
      refine gz_aload_n dX12_parted_75 rfl rfl ?_
      refine mg_207 hS dX12_parted_76 ?_
      refine gz_iload dX12_parted_79 rfl ?_
      refine gz_lconst (v := 0) dX12_parted_81 (by decide) ?_
      refine m_last 75 hS rfl (N := 5) rfl ((by exact vin_T (rfl : (e).toInt = (e).toInt) (by omega) (by omega))) dX12_parted_82 (fun f_1 hS_1q => ?_)
      have hS_1 : mS cy m a f0 n z F (va_up G 75 (vp_updL (G 75) (Int32.toNatClampNeg e) 0)) f_1 := hS_1q
      refine gz_iinc (v := (e + 1)) (lv' := [(5, .int (e + 1)), (4, .int wd), (0, .ref m), (1, .int x1), (2, .int x2), (3, .int x3)]) dX12_parted_83 rfl rfl (by decide) rfl ?_
      refine gz_goto (tgt := 69) dX12_parted_86 (by decide) ?_
      refine gz_sub (lv' := [(5, .int (e + 1)), (4, .int wd), (0, .ref m), (1, .int x1), (2, .int x2), (3, .int x3)]) (by simp [List.lookup]) ?_
      exact ih (e + 1) _ _ _ _ _ hS_1 (fx_G hx (by decide)) (hR) ((by have q1_ := (T_add (rfl : (e).toInt = (e).toInt) (show (1 : Int32).toInt = 1 from rfl) (by omega)); omega))

set_option maxHeartbeats 4000000 in
set_option maxRecDepth 100000 in
theorem l_X12_parted2 {l : Launch} {D : va_G} {cy : Nat → ClassId} {b : Nat} {m : Nat} {a : Nat → Nat} {f0 : gMem} {n0 : Nat → Int32} {z0 : Nat → Int64} {F0 : Nat → Nat → Int32} {G0 : Nat → Nat → Int64}  {x1 x2 x3 : Int32} {wd : Int32} (hd : 1 ≤ x3.toInt ∧ x3.toInt ≤ 4) (hq : ∀  (n : Nat → Int32) (z : Nat → Int64) (F : Nat → Nat → Int32) (G : Nat → Nat → Int64) (fm : gMem), mS cy m a f0 n z F G fm → fx [43, 72] [29] [44, 56, 73] [28, 45, 74, 75] n0 z0 F0 G0 n z F G → (RI n F) → gG l (gRm 5 0 0) (gQf D b (pI fun r f2 => ∃ (n2 : Nat → Int32) (z2 : Nat → Int64) (F2 : Nat → Nat → Int32) (G2 : Nat → Nat → Int64), mS cy m a f0 n2 z2 F2 G2 f2 ∧ fx [43, 72] [29] [44, 56, 73] [28, 45, 74, 75] n0 z0 F0 G0 n2 z2 F2 G2 ∧ RI n2 F2) 0 0) gTt D cy b cX12_parted 6 (some .int) RX12 "parted" 0 0 fm 139 [(4, .int wd), (0, .ref m), (1, .int x1), (2, .int x2), (3, .int x3)] []) : ∀ (k : Nat) (e : Int32) (n : Nat → Int32) (z : Nat → Int64) (F : Nat → Nat → Int32) (G : Nat → Nat → Int64) (fm : gMem), mS cy m a f0 n z F G fm → fx [43, 72] [29] [44, 56, 73] [28, 45, 74, 75] n0 z0 F0 G0 n z F G → (RI n F) → (0 ≤ e.toInt ∧ e.toInt ≤ 5 ∧ e.toInt + (k : Int) = 6) → gG l (gRm 5 0 0) (gQf D b (pI fun r f2 => ∃ (n2 : Nat → Int32) (z2 : Nat → Int64) (F2 : Nat → Nat → Int32) (G2 : Nat → Nat → Int64), mS cy m a f0 n2 z2 F2 G2 f2 ∧ fx [43, 72] [29] [44, 56, 73] [28, 45, 74, 75] n0 z0 F0 G0 n2 z2 F2 G2 ∧ RI n2 F2) 0 0) gTt D cy b cX12_parted 6 (some .int) RX12 "parted" 0 0 fm 112 [(5, .int e), (4, .int wd), (0, .ref m), (1, .int x1), (2, .int x2), (3, .int x3)] [] := by
  intro k
  induction k with
  | zero =>
    intro e n z F G fm hS hx hR hk
    exfalso; omega
  | succ k ih =>
    intro e n z F G fm hS hx hR hk
    refine gz_iload dX12_parted_112 rfl ?_
    refine gz_iload_n dX12_parted_114 rfl rfl ?_
    refine gz_icmp_gt (tgt := 139) dX12_parted_115 (by decide) (fun c_115 => ?_) (fun c_115 => ?_)
    ·
      try simp only [mIn_0, lgc_lt, lgc_gt, lgc_le, lgc_ge, lgc_eq] at c_115
      try simp only [fl_lt, fl_le, fl_eq, fL_w, fL_lt, fL_le, tm1, tm10k, tm9, tm99, Int32.reduceToInt, Int64.reduceToInt, Int.not_lt, Int.not_le] at c_115
      refine gz_sub (lv' := [(4, .int wd), (0, .ref m), (1, .int x1), (2, .int x2), (3, .int x3)]) (by simp [List.lookup]) ?_
      exact hq  _ _ _ _ _ hS hx (hR)
    ·
      try simp only [mIn_0, lgc_lt, lgc_gt, lgc_le, lgc_ge, lgc_eq] at c_115
      try simp only [fl_lt, fl_le, fl_eq, fL_w, fL_lt, fL_le, tm1, tm10k, tm9, tm99, Int32.reduceToInt, Int64.reduceToInt, Int.not_lt, Int.not_le] at c_115
      refine gz_aload_n dX12_parted_118 rfl rfl ?_
      refine mg_207 hS dX12_parted_119 ?_
      refine gz_iload dX12_parted_122 rfl ?_
      refine m_lald 75 hS rfl (N := 5) rfl ((by exact vin_T (rfl : (e).toInt = (e).toInt) (by omega) (by omega))) dX12_parted_124 ?_
      refine gz_lconst (v := 0) dX12_parted_125 (by decide) ?_
      refine gz_lcmp dX12_parted_126 ?_
      refine gz_if_eq (tgt := 133) dX12_parted_127 (by decide) (fun c_127 => ?_) (fun c_127 => ?_)
      ·
        try simp only [mIn_0, lgc_lt, lgc_gt, lgc_le, lgc_ge, lgc_eq] at c_127
        try simp only [fl_lt, fl_le, fl_eq, fL_w, fL_lt, fL_le, tm1, tm10k, tm9, tm99, Int32.reduceToInt, Int64.reduceToInt, Int.not_lt, Int.not_le] at c_127
        refine gz_iinc (v := (e + 1)) (lv' := [(5, .int (e + 1)), (4, .int wd), (0, .ref m), (1, .int x1), (2, .int x2), (3, .int x3)]) dX12_parted_133 rfl rfl (by decide) rfl ?_
        refine gz_goto (tgt := 112) dX12_parted_136 (by decide) ?_
        refine gz_sub (lv' := [(5, .int (e + 1)), (4, .int wd), (0, .ref m), (1, .int x1), (2, .int x2), (3, .int x3)]) (by simp [List.lookup]) ?_
        exact ih (e + 1) _ _ _ _ _ hS hx (hR) ((by have q1_ := (T_add (rfl : (e).toInt = (e).toInt) (show (1 : Int32).toInt = 1 from rfl) (by omega)); omega))
      ·
        try simp only [mIn_0, lgc_lt, lgc_gt, lgc_le, lgc_ge, lgc_eq] at c_127
        try simp only [fl_lt, fl_le, fl_eq, fL_w, fL_lt, fL_le, tm1, tm10k, tm9, tm99, Int32.reduceToInt, Int64.reduceToInt, Int.not_lt, Int.not_le] at c_127
        refine gz_iload dX12_parted_130 rfl ?_
        exact gz_iret rfl dX12_parted_132 (Nat.le_of_ble_eq_true rfl) (Nat.le_of_ble_eq_true rfl) (⟨_, rfl, _, _, _, _, hS, hx, hR⟩)

set_option maxHeartbeats 4000000 in
set_option maxRecDepth 100000 in
theorem l_X12_parted {l : Launch} {D : va_G} {cy : Nat → ClassId} {b : Nat} {m : Nat} {a : Nat → Nat} {f0 : gMem} {n0 : Nat → Int32} {z0 : Nat → Int64} {F0 : Nat → Nat → Int32} {G0 : Nat → Nat → Int64}  {x1 x2 x3 : Int32} (hd : 1 ≤ x3.toInt ∧ x3.toInt ≤ 4) (hfa : 0 ≤ x1.toInt ∧ x1.toInt < (n0 5).toInt) (hfb : 0 ≤ x2.toInt ∧ x2.toInt < (n0 5).toInt) : ∀ (k : Nat) (wd : Int32) (n : Nat → Int32) (z : Nat → Int64) (F : Nat → Nat → Int32) (G : Nat → Nat → Int64) (fm : gMem), mS cy m a f0 n z F G fm → fx [43, 72] [29] [44, 56, 73] [28, 45, 74, 75] n0 z0 F0 G0 n z F G → (RI n F) → (0 ≤ wd.toInt ∧ wd.toInt ≤ 81 ∧ wd.toInt + (k : Int) = 82) → gG l (gRm 5 0 0) (gQf D b (pI fun r f2 => ∃ (n2 : Nat → Int32) (z2 : Nat → Int64) (F2 : Nat → Nat → Int32) (G2 : Nat → Nat → Int64), mS cy m a f0 n2 z2 F2 G2 f2 ∧ fx [43, 72] [29] [44, 56, 73] [28, 45, 74, 75] n0 z0 F0 G0 n2 z2 F2 G2 ∧ RI n2 F2) 0 0) gTt D cy b cX12_parted 6 (some .int) RX12 "parted" 0 0 fm 53 [(4, .int wd), (0, .ref m), (1, .int x1), (2, .int x2), (3, .int x3)] [] := by
  intro k
  induction k with
  | zero =>
    intro wd n z F G fm hS hx hR hk
    exfalso; omega
  | succ k ih =>
    intro wd n z F G fm hS hx hR hk
    obtain ⟨a0, a4, a5, bA, bW, a30, bL, a38, bP, a53, a47, a88⟩ := id hR
    refine gz_iload dX12_parted_53 rfl ?_
    refine gz_aload_n dX12_parted_55 rfl rfl ?_
    refine mg_151 hS dX12_parted_56 ?_
    refine gz_iload_n dX12_parted_59 rfl rfl ?_
    refine scX12_463 (k_X12_powerW (x1 := (n 53)) (x2 := x3) (by omega) (by omega)) ⟨(Nat.le_of_ble_eq_true rfl), (Nat.le_of_ble_eq_true rfl)⟩ ⟨(Nat.le_of_ble_eq_true rfl), (Nat.le_of_ble_eq_true rfl)⟩ rfl rfl (Nat.le_of_ble_eq_true rfl) dX12_parted_60 ?_
    rintro r_p f9 ⟨hp, y9⟩; rw [y9]
    refine gz_icmp_ge (tgt := 145) dX12_parted_63 (by decide) (fun c_63 => ?_) (fun c_63 => ?_)
    ·
      try simp only [mIn_0, lgc_lt, lgc_gt, lgc_le, lgc_ge, lgc_eq] at c_63
      try simp only [fl_lt, fl_le, fl_eq, fL_w, fL_lt, fL_le, tm1, tm10k, tm9, tm99, Int32.reduceToInt, Int64.reduceToInt, Int.not_lt, Int.not_le] at c_63
      refine gz_bipush (v := (-2)) dX12_parted_145 (by decide) ?_
      exact gz_iret rfl dX12_parted_147 (Nat.le_of_ble_eq_true rfl) (Nat.le_of_ble_eq_true rfl) (⟨_, rfl, _, _, _, _, hS, hx, hR⟩)
    ·
      try simp only [mIn_0, lgc_lt, lgc_gt, lgc_le, lgc_ge, lgc_eq] at c_63
      try simp only [fl_lt, fl_le, fl_eq, fL_w, fL_lt, fL_le, tm1, tm10k, tm9, tm99, Int32.reduceToInt, Int64.reduceToInt, Int.not_lt, Int.not_le] at c_63
      refine gz_iconst (v := 0) dX12_parted_66 (by decide) ?_
      refine gz_istore (lv' := [(5, .int 0), (4, .int wd), (0, .ref m), (1, .int x1), (2, .int x2), (3, .int x3)]) dX12_parted_67 (by decide) rfl ?_
      refine gz_sub (lv' := [(5, .int 0), (4, .int wd), (0, .ref m), (1, .int x1), (2, .int x2), (3, .int x3)]) (by simp [List.lookup]) ?_
      refine l_X12_parted1 (wd := wd) hd ?_ 6 0 _ _ _ _ _ hS hx hR (by decide)
      clear hS hx hR a0 a4 a5 bA bW a30 bL a38 bP a53 a47 a88
      intro n z F G fm hS hx hR
      obtain ⟨a0, a4, a5, bA, bW, a30, bL, a38, bP, a53, a47, a88⟩ := id hR
      refine gz_aload_n dX12_parted_89 rfl rfl ?_
      refine gz_iload_n dX12_parted_90 rfl rfl ?_
      refine gz_iload dX12_parted_91 rfl ?_
      refine gz_iload_n dX12_parted_93 rfl rfl ?_
      refine gz_lconst (v := 1) dX12_parted_94 (by decide) ?_
      obtain ⟨b0, b4, b5, bA_, bW_, b30, bL_, b38, bP_, b53, b47, b88⟩ := id hR
      refine scX12_504 (k_X12_runs (x1 := x1) (x2 := wd) (x3 := x3) hS b5 bA_ bW_ b53 (by omega) (by omega) (by rw [show n 5 = n0 5 from (hx.1 5 (by decide))]; omega)) hS.1 ⟨(Nat.le_of_ble_eq_true rfl), (Nat.le_of_ble_eq_true rfl)⟩ ⟨(Nat.le_of_ble_eq_true rfl), (Nat.le_of_ble_eq_true rfl)⟩ rfl rfl (Nat.le_of_ble_eq_true rfl) dX12_parted_95 ?_
      rintro f_1 ⟨n_1, z_1, F_1, G_1, hS_1, hx1⟩
      have hR_1 := RI_fx hR hx1 (by decide) (by decide)
      refine gz_aload_n dX12_parted_98 rfl rfl ?_
      refine gz_iload_n dX12_parted_99 rfl rfl ?_
      refine gz_iload dX12_parted_100 rfl ?_
      refine gz_iload_n dX12_parted_102 rfl rfl ?_
      refine gz_ldc2 (v := (-1)) wd_815 dX12_parted_103 ?_
      obtain ⟨b0, b4, b5, bA_, bW_, b30, bL_, b38, bP_, b53, b47, b88⟩ := id hR_1
      refine scX12_504 (k_X12_runs (x1 := x2) (x2 := wd) (x3 := x3) hS_1 b5 bA_ bW_ b53 (by omega) (by omega) (by rw [show n_1 5 = n0 5 from ((hx1.1 5 (by decide)).trans (hx.1 5 (by decide)))]; omega)) hS_1.1 ⟨(Nat.le_of_ble_eq_true rfl), (Nat.le_of_ble_eq_true rfl)⟩ ⟨(Nat.le_of_ble_eq_true rfl), (Nat.le_of_ble_eq_true rfl)⟩ rfl rfl (Nat.le_of_ble_eq_true rfl) dX12_parted_106 ?_
      rintro f_2 ⟨n_2, z_2, F_2, G_2, hS_2, hx2⟩
      have hR_2 := RI_fx hR_1 hx2 (by decide) (by decide)
      refine gz_iconst (v := 0) dX12_parted_109 (by decide) ?_
      refine gz_istore (lv' := [(5, .int 0), (4, .int wd), (0, .ref m), (1, .int x1), (2, .int x2), (3, .int x3)]) dX12_parted_110 (by decide) rfl ?_
      refine gz_sub (lv' := [(5, .int 0), (4, .int wd), (0, .ref m), (1, .int x1), (2, .int x2), (3, .int x3)]) (by simp [List.lookup]) ?_
      refine l_X12_parted2 (wd := wd) hd ?_ 6 0 _ _ _ _ _ hS_2 (fx_tr (fx_tr hx hx1 (by decide)) hx2 (by decide)) hR_2 (by decide)
      clear hS
      intro n z F G fm hS hx hR
      obtain ⟨a0, a4, a5, bA, bW, a30, bL, a38, bP, a53, a47, a88⟩ := id hR
      refine gz_iinc (v := (wd + 1)) (lv' := [(4, .int (wd + 1)), (0, .ref m), (1, .int x1), (2, .int x2), (3, .int x3)]) dX12_parted_139 rfl rfl (by decide) rfl ?_
      refine gz_goto (tgt := 53) dX12_parted_142 (by decide) ?_
      refine gz_sub (lv' := [(4, .int (wd + 1)), (0, .ref m), (1, .int x1), (2, .int x2), (3, .int x3)]) (by simp [List.lookup]) ?_
      exact ih (wd + 1) _ _ _ _ _ hS hx (hR) ((by have q1_ := (T_add (rfl : (wd).toInt = (wd).toInt) (show (1 : Int32).toInt = 1 from rfl) (by omega)); omega))

set_option maxHeartbeats 4000000 in
set_option maxRecDepth 100000 in
theorem k_X12_parted {l : Launch} {D : va_G} {cy : Nat → ClassId} {b : Nat} {f : gMem} {m : Nat} {a : Nat → Nat} {f0 : gMem} {n : Nat → Int32} {z : Nat → Int64} {F : Nat → Nat → Int32} {G : Nat → Nat → Int64}  {x1 x2 x3 : Int32} (hS : mS cy m a f0 n z F G f) (hR : RI n F) : gC l D cy b yX12_parted cX12_parted 6 (some .int) 5 0 0 [.ref m, .int x1, .int x2, .int x3] f (pI fun r f2 => ∃ (n2 : Nat → Int32) (z2 : Nat → Int64) (F2 : Nat → Nat → Int32) (G2 : Nat → Nat → Int64), mS cy m a f0 n2 z2 F2 G2 f2 ∧ fx [43, 72] [29] [44, 56, 73] [28, 45, 74, 75] n z F G n2 z2 F2 G2 ∧ RI n2 F2) := by
  obtain ⟨a0, a4, a5, bA, bW, a30, bL, a38, bP, a53, a47, a88⟩ := id hR
  refine gC_of (by decide) (Nat.le_of_ble_eq_true rfl) ?_
  show gG l _ _ _ D cy b cX12_parted 6 _ RX12 "parted" 0 0 f 0 [(0, .ref m), (1, .int x1), (2, .int x2), (3, .int x3)] []
  refine gz_aload_n dX12_parted_0 rfl rfl ?_
  refine gz_iload_n dX12_parted_1 rfl rfl ?_
  refine scX12_337 (k_X12_isForm (x1 := x1) hS ) hS.1 ⟨(Nat.le_of_ble_eq_true rfl), (Nat.le_of_ble_eq_true rfl)⟩ ⟨(Nat.le_of_ble_eq_true rfl), (Nat.le_of_ble_eq_true rfl)⟩ rfl rfl (Nat.le_of_ble_eq_true rfl) dX12_parted_2 ?_
  rintro r_1 f9 ⟨hb_1, y9⟩; rw [y9]
  try rw [(show n 5 = (n 5) from rfl)] at hb_1
  have hbb_1 : r_1 = 0 ∨ r_1 = 1 := hb_1.imp_right And.left
  simp only [fl_eq, Int32.reduceToInt] at hb_1
  refine gz_if_eq (tgt := 44) dX12_parted_5 (by decide) (fun c_5 => ?_) (fun c_5 => ?_)
  ·
    try simp only [mIn_0, lgc_lt, lgc_gt, lgc_le, lgc_ge, lgc_eq] at c_5
    try simp only [fl_lt, fl_le, fl_eq, fL_w, fL_lt, fL_le, tm1, tm10k, tm9, tm99, Int32.reduceToInt, Int64.reduceToInt, Int.not_lt, Int.not_le] at c_5
    refine gz_iconst (v := (-1)) dX12_parted_44 (by decide) ?_
    exact gz_iret rfl dX12_parted_45 (Nat.le_of_ble_eq_true rfl) (Nat.le_of_ble_eq_true rfl) (⟨_, rfl, _, _, _, _, hS, fx_rf, hR⟩)
  ·
    try simp only [mIn_0, lgc_lt, lgc_gt, lgc_le, lgc_ge, lgc_eq] at c_5
    try simp only [fl_lt, fl_le, fl_eq, fL_w, fL_lt, fL_le, tm1, tm10k, tm9, tm99, Int32.reduceToInt, Int64.reduceToInt, Int.not_lt, Int.not_le] at c_5
    refine gz_aload_n dX12_parted_8 rfl rfl ?_
    refine gz_iload_n dX12_parted_9 rfl rfl ?_
    refine scX12_337 (k_X12_isForm (x1 := x2) hS ) hS.1 ⟨(Nat.le_of_ble_eq_true rfl), (Nat.le_of_ble_eq_true rfl)⟩ ⟨(Nat.le_of_ble_eq_true rfl), (Nat.le_of_ble_eq_true rfl)⟩ rfl rfl (Nat.le_of_ble_eq_true rfl) dX12_parted_10 ?_
    rintro r_2 f9 ⟨hb_2, y9⟩; rw [y9]
    try rw [(show n 5 = (n 5) from rfl)] at hb_2
    have hbb_2 : r_2 = 0 ∨ r_2 = 1 := hb_2.imp_right And.left
    simp only [fl_eq, Int32.reduceToInt] at hb_2
    refine gz_if_eq (tgt := 44) dX12_parted_13 (by decide) (fun c_13 => ?_) (fun c_13 => ?_)
    ·
      try simp only [mIn_0, lgc_lt, lgc_gt, lgc_le, lgc_ge, lgc_eq] at c_13
      try simp only [fl_lt, fl_le, fl_eq, fL_w, fL_lt, fL_le, tm1, tm10k, tm9, tm99, Int32.reduceToInt, Int64.reduceToInt, Int.not_lt, Int.not_le] at c_13
      refine gz_iconst (v := (-1)) dX12_parted_44 (by decide) ?_
      exact gz_iret rfl dX12_parted_45 (Nat.le_of_ble_eq_true rfl) (Nat.le_of_ble_eq_true rfl) (⟨_, rfl, _, _, _, _, hS, fx_rf, hR⟩)
    ·
      try simp only [mIn_0, lgc_lt, lgc_gt, lgc_le, lgc_ge, lgc_eq] at c_13
      try simp only [fl_lt, fl_le, fl_eq, fL_w, fL_lt, fL_le, tm1, tm10k, tm9, tm99, Int32.reduceToInt, Int64.reduceToInt, Int.not_lt, Int.not_le] at c_13
      refine gz_iload_n dX12_parted_16 rfl rfl ?_
      refine gz_i2l dX12_parted_17 ?_
      refine gz_lconst (v := 1) dX12_parted_18 (by decide) ?_
      refine gz_ldc2 (v := (4)) wd_956 dX12_parted_19 ?_
      refine scX12_245 (k_X12_in (x := x3.toInt64) (y := 1) (w := (4))) ⟨(Nat.le_of_ble_eq_true rfl), (Nat.le_of_ble_eq_true rfl)⟩ ⟨(Nat.le_of_ble_eq_true rfl), (Nat.le_of_ble_eq_true rfl)⟩ rfl rfl (Nat.le_of_ble_eq_true rfl) dX12_parted_22 ?_
      intro v9 f9 z9; rw [z9.1, z9.2]
      refine gz_if_eq (tgt := 44) dX12_parted_25 (by decide) (fun c_25 => ?_) (fun c_25 => ?_)
      ·
        try simp only [mIn_0, lgc_lt, lgc_gt, lgc_le, lgc_ge, lgc_eq] at c_25
        try simp only [fl_lt, fl_le, fl_eq, fL_w, fL_lt, fL_le, tm1, tm10k, tm9, tm99, Int32.reduceToInt, Int64.reduceToInt, Int.not_lt, Int.not_le] at c_25
        refine gz_iconst (v := (-1)) dX12_parted_44 (by decide) ?_
        exact gz_iret rfl dX12_parted_45 (Nat.le_of_ble_eq_true rfl) (Nat.le_of_ble_eq_true rfl) (⟨_, rfl, _, _, _, _, hS, fx_rf, hR⟩)
      ·
        try simp only [mIn_0, lgc_lt, lgc_gt, lgc_le, lgc_ge, lgc_eq] at c_25
        try simp only [fl_lt, fl_le, fl_eq, fL_w, fL_lt, fL_le, tm1, tm10k, tm9, tm99, Int32.reduceToInt, Int64.reduceToInt, Int.not_lt, Int.not_le] at c_25
        refine gz_aload_n dX12_parted_28 rfl rfl ?_
        refine gz_iload_n dX12_parted_29 rfl rfl ?_
        refine scX12_501 (k_X12_hasChoice (x1 := x1) hS (by omega) (by have := (bW (Int32.toNatClampNeg x1) (by have := clI (i := x1) (by omega); omega)).1; omega)) hS.1 ⟨(Nat.le_of_ble_eq_true rfl), (Nat.le_of_ble_eq_true rfl)⟩ ⟨(Nat.le_of_ble_eq_true rfl), (Nat.le_of_ble_eq_true rfl)⟩ rfl rfl (Nat.le_of_ble_eq_true rfl) dX12_parted_30 ?_
        rintro r_3 f9 ⟨hb_3, y9⟩; rw [y9]
        refine gz_if_ne (tgt := 44) dX12_parted_33 (by decide) (fun c_33 => ?_) (fun c_33 => ?_)
        ·
          try simp only [mIn_0, lgc_lt, lgc_gt, lgc_le, lgc_ge, lgc_eq] at c_33
          try simp only [fl_lt, fl_le, fl_eq, fL_w, fL_lt, fL_le, tm1, tm10k, tm9, tm99, Int32.reduceToInt, Int64.reduceToInt, Int.not_lt, Int.not_le] at c_33
          refine gz_iconst (v := (-1)) dX12_parted_44 (by decide) ?_
          exact gz_iret rfl dX12_parted_45 (Nat.le_of_ble_eq_true rfl) (Nat.le_of_ble_eq_true rfl) (⟨_, rfl, _, _, _, _, hS, fx_rf, hR⟩)
        ·
          try simp only [mIn_0, lgc_lt, lgc_gt, lgc_le, lgc_ge, lgc_eq] at c_33
          try simp only [fl_lt, fl_le, fl_eq, fL_w, fL_lt, fL_le, tm1, tm10k, tm9, tm99, Int32.reduceToInt, Int64.reduceToInt, Int.not_lt, Int.not_le] at c_33
          refine gz_aload_n dX12_parted_36 rfl rfl ?_
          refine gz_iload_n dX12_parted_37 rfl rfl ?_
          refine scX12_501 (k_X12_hasChoice (x1 := x2) hS (by omega) (by have := (bW (Int32.toNatClampNeg x2) (by have := clI (i := x2) (by omega); omega)).1; omega)) hS.1 ⟨(Nat.le_of_ble_eq_true rfl), (Nat.le_of_ble_eq_true rfl)⟩ ⟨(Nat.le_of_ble_eq_true rfl), (Nat.le_of_ble_eq_true rfl)⟩ rfl rfl (Nat.le_of_ble_eq_true rfl) dX12_parted_38 ?_
          rintro r_4 f9 ⟨hb_4, y9⟩; rw [y9]
          refine gz_if_eq (tgt := 46) dX12_parted_41 (by decide) (fun c_41 => ?_) (fun c_41 => ?_)
          ·
            try simp only [mIn_0, lgc_lt, lgc_gt, lgc_le, lgc_ge, lgc_eq] at c_41
            try simp only [fl_lt, fl_le, fl_eq, fL_w, fL_lt, fL_le, tm1, tm10k, tm9, tm99, Int32.reduceToInt, Int64.reduceToInt, Int.not_lt, Int.not_le] at c_41
            refine gz_aload_n dX12_parted_46 rfl rfl ?_
            refine scX12_479 (k_X12_starts hS a0) hS.1 ⟨(Nat.le_of_ble_eq_true rfl), (Nat.le_of_ble_eq_true rfl)⟩ ⟨(Nat.le_of_ble_eq_true rfl), (Nat.le_of_ble_eq_true rfl)⟩ rfl rfl (Nat.le_of_ble_eq_true rfl) dX12_parted_47 ?_
            rintro f_5 ⟨n_5, z_5, F_5, G_5, hS_5, hx5⟩
            refine gz_iconst (v := 0) dX12_parted_50 (by decide) ?_
            refine gz_istore (lv' := [(4, .int 0), (0, .ref m), (1, .int x1), (2, .int x2), (3, .int x3)]) dX12_parted_51 (by decide) rfl ?_
            refine gz_sub (lv' := [(4, .int 0), (0, .ref m), (1, .int x1), (2, .int x2), (3, .int x3)]) (by simp [List.lookup]) ?_
            exact l_X12_parted (by omega) (by omega) (by omega) 82 0 _ _ _ _ _ hS_5 (fx_tr fx_rf hx5 (by decide)) (RI_fx hR hx5 (by decide) (by decide)) (by decide)
          ·
            try simp only [mIn_0, lgc_lt, lgc_gt, lgc_le, lgc_ge, lgc_eq] at c_41
            try simp only [fl_lt, fl_le, fl_eq, fL_w, fL_lt, fL_le, tm1, tm10k, tm9, tm99, Int32.reduceToInt, Int64.reduceToInt, Int.not_lt, Int.not_le] at c_41
            refine gz_iconst (v := (-1)) dX12_parted_44 (by decide) ?_
            exact gz_iret rfl dX12_parted_45 (Nat.le_of_ble_eq_true rfl) (Nat.le_of_ble_eq_true rfl) (⟨_, rfl, _, _, _, _, hS, fx_rf, hR⟩)
