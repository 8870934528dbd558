set_option maxHeartbeats 4000000 in
set_option maxRecDepth 100000 in
theorem l_X12_tell {l : Launch} {D : va_G} {cy : Nat → ClassId} {b : Nat} {m : Nat} {a : Nat → Nat} {f0 : gMem} {n0 : Nat → Int32} {z0 : Nat → Int64} {F0 : Nat → Nat → Int32} {G0 : Nat → Nat → Int64}  {x1 : Int32}  : ∀ (k : Nat) (Az Bz : Nat) (n : Nat → Int32) (z : Nat → Int64) (F : Nat → Nat → Int32) (G : Nat → Nat → Int64) (fm : gMem), mS cy m a f0 n z F G fm → fx [83, 88, 89] [] [84, 85, 86, 87] [] n0 z0 F0 G0 n z F G → (RI n F) → (tkT F (n 5).toInt (F 84) (n 83).toInt.toNat Az Bz) → (0 ≤ (n 83).toInt) → ((n 88).toInt + (Az : Int) ≤ 1000) → (Bz ≤ 119) → (Bz < k) → gG l (gRm 4 0 0) (gQf D b (pI fun r f2 => ∃ (n2 : Nat → Int32) (z2 : Nat → Int64) (F2 : Nat → Nat → Int32) (G2 : Nat → Nat → Int64), mS cy m a f0 n2 z2 F2 G2 f2 ∧ fx [83, 88, 89] [] [84, 85, 86, 87] [] n0 z0 F0 G0 n2 z2 F2 G2 ∧ RI n2 F2) 0 0) gTt D cy b cX12_tell 4 (some .int) RX12 "tell" 0 0 fm 35 [(0, .ref m), (1, .int x1)] [] := by
  intro k
  induction k with
  | zero =>
    intro Az Bz n z F G fm hS hx hR hT h83 h8 hB hk
    exfalso; omega
  | succ k ih =>
    intro Az Bz n z F G fm hS hx hR hT h83 h8 hB hk
    obtain ⟨a0, a4, a5, bA, bW, a30, bL, a38, bP, a53, a47, a88⟩ := id hR
    have ql := tkT_len bW hT
    refine gz_aload_n dX12_tell_35 rfl rfl ?_
    refine mg_524 hS dX12_tell_36 ?_
    refine gz_if_le (tgt := 200) dX12_tell_39 (by decide) (fun c_39 => ?_) (fun c_39 => ?_)
    ·
      try simp only [mIn_0, lgc_lt, lgc_gt, lgc_le, lgc_ge, lgc_eq] at c_39
      try simp only [fl_lt, fl_le, fl_eq, fL_w, fL_lt, fL_le, tm1, tm10k, tm9, tm99, Int32.reduceToInt, Int64.reduceToInt, Int.not_lt, Int.not_le] at c_39
      refine gz_aload_n dX12_tell_200 rfl rfl ?_
      refine mg_541 hS dX12_tell_201 ?_
      exact gz_iret rfl dX12_tell_204 (Nat.le_of_ble_eq_true rfl) (Nat.le_of_ble_eq_true rfl) (⟨_, rfl, _, _, _, _, hS, hx, hR⟩)
    ·
      try simp only [mIn_0, lgc_lt, lgc_gt, lgc_le, lgc_ge, lgc_eq] at c_39
      try simp only [fl_lt, fl_le, fl_eq, fL_w, fL_lt, fL_le, tm1, tm10k, tm9, tm99, Int32.reduceToInt, Int64.reduceToInt, Int.not_lt, Int.not_le] at c_39
      refine gz_aload_n dX12_tell_42 rfl rfl ?_
      refine gz_dup dX12_tell_43 rfl ?_
      refine mg_524 hS dX12_tell_44 ?_
      refine gz_iconst (v := 1) dX12_tell_47 (by decide) ?_
      refine gz_isub dX12_tell_48 ?_
      refine mp_524 hS dX12_tell_49 (fun f_1 hS_1 => ?_)
      refine gz_aload_n dX12_tell_52 rfl rfl ?_
      refine mg_231 hS_1 dX12_tell_53 ?_
      refine gz_aload_n dX12_tell_56 rfl rfl ?_
      refine mg_524 hS_1 dX12_tell_57 ?_
      refine gz_ev (w := .int ((n 83) - 1)) rfl ?_
      refine m_iald 84 hS_1 rfl (N := 120) rfl ((by have q9 := (T_sub (rfl : ((n 83)).toInt = ((n 83)).toInt) (show (1 : Int32).toInt = 1 from rfl) (by omega)); exact vin_T q9 (by omega) (by omega))) dX12_tell_60 ?_
      refine gz_ev (w := .int ((F 84) (Int32.toNatClampNeg ((n 83) - 1)))) rfl ?_
      have t1 : ((n 83) - 1).toInt = (n 83).toInt - 1 := T_sub rfl (show (1 : Int32).toInt = 1 from rfl) (by omega)
      obtain ⟨wv, hwv⟩ : ∃ wv, wv = ((F 84) (Int32.toNatClampNeg ((n 83) - 1))) := ⟨_, rfl⟩
      refine gz_ev (w := .int wv) (congrArg Value.int hwv.symm) ?_
      obtain ⟨hv, A2, B2, hT3, hA3, hB3⟩ := tkT_pop (t := ((n 83) - 1).toInt.toNat) (show tkT F (n 5).toInt (F 84) (((n 83) - 1).toInt.toNat + 1) Az Bz by rw [show ((n 83) - 1).toInt.toNat + 1 = (n 83).toInt.toNat by omega]; exact hT)
      have hv2 : wv.toInt = -1 ∨ wv.toInt = -2 ∨ vW F (n 5).toInt wv.toInt := by rw [hwv]; exact hv
      have hA4 : A2 + csT F wv.toInt = Az := by rw [hwv]; exact hA3
      have hB4 : B2 + wgT F wv.toInt = Bz := by rw [hwv]; exact hB3
      have ql2 := tkT_len bW hT3
      refine gz_istore_n (lv' := [(2, .int wv), (0, .ref m), (1, .int x1)]) dX12_tell_61 rfl (by decide) rfl ?_
      refine gz_iload_n dX12_tell_62 rfl rfl ?_
      refine gz_if_ge (tgt := 85) dX12_tell_63 (by decide) (fun c_63 => ?_) (fun c_63 => ?_)
      ·
        try simp only [mIn_0, lgc_lt, lgc_gt, lgc_le, lgc_ge, lgc_eq] at c_63
        try simp only [fl_lt, fl_le, fl_eq, fL_w, fL_lt, fL_le, tm1, tm10k, tm9, tm99, Int32.reduceToInt, Int64.reduceToInt, Int.not_lt, Int.not_le] at c_63
        have hw : vW F (n 5).toInt wv.toInt := by rcases hv2 with z9 | z9 | z9 <;> first | exact z9 | (exfalso; omega)
        have qv := vW_lt bW a5 hw
        have qz := szF_pos bW hw
        have qo := vsW_own bW hw
        have qk : 0 ≤ (F 7 (Int32.toNatClampNeg wv)).toInt ∧ (F 7 (Int32.toNatClampNeg wv)).toInt ≤ 10 := knd_ok bW hw
        have qc := csT_v (F := F) (x := wv.toInt) (by omega)
        have qw := wgT_v (F := F) (x := wv.toInt) (by omega)
        refine gz_aload_n dX12_tell_85 rfl rfl ?_
        refine gz_iload_n dX12_tell_86 rfl rfl ?_
        refine scX12_561 (k_X12_tells (x1 := wv) hS_1 a5 bA bW hw (by (try rw [(show (va_up n 83 ((n 83) - 1)) 88 = (n 88) from rfl)]); omega)) hS_1.1 ⟨(Nat.le_of_ble_eq_true rfl), (Nat.le_of_ble_eq_true rfl)⟩ ⟨(Nat.le_of_ble_eq_true rfl), (Nat.le_of_ble_eq_true rfl)⟩ rfl rfl (Nat.le_of_ble_eq_true rfl) dX12_tell_87 ?_
        rintro f_2 ⟨n_2, z_2, F_2, G_2, hS_2, hx2, h8a_2, h8b_2, h8c_2⟩
        try simp only [(show (va_up n 83 ((n 83) - 1)) 88 = (n 88) from rfl)] at h8a_2 h8b_2 h8c_2
        try simp only [(show (va_up n 83 ((n 83) - 1)) 89 = (n 89) from rfl)] at h8a_2 h8b_2 h8c_2
        refine gz_aload_n dX12_tell_90 rfl rfl ?_
        refine mg_20 hS_2 dX12_tell_91 ?_
        refine gz_iload_n dX12_tell_94 rfl rfl ?_
        refine m_iald 7 hS_2 rfl (N := 880) rfl ((by exact vin_T (rfl : (wv).toInt = (wv).toInt) (by omega) (by omega))) dX12_tell_95 ?_
        refine gz_ev (w := .int ((F 7) (Int32.toNatClampNeg wv))) (congrArg Value.int (congrFun (hx2.2.2.1 7 (by decide)) _)) ?_
        refine gz_if_eq (tgt := 35) dX12_tell_96 (by decide) (fun c_96 => ?_) (fun c_96 => ?_)
        ·
          try simp only [mIn_0, lgc_lt, lgc_gt, lgc_le, lgc_ge, lgc_eq] at c_96
          try simp only [fl_lt, fl_le, fl_eq, fL_w, fL_lt, fL_le, tm1, tm10k, tm9, tm99, Int32.reduceToInt, Int64.reduceToInt, Int.not_lt, Int.not_le] at c_96
          refine gz_sub (lv' := [(0, .ref m), (1, .int x1)]) (by simp [List.lookup]) ?_
          have hxx : fx [83, 88, 89] [] [84, 85, 86, 87] [] n z F G n_2 z_2 F_2 G_2 := (fx_tr (fx_n fx_rf (by decide)) hx2 (by decide))
          have e83 : (n_2 83).toInt.toNat = ((n 83) - 1).toInt.toNat + 0 := (by (try rw [(show n_2 83 = ((n 83) - 1) from (hx2.1 83 (by decide)))]); have q1_ := (T_sub (rfl : ((n 83)).toInt = ((n 83)).toInt) (show (1 : Int32).toInt = 1 from rfl) (by omega)); omega)
          have e83b : 0 ≤ (n_2 83).toInt := (by (try rw [(show n_2 83 = ((n 83) - 1) from (hx2.1 83 (by decide)))]); have q1_ := (T_sub (rfl : ((n 83)).toInt = ((n 83)).toInt) (show (1 : Int32).toInt = 1 from rfl) (by omega)); omega)
          have e5 : n_2 5 = n 5 := hxx.1 5 (by decide)
          have e84 : F_2 84 = (F 84) := (show F_2 84 = (F 84) from (hx2.2.2.1 84 (by decide))).trans rfl
          have hT9 : tkT F_2 (n_2 5).toInt (F_2 84) (n_2 83).toInt.toNat A2 B2 := by rw [e83, e5, e84]; exact tkT_w (fun k hk => hxx.2.2.1 k ((by decide : ∀ k : Nat, k ∈ wK → k ∉ ([84, 85, 86, 87] : List Nat)) k hk)) hT3
          have e88 : 0 ≤ (n_2 88).toInt ∧ (n_2 88).toInt + (A2 : Nat) ≤ 1000 := (by (try rw [(show n_2 88 = (n_2 88) from rfl)]); omega)
          have hR9 : RI n_2 F_2 := RI_cg (fun k hk => hxx.2.2.1 k ((by decide : ∀ k : Nat, k ∈ riK → k ∉ ([84, 85, 86, 87] : List Nat)) k hk)) hR e5 (hxx.1 30 (by decide)) (hxx.1 38 (by decide)) (by rw [hxx.1 0 (by decide)]; exact a0) (by rw [hxx.1 4 (by decide)]; exact a4) (by rw [hxx.1 53 (by decide)]; exact a53) (by rw [hxx.1 47 (by decide)]; exact a47) (by omega)
          exact ih A2 B2 _ _ _ _ _ hS_2 (fx_tr (fx_n hx (by decide)) hx2 (by decide)) (hR9) (hT9) (e83b) (e88.2) (by omega) (by omega)
        ·
          try simp only [mIn_0, lgc_lt, lgc_gt, lgc_le, lgc_ge, lgc_eq] at c_96
          try simp only [fl_lt, fl_le, fl_eq, fL_w, fL_lt, fL_le, tm1, tm10k, tm9, tm99, Int32.reduceToInt, Int64.reduceToInt, Int.not_lt, Int.not_le] at c_96
          refine gz_aload_n dX12_tell_99 rfl rfl ?_
          refine mg_20 hS_2 dX12_tell_100 ?_
          refine gz_iload_n dX12_tell_103 rfl rfl ?_
          refine m_iald 7 hS_2 rfl (N := 880) rfl ((by exact vin_T (rfl : (wv).toInt = (wv).toInt) (by omega) (by omega))) dX12_tell_104 ?_
          refine gz_ev (w := .int ((F 7) (Int32.toNatClampNeg wv))) (congrArg Value.int (congrFun (hx2.2.2.1 7 (by decide)) _)) ?_
          refine gz_iconst (v := 1) dX12_tell_105 (by decide) ?_
          refine gz_icmp_ne (tgt := 112) dX12_tell_106 (by decide) (fun c_106 => ?_) (fun c_106 => ?_)
          ·
            try simp only [mIn_0, lgc_lt, lgc_gt, lgc_le, lgc_ge, lgc_eq] at c_106
            try simp only [fl_lt, fl_le, fl_eq, fL_w, fL_lt, fL_le, tm1, tm10k, tm9, tm99, Int32.reduceToInt, Int64.reduceToInt, Int.not_lt, Int.not_le] at c_106
            refine gz_aload_n dX12_tell_112 rfl rfl ?_
            refine mg_20 hS_2 dX12_tell_113 ?_
            refine gz_iload_n dX12_tell_116 rfl rfl ?_
            refine m_iald 7 hS_2 rfl (N := 880) rfl ((by exact vin_T (rfl : (wv).toInt = (wv).toInt) (by omega) (by omega))) dX12_tell_117 ?_
            refine gz_ev (w := .int ((F 7) (Int32.toNatClampNeg wv))) (congrArg Value.int (congrFun (hx2.2.2.1 7 (by decide)) _)) ?_
            refine gz_iconst (v := 3) dX12_tell_118 (by decide) ?_
            refine gz_icmp_eq (tgt := 142) dX12_tell_119 (by decide) (fun c_119 => ?_) (fun c_119 => ?_)
            ·
              try simp only [mIn_0, lgc_lt, lgc_gt, lgc_le, lgc_ge, lgc_eq] at c_119
              try simp only [fl_lt, fl_le, fl_eq, fL_w, fL_lt, fL_le, tm1, tm10k, tm9, tm99, Int32.reduceToInt, Int64.reduceToInt, Int.not_lt, Int.not_le] at c_119
              refine gz_iconst (v := 1) dX12_tell_142 (by decide) ?_
              refine gz_goto (tgt := 147) dX12_tell_143 (by decide) ?_
              refine gz_istore_n (lv' := [(3, .int 1), (2, .int wv), (0, .ref m), (1, .int x1)]) dX12_tell_147 rfl (by decide) rfl ?_
              refine gz_iload_n dX12_tell_148 rfl rfl ?_
              refine gz_if_eq (tgt := 185) dX12_tell_149 (by decide) (fun c_149 => ?_) (fun c_149 => ?_)
              · exact absurd c_149 (by decide)
              ·
                try simp only [mIn_0, lgc_lt, lgc_gt, lgc_le, lgc_ge, lgc_eq] at c_149
                try simp only [fl_lt, fl_le, fl_eq, fL_w, fL_lt, fL_le, tm1, tm10k, tm9, tm99, Int32.reduceToInt, Int64.reduceToInt, Int.not_lt, Int.not_le] at c_149
                refine gz_aload_n dX12_tell_152 rfl rfl ?_
                refine gz_bipush (v := 40) dX12_tell_153 (by decide) ?_
                refine scX12_547 (k_X12_signs (x1 := 40) hS_2 (by (try rw [(show n_2 88 = (n_2 88) from rfl)]); omega)) hS_2.1 ⟨(Nat.le_of_ble_eq_true rfl), (Nat.le_of_ble_eq_true rfl)⟩ ⟨(Nat.le_of_ble_eq_true rfl), (Nat.le_of_ble_eq_true rfl)⟩ rfl rfl (Nat.le_of_ble_eq_true rfl) dX12_tell_155 ?_
                rintro f_3 ⟨n_3, z_3, F_3, G_3, hS_3, hx3, h8_3⟩
                refine gz_aload_n dX12_tell_158 rfl rfl ?_
                refine gz_bipush (v := (-2)) dX12_tell_159 (by decide) ?_
                refine gz_iconst (v := (-1)) dX12_tell_161 (by decide) ?_
                refine gz_iconst (v := 0) dX12_tell_162 (by decide) ?_
                refine scX12_527 (k_X12_lays (x1 := (-2)) (x2 := (-1)) hS_3 (by (try rw [(show n_3 83 = ((n 83) - 1) from ((hx3.1 83 (by decide)).trans (hx2.1 83 (by decide))))]); have q1_ := (T_sub (rfl : ((n 83)).toInt = ((n 83)).toInt) (show (1 : Int32).toInt = 1 from rfl) (by omega)); omega)) hS_3.1 ⟨(Nat.le_of_ble_eq_true rfl), (Nat.le_of_ble_eq_true rfl)⟩ ⟨(Nat.le_of_ble_eq_true rfl), (Nat.le_of_ble_eq_true rfl)⟩ rfl rfl (Nat.le_of_ble_eq_true rfl) dX12_tell_163 ?_
                rintro f_4 ⟨n_4, z_4, F_4, G_4, hS_4, hx4, h83_4, h84_4, h85_4⟩
                try simp only [(show n_3 83 = ((n 83) - 1) from ((hx3.1 83 (by decide)).trans (hx2.1 83 (by decide))))] at h83_4 h84_4 h85_4
                try rw [(show F_3 84 = (F 84) from ((hx3.2.2.1 84 (by decide)).trans (hx2.2.2.1 84 (by decide))))] at h84_4
                try rw [(show n_3 83 = ((n 83) - 1) from ((hx3.1 83 (by decide)).trans (hx2.1 83 (by decide))))] at h84_4
                refine gz_aload_n dX12_tell_166 rfl rfl ?_
                refine gz_aload_n dX12_tell_167 rfl rfl ?_
                refine mg_35 hS_4 dX12_tell_168 ?_
                refine gz_iload_n dX12_tell_171 rfl rfl ?_
                refine m_iald 12 hS_4 rfl (N := 880) rfl ((by exact vin_T (rfl : (wv).toInt = (wv).toInt) (by omega) (by omega))) dX12_tell_172 ?_
                refine gz_ev (w := .int ((F 12) (Int32.toNatClampNeg wv))) (congrArg Value.int (congrFun ((hx4.2.2.1 12 (by decide)).trans ((hx3.2.2.1 12 (by decide)).trans (hx2.2.2.1 12 (by decide)))) _)) ?_
                refine gz_iconst (v := (-1)) dX12_tell_173 (by decide) ?_
                refine gz_iconst (v := 0) dX12_tell_174 (by decide) ?_
                have q_2 : vW F (n 5).toInt ((F 12) (Int32.toNatClampNeg wv)).toInt ∧ szF F ((F 11) (Int32.toNatClampNeg wv)).toInt + szF F ((F 12) (Int32.toNatClampNeg wv)).toInt + 1 ≤ szF F wv.toInt := two_ok bW hw (show 3 ≤ (F 7 (Int32.toNatClampNeg wv)).toInt ∧ (F 7 (Int32.toNatClampNeg wv)).toInt ≤ 5 by omega)
                have q_2v : vsW F ((F 11) (Int32.toNatClampNeg wv)).toInt + vsW F ((F 12) (Int32.toNatClampNeg wv)).toInt + owF F wv.toInt ≤ vsW F wv.toInt := two_vs bW hw (show 3 ≤ (F 7 (Int32.toNatClampNeg wv)).toInt ∧ (F 7 (Int32.toNatClampNeg wv)).toInt ≤ 5 by omega)
                have q_2z := szF_pos bW q_2.1
                have q_2l := vW_lt bW a5 q_2.1
                have q_2c := csT_v (F := F) (x := ((F 12) (Int32.toNatClampNeg wv)).toInt) q_2l.1
                have q_2w := wgT_v (F := F) (x := ((F 12) (Int32.toNatClampNeg wv)).toInt) q_2l.1
                refine scX12_527 (k_X12_lays (x1 := ((F 12) (Int32.toNatClampNeg wv))) (x2 := (-1)) hS_4 (by (try rw [(show n_4 83 = (((n 83) - 1) + 1) from (by first | exact h83_4 | exact (h83_4.trans (congrArg (· + 1) ((hx3.1 83 (by decide)).trans (hx2.1 83 (by decide)))))))]); have q1_ := (T_add (T_sub (rfl : ((n 83)).toInt = ((n 83)).toInt) (show (1 : Int32).toInt = 1 from rfl) (by omega)) (show (1 : Int32).toInt = 1 from rfl) (by omega)); omega)) hS_4.1 ⟨(Nat.le_of_ble_eq_true rfl), (Nat.le_of_ble_eq_true rfl)⟩ ⟨(Nat.le_of_ble_eq_true rfl), (Nat.le_of_ble_eq_true rfl)⟩ rfl rfl (Nat.le_of_ble_eq_true rfl) dX12_tell_175 ?_
                rintro f_5 ⟨n_5, z_5, F_5, G_5, hS_5, hx5, h83_5, h84_5, h85_5⟩
                try simp only [(show n_4 83 = (((n 83) - 1) + 1) from (by first | exact h83_4 | exact (h83_4.trans (congrArg (· + 1) ((hx3.1 83 (by decide)).trans (hx2.1 83 (by decide)))))))] at h83_5 h84_5 h85_5
                try rw [(show F_4 84 = (upd (F 84) (Int32.toNatClampNeg ((n 83) - 1)) (-2)) from h84_4)] at h84_5
                try rw [(show n_4 83 = (((n 83) - 1) + 1) from (by first | exact h83_4 | exact (h83_4.trans (congrArg (· + 1) ((hx3.1 83 (by decide)).trans (hx2.1 83 (by decide)))))))] at h84_5
                refine gz_aload_n dX12_tell_178 rfl rfl ?_
                refine gz_iconst (v := (-1)) dX12_tell_179 (by decide) ?_
                refine gz_iconst (v := (-1)) dX12_tell_180 (by decide) ?_
                refine gz_iconst (v := 0) dX12_tell_181 (by decide) ?_
                refine scX12_527 (k_X12_lays (x1 := (-1)) (x2 := (-1)) hS_5 (by (try rw [(show n_5 83 = ((((n 83) - 1) + 1) + 1) from (by first | exact h83_5 | exact (h83_5.trans (congrArg (· + 1) (by first | exact h83_4 | exact (h83_4.trans (congrArg (· + 1) ((hx3.1 83 (by decide)).trans (hx2.1 83 (by decide))))))))))]); have q1_ := (T_add (T_add (T_sub (rfl : ((n 83)).toInt = ((n 83)).toInt) (show (1 : Int32).toInt = 1 from rfl) (by omega)) (show (1 : Int32).toInt = 1 from rfl) (by omega)) (show (1 : Int32).toInt = 1 from rfl) (by omega)); omega)) hS_5.1 ⟨(Nat.le_of_ble_eq_true rfl), (Nat.le_of_ble_eq_true rfl)⟩ ⟨(Nat.le_of_ble_eq_true rfl), (Nat.le_of_ble_eq_true rfl)⟩ rfl rfl (Nat.le_of_ble_eq_true rfl) dX12_tell_182 ?_
                rintro f_6 ⟨n_6, z_6, F_6, G_6, hS_6, hx6, h83_6, h84_6, h85_6⟩
                try simp only [(show n_5 83 = ((((n 83) - 1) + 1) + 1) from (by first | exact h83_5 | exact (h83_5.trans (congrArg (· + 1) (by first | exact h83_4 | exact (h83_4.trans (congrArg (· + 1) ((hx3.1 83 (by decide)).trans (hx2.1 83 (by decide))))))))))] at h83_6 h84_6 h85_6
                try rw [(show F_5 84 = (upd (upd (F 84) (Int32.toNatClampNeg ((n 83) - 1)) (-2)) (Int32.toNatClampNeg (((n 83) - 1) + 1)) ((F 12) (Int32.toNatClampNeg wv))) from h84_5)] at h84_6
                try rw [(show n_5 83 = ((((n 83) - 1) + 1) + 1) from (by first | exact h83_5 | exact (h83_5.trans (congrArg (· + 1) (by first | exact h83_4 | exact (h83_4.trans (congrArg (· + 1) ((hx3.1 83 (by decide)).trans (hx2.1 83 (by decide))))))))))] at h84_6
                refine gz_aload_n dX12_tell_185 rfl rfl ?_
                refine gz_aload_n dX12_tell_186 rfl rfl ?_
                refine mg_32 hS_6 dX12_tell_187 ?_
                refine gz_iload_n dX12_tell_190 rfl rfl ?_
                refine m_iald 11 hS_6 rfl (N := 880) rfl ((by exact vin_T (rfl : (wv).toInt = (wv).toInt) (by omega) (by omega))) dX12_tell_191 ?_
                refine gz_ev (w := .int ((F 11) (Int32.toNatClampNeg wv))) (congrArg Value.int (congrFun ((hx6.2.2.1 11 (by decide)).trans ((hx5.2.2.1 11 (by decide)).trans ((hx4.2.2.1 11 (by decide)).trans ((hx3.2.2.1 11 (by decide)).trans (hx2.2.2.1 11 (by decide)))))) _)) ?_
                refine gz_iconst (v := (-1)) dX12_tell_192 (by decide) ?_
                refine gz_iconst (v := 0) dX12_tell_193 (by decide) ?_
                have q_1 : vW F (n 5).toInt ((F 11) (Int32.toNatClampNeg wv)).toInt ∧ szF F ((F 11) (Int32.toNatClampNeg wv)).toInt + 1 ≤ szF F wv.toInt := one_ok bW hw (show 2 ≤ (F 7 (Int32.toNatClampNeg wv)).toInt by omega)
                have q_1v : vsW F ((F 11) (Int32.toNatClampNeg wv)).toInt + owF F wv.toInt ≤ vsW F wv.toInt := one_vs bW hw (show 2 ≤ (F 7 (Int32.toNatClampNeg wv)).toInt by omega)
                have q_1z := szF_pos bW q_1.1
                have q_1l := vW_lt bW a5 q_1.1
                have q_1c := csT_v (F := F) (x := ((F 11) (Int32.toNatClampNeg wv)).toInt) q_1l.1
                have q_1w := wgT_v (F := F) (x := ((F 11) (Int32.toNatClampNeg wv)).toInt) q_1l.1
                refine scX12_527 (k_X12_lays (x1 := ((F 11) (Int32.toNatClampNeg wv))) (x2 := (-1)) hS_6 (by (try rw [(show n_6 83 = (((((n 83) - 1) + 1) + 1) + 1) from (by first | exact h83_6 | exact (h83_6.trans (congrArg (· + 1) (by first | exact h83_5 | exact (h83_5.trans (congrArg (· + 1) (by first | exact h83_4 | exact (h83_4.trans (congrArg (· + 1) ((hx3.1 83 (by decide)).trans (hx2.1 83 (by decide)))))))))))))]); have q1_ := (T_add (T_add (T_add (T_sub (rfl : ((n 83)).toInt = ((n 83)).toInt) (show (1 : Int32).toInt = 1 from rfl) (by omega)) (show (1 : Int32).toInt = 1 from rfl) (by omega)) (show (1 : Int32).toInt = 1 from rfl) (by omega)) (show (1 : Int32).toInt = 1 from rfl) (by omega)); omega)) hS_6.1 ⟨(Nat.le_of_ble_eq_true rfl), (Nat.le_of_ble_eq_true rfl)⟩ ⟨(Nat.le_of_ble_eq_true rfl), (Nat.le_of_ble_eq_true rfl)⟩ rfl rfl (Nat.le_of_ble_eq_true rfl) dX12_tell_194 ?_
                rintro f_7 ⟨n_7, z_7, F_7, G_7, hS_7, hx7, h83_7, h84_7, h85_7⟩
                try simp only [(show n_6 83 = (((((n 83) - 1) + 1) + 1) + 1) from (by first | exact h83_6 | exact (h83_6.trans (congrArg (· + 1) (by first | exact h83_5 | exact (h83_5.trans (congrArg (· + 1) (by first | exact h83_4 | exact (h83_4.trans (congrArg (· + 1) ((hx3.1 83 (by decide)).trans (hx2.1 83 (by decide)))))))))))))] at h83_7 h84_7 h85_7
                try rw [(show F_6 84 = (upd (upd (upd (F 84) (Int32.toNatClampNeg ((n 83) - 1)) (-2)) (Int32.toNatClampNeg (((n 83) - 1) + 1)) ((F 12) (Int32.toNatClampNeg wv))) (Int32.toNatClampNeg ((((n 83) - 1) + 1) + 1)) (-1)) from h84_6)] at h84_7
                try rw [(show n_6 83 = (((((n 83) - 1) + 1) + 1) + 1) from (by first | exact h83_6 | exact (h83_6.trans (congrArg (· + 1) (by first | exact h83_5 | exact (h83_5.trans (congrArg (· + 1) (by first | exact h83_4 | exact (h83_4.trans (congrArg (· + 1) ((hx3.1 83 (by decide)).trans (hx2.1 83 (by decide)))))))))))))] at h84_7
                refine gz_goto (tgt := 35) dX12_tell_197 (by decide) ?_
                refine gz_sub (lv' := [(0, .ref m), (1, .int x1)]) (by simp [List.lookup]) ?_
                have hxx : fx [83, 88, 89] [] [84, 85, 86, 87] [] n z F G n_7 z_7 F_7 G_7 := (fx_tr (fx_tr (fx_tr (fx_tr (fx_tr (fx_tr (fx_n fx_rf (by decide)) hx2 (by decide)) hx3 (by decide)) hx4 (by decide)) hx5 (by decide)) hx6 (by decide)) hx7 (by decide))
                have hp0 := tkT_push (x := (-2)) hT3 (Or.inr (Or.inl rfl))
                have hp1 := tkT_push (x := ((F 12) (Int32.toNatClampNeg wv))) hp0 (Or.inr (Or.inr q_2.1))
                have hp2 := tkT_push (x := (-1)) hp1 (Or.inl rfl)
                have hp3 := tkT_push (x := ((F 11) (Int32.toNatClampNeg wv))) hp2 (Or.inr (Or.inr q_1.1))
                have qn1 := csT_n (F := F) (x := ((-1) : Int32).toInt) (by decide)
                have qn2 := csT_n (F := F) (x := ((-2) : Int32).toInt) (by decide)
                have e83 : (n_7 83).toInt.toNat = ((n 83) - 1).toInt.toNat + 4 := (by (try rw [(show n_7 83 = ((((((n 83) - 1) + 1) + 1) + 1) + 1) from (by first | exact h83_7 | exact (h83_7.trans (congrArg (· + 1) (by first | exact h83_6 | exact (h83_6.trans (congrArg (· + 1) (by first | exact h83_5 | exact (h83_5.trans (congrArg (· + 1) (by first | exact h83_4 | exact (h83_4.trans (congrArg (· + 1) ((hx3.1 83 (by decide)).trans (hx2.1 83 (by decide))))))))))))))))]); have q1_ := (T_add (T_add (T_add (T_add (T_sub (rfl : ((n 83)).toInt = ((n 83)).toInt) (show (1 : Int32).toInt = 1 from rfl) (by omega)) (show (1 : Int32).toInt = 1 from rfl) (by omega)) (show (1 : Int32).toInt = 1 from rfl) (by omega)) (show (1 : Int32).toInt = 1 from rfl) (by omega)) (show (1 : Int32).toInt = 1 from rfl) (by omega)); omega)
                have e83b : 0 ≤ (n_7 83).toInt := (by (try rw [(show n_7 83 = ((((((n 83) - 1) + 1) + 1) + 1) + 1) from (by first | exact h83_7 | exact (h83_7.trans (congrArg (· + 1) (by first | exact h83_6 | exact (h83_6.trans (congrArg (· + 1) (by first | exact h83_5 | exact (h83_5.trans (congrArg (· + 1) (by first | exact h83_4 | exact (h83_4.trans (congrArg (· + 1) ((hx3.1 83 (by decide)).trans (hx2.1 83 (by decide))))))))))))))))]); have q1_ := (T_add (T_add (T_add (T_add (T_sub (rfl : ((n 83)).toInt = ((n 83)).toInt) (show (1 : Int32).toInt = 1 from rfl) (by omega)) (show (1 : Int32).toInt = 1 from rfl) (by omega)) (show (1 : Int32).toInt = 1 from rfl) (by omega)) (show (1 : Int32).toInt = 1 from rfl) (by omega)) (show (1 : Int32).toInt = 1 from rfl) (by omega)); omega)
                have e5 : n_7 5 = n 5 := hxx.1 5 (by decide)
                have e84 : F_7 84 = (upd (upd (upd (upd (F 84) (((n 83) - 1).toInt.toNat) (-2)) (((n 83) - 1).toInt.toNat + 1) ((F 12) (Int32.toNatClampNeg wv))) (((n 83) - 1).toInt.toNat + 2) (-1)) (((n 83) - 1).toInt.toNat + 3) ((F 11) (Int32.toNatClampNeg wv))) := (show F_7 84 = (upd (upd (upd (upd (F 84) (Int32.toNatClampNeg ((n 83) - 1)) (-2)) (Int32.toNatClampNeg (((n 83) - 1) + 1)) ((F 12) (Int32.toNatClampNeg wv))) (Int32.toNatClampNeg ((((n 83) - 1) + 1) + 1)) (-1)) (Int32.toNatClampNeg (((((n 83) - 1) + 1) + 1) + 1)) ((F 11) (Int32.toNatClampNeg wv))) from h84_7).trans (by rw [show Int32.toNatClampNeg (((n 83) - 1) + 1) = ((n 83) - 1).toInt.toNat + 1 from by have q := (T_add (T_sub (rfl : ((n 83)).toInt = ((n 83)).toInt) (show (1 : Int32).toInt = 1 from rfl) (by omega)) (show (1 : Int32).toInt = 1 from rfl) (by omega)); rw [clN, q]; omega, show Int32.toNatClampNeg ((((n 83) - 1) + 1) + 1) = ((n 83) - 1).toInt.toNat + 2 from by have q := (T_add (T_add (T_sub (rfl : ((n 83)).toInt = ((n 83)).toInt) (show (1 : Int32).toInt = 1 from rfl) (by omega)) (show (1 : Int32).toInt = 1 from rfl) (by omega)) (show (1 : Int32).toInt = 1 from rfl) (by omega)); rw [clN, q]; omega, show Int32.toNatClampNeg (((((n 83) - 1) + 1) + 1) + 1) = ((n 83) - 1).toInt.toNat + 3 from by have q := (T_add (T_add (T_add (T_sub (rfl : ((n 83)).toInt = ((n 83)).toInt) (show (1 : Int32).toInt = 1 from rfl) (by omega)) (show (1 : Int32).toInt = 1 from rfl) (by omega)) (show (1 : Int32).toInt = 1 from rfl) (by omega)) (show (1 : Int32).toInt = 1 from rfl) (by omega)); rw [clN, q]; omega]; rfl)
                have hT9 : tkT F_7 (n_7 5).toInt (F_7 84) (n_7 83).toInt.toNat ((((A2 + csT F ((-2) : Int32).toInt) + csT F ((F 12) (Int32.toNatClampNeg wv)).toInt) + csT F ((-1) : Int32).toInt) + csT F ((F 11) (Int32.toNatClampNeg wv)).toInt) ((((B2 + wgT F ((-2) : Int32).toInt) + wgT F ((F 12) (Int32.toNatClampNeg wv)).toInt) + wgT F ((-1) : Int32).toInt) + wgT F ((F 11) (Int32.toNatClampNeg wv)).toInt) := by rw [e83, e5, e84]; exact tkT_w (fun k hk => hxx.2.2.1 k ((by decide : ∀ k : Nat, k ∈ wK → k ∉ ([84, 85, 86, 87] : List Nat)) k hk)) hp3
                have e88 : 0 ≤ (n_7 88).toInt ∧ (n_7 88).toInt + (((((A2 + csT F ((-2) : Int32).toInt) + csT F ((F 12) (Int32.toNatClampNeg wv)).toInt) + csT F ((-1) : Int32).toInt) + csT F ((F 11) (Int32.toNatClampNeg wv)).toInt) : Nat) ≤ 1000 := (by (try rw [(show n_7 88 = (n_3 88) from ((hx7.1 88 (by decide)).trans ((hx6.1 88 (by decide)).trans ((hx5.1 88 (by decide)).trans (hx4.1 88 (by decide))))))]); omega)
                have hR9 : RI n_7 F_7 := RI_cg (fun k hk => hxx.2.2.1 k ((by decide : ∀ k : Nat, k ∈ riK → k ∉ ([84, 85, 86, 87] : List Nat)) k hk)) hR e5 (hxx.1 30 (by decide)) (hxx.1 38 (by decide)) (by rw [hxx.1 0 (by decide)]; exact a0) (by rw [hxx.1 4 (by decide)]; exact a4) (by rw [hxx.1 53 (by decide)]; exact a53) (by rw [hxx.1 47 (by decide)]; exact a47) (by omega)
                exact ih ((((A2 + csT F ((-2) : Int32).toInt) + csT F ((F 12) (Int32.toNatClampNeg wv)).toInt) + csT F ((-1) : Int32).toInt) + csT F ((F 11) (Int32.toNatClampNeg wv)).toInt) ((((B2 + wgT F ((-2) : Int32).toInt) + wgT F ((F 12) (Int32.toNatClampNeg wv)).toInt) + wgT F ((-1) : Int32).toInt) + wgT F ((F 11) (Int32.toNatClampNeg wv)).toInt) _ _ _ _ _ hS_7 (fx_tr (fx_tr (fx_tr (fx_tr (fx_tr (fx_tr (fx_n hx (by decide)) hx2 (by decide)) hx3 (by decide)) hx4 (by decide)) hx5 (by decide)) hx6 (by decide)) hx7 (by decide)) (hR9) (hT9) (e83b) (e88.2) (by omega) (by omega)
            ·
              try simp only [mIn_0, lgc_lt, lgc_gt, lgc_le, lgc_ge, lgc_eq] at c_119
              try simp only [fl_lt, fl_le, fl_eq, fL_w, fL_lt, fL_le, tm1, tm10k, tm9, tm99, Int32.reduceToInt, Int64.reduceToInt, Int.not_lt, Int.not_le] at c_119
              refine gz_aload_n dX12_tell_122 rfl rfl ?_
              refine mg_20 hS_2 dX12_tell_123 ?_
              refine gz_iload_n dX12_tell_126 rfl rfl ?_
              refine m_iald 7 hS_2 rfl (N := 880) rfl ((by exact vin_T (rfl : (wv).toInt = (wv).toInt) (by omega) (by omega))) dX12_tell_127 ?_
              refine gz_ev (w := .int ((F 7) (Int32.toNatClampNeg wv))) (congrArg Value.int (congrFun (hx2.2.2.1 7 (by decide)) _)) ?_
              refine gz_iconst (v := 4) dX12_tell_128 (by decide) ?_
              refine gz_icmp_eq (tgt := 142) dX12_tell_129 (by decide) (fun c_129 => ?_) (fun c_129 => ?_)
              ·
                try simp only [mIn_0, lgc_lt, lgc_gt, lgc_le, lgc_ge, lgc_eq] at c_129
                try simp only [fl_lt, fl_le, fl_eq, fL_w, fL_lt, fL_le, tm1, tm10k, tm9, tm99, Int32.reduceToInt, Int64.reduceToInt, Int.not_lt, Int.not_le] at c_129
                refine gz_iconst (v := 1) dX12_tell_142 (by decide) ?_
                refine gz_goto (tgt := 147) dX12_tell_143 (by decide) ?_
                refine gz_istore_n (lv' := [(3, .int 1), (2, .int wv), (0, .ref m), (1, .int x1)]) dX12_tell_147 rfl (by decide) rfl ?_
                refine gz_iload_n dX12_tell_148 rfl rfl ?_
                refine gz_if_eq (tgt := 185) dX12_tell_149 (by decide) (fun c_149 => ?_) (fun c_149 => ?_)
                · exact absurd c_149 (by decide)
                ·
                  try simp only [mIn_0, lgc_lt, lgc_gt, lgc_le, lgc_ge, lgc_eq] at c_149
                  try simp only [fl_lt, fl_le, fl_eq, fL_w, fL_lt, fL_le, tm1, tm10k, tm9, tm99, Int32.reduceToInt, Int64.reduceToInt, Int.not_lt, Int.not_le] at c_149
                  refine gz_aload_n dX12_tell_152 rfl rfl ?_
                  refine gz_bipush (v := 40) dX12_tell_153 (by decide) ?_
                  refine scX12_547 (k_X12_signs (x1 := 40) hS_2 (by (try rw [(show n_2 88 = (n_2 88) from rfl)]); omega)) hS_2.1 ⟨(Nat.le_of_ble_eq_true rfl), (Nat.le_of_ble_eq_true rfl)⟩ ⟨(Nat.le_of_ble_eq_true rfl), (Nat.le_of_ble_eq_true rfl)⟩ rfl rfl (Nat.le_of_ble_eq_true rfl) dX12_tell_155 ?_
                  rintro f_8 ⟨n_8, z_8, F_8, G_8, hS_8, hx8, h8_8⟩
                  refine gz_aload_n dX12_tell_158 rfl rfl ?_
                  refine gz_bipush (v := (-2)) dX12_tell_159 (by decide) ?_
                  refine gz_iconst (v := (-1)) dX12_tell_161 (by decide) ?_
                  refine gz_iconst (v := 0) dX12_tell_162 (by decide) ?_
                  refine scX12_527 (k_X12_lays (x1 := (-2)) (x2 := (-1)) hS_8 (by (try rw [(show n_8 83 = ((n 83) - 1) from ((hx8.1 83 (by decide)).trans (hx2.1 83 (by decide))))]); have q1_ := (T_sub (rfl : ((n 83)).toInt = ((n 83)).toInt) (show (1 : Int32).toInt = 1 from rfl) (by omega)); omega)) hS_8.1 ⟨(Nat.le_of_ble_eq_true rfl), (Nat.le_of_ble_eq_true rfl)⟩ ⟨(Nat.le_of_ble_eq_true rfl), (Nat.le_of_ble_eq_true rfl)⟩ rfl rfl (Nat.le_of_ble_eq_true rfl) dX12_tell_163 ?_
                  rintro f_9 ⟨n_9, z_9, F_9, G_9, hS_9, hx9, h83_9, h84_9, h85_9⟩
                  try simp only [(show n_8 83 = ((n 83) - 1) from ((hx8.1 83 (by decide)).trans (hx2.1 83 (by decide))))] at h83_9 h84_9 h85_9
                  try rw [(show F_8 84 = (F 84) from ((hx8.2.2.1 84 (by decide)).trans (hx2.2.2.1 84 (by decide))))] at h84_9
                  try rw [(show n_8 83 = ((n 83) - 1) from ((hx8.1 83 (by decide)).trans (hx2.1 83 (by decide))))] at h84_9
                  refine gz_aload_n dX12_tell_166 rfl rfl ?_
                  refine gz_aload_n dX12_tell_167 rfl rfl ?_
                  refine mg_35 hS_9 dX12_tell_168 ?_
                  refine gz_iload_n dX12_tell_171 rfl rfl ?_
                  refine m_iald 12 hS_9 rfl (N := 880) rfl ((by exact vin_T (rfl : (wv).toInt = (wv).toInt) (by omega) (by omega))) dX12_tell_172 ?_
                  refine gz_ev (w := .int ((F 12) (Int32.toNatClampNeg wv))) (congrArg Value.int (congrFun ((hx9.2.2.1 12 (by decide)).trans ((hx8.2.2.1 12 (by decide)).trans (hx2.2.2.1 12 (by decide)))) _)) ?_
                  refine gz_iconst (v := (-1)) dX12_tell_173 (by decide) ?_
                  refine gz_iconst (v := 0) dX12_tell_174 (by decide) ?_
                  have q_2 : vW F (n 5).toInt ((F 12) (Int32.toNatClampNeg wv)).toInt ∧ szF F ((F 11) (Int32.toNatClampNeg wv)).toInt + szF F ((F 12) (Int32.toNatClampNeg wv)).toInt + 1 ≤ szF F wv.toInt := two_ok bW hw (show 3 ≤ (F 7 (Int32.toNatClampNeg wv)).toInt ∧ (F 7 (Int32.toNatClampNeg wv)).toInt ≤ 5 by omega)
                  have q_2v : vsW F ((F 11) (Int32.toNatClampNeg wv)).toInt + vsW F ((F 12) (Int32.toNatClampNeg wv)).toInt + owF F wv.toInt ≤ vsW F wv.toInt := two_vs bW hw (show 3 ≤ (F 7 (Int32.toNatClampNeg wv)).toInt ∧ (F 7 (Int32.toNatClampNeg wv)).toInt ≤ 5 by omega)
                  have q_2z := szF_pos bW q_2.1
                  have q_2l := vW_lt bW a5 q_2.1
                  have q_2c := csT_v (F := F) (x := ((F 12) (Int32.toNatClampNeg wv)).toInt) q_2l.1
                  have q_2w := wgT_v (F := F) (x := ((F 12) (Int32.toNatClampNeg wv)).toInt) q_2l.1
                  refine scX12_527 (k_X12_lays (x1 := ((F 12) (Int32.toNatClampNeg wv))) (x2 := (-1)) hS_9 (by (try rw [(show n_9 83 = (((n 83) - 1) + 1) from (by first | exact h83_9 | exact (h83_9.trans (congrArg (· + 1) ((hx8.1 83 (by decide)).trans (hx2.1 83 (by decide)))))))]); have q1_ := (T_add (T_sub (rfl : ((n 83)).toInt = ((n 83)).toInt) (show (1 : Int32).toInt = 1 from rfl) (by omega)) (show (1 : Int32).toInt = 1 from rfl) (by omega)); omega)) hS_9.1 ⟨(Nat.le_of_ble_eq_true rfl), (Nat.le_of_ble_eq_true rfl)⟩ ⟨(Nat.le_of_ble_eq_true rfl), (Nat.le_of_ble_eq_true rfl)⟩ rfl rfl (Nat.le_of_ble_eq_true rfl) dX12_tell_175 ?_
                  rintro f_10 ⟨n_10, z_10, F_10, G_10, hS_10, hx10, h83_10, h84_10, h85_10⟩
                  try simp only [(show n_9 83 = (((n 83) - 1) + 1) from (by first | exact h83_9 | exact (h83_9.trans (congrArg (· + 1) ((hx8.1 83 (by decide)).trans (hx2.1 83 (by decide)))))))] at h83_10 h84_10 h85_10
                  try rw [(show F_9 84 = (upd (F 84) (Int32.toNatClampNeg ((n 83) - 1)) (-2)) from h84_9)] at h84_10
                  try rw [(show n_9 83 = (((n 83) - 1) + 1) from (by first | exact h83_9 | exact (h83_9.trans (congrArg (· + 1) ((hx8.1 83 (by decide)).trans (hx2.1 83 (by decide)))))))] at h84_10
                  refine gz_aload_n dX12_tell_178 rfl rfl ?_
                  refine gz_iconst (v := (-1)) dX12_tell_179 (by decide) ?_
                  refine gz_iconst (v := (-1)) dX12_tell_180 (by decide) ?_
                  refine gz_iconst (v := 0) dX12_tell_181 (by decide) ?_
                  refine scX12_527 (k_X12_lays (x1 := (-1)) (x2 := (-1)) hS_10 (by (try rw [(show n_10 83 = ((((n 83) - 1) + 1) + 1) from (by first | exact h83_10 | exact (h83_10.trans (congrArg (· + 1) (by first | exact h83_9 | exact (h83_9.trans (congrArg (· + 1) ((hx8.1 83 (by decide)).trans (hx2.1 83 (by decide))))))))))]); have q1_ := (T_add (T_add (T_sub (rfl : ((n 83)).toInt = ((n 83)).toInt) (show (1 : Int32).toInt = 1 from rfl) (by omega)) (show (1 : Int32).toInt = 1 from rfl) (by omega)) (show (1 : Int32).toInt = 1 from rfl) (by omega)); omega)) hS_10.1 ⟨(Nat.le_of_ble_eq_true rfl), (Nat.le_of_ble_eq_true rfl)⟩ ⟨(Nat.le_of_ble_eq_true rfl), (Nat.le_of_ble_eq_true rfl)⟩ rfl rfl (Nat.le_of_ble_eq_true rfl) dX12_tell_182 ?_
                  rintro f_11 ⟨n_11, z_11, F_11, G_11, hS_11, hx11, h83_11, h84_11, h85_11⟩
                  try simp only [(show n_10 83 = ((((n 83) - 1) + 1) + 1) from (by first | exact h83_10 | exact (h83_10.trans (congrArg (· + 1) (by first | exact h83_9 | exact (h83_9.trans (congrArg (· + 1) ((hx8.1 83 (by decide)).trans (hx2.1 83 (by decide))))))))))] at h83_11 h84_11 h85_11
                  try rw [(show F_10 84 = (upd (upd (F 84) (Int32.toNatClampNeg ((n 83) - 1)) (-2)) (Int32.toNatClampNeg (((n 83) - 1) + 1)) ((F 12) (Int32.toNatClampNeg wv))) from h84_10)] at h84_11
                  try rw [(show n_10 83 = ((((n 83) - 1) + 1) + 1) from (by first | exact h83_10 | exact (h83_10.trans (congrArg (· + 1) (by first | exact h83_9 | exact (h83_9.trans (congrArg (· + 1) ((hx8.1 83 (by decide)).trans (hx2.1 83 (by decide))))))))))] at h84_11
                  refine gz_aload_n dX12_tell_185 rfl rfl ?_
                  refine gz_aload_n dX12_tell_186 rfl rfl ?_
                  refine mg_32 hS_11 dX12_tell_187 ?_
                  refine gz_iload_n dX12_tell_190 rfl rfl ?_
                  refine m_iald 11 hS_11 rfl (N := 880) rfl ((by exact vin_T (rfl : (wv).toInt = (wv).toInt) (by omega) (by omega))) dX12_tell_191 ?_
                  refine gz_ev (w := .int ((F 11) (Int32.toNatClampNeg wv))) (congrArg Value.int (congrFun ((hx11.2.2.1 11 (by decide)).trans ((hx10.2.2.1 11 (by decide)).trans ((hx9.2.2.1 11 (by decide)).trans ((hx8.2.2.1 11 (by decide)).trans (hx2.2.2.1 11 (by decide)))))) _)) ?_
                  refine gz_iconst (v := (-1)) dX12_tell_192 (by decide) ?_
                  refine gz_iconst (v := 0) dX12_tell_193 (by decide) ?_
                  have q_1 : vW F (n 5).toInt ((F 11) (Int32.toNatClampNeg wv)).toInt ∧ szF F ((F 11) (Int32.toNatClampNeg wv)).toInt + 1 ≤ szF F wv.toInt := one_ok bW hw (show 2 ≤ (F 7 (Int32.toNatClampNeg wv)).toInt by omega)
                  have q_1v : vsW F ((F 11) (Int32.toNatClampNeg wv)).toInt + owF F wv.toInt ≤ vsW F wv.toInt := one_vs bW hw (show 2 ≤ (F 7 (Int32.toNatClampNeg wv)).toInt by omega)
                  have q_1z := szF_pos bW q_1.1
                  have q_1l := vW_lt bW a5 q_1.1
                  have q_1c := csT_v (F := F) (x := ((F 11) (Int32.toNatClampNeg wv)).toInt) q_1l.1
                  have q_1w := wgT_v (F := F) (x := ((F 11) (Int32.toNatClampNeg wv)).toInt) q_1l.1
                  refine scX12_527 (k_X12_lays (x1 := ((F 11) (Int32.toNatClampNeg wv))) (x2 := (-1)) hS_11 (by (try rw [(show n_11 83 = (((((n 83) - 1) + 1) + 1) + 1) from (by first | exact h83_11 | exact (h83_11.trans (congrArg (· + 1) (by first | exact h83_10 | exact (h83_10.trans (congrArg (· + 1) (by first | exact h83_9 | exact (h83_9.trans (congrArg (· + 1) ((hx8.1 83 (by decide)).trans (hx2.1 83 (by decide)))))))))))))]); have q1_ := (T_add (T_add (T_add (T_sub (rfl : ((n 83)).toInt = ((n 83)).toInt) (show (1 : Int32).toInt = 1 from rfl) (by omega)) (show (1 : Int32).toInt = 1 from rfl) (by omega)) (show (1 : Int32).toInt = 1 from rfl) (by omega)) (show (1 : Int32).toInt = 1 from rfl) (by omega)); omega)) hS_11.1 ⟨(Nat.le_of_ble_eq_true rfl), (Nat.le_of_ble_eq_true rfl)⟩ ⟨(Nat.le_of_ble_eq_true rfl), (Nat.le_of_ble_eq_true rfl)⟩ rfl rfl (Nat.le_of_ble_eq_true rfl) dX12_tell_194 ?_
                  rintro f_12 ⟨n_12, z_12, F_12, G_12, hS_12, hx12, h83_12, h84_12, h85_12⟩
                  try simp only [(show n_11 83 = (((((n 83) - 1) + 1) + 1) + 1) from (by first | exact h83_11 | exact (h83_11.trans (congrArg (· + 1) (by first | exact h83_10 | exact (h83_10.trans (congrArg (· + 1) (by first | exact h83_9 | exact (h83_9.trans (congrArg (· + 1) ((hx8.1 83 (by decide)).trans (hx2.1 83 (by decide)))))))))))))] at h83_12 h84_12 h85_12
                  try rw [(show F_11 84 = (upd (upd (upd (F 84) (Int32.toNatClampNeg ((n 83) - 1)) (-2)) (Int32.toNatClampNeg (((n 83) - 1) + 1)) ((F 12) (Int32.toNatClampNeg wv))) (Int32.toNatClampNeg ((((n 83) - 1) + 1) + 1)) (-1)) from h84_11)] at h84_12
                  try rw [(show n_11 83 = (((((n 83) - 1) + 1) + 1) + 1) from (by first | exact h83_11 | exact (h83_11.trans (congrArg (· + 1) (by first | exact h83_10 | exact (h83_10.trans (congrArg (· + 1) (by first | exact h83_9 | exact (h83_9.trans (congrArg (· + 1) ((hx8.1 83 (by decide)).trans (hx2.1 83 (by decide)))))))))))))] at h84_12
                  refine gz_goto (tgt := 35) dX12_tell_197 (by decide) ?_
                  refine gz_sub (lv' := [(0, .ref m), (1, .int x1)]) (by simp [List.lookup]) ?_
                  have hxx : fx [83, 88, 89] [] [84, 85, 86, 87] [] n z F G n_12 z_12 F_12 G_12 := (fx_tr (fx_tr (fx_tr (fx_tr (fx_tr (fx_tr (fx_n fx_rf (by decide)) hx2 (by decide)) hx8 (by decide)) hx9 (by decide)) hx10 (by decide)) hx11 (by decide)) hx12 (by decide))
                  have hp0 := tkT_push (x := (-2)) hT3 (Or.inr (Or.inl rfl))
                  have hp1 := tkT_push (x := ((F 12) (Int32.toNatClampNeg wv))) hp0 (Or.inr (Or.inr q_2.1))
                  have hp2 := tkT_push (x := (-1)) hp1 (Or.inl rfl)
                  have hp3 := tkT_push (x := ((F 11) (Int32.toNatClampNeg wv))) hp2 (Or.inr (Or.inr q_1.1))
                  have qn1 := csT_n (F := F) (x := ((-1) : Int32).toInt) (by decide)
                  have qn2 := csT_n (F := F) (x := ((-2) : Int32).toInt) (by decide)
                  have e83 : (n_12 83).toInt.toNat = ((n 83) - 1).toInt.toNat + 4 := (by (try rw [(show n_12 83 = ((((((n 83) - 1) + 1) + 1) + 1) + 1) from (by first | exact h83_12 | exact (h83_12.trans (congrArg (· + 1) (by first | exact h83_11 | exact (h83_11.trans (congrArg (· + 1) (by first | exact h83_10 | exact (h83_10.trans (congrArg (· + 1) (by first | exact h83_9 | exact (h83_9.trans (congrArg (· + 1) ((hx8.1 83 (by decide)).trans (hx2.1 83 (by decide))))))))))))))))]); have q1_ := (T_add (T_add (T_add (T_add (T_sub (rfl : ((n 83)).toInt = ((n 83)).toInt) (show (1 : Int32).toInt = 1 from rfl) (by omega)) (show (1 : Int32).toInt = 1 from rfl) (by omega)) (show (1 : Int32).toInt = 1 from rfl) (by omega)) (show (1 : Int32).toInt = 1 from rfl) (by omega)) (show (1 : Int32).toInt = 1 from rfl) (by omega)); omega)
                  have e83b : 0 ≤ (n_12 83).toInt := (by (try rw [(show n_12 83 = ((((((n 83) - 1) + 1) + 1) + 1) + 1) from (by first | exact h83_12 | exact (h83_12.trans (congrArg (· + 1) (by first | exact h83_11 | exact (h83_11.trans (congrArg (· + 1) (by first | exact h83_10 | exact (h83_10.trans (congrArg (· + 1) (by first | exact h83_9 | exact (h83_9.trans (congrArg (· + 1) ((hx8.1 83 (by decide)).trans (hx2.1 83 (by decide))))))))))))))))]); have q1_ := (T_add (T_add (T_add (T_add (T_sub (rfl : ((n 83)).toInt = ((n 83)).toInt) (show (1 : Int32).toInt = 1 from rfl) (by omega)) (show (1 : Int32).toInt = 1 from rfl) (by omega)) (show (1 : Int32).toInt = 1 from rfl) (by omega)) (show (1 : Int32).toInt = 1 from rfl) (by omega)) (show (1 : Int32).toInt = 1 from rfl) (by omega)); omega)
                  have e5 : n_12 5 = n 5 := hxx.1 5 (by decide)
                  have e84 : F_12 84 = (upd (upd (upd (upd (F 84) (((n 83) - 1).toInt.toNat) (-2)) (((n 83) - 1).toInt.toNat + 1) ((F 12) (Int32.toNatClampNeg wv))) (((n 83) - 1).toInt.toNat + 2) (-1)) (((n 83) - 1).toInt.toNat + 3) ((F 11) (Int32.toNatClampNeg wv))) := (show F_12 84 = (upd (upd (upd (upd (F 84) (Int32.toNatClampNeg ((n 83) - 1)) (-2)) (Int32.toNatClampNeg (((n 83) - 1) + 1)) ((F 12) (Int32.toNatClampNeg wv))) (Int32.toNatClampNeg ((((n 83) - 1) + 1) + 1)) (-1)) (Int32.toNatClampNeg (((((n 83) - 1) + 1) + 1) + 1)) ((F 11) (Int32.toNatClampNeg wv))) from h84_12).trans (by rw [show Int32.toNatClampNeg (((n 83) - 1) + 1) = ((n 83) - 1).toInt.toNat + 1 from by have q := (T_add (T_sub (rfl : ((n 83)).toInt = ((n 83)).toInt) (show (1 : Int32).toInt = 1 from rfl) (by omega)) (show (1 : Int32).toInt = 1 from rfl) (by omega)); rw [clN, q]; omega, show Int32.toNatClampNeg ((((n 83) - 1) + 1) + 1) = ((n 83) - 1).toInt.toNat + 2 from by have q := (T_add (T_add (T_sub (rfl : ((n 83)).toInt = ((n 83)).toInt) (show (1 : Int32).toInt = 1 from rfl) (by omega)) (show (1 : Int32).toInt = 1 from rfl) (by omega)) (show (1 : Int32).toInt = 1 from rfl) (by omega)); rw [clN, q]; omega, show Int32.toNatClampNeg (((((n 83) - 1) + 1) + 1) + 1) = ((n 83) - 1).toInt.toNat + 3 from by have q := (T_add (T_add (T_add (T_sub (rfl : ((n 83)).toInt = ((n 83)).toInt) (show (1 : Int32).toInt = 1 from rfl) (by omega)) (show (1 : Int32).toInt = 1 from rfl) (by omega)) (show (1 : Int32).toInt = 1 from rfl) (by omega)) (show (1 : Int32).toInt = 1 from rfl) (by omega)); rw [clN, q]; omega]; rfl)
                  have hT9 : tkT F_12 (n_12 5).toInt (F_12 84) (n_12 83).toInt.toNat ((((A2 + csT F ((-2) : Int32).toInt) + csT F ((F 12) (Int32.toNatClampNeg wv)).toInt) + csT F ((-1) : Int32).toInt) + csT F ((F 11) (Int32.toNatClampNeg wv)).toInt) ((((B2 + wgT F ((-2) : Int32).toInt) + wgT F ((F 12) (Int32.toNatClampNeg wv)).toInt) + wgT F ((-1) : Int32).toInt) + wgT F ((F 11) (Int32.toNatClampNeg wv)).toInt) := by rw [e83, e5, e84]; exact tkT_w (fun k hk => hxx.2.2.1 k ((by decide : ∀ k : Nat, k ∈ wK → k ∉ ([84, 85, 86, 87] : List Nat)) k hk)) hp3
                  have e88 : 0 ≤ (n_12 88).toInt ∧ (n_12 88).toInt + (((((A2 + csT F ((-2) : Int32).toInt) + csT F ((F 12) (Int32.toNatClampNeg wv)).toInt) + csT F ((-1) : Int32).toInt) + csT F ((F 11) (Int32.toNatClampNeg wv)).toInt) : Nat) ≤ 1000 := (by (try rw [(show n_12 88 = (n_8 88) from ((hx12.1 88 (by decide)).trans ((hx11.1 88 (by decide)).trans ((hx10.1 88 (by decide)).trans (hx9.1 88 (by decide))))))]); omega)
                  have hR9 : RI n_12 F_12 := RI_cg (fun k hk => hxx.2.2.1 k ((by decide : ∀ k : Nat, k ∈ riK → k ∉ ([84, 85, 86, 87] : List Nat)) k hk)) hR e5 (hxx.1 30 (by decide)) (hxx.1 38 (by decide)) (by rw [hxx.1 0 (by decide)]; exact a0) (by rw [hxx.1 4 (by decide)]; exact a4) (by rw [hxx.1 53 (by decide)]; exact a53) (by rw [hxx.1 47 (by decide)]; exact a47) (by omega)
                  exact ih ((((A2 + csT F ((-2) : Int32).toInt) + csT F ((F 12) (Int32.toNatClampNeg wv)).toInt) + csT F ((-1) : Int32).toInt) + csT F ((F 11) (Int32.toNatClampNeg wv)).toInt) ((((B2 + wgT F ((-2) : Int32).toInt) + wgT F ((F 12) (Int32.toNatClampNeg wv)).toInt) + wgT F ((-1) : Int32).toInt) + wgT F ((F 11) (Int32.toNatClampNeg wv)).toInt) _ _ _ _ _ hS_12 (fx_tr (fx_tr (fx_tr (fx_tr (fx_tr (fx_tr (fx_n hx (by decide)) hx2 (by decide)) hx8 (by decide)) hx9 (by decide)) hx10 (by decide)) hx11 (by decide)) hx12 (by decide)) (hR9) (hT9) (e83b) (e88.2) (by omega) (by omega)
              ·
                try simp only [mIn_0, lgc_lt, lgc_gt, lgc_le, lgc_ge, lgc_eq] at c_129
                try simp only [fl_lt, fl_le, fl_eq, fL_w, fL_lt, fL_le, tm1, tm10k, tm9, tm99, Int32.reduceToInt, Int64.reduceToInt, Int.not_lt, Int.not_le] at c_129
                refine gz_aload_n dX12_tell_132 rfl rfl ?_
                refine mg_20 hS_2 dX12_tell_133 ?_
                refine gz_iload_n dX12_tell_136 rfl rfl ?_
                refine m_iald 7 hS_2 rfl (N := 880) rfl ((by exact vin_T (rfl : (wv).toInt = (wv).toInt) (by omega) (by omega))) dX12_tell_137 ?_
                refine gz_ev (w := .int ((F 7) (Int32.toNatClampNeg wv))) (congrArg Value.int (congrFun (hx2.2.2.1 7 (by decide)) _)) ?_
                refine gz_iconst (v := 5) dX12_tell_138 (by decide) ?_
                refine gz_icmp_ne (tgt := 146) dX12_tell_139 (by decide) (fun c_139 => ?_) (fun c_139 => ?_)
                ·
                  try simp only [mIn_0, lgc_lt, lgc_gt, lgc_le, lgc_ge, lgc_eq] at c_139
                  try simp only [fl_lt, fl_le, fl_eq, fL_w, fL_lt, fL_le, tm1, tm10k, tm9, tm99, Int32.reduceToInt, Int64.reduceToInt, Int.not_lt, Int.not_le] at c_139
                  refine gz_iconst (v := 0) dX12_tell_146 (by decide) ?_
                  refine gz_istore_n (lv' := [(3, .int 0), (2, .int wv), (0, .ref m), (1, .int x1)]) dX12_tell_147 rfl (by decide) rfl ?_
                  refine gz_iload_n dX12_tell_148 rfl rfl ?_
                  refine gz_if_eq (tgt := 185) dX12_tell_149 (by decide) (fun c_149 => ?_) (fun c_149 => ?_)
                  ·
                    try simp only [mIn_0, lgc_lt, lgc_gt, lgc_le, lgc_ge, lgc_eq] at c_149
                    try simp only [fl_lt, fl_le, fl_eq, fL_w, fL_lt, fL_le, tm1, tm10k, tm9, tm99, Int32.reduceToInt, Int64.reduceToInt, Int.not_lt, Int.not_le] at c_149
                    refine gz_aload_n dX12_tell_185 rfl rfl ?_
                    refine gz_aload_n dX12_tell_186 rfl rfl ?_
                    refine mg_32 hS_2 dX12_tell_187 ?_
                    refine gz_iload_n dX12_tell_190 rfl rfl ?_
                    refine m_iald 11 hS_2 rfl (N := 880) rfl ((by exact vin_T (rfl : (wv).toInt = (wv).toInt) (by omega) (by omega))) dX12_tell_191 ?_
                    refine gz_ev (w := .int ((F 11) (Int32.toNatClampNeg wv))) (congrArg Value.int (congrFun (hx2.2.2.1 11 (by decide)) _)) ?_
                    refine gz_iconst (v := (-1)) dX12_tell_192 (by decide) ?_
                    refine gz_iconst (v := 0) dX12_tell_193 (by decide) ?_
                    have q_1 : vW F (n 5).toInt ((F 11) (Int32.toNatClampNeg wv)).toInt ∧ szF F ((F 11) (Int32.toNatClampNeg wv)).toInt + 1 ≤ szF F wv.toInt := one_ok bW hw (show 2 ≤ (F 7 (Int32.toNatClampNeg wv)).toInt by omega)
                    have q_1v : vsW F ((F 11) (Int32.toNatClampNeg wv)).toInt + owF F wv.toInt ≤ vsW F wv.toInt := one_vs bW hw (show 2 ≤ (F 7 (Int32.toNatClampNeg wv)).toInt by omega)
                    have q_1z := szF_pos bW q_1.1
                    have q_1l := vW_lt bW a5 q_1.1
                    have q_1c := csT_v (F := F) (x := ((F 11) (Int32.toNatClampNeg wv)).toInt) q_1l.1
                    have q_1w := wgT_v (F := F) (x := ((F 11) (Int32.toNatClampNeg wv)).toInt) q_1l.1
                    refine scX12_527 (k_X12_lays (x1 := ((F 11) (Int32.toNatClampNeg wv))) (x2 := (-1)) hS_2 (by (try rw [(show n_2 83 = ((n 83) - 1) from (hx2.1 83 (by decide)))]); have q1_ := (T_sub (rfl : ((n 83)).toInt = ((n 83)).toInt) (show (1 : Int32).toInt = 1 from rfl) (by omega)); omega)) hS_2.1 ⟨(Nat.le_of_ble_eq_true rfl), (Nat.le_of_ble_eq_true rfl)⟩ ⟨(Nat.le_of_ble_eq_true rfl), (Nat.le_of_ble_eq_true rfl)⟩ rfl rfl (Nat.le_of_ble_eq_true rfl) dX12_tell_194 ?_
                    rintro f_13 ⟨n_13, z_13, F_13, G_13, hS_13, hx13, h83_13, h84_13, h85_13⟩
                    try simp only [(show n_2 83 = ((n 83) - 1) from (hx2.1 83 (by decide)))] at h83_13 h84_13 h85_13
                    try rw [(show F_2 84 = (F 84) from (hx2.2.2.1 84 (by decide)))] at h84_13
                    try rw [(show n_2 83 = ((n 83) - 1) from (hx2.1 83 (by decide)))] at h84_13
                    refine gz_goto (tgt := 35) dX12_tell_197 (by decide) ?_
                    refine gz_sub (lv' := [(0, .ref m), (1, .int x1)]) (by simp [List.lookup]) ?_
                    have hxx : fx [83, 88, 89] [] [84, 85, 86, 87] [] n z F G n_13 z_13 F_13 G_13 := (fx_tr (fx_tr (fx_n fx_rf (by decide)) hx2 (by decide)) hx13 (by decide))
                    have hp0 := tkT_push (x := ((F 11) (Int32.toNatClampNeg wv))) hT3 (Or.inr (Or.inr q_1.1))
                    have e83 : (n_13 83).toInt.toNat = ((n 83) - 1).toInt.toNat + 1 := (by (try rw [(show n_13 83 = (((n 83) - 1) + 1) from (by first | exact h83_13 | exact (h83_13.trans (congrArg (· + 1) (hx2.1 83 (by decide))))))]); have q1_ := (T_add (T_sub (rfl : ((n 83)).toInt = ((n 83)).toInt) (show (1 : Int32).toInt = 1 from rfl) (by omega)) (show (1 : Int32).toInt = 1 from rfl) (by omega)); omega)
                    have e83b : 0 ≤ (n_13 83).toInt := (by (try rw [(show n_13 83 = (((n 83) - 1) + 1) from (by first | exact h83_13 | exact (h83_13.trans (congrArg (· + 1) (hx2.1 83 (by decide))))))]); have q1_ := (T_add (T_sub (rfl : ((n 83)).toInt = ((n 83)).toInt) (show (1 : Int32).toInt = 1 from rfl) (by omega)) (show (1 : Int32).toInt = 1 from rfl) (by omega)); omega)
                    have e5 : n_13 5 = n 5 := hxx.1 5 (by decide)
                    have e84 : F_13 84 = (upd (F 84) (((n 83) - 1).toInt.toNat) ((F 11) (Int32.toNatClampNeg wv))) := (show F_13 84 = (upd (F 84) (Int32.toNatClampNeg ((n 83) - 1)) ((F 11) (Int32.toNatClampNeg wv))) from h84_13).trans rfl
                    have hT9 : tkT F_13 (n_13 5).toInt (F_13 84) (n_13 83).toInt.toNat (A2 + csT F ((F 11) (Int32.toNatClampNeg wv)).toInt) (B2 + wgT F ((F 11) (Int32.toNatClampNeg wv)).toInt) := by rw [e83, e5, e84]; exact tkT_w (fun k hk => hxx.2.2.1 k ((by decide : ∀ k : Nat, k ∈ wK → k ∉ ([84, 85, 86, 87] : List Nat)) k hk)) hp0
                    have e88 : 0 ≤ (n_13 88).toInt ∧ (n_13 88).toInt + ((A2 + csT F ((F 11) (Int32.toNatClampNeg wv)).toInt) : Nat) ≤ 1000 := (by (try rw [(show n_13 88 = (n_2 88) from (hx13.1 88 (by decide)))]); omega)
                    have hR9 : RI n_13 F_13 := RI_cg (fun k hk => hxx.2.2.1 k ((by decide : ∀ k : Nat, k ∈ riK → k ∉ ([84, 85, 86, 87] : List Nat)) k hk)) hR e5 (hxx.1 30 (by decide)) (hxx.1 38 (by decide)) (by rw [hxx.1 0 (by decide)]; exact a0) (by rw [hxx.1 4 (by decide)]; exact a4) (by rw [hxx.1 53 (by decide)]; exact a53) (by rw [hxx.1 47 (by decide)]; exact a47) (by omega)
                    exact ih (A2 + csT F ((F 11) (Int32.toNatClampNeg wv)).toInt) (B2 + wgT F ((F 11) (Int32.toNatClampNeg wv)).toInt) _ _ _ _ _ hS_13 (fx_tr (fx_tr (fx_n hx (by decide)) hx2 (by decide)) hx13 (by decide)) (hR9) (hT9) (e83b) (e88.2) (by omega) (by omega)
                  · exact absurd c_149 (by decide)
                ·
                  try simp only [mIn_0, lgc_lt, lgc_gt, lgc_le, lgc_ge, lgc_eq] at c_139
                  try simp only [fl_lt, fl_le, fl_eq, fL_w, fL_lt, fL_le, tm1, tm10k, tm9, tm99, Int32.reduceToInt, Int64.reduceToInt, Int.not_lt, Int.not_le] at c_139
                  refine gz_iconst (v := 1) dX12_tell_142 (by decide) ?_
                  refine gz_goto (tgt := 147) dX12_tell_143 (by decide) ?_
                  refine gz_istore_n (lv' := [(3, .int 1), (2, .int wv), (0, .ref m), (1, .int x1)]) dX12_tell_147 rfl (by decide) rfl ?_
                  refine gz_iload_n dX12_tell_148 rfl rfl ?_
                  refine gz_if_eq (tgt := 185) dX12_tell_149 (by decide) (fun c_149 => ?_) (fun c_149 => ?_)
                  · exact absurd c_149 (by decide)
                  ·
                    try simp only [mIn_0, lgc_lt, lgc_gt, lgc_le, lgc_ge, lgc_eq] at c_149
                    try simp only [fl_lt, fl_le, fl_eq, fL_w, fL_lt, fL_le, tm1, tm10k, tm9, tm99, Int32.reduceToInt, Int64.reduceToInt, Int.not_lt, Int.not_le] at c_149
                    refine gz_aload_n dX12_tell_152 rfl rfl ?_
                    refine gz_bipush (v := 40) dX12_tell_153 (by decide) ?_
                    refine scX12_547 (k_X12_signs (x1 := 40) hS_2 (by (try rw [(show n_2 88 = (n_2 88) from rfl)]); omega)) hS_2.1 ⟨(Nat.le_of_ble_eq_true rfl), (Nat.le_of_ble_eq_true rfl)⟩ ⟨(Nat.le_of_ble_eq_true rfl), (Nat.le_of_ble_eq_true rfl)⟩ rfl rfl (Nat.le_of_ble_eq_true rfl) dX12_tell_155 ?_
                    rintro f_14 ⟨n_14, z_14, F_14, G_14, hS_14, hx14, h8_14⟩
                    refine gz_aload_n dX12_tell_158 rfl rfl ?_
                    refine gz_bipush (v := (-2)) dX12_tell_159 (by decide) ?_
                    refine gz_iconst (v := (-1)) dX12_tell_161 (by decide) ?_
                    refine gz_iconst (v := 0) dX12_tell_162 (by decide) ?_
                    refine scX12_527 (k_X12_lays (x1 := (-2)) (x2 := (-1)) hS_14 (by (try rw [(show n_14 83 = ((n 83) - 1) from ((hx14.1 83 (by decide)).trans (hx2.1 83 (by decide))))]); have q1_ := (T_sub (rfl : ((n 83)).toInt = ((n 83)).toInt) (show (1 : Int32).toInt = 1 from rfl) (by omega)); omega)) hS_14.1 ⟨(Nat.le_of_ble_eq_true rfl), (Nat.le_of_ble_eq_true rfl)⟩ ⟨(Nat.le_of_ble_eq_true rfl), (Nat.le_of_ble_eq_true rfl)⟩ rfl rfl (Nat.le_of_ble_eq_true rfl) dX12_tell_163 ?_
                    rintro f_15 ⟨n_15, z_15, F_15, G_15, hS_15, hx15, h83_15, h84_15, h85_15⟩
                    try simp only [(show n_14 83 = ((n 83) - 1) from ((hx14.1 83 (by decide)).trans (hx2.1 83 (by decide))))] at h83_15 h84_15 h85_15
                    try rw [(show F_14 84 = (F 84) from ((hx14.2.2.1 84 (by decide)).trans (hx2.2.2.1 84 (by decide))))] at h84_15
                    try rw [(show n_14 83 = ((n 83) - 1) from ((hx14.1 83 (by decide)).trans (hx2.1 83 (by decide))))] at h84_15
                    refine gz_aload_n dX12_tell_166 rfl rfl ?_
                    refine gz_aload_n dX12_tell_167 rfl rfl ?_
                    refine mg_35 hS_15 dX12_tell_168 ?_
                    refine gz_iload_n dX12_tell_171 rfl rfl ?_
                    refine m_iald 12 hS_15 rfl (N := 880) rfl ((by exact vin_T (rfl : (wv).toInt = (wv).toInt) (by omega) (by omega))) dX12_tell_172 ?_
                    refine gz_ev (w := .int ((F 12) (Int32.toNatClampNeg wv))) (congrArg Value.int (congrFun ((hx15.2.2.1 12 (by decide)).trans ((hx14.2.2.1 12 (by decide)).trans (hx2.2.2.1 12 (by decide)))) _)) ?_
                    refine gz_iconst (v := (-1)) dX12_tell_173 (by decide) ?_
                    refine gz_iconst (v := 0) dX12_tell_174 (by decide) ?_
                    have q_2 : vW F (n 5).toInt ((F 12) (Int32.toNatClampNeg wv)).toInt ∧ szF F ((F 11) (Int32.toNatClampNeg wv)).toInt + szF F ((F 12) (Int32.toNatClampNeg wv)).toInt + 1 ≤ szF F wv.toInt := two_ok bW hw (show 3 ≤ (F 7 (Int32.toNatClampNeg wv)).toInt ∧ (F 7 (Int32.toNatClampNeg wv)).toInt ≤ 5 by omega)
                    have q_2v : vsW F ((F 11) (Int32.toNatClampNeg wv)).toInt + vsW F ((F 12) (Int32.toNatClampNeg wv)).toInt + owF F wv.toInt ≤ vsW F wv.toInt := two_vs bW hw (show 3 ≤ (F 7 (Int32.toNatClampNeg wv)).toInt ∧ (F 7 (Int32.toNatClampNeg wv)).toInt ≤ 5 by omega)
                    have q_2z := szF_pos bW q_2.1
                    have q_2l := vW_lt bW a5 q_2.1
                    have q_2c := csT_v (F := F) (x := ((F 12) (Int32.toNatClampNeg wv)).toInt) q_2l.1
                    have q_2w := wgT_v (F := F) (x := ((F 12) (Int32.toNatClampNeg wv)).toInt) q_2l.1
                    refine scX12_527 (k_X12_lays (x1 := ((F 12) (Int32.toNatClampNeg wv))) (x2 := (-1)) hS_15 (by (try rw [(show n_15 83 = (((n 83) - 1) + 1) from (by first | exact h83_15 | exact (h83_15.trans (congrArg (· + 1) ((hx14.1 83 (by decide)).trans (hx2.1 83 (by decide)))))))]); have q1_ := (T_add (T_sub (rfl : ((n 83)).toInt = ((n 83)).toInt) (show (1 : Int32).toInt = 1 from rfl) (by omega)) (show (1 : Int32).toInt = 1 from rfl) (by omega)); omega)) hS_15.1 ⟨(Nat.le_of_ble_eq_true rfl), (Nat.le_of_ble_eq_true rfl)⟩ ⟨(Nat.le_of_ble_eq_true rfl), (Nat.le_of_ble_eq_true rfl)⟩ rfl rfl (Nat.le_of_ble_eq_true rfl) dX12_tell_175 ?_
                    rintro f_16 ⟨n_16, z_16, F_16, G_16, hS_16, hx16, h83_16, h84_16, h85_16⟩
                    try simp only [(show n_15 83 = (((n 83) - 1) + 1) from (by first | exact h83_15 | exact (h83_15.trans (congrArg (· + 1) ((hx14.1 83 (by decide)).trans (hx2.1 83 (by decide)))))))] at h83_16 h84_16 h85_16
                    try rw [(show F_15 84 = (upd (F 84) (Int32.toNatClampNeg ((n 83) - 1)) (-2)) from h84_15)] at h84_16
                    try rw [(show n_15 83 = (((n 83) - 1) + 1) from (by first | exact h83_15 | exact (h83_15.trans (congrArg (· + 1) ((hx14.1 83 (by decide)).trans (hx2.1 83 (by decide)))))))] at h84_16
                    refine gz_aload_n dX12_tell_178 rfl rfl ?_
                    refine gz_iconst (v := (-1)) dX12_tell_179 (by decide) ?_
                    refine gz_iconst (v := (-1)) dX12_tell_180 (by decide) ?_
                    refine gz_iconst (v := 0) dX12_tell_181 (by decide) ?_
                    refine scX12_527 (k_X12_lays (x1 := (-1)) (x2 := (-1)) hS_16 (by (try rw [(show n_16 83 = ((((n 83) - 1) + 1) + 1) from (by first | exact h83_16 | exact (h83_16.trans (congrArg (· + 1) (by first | exact h83_15 | exact (h83_15.trans (congrArg (· + 1) ((hx14.1 83 (by decide)).trans (hx2.1 83 (by decide))))))))))]); have q1_ := (T_add (T_add (T_sub (rfl : ((n 83)).toInt = ((n 83)).toInt) (show (1 : Int32).toInt = 1 from rfl) (by omega)) (show (1 : Int32).toInt = 1 from rfl) (by omega)) (show (1 : Int32).toInt = 1 from rfl) (by omega)); omega)) hS_16.1 ⟨(Nat.le_of_ble_eq_true rfl), (Nat.le_of_ble_eq_true rfl)⟩ ⟨(Nat.le_of_ble_eq_true rfl), (Nat.le_of_ble_eq_true rfl)⟩ rfl rfl (Nat.le_of_ble_eq_true rfl) dX12_tell_182 ?_
                    rintro f_17 ⟨n_17, z_17, F_17, G_17, hS_17, hx17, h83_17, h84_17, h85_17⟩
                    try simp only [(show n_16 83 = ((((n 83) - 1) + 1) + 1) from (by first | exact h83_16 | exact (h83_16.trans (congrArg (· + 1) (by first | exact h83_15 | exact (h83_15.trans (congrArg (· + 1) ((hx14.1 83 (by decide)).trans (hx2.1 83 (by decide))))))))))] at h83_17 h84_17 h85_17
                    try rw [(show F_16 84 = (upd (upd (F 84) (Int32.toNatClampNeg ((n 83) - 1)) (-2)) (Int32.toNatClampNeg (((n 83) - 1) + 1)) ((F 12) (Int32.toNatClampNeg wv))) from h84_16)] at h84_17
                    try rw [(show n_16 83 = ((((n 83) - 1) + 1) + 1) from (by first | exact h83_16 | exact (h83_16.trans (congrArg (· + 1) (by first | exact h83_15 | exact (h83_15.trans (congrArg (· + 1) ((hx14.1 83 (by decide)).trans (hx2.1 83 (by decide))))))))))] at h84_17
                    refine gz_aload_n dX12_tell_185 rfl rfl ?_
                    refine gz_aload_n dX12_tell_186 rfl rfl ?_
                    refine mg_32 hS_17 dX12_tell_187 ?_
                    refine gz_iload_n dX12_tell_190 rfl rfl ?_
                    refine m_iald 11 hS_17 rfl (N := 880) rfl ((by exact vin_T (rfl : (wv).toInt = (wv).toInt) (by omega) (by omega))) dX12_tell_191 ?_
                    refine gz_ev (w := .int ((F 11) (Int32.toNatClampNeg wv))) (congrArg Value.int (congrFun ((hx17.2.2.1 11 (by decide)).trans ((hx16.2.2.1 11 (by decide)).trans ((hx15.2.2.1 11 (by decide)).trans ((hx14.2.2.1 11 (by decide)).trans (hx2.2.2.1 11 (by decide)))))) _)) ?_
                    refine gz_iconst (v := (-1)) dX12_tell_192 (by decide) ?_
                    refine gz_iconst (v := 0) dX12_tell_193 (by decide) ?_
                    have q_1 : vW F (n 5).toInt ((F 11) (Int32.toNatClampNeg wv)).toInt ∧ szF F ((F 11) (Int32.toNatClampNeg wv)).toInt + 1 ≤ szF F wv.toInt := one_ok bW hw (show 2 ≤ (F 7 (Int32.toNatClampNeg wv)).toInt by omega)
                    have q_1v : vsW F ((F 11) (Int32.toNatClampNeg wv)).toInt + owF F wv.toInt ≤ vsW F wv.toInt := one_vs bW hw (show 2 ≤ (F 7 (Int32.toNatClampNeg wv)).toInt by omega)
                    have q_1z := szF_pos bW q_1.1
                    have q_1l := vW_lt bW a5 q_1.1
                    have q_1c := csT_v (F := F) (x := ((F 11) (Int32.toNatClampNeg wv)).toInt) q_1l.1
                    have q_1w := wgT_v (F := F) (x := ((F 11) (Int32.toNatClampNeg wv)).toInt) q_1l.1
                    refine scX12_527 (k_X12_lays (x1 := ((F 11) (Int32.toNatClampNeg wv))) (x2 := (-1)) hS_17 (by (try rw [(show n_17 83 = (((((n 83) - 1) + 1) + 1) + 1) from (by first | exact h83_17 | exact (h83_17.trans (congrArg (· + 1) (by first | exact h83_16 | exact (h83_16.trans (congrArg (· + 1) (by first | exact h83_15 | exact (h83_15.trans (congrArg (· + 1) ((hx14.1 83 (by decide)).trans (hx2.1 83 (by decide)))))))))))))]); have q1_ := (T_add (T_add (T_add (T_sub (rfl : ((n 83)).toInt = ((n 83)).toInt) (show (1 : Int32).toInt = 1 from rfl) (by omega)) (show (1 : Int32).toInt = 1 from rfl) (by omega)) (show (1 : Int32).toInt = 1 from rfl) (by omega)) (show (1 : Int32).toInt = 1 from rfl) (by omega)); omega)) hS_17.1 ⟨(Nat.le_of_ble_eq_true rfl), (Nat.le_of_ble_eq_true rfl)⟩ ⟨(Nat.le_of_ble_eq_true rfl), (Nat.le_of_ble_eq_true rfl)⟩ rfl rfl (Nat.le_of_ble_eq_true rfl) dX12_tell_194 ?_
                    rintro f_18 ⟨n_18, z_18, F_18, G_18, hS_18, hx18, h83_18, h84_18, h85_18⟩
                    try simp only [(show n_17 83 = (((((n 83) - 1) + 1) + 1) + 1) from (by first | exact h83_17 | exact (h83_17.trans (congrArg (· + 1) (by first | exact h83_16 | exact (h83_16.trans (congrArg (· + 1) (by first | exact h83_15 | exact (h83_15.trans (congrArg (· + 1) ((hx14.1 83 (by decide)).trans (hx2.1 83 (by decide)))))))))))))] at h83_18 h84_18 h85_18
                    try rw [(show F_17 84 = (upd (upd (upd (F 84) (Int32.toNatClampNeg ((n 83) - 1)) (-2)) (Int32.toNatClampNeg (((n 83) - 1) + 1)) ((F 12) (Int32.toNatClampNeg wv))) (Int32.toNatClampNeg ((((n 83) - 1) + 1) + 1)) (-1)) from h84_17)] at h84_18
                    try rw [(show n_17 83 = (((((n 83) - 1) + 1) + 1) + 1) from (by first | exact h83_17 | exact (h83_17.trans (congrArg (· + 1) (by first | exact h83_16 | exact (h83_16.trans (congrArg (· + 1) (by first | exact h83_15 | exact (h83_15.trans (congrArg (· + 1) ((hx14.1 83 (by decide)).trans (hx2.1 83 (by decide)))))))))))))] at h84_18
                    refine gz_goto (tgt := 35) dX12_tell_197 (by decide) ?_
                    refine gz_sub (lv' := [(0, .ref m), (1, .int x1)]) (by simp [List.lookup]) ?_
                    have hxx : fx [83, 88, 89] [] [84, 85, 86, 87] [] n z F G n_18 z_18 F_18 G_18 := (fx_tr (fx_tr (fx_tr (fx_tr (fx_tr (fx_tr (fx_n fx_rf (by decide)) hx2 (by decide)) hx14 (by decide)) hx15 (by decide)) hx16 (by decide)) hx17 (by decide)) hx18 (by decide))
                    have hp0 := tkT_push (x := (-2)) hT3 (Or.inr (Or.inl rfl))
                    have hp1 := tkT_push (x := ((F 12) (Int32.toNatClampNeg wv))) hp0 (Or.inr (Or.inr q_2.1))
                    have hp2 := tkT_push (x := (-1)) hp1 (Or.inl rfl)
                    have hp3 := tkT_push (x := ((F 11) (Int32.toNatClampNeg wv))) hp2 (Or.inr (Or.inr q_1.1))
                    have qn1 := csT_n (F := F) (x := ((-1) : Int32).toInt) (by decide)
                    have qn2 := csT_n (F := F) (x := ((-2) : Int32).toInt) (by decide)
                    have e83 : (n_18 83).toInt.toNat = ((n 83) - 1).toInt.toNat + 4 := (by (try rw [(show n_18 83 = ((((((n 83) - 1) + 1) + 1) + 1) + 1) from (by first | exact h83_18 | exact (h83_18.trans (congrArg (· + 1) (by first | exact h83_17 | exact (h83_17.trans (congrArg (· + 1) (by first | exact h83_16 | exact (h83_16.trans (congrArg (· + 1) (by first | exact h83_15 | exact (h83_15.trans (congrArg (· + 1) ((hx14.1 83 (by decide)).trans (hx2.1 83 (by decide))))))))))))))))]); have q1_ := (T_add (T_add (T_add (T_add (T_sub (rfl : ((n 83)).toInt = ((n 83)).toInt) (show (1 : Int32).toInt = 1 from rfl) (by omega)) (show (1 : Int32).toInt = 1 from rfl) (by omega)) (show (1 : Int32).toInt = 1 from rfl) (by omega)) (show (1 : Int32).toInt = 1 from rfl) (by omega)) (show (1 : Int32).toInt = 1 from rfl) (by omega)); omega)
                    have e83b : 0 ≤ (n_18 83).toInt := (by (try rw [(show n_18 83 = ((((((n 83) - 1) + 1) + 1) + 1) + 1) from (by first | exact h83_18 | exact (h83_18.trans (congrArg (· + 1) (by first | exact h83_17 | exact (h83_17.trans (congrArg (· + 1) (by first | exact h83_16 | exact (h83_16.trans (congrArg (· + 1) (by first | exact h83_15 | exact (h83_15.trans (congrArg (· + 1) ((hx14.1 83 (by decide)).trans (hx2.1 83 (by decide))))))))))))))))]); have q1_ := (T_add (T_add (T_add (T_add (T_sub (rfl : ((n 83)).toInt = ((n 83)).toInt) (show (1 : Int32).toInt = 1 from rfl) (by omega)) (show (1 : Int32).toInt = 1 from rfl) (by omega)) (show (1 : Int32).toInt = 1 from rfl) (by omega)) (show (1 : Int32).toInt = 1 from rfl) (by omega)) (show (1 : Int32).toInt = 1 from rfl) (by omega)); omega)
                    have e5 : n_18 5 = n 5 := hxx.1 5 (by decide)
                    have e84 : F_18 84 = (upd (upd (upd (upd (F 84) (((n 83) - 1).toInt.toNat) (-2)) (((n 83) - 1).toInt.toNat + 1) ((F 12) (Int32.toNatClampNeg wv))) (((n 83) - 1).toInt.toNat + 2) (-1)) (((n 83) - 1).toInt.toNat + 3) ((F 11) (Int32.toNatClampNeg wv))) := (show F_18 84 = (upd (upd (upd (upd (F 84) (Int32.toNatClampNeg ((n 83) - 1)) (-2)) (Int32.toNatClampNeg (((n 83) - 1) + 1)) ((F 12) (Int32.toNatClampNeg wv))) (Int32.toNatClampNeg ((((n 83) - 1) + 1) + 1)) (-1)) (Int32.toNatClampNeg (((((n 83) - 1) + 1) + 1) + 1)) ((F 11) (Int32.toNatClampNeg wv))) from h84_18).trans (by rw [show Int32.toNatClampNeg (((n 83) - 1) + 1) = ((n 83) - 1).toInt.toNat + 1 from by have q := (T_add (T_sub (rfl : ((n 83)).toInt = ((n 83)).toInt) (show (1 : Int32).toInt = 1 from rfl) (by omega)) (show (1 : Int32).toInt = 1 from rfl) (by omega)); rw [clN, q]; omega, show Int32.toNatClampNeg ((((n 83) - 1) + 1) + 1) = ((n 83) - 1).toInt.toNat + 2 from by have q := (T_add (T_add (T_sub (rfl : ((n 83)).toInt = ((n 83)).toInt) (show (1 : Int32).toInt = 1 from rfl) (by omega)) (show (1 : Int32).toInt = 1 from rfl) (by omega)) (show (1 : Int32).toInt = 1 from rfl) (by omega)); rw [clN, q]; omega, show Int32.toNatClampNeg (((((n 83) - 1) + 1) + 1) + 1) = ((n 83) - 1).toInt.toNat + 3 from by have q := (T_add (T_add (T_add (T_sub (rfl : ((n 83)).toInt = ((n 83)).toInt) (show (1 : Int32).toInt = 1 from rfl) (by omega)) (show (1 : Int32).toInt = 1 from rfl) (by omega)) (show (1 : Int32).toInt = 1 from rfl) (by omega)) (show (1 : Int32).toInt = 1 from rfl) (by omega)); rw [clN, q]; omega]; rfl)
                    have hT9 : tkT F_18 (n_18 5).toInt (F_18 84) (n_18 83).toInt.toNat ((((A2 + csT F ((-2) : Int32).toInt) + csT F ((F 12) (Int32.toNatClampNeg wv)).toInt) + csT F ((-1) : Int32).toInt) + csT F ((F 11) (Int32.toNatClampNeg wv)).toInt) ((((B2 + wgT F ((-2) : Int32).toInt) + wgT F ((F 12) (Int32.toNatClampNeg wv)).toInt) + wgT F ((-1) : Int32).toInt) + wgT F ((F 11) (Int32.toNatClampNeg wv)).toInt) := by rw [e83, e5, e84]; exact tkT_w (fun k hk => hxx.2.2.1 k ((by decide : ∀ k : Nat, k ∈ wK → k ∉ ([84, 85, 86, 87] : List Nat)) k hk)) hp3
                    have e88 : 0 ≤ (n_18 88).toInt ∧ (n_18 88).toInt + (((((A2 + csT F ((-2) : Int32).toInt) + csT F ((F 12) (Int32.toNatClampNeg wv)).toInt) + csT F ((-1) : Int32).toInt) + csT F ((F 11) (Int32.toNatClampNeg wv)).toInt) : Nat) ≤ 1000 := (by (try rw [(show n_18 88 = (n_14 88) from ((hx18.1 88 (by decide)).trans ((hx17.1 88 (by decide)).trans ((hx16.1 88 (by decide)).trans (hx15.1 88 (by decide))))))]); omega)
                    have hR9 : RI n_18 F_18 := RI_cg (fun k hk => hxx.2.2.1 k ((by decide : ∀ k : Nat, k ∈ riK → k ∉ ([84, 85, 86, 87] : List Nat)) k hk)) hR e5 (hxx.1 30 (by decide)) (hxx.1 38 (by decide)) (by rw [hxx.1 0 (by decide)]; exact a0) (by rw [hxx.1 4 (by decide)]; exact a4) (by rw [hxx.1 53 (by decide)]; exact a53) (by rw [hxx.1 47 (by decide)]; exact a47) (by omega)
                    exact ih ((((A2 + csT F ((-2) : Int32).toInt) + csT F ((F 12) (Int32.toNatClampNeg wv)).toInt) + csT F ((-1) : Int32).toInt) + csT F ((F 11) (Int32.toNatClampNeg wv)).toInt) ((((B2 + wgT F ((-2) : Int32).toInt) + wgT F ((F 12) (Int32.toNatClampNeg wv)).toInt) + wgT F ((-1) : Int32).toInt) + wgT F ((F 11) (Int32.toNatClampNeg wv)).toInt) _ _ _ _ _ hS_18 (fx_tr (fx_tr (fx_tr (fx_tr (fx_tr (fx_tr (fx_n hx (by decide)) hx2 (by decide)) hx14 (by decide)) hx15 (by decide)) hx16 (by decide)) hx17 (by decide)) hx18 (by decide)) (hR9) (hT9) (e83b) (e88.2) (by omega) (by omega)
          ·
            try simp only [mIn_0, lgc_lt, lgc_gt, lgc_le, lgc_ge, lgc_eq] at c_106
            try simp only [fl_lt, fl_le, fl_eq, fL_w, fL_lt, fL_le, tm1, tm10k, tm9, tm99, Int32.reduceToInt, Int64.reduceToInt, Int.not_lt, Int.not_le] at c_106
            refine gz_goto (tgt := 35) dX12_tell_109 (by decide) ?_
            refine gz_sub (lv' := [(0, .ref m), (1, .int x1)]) (by simp [List.lookup]) ?_
            have hxx : fx [83, 88, 89] [] [84, 85, 86, 87] [] n z F G n_2 z_2 F_2 G_2 := (fx_tr (fx_n fx_rf (by decide)) hx2 (by decide))
            have e83 : (n_2 83).toInt.toNat = ((n 83) - 1).toInt.toNat + 0 := (by (try rw [(show n_2 83 = ((n 83) - 1) from (hx2.1 83 (by decide)))]); have q1_ := (T_sub (rfl : ((n 83)).toInt = ((n 83)).toInt) (show (1 : Int32).toInt = 1 from rfl) (by omega)); omega)
            have e83b : 0 ≤ (n_2 83).toInt := (by (try rw [(show n_2 83 = ((n 83) - 1) from (hx2.1 83 (by decide)))]); have q1_ := (T_sub (rfl : ((n 83)).toInt = ((n 83)).toInt) (show (1 : Int32).toInt = 1 from rfl) (by omega)); omega)
            have e5 : n_2 5 = n 5 := hxx.1 5 (by decide)
            have e84 : F_2 84 = (F 84) := (show F_2 84 = (F 84) from (hx2.2.2.1 84 (by decide))).trans rfl
            have hT9 : tkT F_2 (n_2 5).toInt (F_2 84) (n_2 83).toInt.toNat A2 B2 := by rw [e83, e5, e84]; exact tkT_w (fun k hk => hxx.2.2.1 k ((by decide : ∀ k : Nat, k ∈ wK → k ∉ ([84, 85, 86, 87] : List Nat)) k hk)) hT3
            have e88 : 0 ≤ (n_2 88).toInt ∧ (n_2 88).toInt + (A2 : Nat) ≤ 1000 := (by (try rw [(show n_2 88 = (n_2 88) from rfl)]); omega)
            have hR9 : RI n_2 F_2 := RI_cg (fun k hk => hxx.2.2.1 k ((by decide : ∀ k : Nat, k ∈ riK → k ∉ ([84, 85, 86, 87] : List Nat)) k hk)) hR e5 (hxx.1 30 (by decide)) (hxx.1 38 (by decide)) (by rw [hxx.1 0 (by decide)]; exact a0) (by rw [hxx.1 4 (by decide)]; exact a4) (by rw [hxx.1 53 (by decide)]; exact a53) (by rw [hxx.1 47 (by decide)]; exact a47) (by omega)
            exact ih A2 B2 _ _ _ _ _ hS_2 (fx_tr (fx_n hx (by decide)) hx2 (by decide)) (hR9) (hT9) (e83b) (e88.2) (by omega) (by omega)
      ·
        try simp only [mIn_0, lgc_lt, lgc_gt, lgc_le, lgc_ge, lgc_eq] at c_63
        try simp only [fl_lt, fl_le, fl_eq, fL_w, fL_lt, fL_le, tm1, tm10k, tm9, tm99, Int32.reduceToInt, Int64.reduceToInt, Int.not_lt, Int.not_le] at c_63
        have qn := csT_n (F := F) (x := wv.toInt) (by omega)
        refine gz_aload_n dX12_tell_66 rfl rfl ?_
        refine gz_iload_n dX12_tell_67 rfl rfl ?_
        refine gz_iconst (v := (-1)) dX12_tell_68 (by decide) ?_
        refine gz_icmp_ne (tgt := 77) dX12_tell_69 (by decide) (fun c_69 => ?_) (fun c_69 => ?_)
        ·
          try simp only [mIn_0, lgc_lt, lgc_gt, lgc_le, lgc_ge, lgc_eq] at c_69
          try simp only [fl_lt, fl_le, fl_eq, fL_w, fL_lt, fL_le, tm1, tm10k, tm9, tm99, Int32.reduceToInt, Int64.reduceToInt, Int.not_lt, Int.not_le] at c_69
          refine gz_bipush (v := 41) dX12_tell_77 (by decide) ?_
          refine scX12_547 (k_X12_signs (x1 := 41) hS_1 (by (try rw [(show (va_up n 83 ((n 83) - 1)) 88 = (n 88) from rfl)]); omega)) hS_1.1 ⟨(Nat.le_of_ble_eq_true rfl), (Nat.le_of_ble_eq_true rfl)⟩ ⟨(Nat.le_of_ble_eq_true rfl), (Nat.le_of_ble_eq_true rfl)⟩ rfl rfl (Nat.le_of_ble_eq_true rfl) dX12_tell_79 ?_
          rintro f_19 ⟨n_19, z_19, F_19, G_19, hS_19, hx19, h8_19⟩
          try simp only [(show (va_up n 83 ((n 83) - 1)) 88 = (n 88) from rfl)] at h8_19
          try simp only [(show (va_up n 83 ((n 83) - 1)) 89 = (n 89) from rfl)] at h8_19
          refine gz_goto (tgt := 35) dX12_tell_82 (by decide) ?_
          refine gz_sub (lv' := [(0, .ref m), (1, .int x1)]) (by simp [List.lookup]) ?_
          have hxx : fx [83, 88, 89] [] [84, 85, 86, 87] [] n z F G n_19 z_19 F_19 G_19 := (fx_tr (fx_n fx_rf (by decide)) hx19 (by decide))
          have e83 : (n_19 83).toInt.toNat = ((n 83) - 1).toInt.toNat + 0 := (by (try rw [(show n_19 83 = ((n 83) - 1) from (hx19.1 83 (by decide)))]); have q1_ := (T_sub (rfl : ((n 83)).toInt = ((n 83)).toInt) (show (1 : Int32).toInt = 1 from rfl) (by omega)); omega)
          have e83b : 0 ≤ (n_19 83).toInt := (by (try rw [(show n_19 83 = ((n 83) - 1) from (hx19.1 83 (by decide)))]); have q1_ := (T_sub (rfl : ((n 83)).toInt = ((n 83)).toInt) (show (1 : Int32).toInt = 1 from rfl) (by omega)); omega)
          have e5 : n_19 5 = n 5 := hxx.1 5 (by decide)
          have e84 : F_19 84 = (F 84) := (show F_19 84 = (F 84) from (hx19.2.2.1 84 (by decide))).trans rfl
          have hT9 : tkT F_19 (n_19 5).toInt (F_19 84) (n_19 83).toInt.toNat A2 B2 := by rw [e83, e5, e84]; exact tkT_w (fun k hk => hxx.2.2.1 k ((by decide : ∀ k : Nat, k ∈ wK → k ∉ ([84, 85, 86, 87] : List Nat)) k hk)) hT3
          have e88 : 0 ≤ (n_19 88).toInt ∧ (n_19 88).toInt + (A2 : Nat) ≤ 1000 := (by (try rw [(show n_19 88 = (n_19 88) from rfl)]); omega)
          have hR9 : RI n_19 F_19 := RI_cg (fun k hk => hxx.2.2.1 k ((by decide : ∀ k : Nat, k ∈ riK → k ∉ ([84, 85, 86, 87] : List Nat)) k hk)) hR e5 (hxx.1 30 (by decide)) (hxx.1 38 (by decide)) (by rw [hxx.1 0 (by decide)]; exact a0) (by rw [hxx.1 4 (by decide)]; exact a4) (by rw [hxx.1 53 (by decide)]; exact a53) (by rw [hxx.1 47 (by decide)]; exact a47) (by omega)
          exact ih A2 B2 _ _ _ _ _ hS_19 (fx_tr (fx_n hx (by decide)) hx19 (by decide)) (hR9) (hT9) (e83b) (e88.2) (by omega) (by omega)
        ·
          try simp only [mIn_0, lgc_lt, lgc_gt, lgc_le, lgc_ge, lgc_eq] at c_69
          try simp only [fl_lt, fl_le, fl_eq, fL_w, fL_lt, fL_le, tm1, tm10k, tm9, tm99, Int32.reduceToInt, Int64.reduceToInt, Int.not_lt, Int.not_le] at c_69
          refine gz_bipush (v := 44) dX12_tell_72 (by decide) ?_
          refine gz_goto (tgt := 79) dX12_tell_74 (by decide) ?_
          refine scX12_547 (k_X12_signs (x1 := 44) hS_1 (by (try rw [(show (va_up n 83 ((n 83) - 1)) 88 = (n 88) from rfl)]); omega)) hS_1.1 ⟨(Nat.le_of_ble_eq_true rfl), (Nat.le_of_ble_eq_true rfl)⟩ ⟨(Nat.le_of_ble_eq_true rfl), (Nat.le_of_ble_eq_true rfl)⟩ rfl rfl (Nat.le_of_ble_eq_true rfl) dX12_tell_79 ?_
          rintro f_20 ⟨n_20, z_20, F_20, G_20, hS_20, hx20, h8_20⟩
          try simp only [(show (va_up n 83 ((n 83) - 1)) 88 = (n 88) from rfl)] at h8_20
          try simp only [(show (va_up n 83 ((n 83) - 1)) 89 = (n 89) from rfl)] at h8_20
          refine gz_goto (tgt := 35) dX12_tell_82 (by decide) ?_
          refine gz_sub (lv' := [(0, .ref m), (1, .int x1)]) (by simp [List.lookup]) ?_
          have hxx : fx [83, 88, 89] [] [84, 85, 86, 87] [] n z F G n_20 z_20 F_20 G_20 := (fx_tr (fx_n fx_rf (by decide)) hx20 (by decide))
          have e83 : (n_20 83).toInt.toNat = ((n 83) - 1).toInt.toNat + 0 := (by (try rw [(show n_20 83 = ((n 83) - 1) from (hx20.1 83 (by decide)))]); have q1_ := (T_sub (rfl : ((n 83)).toInt = ((n 83)).toInt) (show (1 : Int32).toInt = 1 from rfl) (by omega)); omega)
          have e83b : 0 ≤ (n_20 83).toInt := (by (try rw [(show n_20 83 = ((n 83) - 1) from (hx20.1 83 (by decide)))]); have q1_ := (T_sub (rfl : ((n 83)).toInt = ((n 83)).toInt) (show (1 : Int32).toInt = 1 from rfl) (by omega)); omega)
          have e5 : n_20 5 = n 5 := hxx.1 5 (by decide)
          have e84 : F_20 84 = (F 84) := (show F_20 84 = (F 84) from (hx20.2.2.1 84 (by decide))).trans rfl
          have hT9 : tkT F_20 (n_20 5).toInt (F_20 84) (n_20 83).toInt.toNat A2 B2 := by rw [e83, e5, e84]; exact tkT_w (fun k hk => hxx.2.2.1 k ((by decide : ∀ k : Nat, k ∈ wK → k ∉ ([84, 85, 86, 87] : List Nat)) k hk)) hT3
          have e88 : 0 ≤ (n_20 88).toInt ∧ (n_20 88).toInt + (A2 : Nat) ≤ 1000 := (by (try rw [(show n_20 88 = (n_20 88) from rfl)]); omega)
          have hR9 : RI n_20 F_20 := RI_cg (fun k hk => hxx.2.2.1 k ((by decide : ∀ k : Nat, k ∈ riK → k ∉ ([84, 85, 86, 87] : List Nat)) k hk)) hR e5 (hxx.1 30 (by decide)) (hxx.1 38 (by decide)) (by rw [hxx.1 0 (by decide)]; exact a0) (by rw [hxx.1 4 (by decide)]; exact a4) (by rw [hxx.1 53 (by decide)]; exact a53) (by rw [hxx.1 47 (by decide)]; exact a47) (by omega)
          exact ih A2 B2 _ _ _ _ _ hS_20 (fx_tr (fx_n hx (by decide)) hx20 (by decide)) (hR9) (hT9) (e83b) (e88.2) (by omega) (by omega)

set_option maxHeartbeats 4000000 in
set_option maxRecDepth 100000 in
theorem k_X12_tell {l : Launch} {D : va_G} {cy : Nat → ClassId} {b : Nat} {f : gMem} {m : Nat} {a : Nat → Nat} {f0 : gMem} {n : Nat → Int32} {z : Nat → Int64} {F : Nat → Nat → Int32} {G : Nat → Nat → Int64}  {x1 : Int32} (hS : mS cy m a f0 n z F G f) (hR : RI n F) : gC l D cy b yX12_tell cX12_tell 4 (some .int) 4 0 0 [.ref m, .int x1] f (pI fun r f2 => ∃ (n2 : Nat → Int32) (z2 : Nat → Int64) (F2 : Nat → Nat → Int32) (G2 : Nat → Nat → Int64), mS cy m a f0 n2 z2 F2 G2 f2 ∧ fx [83, 88, 89] [] [84, 85, 86, 87] [] n z F G n2 z2 F2 G2 ∧ RI n2 F2) := by
  obtain ⟨a0, a4, a5, bA, bW, a30, bL, a38, bP, a53, a47, a88⟩ := id hR
  refine gC_of (by decide) (Nat.le_of_ble_eq_true rfl) ?_
  show gG l _ _ _ D cy b cX12_tell 4 _ RX12 "tell" 0 0 f 0 [(0, .ref m), (1, .int x1)] []
  refine gz_aload_n dX12_tell_0 rfl rfl ?_
  refine gz_iload_n dX12_tell_1 rfl rfl ?_
  refine scX12_337 (k_X12_isForm (x1 := x1) hS ) hS.1 ⟨(Nat.le_of_ble_eq_true rfl), (Nat.le_of_ble_eq_true rfl)⟩ ⟨(Nat.le_of_ble_eq_true rfl), (Nat.le_of_ble_eq_true rfl)⟩ rfl rfl (Nat.le_of_ble_eq_true rfl) dX12_tell_2 ?_
  rintro r_1 f9 ⟨hb_1, y9⟩; rw [y9]
  try rw [(show n 5 = (n 5) from rfl)] at hb_1
  have hbb_1 : r_1 = 0 ∨ r_1 = 1 := hb_1.imp_right And.left
  simp only [fl_eq, Int32.reduceToInt] at hb_1
  refine gz_if_ne (tgt := 10) dX12_tell_5 (by decide) (fun c_5 => ?_) (fun c_5 => ?_)
  ·
    try simp only [mIn_0, lgc_lt, lgc_gt, lgc_le, lgc_ge, lgc_eq] at c_5
    try simp only [fl_lt, fl_le, fl_eq, fL_w, fL_lt, fL_le, tm1, tm10k, tm9, tm99, Int32.reduceToInt, Int64.reduceToInt, Int.not_lt, Int.not_le] at c_5
    refine gz_aload_n dX12_tell_10 rfl rfl ?_
    refine gz_iconst (v := 0) dX12_tell_11 (by decide) ?_
    refine mp_541 hS dX12_tell_12 (fun f_2 hS_2 => ?_)
    refine gz_aload_n dX12_tell_15 rfl rfl ?_
    refine gz_iconst (v := 0) dX12_tell_16 (by decide) ?_
    refine mp_544 hS_2 ⟨rfl, rfl⟩ dX12_tell_17 (fun f_3 hS_3 => ?_)
    refine gz_aload_n dX12_tell_20 rfl rfl ?_
    refine gz_iconst (v := 0) dX12_tell_21 (by decide) ?_
    refine mp_524 hS_3 dX12_tell_22 (fun f_4 hS_4 => ?_)
    refine gz_aload_n dX12_tell_25 rfl rfl ?_
    refine gz_bipush (v := 40) dX12_tell_26 (by decide) ?_
    refine gz_iload_n dX12_tell_28 rfl rfl ?_
    refine gz_imul dX12_tell_29 ?_
    refine gz_iconst (v := (-1)) dX12_tell_30 (by decide) ?_
    refine gz_iconst (v := 0) dX12_tell_31 (by decide) ?_
    refine scX12_527 (k_X12_lays (x1 := (40 * x1)) (x2 := (-1)) hS_4 (show 0 ≤ (0 : Int32).toInt ∧ (0 : Int32).toInt < 120 by decide)) hS_4.1 ⟨(Nat.le_of_ble_eq_true rfl), (Nat.le_of_ble_eq_true rfl)⟩ ⟨(Nat.le_of_ble_eq_true rfl), (Nat.le_of_ble_eq_true rfl)⟩ rfl rfl (Nat.le_of_ble_eq_true rfl) dX12_tell_32 ?_
    rintro f_5 ⟨n_5, z_5, F_5, G_5, hS_5, hx5, h83_5, h84_5, h85_5⟩
    try simp only [(show (va_up (va_up (va_up n 88 0) 89 0) 83 0) 83 = 0 from rfl)] at h83_5 h84_5 h85_5
    have hxx : fx [83, 88, 89] [] [84, 85, 86, 87] [] n z F G n_5 z_5 F_5 G_5 := (fx_tr (fx_n (fx_n (fx_n fx_rf (by decide)) (by decide)) (by decide)) hx5 (by decide))
    have qx : (40 * x1).toInt = 40 * x1.toInt := T_mul (show (40 : Int32).toInt = 40 from rfl) rfl (by omega)
    have qc := clI (i := x1) (by omega)
    have qb := (bW (Int32.toNatClampNeg x1) (by omega)).1
    have hv0 : vW F (n 5).toInt (40 * x1).toInt := ⟨Int32.toNatClampNeg x1, 0, by omega, by omega, by omega⟩
    have qz := szF_pos bW hv0
    have qo := vsW_own bW hv0
    have qcs := csT_v (F := F) (x := (40 * x1).toInt) (by omega)
    have qws := wgT_v (F := F) (x := (40 * x1).toInt) (by omega)
    have e83 : (n_5 83).toInt = 1 := by rw [h83_5]; rfl
    have e88 : (n_5 88).toInt = 0 := by rw [hx5.1 88 (by decide)]; rfl
    have hT9 : tkT F_5 (n_5 5).toInt (F_5 84) (n_5 83).toInt.toNat (0 + csT F (40 * x1).toInt) (0 + wgT F (40 * x1).toInt) := by rw [e83, h84_5, hxx.1 5 (by decide)]; exact tkT_w (fun k hk => hxx.2.2.1 k ((by decide : ∀ k : Nat, k ∈ wK → k ∉ ([84, 85, 86, 87] : List Nat)) k hk)) (tkT_push tkT_0 (Or.inr (Or.inr hv0)))
    have hR9 : RI n_5 F_5 := RI_cg (fun k hk => hxx.2.2.1 k ((by decide : ∀ k : Nat, k ∈ riK → k ∉ ([84, 85, 86, 87] : List Nat)) k hk)) hR (hxx.1 5 (by decide)) (hxx.1 30 (by decide)) (hxx.1 38 (by decide)) (by rw [hxx.1 0 (by decide)]; exact a0) (by rw [hxx.1 4 (by decide)]; exact a4) (by rw [hxx.1 53 (by decide)]; exact a53) (by rw [hxx.1 47 (by decide)]; exact a47) (by omega)
    refine gz_sub (lv' := [(0, .ref m), (1, .int x1)]) (by simp [List.lookup]) ?_
    exact l_X12_tell 120 _ _ _ _ _ _ _ hS_5 hxx hR9 hT9 (by omega) (by rw [e88]; omega) (by omega) (by omega)
  ·
    try simp only [mIn_0, lgc_lt, lgc_gt, lgc_le, lgc_ge, lgc_eq] at c_5
    try simp only [fl_lt, fl_le, fl_eq, fL_w, fL_lt, fL_le, tm1, tm10k, tm9, tm99, Int32.reduceToInt, Int64.reduceToInt, Int.not_lt, Int.not_le] at c_5
    refine gz_iconst (v := (-1)) dX12_tell_8 (by decide) ?_
    exact gz_iret rfl dX12_tell_9 (Nat.le_of_ble_eq_true rfl) (Nat.le_of_ble_eq_true rfl) (⟨_, rfl, _, _, _, _, hS, fx_rf, hR⟩)
