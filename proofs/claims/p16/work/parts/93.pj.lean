set_option maxHeartbeats 4000000 in
set_option maxRecDepth 100000 in
theorem l_X12_textC {l : Launch} {D : va_G} {cy : Nat → ClassId} {b : Nat} {m : Nat} {a : Nat → Nat} {f0 : gMem} {n0 : Nat → Int32} {z0 : Nat → Int64} {F0 : Nat → Nat → Int32} {G0 : Nat → Nat → Int64}  {ff : Nat} {RES : Sum Nat (Nat × Nat × Nat)} {MOC : Cn} (h5 : (n0 5).toInt = (ff : Int) ∧ ff < 20) (hB0 : rB F0) (hG0 : nmG G0) (hR : RES = moR (tX (F0 3) (n0 4)) 41 [] 0 0 0) (hMO : MOC = moC (tX (F0 3) (n0 4)) 41 [] 0 0 0 (fun _ _ => -1)) : ∀ (k : Nat) (W O : Nat) (n : Nat → Int32) (z : Nat → Int64) (F : Nat → Nat → Int32) (G : Nat → Nat → Int64) (fm : gMem), mS cy m a f0 n z F G fm → fx [21, 22, 23, 24] [] [6, 7, 8, 9, 10, 11, 12, 13, 14, 15, 16, 17, 18, 19, 20, 25, 26] [] n0 z0 F0 G0 n z F G → ((0 ≤ (n 21).toInt ∧ (n 21).toInt ≤ (n 4).toInt ∧ (n 4).toInt ≤ 400)) → (RDJ F0 n F ff W O true) → ((n 22).toInt = 0) → (moR (tX (F0 3) (n0 4)) (41 - W) (skF F O) (n 21).toInt.toNat W (F 17 ff).toInt.toNat = RES) → (lo3 F0 F ff) → (∀ i, i < 40 * ff → F 8 i = F0 8 i ∧ F 16 i = F0 16 i) → (∃ CC : Cn, LR F ff CC W (F 17 ff).toInt.toNat ∧ moC (tX (F0 3) (n0 4)) (41 - W) (skW F ff O) (n 21).toInt.toNat W (F 17 ff).toInt.toNat CC = MOC) → (40 < W + k) → gG l (gRm 6 0 0) (gQf D b (pI fun r f2 => ∃ (n2 : Nat → Int32) (z2 : Nat → Int64) (F2 : Nat → Nat → Int32) (G2 : Nat → Nat → Int64), mS cy m a f0 n2 z2 F2 G2 f2 ∧ fx [21, 22, 23, 24] [] [6, 7, 8, 9, 10, 11, 12, 13, 14, 15, 16, 17, 18, 19, 20, 25, 26] [] n0 z0 F0 G0 n2 z2 F2 G2 ∧ (r = 0 ∨ r = 1) ∧ (0 ≤ (n2 21).toInt ∧ (n2 21).toInt ≤ (n2 4).toInt ∧ (n2 4).toInt ≤ 400) ∧ rAll F2 ∧ (∀ g, g < ff → agF F0 F2 g) ∧ (r = 1 → fOK F2 ff) ∧ ((foR (tX (F0 3) (n0 4)) = 0 ∧ r = 1) ∨ (foR (tX (F0 3) (n0 4)) ≠ 0 ∧ r = 0 ∧ (n2 22).toInt = (foR (tX (F0 3) (n0 4)) : Int))) ∧ lo3 F0 F2 ff ∧ (∀ i, i < 40 * ff → F2 8 i = F0 8 i ∧ F2 16 i = F0 16 i) ∧ (r = 1 → ∃ q W V, moR (tX (F0 3) (n0 4)) 41 [] 0 0 0 = .inr (q, W, V) ∧ (F2 6 ff).toInt = (W : Int) ∧ LR F2 ff (moC (tX (F0 3) (n0 4)) 41 [] 0 0 0 (fun _ _ => -1)) W V ∧ (F2 17 ff).toInt = (V : Int) ∧ vsF F2 ff 0 W ≤ V)) 0 0) gTt D cy b cX12_text 2 (some .boolean) RX12 "text" 0 0 fm 25 [(0, .ref m)] [] := by
  intro k
  induction k with
  | zero =>
    intro W O n z F G fm hS hx hT hJ h22 hM hlo hl8 hCo hk
    exfalso; have z := hJ.1.2; omega
  | succ k ih =>
    intro W O n z F G fm hS hx hT hJ h22 hM hlo hl8 hCo hk
    obtain ⟨g6, g24, gR, gv, gA, gg⟩ := id hJ
    have gO := RD_O gR
    have e4 : n 4 = n0 4 := hx.1 4 (by decide)
    rw [e4] at hT
    have e3 : F 3 = F0 3 := hx.2.2.1 3 (by decide)
    have hB : rB F := rB_cg e3 hB0
    have hln := tX_ln (g := F0 3) (L := n0 4) (by omega)
    refine gz_aload_n dX12_text_25 rfl rfl ?_
    refine mg_319 hS dX12_text_26 ?_
    refine gz_istore_n (lv' := [(1, .int (n 24)), (0, .ref m)]) dX12_text_29 rfl (by decide) rfl ?_
    refine gz_aload_n dX12_text_30 rfl rfl ?_
    refine scX12_328 (k_X12_beginsC (ff := ff) (W := W) (O := O) hS (by (try rw [(show n 4 = (n0 4) from (hx.1 4 (by decide)))]); omega) (by rw [(show n 5 = (n0 5) from (hx.1 5 (by decide)))]; exact h5) (RDJ_rf hJ) hB (by omega) (nmG_cg (hx.2.2.2 27 (by decide)) hG0)) hS.1 ⟨(Nat.le_of_ble_eq_true rfl), (Nat.le_of_ble_eq_true rfl)⟩ ⟨(Nat.le_of_ble_eq_true rfl), (Nat.le_of_ble_eq_true rfl)⟩ rfl rfl (Nat.le_of_ble_eq_true rfl) dX12_text_31 ?_
    rintro r_1 f_1 ⟨n_1, z_1, F_1, G_1, hS_1, hx1, hb_1, hT_1, hm_1, hA_1, hg_1, hyes_1, hE_1, h25_1, htop_1, hl3_1, hl8_1, hLR_1⟩
    try simp only [(show n_1 4 = (n0 4) from ((hx1.1 4 (by decide)).trans (hx.1 4 (by decide))))] at hb_1 hT_1 hm_1 hA_1 hg_1 hyes_1 hE_1 h25_1 htop_1 hl3_1 hl8_1 hLR_1
    try simp only [(show F_1 3 = (F0 3) from ((hx1.2.2.1 3 (by decide)).trans (hx.2.2.1 3 (by decide))))] at hb_1 hT_1 hm_1 hA_1 hg_1 hyes_1 hE_1 h25_1 htop_1 hl3_1 hl8_1 hLR_1
    try simp only [(show n 4 = (n0 4) from (hx.1 4 (by decide)))] at hb_1 hT_1 hm_1 hA_1 hg_1 hyes_1 hE_1 h25_1 htop_1 hl3_1 hl8_1 hLR_1
    try simp only [(show F 3 = (F0 3) from (hx.2.2.1 3 (by decide)))] at hb_1 hT_1 hm_1 hA_1 hg_1 hyes_1 hE_1 h25_1 htop_1 hl3_1 hl8_1 hLR_1
    have hfN := RDJ_V hJ
    obtain ⟨w2, hw2⟩ : ∃ w2, 41 - W = w2 + 1 := ⟨40 - W, by omega⟩
    have hw3 : w2 = 41 - (W + 1) := by omega
    rw [hw2] at hM
    unfold moR at hM
    rw [skF_ln] at hM
    obtain ⟨CC, hC1, hC2⟩ := hCo
    rw [hw2] at hC2
    unfold moC at hC2
    rw [skW_ln] at hC2
    cases hbg : bgR (tX (F0 3) (n0 4)) (n 21).toInt.toNat W (F 17 ff).toInt.toNat O with
    | inl cbg =>
      rw [hbg] at hE_1 hM
      dsimp only at hM
      obtain ⟨a1b, a2b⟩ := hE_1
      refine gz_ev (w := .int 0) (congrArg Value.int a1b) ?_
      have hfo : foR (tX (F0 3) (n0 4)) = cbg := by rw [foR_mo, ← hR, ← hM]
      have hc0 := bgR_c0 hln (show (n 21).toInt.toNat ≤ (n0 4).toInt.toNat by omega) (by omega) hbg
      refine gz_if_ne (tgt := 39) dX12_text_34 (by decide) (fun c_34 => ?_) (fun c_34 => ?_)
      · exact absurd c_34 (by decide)
      ·
        try simp only [mIn_0, lgc_lt, lgc_gt, lgc_le, lgc_ge, lgc_eq] at c_34
        try simp only [fl_lt, fl_le, fl_eq, fL_w, fL_lt, fL_le, tm1, tm10k, tm9, tm99, Int32.reduceToInt, Int64.reduceToInt, Int.not_lt, Int.not_le] at c_34
        refine gz_iconst (v := 0) dX12_text_37 (by decide) ?_
        exact gz_zret rfl (by first | decide | exact nrb (Or.inl (by assumption)) | exact nrb (by assumption) | (refine nrb ?_; assumption)) dX12_text_38 (Nat.le_of_ble_eq_true rfl) (Nat.le_of_ble_eq_true rfl) (⟨_, rfl, _, _, _, _, hS_1, (fx_tr hx hx1 (by decide)), (by first | exact Or.inl rfl | exact Or.inr rfl | assumption | (left; assumption)), (by (try rw [(show n_1 21 = (n_1 21) from rfl)]); (try rw [(show n_1 4 = (n0 4) from ((hx1.1 4 (by decide)).trans (hx.1 4 (by decide))))]); omega), hA_1, (fun g hg => agF_tr (gg g hg) (hg_1 g hg)), (fun h => absurd h (by decide)), (Or.inr ⟨by omega, rfl, by omega⟩), (lo3_tr hlo hl3_1), (fun i hi => ⟨(hl8_1 i hi).1.trans (hl8 i hi).1, (hl8_1 i hi).2.trans (hl8 i hi).2⟩), (fun z => absurd z (by decide))⟩)
    | inr rbg =>
      obtain ⟨Kb, Qb, Vb⟩ := rbg
      rw [hbg] at hE_1 hM hC2
      dsimp only at hM hC2
      obtain ⟨a1b, a2b, a3b, a4b, a5b, a6b, a7b⟩ := hE_1
      refine gz_ev (w := .int 1) (congrArg Value.int a1b) ?_
      have hsb := skF_cg (F := F) (F2 := F_1) O a5b
      have hL1_ := hLR_1 CC hC1 a1b
      rw [show (F_1 17 ff).toInt.toNat = Vb by omega] at hL1_
      refine gz_if_ne (tgt := 39) dX12_text_34 (by decide) (fun c_34 => ?_) (fun c_34 => ?_)
      ·
        try simp only [mIn_0, lgc_lt, lgc_gt, lgc_le, lgc_ge, lgc_eq] at c_34
        try simp only [fl_lt, fl_le, fl_eq, fL_w, fL_lt, fL_le, tm1, tm10k, tm9, tm99, Int32.reduceToInt, Int64.reduceToInt, Int.not_lt, Int.not_le] at c_34
        have hg9 : ∀ g, g < ff → agF F0 F_1 g := fun g hg => agF_tr (gg g hg) (hg_1 g hg)
        have hy_ := hyes_1 a1b
        refine gz_aload_n dX12_text_39 rfl rfl ?_
        refine mg_319 hS_1 dX12_text_40 ?_
        refine gz_ev (w := .int (n_1 24)) rfl ?_
        refine gz_iload_n dX12_text_43 rfl rfl ?_
        refine gz_icmp_ne (tgt := 56) dX12_text_44 (by decide) (fun c_44 => ?_) (fun c_44 => ?_)
        ·
          try simp only [mIn_0, lgc_lt, lgc_gt, lgc_le, lgc_ge, lgc_eq] at c_44
          try simp only [fl_lt, fl_le, fl_eq, fL_w, fL_lt, fL_le, tm1, tm10k, tm9, tm99, Int32.reduceToInt, Int64.reduceToInt, Int.not_lt, Int.not_le] at c_44
          have hKb : ¬ Kb ≤ 1 := fun z => by
            have y := congrArg Int32.toInt (a6b z)
            omega
          rw [if_neg hKb] at hM hC2
          obtain ⟨b1, b2⟩ := a7b hKb
          have hP : RDJ F0 n_1 F_1 ff (W + 1) (O + 1) true := by rcases hy_ with z | z; (exfalso; have z2 := z.2.1; omega); (exact RDJ_tr gg z)
          have hP24 := hP.2.1
          refine gz_aload_n dX12_text_56 rfl rfl ?_
          refine mg_319 hS_1 dX12_text_57 ?_
          refine gz_ev (w := .int (n_1 24)) rfl ?_
          refine gz_if_gt (tgt := 25) dX12_text_60 (by decide) (fun c_60 => ?_) (fun c_60 => ?_)
          ·
            try simp only [mIn_0, lgc_lt, lgc_gt, lgc_le, lgc_ge, lgc_eq] at c_60
            try simp only [fl_lt, fl_le, fl_eq, fL_w, fL_lt, fL_le, tm1, tm10k, tm9, tm99, Int32.reduceToInt, Int64.reduceToInt, Int.not_lt, Int.not_le] at c_60
            refine gz_sub (lv' := [(0, .ref m)]) (by simp [List.lookup]) ?_
            have hB_ := hP
            have hM9 : moR (tX (F0 3) (n0 4)) (41 - (W + 1)) (skF F_1 (O + 1)) (n_1 21).toInt.toNat (W + 1) (F_1 17 ff).toInt.toNat = RES := by
              rw [show (n_1 21).toInt.toNat = Qb by omega, show (F_1 17 ff).toInt.toNat = Vb by omega, ← hw3, ← hM]
              rw [show skF F_1 (O + 1) = (F_1 26 O).toInt.toNat :: skF F_1 O from rfl, b2, hsb]
              split <;> rfl
            have hsw : skW F_1 ff (O + 1) = ((if Kb = 3 ∨ Kb = 4 ∨ Kb = 5 then 1 else 0), W) :: skW F ff O := by
              have t1 := htop_1 a1b b1
              show ((F_1 26 O).toInt.toNat, ((F_1 25 O).toInt - 40 * (ff : Int)).toNat) :: skW F_1 ff O = _
              rw [skW_eq O h25_1 hsb, show ((F_1 25 O).toInt - 40 * (ff : Int)).toNat = W by omega, b2]
              split <;> rfl
            have hCo9 : ∃ CC : Cn, LR F_1 ff CC (W + 1) (F_1 17 ff).toInt.toNat ∧ moC (tX (F0 3) (n0 4)) (41 - (W + 1)) (skW F_1 ff (O + 1)) (n_1 21).toInt.toNat (W + 1) (F_1 17 ff).toInt.toNat CC = MOC := ⟨_, (by rw [show (F_1 17 ff).toInt.toNat = Vb by omega]; exact hL1_), (by rw [hsw, show (n_1 21).toInt.toNat = Qb by omega, show (F_1 17 ff).toInt.toNat = Vb by omega, ← hw3]; exact hC2)⟩
            have hW40 := hB_.1.2
            exact ih (W + 1) (O + 1) _ _ _ _ _ hS_1 (fx_tr hx hx1 (by decide)) ((by (try rw [(show n_1 21 = (n_1 21) from rfl)]); (try rw [(show n_1 4 = (n0 4) from ((hx1.1 4 (by decide)).trans (hx.1 4 (by decide))))]); omega)) (hB_) ((by (try rw [(show n_1 22 = (n_1 22) from rfl)]); omega)) (hM9) ((lo3_tr hlo hl3_1)) ((fun i hi => ⟨(hl8_1 i hi).1.trans (hl8 i hi).1, (hl8_1 i hi).2.trans (hl8 i hi).2⟩)) (hCo9) (by omega)
          ·
            try simp only [mIn_0, lgc_lt, lgc_gt, lgc_le, lgc_ge, lgc_eq] at c_60
            try simp only [fl_lt, fl_le, fl_eq, fL_w, fL_lt, fL_le, tm1, tm10k, tm9, tm99, Int32.reduceToInt, Int64.reduceToInt, Int.not_lt, Int.not_le] at c_60
            exfalso; omega
        ·
          try simp only [mIn_0, lgc_lt, lgc_gt, lgc_le, lgc_ge, lgc_eq] at c_44
          try simp only [fl_lt, fl_le, fl_eq, fL_w, fL_lt, fL_le, tm1, tm10k, tm9, tm99, Int32.reduceToInt, Int64.reduceToInt, Int.not_lt, Int.not_le] at c_44
          have hKb : Kb ≤ 1 := by
            by_cases z : Kb ≤ 1
            · exact z
            · have y := (a7b z).1; omega
          rw [if_pos hKb] at hM hC2
          have hL : RDJ F0 n_1 F_1 ff (W + 1) O false := by rcases hy_ with z | z; (exact RDJ_tr gg z); (exfalso; have z2 := z.2.1; omega)
          refine gz_aload_n dX12_text_47 rfl rfl ?_
          refine scX12_331 (k_X12_endedE (ff := ff) (W := W + 1) (O := O) hS_1 (by (try rw [(show n_1 21 = (n_1 21) from rfl)]); (try rw [(show n_1 4 = (n0 4) from ((hx1.1 4 (by decide)).trans (hx.1 4 (by decide))))]); omega) (RDJ_rf hL) (rB_cg ((hx1.2.2.1 3 (by decide)).trans (hx.2.2.1 3 (by decide))) hB0) (by (try rw [(show n_1 22 = (n_1 22) from rfl)]); omega)) hS_1.1 ⟨(Nat.le_of_ble_eq_true rfl), (Nat.le_of_ble_eq_true rfl)⟩ ⟨(Nat.le_of_ble_eq_true rfl), (Nat.le_of_ble_eq_true rfl)⟩ rfl rfl (Nat.le_of_ble_eq_true rfl) dX12_text_48 ?_
          rintro r_2 f_2 ⟨n_2, z_2, F_2, G_2, hS_2, hx2, hb_2, hT_2, hm_2, hE_2⟩
          try simp only [(show n_2 4 = (n0 4) from ((hx2.1 4 (by decide)).trans ((hx1.1 4 (by decide)).trans (hx.1 4 (by decide)))))] at hb_2 hT_2 hm_2 hE_2
          try simp only [(show F_2 3 = (F0 3) from ((hx2.2.2.1 3 (by decide)).trans ((hx1.2.2.1 3 (by decide)).trans (hx.2.2.1 3 (by decide)))))] at hb_2 hT_2 hm_2 hE_2
          try simp only [(show n_1 4 = (n0 4) from ((hx1.1 4 (by decide)).trans (hx.1 4 (by decide))))] at hb_2 hT_2 hm_2 hE_2
          try simp only [(show F_1 3 = (F0 3) from ((hx1.2.2.1 3 (by decide)).trans (hx.2.2.1 3 (by decide))))] at hb_2 hT_2 hm_2 hE_2
          obtain ⟨O2, q2, hE, hE2, hEx⟩ := hE_2
          have hE9 : RDJ F0 n_2 F_2 ff (W + 1) O2 q2 := RDJ_tr hg9 hE
          have hE24 := hE9.2.1
          rw [hsb, show (n_1 21).toInt.toNat = Qb by omega] at hEx
          cases hen : enR (tX (F0 3) (n0 4)) (skF F O) Qb with
          | inl cen =>
            rw [hen] at hEx hM
            dsimp only at hM
            obtain ⟨a1e, a2e⟩ := hEx
            refine gz_ev (w := .int 0) (congrArg Value.int a1e) ?_
            have hfo : foR (tX (F0 3) (n0 4)) = cen := by rw [foR_mo, ← hR, ← hM]
            have hc0 := enR_c _ _ _ hen
            refine gz_if_ne (tgt := 56) dX12_text_51 (by decide) (fun c_51 => ?_) (fun c_51 => ?_)
            · exact absurd c_51 (by decide)
            ·
              try simp only [mIn_0, lgc_lt, lgc_gt, lgc_le, lgc_ge, lgc_eq] at c_51
              try simp only [fl_lt, fl_le, fl_eq, fL_w, fL_lt, fL_le, tm1, tm10k, tm9, tm99, Int32.reduceToInt, Int64.reduceToInt, Int.not_lt, Int.not_le] at c_51
              refine gz_iconst (v := 0) dX12_text_54 (by decide) ?_
              exact gz_zret rfl (by first | decide | exact nrb (Or.inl (by assumption)) | exact nrb (by assumption) | (refine nrb ?_; assumption)) dX12_text_55 (Nat.le_of_ble_eq_true rfl) (Nat.le_of_ble_eq_true rfl) (⟨_, rfl, _, _, _, _, hS_2, (fx_tr (fx_tr hx hx1 (by decide)) hx2 (by decide)), (by first | exact Or.inl rfl | exact Or.inr rfl | assumption | (left; assumption)), (by (try rw [(show n_2 21 = (n_2 21) from rfl)]); (try rw [(show n_2 4 = (n0 4) from ((hx2.1 4 (by decide)).trans ((hx1.1 4 (by decide)).trans (hx.1 4 (by decide)))))]); omega), hE9.2.2.2.2.1, hE9.2.2.2.2.2, (fun h => absurd h (by decide)), (Or.inr ⟨by omega, rfl, by omega⟩), (lo3_tr (lo3_tr hlo hl3_1) (lo3_eq (hx2.2.2.1 18 (by decide)) (hx2.2.2.1 19 (by decide)) (hx2.2.2.1 20 (by decide)))), (fun i hi => ⟨(congrFun (hx2.2.2.1 8 (by decide)) i).trans ((hl8_1 i hi).1.trans (hl8 i hi).1), (congrFun (hx2.2.2.1 16 (by decide)) i).trans ((hl8_1 i hi).2.trans (hl8 i hi).2)⟩), (fun z => absurd z (by decide))⟩)
          | inr ren =>
            obtain ⟨se, Qe⟩ := ren
            rw [hen] at hEx hM
            rw [skW_fs, hen] at hC2
            try dsimp only at hM
            try dsimp only at hC2
            obtain ⟨a1e, a2e, a3e, a4e⟩ := hEx
            refine gz_ev (w := .int 1) (congrArg Value.int a1e) ?_
            refine gz_if_ne (tgt := 56) dX12_text_51 (by decide) (fun c_51 => ?_) (fun c_51 => ?_)
            ·
              try simp only [mIn_0, lgc_lt, lgc_gt, lgc_le, lgc_ge, lgc_eq] at c_51
              try simp only [fl_lt, fl_le, fl_eq, fL_w, fL_lt, fL_le, tm1, tm10k, tm9, tm99, Int32.reduceToInt, Int64.reduceToInt, Int.not_lt, Int.not_le] at c_51
              have hE3 := hE2 a1e
              refine gz_aload_n dX12_text_56 rfl rfl ?_
              refine mg_319 hS_2 dX12_text_57 ?_
              refine gz_ev (w := .int (n_2 24)) rfl ?_
              refine gz_if_gt (tgt := 25) dX12_text_60 (by decide) (fun c_60 => ?_) (fun c_60 => ?_)
              ·
                try simp only [mIn_0, lgc_lt, lgc_gt, lgc_le, lgc_ge, lgc_eq] at c_60
                try simp only [fl_lt, fl_le, fl_eq, fL_w, fL_lt, fL_le, tm1, tm10k, tm9, tm99, Int32.reduceToInt, Int64.reduceToInt, Int.not_lt, Int.not_le] at c_60
                refine gz_sub (lv' := [(0, .ref m)]) (by simp [List.lookup]) ?_
                have hB_ : RDJ F0 n_2 F_2 ff (W + 1) O2 true := by cases q2 with | true => exact hE9 | false => exact absurd (hE3 rfl) (by omega)
                obtain ⟨o3, ho3⟩ : ∃ o3, O2 = o3 + 1 := ⟨O2 - 1, by omega⟩
                have hM9 : moR (tX (F0 3) (n0 4)) (41 - (W + 1)) (skF F_2 O2) (n_2 21).toInt.toNat (W + 1) (F_2 17 ff).toInt.toNat = RES := by
                  rw [show (n_2 21).toInt.toNat = Qe by omega, show F_2 17 = F_1 17 from hx2.2.2.1 17 (by decide), show (F_1 17 ff).toInt.toNat = Vb by omega, ← hw3, ← hM, a4e]
                  rw [← a4e, ho3]
                  rfl
                rw [← a4e, ho3] at hC2
                have hcl : skW F_2 ff O2 = clC (skW F ff O) := skW_cl O O2 (fun ii hi => (congrFun (hx2.2.2.1 25 (by decide)) ii).trans (h25_1 ii hi)) (a4e.trans (enR_cl (T := (tX (F0 3) (n0 4))) (skW F ff O) Qb (se, Qe) (by rw [skW_fs]; exact hen)))
                have v17_ : (F_2 17 ff).toInt.toNat = Vb := by rw [show F_2 17 = F_1 17 from hx2.2.2.1 17 (by decide)]; omega
                have hCo9 : ∃ CC : Cn, LR F_2 ff CC (W + 1) (F_2 17 ff).toInt.toNat ∧ moC (tX (F0 3) (n0 4)) (41 - (W + 1)) (skW F_2 ff O2) (n_2 21).toInt.toNat (W + 1) (F_2 17 ff).toInt.toNat CC = MOC := ⟨_, (by rw [v17_]; exact LR_rw (fun r h1 h2 h3 => hx2.2.2.1 r (fun h => by simp only [List.mem_cons, List.not_mem_nil, or_false] at h; omega)) hL1_), (by rw [hcl, v17_, show (n_2 21).toInt.toNat = Qe by omega, ← hw3]; exact hC2)⟩
                have hW40 := hB_.1.2
                exact ih (W + 1) O2 _ _ _ _ _ hS_2 (fx_tr (fx_tr hx hx1 (by decide)) hx2 (by decide)) ((by (try rw [(show n_2 21 = (n_2 21) from rfl)]); (try rw [(show n_2 4 = (n0 4) from ((hx2.1 4 (by decide)).trans ((hx1.1 4 (by decide)).trans (hx.1 4 (by decide)))))]); omega)) (hB_) ((by (try rw [(show n_2 22 = (n_2 22) from rfl)]); omega)) (hM9) ((lo3_tr (lo3_tr hlo hl3_1) (lo3_eq (hx2.2.2.1 18 (by decide)) (hx2.2.2.1 19 (by decide)) (hx2.2.2.1 20 (by decide))))) ((fun i hi => ⟨(congrFun (hx2.2.2.1 8 (by decide)) i).trans ((hl8_1 i hi).1.trans (hl8 i hi).1), (congrFun (hx2.2.2.1 16 (by decide)) i).trans ((hl8_1 i hi).2.trans (hl8 i hi).2)⟩)) (hCo9) (by omega)
              ·
                try simp only [mIn_0, lgc_lt, lgc_gt, lgc_le, lgc_ge, lgc_eq] at c_60
                try simp only [fl_lt, fl_le, fl_eq, fL_w, fL_lt, fL_le, tm1, tm10k, tm9, tm99, Int32.reduceToInt, Int64.reduceToInt, Int.not_lt, Int.not_le] at c_60
                have eO2 : O2 = 0 := by omega
                subst eO2
                have hZ : RDJ F0 n_2 F_2 ff (W + 1) 0 false := by cases q2 with | false => exact hE9 | true => exact absurd (hE9.2.2.1.2.2 rfl rfl) (by omega)
                have ese : se = [] := a4e.symm
                rw [ese] at hM hC2
                try dsimp only at hM
                try dsimp only at hC2
                have hfo : foR (tX (F0 3) (n0 4)) = (if (tX (F0 3) (n0 4)) (skR (tX (F0 3) (n0 4)) Qe) = -1 then 0 else 1 + 8 * skR (tX (F0 3) (n0 4)) Qe) := by rw [foR_mo, ← hR, ← hM]
                refine gz_aload_n dX12_text_63 rfl rfl ?_
                refine scX12_275 (k_X12_see_E hS_2 (by (try rw [(show n_2 21 = (n_2 21) from rfl)]); (try rw [(show n_2 4 = (n0 4) from ((hx2.1 4 (by decide)).trans ((hx1.1 4 (by decide)).trans (hx.1 4 (by decide)))))]); omega) (rB_cg ((hx2.2.2.1 3 (by decide)).trans ((hx1.2.2.1 3 (by decide)).trans (hx.2.2.1 3 (by decide)))) hB0)) hS_2.1 ⟨(Nat.le_of_ble_eq_true rfl), (Nat.le_of_ble_eq_true rfl)⟩ ⟨(Nat.le_of_ble_eq_true rfl), (Nat.le_of_ble_eq_true rfl)⟩ rfl rfl (Nat.le_of_ble_eq_true rfl) dX12_text_64 ?_
                rintro r_3 f_3 ⟨n_3, z_3, F_3, G_3, hS_3, hx3, hT_3, hm_3, hq_3, hs_3, hv_3⟩
                try simp only [(show n_3 4 = (n0 4) from ((hx3.1 4 (by decide)).trans ((hx2.1 4 (by decide)).trans ((hx1.1 4 (by decide)).trans (hx.1 4 (by decide))))))] at hT_3 hm_3 hq_3 hs_3 hv_3
                try simp only [(show F_3 3 = (F0 3) from ((hx3.2.2.1 3 (by decide)).trans ((hx2.2.2.1 3 (by decide)).trans ((hx1.2.2.1 3 (by decide)).trans (hx.2.2.1 3 (by decide))))))] at hT_3 hm_3 hq_3 hs_3 hv_3
                try simp only [(show n_2 4 = (n0 4) from ((hx2.1 4 (by decide)).trans ((hx1.1 4 (by decide)).trans (hx.1 4 (by decide)))))] at hT_3 hm_3 hq_3 hs_3 hv_3
                try simp only [(show F_2 3 = (F0 3) from ((hx2.2.2.1 3 (by decide)).trans ((hx1.2.2.1 3 (by decide)).trans (hx.2.2.1 3 (by decide)))))] at hT_3 hm_3 hq_3 hs_3 hv_3
                rw [show (n_2 21).toInt.toNat = Qe by omega] at hs_3 hv_3
                refine gz_iconst (v := (-1)) dX12_text_67 (by decide) ?_
                refine gz_icmp_eq (tgt := 83) dX12_text_68 (by decide) (fun c_68 => ?_) (fun c_68 => ?_)
                ·
                  try simp only [mIn_0, lgc_lt, lgc_gt, lgc_le, lgc_ge, lgc_eq] at c_68
                  try simp only [fl_lt, fl_le, fl_eq, fL_w, fL_lt, fL_le, tm1, tm10k, tm9, tm99, Int32.reduceToInt, Int64.reduceToInt, Int.not_lt, Int.not_le] at c_68
                  refine gz_iconst (v := 1) dX12_text_83 (by decide) ?_
                  refine gz_goto (tgt := 88) dX12_text_84 (by decide) ?_
                  rw [if_pos (show (tX (F0 3) (n0 4)) (skR (tX (F0 3) (n0 4)) Qe) = -1 by omega)] at hfo
                  have sm : ∀ r, F_3 r = F_2 r := fun r => (hx3.2.2.1 r (by simp))
                  have hA9 : rAll F_3 := fun q hq => by rw [sm 13, sm 14, sm 15, sm 19]; exact hZ.2.2.2.2.1 q hq
                  have hg8 : ∀ g, g < ff → agF F0 F_3 g := fun g hg => agF_tr (hZ.2.2.2.2.2 g hg) ⟨congrFun (sm 6) _, fun r _ q _ => congrFun (sm r) _⟩
                  have hf9 : fOK F_3 ff := by rw [show F_3 = F_2 from funext sm]; exact RD_fin ⟨by omega, hZ.1.2⟩ hZ.1.1 (by have z := hZ.2.2.2.1; omega) hZ.2.2.1
                  have v17c_ : (F_3 17 ff).toInt = (Vb : Int) := by rw [sm 17]; have z := hZ.2.2.2.1; rw [show F_2 17 = F_1 17 from hx2.2.2.1 17 (by decide)] at z ⊢; omega
                  have vsc_ : vsF F_3 ff 0 (W + 1) ≤ Vb := by rw [show F_3 = F_2 from funext sm]; have z := hZ.2.2.2.1; rw [show F_2 17 = F_1 17 from hx2.2.2.1 17 (by decide)] at z; omega
                  exact gz_zret rfl (by first | decide | exact nrb (Or.inl (by assumption)) | exact nrb (by assumption) | (refine nrb ?_; assumption)) dX12_text_88 (Nat.le_of_ble_eq_true rfl) (Nat.le_of_ble_eq_true rfl) (⟨_, rfl, _, _, _, _, hS_3, (fx_tr (fx_tr (fx_tr hx hx1 (by decide)) hx2 (by decide)) hx3 (by decide)), (by first | exact Or.inl rfl | exact Or.inr rfl | assumption | (left; assumption)), (by (try rw [(show n_3 21 = (n_3 21) from rfl)]); (try rw [(show n_3 4 = (n0 4) from ((hx3.1 4 (by decide)).trans ((hx2.1 4 (by decide)).trans ((hx1.1 4 (by decide)).trans (hx.1 4 (by decide))))))]); omega), hA9, hg8, fun _ => hf9, (Or.inl ⟨hfo, rfl⟩), (lo3_tr (lo3_tr (lo3_tr hlo hl3_1) (lo3_eq (hx2.2.2.1 18 (by decide)) (hx2.2.2.1 19 (by decide)) (hx2.2.2.1 20 (by decide)))) (lo3_eq (sm 18) (sm 19) (sm 20))), (fun i hi => ⟨(congrFun (sm 8) i).trans ((congrFun (hx2.2.2.1 8 (by decide)) i).trans ((hl8_1 i hi).1.trans (hl8 i hi).1)), (congrFun (sm 16) i).trans ((congrFun (hx2.2.2.1 16 (by decide)) i).trans ((hl8_1 i hi).2.trans (hl8 i hi).2))⟩), (fun _ => ⟨Qe, W + 1, Vb, (by rw [← hR, ← hM]), (by rw [sm 6]; exact hZ.1.1), (by rw [← hMO, ← hC2]; exact LR_rw (fun r h1 h2 h3 => (sm r).trans (hx2.2.2.1 r (fun h => by simp only [List.mem_cons, List.not_mem_nil, or_false] at h; omega))) hL1_), v17c_, vsc_⟩)⟩)
                ·
                  try simp only [mIn_0, lgc_lt, lgc_gt, lgc_le, lgc_ge, lgc_eq] at c_68
                  try simp only [fl_lt, fl_le, fl_eq, fL_w, fL_lt, fL_le, tm1, tm10k, tm9, tm99, Int32.reduceToInt, Int64.reduceToInt, Int.not_lt, Int.not_le] at c_68
                  refine gz_aload_n dX12_text_71 rfl rfl ?_
                  refine gz_iconst (v := 0) dX12_text_72 (by decide) ?_
                  refine gz_aload_n dX12_text_73 rfl rfl ?_
                  refine mg_272 hS_3 dX12_text_74 ?_
                  refine gz_ev (w := .int (n_3 21)) rfl ?_
                  refine scX12_279 (k_X12_failsE (x := 0) (y := (n_3 21)) hS_3 (by (try rw [(show n_3 22 = (n_2 22) from (hx3.1 22 (by decide)))]); omega) (by (try rw [(show n_3 21 = (n_3 21) from rfl)]); (try rw [(show n_3 4 = (n0 4) from ((hx3.1 4 (by decide)).trans ((hx2.1 4 (by decide)).trans ((hx1.1 4 (by decide)).trans (hx.1 4 (by decide))))))]); omega) (by decide)) hS_3.1 ⟨(Nat.le_of_ble_eq_true rfl), (Nat.le_of_ble_eq_true rfl)⟩ ⟨(Nat.le_of_ble_eq_true rfl), (Nat.le_of_ble_eq_true rfl)⟩ rfl rfl (Nat.le_of_ble_eq_true rfl) dX12_text_77 ?_
                  rintro r_4 f_4 ⟨n_4, z_4, F_4, G_4, hS_4, hx4, hr_4, hf_4⟩
                  try simp only [(show n_3 22 = (n_2 22) from (hx3.1 22 (by decide)))] at hr_4 hf_4
                  simp only [Int32.reduceToInt] at hf_4
                  refine gz_ev (w := .int 0) (congrArg Value.int hr_4) ?_
                  rw [if_neg (show ¬ (tX (F0 3) (n0 4)) (skR (tX (F0 3) (n0 4)) Qe) = -1 by omega)] at hfo
                  refine gz_if_eq (tgt := 87) dX12_text_80 (by decide) (fun c_80 => ?_) (fun c_80 => ?_)
                  ·
                    try simp only [mIn_0, lgc_lt, lgc_gt, lgc_le, lgc_ge, lgc_eq] at c_80
                    try simp only [fl_lt, fl_le, fl_eq, fL_w, fL_lt, fL_le, tm1, tm10k, tm9, tm99, Int32.reduceToInt, Int64.reduceToInt, Int.not_lt, Int.not_le] at c_80
                    refine gz_iconst (v := 0) dX12_text_87 (by decide) ?_
                    have sm : ∀ r, F_4 r = F_2 r := fun r => ((hx4.2.2.1 r (by simp)).trans (hx3.2.2.1 r (by simp)))
                    have hA9 : rAll F_4 := fun q hq => by rw [sm 13, sm 14, sm 15, sm 19]; exact hZ.2.2.2.2.1 q hq
                    have hg8 : ∀ g, g < ff → agF F0 F_4 g := fun g hg => agF_tr (hZ.2.2.2.2.2 g hg) ⟨congrFun (sm 6) _, fun r _ q _ => congrFun (sm r) _⟩
                    have hf9 : fOK F_4 ff := by rw [show F_4 = F_2 from funext sm]; exact RD_fin ⟨by omega, hZ.1.2⟩ hZ.1.1 (by have z := hZ.2.2.2.1; omega) hZ.2.2.1
                    exact gz_zret rfl (by first | decide | exact nrb (Or.inl (by assumption)) | exact nrb (by assumption) | (refine nrb ?_; assumption)) dX12_text_88 (Nat.le_of_ble_eq_true rfl) (Nat.le_of_ble_eq_true rfl) (⟨_, rfl, _, _, _, _, hS_4, (fx_tr (fx_tr (fx_tr (fx_tr hx hx1 (by decide)) hx2 (by decide)) hx3 (by decide)) hx4 (by decide)), (by first | exact Or.inl rfl | exact Or.inr rfl | assumption | (left; assumption)), (by (try rw [(show n_4 21 = (n_3 21) from (hx4.1 21 (by decide)))]); (try rw [(show n_4 4 = (n0 4) from ((hx4.1 4 (by decide)).trans ((hx3.1 4 (by decide)).trans ((hx2.1 4 (by decide)).trans ((hx1.1 4 (by decide)).trans (hx.1 4 (by decide)))))))]); omega), hA9, hg8, fun _ => hf9, (Or.inr ⟨by omega, rfl, (by (try rw [(show n_4 22 = (n_4 22) from rfl)]); omega)⟩), (lo3_tr (lo3_tr (lo3_tr hlo hl3_1) (lo3_eq (hx2.2.2.1 18 (by decide)) (hx2.2.2.1 19 (by decide)) (hx2.2.2.1 20 (by decide)))) (lo3_eq (sm 18) (sm 19) (sm 20))), (fun i hi => ⟨(congrFun (sm 8) i).trans ((congrFun (hx2.2.2.1 8 (by decide)) i).trans ((hl8_1 i hi).1.trans (hl8 i hi).1)), (congrFun (sm 16) i).trans ((congrFun (hx2.2.2.1 16 (by decide)) i).trans ((hl8_1 i hi).2.trans (hl8 i hi).2))⟩), (fun z => absurd z (by decide))⟩)
                  · exact absurd c_80 (by decide)
            · exact absurd c_51 (by decide)
      · exact absurd c_34 (by decide)

set_option maxHeartbeats 4000000 in
set_option maxRecDepth 100000 in
theorem k_X12_textC {l : Launch} {D : va_G} {cy : Nat → ClassId} {b : Nat} {f : gMem} {m : Nat} {a : Nat → Nat} {f0 : gMem} {n : Nat → Int32} {z : Nat → Int64} {F : Nat → Nat → Int32} {G : Nat → Nat → Int64}  {ff : Nat} (hS : mS cy m a f0 n z F G f) (hT : (0 ≤ (n 21).toInt ∧ (n 21).toInt ≤ (n 4).toInt ∧ (n 4).toInt ≤ 400)) (h5 : (n 5).toInt = (ff : Int) ∧ ff < 20) (hA : rAll F) (hB : rB F) (h22 : (n 22).toInt = 0) (hG : nmG G) (h21 : (n 21).toInt = 0) : gC l D cy b yX12_text cX12_text 2 (some .boolean) 6 0 0 [.ref m] f (pI fun r f2 => ∃ (n2 : Nat → Int32) (z2 : Nat → Int64) (F2 : Nat → Nat → Int32) (G2 : Nat → Nat → Int64), mS cy m a f0 n2 z2 F2 G2 f2 ∧ fx [21, 22, 23, 24] [] [6, 7, 8, 9, 10, 11, 12, 13, 14, 15, 16, 17, 18, 19, 20, 25, 26] [] n z F G n2 z2 F2 G2 ∧ (r = 0 ∨ r = 1) ∧ (0 ≤ (n2 21).toInt ∧ (n2 21).toInt ≤ (n2 4).toInt ∧ (n2 4).toInt ≤ 400) ∧ rAll F2 ∧ (∀ g, g < ff → agF F F2 g) ∧ (r = 1 → fOK F2 ff) ∧ ((foR (tX (F 3) (n 4)) = 0 ∧ r = 1) ∨ (foR (tX (F 3) (n 4)) ≠ 0 ∧ r = 0 ∧ (n2 22).toInt = (foR (tX (F 3) (n 4)) : Int))) ∧ lo3 F F2 ff ∧ (∀ i, i < 40 * ff → F2 8 i = F 8 i ∧ F2 16 i = F 16 i) ∧ (r = 1 → ∃ q W V, moR (tX (F 3) (n 4)) 41 [] 0 0 0 = .inr (q, W, V) ∧ (F2 6 ff).toInt = (W : Int) ∧ LR F2 ff (moC (tX (F 3) (n 4)) 41 [] 0 0 0 (fun _ _ => -1)) W V ∧ (F2 17 ff).toInt = (V : Int) ∧ vsF F2 ff 0 W ≤ V)) := by
  have ecf : Int32.toNatClampNeg (n 5) = ff := by rw [clN]; omega
  refine gC_of (by decide) (Nat.le_of_ble_eq_true rfl) ?_
  show gG l _ _ _ D cy b cX12_text 2 _ RX12 "text" 0 0 f 0 [(0, .ref m)] []
  refine gz_aload_n dX12_text_0 rfl rfl ?_
  refine gz_iconst (v := 0) dX12_text_1 (by decide) ?_
  refine mp_319 hS dX12_text_2 (fun f_1 hS_1 => ?_)
  refine gz_aload_n dX12_text_5 rfl rfl ?_
  refine mg_17 hS_1 dX12_text_6 ?_
  refine gz_aload_n dX12_text_9 rfl rfl ?_
  refine mg_307 hS_1 dX12_text_10 ?_
  refine gz_ev (w := .int (n 5)) rfl ?_
  refine gz_iconst (v := 0) dX12_text_13 (by decide) ?_
  refine m_iast 6 hS_1 rfl (N := 22) rfl ((by exact vin_T (rfl : (n 5).toInt = (n 5).toInt) (by omega) (by omega))) dX12_text_14 (fun f_2 hS_2q => ?_)
  have hS_2 : mS cy m a f0 (va_up n 24 0) z (va_up F 6 (upd (F 6) (Int32.toNatClampNeg (n 5)) 0)) G f_2 := hS_2q
  refine gz_aload_n dX12_text_15 rfl rfl ?_
  refine mg_50 hS_2 dX12_text_16 ?_
  refine gz_aload_n dX12_text_19 rfl rfl ?_
  refine mg_307 hS_2 dX12_text_20 ?_
  refine gz_ev (w := .int (n 5)) rfl ?_
  refine gz_iconst (v := 0) dX12_text_23 (by decide) ?_
  refine m_iast 17 hS_2 rfl (N := 22) rfl ((by exact vin_T (rfl : (n 5).toInt = (n 5).toInt) (by omega) (by omega))) dX12_text_24 (fun f_3 hS_3q => ?_)
  have hS_3 : mS cy m a f0 (va_up n 24 0) z (va_up (va_up F 6 (upd (F 6) (Int32.toNatClampNeg (n 5)) 0)) 17 (upd (F 17) (Int32.toNatClampNeg (n 5)) 0)) G f_3 := hS_3q
  have s6_ : (va_up (va_up F 6 (upd (F 6) (Int32.toNatClampNeg (n 5)) 0)) 17 (upd (F 17) (Int32.toNatClampNeg (n 5)) 0)) 6 = (upd (F 6) (Int32.toNatClampNeg (n 5)) 0) := rfl
  have s17_ : (va_up (va_up F 6 (upd (F 6) (Int32.toNatClampNeg (n 5)) 0)) 17 (upd (F 17) (Int32.toNatClampNeg (n 5)) 0)) 17 = (upd (F 17) (Int32.toNatClampNeg (n 5)) 0) := rfl
  have hxx : fx [24] [] [6, 17] [] n z F G (va_up n 24 0) z (va_up (va_up F 6 (upd (F 6) (Int32.toNatClampNeg (n 5)) 0)) 17 (upd (F 17) (Int32.toNatClampNeg (n 5)) 0)) G := (fx_F (fx_F (fx_n fx_rf (by decide)) (by decide)) (by decide))
  have hg : ∀ g, g < ff → agF F (va_up (va_up F 6 (upd (F 6) (Int32.toNatClampNeg (n 5)) 0)) 17 (upd (F 17) (Int32.toNatClampNeg (n 5)) 0)) g := by
    intro g hgf
    refine ⟨by rw [s6_, ecf, updE, if_neg (by omega)], fun r hr k hk => congrFun (hxx.2.2.1 r (fun h => ?_)) _⟩
    simp only [List.mem_cons, List.not_mem_nil, or_false] at h hr; omega
  have e17_ : ((va_up (va_up F 6 (upd (F 6) (Int32.toNatClampNeg (n 5)) 0)) 17 (upd (F 17) (Int32.toNatClampNeg (n 5)) 0)) 17 ff).toInt = 0 := by rw [s17_, ecf, updE, if_pos rfl]; rfl
  have hJ : RDJ F (va_up n 24 0) (va_up (va_up F 6 (upd (F 6) (Int32.toNatClampNeg (n 5)) 0)) 17 (upd (F 17) (Int32.toNatClampNeg (n 5)) 0)) ff 0 0 true := ⟨⟨by rw [s6_, ecf, updE, if_pos rfl]; rfl, by omega⟩, rfl, ⟨fun k hk => by omega, fun i hi => by omega, fun _ _ => rfl⟩, (by rw [s17_, ecf, updE, if_pos rfl]; exact ⟨by show ((0 : Nat) : Int) ≤ 0; omega, by decide⟩), (fun q hq => by rw [hxx.2.2.1 13 (by decide), hxx.2.2.1 14 (by decide), hxx.2.2.1 15 (by decide), hxx.2.2.1 19 (by decide)]; exact hA q hq), hg⟩
  refine gz_sub (lv' := [(0, .ref m)]) (by simp [List.lookup]) ?_
  exact l_X12_textC h5 hB hG rfl rfl 41 0 0 _ _ _ _ _ hS_3 (fx_F (fx_F (fx_n fx_rf (by decide)) (by decide)) (by decide)) hT hJ (by (try rw [(show (va_up n 24 0) 22 = (n 22) from rfl)]); omega) (by rw [show ((va_up (va_up F 6 (upd (F 6) (Int32.toNatClampNeg (n 5)) 0)) 17 (upd (F 17) (Int32.toNatClampNeg (n 5)) 0)) 17 ff).toInt.toNat = 0 by omega, show ((va_up n 24 0) 21).toInt.toNat = 0 by rw [(show (va_up n 24 0) 21 = (n 21) from rfl)]; omega]; rfl) (lo3_eq rfl rfl rfl) (fun i _ => ⟨congrFun (show (va_up (va_up F 6 (upd (F 6) (Int32.toNatClampNeg (n 5)) 0)) 17 (upd (F 17) (Int32.toNatClampNeg (n 5)) 0)) 8 = F 8 from rfl) i, congrFun (show (va_up (va_up F 6 (upd (F 6) (Int32.toNatClampNeg (n 5)) 0)) 17 (upd (F 17) (Int32.toNatClampNeg (n 5)) 0)) 16 = F 16 from rfl) i⟩) ⟨fun _ _ => -1, (by rw [show ((va_up (va_up F 6 (upd (F 6) (Int32.toNatClampNeg (n 5)) 0)) 17 (upd (F 17) (Int32.toNatClampNeg (n 5)) 0)) 17 ff).toInt.toNat = 0 by omega]; exact ⟨fun w hw => absurd hw (by omega), fun i hi => absurd hi (by omega)⟩), (by rw [show ((va_up (va_up F 6 (upd (F 6) (Int32.toNatClampNeg (n 5)) 0)) 17 (upd (F 17) (Int32.toNatClampNeg (n 5)) 0)) 17 ff).toInt.toNat = 0 by omega, show ((va_up n 24 0) 21).toInt.toNat = 0 by rw [(show (va_up n 24 0) 21 = (n 21) from rfl)]; omega]; rfl)⟩ (by omega)
