set_option maxHeartbeats 4000000 in
set_option maxRecDepth 100000 in
theorem k_X1_acquireE {l : Launch} {D : va_G} {cy : Nat → ClassId} {b : Nat} {co lv sc th lg ge re gv tk am lf p so fc c1 c2 n1 n2 : Nat} {csz da gi nu ho1 ho2 s v : Int32}  {g h t : Nat → Int32} {T : List Hd} {S : Sn}  (hs : 0 ≤ s.toInt ∧ 13 * s.toInt ≤ n1 ∧ n1 ≤ 520) (hv : 0 ≤ v.toInt ∧ 2 * v.toInt ≤ n2 ∧ n2 ≤ 80) (hne : so ≠ fc ∧ so ≠ c1 ∧ so ≠ c2 ∧ so ≠ th ∧ fc ≠ c1 ∧ fc ≠ c2 ∧ fc ≠ th) (hcT_ : hcT T s v g h) (hSn : sCn S da t) : ∀ (k : Nat) (wd fa wi : Int32) (en ne : Nat) (eg : Nat → Int32) (sz lo fs_ : Int32) (ga : Int64) (sg fg : Nat → Int32) (wN : Nat) (fN : Int) (Z : Ls) (f : gMem), (f co = some (.inr (1, [.ref lv, .ref sc, .ref lg, .int csz]))) → (f lf = some (.inr (5, [.ref p, .int nu, .int ho1, .int ho2, .ref so, .ref fc, .int fs_, .long ga]))) → (f so = some (.inl (cy 0, 40, .inl (sg)))) → (f fc = some (.inl (cy 0, 40, .inl (fg)))) → (f p = some (.inr (2, [.ref c1, .ref c2, .int s, .int v]))) → (f c1 = some (.inl (cy 0, n1, .inl (g)))) → (f c2 = some (.inl (cy 0, n2, .inl (h)))) → (f sc = some (.inr (7, [.ref th, .int da]))) → (f th = some (.inl (cy 0, 6, .inl (t)))) → (f lg = some (.inr (4, [.ref en, .int sz, .int lo, .ref ge, .ref re, .ref gv, .ref tk, .ref am, .int gi]))) → (f en = some (.inl (cy 0, ne, .inl (eg)))) → (0 ≤ sz.toInt ∧ sz.toInt ≤ 2000 ∧ 6 * sz.toInt ≤ ne ∧ ne ≤ 24000) → (en ≠ so ∧ en ≠ fc ∧ en ≠ c1 ∧ en ≠ c2 ∧ en ≠ th) → (wd.toInt = (wN : Int) ∧ wN < T.length) → (fa.toInt = fN ∧ -1000000 ≤ fN ∧ fN ≤ 1000000) → (wi.toInt ≤ tcC T 1 wN) → (CSt sz lo eg fs_ ga sg fg Z) → (0 ≤ wi.toInt ∧ wi.toInt ≤ 12 ∧ 12 - wi.toInt < (k : Int)) → gU l D cy b yX1_acquire cX1_acquire 8 none (5 + 1 * k) (24000 - ne) (2 * (24000 - ne)) [.ref co, .ref lf, .int wd, .int fa, .int wi] f gTt (fun kk nn r f2 => ∃ (e2 m2 : Nat) (g2 : Nat → Int32) (s2 l2 z2 : Int32) (a2 : Int64) (x2 y2 : Nat → Int32), r = none ∧ f2 lg = some (.inr (4, [.ref e2, .int s2, .int l2, .ref ge, .ref re, .ref gv, .ref tk, .ref am, .int gi])) ∧ f2 e2 = some (.inl (cy 0, m2, .inl (g2))) ∧ f2 lf = some (.inr (5, [.ref p, .int nu, .int ho1, .int ho2, .ref so, .ref fc, .int z2, .long a2])) ∧ f2 so = some (.inl (cy 0, 40, .inl (x2))) ∧ f2 fc = some (.inl (cy 0, 40, .inl (y2))) ∧ (0 ≤ s2.toInt ∧ s2.toInt ≤ 2000 ∧ 6 * s2.toInt ≤ m2 ∧ m2 ≤ 24000) ∧ (kk + ne ≤ m2 ∧ nn + 2 * ne ≤ 2 * m2) ∧ (e2 = en ∨ f e2 = none) ∧ CSt s2 l2 g2 z2 a2 x2 y2 (apS nu.toInt S.1 ho1.toInt ho2.toInt (ev T S wN fN) Z) ∧ fr [lg, en, lf, so, fc] f f2) := by
  intro k
  induction k with
  | zero =>
    intro wd fa wi en ne eg sz lo fs_ ga sg fg wN fN Z f hco hlf hso hfc hp h1 h2 hsc hth hlg hen hl hen2 hwN hfN hwi hZ hk
    exfalso; omega
  | succ k ih =>
    intro wd fa wi en ne eg sz lo fs_ ga sg fg wN fN Z f hco hlf hso hfc hp h1 h2 hsc hth hlg hen hl hen2 hwN hfN hwi hZ hk
    have hlp := lps_S (n1 := n1) (n2 := n2) hs hv hSn hcT_ hwN.1 hwN.2
    have hfk := (fk_S (n1 := n1) hs hcT_ hwN.1 hwN.2).1
    have hdp := (dp_lk hcT_ hwN.2).1
    obtain ⟨⟨hok, hvT_, h4, hoT⟩, esT, hG, _⟩ := hc_lk (n1 := n1) hcT_
    have hkv := (gr_lk hok hvT_ hwN.2).1.1
    refine gU_of (by decide) (Nat.le_of_ble_eq_true rfl) ?_
    show gG l _ _ _ D cy b cX1_acquire 8 _ RX1 "acquire" 0 0 f 0 [(0, .ref co), (1, .ref lf), (2, .int wd), (3, .int fa), (4, .int wi)] []
    refine gz_aload_n dX1_acquire_0 rfl rfl ?_
    refine sgX1_39 hlf rfl dX1_acquire_1 ?_
    refine gz_astore (lv' := [(5, .ref p), (0, .ref co), (1, .ref lf), (2, .int wd), (3, .int fa), (4, .int wi)]) dX1_acquire_4 (by decide) rfl ?_
    refine gz_iload_n dX1_acquire_6 rfl rfl ?_
    refine gz_if_lt (tgt := 30) dX1_acquire_7 (by decide) (fun c_7 => ?_) (fun c_7 => ?_)
    · exfalso; have e0_ : (0 : Int32).toInt = 0 := rfl; simp only [fl_lt] at c_7; omega
    ·
      refine gz_iload dX1_acquire_10 rfl ?_
      refine gz_bipush (v := 11) dX1_acquire_12 (by decide) ?_
      refine gz_icmp_gt (tgt := 30) dX1_acquire_14 (by decide) (fun c_14 => ?_) (fun c_14 => ?_)
      · exfalso; have e11_ : (11 : Int32).toInt = 11 := rfl; simp only [fl_lt] at c_14; omega
      ·
        refine gz_aload dX1_acquire_17 rfl ?_
        refine gz_iload_n dX1_acquire_19 rfl rfl ?_
        refine gz_aload_n dX1_acquire_20 rfl rfl ?_
        refine sgX1_17 hco rfl dX1_acquire_21 ?_
        refine scX1_43 (k_X2_lapsed (w := wd) hp h1 h2 hsc hth hs hv) hp ⟨(by simp only [gRm]; omega), (by simp only [gRm]; omega)⟩ ⟨(by simp only [gRm]; omega), (by simp only [gRm]; omega)⟩ rfl rfl (Nat.le_of_ble_eq_true rfl) dX1_acquire_24 ?_
        intro v9 f9 z9; rw [z9.1, z9.2]
        refine gz_if_eq (tgt := 31) dX1_acquire_27 (by decide) (fun c_27 => ?_) (fun c_27 => ?_)
        ·
          refine gz_aload dX1_acquire_31 rfl ?_
          refine gz_iload_n dX1_acquire_33 rfl rfl ?_
          refine gz_iconst (v := 0) dX1_acquire_34 (by decide) ?_
          refine scX1_49 (k_X2_field (w := wd) (k := 0) hp h1 hs) hp ⟨(by simp only [gRm]; omega), (by simp only [gRm]; omega)⟩ ⟨(by simp only [gRm]; omega), (by simp only [gRm]; omega)⟩ rfl rfl (Nat.le_of_ble_eq_true rfl) dX1_acquire_35 ?_
          intro v9 f9 z9; rw [z9.1, z9.2]
          refine gz_istore (lv' := [(6, .int (fldF n1 g s wd 0)), (5, .ref p), (0, .ref co), (1, .ref lf), (2, .int wd), (3, .int fa), (4, .int wi)]) dX1_acquire_38 (by decide) rfl ?_
          refine gz_iload dX1_acquire_40 rfl ?_
          by_cases hw_42_0 : (fldF n1 g s wd 0) = (-1)
          ·
            refine gz_ev (w := .int (-1)) (congrArg Value.int hw_42_0) ?_
            refine gz_tableIn (off := 50) (tgt := 92) dX1_acquire_42 (by decide) (by decide) rfl (by decide) ?_
            have zk42_0 : (fldF n1 g s wd 0).toInt = -1 := by rw [hw_42_0]; rfl
            have hk0 : (grH T wN).1 = 0 := by omega
            exact gz_vretU rfl dX1_acquire_92 (by omega) (by omega) (⟨_, _, _, _, _, _, _, _, _, rfl, hlg, hen, hlf, hso, hfc, hl, ⟨by omega, by omega⟩, (Or.inl rfl), (by rw [ev_0 hok hvT_ h4 hwN.2 hk0]; exact hZ), fr_rf⟩)
          ·
            by_cases hw_42_1 : (fldF n1 g s wd 0) = 0
            ·
              refine gz_ev (w := .int 0) (congrArg Value.int hw_42_1) ?_
              refine gz_tableIn (off := 50) (tgt := 92) dX1_acquire_42 (by decide) (by decide) rfl (by decide) ?_
              have zk42_0 : (fldF n1 g s wd 0).toInt ≠ -1 := fun e => hw_42_0 (Int32.toInt_inj.mp (e.trans rfl))
              have zk42_1 : (fldF n1 g s wd 0).toInt = 0 := by rw [hw_42_1]; rfl
              have hk0 : (grH T wN).1 = 0 := by omega
              exact gz_vretU rfl dX1_acquire_92 (by omega) (by omega) (⟨_, _, _, _, _, _, _, _, _, rfl, hlg, hen, hlf, hso, hfc, hl, ⟨by omega, by omega⟩, (Or.inl rfl), (by rw [ev_0 hok hvT_ h4 hwN.2 hk0]; exact hZ), fr_rf⟩)
            ·
              by_cases hw_42_2 : (fldF n1 g s wd 0) = 1
              ·
                refine gz_ev (w := .int 1) (congrArg Value.int hw_42_2) ?_
                refine gz_tableIn (off := 51) (tgt := 93) dX1_acquire_42 (by decide) (by decide) rfl (by decide) ?_
                refine gz_aload_n dX1_acquire_93 rfl rfl ?_
                refine sgX1_21 hco rfl dX1_acquire_94 ?_
                refine gz_aload_n dX1_acquire_97 rfl rfl ?_
                refine gz_aload_n dX1_acquire_98 rfl rfl ?_
                refine sgX1_17 hco rfl dX1_acquire_99 ?_
                refine sgX1_53 hsc rfl dX1_acquire_102 ?_
                refine gz_aload dX1_acquire_105 rfl ?_
                refine gz_iload_n dX1_acquire_107 rfl rfl ?_
                refine gz_iload_n dX1_acquire_108 rfl rfl ?_
                refine scX1_58 (k_X2_held (w := wd) (x := fa) hp h1 hs) hp ⟨(by simp only [gRm]; omega), (by simp only [gRm]; omega)⟩ ⟨(by simp only [gRm]; omega), (by simp only [gRm]; omega)⟩ rfl rfl (Nat.le_of_ble_eq_true rfl) dX1_acquire_109 ?_
                intro v9 f9 z9; rw [z9.1, z9.2]
                refine gz_iload_n dX1_acquire_112 rfl rfl ?_
                refine suX1_61 (k_X4_payE (da := da) (co := (heldF n1 g s wd fa)) (wd := wd) hlg hen hlf hl hZ hwN.1) hlg ⟨(by simp only [gRm]; omega), (by simp only [gRm]; omega)⟩ ⟨(by simp only [gRm]; omega), (by simp only [gRm]; omega)⟩ rfl rfl (Nat.le_of_ble_eq_true rfl) dX1_acquire_113 ?_
                rintro kk_1 nn_1 r_1 f1 ⟨e_1, m_1, g_1, s_1, l_1, a_1, rfl, hlg_1, he_1, hlf_1, hl_1, hu_1, hc_1, hst_1, hr1⟩
                refine gz_eq (st2 := []) rfl rfl rfl rfl ?_
                have hco_1 : f1 co = some (.inr (1, [.ref lv, .ref sc, .ref lg, .int csz])) := hr1 _ _ hco (by simp only [List.mem_cons, List.not_mem_nil, or_false, not_or]; exact ⟨cne hco hlg (by simp), cne hco hen (by simp), cne hco hlf (by simp)⟩)
                have hso_1 : f1 so = some (.inl (cy 0, 40, .inl (sg))) := hr1 _ _ hso (by simp only [List.mem_cons, List.not_mem_nil, or_false, not_or]; exact ⟨cne hso hlg (by simp), Ne.symm (hen2.1), cne hso hlf (by simp)⟩)
                have hfc_1 : f1 fc = some (.inl (cy 0, 40, .inl (fg))) := hr1 _ _ hfc (by simp only [List.mem_cons, List.not_mem_nil, or_false, not_or]; exact ⟨cne hfc hlg (by simp), Ne.symm (hen2.2.1), cne hfc hlf (by simp)⟩)
                have hp_1 : f1 p = some (.inr (2, [.ref c1, .ref c2, .int s, .int v])) := hr1 _ _ hp (by simp only [List.mem_cons, List.not_mem_nil, or_false, not_or]; exact ⟨cne hp hlg (by simp), cne hp hen (by simp), cne hp hlf (by simp)⟩)
                have h1_1 : f1 c1 = some (.inl (cy 0, n1, .inl (g))) := hr1 _ _ h1 (by simp only [List.mem_cons, List.not_mem_nil, or_false, not_or]; exact ⟨cne h1 hlg (by simp), Ne.symm (hen2.2.2.1), cne h1 hlf (by simp)⟩)
                have h2_1 : f1 c2 = some (.inl (cy 0, n2, .inl (h))) := hr1 _ _ h2 (by simp only [List.mem_cons, List.not_mem_nil, or_false, not_or]; exact ⟨cne h2 hlg (by simp), Ne.symm (hen2.2.2.2.1), cne h2 hlf (by simp)⟩)
                have hsc_1 : f1 sc = some (.inr (7, [.ref th, .int da])) := hr1 _ _ hsc (by simp only [List.mem_cons, List.not_mem_nil, or_false, not_or]; exact ⟨cne hsc hlg (by simp), cne hsc hen (by simp), cne hsc hlf (by simp)⟩)
                have hth_1 : f1 th = some (.inl (cy 0, 6, .inl (t))) := hr1 _ _ hth (by simp only [List.mem_cons, List.not_mem_nil, or_false, not_or]; exact ⟨cne hth hlg (by simp), Ne.symm (hen2.2.2.2.2), cne hth hlf (by simp)⟩)
                have hl0 : lpT T S wN = false := by rw [hlp] at c_27; exact b01.mp c_27
                have zk42_0 : (fldF n1 g s wd 0).toInt ≠ -1 := fun e => hw_42_0 (Int32.toInt_inj.mp (e.trans rfl))
                have zk42_1 : (fldF n1 g s wd 0).toInt ≠ 0 := fun e => hw_42_1 (Int32.toInt_inj.mp (e.trans rfl))
                have zk42_2 : (fldF n1 g s wd 0).toInt = 1 := by rw [hw_42_2]; rfl
                have hk1 : (grH T wN).1 = 1 := by omega
                have hh9 := hel_S (x := fa) hs hcT_ hwN.1 hwN.2 hfN.1
                have e9 := ev_1 (S := S) (f := fN) hok hvT_ h4 hwN.2 hl0 hk1
                rw [← hh9] at e9
                exact gz_vretU rfl dX1_acquire_116 (by omega) (by omega) (⟨_, _, _, _, _, _, _, _, _, rfl, hlg_1, he_1, hlf_1, hso_1, hfc_1, hl_1, ⟨by omega, by omega⟩, hc_1, (by have q9 := hst_1; rw [hSn.1] at q9; rw [e9]; by_cases z9 : (heldF n1 g s wd fa).toInt = 0; (rw [if_pos z9] at q9 ⊢; exact q9); (rw [if_neg z9] at q9 ⊢; exact q9)), (fr_tr fr_rf (fr_mo hr1 (by simp)))⟩)
              ·
                by_cases hw_42_3 : (fldF n1 g s wd 0) = 2
                ·
                  refine gz_ev (w := .int 2) (congrArg Value.int hw_42_3) ?_
                  refine gz_tableIn (off := 83) (tgt := 125) dX1_acquire_42 (by decide) (by decide) rfl (by decide) ?_
                  refine gz_iload dX1_acquire_125 rfl ?_
                  refine gz_bipush (v := 6) dX1_acquire_127 (by decide) ?_
                  refine gz_icmp_ne (tgt := 153) dX1_acquire_129 (by decide) (fun c_129 => ?_) (fun c_129 => ?_)
                  ·
                    refine gz_aload dX1_acquire_153 rfl ?_
                    refine gz_iload_n dX1_acquire_155 rfl rfl ?_
                    refine gz_iload_n dX1_acquire_156 rfl rfl ?_
                    refine gz_aload_n dX1_acquire_157 rfl rfl ?_
                    refine sgX1_17 hco rfl dX1_acquire_158 ?_
                    have zk42_0 : (fldF n1 g s wd 0).toInt ≠ -1 := fun e => hw_42_0 (Int32.toInt_inj.mp (e.trans rfl))
                    have zk42_1 : (fldF n1 g s wd 0).toInt ≠ 0 := fun e => hw_42_1 (Int32.toInt_inj.mp (e.trans rfl))
                    have zk42_2 : (fldF n1 g s wd 0).toInt ≠ 1 := fun e => hw_42_2 (Int32.toInt_inj.mp (e.trans rfl))
                    have zk42_3 : (fldF n1 g s wd 0).toInt = 2 := by rw [hw_42_3]; rfl
                    have hk2 : 2 ≤ (grH T wN).1 := by omega
                    refine scX1_73 (k_X2_passed (w := wd) (x := fa) hp h1 h2 hsc hth hs hv) hp ⟨(by simp only [gRm]; omega), (by simp only [gRm]; omega)⟩ ⟨(by simp only [gRm]; omega), (by simp only [gRm]; omega)⟩ rfl rfl (Nat.le_of_ble_eq_true rfl) dX1_acquire_161 ?_
                    intro v9 f9 z9; rw [z9.1, z9.2]
                    refine gz_istore (lv' := [(7, .int (pasF n1 n2 g h s v t da wd fa)), (6, .int (fldF n1 g s wd 0)), (5, .ref p), (0, .ref co), (1, .ref lf), (2, .int wd), (3, .int fa), (4, .int wi)]) dX1_acquire_164 (by decide) rfl ?_
                    refine gz_aload_n dX1_acquire_166 rfl rfl ?_
                    refine gz_aload_n dX1_acquire_167 rfl rfl ?_
                    refine gz_aload dX1_acquire_168 rfl ?_
                    refine gz_iload_n dX1_acquire_170 rfl rfl ?_
                    refine gz_aload_n dX1_acquire_171 rfl rfl ?_
                    refine sgX1_17 hco rfl dX1_acquire_172 ?_
                    refine scX1_77 (k_X2_nextDeed (w := wd) hp h1 hsc hs) hp ⟨(by simp only [gRm]; omega), (by simp only [gRm]; omega)⟩ ⟨(by simp only [gRm]; omega), (by simp only [gRm]; omega)⟩ rfl rfl (Nat.le_of_ble_eq_true rfl) dX1_acquire_175 ?_
                    intro v9 f9 z9; rw [z9.1, z9.2]
                    refine gz_iload dX1_acquire_178 rfl ?_
                    refine gz_iload dX1_acquire_180 rfl ?_
                    refine gz_iconst (v := 1) dX1_acquire_182 (by decide) ?_
                    refine gz_iadd dX1_acquire_183 ?_
                    refine suX1_32 (ih (nxtF n1 g s da wd) (pasF n1 n2 g h s v t da wd fa) (wi + 1) en _ _ sz lo fs_ ga _ _ (nxT T S wN) (psT S (grH T wN) fN) Z _ hco hlf hso hfc hp h1 h2 hsc hth hlg hen hl hen2 ⟨nxt_S hs hSn hcT_ hwN.1 hwN.2 hk2, (nx_dp (S := S) hcT_ hwN.2 hk2).1.1⟩ ⟨pas_S hs hv hSn hcT_ hwN.1 hwN.2 hfN.1 hfN.2, psT_b hfN.2⟩ (by have e1 : (1 : Int32).toInt = 1 := rfl; have hx := T_add (rfl : wi.toInt = wi.toInt) e1 (by omega); have hd9 := (nx_dp (S := S) hcT_ hwN.2 hk2).1.2; omega) hZ (by have e13 : (13 : Int32).toInt = 13 := rfl; have e0 : (0 : Int32).toInt = 0 := rfl; have e2 : (2 : Int32).toInt = 2 := rfl; have e1 : (1 : Int32).toInt = 1 := rfl; have e6 : (6 : Int32).toInt = 6 := rfl; have em2 : (-2 : Int32).toInt = -2 := rfl; have e11 : (11 : Int32).toInt = 11 := rfl; simp only [fl_lt] at c_14; have hx := T_add (rfl : wi.toInt = wi.toInt) e1 (by omega); rw [hx]; omega)) hco ⟨(by simp only [gRm]; omega), (by simp only [gRm]; omega)⟩ ⟨(by simp only [gRm]; omega), (by simp only [gRm]; omega)⟩ rfl rfl (Nat.le_of_ble_eq_true rfl) dX1_acquire_184 ?_
                    rintro kk_2 nn_2 r_2 f2 ⟨e_2, m_2, g_2, s_2, l_2, z_2, a_2, x_2, y_2, rfl, hlg_2, he_2, hlf_2, hso_2, hfc_2, hl_2, hu_2, hc_2, hst_2, hr2⟩
                    refine gz_eq (st2 := []) rfl rfl rfl rfl ?_
                    have hco_2 : f2 co = some (.inr (1, [.ref lv, .ref sc, .ref lg, .int csz])) := hr2 _ _ hco (by simp only [List.mem_cons, List.not_mem_nil, or_false, not_or]; exact ⟨cne hco hlg (by simp), cne hco hen (by simp), cne hco hlf (by simp), cne hco hso (by simp), cne hco hfc (by simp)⟩)
                    have hp_2 : f2 p = some (.inr (2, [.ref c1, .ref c2, .int s, .int v])) := hr2 _ _ hp (by simp only [List.mem_cons, List.not_mem_nil, or_false, not_or]; exact ⟨cne hp hlg (by simp), cne hp hen (by simp), cne hp hlf (by simp), cne hp hso (by simp), cne hp hfc (by simp)⟩)
                    have h1_2 : f2 c1 = some (.inl (cy 0, n1, .inl (g))) := hr2 _ _ h1 (by simp only [List.mem_cons, List.not_mem_nil, or_false, not_or]; exact ⟨cne h1 hlg (by simp), Ne.symm (hen2.2.2.1), cne h1 hlf (by simp), Ne.symm (hne.2.1), Ne.symm (hne.2.2.2.2.1)⟩)
                    have h2_2 : f2 c2 = some (.inl (cy 0, n2, .inl (h))) := hr2 _ _ h2 (by simp only [List.mem_cons, List.not_mem_nil, or_false, not_or]; exact ⟨cne h2 hlg (by simp), Ne.symm (hen2.2.2.2.1), cne h2 hlf (by simp), Ne.symm (hne.2.2.1), Ne.symm (hne.2.2.2.2.2.1)⟩)
                    have hsc_2 : f2 sc = some (.inr (7, [.ref th, .int da])) := hr2 _ _ hsc (by simp only [List.mem_cons, List.not_mem_nil, or_false, not_or]; exact ⟨cne hsc hlg (by simp), cne hsc hen (by simp), cne hsc hlf (by simp), cne hsc hso (by simp), cne hsc hfc (by simp)⟩)
                    have hth_2 : f2 th = some (.inl (cy 0, 6, .inl (t))) := hr2 _ _ hth (by simp only [List.mem_cons, List.not_mem_nil, or_false, not_or]; exact ⟨cne hth hlg (by simp), Ne.symm (hen2.2.2.2.2), cne hth hlf (by simp), Ne.symm (hne.2.2.2.1), Ne.symm (hne.2.2.2.2.2.2)⟩)
                    refine gz_iload dX1_acquire_187 rfl ?_
                    refine gz_iconst (v := 3) dX1_acquire_189 (by decide) ?_
                    refine gz_icmp_ne (tgt := 211) dX1_acquire_190 (by decide) (fun c_190 => ?_) (fun c_190 => ?_)
                    ·
                      have hl0 : lpT T S wN = false := by rw [hlp] at c_27; exact b01.mp c_27
                      have hh6 : (grH T wN).1 = 6 → hldF n1 n2 g h s v t da wd = if hlB S (grH T wN) = true then 1 else 0 := fun z => hld_S hs hv hSn hwN.1 (by omega) (hG wN (by omega)).1 (hG wN (by omega)).2.1 (by omega)
                      have zk3 : (fldF n1 g s wd 0).toInt ≠ 3 := fun e => c_190 (Int32.toInt_inj.mp (e.trans rfl))
                      have zk6 : (fldF n1 g s wd 0).toInt ≠ 6 := fun e => c_129 (Int32.toInt_inj.mp (e.trans rfl))
                      have e9 := ev_n (S := S) (f := fN) hok hvT_ h4 hwN.2 hl0 ⟨by omega, by omega, by omega, by omega⟩ (fun z => by omega)
                      exact gz_vretU rfl dX1_acquire_211 (by omega) (by omega) (⟨_, _, _, _, _, _, _, _, _, rfl, hlg_2, he_2, hlf_2, hso_2, hfc_2, hl_2, ⟨by omega, by omega⟩, hc_2, (by rw [e9]; exact hst_2), (fr_tr fr_rf (fr_mo hr2 (by simp)))⟩)
                    ·
                      refine gz_aload_n dX1_acquire_193 rfl rfl ?_
                      refine gz_aload_n dX1_acquire_194 rfl rfl ?_
                      refine gz_aload dX1_acquire_195 rfl ?_
                      refine gz_iload_n dX1_acquire_197 rfl rfl ?_
                      refine gz_iconst (v := 4) dX1_acquire_198 (by decide) ?_
                      refine scX1_49 (k_X2_field (w := wd) (k := 4) hp_2 h1_2 hs) hp_2 ⟨(by simp only [gRm]; omega), (by simp only [gRm]; omega)⟩ ⟨(by simp only [gRm]; omega), (by simp only [gRm]; omega)⟩ rfl rfl (Nat.le_of_ble_eq_true rfl) dX1_acquire_199 ?_
                      intro v9 f9 z9; rw [z9.1, z9.2]
                      refine gz_iload dX1_acquire_202 rfl ?_
                      refine gz_iload dX1_acquire_204 rfl ?_
                      refine gz_iconst (v := 1) dX1_acquire_206 (by decide) ?_
                      refine gz_iadd dX1_acquire_207 ?_
                      have h35 : (grH T wN).1 = 3 := by have z9 := congrArg Int32.toInt c_190; have e3_ : (3 : Int32).toInt = 3 := rfl; omega
                      refine suX1_32 (ih (fldF n1 g s wd 4) (pasF n1 n2 g h s v t da wd fa) (wi + 1) e_2 _ _ s_2 l_2 z_2 a_2 _ _ (grS T wN) (psT S (grH T wN) fN) (apS nu.toInt S.1 ho1.toInt ho2.toInt (ev T S (nxT T S wN) (psT S (grH T wN) fN)) Z) _ hco_2 hlf_2 hso_2 hfc_2 hp_2 h1_2 h2_2 hsc_2 hth_2 hlg_2 he_2 hl_2 ⟨(enn hc_2 hso (hen2.1)), (enn hc_2 hfc (hen2.2.1)), (enn hc_2 h1 (hen2.2.2.1)), (enn hc_2 h2 (hen2.2.2.2.1)), (enn hc_2 hth (hen2.2.2.2.2))⟩ ⟨(fk_S hs hcT_ hwN.1 hwN.2).2.2.2.2.2 (by omega), ((nx_dp (S := S) hcT_ hwN.2 hk2).2 (by omega)).1⟩ ⟨pas_S hs hv hSn hcT_ hwN.1 hwN.2 hfN.1 hfN.2, psT_b hfN.2⟩ (by have e1 : (1 : Int32).toInt = 1 := rfl; have hx := T_add (rfl : wi.toInt = wi.toInt) e1 (by omega); have hd9 := ((nx_dp (S := S) hcT_ hwN.2 hk2).2 (by omega)).2; omega) hst_2 (by have e13 : (13 : Int32).toInt = 13 := rfl; have e0 : (0 : Int32).toInt = 0 := rfl; have e2 : (2 : Int32).toInt = 2 := rfl; have e1 : (1 : Int32).toInt = 1 := rfl; have e6 : (6 : Int32).toInt = 6 := rfl; have em2 : (-2 : Int32).toInt = -2 := rfl; have e11 : (11 : Int32).toInt = 11 := rfl; simp only [fl_lt] at c_14; have hx := T_add (rfl : wi.toInt = wi.toInt) e1 (by omega); rw [hx]; omega)) hco_2 ⟨(by simp only [gRm]; omega), (by simp only [gRm]; omega)⟩ ⟨(by simp only [gRm]; omega), (by simp only [gRm]; omega)⟩ rfl rfl (Nat.le_of_ble_eq_true rfl) dX1_acquire_208 ?_
                      rintro kk_3 nn_3 r_3 f3 ⟨e_3, m_3, g_3, s_3, l_3, z_3, a_3, x_3, y_3, rfl, hlg_3, he_3, hlf_3, hso_3, hfc_3, hl_3, hu_3, hc_3, hst_3, hr3⟩
                      refine gz_eq (st2 := []) rfl rfl rfl rfl ?_
                      have hco_3 : f3 co = some (.inr (1, [.ref lv, .ref sc, .ref lg, .int csz])) := hr3 _ _ hco_2 (by simp only [List.mem_cons, List.not_mem_nil, or_false, not_or]; exact ⟨cne hco_2 hlg_2 (by simp), cne hco_2 he_2 (by simp), cne hco_2 hlf_2 (by simp), cne hco_2 hso_2 (by simp), cne hco_2 hfc_2 (by simp)⟩)
                      have hp_3 : f3 p = some (.inr (2, [.ref c1, .ref c2, .int s, .int v])) := hr3 _ _ hp_2 (by simp only [List.mem_cons, List.not_mem_nil, or_false, not_or]; exact ⟨cne hp_2 hlg_2 (by simp), cne hp_2 he_2 (by simp), cne hp_2 hlf_2 (by simp), cne hp_2 hso_2 (by simp), cne hp_2 hfc_2 (by simp)⟩)
                      have h1_3 : f3 c1 = some (.inl (cy 0, n1, .inl (g))) := hr3 _ _ h1_2 (by simp only [List.mem_cons, List.not_mem_nil, or_false, not_or]; exact ⟨cne h1_2 hlg_2 (by simp), Ne.symm ((enn hc_2 h1 (hen2.2.2.1))), cne h1_2 hlf_2 (by simp), Ne.symm (hne.2.1), Ne.symm (hne.2.2.2.2.1)⟩)
                      have h2_3 : f3 c2 = some (.inl (cy 0, n2, .inl (h))) := hr3 _ _ h2_2 (by simp only [List.mem_cons, List.not_mem_nil, or_false, not_or]; exact ⟨cne h2_2 hlg_2 (by simp), Ne.symm ((enn hc_2 h2 (hen2.2.2.2.1))), cne h2_2 hlf_2 (by simp), Ne.symm (hne.2.2.1), Ne.symm (hne.2.2.2.2.2.1)⟩)
                      have hsc_3 : f3 sc = some (.inr (7, [.ref th, .int da])) := hr3 _ _ hsc_2 (by simp only [List.mem_cons, List.not_mem_nil, or_false, not_or]; exact ⟨cne hsc_2 hlg_2 (by simp), cne hsc_2 he_2 (by simp), cne hsc_2 hlf_2 (by simp), cne hsc_2 hso_2 (by simp), cne hsc_2 hfc_2 (by simp)⟩)
                      have hth_3 : f3 th = some (.inl (cy 0, 6, .inl (t))) := hr3 _ _ hth_2 (by simp only [List.mem_cons, List.not_mem_nil, or_false, not_or]; exact ⟨cne hth_2 hlg_2 (by simp), Ne.symm ((enn hc_2 hth (hen2.2.2.2.2))), cne hth_2 hlf_2 (by simp), Ne.symm (hne.2.2.2.1), Ne.symm (hne.2.2.2.2.2.2)⟩)
                      have hcc_3 : e_3 = en ∨ f e_3 = none := eny (S := [lg, en, lf, so, fc]) hc_2 hc_3 (fr_tr fr_rf (fr_mo hr2 (by simp))) (by intro z hz2; simp only [List.mem_cons, List.not_mem_nil, or_false] at hz2; rcases hz2 with rfl | rfl | rfl | rfl | rfl; exact Or.inr ⟨_, hlg_2⟩; exact Or.inl rfl; exact Or.inr ⟨_, hlf_2⟩; exact Or.inr ⟨_, hso_2⟩; exact Or.inr ⟨_, hfc_2⟩)
                      have hl0 : lpT T S wN = false := by rw [hlp] at c_27; exact b01.mp c_27
                      have e9 := ev_3 (S := S) (f := fN) hok hvT_ h4 hwN.2 hl0 h35
                      exact gz_vretU rfl dX1_acquire_211 (by omega) (by omega) (⟨_, _, _, _, _, _, _, _, _, rfl, hlg_3, he_3, hlf_3, hso_3, hfc_3, hl_3, ⟨by omega, by omega⟩, hcc_3, (by rw [e9, apS_app]; exact hst_3), (frx hc_2 (fr_tr fr_rf (fr_mo hr2 (by simp))) hr3)⟩)
                  ·
                    refine gz_aload dX1_acquire_132 rfl ?_
                    refine gz_iload_n dX1_acquire_134 rfl rfl ?_
                    refine gz_aload_n dX1_acquire_135 rfl rfl ?_
                    refine sgX1_17 hco rfl dX1_acquire_136 ?_
                    refine scX1_70 (k_X2_holds (w := wd) hp h1 h2 hsc hth hs hv) hp ⟨(by simp only [gRm]; omega), (by simp only [gRm]; omega)⟩ ⟨(by simp only [gRm]; omega), (by simp only [gRm]; omega)⟩ rfl rfl (Nat.le_of_ble_eq_true rfl) dX1_acquire_139 ?_
                    intro v9 f9 z9; rw [z9.1, z9.2]
                    refine gz_if_ne (tgt := 153) dX1_acquire_142 (by decide) (fun c_142 => ?_) (fun c_142 => ?_)
                    ·
                      refine gz_aload dX1_acquire_153 rfl ?_
                      refine gz_iload_n dX1_acquire_155 rfl rfl ?_
                      refine gz_iload_n dX1_acquire_156 rfl rfl ?_
                      refine gz_aload_n dX1_acquire_157 rfl rfl ?_
                      refine sgX1_17 hco rfl dX1_acquire_158 ?_
                      have zk42_0 : (fldF n1 g s wd 0).toInt ≠ -1 := fun e => hw_42_0 (Int32.toInt_inj.mp (e.trans rfl))
                      have zk42_1 : (fldF n1 g s wd 0).toInt ≠ 0 := fun e => hw_42_1 (Int32.toInt_inj.mp (e.trans rfl))
                      have zk42_2 : (fldF n1 g s wd 0).toInt ≠ 1 := fun e => hw_42_2 (Int32.toInt_inj.mp (e.trans rfl))
                      have zk42_3 : (fldF n1 g s wd 0).toInt = 2 := by rw [hw_42_3]; rfl
                      have hk2 : 2 ≤ (grH T wN).1 := by omega
                      refine scX1_73 (k_X2_passed (w := wd) (x := fa) hp h1 h2 hsc hth hs hv) hp ⟨(by simp only [gRm]; omega), (by simp only [gRm]; omega)⟩ ⟨(by simp only [gRm]; omega), (by simp only [gRm]; omega)⟩ rfl rfl (Nat.le_of_ble_eq_true rfl) dX1_acquire_161 ?_
                      intro v9 f9 z9; rw [z9.1, z9.2]
                      refine gz_istore (lv' := [(7, .int (pasF n1 n2 g h s v t da wd fa)), (6, .int (fldF n1 g s wd 0)), (5, .ref p), (0, .ref co), (1, .ref lf), (2, .int wd), (3, .int fa), (4, .int wi)]) dX1_acquire_164 (by decide) rfl ?_
                      refine gz_aload_n dX1_acquire_166 rfl rfl ?_
                      refine gz_aload_n dX1_acquire_167 rfl rfl ?_
                      refine gz_aload dX1_acquire_168 rfl ?_
                      refine gz_iload_n dX1_acquire_170 rfl rfl ?_
                      refine gz_aload_n dX1_acquire_171 rfl rfl ?_
                      refine sgX1_17 hco rfl dX1_acquire_172 ?_
                      refine scX1_77 (k_X2_nextDeed (w := wd) hp h1 hsc hs) hp ⟨(by simp only [gRm]; omega), (by simp only [gRm]; omega)⟩ ⟨(by simp only [gRm]; omega), (by simp only [gRm]; omega)⟩ rfl rfl (Nat.le_of_ble_eq_true rfl) dX1_acquire_175 ?_
                      intro v9 f9 z9; rw [z9.1, z9.2]
                      refine gz_iload dX1_acquire_178 rfl ?_
                      refine gz_iload dX1_acquire_180 rfl ?_
                      refine gz_iconst (v := 1) dX1_acquire_182 (by decide) ?_
                      refine gz_iadd dX1_acquire_183 ?_
                      refine suX1_32 (ih (nxtF n1 g s da wd) (pasF n1 n2 g h s v t da wd fa) (wi + 1) en _ _ sz lo fs_ ga _ _ (nxT T S wN) (psT S (grH T wN) fN) Z _ hco hlf hso hfc hp h1 h2 hsc hth hlg hen hl hen2 ⟨nxt_S hs hSn hcT_ hwN.1 hwN.2 hk2, (nx_dp (S := S) hcT_ hwN.2 hk2).1.1⟩ ⟨pas_S hs hv hSn hcT_ hwN.1 hwN.2 hfN.1 hfN.2, psT_b hfN.2⟩ (by have e1 : (1 : Int32).toInt = 1 := rfl; have hx := T_add (rfl : wi.toInt = wi.toInt) e1 (by omega); have hd9 := (nx_dp (S := S) hcT_ hwN.2 hk2).1.2; omega) hZ (by have e13 : (13 : Int32).toInt = 13 := rfl; have e0 : (0 : Int32).toInt = 0 := rfl; have e2 : (2 : Int32).toInt = 2 := rfl; have e1 : (1 : Int32).toInt = 1 := rfl; have e6 : (6 : Int32).toInt = 6 := rfl; have em2 : (-2 : Int32).toInt = -2 := rfl; have e11 : (11 : Int32).toInt = 11 := rfl; simp only [fl_lt] at c_14; have hx := T_add (rfl : wi.toInt = wi.toInt) e1 (by omega); rw [hx]; omega)) hco ⟨(by simp only [gRm]; omega), (by simp only [gRm]; omega)⟩ ⟨(by simp only [gRm]; omega), (by simp only [gRm]; omega)⟩ rfl rfl (Nat.le_of_ble_eq_true rfl) dX1_acquire_184 ?_
                      rintro kk_4 nn_4 r_4 f4 ⟨e_4, m_4, g_4, s_4, l_4, z_4, a_4, x_4, y_4, rfl, hlg_4, he_4, hlf_4, hso_4, hfc_4, hl_4, hu_4, hc_4, hst_4, hr4⟩
                      refine gz_eq (st2 := []) rfl rfl rfl rfl ?_
                      have hco_4 : f4 co = some (.inr (1, [.ref lv, .ref sc, .ref lg, .int csz])) := hr4 _ _ hco (by simp only [List.mem_cons, List.not_mem_nil, or_false, not_or]; exact ⟨cne hco hlg (by simp), cne hco hen (by simp), cne hco hlf (by simp), cne hco hso (by simp), cne hco hfc (by simp)⟩)
                      have hp_4 : f4 p = some (.inr (2, [.ref c1, .ref c2, .int s, .int v])) := hr4 _ _ hp (by simp only [List.mem_cons, List.not_mem_nil, or_false, not_or]; exact ⟨cne hp hlg (by simp), cne hp hen (by simp), cne hp hlf (by simp), cne hp hso (by simp), cne hp hfc (by simp)⟩)
                      have h1_4 : f4 c1 = some (.inl (cy 0, n1, .inl (g))) := hr4 _ _ h1 (by simp only [List.mem_cons, List.not_mem_nil, or_false, not_or]; exact ⟨cne h1 hlg (by simp), Ne.symm (hen2.2.2.1), cne h1 hlf (by simp), Ne.symm (hne.2.1), Ne.symm (hne.2.2.2.2.1)⟩)
                      have h2_4 : f4 c2 = some (.inl (cy 0, n2, .inl (h))) := hr4 _ _ h2 (by simp only [List.mem_cons, List.not_mem_nil, or_false, not_or]; exact ⟨cne h2 hlg (by simp), Ne.symm (hen2.2.2.2.1), cne h2 hlf (by simp), Ne.symm (hne.2.2.1), Ne.symm (hne.2.2.2.2.2.1)⟩)
                      have hsc_4 : f4 sc = some (.inr (7, [.ref th, .int da])) := hr4 _ _ hsc (by simp only [List.mem_cons, List.not_mem_nil, or_false, not_or]; exact ⟨cne hsc hlg (by simp), cne hsc hen (by simp), cne hsc hlf (by simp), cne hsc hso (by simp), cne hsc hfc (by simp)⟩)
                      have hth_4 : f4 th = some (.inl (cy 0, 6, .inl (t))) := hr4 _ _ hth (by simp only [List.mem_cons, List.not_mem_nil, or_false, not_or]; exact ⟨cne hth hlg (by simp), Ne.symm (hen2.2.2.2.2), cne hth hlf (by simp), Ne.symm (hne.2.2.2.1), Ne.symm (hne.2.2.2.2.2.2)⟩)
                      refine gz_iload dX1_acquire_187 rfl ?_
                      refine gz_iconst (v := 3) dX1_acquire_189 (by decide) ?_
                      refine gz_icmp_ne (tgt := 211) dX1_acquire_190 (by decide) (fun c_190 => ?_) (fun c_190 => ?_)
                      ·
                        have hl0 : lpT T S wN = false := by rw [hlp] at c_27; exact b01.mp c_27
                        have hh6 : (grH T wN).1 = 6 → hldF n1 n2 g h s v t da wd = if hlB S (grH T wN) = true then 1 else 0 := fun z => hld_S hs hv hSn hwN.1 (by omega) (hG wN (by omega)).1 (hG wN (by omega)).2.1 (by omega)
                        have zk3 : (fldF n1 g s wd 0).toInt ≠ 3 := fun e => c_190 (Int32.toInt_inj.mp (e.trans rfl))
                        have e9 := ev_n (S := S) (f := fN) hok hvT_ h4 hwN.2 hl0 ⟨by omega, by omega, by omega, by omega⟩ (fun z => by have q9 := hh6 z; rw [q9] at c_142; cases hb : hlB S (grH T wN); (exact absurd (b01.mpr hb) c_142); rfl)
                        exact gz_vretU rfl dX1_acquire_211 (by omega) (by omega) (⟨_, _, _, _, _, _, _, _, _, rfl, hlg_4, he_4, hlf_4, hso_4, hfc_4, hl_4, ⟨by omega, by omega⟩, hc_4, (by rw [e9]; exact hst_4), (fr_tr fr_rf (fr_mo hr4 (by simp)))⟩)
                      ·
                        refine gz_aload_n dX1_acquire_193 rfl rfl ?_
                        refine gz_aload_n dX1_acquire_194 rfl rfl ?_
                        refine gz_aload dX1_acquire_195 rfl ?_
                        refine gz_iload_n dX1_acquire_197 rfl rfl ?_
                        refine gz_iconst (v := 4) dX1_acquire_198 (by decide) ?_
                        refine scX1_49 (k_X2_field (w := wd) (k := 4) hp_4 h1_4 hs) hp_4 ⟨(by simp only [gRm]; omega), (by simp only [gRm]; omega)⟩ ⟨(by simp only [gRm]; omega), (by simp only [gRm]; omega)⟩ rfl rfl (Nat.le_of_ble_eq_true rfl) dX1_acquire_199 ?_
                        intro v9 f9 z9; rw [z9.1, z9.2]
                        refine gz_iload dX1_acquire_202 rfl ?_
                        refine gz_iload dX1_acquire_204 rfl ?_
                        refine gz_iconst (v := 1) dX1_acquire_206 (by decide) ?_
                        refine gz_iadd dX1_acquire_207 ?_
                        have h35 : (grH T wN).1 = 3 := by have z9 := congrArg Int32.toInt c_190; have e3_ : (3 : Int32).toInt = 3 := rfl; omega
                        refine suX1_32 (ih (fldF n1 g s wd 4) (pasF n1 n2 g h s v t da wd fa) (wi + 1) e_4 _ _ s_4 l_4 z_4 a_4 _ _ (grS T wN) (psT S (grH T wN) fN) (apS nu.toInt S.1 ho1.toInt ho2.toInt (ev T S (nxT T S wN) (psT S (grH T wN) fN)) Z) _ hco_4 hlf_4 hso_4 hfc_4 hp_4 h1_4 h2_4 hsc_4 hth_4 hlg_4 he_4 hl_4 ⟨(enn hc_4 hso (hen2.1)), (enn hc_4 hfc (hen2.2.1)), (enn hc_4 h1 (hen2.2.2.1)), (enn hc_4 h2 (hen2.2.2.2.1)), (enn hc_4 hth (hen2.2.2.2.2))⟩ ⟨(fk_S hs hcT_ hwN.1 hwN.2).2.2.2.2.2 (by omega), ((nx_dp (S := S) hcT_ hwN.2 hk2).2 (by omega)).1⟩ ⟨pas_S hs hv hSn hcT_ hwN.1 hwN.2 hfN.1 hfN.2, psT_b hfN.2⟩ (by have e1 : (1 : Int32).toInt = 1 := rfl; have hx := T_add (rfl : wi.toInt = wi.toInt) e1 (by omega); have hd9 := ((nx_dp (S := S) hcT_ hwN.2 hk2).2 (by omega)).2; omega) hst_4 (by have e13 : (13 : Int32).toInt = 13 := rfl; have e0 : (0 : Int32).toInt = 0 := rfl; have e2 : (2 : Int32).toInt = 2 := rfl; have e1 : (1 : Int32).toInt = 1 := rfl; have e6 : (6 : Int32).toInt = 6 := rfl; have em2 : (-2 : Int32).toInt = -2 := rfl; have e11 : (11 : Int32).toInt = 11 := rfl; simp only [fl_lt] at c_14; have hx := T_add (rfl : wi.toInt = wi.toInt) e1 (by omega); rw [hx]; omega)) hco_4 ⟨(by simp only [gRm]; omega), (by simp only [gRm]; omega)⟩ ⟨(by simp only [gRm]; omega), (by simp only [gRm]; omega)⟩ rfl rfl (Nat.le_of_ble_eq_true rfl) dX1_acquire_208 ?_
                        rintro kk_5 nn_5 r_5 f5 ⟨e_5, m_5, g_5, s_5, l_5, z_5, a_5, x_5, y_5, rfl, hlg_5, he_5, hlf_5, hso_5, hfc_5, hl_5, hu_5, hc_5, hst_5, hr5⟩
                        refine gz_eq (st2 := []) rfl rfl rfl rfl ?_
                        have hco_5 : f5 co = some (.inr (1, [.ref lv, .ref sc, .ref lg, .int csz])) := hr5 _ _ hco_4 (by simp only [List.mem_cons, List.not_mem_nil, or_false, not_or]; exact ⟨cne hco_4 hlg_4 (by simp), cne hco_4 he_4 (by simp), cne hco_4 hlf_4 (by simp), cne hco_4 hso_4 (by simp), cne hco_4 hfc_4 (by simp)⟩)
                        have hp_5 : f5 p = some (.inr (2, [.ref c1, .ref c2, .int s, .int v])) := hr5 _ _ hp_4 (by simp only [List.mem_cons, List.not_mem_nil, or_false, not_or]; exact ⟨cne hp_4 hlg_4 (by simp), cne hp_4 he_4 (by simp), cne hp_4 hlf_4 (by simp), cne hp_4 hso_4 (by simp), cne hp_4 hfc_4 (by simp)⟩)
                        have h1_5 : f5 c1 = some (.inl (cy 0, n1, .inl (g))) := hr5 _ _ h1_4 (by simp only [List.mem_cons, List.not_mem_nil, or_false, not_or]; exact ⟨cne h1_4 hlg_4 (by simp), Ne.symm ((enn hc_4 h1 (hen2.2.2.1))), cne h1_4 hlf_4 (by simp), Ne.symm (hne.2.1), Ne.symm (hne.2.2.2.2.1)⟩)
                        have h2_5 : f5 c2 = some (.inl (cy 0, n2, .inl (h))) := hr5 _ _ h2_4 (by simp only [List.mem_cons, List.not_mem_nil, or_false, not_or]; exact ⟨cne h2_4 hlg_4 (by simp), Ne.symm ((enn hc_4 h2 (hen2.2.2.2.1))), cne h2_4 hlf_4 (by simp), Ne.symm (hne.2.2.1), Ne.symm (hne.2.2.2.2.2.1)⟩)
                        have hsc_5 : f5 sc = some (.inr (7, [.ref th, .int da])) := hr5 _ _ hsc_4 (by simp only [List.mem_cons, List.not_mem_nil, or_false, not_or]; exact ⟨cne hsc_4 hlg_4 (by simp), cne hsc_4 he_4 (by simp), cne hsc_4 hlf_4 (by simp), cne hsc_4 hso_4 (by simp), cne hsc_4 hfc_4 (by simp)⟩)
                        have hth_5 : f5 th = some (.inl (cy 0, 6, .inl (t))) := hr5 _ _ hth_4 (by simp only [List.mem_cons, List.not_mem_nil, or_false, not_or]; exact ⟨cne hth_4 hlg_4 (by simp), Ne.symm ((enn hc_4 hth (hen2.2.2.2.2))), cne hth_4 hlf_4 (by simp), Ne.symm (hne.2.2.2.1), Ne.symm (hne.2.2.2.2.2.2)⟩)
                        have hcc_5 : e_5 = en ∨ f e_5 = none := eny (S := [lg, en, lf, so, fc]) hc_4 hc_5 (fr_tr fr_rf (fr_mo hr4 (by simp))) (by intro z hz2; simp only [List.mem_cons, List.not_mem_nil, or_false] at hz2; rcases hz2 with rfl | rfl | rfl | rfl | rfl; exact Or.inr ⟨_, hlg_4⟩; exact Or.inl rfl; exact Or.inr ⟨_, hlf_4⟩; exact Or.inr ⟨_, hso_4⟩; exact Or.inr ⟨_, hfc_4⟩)
                        have hl0 : lpT T S wN = false := by rw [hlp] at c_27; exact b01.mp c_27
                        have e9 := ev_3 (S := S) (f := fN) hok hvT_ h4 hwN.2 hl0 h35
                        exact gz_vretU rfl dX1_acquire_211 (by omega) (by omega) (⟨_, _, _, _, _, _, _, _, _, rfl, hlg_5, he_5, hlf_5, hso_5, hfc_5, hl_5, ⟨by omega, by omega⟩, hcc_5, (by rw [e9, apS_app]; exact hst_5), (frx hc_4 (fr_tr fr_rf (fr_mo hr4 (by simp))) hr5)⟩)
                    ·
                      refine gz_aload_n dX1_acquire_145 rfl rfl ?_
                      refine gz_aload_n dX1_acquire_146 rfl rfl ?_
                      refine gz_iload_n dX1_acquire_147 rfl rfl ?_
                      refine gz_iload_n dX1_acquire_148 rfl rfl ?_
                      refine scX1_66 (k_X1_keepE (wd := wd) (fa := fa) (d_ := S.1) hco hlg hlf hso hfc hne.1 hZ hwN.1 hfN.1) hco ⟨(by simp only [gRm]; omega), (by simp only [gRm]; omega)⟩ ⟨(by simp only [gRm]; omega), (by simp only [gRm]; omega)⟩ rfl rfl (Nat.le_of_ble_eq_true rfl) dX1_acquire_149 ?_
                      rintro f6 ⟨l_6, z_6, x_6, y_6, hlg_6, hlf_6, hso_6, hfc_6, hst_6, hr6⟩
                      have hco_6 : f6 co = some (.inr (1, [.ref lv, .ref sc, .ref lg, .int csz])) := hr6 _ _ hco (by simp only [List.mem_cons, List.not_mem_nil, or_false, not_or]; exact ⟨cne hco hlg (by simp), cne hco hlf (by simp), cne hco hso (by simp), cne hco hfc (by simp)⟩)
                      have hp_6 : f6 p = some (.inr (2, [.ref c1, .ref c2, .int s, .int v])) := hr6 _ _ hp (by simp only [List.mem_cons, List.not_mem_nil, or_false, not_or]; exact ⟨cne hp hlg (by simp), cne hp hlf (by simp), cne hp hso (by simp), cne hp hfc (by simp)⟩)
                      have h1_6 : f6 c1 = some (.inl (cy 0, n1, .inl (g))) := hr6 _ _ h1 (by simp only [List.mem_cons, List.not_mem_nil, or_false, not_or]; exact ⟨cne h1 hlg (by simp), cne h1 hlf (by simp), Ne.symm (hne.2.1), Ne.symm (hne.2.2.2.2.1)⟩)
                      have h2_6 : f6 c2 = some (.inl (cy 0, n2, .inl (h))) := hr6 _ _ h2 (by simp only [List.mem_cons, List.not_mem_nil, or_false, not_or]; exact ⟨cne h2 hlg (by simp), cne h2 hlf (by simp), Ne.symm (hne.2.2.1), Ne.symm (hne.2.2.2.2.2.1)⟩)
                      have hsc_6 : f6 sc = some (.inr (7, [.ref th, .int da])) := hr6 _ _ hsc (by simp only [List.mem_cons, List.not_mem_nil, or_false, not_or]; exact ⟨cne hsc hlg (by simp), cne hsc hlf (by simp), cne hsc hso (by simp), cne hsc hfc (by simp)⟩)
                      have hth_6 : f6 th = some (.inl (cy 0, 6, .inl (t))) := hr6 _ _ hth (by simp only [List.mem_cons, List.not_mem_nil, or_false, not_or]; exact ⟨cne hth hlg (by simp), cne hth hlf (by simp), Ne.symm (hne.2.2.2.1), Ne.symm (hne.2.2.2.2.2.2)⟩)
                      have hen_6 : f6 en = some (.inl (cy 0, ne, .inl (eg))) := hr6 _ _ hen (by simp only [List.mem_cons, List.not_mem_nil, or_false, not_or]; exact ⟨cne hen hlg (by simp), cne hen hlf (by simp), hen2.1, hen2.2.1⟩)
                      have hl0 : lpT T S wN = false := by rw [hlp] at c_27; exact b01.mp c_27
                      have zk42_0 : (fldF n1 g s wd 0).toInt ≠ -1 := fun e => hw_42_0 (Int32.toInt_inj.mp (e.trans rfl))
                      have zk42_1 : (fldF n1 g s wd 0).toInt ≠ 0 := fun e => hw_42_1 (Int32.toInt_inj.mp (e.trans rfl))
                      have zk42_2 : (fldF n1 g s wd 0).toInt ≠ 1 := fun e => hw_42_2 (Int32.toInt_inj.mp (e.trans rfl))
                      have zk42_3 : (fldF n1 g s wd 0).toInt = 2 := by rw [hw_42_3]; rfl
                      have hh6 : (grH T wN).1 = 6 → hldF n1 n2 g h s v t da wd = if hlB S (grH T wN) = true then 1 else 0 := fun z => hld_S hs hv hSn hwN.1 (by omega) (hG wN (by omega)).1 (hG wN (by omega)).2.1 (by omega)
                      have zk6 : (fldF n1 g s wd 0).toInt = 6 := by rw [c_129]; rfl
                      have e9 := ev_4 (S := S) (f := fN) hok hvT_ h4 hwN.2 hl0 (Or.inr (Or.inr ⟨by omega, by have q9 := hh6 (by omega); rw [q9] at c_142; exact b01.mp c_142⟩))
                      exact gz_vretU rfl dX1_acquire_152 (by omega) (by omega) (⟨_, _, _, _, _, _, _, _, _, rfl, hlg_6, hen_6, hlf_6, hso_6, hfc_6, hl, ⟨by omega, by omega⟩, (Or.inl rfl), (by rw [e9]; exact hst_6), (fr_tr fr_rf (fr_mo hr6 (by simp)))⟩)
                ·
                  by_cases hw_42_4 : (fldF n1 g s wd 0) = 3
                  ·
                    refine gz_ev (w := .int 3) (congrArg Value.int hw_42_4) ?_
                    refine gz_tableIn (off := 83) (tgt := 125) dX1_acquire_42 (by decide) (by decide) rfl (by decide) ?_
                    refine gz_iload dX1_acquire_125 rfl ?_
                    refine gz_bipush (v := 6) dX1_acquire_127 (by decide) ?_
                    refine gz_icmp_ne (tgt := 153) dX1_acquire_129 (by decide) (fun c_129 => ?_) (fun c_129 => ?_)
                    ·
                      refine gz_aload dX1_acquire_153 rfl ?_
                      refine gz_iload_n dX1_acquire_155 rfl rfl ?_
                      refine gz_iload_n dX1_acquire_156 rfl rfl ?_
                      refine gz_aload_n dX1_acquire_157 rfl rfl ?_
                      refine sgX1_17 hco rfl dX1_acquire_158 ?_
                      have zk42_0 : (fldF n1 g s wd 0).toInt ≠ -1 := fun e => hw_42_0 (Int32.toInt_inj.mp (e.trans rfl))
                      have zk42_1 : (fldF n1 g s wd 0).toInt ≠ 0 := fun e => hw_42_1 (Int32.toInt_inj.mp (e.trans rfl))
                      have zk42_2 : (fldF n1 g s wd 0).toInt ≠ 1 := fun e => hw_42_2 (Int32.toInt_inj.mp (e.trans rfl))
                      have zk42_3 : (fldF n1 g s wd 0).toInt ≠ 2 := fun e => hw_42_3 (Int32.toInt_inj.mp (e.trans rfl))
                      have zk42_4 : (fldF n1 g s wd 0).toInt = 3 := by rw [hw_42_4]; rfl
                      have hk2 : 2 ≤ (grH T wN).1 := by omega
                      refine scX1_73 (k_X2_passed (w := wd) (x := fa) hp h1 h2 hsc hth hs hv) hp ⟨(by simp only [gRm]; omega), (by simp only [gRm]; omega)⟩ ⟨(by simp only [gRm]; omega), (by simp only [gRm]; omega)⟩ rfl rfl (Nat.le_of_ble_eq_true rfl) dX1_acquire_161 ?_
                      intro v9 f9 z9; rw [z9.1, z9.2]
                      refine gz_istore (lv' := [(7, .int (pasF n1 n2 g h s v t da wd fa)), (6, .int (fldF n1 g s wd 0)), (5, .ref p), (0, .ref co), (1, .ref lf), (2, .int wd), (3, .int fa), (4, .int wi)]) dX1_acquire_164 (by decide) rfl ?_
                      refine gz_aload_n dX1_acquire_166 rfl rfl ?_
                      refine gz_aload_n dX1_acquire_167 rfl rfl ?_
                      refine gz_aload dX1_acquire_168 rfl ?_
                      refine gz_iload_n dX1_acquire_170 rfl rfl ?_
                      refine gz_aload_n dX1_acquire_171 rfl rfl ?_
                      refine sgX1_17 hco rfl dX1_acquire_172 ?_
                      refine scX1_77 (k_X2_nextDeed (w := wd) hp h1 hsc hs) hp ⟨(by simp only [gRm]; omega), (by simp only [gRm]; omega)⟩ ⟨(by simp only [gRm]; omega), (by simp only [gRm]; omega)⟩ rfl rfl (Nat.le_of_ble_eq_true rfl) dX1_acquire_175 ?_
                      intro v9 f9 z9; rw [z9.1, z9.2]
                      refine gz_iload dX1_acquire_178 rfl ?_
                      refine gz_iload dX1_acquire_180 rfl ?_
                      refine gz_iconst (v := 1) dX1_acquire_182 (by decide) ?_
                      refine gz_iadd dX1_acquire_183 ?_
                      refine suX1_32 (ih (nxtF n1 g s da wd) (pasF n1 n2 g h s v t da wd fa) (wi + 1) en _ _ sz lo fs_ ga _ _ (nxT T S wN) (psT S (grH T wN) fN) Z _ hco hlf hso hfc hp h1 h2 hsc hth hlg hen hl hen2 ⟨nxt_S hs hSn hcT_ hwN.1 hwN.2 hk2, (nx_dp (S := S) hcT_ hwN.2 hk2).1.1⟩ ⟨pas_S hs hv hSn hcT_ hwN.1 hwN.2 hfN.1 hfN.2, psT_b hfN.2⟩ (by have e1 : (1 : Int32).toInt = 1 := rfl; have hx := T_add (rfl : wi.toInt = wi.toInt) e1 (by omega); have hd9 := (nx_dp (S := S) hcT_ hwN.2 hk2).1.2; omega) hZ (by have e13 : (13 : Int32).toInt = 13 := rfl; have e0 : (0 : Int32).toInt = 0 := rfl; have e2 : (2 : Int32).toInt = 2 := rfl; have e1 : (1 : Int32).toInt = 1 := rfl; have e6 : (6 : Int32).toInt = 6 := rfl; have em2 : (-2 : Int32).toInt = -2 := rfl; have e11 : (11 : Int32).toInt = 11 := rfl; simp only [fl_lt] at c_14; have hx := T_add (rfl : wi.toInt = wi.toInt) e1 (by omega); rw [hx]; omega)) hco ⟨(by simp only [gRm]; omega), (by simp only [gRm]; omega)⟩ ⟨(by simp only [gRm]; omega), (by simp only [gRm]; omega)⟩ rfl rfl (Nat.le_of_ble_eq_true rfl) dX1_acquire_184 ?_
                      rintro kk_7 nn_7 r_7 f7 ⟨e_7, m_7, g_7, s_7, l_7, z_7, a_7, x_7, y_7, rfl, hlg_7, he_7, hlf_7, hso_7, hfc_7, hl_7, hu_7, hc_7, hst_7, hr7⟩
                      refine gz_eq (st2 := []) rfl rfl rfl rfl ?_
                      have hco_7 : f7 co = some (.inr (1, [.ref lv, .ref sc, .ref lg, .int csz])) := hr7 _ _ hco (by simp only [List.mem_cons, List.not_mem_nil, or_false, not_or]; exact ⟨cne hco hlg (by simp), cne hco hen (by simp), cne hco hlf (by simp), cne hco hso (by simp), cne hco hfc (by simp)⟩)
                      have hp_7 : f7 p = some (.inr (2, [.ref c1, .ref c2, .int s, .int v])) := hr7 _ _ hp (by simp only [List.mem_cons, List.not_mem_nil, or_false, not_or]; exact ⟨cne hp hlg (by simp), cne hp hen (by simp), cne hp hlf (by simp), cne hp hso (by simp), cne hp hfc (by simp)⟩)
                      have h1_7 : f7 c1 = some (.inl (cy 0, n1, .inl (g))) := hr7 _ _ h1 (by simp only [List.mem_cons, List.not_mem_nil, or_false, not_or]; exact ⟨cne h1 hlg (by simp), Ne.symm (hen2.2.2.1), cne h1 hlf (by simp), Ne.symm (hne.2.1), Ne.symm (hne.2.2.2.2.1)⟩)
                      have h2_7 : f7 c2 = some (.inl (cy 0, n2, .inl (h))) := hr7 _ _ h2 (by simp only [List.mem_cons, List.not_mem_nil, or_false, not_or]; exact ⟨cne h2 hlg (by simp), Ne.symm (hen2.2.2.2.1), cne h2 hlf (by simp), Ne.symm (hne.2.2.1), Ne.symm (hne.2.2.2.2.2.1)⟩)
                      have hsc_7 : f7 sc = some (.inr (7, [.ref th, .int da])) := hr7 _ _ hsc (by simp only [List.mem_cons, List.not_mem_nil, or_false, not_or]; exact ⟨cne hsc hlg (by simp), cne hsc hen (by simp), cne hsc hlf (by simp), cne hsc hso (by simp), cne hsc hfc (by simp)⟩)
                      have hth_7 : f7 th = some (.inl (cy 0, 6, .inl (t))) := hr7 _ _ hth (by simp only [List.mem_cons, List.not_mem_nil, or_false, not_or]; exact ⟨cne hth hlg (by simp), Ne.symm (hen2.2.2.2.2), cne hth hlf (by simp), Ne.symm (hne.2.2.2.1), Ne.symm (hne.2.2.2.2.2.2)⟩)
                      refine gz_iload dX1_acquire_187 rfl ?_
                      refine gz_iconst (v := 3) dX1_acquire_189 (by decide) ?_
                      refine gz_icmp_ne (tgt := 211) dX1_acquire_190 (by decide) (fun c_190 => ?_) (fun c_190 => ?_)
                      ·
                        have hl0 : lpT T S wN = false := by rw [hlp] at c_27; exact b01.mp c_27
                        have hh6 : (grH T wN).1 = 6 → hldF n1 n2 g h s v t da wd = if hlB S (grH T wN) = true then 1 else 0 := fun z => hld_S hs hv hSn hwN.1 (by omega) (hG wN (by omega)).1 (hG wN (by omega)).2.1 (by omega)
                        have zk3 : (fldF n1 g s wd 0).toInt ≠ 3 := fun e => c_190 (Int32.toInt_inj.mp (e.trans rfl))
                        have zk6 : (fldF n1 g s wd 0).toInt ≠ 6 := fun e => c_129 (Int32.toInt_inj.mp (e.trans rfl))
                        have e9 := ev_n (S := S) (f := fN) hok hvT_ h4 hwN.2 hl0 ⟨by omega, by omega, by omega, by omega⟩ (fun z => by omega)
                        exact gz_vretU rfl dX1_acquire_211 (by omega) (by omega) (⟨_, _, _, _, _, _, _, _, _, rfl, hlg_7, he_7, hlf_7, hso_7, hfc_7, hl_7, ⟨by omega, by omega⟩, hc_7, (by rw [e9]; exact hst_7), (fr_tr fr_rf (fr_mo hr7 (by simp)))⟩)
                      ·
                        refine gz_aload_n dX1_acquire_193 rfl rfl ?_
                        refine gz_aload_n dX1_acquire_194 rfl rfl ?_
                        refine gz_aload dX1_acquire_195 rfl ?_
                        refine gz_iload_n dX1_acquire_197 rfl rfl ?_
                        refine gz_iconst (v := 4) dX1_acquire_198 (by decide) ?_
                        refine scX1_49 (k_X2_field (w := wd) (k := 4) hp_7 h1_7 hs) hp_7 ⟨(by simp only [gRm]; omega), (by simp only [gRm]; omega)⟩ ⟨(by simp only [gRm]; omega), (by simp only [gRm]; omega)⟩ rfl rfl (Nat.le_of_ble_eq_true rfl) dX1_acquire_199 ?_
                        intro v9 f9 z9; rw [z9.1, z9.2]
                        refine gz_iload dX1_acquire_202 rfl ?_
                        refine gz_iload dX1_acquire_204 rfl ?_
                        refine gz_iconst (v := 1) dX1_acquire_206 (by decide) ?_
                        refine gz_iadd dX1_acquire_207 ?_
                        have h35 : (grH T wN).1 = 3 := by have z9 := congrArg Int32.toInt c_190; have e3_ : (3 : Int32).toInt = 3 := rfl; omega
                        refine suX1_32 (ih (fldF n1 g s wd 4) (pasF n1 n2 g h s v t da wd fa) (wi + 1) e_7 _ _ s_7 l_7 z_7 a_7 _ _ (grS T wN) (psT S (grH T wN) fN) (apS nu.toInt S.1 ho1.toInt ho2.toInt (ev T S (nxT T S wN) (psT S (grH T wN) fN)) Z) _ hco_7 hlf_7 hso_7 hfc_7 hp_7 h1_7 h2_7 hsc_7 hth_7 hlg_7 he_7 hl_7 ⟨(enn hc_7 hso (hen2.1)), (enn hc_7 hfc (hen2.2.1)), (enn hc_7 h1 (hen2.2.2.1)), (enn hc_7 h2 (hen2.2.2.2.1)), (enn hc_7 hth (hen2.2.2.2.2))⟩ ⟨(fk_S hs hcT_ hwN.1 hwN.2).2.2.2.2.2 (by omega), ((nx_dp (S := S) hcT_ hwN.2 hk2).2 (by omega)).1⟩ ⟨pas_S hs hv hSn hcT_ hwN.1 hwN.2 hfN.1 hfN.2, psT_b hfN.2⟩ (by have e1 : (1 : Int32).toInt = 1 := rfl; have hx := T_add (rfl : wi.toInt = wi.toInt) e1 (by omega); have hd9 := ((nx_dp (S := S) hcT_ hwN.2 hk2).2 (by omega)).2; omega) hst_7 (by have e13 : (13 : Int32).toInt = 13 := rfl; have e0 : (0 : Int32).toInt = 0 := rfl; have e2 : (2 : Int32).toInt = 2 := rfl; have e1 : (1 : Int32).toInt = 1 := rfl; have e6 : (6 : Int32).toInt = 6 := rfl; have em2 : (-2 : Int32).toInt = -2 := rfl; have e11 : (11 : Int32).toInt = 11 := rfl; simp only [fl_lt] at c_14; have hx := T_add (rfl : wi.toInt = wi.toInt) e1 (by omega); rw [hx]; omega)) hco_7 ⟨(by simp only [gRm]; omega), (by simp only [gRm]; omega)⟩ ⟨(by simp only [gRm]; omega), (by simp only [gRm]; omega)⟩ rfl rfl (Nat.le_of_ble_eq_true rfl) dX1_acquire_208 ?_
                        rintro kk_8 nn_8 r_8 f8 ⟨e_8, m_8, g_8, s_8, l_8, z_8, a_8, x_8, y_8, rfl, hlg_8, he_8, hlf_8, hso_8, hfc_8, hl_8, hu_8, hc_8, hst_8, hr8⟩
                        refine gz_eq (st2 := []) rfl rfl rfl rfl ?_
                        have hco_8 : f8 co = some (.inr (1, [.ref lv, .ref sc, .ref lg, .int csz])) := hr8 _ _ hco_7 (by simp only [List.mem_cons, List.not_mem_nil, or_false, not_or]; exact ⟨cne hco_7 hlg_7 (by simp), cne hco_7 he_7 (by simp), cne hco_7 hlf_7 (by simp), cne hco_7 hso_7 (by simp), cne hco_7 hfc_7 (by simp)⟩)
                        have hp_8 : f8 p = some (.inr (2, [.ref c1, .ref c2, .int s, .int v])) := hr8 _ _ hp_7 (by simp only [List.mem_cons, List.not_mem_nil, or_false, not_or]; exact ⟨cne hp_7 hlg_7 (by simp), cne hp_7 he_7 (by simp), cne hp_7 hlf_7 (by simp), cne hp_7 hso_7 (by simp), cne hp_7 hfc_7 (by simp)⟩)
                        have h1_8 : f8 c1 = some (.inl (cy 0, n1, .inl (g))) := hr8 _ _ h1_7 (by simp only [List.mem_cons, List.not_mem_nil, or_false, not_or]; exact ⟨cne h1_7 hlg_7 (by simp), Ne.symm ((enn hc_7 h1 (hen2.2.2.1))), cne h1_7 hlf_7 (by simp), Ne.symm (hne.2.1), Ne.symm (hne.2.2.2.2.1)⟩)
                        have h2_8 : f8 c2 = some (.inl (cy 0, n2, .inl (h))) := hr8 _ _ h2_7 (by simp only [List.mem_cons, List.not_mem_nil, or_false, not_or]; exact ⟨cne h2_7 hlg_7 (by simp), Ne.symm ((enn hc_7 h2 (hen2.2.2.2.1))), cne h2_7 hlf_7 (by simp), Ne.symm (hne.2.2.1), Ne.symm (hne.2.2.2.2.2.1)⟩)
                        have hsc_8 : f8 sc = some (.inr (7, [.ref th, .int da])) := hr8 _ _ hsc_7 (by simp only [List.mem_cons, List.not_mem_nil, or_false, not_or]; exact ⟨cne hsc_7 hlg_7 (by simp), cne hsc_7 he_7 (by simp), cne hsc_7 hlf_7 (by simp), cne hsc_7 hso_7 (by simp), cne hsc_7 hfc_7 (by simp)⟩)
                        have hth_8 : f8 th = some (.inl (cy 0, 6, .inl (t))) := hr8 _ _ hth_7 (by simp only [List.mem_cons, List.not_mem_nil, or_false, not_or]; exact ⟨cne hth_7 hlg_7 (by simp), Ne.symm ((enn hc_7 hth (hen2.2.2.2.2))), cne hth_7 hlf_7 (by simp), Ne.symm (hne.2.2.2.1), Ne.symm (hne.2.2.2.2.2.2)⟩)
                        have hcc_8 : e_8 = en ∨ f e_8 = none := eny (S := [lg, en, lf, so, fc]) hc_7 hc_8 (fr_tr fr_rf (fr_mo hr7 (by simp))) (by intro z hz2; simp only [List.mem_cons, List.not_mem_nil, or_false] at hz2; rcases hz2 with rfl | rfl | rfl | rfl | rfl; exact Or.inr ⟨_, hlg_7⟩; exact Or.inl rfl; exact Or.inr ⟨_, hlf_7⟩; exact Or.inr ⟨_, hso_7⟩; exact Or.inr ⟨_, hfc_7⟩)
                        have hl0 : lpT T S wN = false := by rw [hlp] at c_27; exact b01.mp c_27
                        have e9 := ev_3 (S := S) (f := fN) hok hvT_ h4 hwN.2 hl0 h35
                        exact gz_vretU rfl dX1_acquire_211 (by omega) (by omega) (⟨_, _, _, _, _, _, _, _, _, rfl, hlg_8, he_8, hlf_8, hso_8, hfc_8, hl_8, ⟨by omega, by omega⟩, hcc_8, (by rw [e9, apS_app]; exact hst_8), (frx hc_7 (fr_tr fr_rf (fr_mo hr7 (by simp))) hr8)⟩)
                    ·
                      refine gz_aload dX1_acquire_132 rfl ?_
                      refine gz_iload_n dX1_acquire_134 rfl rfl ?_
                      refine gz_aload_n dX1_acquire_135 rfl rfl ?_
                      refine sgX1_17 hco rfl dX1_acquire_136 ?_
                      refine scX1_70 (k_X2_holds (w := wd) hp h1 h2 hsc hth hs hv) hp ⟨(by simp only [gRm]; omega), (by simp only [gRm]; omega)⟩ ⟨(by simp only [gRm]; omega), (by simp only [gRm]; omega)⟩ rfl rfl (Nat.le_of_ble_eq_true rfl) dX1_acquire_139 ?_
                      intro v9 f9 z9; rw [z9.1, z9.2]
                      refine gz_if_ne (tgt := 153) dX1_acquire_142 (by decide) (fun c_142 => ?_) (fun c_142 => ?_)
                      ·
                        refine gz_aload dX1_acquire_153 rfl ?_
                        refine gz_iload_n dX1_acquire_155 rfl rfl ?_
                        refine gz_iload_n dX1_acquire_156 rfl rfl ?_
                        refine gz_aload_n dX1_acquire_157 rfl rfl ?_
                        refine sgX1_17 hco rfl dX1_acquire_158 ?_
                        have zk42_0 : (fldF n1 g s wd 0).toInt ≠ -1 := fun e => hw_42_0 (Int32.toInt_inj.mp (e.trans rfl))
                        have zk42_1 : (fldF n1 g s wd 0).toInt ≠ 0 := fun e => hw_42_1 (Int32.toInt_inj.mp (e.trans rfl))
                        have zk42_2 : (fldF n1 g s wd 0).toInt ≠ 1 := fun e => hw_42_2 (Int32.toInt_inj.mp (e.trans rfl))
                        have zk42_3 : (fldF n1 g s wd 0).toInt ≠ 2 := fun e => hw_42_3 (Int32.toInt_inj.mp (e.trans rfl))
                        have zk42_4 : (fldF n1 g s wd 0).toInt = 3 := by rw [hw_42_4]; rfl
                        have hk2 : 2 ≤ (grH T wN).1 := by omega
                        refine scX1_73 (k_X2_passed (w := wd) (x := fa) hp h1 h2 hsc hth hs hv) hp ⟨(by simp only [gRm]; omega), (by simp only [gRm]; omega)⟩ ⟨(by simp only [gRm]; omega), (by simp only [gRm]; omega)⟩ rfl rfl (Nat.le_of_ble_eq_true rfl) dX1_acquire_161 ?_
                        intro v9 f9 z9; rw [z9.1, z9.2]
                        refine gz_istore (lv' := [(7, .int (pasF n1 n2 g h s v t da wd fa)), (6, .int (fldF n1 g s wd 0)), (5, .ref p), (0, .ref co), (1, .ref lf), (2, .int wd), (3, .int fa), (4, .int wi)]) dX1_acquire_164 (by decide) rfl ?_
                        refine gz_aload_n dX1_acquire_166 rfl rfl ?_
                        refine gz_aload_n dX1_acquire_167 rfl rfl ?_
                        refine gz_aload dX1_acquire_168 rfl ?_
                        refine gz_iload_n dX1_acquire_170 rfl rfl ?_
                        refine gz_aload_n dX1_acquire_171 rfl rfl ?_
                        refine sgX1_17 hco rfl dX1_acquire_172 ?_
                        refine scX1_77 (k_X2_nextDeed (w := wd) hp h1 hsc hs) hp ⟨(by simp only [gRm]; omega), (by simp only [gRm]; omega)⟩ ⟨(by simp only [gRm]; omega), (by simp only [gRm]; omega)⟩ rfl rfl (Nat.le_of_ble_eq_true rfl) dX1_acquire_175 ?_
                        intro v9 f9 z9; rw [z9.1, z9.2]
                        refine gz_iload dX1_acquire_178 rfl ?_
                        refine gz_iload dX1_acquire_180 rfl ?_
                        refine gz_iconst (v := 1) dX1_acquire_182 (by decide) ?_
                        refine gz_iadd dX1_acquire_183 ?_
                        refine suX1_32 (ih (nxtF n1 g s da wd) (pasF n1 n2 g h s v t da wd fa) (wi + 1) en _ _ sz lo fs_ ga _ _ (nxT T S wN) (psT S (grH T wN) fN) Z _ hco hlf hso hfc hp h1 h2 hsc hth hlg hen hl hen2 ⟨nxt_S hs hSn hcT_ hwN.1 hwN.2 hk2, (nx_dp (S := S) hcT_ hwN.2 hk2).1.1⟩ ⟨pas_S hs hv hSn hcT_ hwN.1 hwN.2 hfN.1 hfN.2, psT_b hfN.2⟩ (by have e1 : (1 : Int32).toInt = 1 := rfl; have hx := T_add (rfl : wi.toInt = wi.toInt) e1 (by omega); have hd9 := (nx_dp (S := S) hcT_ hwN.2 hk2).1.2; omega) hZ (by have e13 : (13 : Int32).toInt = 13 := rfl; have e0 : (0 : Int32).toInt = 0 := rfl; have e2 : (2 : Int32).toInt = 2 := rfl; have e1 : (1 : Int32).toInt = 1 := rfl; have e6 : (6 : Int32).toInt = 6 := rfl; have em2 : (-2 : Int32).toInt = -2 := rfl; have e11 : (11 : Int32).toInt = 11 := rfl; simp only [fl_lt] at c_14; have hx := T_add (rfl : wi.toInt = wi.toInt) e1 (by omega); rw [hx]; omega)) hco ⟨(by simp only [gRm]; omega), (by simp only [gRm]; omega)⟩ ⟨(by simp only [gRm]; omega), (by simp only [gRm]; omega)⟩ rfl rfl (Nat.le_of_ble_eq_true rfl) dX1_acquire_184 ?_
                        rintro kk_9 nn_9 r_9 f9 ⟨e_9, m_9, g_9, s_9, l_9, z_9, a_9, x_9, y_9, rfl, hlg_9, he_9, hlf_9, hso_9, hfc_9, hl_9, hu_9, hc_9, hst_9, hr9⟩
                        refine gz_eq (st2 := []) rfl rfl rfl rfl ?_
                        have hco_9 : f9 co = some (.inr (1, [.ref lv, .ref sc, .ref lg, .int csz])) := hr9 _ _ hco (by simp only [List.mem_cons, List.not_mem_nil, or_false, not_or]; exact ⟨cne hco hlg (by simp), cne hco hen (by simp), cne hco hlf (by simp), cne hco hso (by simp), cne hco hfc (by simp)⟩)
                        have hp_9 : f9 p = some (.inr (2, [.ref c1, .ref c2, .int s, .int v])) := hr9 _ _ hp (by simp only [List.mem_cons, List.not_mem_nil, or_false, not_or]; exact ⟨cne hp hlg (by simp), cne hp hen (by simp), cne hp hlf (by simp), cne hp hso (by simp), cne hp hfc (by simp)⟩)
                        have h1_9 : f9 c1 = some (.inl (cy 0, n1, .inl (g))) := hr9 _ _ h1 (by simp only [List.mem_cons, List.not_mem_nil, or_false, not_or]; exact ⟨cne h1 hlg (by simp), Ne.symm (hen2.2.2.1), cne h1 hlf (by simp), Ne.symm (hne.2.1), Ne.symm (hne.2.2.2.2.1)⟩)
                        have h2_9 : f9 c2 = some (.inl (cy 0, n2, .inl (h))) := hr9 _ _ h2 (by simp only [List.mem_cons, List.not_mem_nil, or_false, not_or]; exact ⟨cne h2 hlg (by simp), Ne.symm (hen2.2.2.2.1), cne h2 hlf (by simp), Ne.symm (hne.2.2.1), Ne.symm (hne.2.2.2.2.2.1)⟩)
                        have hsc_9 : f9 sc = some (.inr (7, [.ref th, .int da])) := hr9 _ _ hsc (by simp only [List.mem_cons, List.not_mem_nil, or_false, not_or]; exact ⟨cne hsc hlg (by simp), cne hsc hen (by simp), cne hsc hlf (by simp), cne hsc hso (by simp), cne hsc hfc (by simp)⟩)
                        have hth_9 : f9 th = some (.inl (cy 0, 6, .inl (t))) := hr9 _ _ hth (by simp only [List.mem_cons, List.not_mem_nil, or_false, not_or]; exact ⟨cne hth hlg (by simp), Ne.symm (hen2.2.2.2.2), cne hth hlf (by simp), Ne.symm (hne.2.2.2.1), Ne.symm (hne.2.2.2.2.2.2)⟩)
                        refine gz_iload dX1_acquire_187 rfl ?_
                        refine gz_iconst (v := 3) dX1_acquire_189 (by decide) ?_
                        refine gz_icmp_ne (tgt := 211) dX1_acquire_190 (by decide) (fun c_190 => ?_) (fun c_190 => ?_)
                        ·
                          have hl0 : lpT T S wN = false := by rw [hlp] at c_27; exact b01.mp c_27
                          have hh6 : (grH T wN).1 = 6 → hldF n1 n2 g h s v t da wd = if hlB S (grH T wN) = true then 1 else 0 := fun z => hld_S hs hv hSn hwN.1 (by omega) (hG wN (by omega)).1 (hG wN (by omega)).2.1 (by omega)
                          have zk3 : (fldF n1 g s wd 0).toInt ≠ 3 := fun e => c_190 (Int32.toInt_inj.mp (e.trans rfl))
                          have e9 := ev_n (S := S) (f := fN) hok hvT_ h4 hwN.2 hl0 ⟨by omega, by omega, by omega, by omega⟩ (fun z => by have q9 := hh6 z; rw [q9] at c_142; cases hb : hlB S (grH T wN); (exact absurd (b01.mpr hb) c_142); rfl)
                          exact gz_vretU rfl dX1_acquire_211 (by omega) (by omega) (⟨_, _, _, _, _, _, _, _, _, rfl, hlg_9, he_9, hlf_9, hso_9, hfc_9, hl_9, ⟨by omega, by omega⟩, hc_9, (by rw [e9]; exact hst_9), (fr_tr fr_rf (fr_mo hr9 (by simp)))⟩)
                        ·
                          refine gz_aload_n dX1_acquire_193 rfl rfl ?_
                          refine gz_aload_n dX1_acquire_194 rfl rfl ?_
                          refine gz_aload dX1_acquire_195 rfl ?_
                          refine gz_iload_n dX1_acquire_197 rfl rfl ?_
                          refine gz_iconst (v := 4) dX1_acquire_198 (by decide) ?_
                          refine scX1_49 (k_X2_field (w := wd) (k := 4) hp_9 h1_9 hs) hp_9 ⟨(by simp only [gRm]; omega), (by simp only [gRm]; omega)⟩ ⟨(by simp only [gRm]; omega), (by simp only [gRm]; omega)⟩ rfl rfl (Nat.le_of_ble_eq_true rfl) dX1_acquire_199 ?_
                          intro v9 f9 z9; rw [z9.1, z9.2]
                          refine gz_iload dX1_acquire_202 rfl ?_
                          refine gz_iload dX1_acquire_204 rfl ?_
                          refine gz_iconst (v := 1) dX1_acquire_206 (by decide) ?_
                          refine gz_iadd dX1_acquire_207 ?_
                          have h35 : (grH T wN).1 = 3 := by have z9 := congrArg Int32.toInt c_190; have e3_ : (3 : Int32).toInt = 3 := rfl; omega
                          refine suX1_32 (ih (fldF n1 g s wd 4) (pasF n1 n2 g h s v t da wd fa) (wi + 1) e_9 _ _ s_9 l_9 z_9 a_9 _ _ (grS T wN) (psT S (grH T wN) fN) (apS nu.toInt S.1 ho1.toInt ho2.toInt (ev T S (nxT T S wN) (psT S (grH T wN) fN)) Z) _ hco_9 hlf_9 hso_9 hfc_9 hp_9 h1_9 h2_9 hsc_9 hth_9 hlg_9 he_9 hl_9 ⟨(enn hc_9 hso (hen2.1)), (enn hc_9 hfc (hen2.2.1)), (enn hc_9 h1 (hen2.2.2.1)), (enn hc_9 h2 (hen2.2.2.2.1)), (enn hc_9 hth (hen2.2.2.2.2))⟩ ⟨(fk_S hs hcT_ hwN.1 hwN.2).2.2.2.2.2 (by omega), ((nx_dp (S := S) hcT_ hwN.2 hk2).2 (by omega)).1⟩ ⟨pas_S hs hv hSn hcT_ hwN.1 hwN.2 hfN.1 hfN.2, psT_b hfN.2⟩ (by have e1 : (1 : Int32).toInt = 1 := rfl; have hx := T_add (rfl : wi.toInt = wi.toInt) e1 (by omega); have hd9 := ((nx_dp (S := S) hcT_ hwN.2 hk2).2 (by omega)).2; omega) hst_9 (by have e13 : (13 : Int32).toInt = 13 := rfl; have e0 : (0 : Int32).toInt = 0 := rfl; have e2 : (2 : Int32).toInt = 2 := rfl; have e1 : (1 : Int32).toInt = 1 := rfl; have e6 : (6 : Int32).toInt = 6 := rfl; have em2 : (-2 : Int32).toInt = -2 := rfl; have e11 : (11 : Int32).toInt = 11 := rfl; simp only [fl_lt] at c_14; have hx := T_add (rfl : wi.toInt = wi.toInt) e1 (by omega); rw [hx]; omega)) hco_9 ⟨(by simp only [gRm]; omega), (by simp only [gRm]; omega)⟩ ⟨(by simp only [gRm]; omega), (by simp only [gRm]; omega)⟩ rfl rfl (Nat.le_of_ble_eq_true rfl) dX1_acquire_208 ?_
                          rintro kk_10 nn_10 r_10 f10 ⟨e_10, m_10, g_10, s_10, l_10, z_10, a_10, x_10, y_10, rfl, hlg_10, he_10, hlf_10, hso_10, hfc_10, hl_10, hu_10, hc_10, hst_10, hr10⟩
                          refine gz_eq (st2 := []) rfl rfl rfl rfl ?_
                          have hco_10 : f10 co = some (.inr (1, [.ref lv, .ref sc, .ref lg, .int csz])) := hr10 _ _ hco_9 (by simp only [List.mem_cons, List.not_mem_nil, or_false, not_or]; exact ⟨cne hco_9 hlg_9 (by simp), cne hco_9 he_9 (by simp), cne hco_9 hlf_9 (by simp), cne hco_9 hso_9 (by simp), cne hco_9 hfc_9 (by simp)⟩)
                          have hp_10 : f10 p = some (.inr (2, [.ref c1, .ref c2, .int s, .int v])) := hr10 _ _ hp_9 (by simp only [List.mem_cons, List.not_mem_nil, or_false, not_or]; exact ⟨cne hp_9 hlg_9 (by simp), cne hp_9 he_9 (by simp), cne hp_9 hlf_9 (by simp), cne hp_9 hso_9 (by simp), cne hp_9 hfc_9 (by simp)⟩)
                          have h1_10 : f10 c1 = some (.inl (cy 0, n1, .inl (g))) := hr10 _ _ h1_9 (by simp only [List.mem_cons, List.not_mem_nil, or_false, not_or]; exact ⟨cne h1_9 hlg_9 (by simp), Ne.symm ((enn hc_9 h1 (hen2.2.2.1))), cne h1_9 hlf_9 (by simp), Ne.symm (hne.2.1), Ne.symm (hne.2.2.2.2.1)⟩)
                          have h2_10 : f10 c2 = some (.inl (cy 0, n2, .inl (h))) := hr10 _ _ h2_9 (by simp only [List.mem_cons, List.not_mem_nil, or_false, not_or]; exact ⟨cne h2_9 hlg_9 (by simp), Ne.symm ((enn hc_9 h2 (hen2.2.2.2.1))), cne h2_9 hlf_9 (by simp), Ne.symm (hne.2.2.1), Ne.symm (hne.2.2.2.2.2.1)⟩)
                          have hsc_10 : f10 sc = some (.inr (7, [.ref th, .int da])) := hr10 _ _ hsc_9 (by simp only [List.mem_cons, List.not_mem_nil, or_false, not_or]; exact ⟨cne hsc_9 hlg_9 (by simp), cne hsc_9 he_9 (by simp), cne hsc_9 hlf_9 (by simp), cne hsc_9 hso_9 (by simp), cne hsc_9 hfc_9 (by simp)⟩)
                          have hth_10 : f10 th = some (.inl (cy 0, 6, .inl (t))) := hr10 _ _ hth_9 (by simp only [List.mem_cons, List.not_mem_nil, or_false, not_or]; exact ⟨cne hth_9 hlg_9 (by simp), Ne.symm ((enn hc_9 hth (hen2.2.2.2.2))), cne hth_9 hlf_9 (by simp), Ne.symm (hne.2.2.2.1), Ne.symm (hne.2.2.2.2.2.2)⟩)
                          have hcc_10 : e_10 = en ∨ f e_10 = none := eny (S := [lg, en, lf, so, fc]) hc_9 hc_10 (fr_tr fr_rf (fr_mo hr9 (by simp))) (by intro z hz2; simp only [List.mem_cons, List.not_mem_nil, or_false] at hz2; rcases hz2 with rfl | rfl | rfl | rfl | rfl; exact Or.inr ⟨_, hlg_9⟩; exact Or.inl rfl; exact Or.inr ⟨_, hlf_9⟩; exact Or.inr ⟨_, hso_9⟩; exact Or.inr ⟨_, hfc_9⟩)
                          have hl0 : lpT T S wN = false := by rw [hlp] at c_27; exact b01.mp c_27
                          have e9 := ev_3 (S := S) (f := fN) hok hvT_ h4 hwN.2 hl0 h35
                          exact gz_vretU rfl dX1_acquire_211 (by omega) (by omega) (⟨_, _, _, _, _, _, _, _, _, rfl, hlg_10, he_10, hlf_10, hso_10, hfc_10, hl_10, ⟨by omega, by omega⟩, hcc_10, (by rw [e9, apS_app]; exact hst_10), (frx hc_9 (fr_tr fr_rf (fr_mo hr9 (by simp))) hr10)⟩)
                      ·
                        refine gz_aload_n dX1_acquire_145 rfl rfl ?_
                        refine gz_aload_n dX1_acquire_146 rfl rfl ?_
                        refine gz_iload_n dX1_acquire_147 rfl rfl ?_
                        refine gz_iload_n dX1_acquire_148 rfl rfl ?_
                        refine scX1_66 (k_X1_keepE (wd := wd) (fa := fa) (d_ := S.1) hco hlg hlf hso hfc hne.1 hZ hwN.1 hfN.1) hco ⟨(by simp only [gRm]; omega), (by simp only [gRm]; omega)⟩ ⟨(by simp only [gRm]; omega), (by simp only [gRm]; omega)⟩ rfl rfl (Nat.le_of_ble_eq_true rfl) dX1_acquire_149 ?_
                        rintro f11 ⟨l_11, z_11, x_11, y_11, hlg_11, hlf_11, hso_11, hfc_11, hst_11, hr11⟩
                        have hco_11 : f11 co = some (.inr (1, [.ref lv, .ref sc, .ref lg, .int csz])) := hr11 _ _ hco (by simp only [List.mem_cons, List.not_mem_nil, or_false, not_or]; exact ⟨cne hco hlg (by simp), cne hco hlf (by simp), cne hco hso (by simp), cne hco hfc (by simp)⟩)
                        have hp_11 : f11 p = some (.inr (2, [.ref c1, .ref c2, .int s, .int v])) := hr11 _ _ hp (by simp only [List.mem_cons, List.not_mem_nil, or_false, not_or]; exact ⟨cne hp hlg (by simp), cne hp hlf (by simp), cne hp hso (by simp), cne hp hfc (by simp)⟩)
                        have h1_11 : f11 c1 = some (.inl (cy 0, n1, .inl (g))) := hr11 _ _ h1 (by simp only [List.mem_cons, List.not_mem_nil, or_false, not_or]; exact ⟨cne h1 hlg (by simp), cne h1 hlf (by simp), Ne.symm (hne.2.1), Ne.symm (hne.2.2.2.2.1)⟩)
                        have h2_11 : f11 c2 = some (.inl (cy 0, n2, .inl (h))) := hr11 _ _ h2 (by simp only [List.mem_cons, List.not_mem_nil, or_false, not_or]; exact ⟨cne h2 hlg (by simp), cne h2 hlf (by simp), Ne.symm (hne.2.2.1), Ne.symm (hne.2.2.2.2.2.1)⟩)
                        have hsc_11 : f11 sc = some (.inr (7, [.ref th, .int da])) := hr11 _ _ hsc (by simp only [List.mem_cons, List.not_mem_nil, or_false, not_or]; exact ⟨cne hsc hlg (by simp), cne hsc hlf (by simp), cne hsc hso (by simp), cne hsc hfc (by simp)⟩)
                        have hth_11 : f11 th = some (.inl (cy 0, 6, .inl (t))) := hr11 _ _ hth (by simp only [List.mem_cons, List.not_mem_nil, or_false, not_or]; exact ⟨cne hth hlg (by simp), cne hth hlf (by simp), Ne.symm (hne.2.2.2.1), Ne.symm (hne.2.2.2.2.2.2)⟩)
                        have hen_11 : f11 en = some (.inl (cy 0, ne, .inl (eg))) := hr11 _ _ hen (by simp only [List.mem_cons, List.not_mem_nil, or_false, not_or]; exact ⟨cne hen hlg (by simp), cne hen hlf (by simp), hen2.1, hen2.2.1⟩)
                        have hl0 : lpT T S wN = false := by rw [hlp] at c_27; exact b01.mp c_27
                        have zk42_0 : (fldF n1 g s wd 0).toInt ≠ -1 := fun e => hw_42_0 (Int32.toInt_inj.mp (e.trans rfl))
                        have zk42_1 : (fldF n1 g s wd 0).toInt ≠ 0 := fun e => hw_42_1 (Int32.toInt_inj.mp (e.trans rfl))
                        have zk42_2 : (fldF n1 g s wd 0).toInt ≠ 1 := fun e => hw_42_2 (Int32.toInt_inj.mp (e.trans rfl))
                        have zk42_3 : (fldF n1 g s wd 0).toInt ≠ 2 := fun e => hw_42_3 (Int32.toInt_inj.mp (e.trans rfl))
                        have zk42_4 : (fldF n1 g s wd 0).toInt = 3 := by rw [hw_42_4]; rfl
                        have hh6 : (grH T wN).1 = 6 → hldF n1 n2 g h s v t da wd = if hlB S (grH T wN) = true then 1 else 0 := fun z => hld_S hs hv hSn hwN.1 (by omega) (hG wN (by omega)).1 (hG wN (by omega)).2.1 (by omega)
                        have zk6 : (fldF n1 g s wd 0).toInt = 6 := by rw [c_129]; rfl
                        have e9 := ev_4 (S := S) (f := fN) hok hvT_ h4 hwN.2 hl0 (Or.inr (Or.inr ⟨by omega, by have q9 := hh6 (by omega); rw [q9] at c_142; exact b01.mp c_142⟩))
                        exact gz_vretU rfl dX1_acquire_152 (by omega) (by omega) (⟨_, _, _, _, _, _, _, _, _, rfl, hlg_11, hen_11, hlf_11, hso_11, hfc_11, hl, ⟨by omega, by omega⟩, (Or.inl rfl), (by rw [e9]; exact hst_11), (fr_tr fr_rf (fr_mo hr11 (by simp)))⟩)
                  ·
                    by_cases hw_42_5 : (fldF n1 g s wd 0) = 4
                    ·
                      refine gz_ev (w := .int 4) (congrArg Value.int hw_42_5) ?_
                      refine gz_tableIn (off := 75) (tgt := 117) dX1_acquire_42 (by decide) (by decide) rfl (by decide) ?_
                      refine gz_aload_n dX1_acquire_117 rfl rfl ?_
                      refine gz_aload_n dX1_acquire_118 rfl rfl ?_
                      refine gz_iload_n dX1_acquire_119 rfl rfl ?_
                      refine gz_iload_n dX1_acquire_120 rfl rfl ?_
                      refine scX1_66 (k_X1_keepE (wd := wd) (fa := fa) (d_ := S.1) hco hlg hlf hso hfc hne.1 hZ hwN.1 hfN.1) hco ⟨(by simp only [gRm]; omega), (by simp only [gRm]; omega)⟩ ⟨(by simp only [gRm]; omega), (by simp only [gRm]; omega)⟩ rfl rfl (Nat.le_of_ble_eq_true rfl) dX1_acquire_121 ?_
                      rintro f12 ⟨l_12, z_12, x_12, y_12, hlg_12, hlf_12, hso_12, hfc_12, hst_12, hr12⟩
                      have hco_12 : f12 co = some (.inr (1, [.ref lv, .ref sc, .ref lg, .int csz])) := hr12 _ _ hco (by simp only [List.mem_cons, List.not_mem_nil, or_false, not_or]; exact ⟨cne hco hlg (by simp), cne hco hlf (by simp), cne hco hso (by simp), cne hco hfc (by simp)⟩)
                      have hp_12 : f12 p = some (.inr (2, [.ref c1, .ref c2, .int s, .int v])) := hr12 _ _ hp (by simp only [List.mem_cons, List.not_mem_nil, or_false, not_or]; exact ⟨cne hp hlg (by simp), cne hp hlf (by simp), cne hp hso (by simp), cne hp hfc (by simp)⟩)
                      have h1_12 : f12 c1 = some (.inl (cy 0, n1, .inl (g))) := hr12 _ _ h1 (by simp only [List.mem_cons, List.not_mem_nil, or_false, not_or]; exact ⟨cne h1 hlg (by simp), cne h1 hlf (by simp), Ne.symm (hne.2.1), Ne.symm (hne.2.2.2.2.1)⟩)
                      have h2_12 : f12 c2 = some (.inl (cy 0, n2, .inl (h))) := hr12 _ _ h2 (by simp only [List.mem_cons, List.not_mem_nil, or_false, not_or]; exact ⟨cne h2 hlg (by simp), cne h2 hlf (by simp), Ne.symm (hne.2.2.1), Ne.symm (hne.2.2.2.2.2.1)⟩)
                      have hsc_12 : f12 sc = some (.inr (7, [.ref th, .int da])) := hr12 _ _ hsc (by simp only [List.mem_cons, List.not_mem_nil, or_false, not_or]; exact ⟨cne hsc hlg (by simp), cne hsc hlf (by simp), cne hsc hso (by simp), cne hsc hfc (by simp)⟩)
                      have hth_12 : f12 th = some (.inl (cy 0, 6, .inl (t))) := hr12 _ _ hth (by simp only [List.mem_cons, List.not_mem_nil, or_false, not_or]; exact ⟨cne hth hlg (by simp), cne hth hlf (by simp), Ne.symm (hne.2.2.2.1), Ne.symm (hne.2.2.2.2.2.2)⟩)
                      have hen_12 : f12 en = some (.inl (cy 0, ne, .inl (eg))) := hr12 _ _ hen (by simp only [List.mem_cons, List.not_mem_nil, or_false, not_or]; exact ⟨cne hen hlg (by simp), cne hen hlf (by simp), hen2.1, hen2.2.1⟩)
                      have hl0 : lpT T S wN = false := by rw [hlp] at c_27; exact b01.mp c_27
                      have zk42_0 : (fldF n1 g s wd 0).toInt ≠ -1 := fun e => hw_42_0 (Int32.toInt_inj.mp (e.trans rfl))
                      have zk42_1 : (fldF n1 g s wd 0).toInt ≠ 0 := fun e => hw_42_1 (Int32.toInt_inj.mp (e.trans rfl))
                      have zk42_2 : (fldF n1 g s wd 0).toInt ≠ 1 := fun e => hw_42_2 (Int32.toInt_inj.mp (e.trans rfl))
                      have zk42_3 : (fldF n1 g s wd 0).toInt ≠ 2 := fun e => hw_42_3 (Int32.toInt_inj.mp (e.trans rfl))
                      have zk42_4 : (fldF n1 g s wd 0).toInt ≠ 3 := fun e => hw_42_4 (Int32.toInt_inj.mp (e.trans rfl))
                      have zk42_5 : (fldF n1 g s wd 0).toInt = 4 := by rw [hw_42_5]; rfl
                      have e9 := ev_4 (S := S) (f := fN) hok hvT_ h4 hwN.2 hl0 (by omega)
                      exact gz_vretU rfl dX1_acquire_124 (by omega) (by omega) (⟨_, _, _, _, _, _, _, _, _, rfl, hlg_12, hen_12, hlf_12, hso_12, hfc_12, hl, ⟨by omega, by omega⟩, (Or.inl rfl), (by rw [e9]; exact hst_12), (fr_tr fr_rf (fr_mo hr12 (by simp)))⟩)
                    ·
                      by_cases hw_42_6 : (fldF n1 g s wd 0) = 5
                      ·
                        refine gz_ev (w := .int 5) (congrArg Value.int hw_42_6) ?_
                        refine gz_tableIn (off := 83) (tgt := 125) dX1_acquire_42 (by decide) (by decide) rfl (by decide) ?_
                        refine gz_iload dX1_acquire_125 rfl ?_
                        refine gz_bipush (v := 6) dX1_acquire_127 (by decide) ?_
                        refine gz_icmp_ne (tgt := 153) dX1_acquire_129 (by decide) (fun c_129 => ?_) (fun c_129 => ?_)
                        ·
                          refine gz_aload dX1_acquire_153 rfl ?_
                          refine gz_iload_n dX1_acquire_155 rfl rfl ?_
                          refine gz_iload_n dX1_acquire_156 rfl rfl ?_
                          refine gz_aload_n dX1_acquire_157 rfl rfl ?_
                          refine sgX1_17 hco rfl dX1_acquire_158 ?_
                          have zk42_0 : (fldF n1 g s wd 0).toInt ≠ -1 := fun e => hw_42_0 (Int32.toInt_inj.mp (e.trans rfl))
                          have zk42_1 : (fldF n1 g s wd 0).toInt ≠ 0 := fun e => hw_42_1 (Int32.toInt_inj.mp (e.trans rfl))
                          have zk42_2 : (fldF n1 g s wd 0).toInt ≠ 1 := fun e => hw_42_2 (Int32.toInt_inj.mp (e.trans rfl))
                          have zk42_3 : (fldF n1 g s wd 0).toInt ≠ 2 := fun e => hw_42_3 (Int32.toInt_inj.mp (e.trans rfl))
                          have zk42_4 : (fldF n1 g s wd 0).toInt ≠ 3 := fun e => hw_42_4 (Int32.toInt_inj.mp (e.trans rfl))
                          have zk42_5 : (fldF n1 g s wd 0).toInt ≠ 4 := fun e => hw_42_5 (Int32.toInt_inj.mp (e.trans rfl))
                          have zk42_6 : (fldF n1 g s wd 0).toInt = 5 := by rw [hw_42_6]; rfl
                          have hk2 : 2 ≤ (grH T wN).1 := by omega
                          refine scX1_73 (k_X2_passed (w := wd) (x := fa) hp h1 h2 hsc hth hs hv) hp ⟨(by simp only [gRm]; omega), (by simp only [gRm]; omega)⟩ ⟨(by simp only [gRm]; omega), (by simp only [gRm]; omega)⟩ rfl rfl (Nat.le_of_ble_eq_true rfl) dX1_acquire_161 ?_
                          intro v9 f9 z9; rw [z9.1, z9.2]
                          refine gz_istore (lv' := [(7, .int (pasF n1 n2 g h s v t da wd fa)), (6, .int (fldF n1 g s wd 0)), (5, .ref p), (0, .ref co), (1, .ref lf), (2, .int wd), (3, .int fa), (4, .int wi)]) dX1_acquire_164 (by decide) rfl ?_
                          refine gz_aload_n dX1_acquire_166 rfl rfl ?_
                          refine gz_aload_n dX1_acquire_167 rfl rfl ?_
                          refine gz_aload dX1_acquire_168 rfl ?_
                          refine gz_iload_n dX1_acquire_170 rfl rfl ?_
                          refine gz_aload_n dX1_acquire_171 rfl rfl ?_
                          refine sgX1_17 hco rfl dX1_acquire_172 ?_
                          refine scX1_77 (k_X2_nextDeed (w := wd) hp h1 hsc hs) hp ⟨(by simp only [gRm]; omega), (by simp only [gRm]; omega)⟩ ⟨(by simp only [gRm]; omega), (by simp only [gRm]; omega)⟩ rfl rfl (Nat.le_of_ble_eq_true rfl) dX1_acquire_175 ?_
                          intro v9 f9 z9; rw [z9.1, z9.2]
                          refine gz_iload dX1_acquire_178 rfl ?_
                          refine gz_iload dX1_acquire_180 rfl ?_
                          refine gz_iconst (v := 1) dX1_acquire_182 (by decide) ?_
                          refine gz_iadd dX1_acquire_183 ?_
                          refine suX1_32 (ih (nxtF n1 g s da wd) (pasF n1 n2 g h s v t da wd fa) (wi + 1) en _ _ sz lo fs_ ga _ _ (nxT T S wN) (psT S (grH T wN) fN) Z _ hco hlf hso hfc hp h1 h2 hsc hth hlg hen hl hen2 ⟨nxt_S hs hSn hcT_ hwN.1 hwN.2 hk2, (nx_dp (S := S) hcT_ hwN.2 hk2).1.1⟩ ⟨pas_S hs hv hSn hcT_ hwN.1 hwN.2 hfN.1 hfN.2, psT_b hfN.2⟩ (by have e1 : (1 : Int32).toInt = 1 := rfl; have hx := T_add (rfl : wi.toInt = wi.toInt) e1 (by omega); have hd9 := (nx_dp (S := S) hcT_ hwN.2 hk2).1.2; omega) hZ (by have e13 : (13 : Int32).toInt = 13 := rfl; have e0 : (0 : Int32).toInt = 0 := rfl; have e2 : (2 : Int32).toInt = 2 := rfl; have e1 : (1 : Int32).toInt = 1 := rfl; have e6 : (6 : Int32).toInt = 6 := rfl; have em2 : (-2 : Int32).toInt = -2 := rfl; have e11 : (11 : Int32).toInt = 11 := rfl; simp only [fl_lt] at c_14; have hx := T_add (rfl : wi.toInt = wi.toInt) e1 (by omega); rw [hx]; omega)) hco ⟨(by simp only [gRm]; omega), (by simp only [gRm]; omega)⟩ ⟨(by simp only [gRm]; omega), (by simp only [gRm]; omega)⟩ rfl rfl (Nat.le_of_ble_eq_true rfl) dX1_acquire_184 ?_
                          rintro kk_13 nn_13 r_13 f13 ⟨e_13, m_13, g_13, s_13, l_13, z_13, a_13, x_13, y_13, rfl, hlg_13, he_13, hlf_13, hso_13, hfc_13, hl_13, hu_13, hc_13, hst_13, hr13⟩
                          refine gz_eq (st2 := []) rfl rfl rfl rfl ?_
                          have hco_13 : f13 co = some (.inr (1, [.ref lv, .ref sc, .ref lg, .int csz])) := hr13 _ _ hco (by simp only [List.mem_cons, List.not_mem_nil, or_false, not_or]; exact ⟨cne hco hlg (by simp), cne hco hen (by simp), cne hco hlf (by simp), cne hco hso (by simp), cne hco hfc (by simp)⟩)
                          have hp_13 : f13 p = some (.inr (2, [.ref c1, .ref c2, .int s, .int v])) := hr13 _ _ hp (by simp only [List.mem_cons, List.not_mem_nil, or_false, not_or]; exact ⟨cne hp hlg (by simp), cne hp hen (by simp), cne hp hlf (by simp), cne hp hso (by simp), cne hp hfc (by simp)⟩)
                          have h1_13 : f13 c1 = some (.inl (cy 0, n1, .inl (g))) := hr13 _ _ h1 (by simp only [List.mem_cons, List.not_mem_nil, or_false, not_or]; exact ⟨cne h1 hlg (by simp), Ne.symm (hen2.2.2.1), cne h1 hlf (by simp), Ne.symm (hne.2.1), Ne.symm (hne.2.2.2.2.1)⟩)
                          have h2_13 : f13 c2 = some (.inl (cy 0, n2, .inl (h))) := hr13 _ _ h2 (by simp only [List.mem_cons, List.not_mem_nil, or_false, not_or]; exact ⟨cne h2 hlg (by simp), Ne.symm (hen2.2.2.2.1), cne h2 hlf (by simp), Ne.symm (hne.2.2.1), Ne.symm (hne.2.2.2.2.2.1)⟩)
                          have hsc_13 : f13 sc = some (.inr (7, [.ref th, .int da])) := hr13 _ _ hsc (by simp only [List.mem_cons, List.not_mem_nil, or_false, not_or]; exact ⟨cne hsc hlg (by simp), cne hsc hen (by simp), cne hsc hlf (by simp), cne hsc hso (by simp), cne hsc hfc (by simp)⟩)
                          have hth_13 : f13 th = some (.inl (cy 0, 6, .inl (t))) := hr13 _ _ hth (by simp only [List.mem_cons, List.not_mem_nil, or_false, not_or]; exact ⟨cne hth hlg (by simp), Ne.symm (hen2.2.2.2.2), cne hth hlf (by simp), Ne.symm (hne.2.2.2.1), Ne.symm (hne.2.2.2.2.2.2)⟩)
                          refine gz_iload dX1_acquire_187 rfl ?_
                          refine gz_iconst (v := 3) dX1_acquire_189 (by decide) ?_
                          refine gz_icmp_ne (tgt := 211) dX1_acquire_190 (by decide) (fun c_190 => ?_) (fun c_190 => ?_)
                          ·
                            have hl0 : lpT T S wN = false := by rw [hlp] at c_27; exact b01.mp c_27
                            have hh6 : (grH T wN).1 = 6 → hldF n1 n2 g h s v t da wd = if hlB S (grH T wN) = true then 1 else 0 := fun z => hld_S hs hv hSn hwN.1 (by omega) (hG wN (by omega)).1 (hG wN (by omega)).2.1 (by omega)
                            have zk3 : (fldF n1 g s wd 0).toInt ≠ 3 := fun e => c_190 (Int32.toInt_inj.mp (e.trans rfl))
                            have zk6 : (fldF n1 g s wd 0).toInt ≠ 6 := fun e => c_129 (Int32.toInt_inj.mp (e.trans rfl))
                            have e9 := ev_n (S := S) (f := fN) hok hvT_ h4 hwN.2 hl0 ⟨by omega, by omega, by omega, by omega⟩ (fun z => by omega)
                            exact gz_vretU rfl dX1_acquire_211 (by omega) (by omega) (⟨_, _, _, _, _, _, _, _, _, rfl, hlg_13, he_13, hlf_13, hso_13, hfc_13, hl_13, ⟨by omega, by omega⟩, hc_13, (by rw [e9]; exact hst_13), (fr_tr fr_rf (fr_mo hr13 (by simp)))⟩)
                          ·
                            refine gz_aload_n dX1_acquire_193 rfl rfl ?_
                            refine gz_aload_n dX1_acquire_194 rfl rfl ?_
                            refine gz_aload dX1_acquire_195 rfl ?_
                            refine gz_iload_n dX1_acquire_197 rfl rfl ?_
                            refine gz_iconst (v := 4) dX1_acquire_198 (by decide) ?_
                            refine scX1_49 (k_X2_field (w := wd) (k := 4) hp_13 h1_13 hs) hp_13 ⟨(by simp only [gRm]; omega), (by simp only [gRm]; omega)⟩ ⟨(by simp only [gRm]; omega), (by simp only [gRm]; omega)⟩ rfl rfl (Nat.le_of_ble_eq_true rfl) dX1_acquire_199 ?_
                            intro v9 f9 z9; rw [z9.1, z9.2]
                            refine gz_iload dX1_acquire_202 rfl ?_
                            refine gz_iload dX1_acquire_204 rfl ?_
                            refine gz_iconst (v := 1) dX1_acquire_206 (by decide) ?_
                            refine gz_iadd dX1_acquire_207 ?_
                            have h35 : (grH T wN).1 = 3 := by have z9 := congrArg Int32.toInt c_190; have e3_ : (3 : Int32).toInt = 3 := rfl; omega
                            refine suX1_32 (ih (fldF n1 g s wd 4) (pasF n1 n2 g h s v t da wd fa) (wi + 1) e_13 _ _ s_13 l_13 z_13 a_13 _ _ (grS T wN) (psT S (grH T wN) fN) (apS nu.toInt S.1 ho1.toInt ho2.toInt (ev T S (nxT T S wN) (psT S (grH T wN) fN)) Z) _ hco_13 hlf_13 hso_13 hfc_13 hp_13 h1_13 h2_13 hsc_13 hth_13 hlg_13 he_13 hl_13 ⟨(enn hc_13 hso (hen2.1)), (enn hc_13 hfc (hen2.2.1)), (enn hc_13 h1 (hen2.2.2.1)), (enn hc_13 h2 (hen2.2.2.2.1)), (enn hc_13 hth (hen2.2.2.2.2))⟩ ⟨(fk_S hs hcT_ hwN.1 hwN.2).2.2.2.2.2 (by omega), ((nx_dp (S := S) hcT_ hwN.2 hk2).2 (by omega)).1⟩ ⟨pas_S hs hv hSn hcT_ hwN.1 hwN.2 hfN.1 hfN.2, psT_b hfN.2⟩ (by have e1 : (1 : Int32).toInt = 1 := rfl; have hx := T_add (rfl : wi.toInt = wi.toInt) e1 (by omega); have hd9 := ((nx_dp (S := S) hcT_ hwN.2 hk2).2 (by omega)).2; omega) hst_13 (by have e13 : (13 : Int32).toInt = 13 := rfl; have e0 : (0 : Int32).toInt = 0 := rfl; have e2 : (2 : Int32).toInt = 2 := rfl; have e1 : (1 : Int32).toInt = 1 := rfl; have e6 : (6 : Int32).toInt = 6 := rfl; have em2 : (-2 : Int32).toInt = -2 := rfl; have e11 : (11 : Int32).toInt = 11 := rfl; simp only [fl_lt] at c_14; have hx := T_add (rfl : wi.toInt = wi.toInt) e1 (by omega); rw [hx]; omega)) hco_13 ⟨(by simp only [gRm]; omega), (by simp only [gRm]; omega)⟩ ⟨(by simp only [gRm]; omega), (by simp only [gRm]; omega)⟩ rfl rfl (Nat.le_of_ble_eq_true rfl) dX1_acquire_208 ?_
                            rintro kk_14 nn_14 r_14 f14 ⟨e_14, m_14, g_14, s_14, l_14, z_14, a_14, x_14, y_14, rfl, hlg_14, he_14, hlf_14, hso_14, hfc_14, hl_14, hu_14, hc_14, hst_14, hr14⟩
                            refine gz_eq (st2 := []) rfl rfl rfl rfl ?_
                            have hco_14 : f14 co = some (.inr (1, [.ref lv, .ref sc, .ref lg, .int csz])) := hr14 _ _ hco_13 (by simp only [List.mem_cons, List.not_mem_nil, or_false, not_or]; exact ⟨cne hco_13 hlg_13 (by simp), cne hco_13 he_13 (by simp), cne hco_13 hlf_13 (by simp), cne hco_13 hso_13 (by simp), cne hco_13 hfc_13 (by simp)⟩)
                            have hp_14 : f14 p = some (.inr (2, [.ref c1, .ref c2, .int s, .int v])) := hr14 _ _ hp_13 (by simp only [List.mem_cons, List.not_mem_nil, or_false, not_or]; exact ⟨cne hp_13 hlg_13 (by simp), cne hp_13 he_13 (by simp), cne hp_13 hlf_13 (by simp), cne hp_13 hso_13 (by simp), cne hp_13 hfc_13 (by simp)⟩)
                            have h1_14 : f14 c1 = some (.inl (cy 0, n1, .inl (g))) := hr14 _ _ h1_13 (by simp only [List.mem_cons, List.not_mem_nil, or_false, not_or]; exact ⟨cne h1_13 hlg_13 (by simp), Ne.symm ((enn hc_13 h1 (hen2.2.2.1))), cne h1_13 hlf_13 (by simp), Ne.symm (hne.2.1), Ne.symm (hne.2.2.2.2.1)⟩)
                            have h2_14 : f14 c2 = some (.inl (cy 0, n2, .inl (h))) := hr14 _ _ h2_13 (by simp only [List.mem_cons, List.not_mem_nil, or_false, not_or]; exact ⟨cne h2_13 hlg_13 (by simp), Ne.symm ((enn hc_13 h2 (hen2.2.2.2.1))), cne h2_13 hlf_13 (by simp), Ne.symm (hne.2.2.1), Ne.symm (hne.2.2.2.2.2.1)⟩)
                            have hsc_14 : f14 sc = some (.inr (7, [.ref th, .int da])) := hr14 _ _ hsc_13 (by simp only [List.mem_cons, List.not_mem_nil, or_false, not_or]; exact ⟨cne hsc_13 hlg_13 (by simp), cne hsc_13 he_13 (by simp), cne hsc_13 hlf_13 (by simp), cne hsc_13 hso_13 (by simp), cne hsc_13 hfc_13 (by simp)⟩)
                            have hth_14 : f14 th = some (.inl (cy 0, 6, .inl (t))) := hr14 _ _ hth_13 (by simp only [List.mem_cons, List.not_mem_nil, or_false, not_or]; exact ⟨cne hth_13 hlg_13 (by simp), Ne.symm ((enn hc_13 hth (hen2.2.2.2.2))), cne hth_13 hlf_13 (by simp), Ne.symm (hne.2.2.2.1), Ne.symm (hne.2.2.2.2.2.2)⟩)
                            have hcc_14 : e_14 = en ∨ f e_14 = none := eny (S := [lg, en, lf, so, fc]) hc_13 hc_14 (fr_tr fr_rf (fr_mo hr13 (by simp))) (by intro z hz2; simp only [List.mem_cons, List.not_mem_nil, or_false] at hz2; rcases hz2 with rfl | rfl | rfl | rfl | rfl; exact Or.inr ⟨_, hlg_13⟩; exact Or.inl rfl; exact Or.inr ⟨_, hlf_13⟩; exact Or.inr ⟨_, hso_13⟩; exact Or.inr ⟨_, hfc_13⟩)
                            have hl0 : lpT T S wN = false := by rw [hlp] at c_27; exact b01.mp c_27
                            have e9 := ev_3 (S := S) (f := fN) hok hvT_ h4 hwN.2 hl0 h35
                            exact gz_vretU rfl dX1_acquire_211 (by omega) (by omega) (⟨_, _, _, _, _, _, _, _, _, rfl, hlg_14, he_14, hlf_14, hso_14, hfc_14, hl_14, ⟨by omega, by omega⟩, hcc_14, (by rw [e9, apS_app]; exact hst_14), (frx hc_13 (fr_tr fr_rf (fr_mo hr13 (by simp))) hr14)⟩)
                        ·
                          refine gz_aload dX1_acquire_132 rfl ?_
                          refine gz_iload_n dX1_acquire_134 rfl rfl ?_
                          refine gz_aload_n dX1_acquire_135 rfl rfl ?_
                          refine sgX1_17 hco rfl dX1_acquire_136 ?_
                          refine scX1_70 (k_X2_holds (w := wd) hp h1 h2 hsc hth hs hv) hp ⟨(by simp only [gRm]; omega), (by simp only [gRm]; omega)⟩ ⟨(by simp only [gRm]; omega), (by simp only [gRm]; omega)⟩ rfl rfl (Nat.le_of_ble_eq_true rfl) dX1_acquire_139 ?_
                          intro v9 f9 z9; rw [z9.1, z9.2]
                          refine gz_if_ne (tgt := 153) dX1_acquire_142 (by decide) (fun c_142 => ?_) (fun c_142 => ?_)
                          ·
                            refine gz_aload dX1_acquire_153 rfl ?_
                            refine gz_iload_n dX1_acquire_155 rfl rfl ?_
                            refine gz_iload_n dX1_acquire_156 rfl rfl ?_
                            refine gz_aload_n dX1_acquire_157 rfl rfl ?_
                            refine sgX1_17 hco rfl dX1_acquire_158 ?_
                            have zk42_0 : (fldF n1 g s wd 0).toInt ≠ -1 := fun e => hw_42_0 (Int32.toInt_inj.mp (e.trans rfl))
                            have zk42_1 : (fldF n1 g s wd 0).toInt ≠ 0 := fun e => hw_42_1 (Int32.toInt_inj.mp (e.trans rfl))
                            have zk42_2 : (fldF n1 g s wd 0).toInt ≠ 1 := fun e => hw_42_2 (Int32.toInt_inj.mp (e.trans rfl))
                            have zk42_3 : (fldF n1 g s wd 0).toInt ≠ 2 := fun e => hw_42_3 (Int32.toInt_inj.mp (e.trans rfl))
                            have zk42_4 : (fldF n1 g s wd 0).toInt ≠ 3 := fun e => hw_42_4 (Int32.toInt_inj.mp (e.trans rfl))
                            have zk42_5 : (fldF n1 g s wd 0).toInt ≠ 4 := fun e => hw_42_5 (Int32.toInt_inj.mp (e.trans rfl))
                            have zk42_6 : (fldF n1 g s wd 0).toInt = 5 := by rw [hw_42_6]; rfl
                            have hk2 : 2 ≤ (grH T wN).1 := by omega
                            refine scX1_73 (k_X2_passed (w := wd) (x := fa) hp h1 h2 hsc hth hs hv) hp ⟨(by simp only [gRm]; omega), (by simp only [gRm]; omega)⟩ ⟨(by simp only [gRm]; omega), (by simp only [gRm]; omega)⟩ rfl rfl (Nat.le_of_ble_eq_true rfl) dX1_acquire_161 ?_
                            intro v9 f9 z9; rw [z9.1, z9.2]
                            refine gz_istore (lv' := [(7, .int (pasF n1 n2 g h s v t da wd fa)), (6, .int (fldF n1 g s wd 0)), (5, .ref p), (0, .ref co), (1, .ref lf), (2, .int wd), (3, .int fa), (4, .int wi)]) dX1_acquire_164 (by decide) rfl ?_
                            refine gz_aload_n dX1_acquire_166 rfl rfl ?_
                            refine gz_aload_n dX1_acquire_167 rfl rfl ?_
                            refine gz_aload dX1_acquire_168 rfl ?_
                            refine gz_iload_n dX1_acquire_170 rfl rfl ?_
                            refine gz_aload_n dX1_acquire_171 rfl rfl ?_
                            refine sgX1_17 hco rfl dX1_acquire_172 ?_
                            refine scX1_77 (k_X2_nextDeed (w := wd) hp h1 hsc hs) hp ⟨(by simp only [gRm]; omega), (by simp only [gRm]; omega)⟩ ⟨(by simp only [gRm]; omega), (by simp only [gRm]; omega)⟩ rfl rfl (Nat.le_of_ble_eq_true rfl) dX1_acquire_175 ?_
                            intro v9 f9 z9; rw [z9.1, z9.2]
                            refine gz_iload dX1_acquire_178 rfl ?_
                            refine gz_iload dX1_acquire_180 rfl ?_
                            refine gz_iconst (v := 1) dX1_acquire_182 (by decide) ?_
                            refine gz_iadd dX1_acquire_183 ?_
                            refine suX1_32 (ih (nxtF n1 g s da wd) (pasF n1 n2 g h s v t da wd fa) (wi + 1) en _ _ sz lo fs_ ga _ _ (nxT T S wN) (psT S (grH T wN) fN) Z _ hco hlf hso hfc hp h1 h2 hsc hth hlg hen hl hen2 ⟨nxt_S hs hSn hcT_ hwN.1 hwN.2 hk2, (nx_dp (S := S) hcT_ hwN.2 hk2).1.1⟩ ⟨pas_S hs hv hSn hcT_ hwN.1 hwN.2 hfN.1 hfN.2, psT_b hfN.2⟩ (by have e1 : (1 : Int32).toInt = 1 := rfl; have hx := T_add (rfl : wi.toInt = wi.toInt) e1 (by omega); have hd9 := (nx_dp (S := S) hcT_ hwN.2 hk2).1.2; omega) hZ (by have e13 : (13 : Int32).toInt = 13 := rfl; have e0 : (0 : Int32).toInt = 0 := rfl; have e2 : (2 : Int32).toInt = 2 := rfl; have e1 : (1 : Int32).toInt = 1 := rfl; have e6 : (6 : Int32).toInt = 6 := rfl; have em2 : (-2 : Int32).toInt = -2 := rfl; have e11 : (11 : Int32).toInt = 11 := rfl; simp only [fl_lt] at c_14; have hx := T_add (rfl : wi.toInt = wi.toInt) e1 (by omega); rw [hx]; omega)) hco ⟨(by simp only [gRm]; omega), (by simp only [gRm]; omega)⟩ ⟨(by simp only [gRm]; omega), (by simp only [gRm]; omega)⟩ rfl rfl (Nat.le_of_ble_eq_true rfl) dX1_acquire_184 ?_
                            rintro kk_15 nn_15 r_15 f15 ⟨e_15, m_15, g_15, s_15, l_15, z_15, a_15, x_15, y_15, rfl, hlg_15, he_15, hlf_15, hso_15, hfc_15, hl_15, hu_15, hc_15, hst_15, hr15⟩
                            refine gz_eq (st2 := []) rfl rfl rfl rfl ?_
                            have hco_15 : f15 co = some (.inr (1, [.ref lv, .ref sc, .ref lg, .int csz])) := hr15 _ _ hco (by simp only [List.mem_cons, List.not_mem_nil, or_false, not_or]; exact ⟨cne hco hlg (by simp), cne hco hen (by simp), cne hco hlf (by simp), cne hco hso (by simp), cne hco hfc (by simp)⟩)
                            have hp_15 : f15 p = some (.inr (2, [.ref c1, .ref c2, .int s, .int v])) := hr15 _ _ hp (by simp only [List.mem_cons, List.not_mem_nil, or_false, not_or]; exact ⟨cne hp hlg (by simp), cne hp hen (by simp), cne hp hlf (by simp), cne hp hso (by simp), cne hp hfc (by simp)⟩)
                            have h1_15 : f15 c1 = some (.inl (cy 0, n1, .inl (g))) := hr15 _ _ h1 (by simp only [List.mem_cons, List.not_mem_nil, or_false, not_or]; exact ⟨cne h1 hlg (by simp), Ne.symm (hen2.2.2.1), cne h1 hlf (by simp), Ne.symm (hne.2.1), Ne.symm (hne.2.2.2.2.1)⟩)
                            have h2_15 : f15 c2 = some (.inl (cy 0, n2, .inl (h))) := hr15 _ _ h2 (by simp only [List.mem_cons, List.not_mem_nil, or_false, not_or]; exact ⟨cne h2 hlg (by simp), Ne.symm (hen2.2.2.2.1), cne h2 hlf (by simp), Ne.symm (hne.2.2.1), Ne.symm (hne.2.2.2.2.2.1)⟩)
                            have hsc_15 : f15 sc = some (.inr (7, [.ref th, .int da])) := hr15 _ _ hsc (by simp only [List.mem_cons, List.not_mem_nil, or_false, not_or]; exact ⟨cne hsc hlg (by simp), cne hsc hen (by simp), cne hsc hlf (by simp), cne hsc hso (by simp), cne hsc hfc (by simp)⟩)
                            have hth_15 : f15 th = some (.inl (cy 0, 6, .inl (t))) := hr15 _ _ hth (by simp only [List.mem_cons, List.not_mem_nil, or_false, not_or]; exact ⟨cne hth hlg (by simp), Ne.symm (hen2.2.2.2.2), cne hth hlf (by simp), Ne.symm (hne.2.2.2.1), Ne.symm (hne.2.2.2.2.2.2)⟩)
                            refine gz_iload dX1_acquire_187 rfl ?_
                            refine gz_iconst (v := 3) dX1_acquire_189 (by decide) ?_
                            refine gz_icmp_ne (tgt := 211) dX1_acquire_190 (by decide) (fun c_190 => ?_) (fun c_190 => ?_)
                            ·
                              have hl0 : lpT T S wN = false := by rw [hlp] at c_27; exact b01.mp c_27
                              have hh6 : (grH T wN).1 = 6 → hldF n1 n2 g h s v t da wd = if hlB S (grH T wN) = true then 1 else 0 := fun z => hld_S hs hv hSn hwN.1 (by omega) (hG wN (by omega)).1 (hG wN (by omega)).2.1 (by omega)
                              have zk3 : (fldF n1 g s wd 0).toInt ≠ 3 := fun e => c_190 (Int32.toInt_inj.mp (e.trans rfl))
                              have e9 := ev_n (S := S) (f := fN) hok hvT_ h4 hwN.2 hl0 ⟨by omega, by omega, by omega, by omega⟩ (fun z => by have q9 := hh6 z; rw [q9] at c_142; cases hb : hlB S (grH T wN); (exact absurd (b01.mpr hb) c_142); rfl)
                              exact gz_vretU rfl dX1_acquire_211 (by omega) (by omega) (⟨_, _, _, _, _, _, _, _, _, rfl, hlg_15, he_15, hlf_15, hso_15, hfc_15, hl_15, ⟨by omega, by omega⟩, hc_15, (by rw [e9]; exact hst_15), (fr_tr fr_rf (fr_mo hr15 (by simp)))⟩)
                            ·
                              refine gz_aload_n dX1_acquire_193 rfl rfl ?_
                              refine gz_aload_n dX1_acquire_194 rfl rfl ?_
                              refine gz_aload dX1_acquire_195 rfl ?_
                              refine gz_iload_n dX1_acquire_197 rfl rfl ?_
                              refine gz_iconst (v := 4) dX1_acquire_198 (by decide) ?_
                              refine scX1_49 (k_X2_field (w := wd) (k := 4) hp_15 h1_15 hs) hp_15 ⟨(by simp only [gRm]; omega), (by simp only [gRm]; omega)⟩ ⟨(by simp only [gRm]; omega), (by simp only [gRm]; omega)⟩ rfl rfl (Nat.le_of_ble_eq_true rfl) dX1_acquire_199 ?_
                              intro v9 f9 z9; rw [z9.1, z9.2]
                              refine gz_iload dX1_acquire_202 rfl ?_
                              refine gz_iload dX1_acquire_204 rfl ?_
                              refine gz_iconst (v := 1) dX1_acquire_206 (by decide) ?_
                              refine gz_iadd dX1_acquire_207 ?_
                              have h35 : (grH T wN).1 = 3 := by have z9 := congrArg Int32.toInt c_190; have e3_ : (3 : Int32).toInt = 3 := rfl; omega
                              refine suX1_32 (ih (fldF n1 g s wd 4) (pasF n1 n2 g h s v t da wd fa) (wi + 1) e_15 _ _ s_15 l_15 z_15 a_15 _ _ (grS T wN) (psT S (grH T wN) fN) (apS nu.toInt S.1 ho1.toInt ho2.toInt (ev T S (nxT T S wN) (psT S (grH T wN) fN)) Z) _ hco_15 hlf_15 hso_15 hfc_15 hp_15 h1_15 h2_15 hsc_15 hth_15 hlg_15 he_15 hl_15 ⟨(enn hc_15 hso (hen2.1)), (enn hc_15 hfc (hen2.2.1)), (enn hc_15 h1 (hen2.2.2.1)), (enn hc_15 h2 (hen2.2.2.2.1)), (enn hc_15 hth (hen2.2.2.2.2))⟩ ⟨(fk_S hs hcT_ hwN.1 hwN.2).2.2.2.2.2 (by omega), ((nx_dp (S := S) hcT_ hwN.2 hk2).2 (by omega)).1⟩ ⟨pas_S hs hv hSn hcT_ hwN.1 hwN.2 hfN.1 hfN.2, psT_b hfN.2⟩ (by have e1 : (1 : Int32).toInt = 1 := rfl; have hx := T_add (rfl : wi.toInt = wi.toInt) e1 (by omega); have hd9 := ((nx_dp (S := S) hcT_ hwN.2 hk2).2 (by omega)).2; omega) hst_15 (by have e13 : (13 : Int32).toInt = 13 := rfl; have e0 : (0 : Int32).toInt = 0 := rfl; have e2 : (2 : Int32).toInt = 2 := rfl; have e1 : (1 : Int32).toInt = 1 := rfl; have e6 : (6 : Int32).toInt = 6 := rfl; have em2 : (-2 : Int32).toInt = -2 := rfl; have e11 : (11 : Int32).toInt = 11 := rfl; simp only [fl_lt] at c_14; have hx := T_add (rfl : wi.toInt = wi.toInt) e1 (by omega); rw [hx]; omega)) hco_15 ⟨(by simp only [gRm]; omega), (by simp only [gRm]; omega)⟩ ⟨(by simp only [gRm]; omega), (by simp only [gRm]; omega)⟩ rfl rfl (Nat.le_of_ble_eq_true rfl) dX1_acquire_208 ?_
                              rintro kk_16 nn_16 r_16 f16 ⟨e_16, m_16, g_16, s_16, l_16, z_16, a_16, x_16, y_16, rfl, hlg_16, he_16, hlf_16, hso_16, hfc_16, hl_16, hu_16, hc_16, hst_16, hr16⟩
                              refine gz_eq (st2 := []) rfl rfl rfl rfl ?_
                              have hco_16 : f16 co = some (.inr (1, [.ref lv, .ref sc, .ref lg, .int csz])) := hr16 _ _ hco_15 (by simp only [List.mem_cons, List.not_mem_nil, or_false, not_or]; exact ⟨cne hco_15 hlg_15 (by simp), cne hco_15 he_15 (by simp), cne hco_15 hlf_15 (by simp), cne hco_15 hso_15 (by simp), cne hco_15 hfc_15 (by simp)⟩)
                              have hp_16 : f16 p = some (.inr (2, [.ref c1, .ref c2, .int s, .int v])) := hr16 _ _ hp_15 (by simp only [List.mem_cons, List.not_mem_nil, or_false, not_or]; exact ⟨cne hp_15 hlg_15 (by simp), cne hp_15 he_15 (by simp), cne hp_15 hlf_15 (by simp), cne hp_15 hso_15 (by simp), cne hp_15 hfc_15 (by simp)⟩)
                              have h1_16 : f16 c1 = some (.inl (cy 0, n1, .inl (g))) := hr16 _ _ h1_15 (by simp only [List.mem_cons, List.not_mem_nil, or_false, not_or]; exact ⟨cne h1_15 hlg_15 (by simp), Ne.symm ((enn hc_15 h1 (hen2.2.2.1))), cne h1_15 hlf_15 (by simp), Ne.symm (hne.2.1), Ne.symm (hne.2.2.2.2.1)⟩)
                              have h2_16 : f16 c2 = some (.inl (cy 0, n2, .inl (h))) := hr16 _ _ h2_15 (by simp only [List.mem_cons, List.not_mem_nil, or_false, not_or]; exact ⟨cne h2_15 hlg_15 (by simp), Ne.symm ((enn hc_15 h2 (hen2.2.2.2.1))), cne h2_15 hlf_15 (by simp), Ne.symm (hne.2.2.1), Ne.symm (hne.2.2.2.2.2.1)⟩)
                              have hsc_16 : f16 sc = some (.inr (7, [.ref th, .int da])) := hr16 _ _ hsc_15 (by simp only [List.mem_cons, List.not_mem_nil, or_false, not_or]; exact ⟨cne hsc_15 hlg_15 (by simp), cne hsc_15 he_15 (by simp), cne hsc_15 hlf_15 (by simp), cne hsc_15 hso_15 (by simp), cne hsc_15 hfc_15 (by simp)⟩)
                              have hth_16 : f16 th = some (.inl (cy 0, 6, .inl (t))) := hr16 _ _ hth_15 (by simp only [List.mem_cons, List.not_mem_nil, or_false, not_or]; exact ⟨cne hth_15 hlg_15 (by simp), Ne.symm ((enn hc_15 hth (hen2.2.2.2.2))), cne hth_15 hlf_15 (by simp), Ne.symm (hne.2.2.2.1), Ne.symm (hne.2.2.2.2.2.2)⟩)
                              have hcc_16 : e_16 = en ∨ f e_16 = none := eny (S := [lg, en, lf, so, fc]) hc_15 hc_16 (fr_tr fr_rf (fr_mo hr15 (by simp))) (by intro z hz2; simp only [List.mem_cons, List.not_mem_nil, or_false] at hz2; rcases hz2 with rfl | rfl | rfl | rfl | rfl; exact Or.inr ⟨_, hlg_15⟩; exact Or.inl rfl; exact Or.inr ⟨_, hlf_15⟩; exact Or.inr ⟨_, hso_15⟩; exact Or.inr ⟨_, hfc_15⟩)
                              have hl0 : lpT T S wN = false := by rw [hlp] at c_27; exact b01.mp c_27
                              have e9 := ev_3 (S := S) (f := fN) hok hvT_ h4 hwN.2 hl0 h35
                              exact gz_vretU rfl dX1_acquire_211 (by omega) (by omega) (⟨_, _, _, _, _, _, _, _, _, rfl, hlg_16, he_16, hlf_16, hso_16, hfc_16, hl_16, ⟨by omega, by omega⟩, hcc_16, (by rw [e9, apS_app]; exact hst_16), (frx hc_15 (fr_tr fr_rf (fr_mo hr15 (by simp))) hr16)⟩)
                          ·
                            refine gz_aload_n dX1_acquire_145 rfl rfl ?_
                            refine gz_aload_n dX1_acquire_146 rfl rfl ?_
                            refine gz_iload_n dX1_acquire_147 rfl rfl ?_
                            refine gz_iload_n dX1_acquire_148 rfl rfl ?_
                            refine scX1_66 (k_X1_keepE (wd := wd) (fa := fa) (d_ := S.1) hco hlg hlf hso hfc hne.1 hZ hwN.1 hfN.1) hco ⟨(by simp only [gRm]; omega), (by simp only [gRm]; omega)⟩ ⟨(by simp only [gRm]; omega), (by simp only [gRm]; omega)⟩ rfl rfl (Nat.le_of_ble_eq_true rfl) dX1_acquire_149 ?_
                            rintro f17 ⟨l_17, z_17, x_17, y_17, hlg_17, hlf_17, hso_17, hfc_17, hst_17, hr17⟩
                            have hco_17 : f17 co = some (.inr (1, [.ref lv, .ref sc, .ref lg, .int csz])) := hr17 _ _ hco (by simp only [List.mem_cons, List.not_mem_nil, or_false, not_or]; exact ⟨cne hco hlg (by simp), cne hco hlf (by simp), cne hco hso (by simp), cne hco hfc (by simp)⟩)
                            have hp_17 : f17 p = some (.inr (2, [.ref c1, .ref c2, .int s, .int v])) := hr17 _ _ hp (by simp only [List.mem_cons, List.not_mem_nil, or_false, not_or]; exact ⟨cne hp hlg (by simp), cne hp hlf (by simp), cne hp hso (by simp), cne hp hfc (by simp)⟩)
                            have h1_17 : f17 c1 = some (.inl (cy 0, n1, .inl (g))) := hr17 _ _ h1 (by simp only [List.mem_cons, List.not_mem_nil, or_false, not_or]; exact ⟨cne h1 hlg (by simp), cne h1 hlf (by simp), Ne.symm (hne.2.1), Ne.symm (hne.2.2.2.2.1)⟩)
                            have h2_17 : f17 c2 = some (.inl (cy 0, n2, .inl (h))) := hr17 _ _ h2 (by simp only [List.mem_cons, List.not_mem_nil, or_false, not_or]; exact ⟨cne h2 hlg (by simp), cne h2 hlf (by simp), Ne.symm (hne.2.2.1), Ne.symm (hne.2.2.2.2.2.1)⟩)
                            have hsc_17 : f17 sc = some (.inr (7, [.ref th, .int da])) := hr17 _ _ hsc (by simp only [List.mem_cons, List.not_mem_nil, or_false, not_or]; exact ⟨cne hsc hlg (by simp), cne hsc hlf (by simp), cne hsc hso (by simp), cne hsc hfc (by simp)⟩)
                            have hth_17 : f17 th = some (.inl (cy 0, 6, .inl (t))) := hr17 _ _ hth (by simp only [List.mem_cons, List.not_mem_nil, or_false, not_or]; exact ⟨cne hth hlg (by simp), cne hth hlf (by simp), Ne.symm (hne.2.2.2.1), Ne.symm (hne.2.2.2.2.2.2)⟩)
                            have hen_17 : f17 en = some (.inl (cy 0, ne, .inl (eg))) := hr17 _ _ hen (by simp only [List.mem_cons, List.not_mem_nil, or_false, not_or]; exact ⟨cne hen hlg (by simp), cne hen hlf (by simp), hen2.1, hen2.2.1⟩)
                            have hl0 : lpT T S wN = false := by rw [hlp] at c_27; exact b01.mp c_27
                            have zk42_0 : (fldF n1 g s wd 0).toInt ≠ -1 := fun e => hw_42_0 (Int32.toInt_inj.mp (e.trans rfl))
                            have zk42_1 : (fldF n1 g s wd 0).toInt ≠ 0 := fun e => hw_42_1 (Int32.toInt_inj.mp (e.trans rfl))
                            have zk42_2 : (fldF n1 g s wd 0).toInt ≠ 1 := fun e => hw_42_2 (Int32.toInt_inj.mp (e.trans rfl))
                            have zk42_3 : (fldF n1 g s wd 0).toInt ≠ 2 := fun e => hw_42_3 (Int32.toInt_inj.mp (e.trans rfl))
                            have zk42_4 : (fldF n1 g s wd 0).toInt ≠ 3 := fun e => hw_42_4 (Int32.toInt_inj.mp (e.trans rfl))
                            have zk42_5 : (fldF n1 g s wd 0).toInt ≠ 4 := fun e => hw_42_5 (Int32.toInt_inj.mp (e.trans rfl))
                            have zk42_6 : (fldF n1 g s wd 0).toInt = 5 := by rw [hw_42_6]; rfl
                            have hh6 : (grH T wN).1 = 6 → hldF n1 n2 g h s v t da wd = if hlB S (grH T wN) = true then 1 else 0 := fun z => hld_S hs hv hSn hwN.1 (by omega) (hG wN (by omega)).1 (hG wN (by omega)).2.1 (by omega)
                            have zk6 : (fldF n1 g s wd 0).toInt = 6 := by rw [c_129]; rfl
                            have e9 := ev_4 (S := S) (f := fN) hok hvT_ h4 hwN.2 hl0 (Or.inr (Or.inr ⟨by omega, by have q9 := hh6 (by omega); rw [q9] at c_142; exact b01.mp c_142⟩))
                            exact gz_vretU rfl dX1_acquire_152 (by omega) (by omega) (⟨_, _, _, _, _, _, _, _, _, rfl, hlg_17, hen_17, hlf_17, hso_17, hfc_17, hl, ⟨by omega, by omega⟩, (Or.inl rfl), (by rw [e9]; exact hst_17), (fr_tr fr_rf (fr_mo hr17 (by simp)))⟩)
                      ·
                        by_cases hw_42_7 : (fldF n1 g s wd 0) = 6
                        ·
                          refine gz_ev (w := .int 6) (congrArg Value.int hw_42_7) ?_
                          refine gz_tableIn (off := 83) (tgt := 125) dX1_acquire_42 (by decide) (by decide) rfl (by decide) ?_
                          refine gz_iload dX1_acquire_125 rfl ?_
                          refine gz_bipush (v := 6) dX1_acquire_127 (by decide) ?_
                          refine gz_icmp_ne (tgt := 153) dX1_acquire_129 (by decide) (fun c_129 => ?_) (fun c_129 => ?_)
                          ·
                            refine gz_aload dX1_acquire_153 rfl ?_
                            refine gz_iload_n dX1_acquire_155 rfl rfl ?_
                            refine gz_iload_n dX1_acquire_156 rfl rfl ?_
                            refine gz_aload_n dX1_acquire_157 rfl rfl ?_
                            refine sgX1_17 hco rfl dX1_acquire_158 ?_
                            have zk42_0 : (fldF n1 g s wd 0).toInt ≠ -1 := fun e => hw_42_0 (Int32.toInt_inj.mp (e.trans rfl))
                            have zk42_1 : (fldF n1 g s wd 0).toInt ≠ 0 := fun e => hw_42_1 (Int32.toInt_inj.mp (e.trans rfl))
                            have zk42_2 : (fldF n1 g s wd 0).toInt ≠ 1 := fun e => hw_42_2 (Int32.toInt_inj.mp (e.trans rfl))
                            have zk42_3 : (fldF n1 g s wd 0).toInt ≠ 2 := fun e => hw_42_3 (Int32.toInt_inj.mp (e.trans rfl))
                            have zk42_4 : (fldF n1 g s wd 0).toInt ≠ 3 := fun e => hw_42_4 (Int32.toInt_inj.mp (e.trans rfl))
                            have zk42_5 : (fldF n1 g s wd 0).toInt ≠ 4 := fun e => hw_42_5 (Int32.toInt_inj.mp (e.trans rfl))
                            have zk42_6 : (fldF n1 g s wd 0).toInt ≠ 5 := fun e => hw_42_6 (Int32.toInt_inj.mp (e.trans rfl))
                            have zk42_7 : (fldF n1 g s wd 0).toInt = 6 := by rw [hw_42_7]; rfl
                            have hk2 : 2 ≤ (grH T wN).1 := by omega
                            refine scX1_73 (k_X2_passed (w := wd) (x := fa) hp h1 h2 hsc hth hs hv) hp ⟨(by simp only [gRm]; omega), (by simp only [gRm]; omega)⟩ ⟨(by simp only [gRm]; omega), (by simp only [gRm]; omega)⟩ rfl rfl (Nat.le_of_ble_eq_true rfl) dX1_acquire_161 ?_
                            intro v9 f9 z9; rw [z9.1, z9.2]
                            refine gz_istore (lv' := [(7, .int (pasF n1 n2 g h s v t da wd fa)), (6, .int (fldF n1 g s wd 0)), (5, .ref p), (0, .ref co), (1, .ref lf), (2, .int wd), (3, .int fa), (4, .int wi)]) dX1_acquire_164 (by decide) rfl ?_
                            refine gz_aload_n dX1_acquire_166 rfl rfl ?_
                            refine gz_aload_n dX1_acquire_167 rfl rfl ?_
                            refine gz_aload dX1_acquire_168 rfl ?_
                            refine gz_iload_n dX1_acquire_170 rfl rfl ?_
                            refine gz_aload_n dX1_acquire_171 rfl rfl ?_
                            refine sgX1_17 hco rfl dX1_acquire_172 ?_
                            refine scX1_77 (k_X2_nextDeed (w := wd) hp h1 hsc hs) hp ⟨(by simp only [gRm]; omega), (by simp only [gRm]; omega)⟩ ⟨(by simp only [gRm]; omega), (by simp only [gRm]; omega)⟩ rfl rfl (Nat.le_of_ble_eq_true rfl) dX1_acquire_175 ?_
                            intro v9 f9 z9; rw [z9.1, z9.2]
                            refine gz_iload dX1_acquire_178 rfl ?_
                            refine gz_iload dX1_acquire_180 rfl ?_
                            refine gz_iconst (v := 1) dX1_acquire_182 (by decide) ?_
                            refine gz_iadd dX1_acquire_183 ?_
                            refine suX1_32 (ih (nxtF n1 g s da wd) (pasF n1 n2 g h s v t da wd fa) (wi + 1) en _ _ sz lo fs_ ga _ _ (nxT T S wN) (psT S (grH T wN) fN) Z _ hco hlf hso hfc hp h1 h2 hsc hth hlg hen hl hen2 ⟨nxt_S hs hSn hcT_ hwN.1 hwN.2 hk2, (nx_dp (S := S) hcT_ hwN.2 hk2).1.1⟩ ⟨pas_S hs hv hSn hcT_ hwN.1 hwN.2 hfN.1 hfN.2, psT_b hfN.2⟩ (by have e1 : (1 : Int32).toInt = 1 := rfl; have hx := T_add (rfl : wi.toInt = wi.toInt) e1 (by omega); have hd9 := (nx_dp (S := S) hcT_ hwN.2 hk2).1.2; omega) hZ (by have e13 : (13 : Int32).toInt = 13 := rfl; have e0 : (0 : Int32).toInt = 0 := rfl; have e2 : (2 : Int32).toInt = 2 := rfl; have e1 : (1 : Int32).toInt = 1 := rfl; have e6 : (6 : Int32).toInt = 6 := rfl; have em2 : (-2 : Int32).toInt = -2 := rfl; have e11 : (11 : Int32).toInt = 11 := rfl; simp only [fl_lt] at c_14; have hx := T_add (rfl : wi.toInt = wi.toInt) e1 (by omega); rw [hx]; omega)) hco ⟨(by simp only [gRm]; omega), (by simp only [gRm]; omega)⟩ ⟨(by simp only [gRm]; omega), (by simp only [gRm]; omega)⟩ rfl rfl (Nat.le_of_ble_eq_true rfl) dX1_acquire_184 ?_
                            rintro kk_18 nn_18 r_18 f18 ⟨e_18, m_18, g_18, s_18, l_18, z_18, a_18, x_18, y_18, rfl, hlg_18, he_18, hlf_18, hso_18, hfc_18, hl_18, hu_18, hc_18, hst_18, hr18⟩
                            refine gz_eq (st2 := []) rfl rfl rfl rfl ?_
                            have hco_18 : f18 co = some (.inr (1, [.ref lv, .ref sc, .ref lg, .int csz])) := hr18 _ _ hco (by simp only [List.mem_cons, List.not_mem_nil, or_false, not_or]; exact ⟨cne hco hlg (by simp), cne hco hen (by simp), cne hco hlf (by simp), cne hco hso (by simp), cne hco hfc (by simp)⟩)
                            have hp_18 : f18 p = some (.inr (2, [.ref c1, .ref c2, .int s, .int v])) := hr18 _ _ hp (by simp only [List.mem_cons, List.not_mem_nil, or_false, not_or]; exact ⟨cne hp hlg (by simp), cne hp hen (by simp), cne hp hlf (by simp), cne hp hso (by simp), cne hp hfc (by simp)⟩)
                            have h1_18 : f18 c1 = some (.inl (cy 0, n1, .inl (g))) := hr18 _ _ h1 (by simp only [List.mem_cons, List.not_mem_nil, or_false, not_or]; exact ⟨cne h1 hlg (by simp), Ne.symm (hen2.2.2.1), cne h1 hlf (by simp), Ne.symm (hne.2.1), Ne.symm (hne.2.2.2.2.1)⟩)
                            have h2_18 : f18 c2 = some (.inl (cy 0, n2, .inl (h))) := hr18 _ _ h2 (by simp only [List.mem_cons, List.not_mem_nil, or_false, not_or]; exact ⟨cne h2 hlg (by simp), Ne.symm (hen2.2.2.2.1), cne h2 hlf (by simp), Ne.symm (hne.2.2.1), Ne.symm (hne.2.2.2.2.2.1)⟩)
                            have hsc_18 : f18 sc = some (.inr (7, [.ref th, .int da])) := hr18 _ _ hsc (by simp only [List.mem_cons, List.not_mem_nil, or_false, not_or]; exact ⟨cne hsc hlg (by simp), cne hsc hen (by simp), cne hsc hlf (by simp), cne hsc hso (by simp), cne hsc hfc (by simp)⟩)
                            have hth_18 : f18 th = some (.inl (cy 0, 6, .inl (t))) := hr18 _ _ hth (by simp only [List.mem_cons, List.not_mem_nil, or_false, not_or]; exact ⟨cne hth hlg (by simp), Ne.symm (hen2.2.2.2.2), cne hth hlf (by simp), Ne.symm (hne.2.2.2.1), Ne.symm (hne.2.2.2.2.2.2)⟩)
                            refine gz_iload dX1_acquire_187 rfl ?_
                            refine gz_iconst (v := 3) dX1_acquire_189 (by decide) ?_
                            refine gz_icmp_ne (tgt := 211) dX1_acquire_190 (by decide) (fun c_190 => ?_) (fun c_190 => ?_)
                            ·
                              have hl0 : lpT T S wN = false := by rw [hlp] at c_27; exact b01.mp c_27
                              have hh6 : (grH T wN).1 = 6 → hldF n1 n2 g h s v t da wd = if hlB S (grH T wN) = true then 1 else 0 := fun z => hld_S hs hv hSn hwN.1 (by omega) (hG wN (by omega)).1 (hG wN (by omega)).2.1 (by omega)
                              have zk3 : (fldF n1 g s wd 0).toInt ≠ 3 := fun e => c_190 (Int32.toInt_inj.mp (e.trans rfl))
                              have zk6 : (fldF n1 g s wd 0).toInt ≠ 6 := fun e => c_129 (Int32.toInt_inj.mp (e.trans rfl))
                              have e9 := ev_n (S := S) (f := fN) hok hvT_ h4 hwN.2 hl0 ⟨by omega, by omega, by omega, by omega⟩ (fun z => by omega)
                              exact gz_vretU rfl dX1_acquire_211 (by omega) (by omega) (⟨_, _, _, _, _, _, _, _, _, rfl, hlg_18, he_18, hlf_18, hso_18, hfc_18, hl_18, ⟨by omega, by omega⟩, hc_18, (by rw [e9]; exact hst_18), (fr_tr fr_rf (fr_mo hr18 (by simp)))⟩)
                            ·
                              refine gz_aload_n dX1_acquire_193 rfl rfl ?_
                              refine gz_aload_n dX1_acquire_194 rfl rfl ?_
                              refine gz_aload dX1_acquire_195 rfl ?_
                              refine gz_iload_n dX1_acquire_197 rfl rfl ?_
                              refine gz_iconst (v := 4) dX1_acquire_198 (by decide) ?_
                              refine scX1_49 (k_X2_field (w := wd) (k := 4) hp_18 h1_18 hs) hp_18 ⟨(by simp only [gRm]; omega), (by simp only [gRm]; omega)⟩ ⟨(by simp only [gRm]; omega), (by simp only [gRm]; omega)⟩ rfl rfl (Nat.le_of_ble_eq_true rfl) dX1_acquire_199 ?_
                              intro v9 f9 z9; rw [z9.1, z9.2]
                              refine gz_iload dX1_acquire_202 rfl ?_
                              refine gz_iload dX1_acquire_204 rfl ?_
                              refine gz_iconst (v := 1) dX1_acquire_206 (by decide) ?_
                              refine gz_iadd dX1_acquire_207 ?_
                              have h35 : (grH T wN).1 = 3 := by have z9 := congrArg Int32.toInt c_190; have e3_ : (3 : Int32).toInt = 3 := rfl; omega
                              refine suX1_32 (ih (fldF n1 g s wd 4) (pasF n1 n2 g h s v t da wd fa) (wi + 1) e_18 _ _ s_18 l_18 z_18 a_18 _ _ (grS T wN) (psT S (grH T wN) fN) (apS nu.toInt S.1 ho1.toInt ho2.toInt (ev T S (nxT T S wN) (psT S (grH T wN) fN)) Z) _ hco_18 hlf_18 hso_18 hfc_18 hp_18 h1_18 h2_18 hsc_18 hth_18 hlg_18 he_18 hl_18 ⟨(enn hc_18 hso (hen2.1)), (enn hc_18 hfc (hen2.2.1)), (enn hc_18 h1 (hen2.2.2.1)), (enn hc_18 h2 (hen2.2.2.2.1)), (enn hc_18 hth (hen2.2.2.2.2))⟩ ⟨(fk_S hs hcT_ hwN.1 hwN.2).2.2.2.2.2 (by omega), ((nx_dp (S := S) hcT_ hwN.2 hk2).2 (by omega)).1⟩ ⟨pas_S hs hv hSn hcT_ hwN.1 hwN.2 hfN.1 hfN.2, psT_b hfN.2⟩ (by have e1 : (1 : Int32).toInt = 1 := rfl; have hx := T_add (rfl : wi.toInt = wi.toInt) e1 (by omega); have hd9 := ((nx_dp (S := S) hcT_ hwN.2 hk2).2 (by omega)).2; omega) hst_18 (by have e13 : (13 : Int32).toInt = 13 := rfl; have e0 : (0 : Int32).toInt = 0 := rfl; have e2 : (2 : Int32).toInt = 2 := rfl; have e1 : (1 : Int32).toInt = 1 := rfl; have e6 : (6 : Int32).toInt = 6 := rfl; have em2 : (-2 : Int32).toInt = -2 := rfl; have e11 : (11 : Int32).toInt = 11 := rfl; simp only [fl_lt] at c_14; have hx := T_add (rfl : wi.toInt = wi.toInt) e1 (by omega); rw [hx]; omega)) hco_18 ⟨(by simp only [gRm]; omega), (by simp only [gRm]; omega)⟩ ⟨(by simp only [gRm]; omega), (by simp only [gRm]; omega)⟩ rfl rfl (Nat.le_of_ble_eq_true rfl) dX1_acquire_208 ?_
                              rintro kk_19 nn_19 r_19 f19 ⟨e_19, m_19, g_19, s_19, l_19, z_19, a_19, x_19, y_19, rfl, hlg_19, he_19, hlf_19, hso_19, hfc_19, hl_19, hu_19, hc_19, hst_19, hr19⟩
                              refine gz_eq (st2 := []) rfl rfl rfl rfl ?_
                              have hco_19 : f19 co = some (.inr (1, [.ref lv, .ref sc, .ref lg, .int csz])) := hr19 _ _ hco_18 (by simp only [List.mem_cons, List.not_mem_nil, or_false, not_or]; exact ⟨cne hco_18 hlg_18 (by simp), cne hco_18 he_18 (by simp), cne hco_18 hlf_18 (by simp), cne hco_18 hso_18 (by simp), cne hco_18 hfc_18 (by simp)⟩)
                              have hp_19 : f19 p = some (.inr (2, [.ref c1, .ref c2, .int s, .int v])) := hr19 _ _ hp_18 (by simp only [List.mem_cons, List.not_mem_nil, or_false, not_or]; exact ⟨cne hp_18 hlg_18 (by simp), cne hp_18 he_18 (by simp), cne hp_18 hlf_18 (by simp), cne hp_18 hso_18 (by simp), cne hp_18 hfc_18 (by simp)⟩)
                              have h1_19 : f19 c1 = some (.inl (cy 0, n1, .inl (g))) := hr19 _ _ h1_18 (by simp only [List.mem_cons, List.not_mem_nil, or_false, not_or]; exact ⟨cne h1_18 hlg_18 (by simp), Ne.symm ((enn hc_18 h1 (hen2.2.2.1))), cne h1_18 hlf_18 (by simp), Ne.symm (hne.2.1), Ne.symm (hne.2.2.2.2.1)⟩)
                              have h2_19 : f19 c2 = some (.inl (cy 0, n2, .inl (h))) := hr19 _ _ h2_18 (by simp only [List.mem_cons, List.not_mem_nil, or_false, not_or]; exact ⟨cne h2_18 hlg_18 (by simp), Ne.symm ((enn hc_18 h2 (hen2.2.2.2.1))), cne h2_18 hlf_18 (by simp), Ne.symm (hne.2.2.1), Ne.symm (hne.2.2.2.2.2.1)⟩)
                              have hsc_19 : f19 sc = some (.inr (7, [.ref th, .int da])) := hr19 _ _ hsc_18 (by simp only [List.mem_cons, List.not_mem_nil, or_false, not_or]; exact ⟨cne hsc_18 hlg_18 (by simp), cne hsc_18 he_18 (by simp), cne hsc_18 hlf_18 (by simp), cne hsc_18 hso_18 (by simp), cne hsc_18 hfc_18 (by simp)⟩)
                              have hth_19 : f19 th = some (.inl (cy 0, 6, .inl (t))) := hr19 _ _ hth_18 (by simp only [List.mem_cons, List.not_mem_nil, or_false, not_or]; exact ⟨cne hth_18 hlg_18 (by simp), Ne.symm ((enn hc_18 hth (hen2.2.2.2.2))), cne hth_18 hlf_18 (by simp), Ne.symm (hne.2.2.2.1), Ne.symm (hne.2.2.2.2.2.2)⟩)
                              have hcc_19 : e_19 = en ∨ f e_19 = none := eny (S := [lg, en, lf, so, fc]) hc_18 hc_19 (fr_tr fr_rf (fr_mo hr18 (by simp))) (by intro z hz2; simp only [List.mem_cons, List.not_mem_nil, or_false] at hz2; rcases hz2 with rfl | rfl | rfl | rfl | rfl; exact Or.inr ⟨_, hlg_18⟩; exact Or.inl rfl; exact Or.inr ⟨_, hlf_18⟩; exact Or.inr ⟨_, hso_18⟩; exact Or.inr ⟨_, hfc_18⟩)
                              have hl0 : lpT T S wN = false := by rw [hlp] at c_27; exact b01.mp c_27
                              have e9 := ev_3 (S := S) (f := fN) hok hvT_ h4 hwN.2 hl0 h35
                              exact gz_vretU rfl dX1_acquire_211 (by omega) (by omega) (⟨_, _, _, _, _, _, _, _, _, rfl, hlg_19, he_19, hlf_19, hso_19, hfc_19, hl_19, ⟨by omega, by omega⟩, hcc_19, (by rw [e9, apS_app]; exact hst_19), (frx hc_18 (fr_tr fr_rf (fr_mo hr18 (by simp))) hr19)⟩)
                          ·
                            refine gz_aload dX1_acquire_132 rfl ?_
                            refine gz_iload_n dX1_acquire_134 rfl rfl ?_
                            refine gz_aload_n dX1_acquire_135 rfl rfl ?_
                            refine sgX1_17 hco rfl dX1_acquire_136 ?_
                            refine scX1_70 (k_X2_holds (w := wd) hp h1 h2 hsc hth hs hv) hp ⟨(by simp only [gRm]; omega), (by simp only [gRm]; omega)⟩ ⟨(by simp only [gRm]; omega), (by simp only [gRm]; omega)⟩ rfl rfl (Nat.le_of_ble_eq_true rfl) dX1_acquire_139 ?_
                            intro v9 f9 z9; rw [z9.1, z9.2]
                            refine gz_if_ne (tgt := 153) dX1_acquire_142 (by decide) (fun c_142 => ?_) (fun c_142 => ?_)
                            ·
                              refine gz_aload dX1_acquire_153 rfl ?_
                              refine gz_iload_n dX1_acquire_155 rfl rfl ?_
                              refine gz_iload_n dX1_acquire_156 rfl rfl ?_
                              refine gz_aload_n dX1_acquire_157 rfl rfl ?_
                              refine sgX1_17 hco rfl dX1_acquire_158 ?_
                              have zk42_0 : (fldF n1 g s wd 0).toInt ≠ -1 := fun e => hw_42_0 (Int32.toInt_inj.mp (e.trans rfl))
                              have zk42_1 : (fldF n1 g s wd 0).toInt ≠ 0 := fun e => hw_42_1 (Int32.toInt_inj.mp (e.trans rfl))
                              have zk42_2 : (fldF n1 g s wd 0).toInt ≠ 1 := fun e => hw_42_2 (Int32.toInt_inj.mp (e.trans rfl))
                              have zk42_3 : (fldF n1 g s wd 0).toInt ≠ 2 := fun e => hw_42_3 (Int32.toInt_inj.mp (e.trans rfl))
                              have zk42_4 : (fldF n1 g s wd 0).toInt ≠ 3 := fun e => hw_42_4 (Int32.toInt_inj.mp (e.trans rfl))
                              have zk42_5 : (fldF n1 g s wd 0).toInt ≠ 4 := fun e => hw_42_5 (Int32.toInt_inj.mp (e.trans rfl))
                              have zk42_6 : (fldF n1 g s wd 0).toInt ≠ 5 := fun e => hw_42_6 (Int32.toInt_inj.mp (e.trans rfl))
                              have zk42_7 : (fldF n1 g s wd 0).toInt = 6 := by rw [hw_42_7]; rfl
                              have hk2 : 2 ≤ (grH T wN).1 := by omega
                              refine scX1_73 (k_X2_passed (w := wd) (x := fa) hp h1 h2 hsc hth hs hv) hp ⟨(by simp only [gRm]; omega), (by simp only [gRm]; omega)⟩ ⟨(by simp only [gRm]; omega), (by simp only [gRm]; omega)⟩ rfl rfl (Nat.le_of_ble_eq_true rfl) dX1_acquire_161 ?_
                              intro v9 f9 z9; rw [z9.1, z9.2]
                              refine gz_istore (lv' := [(7, .int (pasF n1 n2 g h s v t da wd fa)), (6, .int (fldF n1 g s wd 0)), (5, .ref p), (0, .ref co), (1, .ref lf), (2, .int wd), (3, .int fa), (4, .int wi)]) dX1_acquire_164 (by decide) rfl ?_
                              refine gz_aload_n dX1_acquire_166 rfl rfl ?_
                              refine gz_aload_n dX1_acquire_167 rfl rfl ?_
                              refine gz_aload dX1_acquire_168 rfl ?_
                              refine gz_iload_n dX1_acquire_170 rfl rfl ?_
                              refine gz_aload_n dX1_acquire_171 rfl rfl ?_
                              refine sgX1_17 hco rfl dX1_acquire_172 ?_
                              refine scX1_77 (k_X2_nextDeed (w := wd) hp h1 hsc hs) hp ⟨(by simp only [gRm]; omega), (by simp only [gRm]; omega)⟩ ⟨(by simp only [gRm]; omega), (by simp only [gRm]; omega)⟩ rfl rfl (Nat.le_of_ble_eq_true rfl) dX1_acquire_175 ?_
                              intro v9 f9 z9; rw [z9.1, z9.2]
                              refine gz_iload dX1_acquire_178 rfl ?_
                              refine gz_iload dX1_acquire_180 rfl ?_
                              refine gz_iconst (v := 1) dX1_acquire_182 (by decide) ?_
                              refine gz_iadd dX1_acquire_183 ?_
                              refine suX1_32 (ih (nxtF n1 g s da wd) (pasF n1 n2 g h s v t da wd fa) (wi + 1) en _ _ sz lo fs_ ga _ _ (nxT T S wN) (psT S (grH T wN) fN) Z _ hco hlf hso hfc hp h1 h2 hsc hth hlg hen hl hen2 ⟨nxt_S hs hSn hcT_ hwN.1 hwN.2 hk2, (nx_dp (S := S) hcT_ hwN.2 hk2).1.1⟩ ⟨pas_S hs hv hSn hcT_ hwN.1 hwN.2 hfN.1 hfN.2, psT_b hfN.2⟩ (by have e1 : (1 : Int32).toInt = 1 := rfl; have hx := T_add (rfl : wi.toInt = wi.toInt) e1 (by omega); have hd9 := (nx_dp (S := S) hcT_ hwN.2 hk2).1.2; omega) hZ (by have e13 : (13 : Int32).toInt = 13 := rfl; have e0 : (0 : Int32).toInt = 0 := rfl; have e2 : (2 : Int32).toInt = 2 := rfl; have e1 : (1 : Int32).toInt = 1 := rfl; have e6 : (6 : Int32).toInt = 6 := rfl; have em2 : (-2 : Int32).toInt = -2 := rfl; have e11 : (11 : Int32).toInt = 11 := rfl; simp only [fl_lt] at c_14; have hx := T_add (rfl : wi.toInt = wi.toInt) e1 (by omega); rw [hx]; omega)) hco ⟨(by simp only [gRm]; omega), (by simp only [gRm]; omega)⟩ ⟨(by simp only [gRm]; omega), (by simp only [gRm]; omega)⟩ rfl rfl (Nat.le_of_ble_eq_true rfl) dX1_acquire_184 ?_
                              rintro kk_20 nn_20 r_20 f20 ⟨e_20, m_20, g_20, s_20, l_20, z_20, a_20, x_20, y_20, rfl, hlg_20, he_20, hlf_20, hso_20, hfc_20, hl_20, hu_20, hc_20, hst_20, hr20⟩
                              refine gz_eq (st2 := []) rfl rfl rfl rfl ?_
                              have hco_20 : f20 co = some (.inr (1, [.ref lv, .ref sc, .ref lg, .int csz])) := hr20 _ _ hco (by simp only [List.mem_cons, List.not_mem_nil, or_false, not_or]; exact ⟨cne hco hlg (by simp), cne hco hen (by simp), cne hco hlf (by simp), cne hco hso (by simp), cne hco hfc (by simp)⟩)
                              have hp_20 : f20 p = some (.inr (2, [.ref c1, .ref c2, .int s, .int v])) := hr20 _ _ hp (by simp only [List.mem_cons, List.not_mem_nil, or_false, not_or]; exact ⟨cne hp hlg (by simp), cne hp hen (by simp), cne hp hlf (by simp), cne hp hso (by simp), cne hp hfc (by simp)⟩)
                              have h1_20 : f20 c1 = some (.inl (cy 0, n1, .inl (g))) := hr20 _ _ h1 (by simp only [List.mem_cons, List.not_mem_nil, or_false, not_or]; exact ⟨cne h1 hlg (by simp), Ne.symm (hen2.2.2.1), cne h1 hlf (by simp), Ne.symm (hne.2.1), Ne.symm (hne.2.2.2.2.1)⟩)
                              have h2_20 : f20 c2 = some (.inl (cy 0, n2, .inl (h))) := hr20 _ _ h2 (by simp only [List.mem_cons, List.not_mem_nil, or_false, not_or]; exact ⟨cne h2 hlg (by simp), Ne.symm (hen2.2.2.2.1), cne h2 hlf (by simp), Ne.symm (hne.2.2.1), Ne.symm (hne.2.2.2.2.2.1)⟩)
                              have hsc_20 : f20 sc = some (.inr (7, [.ref th, .int da])) := hr20 _ _ hsc (by simp only [List.mem_cons, List.not_mem_nil, or_false, not_or]; exact ⟨cne hsc hlg (by simp), cne hsc hen (by simp), cne hsc hlf (by simp), cne hsc hso (by simp), cne hsc hfc (by simp)⟩)
                              have hth_20 : f20 th = some (.inl (cy 0, 6, .inl (t))) := hr20 _ _ hth (by simp only [List.mem_cons, List.not_mem_nil, or_false, not_or]; exact ⟨cne hth hlg (by simp), Ne.symm (hen2.2.2.2.2), cne hth hlf (by simp), Ne.symm (hne.2.2.2.1), Ne.symm (hne.2.2.2.2.2.2)⟩)
                              refine gz_iload dX1_acquire_187 rfl ?_
                              refine gz_iconst (v := 3) dX1_acquire_189 (by decide) ?_
                              refine gz_icmp_ne (tgt := 211) dX1_acquire_190 (by decide) (fun c_190 => ?_) (fun c_190 => ?_)
                              ·
                                have hl0 : lpT T S wN = false := by rw [hlp] at c_27; exact b01.mp c_27
                                have hh6 : (grH T wN).1 = 6 → hldF n1 n2 g h s v t da wd = if hlB S (grH T wN) = true then 1 else 0 := fun z => hld_S hs hv hSn hwN.1 (by omega) (hG wN (by omega)).1 (hG wN (by omega)).2.1 (by omega)
                                have zk3 : (fldF n1 g s wd 0).toInt ≠ 3 := fun e => c_190 (Int32.toInt_inj.mp (e.trans rfl))
                                have e9 := ev_n (S := S) (f := fN) hok hvT_ h4 hwN.2 hl0 ⟨by omega, by omega, by omega, by omega⟩ (fun z => by have q9 := hh6 z; rw [q9] at c_142; cases hb : hlB S (grH T wN); (exact absurd (b01.mpr hb) c_142); rfl)
                                exact gz_vretU rfl dX1_acquire_211 (by omega) (by omega) (⟨_, _, _, _, _, _, _, _, _, rfl, hlg_20, he_20, hlf_20, hso_20, hfc_20, hl_20, ⟨by omega, by omega⟩, hc_20, (by rw [e9]; exact hst_20), (fr_tr fr_rf (fr_mo hr20 (by simp)))⟩)
                              ·
                                refine gz_aload_n dX1_acquire_193 rfl rfl ?_
                                refine gz_aload_n dX1_acquire_194 rfl rfl ?_
                                refine gz_aload dX1_acquire_195 rfl ?_
                                refine gz_iload_n dX1_acquire_197 rfl rfl ?_
                                refine gz_iconst (v := 4) dX1_acquire_198 (by decide) ?_
                                refine scX1_49 (k_X2_field (w := wd) (k := 4) hp_20 h1_20 hs) hp_20 ⟨(by simp only [gRm]; omega), (by simp only [gRm]; omega)⟩ ⟨(by simp only [gRm]; omega), (by simp only [gRm]; omega)⟩ rfl rfl (Nat.le_of_ble_eq_true rfl) dX1_acquire_199 ?_
                                intro v9 f9 z9; rw [z9.1, z9.2]
                                refine gz_iload dX1_acquire_202 rfl ?_
                                refine gz_iload dX1_acquire_204 rfl ?_
                                refine gz_iconst (v := 1) dX1_acquire_206 (by decide) ?_
                                refine gz_iadd dX1_acquire_207 ?_
                                have h35 : (grH T wN).1 = 3 := by have z9 := congrArg Int32.toInt c_190; have e3_ : (3 : Int32).toInt = 3 := rfl; omega
                                refine suX1_32 (ih (fldF n1 g s wd 4) (pasF n1 n2 g h s v t da wd fa) (wi + 1) e_20 _ _ s_20 l_20 z_20 a_20 _ _ (grS T wN) (psT S (grH T wN) fN) (apS nu.toInt S.1 ho1.toInt ho2.toInt (ev T S (nxT T S wN) (psT S (grH T wN) fN)) Z) _ hco_20 hlf_20 hso_20 hfc_20 hp_20 h1_20 h2_20 hsc_20 hth_20 hlg_20 he_20 hl_20 ⟨(enn hc_20 hso (hen2.1)), (enn hc_20 hfc (hen2.2.1)), (enn hc_20 h1 (hen2.2.2.1)), (enn hc_20 h2 (hen2.2.2.2.1)), (enn hc_20 hth (hen2.2.2.2.2))⟩ ⟨(fk_S hs hcT_ hwN.1 hwN.2).2.2.2.2.2 (by omega), ((nx_dp (S := S) hcT_ hwN.2 hk2).2 (by omega)).1⟩ ⟨pas_S hs hv hSn hcT_ hwN.1 hwN.2 hfN.1 hfN.2, psT_b hfN.2⟩ (by have e1 : (1 : Int32).toInt = 1 := rfl; have hx := T_add (rfl : wi.toInt = wi.toInt) e1 (by omega); have hd9 := ((nx_dp (S := S) hcT_ hwN.2 hk2).2 (by omega)).2; omega) hst_20 (by have e13 : (13 : Int32).toInt = 13 := rfl; have e0 : (0 : Int32).toInt = 0 := rfl; have e2 : (2 : Int32).toInt = 2 := rfl; have e1 : (1 : Int32).toInt = 1 := rfl; have e6 : (6 : Int32).toInt = 6 := rfl; have em2 : (-2 : Int32).toInt = -2 := rfl; have e11 : (11 : Int32).toInt = 11 := rfl; simp only [fl_lt] at c_14; have hx := T_add (rfl : wi.toInt = wi.toInt) e1 (by omega); rw [hx]; omega)) hco_20 ⟨(by simp only [gRm]; omega), (by simp only [gRm]; omega)⟩ ⟨(by simp only [gRm]; omega), (by simp only [gRm]; omega)⟩ rfl rfl (Nat.le_of_ble_eq_true rfl) dX1_acquire_208 ?_
                                rintro kk_21 nn_21 r_21 f21 ⟨e_21, m_21, g_21, s_21, l_21, z_21, a_21, x_21, y_21, rfl, hlg_21, he_21, hlf_21, hso_21, hfc_21, hl_21, hu_21, hc_21, hst_21, hr21⟩
                                refine gz_eq (st2 := []) rfl rfl rfl rfl ?_
                                have hco_21 : f21 co = some (.inr (1, [.ref lv, .ref sc, .ref lg, .int csz])) := hr21 _ _ hco_20 (by simp only [List.mem_cons, List.not_mem_nil, or_false, not_or]; exact ⟨cne hco_20 hlg_20 (by simp), cne hco_20 he_20 (by simp), cne hco_20 hlf_20 (by simp), cne hco_20 hso_20 (by simp), cne hco_20 hfc_20 (by simp)⟩)
                                have hp_21 : f21 p = some (.inr (2, [.ref c1, .ref c2, .int s, .int v])) := hr21 _ _ hp_20 (by simp only [List.mem_cons, List.not_mem_nil, or_false, not_or]; exact ⟨cne hp_20 hlg_20 (by simp), cne hp_20 he_20 (by simp), cne hp_20 hlf_20 (by simp), cne hp_20 hso_20 (by simp), cne hp_20 hfc_20 (by simp)⟩)
                                have h1_21 : f21 c1 = some (.inl (cy 0, n1, .inl (g))) := hr21 _ _ h1_20 (by simp only [List.mem_cons, List.not_mem_nil, or_false, not_or]; exact ⟨cne h1_20 hlg_20 (by simp), Ne.symm ((enn hc_20 h1 (hen2.2.2.1))), cne h1_20 hlf_20 (by simp), Ne.symm (hne.2.1), Ne.symm (hne.2.2.2.2.1)⟩)
                                have h2_21 : f21 c2 = some (.inl (cy 0, n2, .inl (h))) := hr21 _ _ h2_20 (by simp only [List.mem_cons, List.not_mem_nil, or_false, not_or]; exact ⟨cne h2_20 hlg_20 (by simp), Ne.symm ((enn hc_20 h2 (hen2.2.2.2.1))), cne h2_20 hlf_20 (by simp), Ne.symm (hne.2.2.1), Ne.symm (hne.2.2.2.2.2.1)⟩)
                                have hsc_21 : f21 sc = some (.inr (7, [.ref th, .int da])) := hr21 _ _ hsc_20 (by simp only [List.mem_cons, List.not_mem_nil, or_false, not_or]; exact ⟨cne hsc_20 hlg_20 (by simp), cne hsc_20 he_20 (by simp), cne hsc_20 hlf_20 (by simp), cne hsc_20 hso_20 (by simp), cne hsc_20 hfc_20 (by simp)⟩)
                                have hth_21 : f21 th = some (.inl (cy 0, 6, .inl (t))) := hr21 _ _ hth_20 (by simp only [List.mem_cons, List.not_mem_nil, or_false, not_or]; exact ⟨cne hth_20 hlg_20 (by simp), Ne.symm ((enn hc_20 hth (hen2.2.2.2.2))), cne hth_20 hlf_20 (by simp), Ne.symm (hne.2.2.2.1), Ne.symm (hne.2.2.2.2.2.2)⟩)
                                have hcc_21 : e_21 = en ∨ f e_21 = none := eny (S := [lg, en, lf, so, fc]) hc_20 hc_21 (fr_tr fr_rf (fr_mo hr20 (by simp))) (by intro z hz2; simp only [List.mem_cons, List.not_mem_nil, or_false] at hz2; rcases hz2 with rfl | rfl | rfl | rfl | rfl; exact Or.inr ⟨_, hlg_20⟩; exact Or.inl rfl; exact Or.inr ⟨_, hlf_20⟩; exact Or.inr ⟨_, hso_20⟩; exact Or.inr ⟨_, hfc_20⟩)
                                have hl0 : lpT T S wN = false := by rw [hlp] at c_27; exact b01.mp c_27
                                have e9 := ev_3 (S := S) (f := fN) hok hvT_ h4 hwN.2 hl0 h35
                                exact gz_vretU rfl dX1_acquire_211 (by omega) (by omega) (⟨_, _, _, _, _, _, _, _, _, rfl, hlg_21, he_21, hlf_21, hso_21, hfc_21, hl_21, ⟨by omega, by omega⟩, hcc_21, (by rw [e9, apS_app]; exact hst_21), (frx hc_20 (fr_tr fr_rf (fr_mo hr20 (by simp))) hr21)⟩)
                            ·
                              refine gz_aload_n dX1_acquire_145 rfl rfl ?_
                              refine gz_aload_n dX1_acquire_146 rfl rfl ?_
                              refine gz_iload_n dX1_acquire_147 rfl rfl ?_
                              refine gz_iload_n dX1_acquire_148 rfl rfl ?_
                              refine scX1_66 (k_X1_keepE (wd := wd) (fa := fa) (d_ := S.1) hco hlg hlf hso hfc hne.1 hZ hwN.1 hfN.1) hco ⟨(by simp only [gRm]; omega), (by simp only [gRm]; omega)⟩ ⟨(by simp only [gRm]; omega), (by simp only [gRm]; omega)⟩ rfl rfl (Nat.le_of_ble_eq_true rfl) dX1_acquire_149 ?_
                              rintro f22 ⟨l_22, z_22, x_22, y_22, hlg_22, hlf_22, hso_22, hfc_22, hst_22, hr22⟩
                              have hco_22 : f22 co = some (.inr (1, [.ref lv, .ref sc, .ref lg, .int csz])) := hr22 _ _ hco (by simp only [List.mem_cons, List.not_mem_nil, or_false, not_or]; exact ⟨cne hco hlg (by simp), cne hco hlf (by simp), cne hco hso (by simp), cne hco hfc (by simp)⟩)
                              have hp_22 : f22 p = some (.inr (2, [.ref c1, .ref c2, .int s, .int v])) := hr22 _ _ hp (by simp only [List.mem_cons, List.not_mem_nil, or_false, not_or]; exact ⟨cne hp hlg (by simp), cne hp hlf (by simp), cne hp hso (by simp), cne hp hfc (by simp)⟩)
                              have h1_22 : f22 c1 = some (.inl (cy 0, n1, .inl (g))) := hr22 _ _ h1 (by simp only [List.mem_cons, List.not_mem_nil, or_false, not_or]; exact ⟨cne h1 hlg (by simp), cne h1 hlf (by simp), Ne.symm (hne.2.1), Ne.symm (hne.2.2.2.2.1)⟩)
                              have h2_22 : f22 c2 = some (.inl (cy 0, n2, .inl (h))) := hr22 _ _ h2 (by simp only [List.mem_cons, List.not_mem_nil, or_false, not_or]; exact ⟨cne h2 hlg (by simp), cne h2 hlf (by simp), Ne.symm (hne.2.2.1), Ne.symm (hne.2.2.2.2.2.1)⟩)
                              have hsc_22 : f22 sc = some (.inr (7, [.ref th, .int da])) := hr22 _ _ hsc (by simp only [List.mem_cons, List.not_mem_nil, or_false, not_or]; exact ⟨cne hsc hlg (by simp), cne hsc hlf (by simp), cne hsc hso (by simp), cne hsc hfc (by simp)⟩)
                              have hth_22 : f22 th = some (.inl (cy 0, 6, .inl (t))) := hr22 _ _ hth (by simp only [List.mem_cons, List.not_mem_nil, or_false, not_or]; exact ⟨cne hth hlg (by simp), cne hth hlf (by simp), Ne.symm (hne.2.2.2.1), Ne.symm (hne.2.2.2.2.2.2)⟩)
                              have hen_22 : f22 en = some (.inl (cy 0, ne, .inl (eg))) := hr22 _ _ hen (by simp only [List.mem_cons, List.not_mem_nil, or_false, not_or]; exact ⟨cne hen hlg (by simp), cne hen hlf (by simp), hen2.1, hen2.2.1⟩)
                              have hl0 : lpT T S wN = false := by rw [hlp] at c_27; exact b01.mp c_27
                              have zk42_0 : (fldF n1 g s wd 0).toInt ≠ -1 := fun e => hw_42_0 (Int32.toInt_inj.mp (e.trans rfl))
                              have zk42_1 : (fldF n1 g s wd 0).toInt ≠ 0 := fun e => hw_42_1 (Int32.toInt_inj.mp (e.trans rfl))
                              have zk42_2 : (fldF n1 g s wd 0).toInt ≠ 1 := fun e => hw_42_2 (Int32.toInt_inj.mp (e.trans rfl))
                              have zk42_3 : (fldF n1 g s wd 0).toInt ≠ 2 := fun e => hw_42_3 (Int32.toInt_inj.mp (e.trans rfl))
                              have zk42_4 : (fldF n1 g s wd 0).toInt ≠ 3 := fun e => hw_42_4 (Int32.toInt_inj.mp (e.trans rfl))
                              have zk42_5 : (fldF n1 g s wd 0).toInt ≠ 4 := fun e => hw_42_5 (Int32.toInt_inj.mp (e.trans rfl))
                              have zk42_6 : (fldF n1 g s wd 0).toInt ≠ 5 := fun e => hw_42_6 (Int32.toInt_inj.mp (e.trans rfl))
                              have zk42_7 : (fldF n1 g s wd 0).toInt = 6 := by rw [hw_42_7]; rfl
                              have hh6 : (grH T wN).1 = 6 → hldF n1 n2 g h s v t da wd = if hlB S (grH T wN) = true then 1 else 0 := fun z => hld_S hs hv hSn hwN.1 (by omega) (hG wN (by omega)).1 (hG wN (by omega)).2.1 (by omega)
                              have zk6 : (fldF n1 g s wd 0).toInt = 6 := by rw [c_129]; rfl
                              have e9 := ev_4 (S := S) (f := fN) hok hvT_ h4 hwN.2 hl0 (Or.inr (Or.inr ⟨by omega, by have q9 := hh6 (by omega); rw [q9] at c_142; exact b01.mp c_142⟩))
                              exact gz_vretU rfl dX1_acquire_152 (by omega) (by omega) (⟨_, _, _, _, _, _, _, _, _, rfl, hlg_22, hen_22, hlf_22, hso_22, hfc_22, hl, ⟨by omega, by omega⟩, (Or.inl rfl), (by rw [e9]; exact hst_22), (fr_tr fr_rf (fr_mo hr22 (by simp)))⟩)
                        ·
                          by_cases hw_42_8 : (fldF n1 g s wd 0) = 7
                          ·
                            refine gz_ev (w := .int 7) (congrArg Value.int hw_42_8) ?_
                            refine gz_tableIn (off := 75) (tgt := 117) dX1_acquire_42 (by decide) (by decide) rfl (by decide) ?_
                            refine gz_aload_n dX1_acquire_117 rfl rfl ?_
                            refine gz_aload_n dX1_acquire_118 rfl rfl ?_
                            refine gz_iload_n dX1_acquire_119 rfl rfl ?_
                            refine gz_iload_n dX1_acquire_120 rfl rfl ?_
                            refine scX1_66 (k_X1_keepE (wd := wd) (fa := fa) (d_ := S.1) hco hlg hlf hso hfc hne.1 hZ hwN.1 hfN.1) hco ⟨(by simp only [gRm]; omega), (by simp only [gRm]; omega)⟩ ⟨(by simp only [gRm]; omega), (by simp only [gRm]; omega)⟩ rfl rfl (Nat.le_of_ble_eq_true rfl) dX1_acquire_121 ?_
                            rintro f23 ⟨l_23, z_23, x_23, y_23, hlg_23, hlf_23, hso_23, hfc_23, hst_23, hr23⟩
                            have hco_23 : f23 co = some (.inr (1, [.ref lv, .ref sc, .ref lg, .int csz])) := hr23 _ _ hco (by simp only [List.mem_cons, List.not_mem_nil, or_false, not_or]; exact ⟨cne hco hlg (by simp), cne hco hlf (by simp), cne hco hso (by simp), cne hco hfc (by simp)⟩)
                            have hp_23 : f23 p = some (.inr (2, [.ref c1, .ref c2, .int s, .int v])) := hr23 _ _ hp (by simp only [List.mem_cons, List.not_mem_nil, or_false, not_or]; exact ⟨cne hp hlg (by simp), cne hp hlf (by simp), cne hp hso (by simp), cne hp hfc (by simp)⟩)
                            have h1_23 : f23 c1 = some (.inl (cy 0, n1, .inl (g))) := hr23 _ _ h1 (by simp only [List.mem_cons, List.not_mem_nil, or_false, not_or]; exact ⟨cne h1 hlg (by simp), cne h1 hlf (by simp), Ne.symm (hne.2.1), Ne.symm (hne.2.2.2.2.1)⟩)
                            have h2_23 : f23 c2 = some (.inl (cy 0, n2, .inl (h))) := hr23 _ _ h2 (by simp only [List.mem_cons, List.not_mem_nil, or_false, not_or]; exact ⟨cne h2 hlg (by simp), cne h2 hlf (by simp), Ne.symm (hne.2.2.1), Ne.symm (hne.2.2.2.2.2.1)⟩)
                            have hsc_23 : f23 sc = some (.inr (7, [.ref th, .int da])) := hr23 _ _ hsc (by simp only [List.mem_cons, List.not_mem_nil, or_false, not_or]; exact ⟨cne hsc hlg (by simp), cne hsc hlf (by simp), cne hsc hso (by simp), cne hsc hfc (by simp)⟩)
                            have hth_23 : f23 th = some (.inl (cy 0, 6, .inl (t))) := hr23 _ _ hth (by simp only [List.mem_cons, List.not_mem_nil, or_false, not_or]; exact ⟨cne hth hlg (by simp), cne hth hlf (by simp), Ne.symm (hne.2.2.2.1), Ne.symm (hne.2.2.2.2.2.2)⟩)
                            have hen_23 : f23 en = some (.inl (cy 0, ne, .inl (eg))) := hr23 _ _ hen (by simp only [List.mem_cons, List.not_mem_nil, or_false, not_or]; exact ⟨cne hen hlg (by simp), cne hen hlf (by simp), hen2.1, hen2.2.1⟩)
                            have hl0 : lpT T S wN = false := by rw [hlp] at c_27; exact b01.mp c_27
                            have zk42_0 : (fldF n1 g s wd 0).toInt ≠ -1 := fun e => hw_42_0 (Int32.toInt_inj.mp (e.trans rfl))
                            have zk42_1 : (fldF n1 g s wd 0).toInt ≠ 0 := fun e => hw_42_1 (Int32.toInt_inj.mp (e.trans rfl))
                            have zk42_2 : (fldF n1 g s wd 0).toInt ≠ 1 := fun e => hw_42_2 (Int32.toInt_inj.mp (e.trans rfl))
                            have zk42_3 : (fldF n1 g s wd 0).toInt ≠ 2 := fun e => hw_42_3 (Int32.toInt_inj.mp (e.trans rfl))
                            have zk42_4 : (fldF n1 g s wd 0).toInt ≠ 3 := fun e => hw_42_4 (Int32.toInt_inj.mp (e.trans rfl))
                            have zk42_5 : (fldF n1 g s wd 0).toInt ≠ 4 := fun e => hw_42_5 (Int32.toInt_inj.mp (e.trans rfl))
                            have zk42_6 : (fldF n1 g s wd 0).toInt ≠ 5 := fun e => hw_42_6 (Int32.toInt_inj.mp (e.trans rfl))
                            have zk42_7 : (fldF n1 g s wd 0).toInt ≠ 6 := fun e => hw_42_7 (Int32.toInt_inj.mp (e.trans rfl))
                            have zk42_8 : (fldF n1 g s wd 0).toInt = 7 := by rw [hw_42_8]; rfl
                            have e9 := ev_4 (S := S) (f := fN) hok hvT_ h4 hwN.2 hl0 (by omega)
                            exact gz_vretU rfl dX1_acquire_124 (by omega) (by omega) (⟨_, _, _, _, _, _, _, _, _, rfl, hlg_23, hen_23, hlf_23, hso_23, hfc_23, hl, ⟨by omega, by omega⟩, (Or.inl rfl), (by rw [e9]; exact hst_23), (fr_tr fr_rf (fr_mo hr23 (by simp)))⟩)
                          ·
                            refine gz_tableOut (tgt := 125) dX1_acquire_42 (by have g0 : (fldF n1 g s wd 0).toInt ≠ -1 := fun e => hw_42_0 (Int32.toInt_inj.mp (e.trans rfl)); have g1 : (fldF n1 g s wd 0).toInt ≠ 0 := fun e => hw_42_1 (Int32.toInt_inj.mp (e.trans rfl)); have g2 : (fldF n1 g s wd 0).toInt ≠ 1 := fun e => hw_42_2 (Int32.toInt_inj.mp (e.trans rfl)); have g3 : (fldF n1 g s wd 0).toInt ≠ 2 := fun e => hw_42_3 (Int32.toInt_inj.mp (e.trans rfl)); have g4 : (fldF n1 g s wd 0).toInt ≠ 3 := fun e => hw_42_4 (Int32.toInt_inj.mp (e.trans rfl)); have g5 : (fldF n1 g s wd 0).toInt ≠ 4 := fun e => hw_42_5 (Int32.toInt_inj.mp (e.trans rfl)); have g6 : (fldF n1 g s wd 0).toInt ≠ 5 := fun e => hw_42_6 (Int32.toInt_inj.mp (e.trans rfl)); have g7 : (fldF n1 g s wd 0).toInt ≠ 6 := fun e => hw_42_7 (Int32.toInt_inj.mp (e.trans rfl)); have g8 : (fldF n1 g s wd 0).toInt ≠ 7 := fun e => hw_42_8 (Int32.toInt_inj.mp (e.trans rfl)); omega) (by decide) ?_
                            refine gz_iload dX1_acquire_125 rfl ?_
                            refine gz_bipush (v := 6) dX1_acquire_127 (by decide) ?_
                            refine gz_icmp_ne (tgt := 153) dX1_acquire_129 (by decide) (fun c_129 => ?_) (fun c_129 => ?_)
                            ·
                              refine gz_aload dX1_acquire_153 rfl ?_
                              refine gz_iload_n dX1_acquire_155 rfl rfl ?_
                              refine gz_iload_n dX1_acquire_156 rfl rfl ?_
                              refine gz_aload_n dX1_acquire_157 rfl rfl ?_
                              refine sgX1_17 hco rfl dX1_acquire_158 ?_
                              have zk42_0 : (fldF n1 g s wd 0).toInt ≠ -1 := fun e => hw_42_0 (Int32.toInt_inj.mp (e.trans rfl))
                              have zk42_1 : (fldF n1 g s wd 0).toInt ≠ 0 := fun e => hw_42_1 (Int32.toInt_inj.mp (e.trans rfl))
                              have zk42_2 : (fldF n1 g s wd 0).toInt ≠ 1 := fun e => hw_42_2 (Int32.toInt_inj.mp (e.trans rfl))
                              have zk42_3 : (fldF n1 g s wd 0).toInt ≠ 2 := fun e => hw_42_3 (Int32.toInt_inj.mp (e.trans rfl))
                              have zk42_4 : (fldF n1 g s wd 0).toInt ≠ 3 := fun e => hw_42_4 (Int32.toInt_inj.mp (e.trans rfl))
                              have zk42_5 : (fldF n1 g s wd 0).toInt ≠ 4 := fun e => hw_42_5 (Int32.toInt_inj.mp (e.trans rfl))
                              have zk42_6 : (fldF n1 g s wd 0).toInt ≠ 5 := fun e => hw_42_6 (Int32.toInt_inj.mp (e.trans rfl))
                              have zk42_7 : (fldF n1 g s wd 0).toInt ≠ 6 := fun e => hw_42_7 (Int32.toInt_inj.mp (e.trans rfl))
                              have zk42_8 : (fldF n1 g s wd 0).toInt ≠ 7 := fun e => hw_42_8 (Int32.toInt_inj.mp (e.trans rfl))
                              have hk2 : 2 ≤ (grH T wN).1 := by omega
                              refine scX1_73 (k_X2_passed (w := wd) (x := fa) hp h1 h2 hsc hth hs hv) hp ⟨(by simp only [gRm]; omega), (by simp only [gRm]; omega)⟩ ⟨(by simp only [gRm]; omega), (by simp only [gRm]; omega)⟩ rfl rfl (Nat.le_of_ble_eq_true rfl) dX1_acquire_161 ?_
                              intro v9 f9 z9; rw [z9.1, z9.2]
                              refine gz_istore (lv' := [(7, .int (pasF n1 n2 g h s v t da wd fa)), (6, .int (fldF n1 g s wd 0)), (5, .ref p), (0, .ref co), (1, .ref lf), (2, .int wd), (3, .int fa), (4, .int wi)]) dX1_acquire_164 (by decide) rfl ?_
                              refine gz_aload_n dX1_acquire_166 rfl rfl ?_
                              refine gz_aload_n dX1_acquire_167 rfl rfl ?_
                              refine gz_aload dX1_acquire_168 rfl ?_
                              refine gz_iload_n dX1_acquire_170 rfl rfl ?_
                              refine gz_aload_n dX1_acquire_171 rfl rfl ?_
                              refine sgX1_17 hco rfl dX1_acquire_172 ?_
                              refine scX1_77 (k_X2_nextDeed (w := wd) hp h1 hsc hs) hp ⟨(by simp only [gRm]; omega), (by simp only [gRm]; omega)⟩ ⟨(by simp only [gRm]; omega), (by simp only [gRm]; omega)⟩ rfl rfl (Nat.le_of_ble_eq_true rfl) dX1_acquire_175 ?_
                              intro v9 f9 z9; rw [z9.1, z9.2]
                              refine gz_iload dX1_acquire_178 rfl ?_
                              refine gz_iload dX1_acquire_180 rfl ?_
                              refine gz_iconst (v := 1) dX1_acquire_182 (by decide) ?_
                              refine gz_iadd dX1_acquire_183 ?_
                              refine suX1_32 (ih (nxtF n1 g s da wd) (pasF n1 n2 g h s v t da wd fa) (wi + 1) en _ _ sz lo fs_ ga _ _ (nxT T S wN) (psT S (grH T wN) fN) Z _ hco hlf hso hfc hp h1 h2 hsc hth hlg hen hl hen2 ⟨nxt_S hs hSn hcT_ hwN.1 hwN.2 hk2, (nx_dp (S := S) hcT_ hwN.2 hk2).1.1⟩ ⟨pas_S hs hv hSn hcT_ hwN.1 hwN.2 hfN.1 hfN.2, psT_b hfN.2⟩ (by have e1 : (1 : Int32).toInt = 1 := rfl; have hx := T_add (rfl : wi.toInt = wi.toInt) e1 (by omega); have hd9 := (nx_dp (S := S) hcT_ hwN.2 hk2).1.2; omega) hZ (by have e13 : (13 : Int32).toInt = 13 := rfl; have e0 : (0 : Int32).toInt = 0 := rfl; have e2 : (2 : Int32).toInt = 2 := rfl; have e1 : (1 : Int32).toInt = 1 := rfl; have e6 : (6 : Int32).toInt = 6 := rfl; have em2 : (-2 : Int32).toInt = -2 := rfl; have e11 : (11 : Int32).toInt = 11 := rfl; simp only [fl_lt] at c_14; have hx := T_add (rfl : wi.toInt = wi.toInt) e1 (by omega); rw [hx]; omega)) hco ⟨(by simp only [gRm]; omega), (by simp only [gRm]; omega)⟩ ⟨(by simp only [gRm]; omega), (by simp only [gRm]; omega)⟩ rfl rfl (Nat.le_of_ble_eq_true rfl) dX1_acquire_184 ?_
                              rintro kk_24 nn_24 r_24 f24 ⟨e_24, m_24, g_24, s_24, l_24, z_24, a_24, x_24, y_24, rfl, hlg_24, he_24, hlf_24, hso_24, hfc_24, hl_24, hu_24, hc_24, hst_24, hr24⟩
                              refine gz_eq (st2 := []) rfl rfl rfl rfl ?_
                              have hco_24 : f24 co = some (.inr (1, [.ref lv, .ref sc, .ref lg, .int csz])) := hr24 _ _ hco (by simp only [List.mem_cons, List.not_mem_nil, or_false, not_or]; exact ⟨cne hco hlg (by simp), cne hco hen (by simp), cne hco hlf (by simp), cne hco hso (by simp), cne hco hfc (by simp)⟩)
                              have hp_24 : f24 p = some (.inr (2, [.ref c1, .ref c2, .int s, .int v])) := hr24 _ _ hp (by simp only [List.mem_cons, List.not_mem_nil, or_false, not_or]; exact ⟨cne hp hlg (by simp), cne hp hen (by simp), cne hp hlf (by simp), cne hp hso (by simp), cne hp hfc (by simp)⟩)
                              have h1_24 : f24 c1 = some (.inl (cy 0, n1, .inl (g))) := hr24 _ _ h1 (by simp only [List.mem_cons, List.not_mem_nil, or_false, not_or]; exact ⟨cne h1 hlg (by simp), Ne.symm (hen2.2.2.1), cne h1 hlf (by simp), Ne.symm (hne.2.1), Ne.symm (hne.2.2.2.2.1)⟩)
                              have h2_24 : f24 c2 = some (.inl (cy 0, n2, .inl (h))) := hr24 _ _ h2 (by simp only [List.mem_cons, List.not_mem_nil, or_false, not_or]; exact ⟨cne h2 hlg (by simp), Ne.symm (hen2.2.2.2.1), cne h2 hlf (by simp), Ne.symm (hne.2.2.1), Ne.symm (hne.2.2.2.2.2.1)⟩)
                              have hsc_24 : f24 sc = some (.inr (7, [.ref th, .int da])) := hr24 _ _ hsc (by simp only [List.mem_cons, List.not_mem_nil, or_false, not_or]; exact ⟨cne hsc hlg (by simp), cne hsc hen (by simp), cne hsc hlf (by simp), cne hsc hso (by simp), cne hsc hfc (by simp)⟩)
                              have hth_24 : f24 th = some (.inl (cy 0, 6, .inl (t))) := hr24 _ _ hth (by simp only [List.mem_cons, List.not_mem_nil, or_false, not_or]; exact ⟨cne hth hlg (by simp), Ne.symm (hen2.2.2.2.2), cne hth hlf (by simp), Ne.symm (hne.2.2.2.1), Ne.symm (hne.2.2.2.2.2.2)⟩)
                              refine gz_iload dX1_acquire_187 rfl ?_
                              refine gz_iconst (v := 3) dX1_acquire_189 (by decide) ?_
                              refine gz_icmp_ne (tgt := 211) dX1_acquire_190 (by decide) (fun c_190 => ?_) (fun c_190 => ?_)
                              ·
                                have hl0 : lpT T S wN = false := by rw [hlp] at c_27; exact b01.mp c_27
                                have hh6 : (grH T wN).1 = 6 → hldF n1 n2 g h s v t da wd = if hlB S (grH T wN) = true then 1 else 0 := fun z => hld_S hs hv hSn hwN.1 (by omega) (hG wN (by omega)).1 (hG wN (by omega)).2.1 (by omega)
                                have zk3 : (fldF n1 g s wd 0).toInt ≠ 3 := fun e => c_190 (Int32.toInt_inj.mp (e.trans rfl))
                                have zk6 : (fldF n1 g s wd 0).toInt ≠ 6 := fun e => c_129 (Int32.toInt_inj.mp (e.trans rfl))
                                have e9 := ev_n (S := S) (f := fN) hok hvT_ h4 hwN.2 hl0 ⟨by omega, by omega, by omega, by omega⟩ (fun z => by omega)
                                exact gz_vretU rfl dX1_acquire_211 (by omega) (by omega) (⟨_, _, _, _, _, _, _, _, _, rfl, hlg_24, he_24, hlf_24, hso_24, hfc_24, hl_24, ⟨by omega, by omega⟩, hc_24, (by rw [e9]; exact hst_24), (fr_tr fr_rf (fr_mo hr24 (by simp)))⟩)
                              ·
                                refine gz_aload_n dX1_acquire_193 rfl rfl ?_
                                refine gz_aload_n dX1_acquire_194 rfl rfl ?_
                                refine gz_aload dX1_acquire_195 rfl ?_
                                refine gz_iload_n dX1_acquire_197 rfl rfl ?_
                                refine gz_iconst (v := 4) dX1_acquire_198 (by decide) ?_
                                refine scX1_49 (k_X2_field (w := wd) (k := 4) hp_24 h1_24 hs) hp_24 ⟨(by simp only [gRm]; omega), (by simp only [gRm]; omega)⟩ ⟨(by simp only [gRm]; omega), (by simp only [gRm]; omega)⟩ rfl rfl (Nat.le_of_ble_eq_true rfl) dX1_acquire_199 ?_
                                intro v9 f9 z9; rw [z9.1, z9.2]
                                refine gz_iload dX1_acquire_202 rfl ?_
                                refine gz_iload dX1_acquire_204 rfl ?_
                                refine gz_iconst (v := 1) dX1_acquire_206 (by decide) ?_
                                refine gz_iadd dX1_acquire_207 ?_
                                have h35 : (grH T wN).1 = 3 := by have z9 := congrArg Int32.toInt c_190; have e3_ : (3 : Int32).toInt = 3 := rfl; omega
                                refine suX1_32 (ih (fldF n1 g s wd 4) (pasF n1 n2 g h s v t da wd fa) (wi + 1) e_24 _ _ s_24 l_24 z_24 a_24 _ _ (grS T wN) (psT S (grH T wN) fN) (apS nu.toInt S.1 ho1.toInt ho2.toInt (ev T S (nxT T S wN) (psT S (grH T wN) fN)) Z) _ hco_24 hlf_24 hso_24 hfc_24 hp_24 h1_24 h2_24 hsc_24 hth_24 hlg_24 he_24 hl_24 ⟨(enn hc_24 hso (hen2.1)), (enn hc_24 hfc (hen2.2.1)), (enn hc_24 h1 (hen2.2.2.1)), (enn hc_24 h2 (hen2.2.2.2.1)), (enn hc_24 hth (hen2.2.2.2.2))⟩ ⟨(fk_S hs hcT_ hwN.1 hwN.2).2.2.2.2.2 (by omega), ((nx_dp (S := S) hcT_ hwN.2 hk2).2 (by omega)).1⟩ ⟨pas_S hs hv hSn hcT_ hwN.1 hwN.2 hfN.1 hfN.2, psT_b hfN.2⟩ (by have e1 : (1 : Int32).toInt = 1 := rfl; have hx := T_add (rfl : wi.toInt = wi.toInt) e1 (by omega); have hd9 := ((nx_dp (S := S) hcT_ hwN.2 hk2).2 (by omega)).2; omega) hst_24 (by have e13 : (13 : Int32).toInt = 13 := rfl; have e0 : (0 : Int32).toInt = 0 := rfl; have e2 : (2 : Int32).toInt = 2 := rfl; have e1 : (1 : Int32).toInt = 1 := rfl; have e6 : (6 : Int32).toInt = 6 := rfl; have em2 : (-2 : Int32).toInt = -2 := rfl; have e11 : (11 : Int32).toInt = 11 := rfl; simp only [fl_lt] at c_14; have hx := T_add (rfl : wi.toInt = wi.toInt) e1 (by omega); rw [hx]; omega)) hco_24 ⟨(by simp only [gRm]; omega), (by simp only [gRm]; omega)⟩ ⟨(by simp only [gRm]; omega), (by simp only [gRm]; omega)⟩ rfl rfl (Nat.le_of_ble_eq_true rfl) dX1_acquire_208 ?_
                                rintro kk_25 nn_25 r_25 f25 ⟨e_25, m_25, g_25, s_25, l_25, z_25, a_25, x_25, y_25, rfl, hlg_25, he_25, hlf_25, hso_25, hfc_25, hl_25, hu_25, hc_25, hst_25, hr25⟩
                                refine gz_eq (st2 := []) rfl rfl rfl rfl ?_
                                have hco_25 : f25 co = some (.inr (1, [.ref lv, .ref sc, .ref lg, .int csz])) := hr25 _ _ hco_24 (by simp only [List.mem_cons, List.not_mem_nil, or_false, not_or]; exact ⟨cne hco_24 hlg_24 (by simp), cne hco_24 he_24 (by simp), cne hco_24 hlf_24 (by simp), cne hco_24 hso_24 (by simp), cne hco_24 hfc_24 (by simp)⟩)
                                have hp_25 : f25 p = some (.inr (2, [.ref c1, .ref c2, .int s, .int v])) := hr25 _ _ hp_24 (by simp only [List.mem_cons, List.not_mem_nil, or_false, not_or]; exact ⟨cne hp_24 hlg_24 (by simp), cne hp_24 he_24 (by simp), cne hp_24 hlf_24 (by simp), cne hp_24 hso_24 (by simp), cne hp_24 hfc_24 (by simp)⟩)
                                have h1_25 : f25 c1 = some (.inl (cy 0, n1, .inl (g))) := hr25 _ _ h1_24 (by simp only [List.mem_cons, List.not_mem_nil, or_false, not_or]; exact ⟨cne h1_24 hlg_24 (by simp), Ne.symm ((enn hc_24 h1 (hen2.2.2.1))), cne h1_24 hlf_24 (by simp), Ne.symm (hne.2.1), Ne.symm (hne.2.2.2.2.1)⟩)
                                have h2_25 : f25 c2 = some (.inl (cy 0, n2, .inl (h))) := hr25 _ _ h2_24 (by simp only [List.mem_cons, List.not_mem_nil, or_false, not_or]; exact ⟨cne h2_24 hlg_24 (by simp), Ne.symm ((enn hc_24 h2 (hen2.2.2.2.1))), cne h2_24 hlf_24 (by simp), Ne.symm (hne.2.2.1), Ne.symm (hne.2.2.2.2.2.1)⟩)
                                have hsc_25 : f25 sc = some (.inr (7, [.ref th, .int da])) := hr25 _ _ hsc_24 (by simp only [List.mem_cons, List.not_mem_nil, or_false, not_or]; exact ⟨cne hsc_24 hlg_24 (by simp), cne hsc_24 he_24 (by simp), cne hsc_24 hlf_24 (by simp), cne hsc_24 hso_24 (by simp), cne hsc_24 hfc_24 (by simp)⟩)
                                have hth_25 : f25 th = some (.inl (cy 0, 6, .inl (t))) := hr25 _ _ hth_24 (by simp only [List.mem_cons, List.not_mem_nil, or_false, not_or]; exact ⟨cne hth_24 hlg_24 (by simp), Ne.symm ((enn hc_24 hth (hen2.2.2.2.2))), cne hth_24 hlf_24 (by simp), Ne.symm (hne.2.2.2.1), Ne.symm (hne.2.2.2.2.2.2)⟩)
                                have hcc_25 : e_25 = en ∨ f e_25 = none := eny (S := [lg, en, lf, so, fc]) hc_24 hc_25 (fr_tr fr_rf (fr_mo hr24 (by simp))) (by intro z hz2; simp only [List.mem_cons, List.not_mem_nil, or_false] at hz2; rcases hz2 with rfl | rfl | rfl | rfl | rfl; exact Or.inr ⟨_, hlg_24⟩; exact Or.inl rfl; exact Or.inr ⟨_, hlf_24⟩; exact Or.inr ⟨_, hso_24⟩; exact Or.inr ⟨_, hfc_24⟩)
                                have hl0 : lpT T S wN = false := by rw [hlp] at c_27; exact b01.mp c_27
                                have e9 := ev_3 (S := S) (f := fN) hok hvT_ h4 hwN.2 hl0 h35
                                exact gz_vretU rfl dX1_acquire_211 (by omega) (by omega) (⟨_, _, _, _, _, _, _, _, _, rfl, hlg_25, he_25, hlf_25, hso_25, hfc_25, hl_25, ⟨by omega, by omega⟩, hcc_25, (by rw [e9, apS_app]; exact hst_25), (frx hc_24 (fr_tr fr_rf (fr_mo hr24 (by simp))) hr25)⟩)
                            ·
                              refine gz_aload dX1_acquire_132 rfl ?_
                              refine gz_iload_n dX1_acquire_134 rfl rfl ?_
                              refine gz_aload_n dX1_acquire_135 rfl rfl ?_
                              refine sgX1_17 hco rfl dX1_acquire_136 ?_
                              refine scX1_70 (k_X2_holds (w := wd) hp h1 h2 hsc hth hs hv) hp ⟨(by simp only [gRm]; omega), (by simp only [gRm]; omega)⟩ ⟨(by simp only [gRm]; omega), (by simp only [gRm]; omega)⟩ rfl rfl (Nat.le_of_ble_eq_true rfl) dX1_acquire_139 ?_
                              intro v9 f9 z9; rw [z9.1, z9.2]
                              refine gz_if_ne (tgt := 153) dX1_acquire_142 (by decide) (fun c_142 => ?_) (fun c_142 => ?_)
                              ·
                                refine gz_aload dX1_acquire_153 rfl ?_
                                refine gz_iload_n dX1_acquire_155 rfl rfl ?_
                                refine gz_iload_n dX1_acquire_156 rfl rfl ?_
                                refine gz_aload_n dX1_acquire_157 rfl rfl ?_
                                refine sgX1_17 hco rfl dX1_acquire_158 ?_
                                have zk42_0 : (fldF n1 g s wd 0).toInt ≠ -1 := fun e => hw_42_0 (Int32.toInt_inj.mp (e.trans rfl))
                                have zk42_1 : (fldF n1 g s wd 0).toInt ≠ 0 := fun e => hw_42_1 (Int32.toInt_inj.mp (e.trans rfl))
                                have zk42_2 : (fldF n1 g s wd 0).toInt ≠ 1 := fun e => hw_42_2 (Int32.toInt_inj.mp (e.trans rfl))
                                have zk42_3 : (fldF n1 g s wd 0).toInt ≠ 2 := fun e => hw_42_3 (Int32.toInt_inj.mp (e.trans rfl))
                                have zk42_4 : (fldF n1 g s wd 0).toInt ≠ 3 := fun e => hw_42_4 (Int32.toInt_inj.mp (e.trans rfl))
                                have zk42_5 : (fldF n1 g s wd 0).toInt ≠ 4 := fun e => hw_42_5 (Int32.toInt_inj.mp (e.trans rfl))
                                have zk42_6 : (fldF n1 g s wd 0).toInt ≠ 5 := fun e => hw_42_6 (Int32.toInt_inj.mp (e.trans rfl))
                                have zk42_7 : (fldF n1 g s wd 0).toInt ≠ 6 := fun e => hw_42_7 (Int32.toInt_inj.mp (e.trans rfl))
                                have zk42_8 : (fldF n1 g s wd 0).toInt ≠ 7 := fun e => hw_42_8 (Int32.toInt_inj.mp (e.trans rfl))
                                have hk2 : 2 ≤ (grH T wN).1 := by omega
                                refine scX1_73 (k_X2_passed (w := wd) (x := fa) hp h1 h2 hsc hth hs hv) hp ⟨(by simp only [gRm]; omega), (by simp only [gRm]; omega)⟩ ⟨(by simp only [gRm]; omega), (by simp only [gRm]; omega)⟩ rfl rfl (Nat.le_of_ble_eq_true rfl) dX1_acquire_161 ?_
                                intro v9 f9 z9; rw [z9.1, z9.2]
                                refine gz_istore (lv' := [(7, .int (pasF n1 n2 g h s v t da wd fa)), (6, .int (fldF n1 g s wd 0)), (5, .ref p), (0, .ref co), (1, .ref lf), (2, .int wd), (3, .int fa), (4, .int wi)]) dX1_acquire_164 (by decide) rfl ?_
                                refine gz_aload_n dX1_acquire_166 rfl rfl ?_
                                refine gz_aload_n dX1_acquire_167 rfl rfl ?_
                                refine gz_aload dX1_acquire_168 rfl ?_
                                refine gz_iload_n dX1_acquire_170 rfl rfl ?_
                                refine gz_aload_n dX1_acquire_171 rfl rfl ?_
                                refine sgX1_17 hco rfl dX1_acquire_172 ?_
                                refine scX1_77 (k_X2_nextDeed (w := wd) hp h1 hsc hs) hp ⟨(by simp only [gRm]; omega), (by simp only [gRm]; omega)⟩ ⟨(by simp only [gRm]; omega), (by simp only [gRm]; omega)⟩ rfl rfl (Nat.le_of_ble_eq_true rfl) dX1_acquire_175 ?_
                                intro v9 f9 z9; rw [z9.1, z9.2]
                                refine gz_iload dX1_acquire_178 rfl ?_
                                refine gz_iload dX1_acquire_180 rfl ?_
                                refine gz_iconst (v := 1) dX1_acquire_182 (by decide) ?_
                                refine gz_iadd dX1_acquire_183 ?_
                                refine suX1_32 (ih (nxtF n1 g s da wd) (pasF n1 n2 g h s v t da wd fa) (wi + 1) en _ _ sz lo fs_ ga _ _ (nxT T S wN) (psT S (grH T wN) fN) Z _ hco hlf hso hfc hp h1 h2 hsc hth hlg hen hl hen2 ⟨nxt_S hs hSn hcT_ hwN.1 hwN.2 hk2, (nx_dp (S := S) hcT_ hwN.2 hk2).1.1⟩ ⟨pas_S hs hv hSn hcT_ hwN.1 hwN.2 hfN.1 hfN.2, psT_b hfN.2⟩ (by have e1 : (1 : Int32).toInt = 1 := rfl; have hx := T_add (rfl : wi.toInt = wi.toInt) e1 (by omega); have hd9 := (nx_dp (S := S) hcT_ hwN.2 hk2).1.2; omega) hZ (by have e13 : (13 : Int32).toInt = 13 := rfl; have e0 : (0 : Int32).toInt = 0 := rfl; have e2 : (2 : Int32).toInt = 2 := rfl; have e1 : (1 : Int32).toInt = 1 := rfl; have e6 : (6 : Int32).toInt = 6 := rfl; have em2 : (-2 : Int32).toInt = -2 := rfl; have e11 : (11 : Int32).toInt = 11 := rfl; simp only [fl_lt] at c_14; have hx := T_add (rfl : wi.toInt = wi.toInt) e1 (by omega); rw [hx]; omega)) hco ⟨(by simp only [gRm]; omega), (by simp only [gRm]; omega)⟩ ⟨(by simp only [gRm]; omega), (by simp only [gRm]; omega)⟩ rfl rfl (Nat.le_of_ble_eq_true rfl) dX1_acquire_184 ?_
                                rintro kk_26 nn_26 r_26 f26 ⟨e_26, m_26, g_26, s_26, l_26, z_26, a_26, x_26, y_26, rfl, hlg_26, he_26, hlf_26, hso_26, hfc_26, hl_26, hu_26, hc_26, hst_26, hr26⟩
                                refine gz_eq (st2 := []) rfl rfl rfl rfl ?_
                                have hco_26 : f26 co = some (.inr (1, [.ref lv, .ref sc, .ref lg, .int csz])) := hr26 _ _ hco (by simp only [List.mem_cons, List.not_mem_nil, or_false, not_or]; exact ⟨cne hco hlg (by simp), cne hco hen (by simp), cne hco hlf (by simp), cne hco hso (by simp), cne hco hfc (by simp)⟩)
                                have hp_26 : f26 p = some (.inr (2, [.ref c1, .ref c2, .int s, .int v])) := hr26 _ _ hp (by simp only [List.mem_cons, List.not_mem_nil, or_false, not_or]; exact ⟨cne hp hlg (by simp), cne hp hen (by simp), cne hp hlf (by simp), cne hp hso (by simp), cne hp hfc (by simp)⟩)
                                have h1_26 : f26 c1 = some (.inl (cy 0, n1, .inl (g))) := hr26 _ _ h1 (by simp only [List.mem_cons, List.not_mem_nil, or_false, not_or]; exact ⟨cne h1 hlg (by simp), Ne.symm (hen2.2.2.1), cne h1 hlf (by simp), Ne.symm (hne.2.1), Ne.symm (hne.2.2.2.2.1)⟩)
                                have h2_26 : f26 c2 = some (.inl (cy 0, n2, .inl (h))) := hr26 _ _ h2 (by simp only [List.mem_cons, List.not_mem_nil, or_false, not_or]; exact ⟨cne h2 hlg (by simp), Ne.symm (hen2.2.2.2.1), cne h2 hlf (by simp), Ne.symm (hne.2.2.1), Ne.symm (hne.2.2.2.2.2.1)⟩)
                                have hsc_26 : f26 sc = some (.inr (7, [.ref th, .int da])) := hr26 _ _ hsc (by simp only [List.mem_cons, List.not_mem_nil, or_false, not_or]; exact ⟨cne hsc hlg (by simp), cne hsc hen (by simp), cne hsc hlf (by simp), cne hsc hso (by simp), cne hsc hfc (by simp)⟩)
                                have hth_26 : f26 th = some (.inl (cy 0, 6, .inl (t))) := hr26 _ _ hth (by simp only [List.mem_cons, List.not_mem_nil, or_false, not_or]; exact ⟨cne hth hlg (by simp), Ne.symm (hen2.2.2.2.2), cne hth hlf (by simp), Ne.symm (hne.2.2.2.1), Ne.symm (hne.2.2.2.2.2.2)⟩)
                                refine gz_iload dX1_acquire_187 rfl ?_
                                refine gz_iconst (v := 3) dX1_acquire_189 (by decide) ?_
                                refine gz_icmp_ne (tgt := 211) dX1_acquire_190 (by decide) (fun c_190 => ?_) (fun c_190 => ?_)
                                ·
                                  have hl0 : lpT T S wN = false := by rw [hlp] at c_27; exact b01.mp c_27
                                  have hh6 : (grH T wN).1 = 6 → hldF n1 n2 g h s v t da wd = if hlB S (grH T wN) = true then 1 else 0 := fun z => hld_S hs hv hSn hwN.1 (by omega) (hG wN (by omega)).1 (hG wN (by omega)).2.1 (by omega)
                                  have zk3 : (fldF n1 g s wd 0).toInt ≠ 3 := fun e => c_190 (Int32.toInt_inj.mp (e.trans rfl))
                                  have e9 := ev_n (S := S) (f := fN) hok hvT_ h4 hwN.2 hl0 ⟨by omega, by omega, by omega, by omega⟩ (fun z => by have q9 := hh6 z; rw [q9] at c_142; cases hb : hlB S (grH T wN); (exact absurd (b01.mpr hb) c_142); rfl)
                                  exact gz_vretU rfl dX1_acquire_211 (by omega) (by omega) (⟨_, _, _, _, _, _, _, _, _, rfl, hlg_26, he_26, hlf_26, hso_26, hfc_26, hl_26, ⟨by omega, by omega⟩, hc_26, (by rw [e9]; exact hst_26), (fr_tr fr_rf (fr_mo hr26 (by simp)))⟩)
                                ·
                                  refine gz_aload_n dX1_acquire_193 rfl rfl ?_
                                  refine gz_aload_n dX1_acquire_194 rfl rfl ?_
                                  refine gz_aload dX1_acquire_195 rfl ?_
                                  refine gz_iload_n dX1_acquire_197 rfl rfl ?_
                                  refine gz_iconst (v := 4) dX1_acquire_198 (by decide) ?_
                                  refine scX1_49 (k_X2_field (w := wd) (k := 4) hp_26 h1_26 hs) hp_26 ⟨(by simp only [gRm]; omega), (by simp only [gRm]; omega)⟩ ⟨(by simp only [gRm]; omega), (by simp only [gRm]; omega)⟩ rfl rfl (Nat.le_of_ble_eq_true rfl) dX1_acquire_199 ?_
                                  intro v9 f9 z9; rw [z9.1, z9.2]
                                  refine gz_iload dX1_acquire_202 rfl ?_
                                  refine gz_iload dX1_acquire_204 rfl ?_
                                  refine gz_iconst (v := 1) dX1_acquire_206 (by decide) ?_
                                  refine gz_iadd dX1_acquire_207 ?_
                                  have h35 : (grH T wN).1 = 3 := by have z9 := congrArg Int32.toInt c_190; have e3_ : (3 : Int32).toInt = 3 := rfl; omega
                                  refine suX1_32 (ih (fldF n1 g s wd 4) (pasF n1 n2 g h s v t da wd fa) (wi + 1) e_26 _ _ s_26 l_26 z_26 a_26 _ _ (grS T wN) (psT S (grH T wN) fN) (apS nu.toInt S.1 ho1.toInt ho2.toInt (ev T S (nxT T S wN) (psT S (grH T wN) fN)) Z) _ hco_26 hlf_26 hso_26 hfc_26 hp_26 h1_26 h2_26 hsc_26 hth_26 hlg_26 he_26 hl_26 ⟨(enn hc_26 hso (hen2.1)), (enn hc_26 hfc (hen2.2.1)), (enn hc_26 h1 (hen2.2.2.1)), (enn hc_26 h2 (hen2.2.2.2.1)), (enn hc_26 hth (hen2.2.2.2.2))⟩ ⟨(fk_S hs hcT_ hwN.1 hwN.2).2.2.2.2.2 (by omega), ((nx_dp (S := S) hcT_ hwN.2 hk2).2 (by omega)).1⟩ ⟨pas_S hs hv hSn hcT_ hwN.1 hwN.2 hfN.1 hfN.2, psT_b hfN.2⟩ (by have e1 : (1 : Int32).toInt = 1 := rfl; have hx := T_add (rfl : wi.toInt = wi.toInt) e1 (by omega); have hd9 := ((nx_dp (S := S) hcT_ hwN.2 hk2).2 (by omega)).2; omega) hst_26 (by have e13 : (13 : Int32).toInt = 13 := rfl; have e0 : (0 : Int32).toInt = 0 := rfl; have e2 : (2 : Int32).toInt = 2 := rfl; have e1 : (1 : Int32).toInt = 1 := rfl; have e6 : (6 : Int32).toInt = 6 := rfl; have em2 : (-2 : Int32).toInt = -2 := rfl; have e11 : (11 : Int32).toInt = 11 := rfl; simp only [fl_lt] at c_14; have hx := T_add (rfl : wi.toInt = wi.toInt) e1 (by omega); rw [hx]; omega)) hco_26 ⟨(by simp only [gRm]; omega), (by simp only [gRm]; omega)⟩ ⟨(by simp only [gRm]; omega), (by simp only [gRm]; omega)⟩ rfl rfl (Nat.le_of_ble_eq_true rfl) dX1_acquire_208 ?_
                                  rintro kk_27 nn_27 r_27 f27 ⟨e_27, m_27, g_27, s_27, l_27, z_27, a_27, x_27, y_27, rfl, hlg_27, he_27, hlf_27, hso_27, hfc_27, hl_27, hu_27, hc_27, hst_27, hr27⟩
                                  refine gz_eq (st2 := []) rfl rfl rfl rfl ?_
                                  have hco_27 : f27 co = some (.inr (1, [.ref lv, .ref sc, .ref lg, .int csz])) := hr27 _ _ hco_26 (by simp only [List.mem_cons, List.not_mem_nil, or_false, not_or]; exact ⟨cne hco_26 hlg_26 (by simp), cne hco_26 he_26 (by simp), cne hco_26 hlf_26 (by simp), cne hco_26 hso_26 (by simp), cne hco_26 hfc_26 (by simp)⟩)
                                  have hp_27 : f27 p = some (.inr (2, [.ref c1, .ref c2, .int s, .int v])) := hr27 _ _ hp_26 (by simp only [List.mem_cons, List.not_mem_nil, or_false, not_or]; exact ⟨cne hp_26 hlg_26 (by simp), cne hp_26 he_26 (by simp), cne hp_26 hlf_26 (by simp), cne hp_26 hso_26 (by simp), cne hp_26 hfc_26 (by simp)⟩)
                                  have h1_27 : f27 c1 = some (.inl (cy 0, n1, .inl (g))) := hr27 _ _ h1_26 (by simp only [List.mem_cons, List.not_mem_nil, or_false, not_or]; exact ⟨cne h1_26 hlg_26 (by simp), Ne.symm ((enn hc_26 h1 (hen2.2.2.1))), cne h1_26 hlf_26 (by simp), Ne.symm (hne.2.1), Ne.symm (hne.2.2.2.2.1)⟩)
                                  have h2_27 : f27 c2 = some (.inl (cy 0, n2, .inl (h))) := hr27 _ _ h2_26 (by simp only [List.mem_cons, List.not_mem_nil, or_false, not_or]; exact ⟨cne h2_26 hlg_26 (by simp), Ne.symm ((enn hc_26 h2 (hen2.2.2.2.1))), cne h2_26 hlf_26 (by simp), Ne.symm (hne.2.2.1), Ne.symm (hne.2.2.2.2.2.1)⟩)
                                  have hsc_27 : f27 sc = some (.inr (7, [.ref th, .int da])) := hr27 _ _ hsc_26 (by simp only [List.mem_cons, List.not_mem_nil, or_false, not_or]; exact ⟨cne hsc_26 hlg_26 (by simp), cne hsc_26 he_26 (by simp), cne hsc_26 hlf_26 (by simp), cne hsc_26 hso_26 (by simp), cne hsc_26 hfc_26 (by simp)⟩)
                                  have hth_27 : f27 th = some (.inl (cy 0, 6, .inl (t))) := hr27 _ _ hth_26 (by simp only [List.mem_cons, List.not_mem_nil, or_false, not_or]; exact ⟨cne hth_26 hlg_26 (by simp), Ne.symm ((enn hc_26 hth (hen2.2.2.2.2))), cne hth_26 hlf_26 (by simp), Ne.symm (hne.2.2.2.1), Ne.symm (hne.2.2.2.2.2.2)⟩)
                                  have hcc_27 : e_27 = en ∨ f e_27 = none := eny (S := [lg, en, lf, so, fc]) hc_26 hc_27 (fr_tr fr_rf (fr_mo hr26 (by simp))) (by intro z hz2; simp only [List.mem_cons, List.not_mem_nil, or_false] at hz2; rcases hz2 with rfl | rfl | rfl | rfl | rfl; exact Or.inr ⟨_, hlg_26⟩; exact Or.inl rfl; exact Or.inr ⟨_, hlf_26⟩; exact Or.inr ⟨_, hso_26⟩; exact Or.inr ⟨_, hfc_26⟩)
                                  have hl0 : lpT T S wN = false := by rw [hlp] at c_27; exact b01.mp c_27
                                  have e9 := ev_3 (S := S) (f := fN) hok hvT_ h4 hwN.2 hl0 h35
                                  exact gz_vretU rfl dX1_acquire_211 (by omega) (by omega) (⟨_, _, _, _, _, _, _, _, _, rfl, hlg_27, he_27, hlf_27, hso_27, hfc_27, hl_27, ⟨by omega, by omega⟩, hcc_27, (by rw [e9, apS_app]; exact hst_27), (frx hc_26 (fr_tr fr_rf (fr_mo hr26 (by simp))) hr27)⟩)
                              ·
                                refine gz_aload_n dX1_acquire_145 rfl rfl ?_
                                refine gz_aload_n dX1_acquire_146 rfl rfl ?_
                                refine gz_iload_n dX1_acquire_147 rfl rfl ?_
                                refine gz_iload_n dX1_acquire_148 rfl rfl ?_
                                refine scX1_66 (k_X1_keepE (wd := wd) (fa := fa) (d_ := S.1) hco hlg hlf hso hfc hne.1 hZ hwN.1 hfN.1) hco ⟨(by simp only [gRm]; omega), (by simp only [gRm]; omega)⟩ ⟨(by simp only [gRm]; omega), (by simp only [gRm]; omega)⟩ rfl rfl (Nat.le_of_ble_eq_true rfl) dX1_acquire_149 ?_
                                rintro f28 ⟨l_28, z_28, x_28, y_28, hlg_28, hlf_28, hso_28, hfc_28, hst_28, hr28⟩
                                have hco_28 : f28 co = some (.inr (1, [.ref lv, .ref sc, .ref lg, .int csz])) := hr28 _ _ hco (by simp only [List.mem_cons, List.not_mem_nil, or_false, not_or]; exact ⟨cne hco hlg (by simp), cne hco hlf (by simp), cne hco hso (by simp), cne hco hfc (by simp)⟩)
                                have hp_28 : f28 p = some (.inr (2, [.ref c1, .ref c2, .int s, .int v])) := hr28 _ _ hp (by simp only [List.mem_cons, List.not_mem_nil, or_false, not_or]; exact ⟨cne hp hlg (by simp), cne hp hlf (by simp), cne hp hso (by simp), cne hp hfc (by simp)⟩)
                                have h1_28 : f28 c1 = some (.inl (cy 0, n1, .inl (g))) := hr28 _ _ h1 (by simp only [List.mem_cons, List.not_mem_nil, or_false, not_or]; exact ⟨cne h1 hlg (by simp), cne h1 hlf (by simp), Ne.symm (hne.2.1), Ne.symm (hne.2.2.2.2.1)⟩)
                                have h2_28 : f28 c2 = some (.inl (cy 0, n2, .inl (h))) := hr28 _ _ h2 (by simp only [List.mem_cons, List.not_mem_nil, or_false, not_or]; exact ⟨cne h2 hlg (by simp), cne h2 hlf (by simp), Ne.symm (hne.2.2.1), Ne.symm (hne.2.2.2.2.2.1)⟩)
                                have hsc_28 : f28 sc = some (.inr (7, [.ref th, .int da])) := hr28 _ _ hsc (by simp only [List.mem_cons, List.not_mem_nil, or_false, not_or]; exact ⟨cne hsc hlg (by simp), cne hsc hlf (by simp), cne hsc hso (by simp), cne hsc hfc (by simp)⟩)
                                have hth_28 : f28 th = some (.inl (cy 0, 6, .inl (t))) := hr28 _ _ hth (by simp only [List.mem_cons, List.not_mem_nil, or_false, not_or]; exact ⟨cne hth hlg (by simp), cne hth hlf (by simp), Ne.symm (hne.2.2.2.1), Ne.symm (hne.2.2.2.2.2.2)⟩)
                                have hen_28 : f28 en = some (.inl (cy 0, ne, .inl (eg))) := hr28 _ _ hen (by simp only [List.mem_cons, List.not_mem_nil, or_false, not_or]; exact ⟨cne hen hlg (by simp), cne hen hlf (by simp), hen2.1, hen2.2.1⟩)
                                have hl0 : lpT T S wN = false := by rw [hlp] at c_27; exact b01.mp c_27
                                have zk42_0 : (fldF n1 g s wd 0).toInt ≠ -1 := fun e => hw_42_0 (Int32.toInt_inj.mp (e.trans rfl))
                                have zk42_1 : (fldF n1 g s wd 0).toInt ≠ 0 := fun e => hw_42_1 (Int32.toInt_inj.mp (e.trans rfl))
                                have zk42_2 : (fldF n1 g s wd 0).toInt ≠ 1 := fun e => hw_42_2 (Int32.toInt_inj.mp (e.trans rfl))
                                have zk42_3 : (fldF n1 g s wd 0).toInt ≠ 2 := fun e => hw_42_3 (Int32.toInt_inj.mp (e.trans rfl))
                                have zk42_4 : (fldF n1 g s wd 0).toInt ≠ 3 := fun e => hw_42_4 (Int32.toInt_inj.mp (e.trans rfl))
                                have zk42_5 : (fldF n1 g s wd 0).toInt ≠ 4 := fun e => hw_42_5 (Int32.toInt_inj.mp (e.trans rfl))
                                have zk42_6 : (fldF n1 g s wd 0).toInt ≠ 5 := fun e => hw_42_6 (Int32.toInt_inj.mp (e.trans rfl))
                                have zk42_7 : (fldF n1 g s wd 0).toInt ≠ 6 := fun e => hw_42_7 (Int32.toInt_inj.mp (e.trans rfl))
                                have zk42_8 : (fldF n1 g s wd 0).toInt ≠ 7 := fun e => hw_42_8 (Int32.toInt_inj.mp (e.trans rfl))
                                have hh6 : (grH T wN).1 = 6 → hldF n1 n2 g h s v t da wd = if hlB S (grH T wN) = true then 1 else 0 := fun z => hld_S hs hv hSn hwN.1 (by omega) (hG wN (by omega)).1 (hG wN (by omega)).2.1 (by omega)
                                have zk6 : (fldF n1 g s wd 0).toInt = 6 := by rw [c_129]; rfl
                                have e9 := ev_4 (S := S) (f := fN) hok hvT_ h4 hwN.2 hl0 (Or.inr (Or.inr ⟨by omega, by have q9 := hh6 (by omega); rw [q9] at c_142; exact b01.mp c_142⟩))
                                exact gz_vretU rfl dX1_acquire_152 (by omega) (by omega) (⟨_, _, _, _, _, _, _, _, _, rfl, hlg_28, hen_28, hlf_28, hso_28, hfc_28, hl, ⟨by omega, by omega⟩, (Or.inl rfl), (by rw [e9]; exact hst_28), (fr_tr fr_rf (fr_mo hr28 (by simp)))⟩)
        ·
          have hl1 : lpT T S wN = true := by rw [hlp] at c_27; cases hb : lpT T S wN; (exact absurd (b01.mpr hb) c_27); rfl
          exact gz_vretU rfl dX1_acquire_30 (by omega) (by omega) (⟨_, _, _, _, _, _, _, _, _, rfl, hlg, hen, hlf, hso, hfc, hl, ⟨by omega, by omega⟩, (Or.inl rfl), (by rw [ev_lp hl1]; exact hZ), fr_rf⟩)
