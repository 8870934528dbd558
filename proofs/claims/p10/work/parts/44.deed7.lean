theorem nt_2000 (i : Nat) (hi : i < 40) : ∀ k : Nat, 12000 ≤ k ∧ k < 13000 → (k < 12000 + 3 * i ∨ 12000 + 3 * i + 3 ≤ k) → ¬ (k = 9000 ∨ k = 9001 ∨ k = 12000 + 3 * i ∨ k = 12000 + 3 * i + 1 ∨ k = 12000 + 3 * i + 2) := by intro k hk h2 hT; omega
theorem nt_2001 (i : Nat) (hi : i < 40) : ∀ k : Nat, 13000 ≤ k ∧ k < 14000 → ¬ (k = 9000 ∨ k = 9001 ∨ k = 12000 + 3 * i ∨ k = 12000 + 3 * i + 1 ∨ k = 12000 + 3 * i + 2) := by intro k hk hT; omega
theorem nt_2002 (i : Nat) (hi : i < 40) : ∀ k : Nat, 1000 ≤ k ∧ k < 2000 → ¬ (k = 9000 ∨ k = 9001 ∨ k = 12000 + 3 * i ∨ k = 12000 + 3 * i + 1 ∨ k = 12000 + 3 * i + 2) := by intro k hk hT; omega
theorem nt_2003 (i : Nat) (hi : i < 40) : ∀ k : Nat, 2000 ≤ k ∧ k < 3000 → ¬ (k = 9000 ∨ k = 9001 ∨ k = 12000 + 3 * i ∨ k = 12000 + 3 * i + 1 ∨ k = 12000 + 3 * i + 2) := by intro k hk hT; omega
theorem nt_2004 (i : Nat) (hi : i < 40) : ∀ k : Nat, 14000 ≤ k ∧ k < 15000 → ¬ (k = 9000 ∨ k = 9001 ∨ k = 12000 + 3 * i ∨ k = 12000 + 3 * i + 1 ∨ k = 12000 + 3 * i + 2) := by intro k hk hT; omega
theorem nt_2005 (i : Nat) (hi : i < 40) : ∀ k : Nat, 5000 ≤ k ∧ k < 6000 → ¬ (k = 9000 ∨ k = 9001 ∨ k = 12000 + 3 * i ∨ k = 12000 + 3 * i + 1 ∨ k = 12000 + 3 * i + 2) := by intro k hk hT; omega
theorem nt_2006 (i : Nat) (hi : i < 40) : ∀ k : Nat, 4000 ≤ k ∧ k < 5000 → ¬ (k = 9000 ∨ k = 9001 ∨ k = 12000 + 3 * i ∨ k = 12000 + 3 * i + 1 ∨ k = 12000 + 3 * i + 2) := by intro k hk hT; omega
theorem nt_2007 (i : Nat) (hi : i < 40) : ∀ k : Nat, 6000 ≤ k ∧ k < 7000 → ¬ (k = 9000 ∨ k = 9001 ∨ k = 12000 + 3 * i ∨ k = 12000 + 3 * i + 1 ∨ k = 12000 + 3 * i + 2) := by intro k hk hT; omega
theorem nt_2008 (i : Nat) (hi : i < 40) : ∀ k : Nat, 7000 ≤ k ∧ k < 8000 → ¬ (k = 9000 ∨ k = 9001 ∨ k = 12000 + 3 * i ∨ k = 12000 + 3 * i + 1 ∨ k = 12000 + 3 * i + 2) := by intro k hk hT; omega
theorem nt_2009 (i : Nat) (hi : i < 40) : ∀ k : Nat, 3000 ≤ k ∧ k < 4000 → ¬ (k = 9000 ∨ k = 9001 ∨ k = 12000 + 3 * i ∨ k = 12000 + 3 * i + 1 ∨ k = 12000 + 3 * i + 2) := by intro k hk hT; omega
theorem nt_2010 (i : Nat) (hi : i < 40) : ∀ k : Nat, 8000 ≤ k ∧ k < 9000 → ¬ (k = 9000 ∨ k = 9001 ∨ k = 12000 + 3 * i ∨ k = 12000 + 3 * i + 1 ∨ k = 12000 + 3 * i + 2) := by intro k hk hT; omega
theorem nt_2011 (i : Nat) (hi : i < 40) : ∀ k : Nat, 9002 ≤ k ∧ k < 9003 → ¬ (k = 9000 ∨ k = 9001 ∨ k = 12000 + 3 * i ∨ k = 12000 + 3 * i + 1 ∨ k = 12000 + 3 * i + 2) := by intro k hk hT; omega
theorem nt_2012 (i : Nat) (hi : i < 40) : ∀ k : Nat, 9003 ≤ k ∧ k < 9004 → ¬ (k = 9000 ∨ k = 9001 ∨ k = 12000 + 3 * i ∨ k = 12000 + 3 * i + 1 ∨ k = 12000 + 3 * i + 2) := by intro k hk hT; omega
theorem nt_2013 (i : Nat) (hi : i < 40) : ∀ k : Nat, 9004 ≤ k ∧ k < 9005 → ¬ (k = 9000 ∨ k = 9001 ∨ k = 12000 + 3 * i ∨ k = 12000 + 3 * i + 1 ∨ k = 12000 + 3 * i + 2) := by intro k hk hT; omega
theorem nt_2014 (i : Nat) (hi : i < 40) : ∀ k : Nat, 9005 ≤ k ∧ k < 9006 → ¬ (k = 9000 ∨ k = 9001 ∨ k = 12000 + 3 * i ∨ k = 12000 + 3 * i + 1 ∨ k = 12000 + 3 * i + 2) := by intro k hk hT; omega
theorem nt_2015 (i : Nat) (hi : i < 40) : ∀ k : Nat, 9006 ≤ k ∧ k < 9007 → ¬ (k = 9000 ∨ k = 9001 ∨ k = 12000 + 3 * i ∨ k = 12000 + 3 * i + 1 ∨ k = 12000 + 3 * i + 2) := by intro k hk hT; omega
theorem nt_2016 (i : Nat) (hi : i < 40) : ∀ k : Nat, 10000 ≤ k ∧ k < 11000 → ¬ (k = 9000 ∨ k = 9001 ∨ k = 12000 + 3 * i ∨ k = 12000 + 3 * i + 1 ∨ k = 12000 + 3 * i + 2) := by intro k hk hT; omega
theorem nt_2017 (i : Nat) (hi : i < 40) : ∀ k : Nat, 11000 ≤ k ∧ k < 12000 → ¬ (k = 9000 ∨ k = 9001 ∨ k = 12000 + 3 * i ∨ k = 12000 + 3 * i + 1 ∨ k = 12000 + 3 * i + 2) := by intro k hk hT; omega
theorem nt_2018 (i : Nat) (hi : i < 40) : ∀ k : Nat, 15000 ≤ k ∧ k < 16000 → ¬ (k = 9000 ∨ k = 9001 ∨ k = 12000 + 3 * i ∨ k = 12000 + 3 * i + 1 ∨ k = 12000 + 3 * i + 2) := by intro k hk hT; omega
theorem nt_2019 (i : Nat) (hi : i < 40) : ∀ k : Nat, 0 ≤ k ∧ k < 1 → ¬ (k = 9000 ∨ k = 9001 ∨ k = 12000 + 3 * i ∨ k = 12000 + 3 * i + 1 ∨ k = 12000 + 3 * i + 2) := by intro k hk hT; omega
set_option maxHeartbeats 4000000 in
set_option maxRecDepth 100000 in
theorem i_X11_take {l : Launch} {D : va_G} {cy : Nat → ClassId} {b : Nat} {f : gMem} {own : Nat → Nat} {xo : Nat} {da : Int32} {fcn : Int32} {csz : Int32} {sz : Int32} {len : Int32} {ln : Int32} {wz : Int32} {lo : Int32} {tg : Nat → Int32} {weg : Nat → Int32} {stg : Nat → Int32} {tpg : Nat → Int32} {CN : Nat → Int32 → Int32 → (Nat → Int32) → (Nat → Int32) → Prop} {ne : Nat} {x y u : Int32} (hI : xI cy own xo da fcn csz sz len ln wz lo tg weg stg tpg CN ne f)  : gU l D cy b yX11_take cX11_take 4 (some .int) 21 (24000 - ne) (2 * (24000 - ne)) [.ref xo, .int x, .int y, .int u] f gTt (fun kk nn r f2 => ∃ r9 : Int32, r = some (.int r9) ∧ ∃ (own2 : Nat → Nat) (sz2 : Int32) (lo2 : Int32) (ne2 : Nat) , xI cy own2 xo da fcn csz sz2 len ln wz lo2 tg weg stg tpg CN ne2 f2 ∧ kp0 own own2 f f2 ∧ (kk + ne ≤ ne2 + 3 ∧ nn + 2 * ne ≤ 2 * ne2 + 604)) := by
  obtain ⟨ch, sc, tp, ou, fm, dr, dt_, rd, te, la, lg, co, wo, fmg, lvg, HcXo, HcCh, HcTp, HcOu, HcFa, HcFm, HcDr, HcOt, HcRt, HcLa, HcLg, HcCo, HcLv, HcWo, HcFn⟩ := id hI
  obtain ⟨og_xo, hxo, mcXo⟩ := id HcXo
  obtain ⟨lv, ⟨og_co, og_lv⟩, hco, hlv, mcCo⟩ := id HcCo
  obtain ⟨tl, th, t, ⟨og_ch, og_tl, og_sc, og_th⟩, hch, htl, hsc, hth, mcCh⟩ := id HcCh
  obtain ⟨en, ge, re, gv, tk, am, gi, eg, gvg, tkg, geg, reg, amg, ⟨og_lg, og_en, og_ge, og_re, og_gv, og_tk, og_am⟩, hlg, hen, hge, hre, hgv, htk, ham, mcLg⟩ := id HcLg
  refine gU_of (by decide) (Nat.le_of_ble_eq_true rfl) ?_
  show gG l _ _ _ D cy b cX11_take 4 _ RX11 "take" 0 0 f 0 [(0, .ref xo), (1, .int x), (2, .int y), (3, .int u)] []
  refine gz_aload_n dX11_take_0 rfl rfl ?_
  refine sgX11_85 hxo rfl dX11_take_1 ?_
  refine gz_iload_n dX11_take_4 rfl rfl ?_
  refine gz_iload_n dX11_take_5 rfl rfl ?_
  refine gz_iload_n dX11_take_6 rfl rfl ?_
  refine gz_bipush (v := 7) dX11_take_7 (by decide) ?_
  refine gz_iconst (v := 0) dX11_take_9 (by decide) ?_
  cases hA : lifeF csz lvg x with
  | none =>
    refine suX11_177 (k_X1_decideN (kx := y) (hx_ := u) (kd := 7) (wh := 0) hco hlv hA) hco ⟨(Nat.le_of_ble_eq_true rfl), (Nat.le_of_ble_eq_true rfl)⟩ ⟨(by simp only [gRm]; omega), (by simp only [gRm]; omega)⟩ rfl rfl (Nat.le_of_ble_eq_true rfl) dX11_take_10 ?_
    rintro kk_0 nn_0 r_0 f_0 ⟨z1, z2, z3, z4⟩
    subst z1 z2 z3
    rw [z4]
    refine gz_eq (st2 := [.int (-1)]) rfl rfl rfl rfl ?_
    exact gz_iretU rfl dX11_take_13 (by omega) (by omega) (⟨_, rfl, ⟨own, _, _, _, hI, kp0_rf, ⟨by omega, by omega⟩⟩⟩)
  | some lf =>
    have hilf := (lifeF_some hA).1
    have hjlf := (lifeF_some hA).2
    obtain ⟨p, so, fc, jf, nu, ho1, ho2, fs_, ga, sg, fg, hLf, hjf, hjp⟩ := HcLv _ _ hilf hjlf
    obtain ⟨⟨og_lf, og_so, og_fc⟩, hlf, hso, hfc⟩ := id hLf
    obtain ⟨c1, c2, n1, n2, s, v, g, h, ⟨⟨og_p, og_c1, og_c2⟩, hp, hc1, hc2, hs, hv, hFI⟩, hCN⟩ := HcFm _ _ hjf hjp
    refine suX11_177 (k_X1_decide (kx := y) (hx_ := u) (kd := 7) (wh := 0) (y2 := 0) hco hlv hlf hso hfc hp hc1 hc2 hsc hth hlg hen hs hv ⟨(tgn og_so og_fc (by omega)), (tgn og_so og_c1 (by omega)), (tgn og_so og_c2 (by omega)), (tgn og_so og_th (by omega)), (tgn og_fc og_c1 (by omega)), (tgn og_fc og_c2 (by omega)), (tgn og_fc og_th (by omega))⟩ mcLg ⟨(tgn og_en og_so (by omega)), (tgn og_en og_fc (by omega)), (tgn og_en og_c1 (by omega)), (tgn og_en og_c2 (by omega)), (tgn og_en og_th (by decide))⟩ hA) hco ⟨(Nat.le_of_ble_eq_true rfl), (Nat.le_of_ble_eq_true rfl)⟩ ⟨(by simp only [gRm]; omega), (by simp only [gRm]; omega)⟩ rfl rfl (Nat.le_of_ble_eq_true rfl) dX11_take_10 ?_
    rintro kk_1 nn_1 r_1 f1 ⟨rr_1, e_1, m_1, g_1, s_1, l_1, z_1, a_1, x_1, y_1, rfl, hlg_1, he_1, hlf_1, hso_1, hfc_1, hl_1, hu_1, hc_1, hr1⟩
    refine gz_eq (st2 := [.int rr_1]) rfl rfl rfl rfl ?_
    have hxo_1 : f1 xo = some (.inr (11, [.ref ch, .ref tp, .ref ou, .ref fm, .ref dr, .ref dt_, .ref rd, .ref te, .ref la, .ref lg, .ref co, .ref wo, .int fcn])) := hr1 _ _ hxo (by simp only [List.mem_cons, List.not_mem_nil, or_false, not_or]; exact ⟨(tgn og_xo og_lg (by decide)), (tgn og_xo og_en (by decide)), (tgn og_xo og_lf (by omega)), (tgn og_xo og_so (by omega)), (tgn og_xo og_fc (by omega))⟩)
    have hco_1 : f1 co = some (.inr (1, [.ref lv, .ref sc, .ref lg, .int csz])) := hr1 _ _ hco (by simp only [List.mem_cons, List.not_mem_nil, or_false, not_or]; exact ⟨(tgn og_co og_lg (by decide)), (tgn og_co og_en (by decide)), (tgn og_co og_lf (by omega)), (tgn og_co og_so (by omega)), (tgn og_co og_fc (by omega))⟩)
    have hlv_1 : f1 lv = some (.inl (cy 5, 40, .inr (.inr (.inr (.inr (lvg)))))) := hr1 _ _ hlv (by simp only [List.mem_cons, List.not_mem_nil, or_false, not_or]; exact ⟨(tgn og_lv og_lg (by decide)), (tgn og_lv og_en (by decide)), (tgn og_lv og_lf (by omega)), (tgn og_lv og_so (by omega)), (tgn og_lv og_fc (by omega))⟩)
    have hch_1 : f1 ch = some (.inr (0, [.ref tl, .ref sc])) := hr1 _ _ hch (by simp only [List.mem_cons, List.not_mem_nil, or_false, not_or]; exact ⟨(tgn og_ch og_lg (by decide)), (tgn og_ch og_en (by decide)), (tgn og_ch og_lf (by omega)), (tgn og_ch og_so (by omega)), (tgn og_ch og_fc (by omega))⟩)
    have htl_1 : f1 tl = some (.inl (cy 0, 2400, .inl (tg))) := hr1 _ _ htl (by simp only [List.mem_cons, List.not_mem_nil, or_false, not_or]; exact ⟨(tgn og_tl og_lg (by decide)), (tgn og_tl og_en (by decide)), (tgn og_tl og_lf (by omega)), (tgn og_tl og_so (by omega)), (tgn og_tl og_fc (by omega))⟩)
    have hsc_1 : f1 sc = some (.inr (7, [.ref th, .int da])) := hr1 _ _ hsc (by simp only [List.mem_cons, List.not_mem_nil, or_false, not_or]; exact ⟨(tgn og_sc og_lg (by decide)), (tgn og_sc og_en (by decide)), (tgn og_sc og_lf (by omega)), (tgn og_sc og_so (by omega)), (tgn og_sc og_fc (by omega))⟩)
    have hth_1 : f1 th = some (.inl (cy 0, 6, .inl (t))) := hr1 _ _ hth (by simp only [List.mem_cons, List.not_mem_nil, or_false, not_or]; exact ⟨(tgn og_th og_lg (by decide)), (tgn og_th og_en (by decide)), (tgn og_th og_lf (by omega)), (tgn og_th og_so (by omega)), (tgn og_th og_fc (by omega))⟩)
    have hge_1 : f1 ge = some (.inl (cy 2, 8, .inr (.inl (geg)))) := hr1 _ _ hge (by simp only [List.mem_cons, List.not_mem_nil, or_false, not_or]; exact ⟨(tgn og_ge og_lg (by decide)), (tgn og_ge og_en (by decide)), (tgn og_ge og_lf (by omega)), (tgn og_ge og_so (by omega)), (tgn og_ge og_fc (by omega))⟩)
    have hre_1 : f1 re = some (.inl (cy 2, 8, .inr (.inl (reg)))) := hr1 _ _ hre (by simp only [List.mem_cons, List.not_mem_nil, or_false, not_or]; exact ⟨(tgn og_re og_lg (by decide)), (tgn og_re og_en (by decide)), (tgn og_re og_lf (by omega)), (tgn og_re og_so (by omega)), (tgn og_re og_fc (by omega))⟩)
    have hgv_1 : f1 gv = some (.inl (cy 0, 8, .inl (gvg))) := hr1 _ _ hgv (by simp only [List.mem_cons, List.not_mem_nil, or_false, not_or]; exact ⟨(tgn og_gv og_lg (by decide)), (tgn og_gv og_en (by decide)), (tgn og_gv og_lf (by omega)), (tgn og_gv og_so (by omega)), (tgn og_gv og_fc (by omega))⟩)
    have htk_1 : f1 tk = some (.inl (cy 0, 8, .inl (tkg))) := hr1 _ _ htk (by simp only [List.mem_cons, List.not_mem_nil, or_false, not_or]; exact ⟨(tgn og_tk og_lg (by decide)), (tgn og_tk og_en (by decide)), (tgn og_tk og_lf (by omega)), (tgn og_tk og_so (by omega)), (tgn og_tk og_fc (by omega))⟩)
    have ham_1 : f1 am = some (.inl (cy 2, 8, .inr (.inl (amg)))) := hr1 _ _ ham (by simp only [List.mem_cons, List.not_mem_nil, or_false, not_or]; exact ⟨(tgn og_am og_lg (by decide)), (tgn og_am og_en (by decide)), (tgn og_am og_lf (by omega)), (tgn og_am og_so (by omega)), (tgn og_am og_fc (by omega))⟩)
    have hp_1 : f1 p = some (.inr (2, [.ref c1, .ref c2, .int s, .int v])) := hr1 _ _ hp (by simp only [List.mem_cons, List.not_mem_nil, or_false, not_or]; exact ⟨(tgn og_p og_lg (by omega)), (tgn og_p og_en (by omega)), (tgn og_p og_lf (by omega)), (tgn og_p og_so (by omega)), (tgn og_p og_fc (by omega))⟩)
    have hc1_1 : f1 c1 = some (.inl (cy 0, n1, .inl (g))) := hr1 _ _ hc1 (by simp only [List.mem_cons, List.not_mem_nil, or_false, not_or]; exact ⟨(tgn og_c1 og_lg (by omega)), (tgn og_c1 og_en (by omega)), (tgn og_c1 og_lf (by omega)), (tgn og_c1 og_so (by omega)), (tgn og_c1 og_fc (by omega))⟩)
    have hc2_1 : f1 c2 = some (.inl (cy 0, n2, .inl (h))) := hr1 _ _ hc2 (by simp only [List.mem_cons, List.not_mem_nil, or_false, not_or]; exact ⟨(tgn og_c2 og_lg (by omega)), (tgn og_c2 og_en (by omega)), (tgn og_c2 og_lf (by omega)), (tgn og_c2 og_so (by omega)), (tgn og_c2 og_fc (by omega))⟩)
    obtain ⟨own2, ho2⟩ : ∃ own2 : Nat → Nat, own2 = va_up own e_1 9001 := ⟨_, rfl⟩
    have hO : ∀ z e, f z = some e → own2 z = own z := by rw [ho2]; exact own_en hc_1 og_en
    have hK : kp own own2 (fun k => k = 9000 ∨ k = 9001 ∨ k = 12000 + 3 * (Int32.toNatClampNeg x) ∨ k = 12000 + 3 * (Int32.toNatClampNeg x) + 1 ∨ k = 12000 + 3 * (Int32.toNatClampNeg x) + 2) f f1 := by
      refine kp_fr (S := [lg, en, lf, so, fc]) ((fr_tr fr_rf (fr_mo hr1 (by simp)))) hO ?_
      intro x0 hx0
      simp only [List.mem_cons, List.not_mem_nil, or_false] at hx0
      rcases hx0 with e0 | e0 | e0 | e0 | e0
      · rw [e0]; show (own lg) = 9000 ∨ (own lg) = 9001 ∨ (own lg) = 12000 + 3 * (Int32.toNatClampNeg x) ∨ (own lg) = 12000 + 3 * (Int32.toNatClampNeg x) + 1 ∨ (own lg) = 12000 + 3 * (Int32.toNatClampNeg x) + 2; rw [og_lg]; simp
      · rw [e0]; show (own en) = 9000 ∨ (own en) = 9001 ∨ (own en) = 12000 + 3 * (Int32.toNatClampNeg x) ∨ (own en) = 12000 + 3 * (Int32.toNatClampNeg x) + 1 ∨ (own en) = 12000 + 3 * (Int32.toNatClampNeg x) + 2; rw [og_en]; simp
      · rw [e0]; show (own lf) = 9000 ∨ (own lf) = 9001 ∨ (own lf) = 12000 + 3 * (Int32.toNatClampNeg x) ∨ (own lf) = 12000 + 3 * (Int32.toNatClampNeg x) + 1 ∨ (own lf) = 12000 + 3 * (Int32.toNatClampNeg x) + 2; rw [og_lf]; simp
      · rw [e0]; show (own so) = 9000 ∨ (own so) = 9001 ∨ (own so) = 12000 + 3 * (Int32.toNatClampNeg x) ∨ (own so) = 12000 + 3 * (Int32.toNatClampNeg x) + 1 ∨ (own so) = 12000 + 3 * (Int32.toNatClampNeg x) + 2; rw [og_so]; simp
      · rw [e0]; show (own fc) = 9000 ∨ (own fc) = 9001 ∨ (own fc) = 12000 + 3 * (Int32.toNatClampNeg x) ∨ (own fc) = 12000 + 3 * (Int32.toNatClampNeg x) + 1 ∨ (own fc) = 12000 + 3 * (Int32.toNatClampNeg x) + 2; rw [og_fc]; simp
    have hLf2 : cLf cy own2 f1 (Int32.toNatClampNeg x) lf p so fc _ _ _ _ _ _ _ := ⟨⟨(hO _ _ hlf).trans og_lf, (hO _ _ hso).trans og_so, (hO _ _ hfc).trans og_fc⟩, hlf_1, hso_1, hfc_1⟩
    have hen9 : own2 e_1 = 9001 := by rw [ho2]; exact va_up_self _ _ _
    exact gz_iretU rfl dX11_take_13 (by omega) (by omega) (⟨_, rfl, ⟨own2, _, _, _, ⟨_, _, _, _, _, _, _, _, _, _, _, _, _, _, _, (cXo_kp HcXo hK (nt_2001 (Int32.toNatClampNeg x) hilf)), (kCh_kp HcCh hK (nt_2002 (Int32.toNatClampNeg x) hilf)), (kTp_kp HcTp hK (nt_2003 (Int32.toNatClampNeg x) hilf)), (kOu_kp HcOu hK (nt_2004 (Int32.toNatClampNeg x) hilf)), (cFa_kp HcFa hK (nt_2005 (Int32.toNatClampNeg x) hilf)), (cFm_kp HcFm hK (nt_2006 (Int32.toNatClampNeg x) hilf)), (kDr_kp HcDr hK (nt_2007 (Int32.toNatClampNeg x) hilf)), (kOt_kp HcOt hK (nt_2008 (Int32.toNatClampNeg x) hilf)), (kRt_kp HcRt hK (nt_2009 (Int32.toNatClampNeg x) hilf)), (kLa_kp HcLa hK (nt_2010 (Int32.toNatClampNeg x) hilf)), ⟨_, _, _, _, _, _, _, _, _, _, _, _, _, ⟨⟨((hO _ _ hlg).trans og_lg), hen9, ((hO _ _ hge).trans og_ge), ((hO _ _ hre).trans og_re), ((hO _ _ hgv).trans og_gv), ((hO _ _ htk).trans og_tk), ((hO _ _ ham).trans og_am)⟩, hlg_1, he_1, (hK.2 _ _ hge (by show ¬ ((own ge) = 9000 ∨ (own ge) = 9001 ∨ (own ge) = 12000 + 3 * (Int32.toNatClampNeg x) ∨ (own ge) = 12000 + 3 * (Int32.toNatClampNeg x) + 1 ∨ (own ge) = 12000 + 3 * (Int32.toNatClampNeg x) + 2); rw [og_ge]; exact (nt_2011 (Int32.toNatClampNeg x) hilf) _ ⟨Nat.le_refl _, Nat.lt_succ_self _⟩)), (hK.2 _ _ hre (by show ¬ ((own re) = 9000 ∨ (own re) = 9001 ∨ (own re) = 12000 + 3 * (Int32.toNatClampNeg x) ∨ (own re) = 12000 + 3 * (Int32.toNatClampNeg x) + 1 ∨ (own re) = 12000 + 3 * (Int32.toNatClampNeg x) + 2); rw [og_re]; exact (nt_2012 (Int32.toNatClampNeg x) hilf) _ ⟨Nat.le_refl _, Nat.lt_succ_self _⟩)), (hK.2 _ _ hgv (by show ¬ ((own gv) = 9000 ∨ (own gv) = 9001 ∨ (own gv) = 12000 + 3 * (Int32.toNatClampNeg x) ∨ (own gv) = 12000 + 3 * (Int32.toNatClampNeg x) + 1 ∨ (own gv) = 12000 + 3 * (Int32.toNatClampNeg x) + 2); rw [og_gv]; exact (nt_2013 (Int32.toNatClampNeg x) hilf) _ ⟨Nat.le_refl _, Nat.lt_succ_self _⟩)), (hK.2 _ _ htk (by show ¬ ((own tk) = 9000 ∨ (own tk) = 9001 ∨ (own tk) = 12000 + 3 * (Int32.toNatClampNeg x) ∨ (own tk) = 12000 + 3 * (Int32.toNatClampNeg x) + 1 ∨ (own tk) = 12000 + 3 * (Int32.toNatClampNeg x) + 2); rw [og_tk]; exact (nt_2014 (Int32.toNatClampNeg x) hilf) _ ⟨Nat.le_refl _, Nat.lt_succ_self _⟩)), (hK.2 _ _ ham (by show ¬ ((own am) = 9000 ∨ (own am) = 9001 ∨ (own am) = 12000 + 3 * (Int32.toNatClampNeg x) ∨ (own am) = 12000 + 3 * (Int32.toNatClampNeg x) + 1 ∨ (own am) = 12000 + 3 * (Int32.toNatClampNeg x) + 2); rw [og_am]; exact (nt_2015 (Int32.toNatClampNeg x) hilf) _ ⟨Nat.le_refl _, Nat.lt_succ_self _⟩)), hl_1⟩⟩, (kCo_kp HcCo hK (nt_2016 (Int32.toNatClampNeg x) hilf)), (cLv_one HcLv hK (nt_2000 (Int32.toNatClampNeg x) hilf) hjlf hLf2 ⟨hjf, hjp⟩), (kWo_kp HcWo hK (nt_2017 (Int32.toNatClampNeg x) hilf) (nt_2018 (Int32.toNatClampNeg x) hilf)), HcFn⟩, (kp_0 hK ((nt_2019 (Int32.toNatClampNeg x) hilf) 0 ⟨Nat.le_refl _, Nat.lt_succ_self _⟩)), ⟨by omega, by omega⟩⟩⟩)

set_option maxHeartbeats 4000000 in
set_option maxRecDepth 100000 in
theorem i_X11_choose {l : Launch} {D : va_G} {cy : Nat → ClassId} {b : Nat} {f : gMem} {own : Nat → Nat} {xo : Nat} {da : Int32} {fcn : Int32} {csz : Int32} {sz : Int32} {len : Int32} {ln : Int32} {wz : Int32} {lo : Int32} {tg : Nat → Int32} {weg : Nat → Int32} {stg : Nat → Int32} {tpg : Nat → Int32} {CN : Nat → Int32 → Int32 → (Nat → Int32) → (Nat → Int32) → Prop} {ne : Nat} {x y u q0 : Int32} (hI : xI cy own xo da fcn csz sz len ln wz lo tg weg stg tpg CN ne f)  : gU l D cy b yX11_choose cX11_choose 5 (some .int) 21 (24000 - ne) (2 * (24000 - ne)) [.ref xo, .int x, .int y, .int u, .int q0] f gTt (fun kk nn r f2 => ∃ r9 : Int32, r = some (.int r9) ∧ ∃ (own2 : Nat → Nat) (sz2 : Int32) (lo2 : Int32) (ne2 : Nat) , xI cy own2 xo da fcn csz sz2 len ln wz lo2 tg weg stg tpg CN ne2 f2 ∧ kp0 own own2 f f2 ∧ (kk + ne ≤ ne2 + 3 ∧ nn + 2 * ne ≤ 2 * ne2 + 604)) := by
  obtain ⟨ch, sc, tp, ou, fm, dr, dt_, rd, te, la, lg, co, wo, fmg, lvg, HcXo, HcCh, HcTp, HcOu, HcFa, HcFm, HcDr, HcOt, HcRt, HcLa, HcLg, HcCo, HcLv, HcWo, HcFn⟩ := id hI
  obtain ⟨og_xo, hxo, mcXo⟩ := id HcXo
  obtain ⟨lv, ⟨og_co, og_lv⟩, hco, hlv, mcCo⟩ := id HcCo
  obtain ⟨tl, th, t, ⟨og_ch, og_tl, og_sc, og_th⟩, hch, htl, hsc, hth, mcCh⟩ := id HcCh
  obtain ⟨en, ge, re, gv, tk, am, gi, eg, gvg, tkg, geg, reg, amg, ⟨og_lg, og_en, og_ge, og_re, og_gv, og_tk, og_am⟩, hlg, hen, hge, hre, hgv, htk, ham, mcLg⟩ := id HcLg
  refine gU_of (by decide) (Nat.le_of_ble_eq_true rfl) ?_
  show gG l _ _ _ D cy b cX11_choose 5 _ RX11 "choose" 0 0 f 0 [(0, .ref xo), (1, .int x), (2, .int y), (3, .int u), (4, .int q0)] []
  refine gz_iload dX11_choose_0 rfl ?_
  refine gz_if_eq (tgt := 13) dX11_choose_2 (by decide) (fun c_2 => ?_) (fun c_2 => ?_)
  ·
    refine gz_aload_n dX11_choose_13 rfl rfl ?_
    refine sgX11_85 hxo rfl dX11_choose_14 ?_
    refine gz_iload_n dX11_choose_17 rfl rfl ?_
    refine gz_iload_n dX11_choose_18 rfl rfl ?_
    refine gz_iload_n dX11_choose_19 rfl rfl ?_
    refine gz_iconst (v := 4) dX11_choose_20 (by decide) ?_
    refine gz_iload dX11_choose_21 rfl ?_
    cases hA : lifeF csz lvg x with
    | none =>
      refine suX11_177 (k_X1_decideN (kx := y) (hx_ := u) (kd := 4) (wh := q0) hco hlv hA) hco ⟨(Nat.le_of_ble_eq_true rfl), (Nat.le_of_ble_eq_true rfl)⟩ ⟨(by simp only [gRm]; omega), (by simp only [gRm]; omega)⟩ rfl rfl (Nat.le_of_ble_eq_true rfl) dX11_choose_23 ?_
      rintro kk_0 nn_0 r_0 f_0 ⟨z1, z2, z3, z4⟩
      subst z1 z2 z3
      rw [z4]
      refine gz_eq (st2 := [.int (-1)]) rfl rfl rfl rfl ?_
      exact gz_iretU rfl dX11_choose_26 (by omega) (by omega) (⟨_, rfl, ⟨own, _, _, _, hI, kp0_rf, ⟨by omega, by omega⟩⟩⟩)
    | some lf =>
      have hilf := (lifeF_some hA).1
      have hjlf := (lifeF_some hA).2
      obtain ⟨p, so, fc, jf, nu, ho1, ho2, fs_, ga, sg, fg, hLf, hjf, hjp⟩ := HcLv _ _ hilf hjlf
      obtain ⟨⟨og_lf, og_so, og_fc⟩, hlf, hso, hfc⟩ := id hLf
      obtain ⟨c1, c2, n1, n2, s, v, g, h, ⟨⟨og_p, og_c1, og_c2⟩, hp, hc1, hc2, hs, hv, hFI⟩, hCN⟩ := HcFm _ _ hjf hjp
      refine suX11_177 (k_X1_decide (kx := y) (hx_ := u) (kd := 4) (wh := q0) (y2 := 0) hco hlv hlf hso hfc hp hc1 hc2 hsc hth hlg hen hs hv ⟨(tgn og_so og_fc (by omega)), (tgn og_so og_c1 (by omega)), (tgn og_so og_c2 (by omega)), (tgn og_so og_th (by omega)), (tgn og_fc og_c1 (by omega)), (tgn og_fc og_c2 (by omega)), (tgn og_fc og_th (by omega))⟩ mcLg ⟨(tgn og_en og_so (by omega)), (tgn og_en og_fc (by omega)), (tgn og_en og_c1 (by omega)), (tgn og_en og_c2 (by omega)), (tgn og_en og_th (by decide))⟩ hA) hco ⟨(Nat.le_of_ble_eq_true rfl), (Nat.le_of_ble_eq_true rfl)⟩ ⟨(by simp only [gRm]; omega), (by simp only [gRm]; omega)⟩ rfl rfl (Nat.le_of_ble_eq_true rfl) dX11_choose_23 ?_
      rintro kk_1 nn_1 r_1 f1 ⟨rr_1, e_1, m_1, g_1, s_1, l_1, z_1, a_1, x_1, y_1, rfl, hlg_1, he_1, hlf_1, hso_1, hfc_1, hl_1, hu_1, hc_1, hr1⟩
      refine gz_eq (st2 := [.int rr_1]) rfl rfl rfl rfl ?_
      have hxo_1 : f1 xo = some (.inr (11, [.ref ch, .ref tp, .ref ou, .ref fm, .ref dr, .ref dt_, .ref rd, .ref te, .ref la, .ref lg, .ref co, .ref wo, .int fcn])) := hr1 _ _ hxo (by simp only [List.mem_cons, List.not_mem_nil, or_false, not_or]; exact ⟨(tgn og_xo og_lg (by decide)), (tgn og_xo og_en (by decide)), (tgn og_xo og_lf (by omega)), (tgn og_xo og_so (by omega)), (tgn og_xo og_fc (by omega))⟩)
      have hco_1 : f1 co = some (.inr (1, [.ref lv, .ref sc, .ref lg, .int csz])) := hr1 _ _ hco (by simp only [List.mem_cons, List.not_mem_nil, or_false, not_or]; exact ⟨(tgn og_co og_lg (by decide)), (tgn og_co og_en (by decide)), (tgn og_co og_lf (by omega)), (tgn og_co og_so (by omega)), (tgn og_co og_fc (by omega))⟩)
      have hlv_1 : f1 lv = some (.inl (cy 5, 40, .inr (.inr (.inr (.inr (lvg)))))) := hr1 _ _ hlv (by simp only [List.mem_cons, List.not_mem_nil, or_false, not_or]; exact ⟨(tgn og_lv og_lg (by decide)), (tgn og_lv og_en (by decide)), (tgn og_lv og_lf (by omega)), (tgn og_lv og_so (by omega)), (tgn og_lv og_fc (by omega))⟩)
      have hch_1 : f1 ch = some (.inr (0, [.ref tl, .ref sc])) := hr1 _ _ hch (by simp only [List.mem_cons, List.not_mem_nil, or_false, not_or]; exact ⟨(tgn og_ch og_lg (by decide)), (tgn og_ch og_en (by decide)), (tgn og_ch og_lf (by omega)), (tgn og_ch og_so (by omega)), (tgn og_ch og_fc (by omega))⟩)
      have htl_1 : f1 tl = some (.inl (cy 0, 2400, .inl (tg))) := hr1 _ _ htl (by simp only [List.mem_cons, List.not_mem_nil, or_false, not_or]; exact ⟨(tgn og_tl og_lg (by decide)), (tgn og_tl og_en (by decide)), (tgn og_tl og_lf (by omega)), (tgn og_tl og_so (by omega)), (tgn og_tl og_fc (by omega))⟩)
      have hsc_1 : f1 sc = some (.inr (7, [.ref th, .int da])) := hr1 _ _ hsc (by simp only [List.mem_cons, List.not_mem_nil, or_false, not_or]; exact ⟨(tgn og_sc og_lg (by decide)), (tgn og_sc og_en (by decide)), (tgn og_sc og_lf (by omega)), (tgn og_sc og_so (by omega)), (tgn og_sc og_fc (by omega))⟩)
      have hth_1 : f1 th = some (.inl (cy 0, 6, .inl (t))) := hr1 _ _ hth (by simp only [List.mem_cons, List.not_mem_nil, or_false, not_or]; exact ⟨(tgn og_th og_lg (by decide)), (tgn og_th og_en (by decide)), (tgn og_th og_lf (by omega)), (tgn og_th og_so (by omega)), (tgn og_th og_fc (by omega))⟩)
      have hge_1 : f1 ge = some (.inl (cy 2, 8, .inr (.inl (geg)))) := hr1 _ _ hge (by simp only [List.mem_cons, List.not_mem_nil, or_false, not_or]; exact ⟨(tgn og_ge og_lg (by decide)), (tgn og_ge og_en (by decide)), (tgn og_ge og_lf (by omega)), (tgn og_ge og_so (by omega)), (tgn og_ge og_fc (by omega))⟩)
      have hre_1 : f1 re = some (.inl (cy 2, 8, .inr (.inl (reg)))) := hr1 _ _ hre (by simp only [List.mem_cons, List.not_mem_nil, or_false, not_or]; exact ⟨(tgn og_re og_lg (by decide)), (tgn og_re og_en (by decide)), (tgn og_re og_lf (by omega)), (tgn og_re og_so (by omega)), (tgn og_re og_fc (by omega))⟩)
      have hgv_1 : f1 gv = some (.inl (cy 0, 8, .inl (gvg))) := hr1 _ _ hgv (by simp only [List.mem_cons, List.not_mem_nil, or_false, not_or]; exact ⟨(tgn og_gv og_lg (by decide)), (tgn og_gv og_en (by decide)), (tgn og_gv og_lf (by omega)), (tgn og_gv og_so (by omega)), (tgn og_gv og_fc (by omega))⟩)
      have htk_1 : f1 tk = some (.inl (cy 0, 8, .inl (tkg))) := hr1 _ _ htk (by simp only [List.mem_cons, List.not_mem_nil, or_false, not_or]; exact ⟨(tgn og_tk og_lg (by decide)), (tgn og_tk og_en (by decide)), (tgn og_tk og_lf (by omega)), (tgn og_tk og_so (by omega)), (tgn og_tk og_fc (by omega))⟩)
      have ham_1 : f1 am = some (.inl (cy 2, 8, .inr (.inl (amg)))) := hr1 _ _ ham (by simp only [List.mem_cons, List.not_mem_nil, or_false, not_or]; exact ⟨(tgn og_am og_lg (by decide)), (tgn og_am og_en (by decide)), (tgn og_am og_lf (by omega)), (tgn og_am og_so (by omega)), (tgn og_am og_fc (by omega))⟩)
      have hp_1 : f1 p = some (.inr (2, [.ref c1, .ref c2, .int s, .int v])) := hr1 _ _ hp (by simp only [List.mem_cons, List.not_mem_nil, or_false, not_or]; exact ⟨(tgn og_p og_lg (by omega)), (tgn og_p og_en (by omega)), (tgn og_p og_lf (by omega)), (tgn og_p og_so (by omega)), (tgn og_p og_fc (by omega))⟩)
      have hc1_1 : f1 c1 = some (.inl (cy 0, n1, .inl (g))) := hr1 _ _ hc1 (by simp only [List.mem_cons, List.not_mem_nil, or_false, not_or]; exact ⟨(tgn og_c1 og_lg (by omega)), (tgn og_c1 og_en (by omega)), (tgn og_c1 og_lf (by omega)), (tgn og_c1 og_so (by omega)), (tgn og_c1 og_fc (by omega))⟩)
      have hc2_1 : f1 c2 = some (.inl (cy 0, n2, .inl (h))) := hr1 _ _ hc2 (by simp only [List.mem_cons, List.not_mem_nil, or_false, not_or]; exact ⟨(tgn og_c2 og_lg (by omega)), (tgn og_c2 og_en (by omega)), (tgn og_c2 og_lf (by omega)), (tgn og_c2 og_so (by omega)), (tgn og_c2 og_fc (by omega))⟩)
      obtain ⟨own2, ho2⟩ : ∃ own2 : Nat → Nat, own2 = va_up own e_1 9001 := ⟨_, rfl⟩
      have hO : ∀ z e, f z = some e → own2 z = own z := by rw [ho2]; exact own_en hc_1 og_en
      have hK : kp own own2 (fun k => k = 9000 ∨ k = 9001 ∨ k = 12000 + 3 * (Int32.toNatClampNeg x) ∨ k = 12000 + 3 * (Int32.toNatClampNeg x) + 1 ∨ k = 12000 + 3 * (Int32.toNatClampNeg x) + 2) f f1 := by
        refine kp_fr (S := [lg, en, lf, so, fc]) ((fr_tr fr_rf (fr_mo hr1 (by simp)))) hO ?_
        intro x0 hx0
        simp only [List.mem_cons, List.not_mem_nil, or_false] at hx0
        rcases hx0 with e0 | e0 | e0 | e0 | e0
        · rw [e0]; show (own lg) = 9000 ∨ (own lg) = 9001 ∨ (own lg) = 12000 + 3 * (Int32.toNatClampNeg x) ∨ (own lg) = 12000 + 3 * (Int32.toNatClampNeg x) + 1 ∨ (own lg) = 12000 + 3 * (Int32.toNatClampNeg x) + 2; rw [og_lg]; simp
        · rw [e0]; show (own en) = 9000 ∨ (own en) = 9001 ∨ (own en) = 12000 + 3 * (Int32.toNatClampNeg x) ∨ (own en) = 12000 + 3 * (Int32.toNatClampNeg x) + 1 ∨ (own en) = 12000 + 3 * (Int32.toNatClampNeg x) + 2; rw [og_en]; simp
        · rw [e0]; show (own lf) = 9000 ∨ (own lf) = 9001 ∨ (own lf) = 12000 + 3 * (Int32.toNatClampNeg x) ∨ (own lf) = 12000 + 3 * (Int32.toNatClampNeg x) + 1 ∨ (own lf) = 12000 + 3 * (Int32.toNatClampNeg x) + 2; rw [og_lf]; simp
        · rw [e0]; show (own so) = 9000 ∨ (own so) = 9001 ∨ (own so) = 12000 + 3 * (Int32.toNatClampNeg x) ∨ (own so) = 12000 + 3 * (Int32.toNatClampNeg x) + 1 ∨ (own so) = 12000 + 3 * (Int32.toNatClampNeg x) + 2; rw [og_so]; simp
        · rw [e0]; show (own fc) = 9000 ∨ (own fc) = 9001 ∨ (own fc) = 12000 + 3 * (Int32.toNatClampNeg x) ∨ (own fc) = 12000 + 3 * (Int32.toNatClampNeg x) + 1 ∨ (own fc) = 12000 + 3 * (Int32.toNatClampNeg x) + 2; rw [og_fc]; simp
      have hLf2 : cLf cy own2 f1 (Int32.toNatClampNeg x) lf p so fc _ _ _ _ _ _ _ := ⟨⟨(hO _ _ hlf).trans og_lf, (hO _ _ hso).trans og_so, (hO _ _ hfc).trans og_fc⟩, hlf_1, hso_1, hfc_1⟩
      have hen9 : own2 e_1 = 9001 := by rw [ho2]; exact va_up_self _ _ _
      exact gz_iretU rfl dX11_choose_26 (by omega) (by omega) (⟨_, rfl, ⟨own2, _, _, _, ⟨_, _, _, _, _, _, _, _, _, _, _, _, _, _, _, (cXo_kp HcXo hK (nt_2001 (Int32.toNatClampNeg x) hilf)), (kCh_kp HcCh hK (nt_2002 (Int32.toNatClampNeg x) hilf)), (kTp_kp HcTp hK (nt_2003 (Int32.toNatClampNeg x) hilf)), (kOu_kp HcOu hK (nt_2004 (Int32.toNatClampNeg x) hilf)), (cFa_kp HcFa hK (nt_2005 (Int32.toNatClampNeg x) hilf)), (cFm_kp HcFm hK (nt_2006 (Int32.toNatClampNeg x) hilf)), (kDr_kp HcDr hK (nt_2007 (Int32.toNatClampNeg x) hilf)), (kOt_kp HcOt hK (nt_2008 (Int32.toNatClampNeg x) hilf)), (kRt_kp HcRt hK (nt_2009 (Int32.toNatClampNeg x) hilf)), (kLa_kp HcLa hK (nt_2010 (Int32.toNatClampNeg x) hilf)), ⟨_, _, _, _, _, _, _, _, _, _, _, _, _, ⟨⟨((hO _ _ hlg).trans og_lg), hen9, ((hO _ _ hge).trans og_ge), ((hO _ _ hre).trans og_re), ((hO _ _ hgv).trans og_gv), ((hO _ _ htk).trans og_tk), ((hO _ _ ham).trans og_am)⟩, hlg_1, he_1, (hK.2 _ _ hge (by show ¬ ((own ge) = 9000 ∨ (own ge) = 9001 ∨ (own ge) = 12000 + 3 * (Int32.toNatClampNeg x) ∨ (own ge) = 12000 + 3 * (Int32.toNatClampNeg x) + 1 ∨ (own ge) = 12000 + 3 * (Int32.toNatClampNeg x) + 2); rw [og_ge]; exact (nt_2011 (Int32.toNatClampNeg x) hilf) _ ⟨Nat.le_refl _, Nat.lt_succ_self _⟩)), (hK.2 _ _ hre (by show ¬ ((own re) = 9000 ∨ (own re) = 9001 ∨ (own re) = 12000 + 3 * (Int32.toNatClampNeg x) ∨ (own re) = 12000 + 3 * (Int32.toNatClampNeg x) + 1 ∨ (own re) = 12000 + 3 * (Int32.toNatClampNeg x) + 2); rw [og_re]; exact (nt_2012 (Int32.toNatClampNeg x) hilf) _ ⟨Nat.le_refl _, Nat.lt_succ_self _⟩)), (hK.2 _ _ hgv (by show ¬ ((own gv) = 9000 ∨ (own gv) = 9001 ∨ (own gv) = 12000 + 3 * (Int32.toNatClampNeg x) ∨ (own gv) = 12000 + 3 * (Int32.toNatClampNeg x) + 1 ∨ (own gv) = 12000 + 3 * (Int32.toNatClampNeg x) + 2); rw [og_gv]; exact (nt_2013 (Int32.toNatClampNeg x) hilf) _ ⟨Nat.le_refl _, Nat.lt_succ_self _⟩)), (hK.2 _ _ htk (by show ¬ ((own tk) = 9000 ∨ (own tk) = 9001 ∨ (own tk) = 12000 + 3 * (Int32.toNatClampNeg x) ∨ (own tk) = 12000 + 3 * (Int32.toNatClampNeg x) + 1 ∨ (own tk) = 12000 + 3 * (Int32.toNatClampNeg x) + 2); rw [og_tk]; exact (nt_2014 (Int32.toNatClampNeg x) hilf) _ ⟨Nat.le_refl _, Nat.lt_succ_self _⟩)), (hK.2 _ _ ham (by show ¬ ((own am) = 9000 ∨ (own am) = 9001 ∨ (own am) = 12000 + 3 * (Int32.toNatClampNeg x) ∨ (own am) = 12000 + 3 * (Int32.toNatClampNeg x) + 1 ∨ (own am) = 12000 + 3 * (Int32.toNatClampNeg x) + 2); rw [og_am]; exact (nt_2015 (Int32.toNatClampNeg x) hilf) _ ⟨Nat.le_refl _, Nat.lt_succ_self _⟩)), hl_1⟩⟩, (kCo_kp HcCo hK (nt_2016 (Int32.toNatClampNeg x) hilf)), (cLv_one HcLv hK (nt_2000 (Int32.toNatClampNeg x) hilf) hjlf hLf2 ⟨hjf, hjp⟩), (kWo_kp HcWo hK (nt_2017 (Int32.toNatClampNeg x) hilf) (nt_2018 (Int32.toNatClampNeg x) hilf)), HcFn⟩, (kp_0 hK ((nt_2019 (Int32.toNatClampNeg x) hilf) 0 ⟨Nat.le_refl _, Nat.lt_succ_self _⟩)), ⟨by omega, by omega⟩⟩⟩)
  ·
    refine gz_iload dX11_choose_5 rfl ?_
    refine gz_iconst (v := 1) dX11_choose_7 (by decide) ?_
    refine gz_icmp_eq (tgt := 13) dX11_choose_8 (by decide) (fun c_8 => ?_) (fun c_8 => ?_)
    ·
      refine gz_aload_n dX11_choose_13 rfl rfl ?_
      refine sgX11_85 hxo rfl dX11_choose_14 ?_
      refine gz_iload_n dX11_choose_17 rfl rfl ?_
      refine gz_iload_n dX11_choose_18 rfl rfl ?_
      refine gz_iload_n dX11_choose_19 rfl rfl ?_
      refine gz_iconst (v := 4) dX11_choose_20 (by decide) ?_
      refine gz_iload dX11_choose_21 rfl ?_
      cases hA : lifeF csz lvg x with
      | none =>
        refine suX11_177 (k_X1_decideN (kx := y) (hx_ := u) (kd := 4) (wh := q0) hco hlv hA) hco ⟨(Nat.le_of_ble_eq_true rfl), (Nat.le_of_ble_eq_true rfl)⟩ ⟨(by simp only [gRm]; omega), (by simp only [gRm]; omega)⟩ rfl rfl (Nat.le_of_ble_eq_true rfl) dX11_choose_23 ?_
        rintro kk_0 nn_0 r_0 f_0 ⟨z1, z2, z3, z4⟩
        subst z1 z2 z3
        rw [z4]
        refine gz_eq (st2 := [.int (-1)]) rfl rfl rfl rfl ?_
        exact gz_iretU rfl dX11_choose_26 (by omega) (by omega) (⟨_, rfl, ⟨own, _, _, _, hI, kp0_rf, ⟨by omega, by omega⟩⟩⟩)
      | some lf =>
        have hilf := (lifeF_some hA).1
        have hjlf := (lifeF_some hA).2
        obtain ⟨p, so, fc, jf, nu, ho1, ho2, fs_, ga, sg, fg, hLf, hjf, hjp⟩ := HcLv _ _ hilf hjlf
        obtain ⟨⟨og_lf, og_so, og_fc⟩, hlf, hso, hfc⟩ := id hLf
        obtain ⟨c1, c2, n1, n2, s, v, g, h, ⟨⟨og_p, og_c1, og_c2⟩, hp, hc1, hc2, hs, hv, hFI⟩, hCN⟩ := HcFm _ _ hjf hjp
        refine suX11_177 (k_X1_decide (kx := y) (hx_ := u) (kd := 4) (wh := q0) (y2 := 0) hco hlv hlf hso hfc hp hc1 hc2 hsc hth hlg hen hs hv ⟨(tgn og_so og_fc (by omega)), (tgn og_so og_c1 (by omega)), (tgn og_so og_c2 (by omega)), (tgn og_so og_th (by omega)), (tgn og_fc og_c1 (by omega)), (tgn og_fc og_c2 (by omega)), (tgn og_fc og_th (by omega))⟩ mcLg ⟨(tgn og_en og_so (by omega)), (tgn og_en og_fc (by omega)), (tgn og_en og_c1 (by omega)), (tgn og_en og_c2 (by omega)), (tgn og_en og_th (by decide))⟩ hA) hco ⟨(Nat.le_of_ble_eq_true rfl), (Nat.le_of_ble_eq_true rfl)⟩ ⟨(by simp only [gRm]; omega), (by simp only [gRm]; omega)⟩ rfl rfl (Nat.le_of_ble_eq_true rfl) dX11_choose_23 ?_
        rintro kk_2 nn_2 r_2 f2 ⟨rr_2, e_2, m_2, g_2, s_2, l_2, z_2, a_2, x_2, y_2, rfl, hlg_2, he_2, hlf_2, hso_2, hfc_2, hl_2, hu_2, hc_2, hr2⟩
        refine gz_eq (st2 := [.int rr_2]) rfl rfl rfl rfl ?_
        have hxo_2 : f2 xo = some (.inr (11, [.ref ch, .ref tp, .ref ou, .ref fm, .ref dr, .ref dt_, .ref rd, .ref te, .ref la, .ref lg, .ref co, .ref wo, .int fcn])) := hr2 _ _ hxo (by simp only [List.mem_cons, List.not_mem_nil, or_false, not_or]; exact ⟨(tgn og_xo og_lg (by decide)), (tgn og_xo og_en (by decide)), (tgn og_xo og_lf (by omega)), (tgn og_xo og_so (by omega)), (tgn og_xo og_fc (by omega))⟩)
        have hco_2 : f2 co = some (.inr (1, [.ref lv, .ref sc, .ref lg, .int csz])) := hr2 _ _ hco (by simp only [List.mem_cons, List.not_mem_nil, or_false, not_or]; exact ⟨(tgn og_co og_lg (by decide)), (tgn og_co og_en (by decide)), (tgn og_co og_lf (by omega)), (tgn og_co og_so (by omega)), (tgn og_co og_fc (by omega))⟩)
        have hlv_2 : f2 lv = some (.inl (cy 5, 40, .inr (.inr (.inr (.inr (lvg)))))) := hr2 _ _ hlv (by simp only [List.mem_cons, List.not_mem_nil, or_false, not_or]; exact ⟨(tgn og_lv og_lg (by decide)), (tgn og_lv og_en (by decide)), (tgn og_lv og_lf (by omega)), (tgn og_lv og_so (by omega)), (tgn og_lv og_fc (by omega))⟩)
        have hch_2 : f2 ch = some (.inr (0, [.ref tl, .ref sc])) := hr2 _ _ hch (by simp only [List.mem_cons, List.not_mem_nil, or_false, not_or]; exact ⟨(tgn og_ch og_lg (by decide)), (tgn og_ch og_en (by decide)), (tgn og_ch og_lf (by omega)), (tgn og_ch og_so (by omega)), (tgn og_ch og_fc (by omega))⟩)
        have htl_2 : f2 tl = some (.inl (cy 0, 2400, .inl (tg))) := hr2 _ _ htl (by simp only [List.mem_cons, List.not_mem_nil, or_false, not_or]; exact ⟨(tgn og_tl og_lg (by decide)), (tgn og_tl og_en (by decide)), (tgn og_tl og_lf (by omega)), (tgn og_tl og_so (by omega)), (tgn og_tl og_fc (by omega))⟩)
        have hsc_2 : f2 sc = some (.inr (7, [.ref th, .int da])) := hr2 _ _ hsc (by simp only [List.mem_cons, List.not_mem_nil, or_false, not_or]; exact ⟨(tgn og_sc og_lg (by decide)), (tgn og_sc og_en (by decide)), (tgn og_sc og_lf (by omega)), (tgn og_sc og_so (by omega)), (tgn og_sc og_fc (by omega))⟩)
        have hth_2 : f2 th = some (.inl (cy 0, 6, .inl (t))) := hr2 _ _ hth (by simp only [List.mem_cons, List.not_mem_nil, or_false, not_or]; exact ⟨(tgn og_th og_lg (by decide)), (tgn og_th og_en (by decide)), (tgn og_th og_lf (by omega)), (tgn og_th og_so (by omega)), (tgn og_th og_fc (by omega))⟩)
        have hge_2 : f2 ge = some (.inl (cy 2, 8, .inr (.inl (geg)))) := hr2 _ _ hge (by simp only [List.mem_cons, List.not_mem_nil, or_false, not_or]; exact ⟨(tgn og_ge og_lg (by decide)), (tgn og_ge og_en (by decide)), (tgn og_ge og_lf (by omega)), (tgn og_ge og_so (by omega)), (tgn og_ge og_fc (by omega))⟩)
        have hre_2 : f2 re = some (.inl (cy 2, 8, .inr (.inl (reg)))) := hr2 _ _ hre (by simp only [List.mem_cons, List.not_mem_nil, or_false, not_or]; exact ⟨(tgn og_re og_lg (by decide)), (tgn og_re og_en (by decide)), (tgn og_re og_lf (by omega)), (tgn og_re og_so (by omega)), (tgn og_re og_fc (by omega))⟩)
        have hgv_2 : f2 gv = some (.inl (cy 0, 8, .inl (gvg))) := hr2 _ _ hgv (by simp only [List.mem_cons, List.not_mem_nil, or_false, not_or]; exact ⟨(tgn og_gv og_lg (by decide)), (tgn og_gv og_en (by decide)), (tgn og_gv og_lf (by omega)), (tgn og_gv og_so (by omega)), (tgn og_gv og_fc (by omega))⟩)
        have htk_2 : f2 tk = some (.inl (cy 0, 8, .inl (tkg))) := hr2 _ _ htk (by simp only [List.mem_cons, List.not_mem_nil, or_false, not_or]; exact ⟨(tgn og_tk og_lg (by decide)), (tgn og_tk og_en (by decide)), (tgn og_tk og_lf (by omega)), (tgn og_tk og_so (by omega)), (tgn og_tk og_fc (by omega))⟩)
        have ham_2 : f2 am = some (.inl (cy 2, 8, .inr (.inl (amg)))) := hr2 _ _ ham (by simp only [List.mem_cons, List.not_mem_nil, or_false, not_or]; exact ⟨(tgn og_am og_lg (by decide)), (tgn og_am og_en (by decide)), (tgn og_am og_lf (by omega)), (tgn og_am og_so (by omega)), (tgn og_am og_fc (by omega))⟩)
        have hp_2 : f2 p = some (.inr (2, [.ref c1, .ref c2, .int s, .int v])) := hr2 _ _ hp (by simp only [List.mem_cons, List.not_mem_nil, or_false, not_or]; exact ⟨(tgn og_p og_lg (by omega)), (tgn og_p og_en (by omega)), (tgn og_p og_lf (by omega)), (tgn og_p og_so (by omega)), (tgn og_p og_fc (by omega))⟩)
        have hc1_2 : f2 c1 = some (.inl (cy 0, n1, .inl (g))) := hr2 _ _ hc1 (by simp only [List.mem_cons, List.not_mem_nil, or_false, not_or]; exact ⟨(tgn og_c1 og_lg (by omega)), (tgn og_c1 og_en (by omega)), (tgn og_c1 og_lf (by omega)), (tgn og_c1 og_so (by omega)), (tgn og_c1 og_fc (by omega))⟩)
        have hc2_2 : f2 c2 = some (.inl (cy 0, n2, .inl (h))) := hr2 _ _ hc2 (by simp only [List.mem_cons, List.not_mem_nil, or_false, not_or]; exact ⟨(tgn og_c2 og_lg (by omega)), (tgn og_c2 og_en (by omega)), (tgn og_c2 og_lf (by omega)), (tgn og_c2 og_so (by omega)), (tgn og_c2 og_fc (by omega))⟩)
        obtain ⟨own2, ho2⟩ : ∃ own2 : Nat → Nat, own2 = va_up own e_2 9001 := ⟨_, rfl⟩
        have hO : ∀ z e, f z = some e → own2 z = own z := by rw [ho2]; exact own_en hc_2 og_en
        have hK : kp own own2 (fun k => k = 9000 ∨ k = 9001 ∨ k = 12000 + 3 * (Int32.toNatClampNeg x) ∨ k = 12000 + 3 * (Int32.toNatClampNeg x) + 1 ∨ k = 12000 + 3 * (Int32.toNatClampNeg x) + 2) f f2 := by
          refine kp_fr (S := [lg, en, lf, so, fc]) ((fr_tr fr_rf (fr_mo hr2 (by simp)))) hO ?_
          intro x0 hx0
          simp only [List.mem_cons, List.not_mem_nil, or_false] at hx0
          rcases hx0 with e0 | e0 | e0 | e0 | e0
          · rw [e0]; show (own lg) = 9000 ∨ (own lg) = 9001 ∨ (own lg) = 12000 + 3 * (Int32.toNatClampNeg x) ∨ (own lg) = 12000 + 3 * (Int32.toNatClampNeg x) + 1 ∨ (own lg) = 12000 + 3 * (Int32.toNatClampNeg x) + 2; rw [og_lg]; simp
          · rw [e0]; show (own en) = 9000 ∨ (own en) = 9001 ∨ (own en) = 12000 + 3 * (Int32.toNatClampNeg x) ∨ (own en) = 12000 + 3 * (Int32.toNatClampNeg x) + 1 ∨ (own en) = 12000 + 3 * (Int32.toNatClampNeg x) + 2; rw [og_en]; simp
          · rw [e0]; show (own lf) = 9000 ∨ (own lf) = 9001 ∨ (own lf) = 12000 + 3 * (Int32.toNatClampNeg x) ∨ (own lf) = 12000 + 3 * (Int32.toNatClampNeg x) + 1 ∨ (own lf) = 12000 + 3 * (Int32.toNatClampNeg x) + 2; rw [og_lf]; simp
          · rw [e0]; show (own so) = 9000 ∨ (own so) = 9001 ∨ (own so) = 12000 + 3 * (Int32.toNatClampNeg x) ∨ (own so) = 12000 + 3 * (Int32.toNatClampNeg x) + 1 ∨ (own so) = 12000 + 3 * (Int32.toNatClampNeg x) + 2; rw [og_so]; simp
          · rw [e0]; show (own fc) = 9000 ∨ (own fc) = 9001 ∨ (own fc) = 12000 + 3 * (Int32.toNatClampNeg x) ∨ (own fc) = 12000 + 3 * (Int32.toNatClampNeg x) + 1 ∨ (own fc) = 12000 + 3 * (Int32.toNatClampNeg x) + 2; rw [og_fc]; simp
        have hLf2 : cLf cy own2 f2 (Int32.toNatClampNeg x) lf p so fc _ _ _ _ _ _ _ := ⟨⟨(hO _ _ hlf).trans og_lf, (hO _ _ hso).trans og_so, (hO _ _ hfc).trans og_fc⟩, hlf_2, hso_2, hfc_2⟩
        have hen9 : own2 e_2 = 9001 := by rw [ho2]; exact va_up_self _ _ _
        exact gz_iretU rfl dX11_choose_26 (by omega) (by omega) (⟨_, rfl, ⟨own2, _, _, _, ⟨_, _, _, _, _, _, _, _, _, _, _, _, _, _, _, (cXo_kp HcXo hK (nt_2001 (Int32.toNatClampNeg x) hilf)), (kCh_kp HcCh hK (nt_2002 (Int32.toNatClampNeg x) hilf)), (kTp_kp HcTp hK (nt_2003 (Int32.toNatClampNeg x) hilf)), (kOu_kp HcOu hK (nt_2004 (Int32.toNatClampNeg x) hilf)), (cFa_kp HcFa hK (nt_2005 (Int32.toNatClampNeg x) hilf)), (cFm_kp HcFm hK (nt_2006 (Int32.toNatClampNeg x) hilf)), (kDr_kp HcDr hK (nt_2007 (Int32.toNatClampNeg x) hilf)), (kOt_kp HcOt hK (nt_2008 (Int32.toNatClampNeg x) hilf)), (kRt_kp HcRt hK (nt_2009 (Int32.toNatClampNeg x) hilf)), (kLa_kp HcLa hK (nt_2010 (Int32.toNatClampNeg x) hilf)), ⟨_, _, _, _, _, _, _, _, _, _, _, _, _, ⟨⟨((hO _ _ hlg).trans og_lg), hen9, ((hO _ _ hge).trans og_ge), ((hO _ _ hre).trans og_re), ((hO _ _ hgv).trans og_gv), ((hO _ _ htk).trans og_tk), ((hO _ _ ham).trans og_am)⟩, hlg_2, he_2, (hK.2 _ _ hge (by show ¬ ((own ge) = 9000 ∨ (own ge) = 9001 ∨ (own ge) = 12000 + 3 * (Int32.toNatClampNeg x) ∨ (own ge) = 12000 + 3 * (Int32.toNatClampNeg x) + 1 ∨ (own ge) = 12000 + 3 * (Int32.toNatClampNeg x) + 2); rw [og_ge]; exact (nt_2011 (Int32.toNatClampNeg x) hilf) _ ⟨Nat.le_refl _, Nat.lt_succ_self _⟩)), (hK.2 _ _ hre (by show ¬ ((own re) = 9000 ∨ (own re) = 9001 ∨ (own re) = 12000 + 3 * (Int32.toNatClampNeg x) ∨ (own re) = 12000 + 3 * (Int32.toNatClampNeg x) + 1 ∨ (own re) = 12000 + 3 * (Int32.toNatClampNeg x) + 2); rw [og_re]; exact (nt_2012 (Int32.toNatClampNeg x) hilf) _ ⟨Nat.le_refl _, Nat.lt_succ_self _⟩)), (hK.2 _ _ hgv (by show ¬ ((own gv) = 9000 ∨ (own gv) = 9001 ∨ (own gv) = 12000 + 3 * (Int32.toNatClampNeg x) ∨ (own gv) = 12000 + 3 * (Int32.toNatClampNeg x) + 1 ∨ (own gv) = 12000 + 3 * (Int32.toNatClampNeg x) + 2); rw [og_gv]; exact (nt_2013 (Int32.toNatClampNeg x) hilf) _ ⟨Nat.le_refl _, Nat.lt_succ_self _⟩)), (hK.2 _ _ htk (by show ¬ ((own tk) = 9000 ∨ (own tk) = 9001 ∨ (own tk) = 12000 + 3 * (Int32.toNatClampNeg x) ∨ (own tk) = 12000 + 3 * (Int32.toNatClampNeg x) + 1 ∨ (own tk) = 12000 + 3 * (Int32.toNatClampNeg x) + 2); rw [og_tk]; exact (nt_2014 (Int32.toNatClampNeg x) hilf) _ ⟨Nat.le_refl _, Nat.lt_succ_self _⟩)), (hK.2 _ _ ham (by show ¬ ((own am) = 9000 ∨ (own am) = 9001 ∨ (own am) = 12000 + 3 * (Int32.toNatClampNeg x) ∨ (own am) = 12000 + 3 * (Int32.toNatClampNeg x) + 1 ∨ (own am) = 12000 + 3 * (Int32.toNatClampNeg x) + 2); rw [og_am]; exact (nt_2015 (Int32.toNatClampNeg x) hilf) _ ⟨Nat.le_refl _, Nat.lt_succ_self _⟩)), hl_2⟩⟩, (kCo_kp HcCo hK (nt_2016 (Int32.toNatClampNeg x) hilf)), (cLv_one HcLv hK (nt_2000 (Int32.toNatClampNeg x) hilf) hjlf hLf2 ⟨hjf, hjp⟩), (kWo_kp HcWo hK (nt_2017 (Int32.toNatClampNeg x) hilf) (nt_2018 (Int32.toNatClampNeg x) hilf)), HcFn⟩, (kp_0 hK ((nt_2019 (Int32.toNatClampNeg x) hilf) 0 ⟨Nat.le_refl _, Nat.lt_succ_self _⟩)), ⟨by omega, by omega⟩⟩⟩)
    ·
      refine gz_iconst (v := (-1)) dX11_choose_11 (by decide) ?_
      exact gz_iretU rfl dX11_choose_12 (by omega) (by omega) (⟨_, rfl, ⟨own, _, _, _, hI, kp0_rf, ⟨by omega, by omega⟩⟩⟩)

theorem nt_2020  : ∀ k : Nat, 12000 ≤ k ∧ k < 13000 → ¬ (k = 10000 ∨ k = 10001 ∨ k = 9000 ∨ k = 9001) := by intro k hk hT; omega
theorem nt_2021  : ∀ k : Nat, 13000 ≤ k ∧ k < 14000 → ¬ (k = 10000 ∨ k = 10001 ∨ k = 9000 ∨ k = 9001) := by intro k hk hT; omega
theorem nt_2022  : ∀ k : Nat, 1000 ≤ k ∧ k < 2000 → ¬ (k = 10000 ∨ k = 10001 ∨ k = 9000 ∨ k = 9001) := by intro k hk hT; omega
theorem nt_2023  : ∀ k : Nat, 2000 ≤ k ∧ k < 3000 → ¬ (k = 10000 ∨ k = 10001 ∨ k = 9000 ∨ k = 9001) := by intro k hk hT; omega
theorem nt_2024  : ∀ k : Nat, 14000 ≤ k ∧ k < 15000 → ¬ (k = 10000 ∨ k = 10001 ∨ k = 9000 ∨ k = 9001) := by intro k hk hT; omega
theorem nt_2025  : ∀ k : Nat, 5000 ≤ k ∧ k < 6000 → ¬ (k = 10000 ∨ k = 10001 ∨ k = 9000 ∨ k = 9001) := by intro k hk hT; omega
theorem nt_2026  : ∀ k : Nat, 4000 ≤ k ∧ k < 5000 → ¬ (k = 10000 ∨ k = 10001 ∨ k = 9000 ∨ k = 9001) := by intro k hk hT; omega
theorem nt_2027  : ∀ k : Nat, 6000 ≤ k ∧ k < 7000 → ¬ (k = 10000 ∨ k = 10001 ∨ k = 9000 ∨ k = 9001) := by intro k hk hT; omega
theorem nt_2028  : ∀ k : Nat, 7000 ≤ k ∧ k < 8000 → ¬ (k = 10000 ∨ k = 10001 ∨ k = 9000 ∨ k = 9001) := by intro k hk hT; omega
theorem nt_2029  : ∀ k : Nat, 3000 ≤ k ∧ k < 4000 → ¬ (k = 10000 ∨ k = 10001 ∨ k = 9000 ∨ k = 9001) := by intro k hk hT; omega
theorem nt_2030  : ∀ k : Nat, 8000 ≤ k ∧ k < 9000 → ¬ (k = 10000 ∨ k = 10001 ∨ k = 9000 ∨ k = 9001) := by intro k hk hT; omega
theorem nt_2031  : ∀ k : Nat, 9002 ≤ k ∧ k < 9003 → ¬ (k = 10000 ∨ k = 10001 ∨ k = 9000 ∨ k = 9001) := by intro k hk hT; omega
theorem nt_2032  : ∀ k : Nat, 9003 ≤ k ∧ k < 9004 → ¬ (k = 10000 ∨ k = 10001 ∨ k = 9000 ∨ k = 9001) := by intro k hk hT; omega
theorem nt_2033  : ∀ k : Nat, 9004 ≤ k ∧ k < 9005 → ¬ (k = 10000 ∨ k = 10001 ∨ k = 9000 ∨ k = 9001) := by intro k hk hT; omega
theorem nt_2034  : ∀ k : Nat, 9005 ≤ k ∧ k < 9006 → ¬ (k = 10000 ∨ k = 10001 ∨ k = 9000 ∨ k = 9001) := by intro k hk hT; omega
theorem nt_2035  : ∀ k : Nat, 9006 ≤ k ∧ k < 9007 → ¬ (k = 10000 ∨ k = 10001 ∨ k = 9000 ∨ k = 9001) := by intro k hk hT; omega
theorem nt_2036  : ∀ k : Nat, 11000 ≤ k ∧ k < 12000 → ¬ (k = 10000 ∨ k = 10001 ∨ k = 9000 ∨ k = 9001) := by intro k hk hT; omega
theorem nt_2037  : ∀ k : Nat, 15000 ≤ k ∧ k < 16000 → ¬ (k = 10000 ∨ k = 10001 ∨ k = 9000 ∨ k = 9001) := by intro k hk hT; omega
theorem nt_2038  : ∀ k : Nat, 0 ≤ k ∧ k < 1 → ¬ (k = 10000 ∨ k = 10001 ∨ k = 9000 ∨ k = 9001) := by intro k hk hT; omega
set_option maxHeartbeats 4000000 in
set_option maxRecDepth 100000 in
theorem i_X11_begin {l : Launch} {D : va_G} {cy : Nat → ClassId} {b : Nat} {f : gMem} {own : Nat → Nat} {xo : Nat} {da : Int32} {fcn : Int32} {csz : Int32} {sz : Int32} {len : Int32} {ln : Int32} {wz : Int32} {lo : Int32} {tg : Nat → Int32} {weg : Nat → Int32} {stg : Nat → Int32} {tpg : Nat → Int32} {CN : Nat → Int32 → Int32 → (Nat → Int32) → (Nat → Int32) → Prop} {ne : Nat} {x y u : Int32} (hI : xI cy own xo da fcn csz sz len ln wz lo tg weg stg tpg CN ne f)  : gU l D cy b yX11_begin cX11_begin 5 (some .int) 20 (24000 - ne + 3) (2 * (24000 - ne) + 88) [.ref xo, .int x, .int y, .int u] f gTt (fun kk nn r f2 => ∃ r9 : Int32, r = some (.int r9) ∧ ∃ (own2 : Nat → Nat) (csz2 : Int32) (sz2 : Int32) (lo2 : Int32) (ne2 : Nat) , xI cy own2 xo da fcn csz2 sz2 len ln wz lo2 tg weg stg tpg CN ne2 f2 ∧ kp0 own own2 f f2 ∧ (kk + ne ≤ ne2 + 3 ∧ nn + 2 * ne ≤ 2 * ne2 + 604)) := by
  obtain ⟨ch, sc, tp, ou, fm, dr, dt_, rd, te, la, lg, co, wo, fmg, lvg, HcXo, HcCh, HcTp, HcOu, HcFa, HcFm, HcDr, HcOt, HcRt, HcLa, HcLg, HcCo, HcLv, HcWo, HcFn⟩ := id hI
  obtain ⟨og_xo, hxo, mcXo⟩ := id HcXo
  obtain ⟨og_fm, hfm⟩ := id HcFa
  obtain ⟨lv, ⟨og_co, og_lv⟩, hco, hlv, mcCo⟩ := id HcCo
  obtain ⟨tl, th, t, ⟨og_ch, og_tl, og_sc, og_th⟩, hch, htl, hsc, hth, mcCh⟩ := id HcCh
  obtain ⟨en, ge, re, gv, tk, am, gi, eg, gvg, tkg, geg, reg, amg, ⟨og_lg, og_en, og_ge, og_re, og_gv, og_tk, og_am⟩, hlg, hen, hge, hre, hgv, htk, ham, mcLg⟩ := id HcLg
  refine gU_of (by decide) (Nat.le_of_ble_eq_true rfl) ?_
  show gG l _ _ _ D cy b cX11_begin 5 _ RX11 "begin" 0 0 f 0 [(0, .ref xo), (1, .int x), (2, .int y), (3, .int u)] []
  refine gz_aload_n dX11_begin_0 rfl rfl ?_
  refine gz_iload_n dX11_begin_1 rfl rfl ?_
  refine scX11_126 (k_X11_formAt (x := x) hxo hfm) hxo ⟨(Nat.le_of_ble_eq_true rfl), (Nat.le_of_ble_eq_true rfl)⟩ ⟨(by simp only [gRm]; omega), (by simp only [gRm]; omega)⟩ rfl rfl (Nat.le_of_ble_eq_true rfl) dX11_begin_2 ?_
  rintro u9 f9 ⟨z9, y9⟩; rw [z9, y9]
  cases hA2 : formF fcn fmg x with
  | none =>
    refine gz_ev (w := .null) rfl ?_
    refine gz_astoreN (lv' := [(4, .null), (0, .ref xo), (1, .int x), (2, .int y), (3, .int u)]) dX11_begin_5 (by decide) rfl ?_
    refine gz_aloadN dX11_begin_7 rfl ?_
    refine gz_ifnullN (tgt := 31) dX11_begin_9 (by decide) ?_
    refine gz_iconst (v := (-1)) dX11_begin_31 (by decide) ?_
    exact gz_iretU rfl dX11_begin_32 (by omega) (by omega) (⟨_, rfl, own, _, _, _, _, hI, kp0_rf, ⟨by omega, by omega⟩⟩)
  | some p =>
    refine gz_ev (w := .ref p) rfl ?_
    have hip := (formF_some hA2).1
    have hjp := (formF_some hA2).2
    obtain ⟨c1, c2, n1, n2, s, v, g, h, ⟨⟨og_p, og_c1, og_c2⟩, hp, hc1, hc2, hs, hv, hFI⟩, hCN⟩ := HcFm _ _ hip hjp
    refine gz_astore (lv' := [(4, .ref p), (0, .ref xo), (1, .int x), (2, .int y), (3, .int u)]) dX11_begin_5 (by decide) rfl ?_
    refine gz_aload dX11_begin_7 rfl ?_
    refine gz_ifnull dX11_begin_9 ?_
    refine gz_iload_n dX11_begin_12 rfl rfl ?_
    refine scX11_149 (k_X11_isHouse (x := y)) ⟨(Nat.le_of_ble_eq_true rfl), (Nat.le_of_ble_eq_true rfl)⟩ ⟨(by simp only [gRm]; omega), (by simp only [gRm]; omega)⟩ rfl rfl (Nat.le_of_ble_eq_true rfl) dX11_begin_13 ?_
    intro v9 f9 z9; rw [z9.1, z9.2]
    refine gz_if_eq (tgt := 31) dX11_begin_16 (by decide) (fun c_16 => ?_) (fun c_16 => ?_)
    ·
      refine gz_iconst (v := (-1)) dX11_begin_31 (by decide) ?_
      exact gz_iretU rfl dX11_begin_32 (by omega) (by omega) (⟨_, rfl, own, _, _, _, _, hI, kp0_rf, ⟨by omega, by omega⟩⟩)
    ·
      refine gz_iload_n dX11_begin_19 rfl rfl ?_
      refine scX11_149 (k_X11_isHouse (x := u)) ⟨(Nat.le_of_ble_eq_true rfl), (Nat.le_of_ble_eq_true rfl)⟩ ⟨(by simp only [gRm]; omega), (by simp only [gRm]; omega)⟩ rfl rfl (Nat.le_of_ble_eq_true rfl) dX11_begin_20 ?_
      intro v9 f9 z9; rw [z9.1, z9.2]
      refine gz_if_eq (tgt := 31) dX11_begin_23 (by decide) (fun c_23 => ?_) (fun c_23 => ?_)
      ·
        refine gz_iconst (v := (-1)) dX11_begin_31 (by decide) ?_
        exact gz_iretU rfl dX11_begin_32 (by omega) (by omega) (⟨_, rfl, own, _, _, _, _, hI, kp0_rf, ⟨by omega, by omega⟩⟩)
      ·
        refine gz_iload_n dX11_begin_26 rfl rfl ?_
        refine gz_iload_n dX11_begin_27 rfl rfl ?_
        refine gz_icmp_ne (tgt := 33) dX11_begin_28 (by decide) (fun c_28 => ?_) (fun c_28 => ?_)
        ·
          refine gz_aload_n dX11_begin_33 rfl rfl ?_
          refine sgX11_85 hxo rfl dX11_begin_34 ?_
          refine gz_aload dX11_begin_37 rfl ?_
          refine gz_iload_n dX11_begin_39 rfl rfl ?_
          refine gz_iload_n dX11_begin_40 rfl rfl ?_
          by_cases hcz : csz.toInt < 40
          ·
            refine suX11_153 (k_X1_open (y1 := y) (y2 := u) (so := 0) (fc := 0) (q := 0) hco hlv hp hc1 hc2 hsc hth hlg hen hs hv ⟨mcCo.1, hcz⟩ mcLg ⟨(tgn og_en og_c1 (by omega)), (tgn og_en og_c2 (by omega)), (tgn og_en og_th (by decide))⟩) hco ⟨(Nat.le_of_ble_eq_true rfl), (Nat.le_of_ble_eq_true rfl)⟩ ⟨(by simp only [gRm]; omega), (by simp only [gRm]; omega)⟩ rfl rfl (Nat.le_of_ble_eq_true rfl) dX11_begin_41 ?_
            rintro kk_1 nn_1 r_1 f1 ⟨q_1, so_1, fc_1, e_1, m_1, g_1, s_1, l_1, z_1, a_1, x_1, y_1, rfl, hco_1, hlv_1, hq_1, hso_1, hfc_1, hlg_1, he_1, hl_1, hu_1, hc_1, hn6_1, hr1⟩
            refine gz_eq (st2 := [.int csz]) rfl rfl rfl rfl ?_
            have hxo_1 : f1 xo = some (.inr (11, [.ref ch, .ref tp, .ref ou, .ref fm, .ref dr, .ref dt_, .ref rd, .ref te, .ref la, .ref lg, .ref co, .ref wo, .int fcn])) := hr1 _ _ hxo (by simp only [List.mem_cons, List.not_mem_nil, or_false, not_or]; exact ⟨(tgn og_xo og_co (by decide)), (tgn og_xo og_lv (by decide)), (tgn og_xo og_lg (by decide)), (tgn og_xo og_en (by decide))⟩)
            have hfm_1 : f1 fm = some (.inl (cy 4, 20, .inr (.inr (.inr (.inr (fmg)))))) := hr1 _ _ hfm (by simp only [List.mem_cons, List.not_mem_nil, or_false, not_or]; exact ⟨(tgn og_fm og_co (by decide)), (tgn og_fm og_lv (by decide)), (tgn og_fm og_lg (by decide)), (tgn og_fm og_en (by decide))⟩)
            have hch_1 : f1 ch = some (.inr (0, [.ref tl, .ref sc])) := hr1 _ _ hch (by simp only [List.mem_cons, List.not_mem_nil, or_false, not_or]; exact ⟨(tgn og_ch og_co (by decide)), (tgn og_ch og_lv (by decide)), (tgn og_ch og_lg (by decide)), (tgn og_ch og_en (by decide))⟩)
            have htl_1 : f1 tl = some (.inl (cy 0, 2400, .inl (tg))) := hr1 _ _ htl (by simp only [List.mem_cons, List.not_mem_nil, or_false, not_or]; exact ⟨(tgn og_tl og_co (by decide)), (tgn og_tl og_lv (by decide)), (tgn og_tl og_lg (by decide)), (tgn og_tl og_en (by decide))⟩)
            have hsc_1 : f1 sc = some (.inr (7, [.ref th, .int da])) := hr1 _ _ hsc (by simp only [List.mem_cons, List.not_mem_nil, or_false, not_or]; exact ⟨(tgn og_sc og_co (by decide)), (tgn og_sc og_lv (by decide)), (tgn og_sc og_lg (by decide)), (tgn og_sc og_en (by decide))⟩)
            have hth_1 : f1 th = some (.inl (cy 0, 6, .inl (t))) := hr1 _ _ hth (by simp only [List.mem_cons, List.not_mem_nil, or_false, not_or]; exact ⟨(tgn og_th og_co (by decide)), (tgn og_th og_lv (by decide)), (tgn og_th og_lg (by decide)), (tgn og_th og_en (by decide))⟩)
            have hge_1 : f1 ge = some (.inl (cy 2, 8, .inr (.inl (geg)))) := hr1 _ _ hge (by simp only [List.mem_cons, List.not_mem_nil, or_false, not_or]; exact ⟨(tgn og_ge og_co (by decide)), (tgn og_ge og_lv (by decide)), (tgn og_ge og_lg (by decide)), (tgn og_ge og_en (by decide))⟩)
            have hre_1 : f1 re = some (.inl (cy 2, 8, .inr (.inl (reg)))) := hr1 _ _ hre (by simp only [List.mem_cons, List.not_mem_nil, or_false, not_or]; exact ⟨(tgn og_re og_co (by decide)), (tgn og_re og_lv (by decide)), (tgn og_re og_lg (by decide)), (tgn og_re og_en (by decide))⟩)
            have hgv_1 : f1 gv = some (.inl (cy 0, 8, .inl (gvg))) := hr1 _ _ hgv (by simp only [List.mem_cons, List.not_mem_nil, or_false, not_or]; exact ⟨(tgn og_gv og_co (by decide)), (tgn og_gv og_lv (by decide)), (tgn og_gv og_lg (by decide)), (tgn og_gv og_en (by decide))⟩)
            have htk_1 : f1 tk = some (.inl (cy 0, 8, .inl (tkg))) := hr1 _ _ htk (by simp only [List.mem_cons, List.not_mem_nil, or_false, not_or]; exact ⟨(tgn og_tk og_co (by decide)), (tgn og_tk og_lv (by decide)), (tgn og_tk og_lg (by decide)), (tgn og_tk og_en (by decide))⟩)
            have ham_1 : f1 am = some (.inl (cy 2, 8, .inr (.inl (amg)))) := hr1 _ _ ham (by simp only [List.mem_cons, List.not_mem_nil, or_false, not_or]; exact ⟨(tgn og_am og_co (by decide)), (tgn og_am og_lv (by decide)), (tgn og_am og_lg (by decide)), (tgn og_am og_en (by decide))⟩)
            have hp_1 : f1 p = some (.inr (2, [.ref c1, .ref c2, .int s, .int v])) := hr1 _ _ hp (by simp only [List.mem_cons, List.not_mem_nil, or_false, not_or]; exact ⟨(tgn og_p og_co (by omega)), (tgn og_p og_lv (by omega)), (tgn og_p og_lg (by omega)), (tgn og_p og_en (by omega))⟩)
            have hc1_1 : f1 c1 = some (.inl (cy 0, n1, .inl (g))) := hr1 _ _ hc1 (by simp only [List.mem_cons, List.not_mem_nil, or_false, not_or]; exact ⟨(tgn og_c1 og_co (by omega)), (tgn og_c1 og_lv (by omega)), (tgn og_c1 og_lg (by omega)), (tgn og_c1 og_en (by omega))⟩)
            have hc2_1 : f1 c2 = some (.inl (cy 0, n2, .inl (h))) := hr1 _ _ hc2 (by simp only [List.mem_cons, List.not_mem_nil, or_false, not_or]; exact ⟨(tgn og_c2 og_co (by omega)), (tgn og_c2 og_lv (by omega)), (tgn og_c2 og_lg (by omega)), (tgn og_c2 og_en (by omega))⟩)
            have hcl : Int32.toNatClampNeg csz < 40 := clampB mcCo.1 hcz
            obtain ⟨own2, ho2⟩ : ∃ own2 : Nat → Nat, own2 = va_up (va_up (va_up (va_up own e_1 9001) q_1 (12000 + 3 * Int32.toNatClampNeg csz)) so_1 ((12000 + 3 * Int32.toNatClampNeg csz) + 1)) fc_1 ((12000 + 3 * Int32.toNatClampNeg csz) + 2) := ⟨_, rfl⟩
            have hO : ∀ z e, f z = some e → own2 z = own z := by rw [ho2]; exact own_up (own_up (own_up (own_en hc_1 og_en) hn6_1.1) hn6_1.2.1) hn6_1.2.2.1
            have hK : kp own own2 (fun k => k = 10000 ∨ k = 10001 ∨ k = 9000 ∨ k = 9001) f f1 := by
              refine kp_fr (S := [co, lv, lg, en]) ((fr_tr fr_rf (fr_mo hr1 (by simp)))) hO ?_
              intro x0 hx0
              simp only [List.mem_cons, List.not_mem_nil, or_false] at hx0
              rcases hx0 with e0 | e0 | e0 | e0
              · rw [e0]; show (own co) = 10000 ∨ (own co) = 10001 ∨ (own co) = 9000 ∨ (own co) = 9001; rw [og_co]; decide
              · rw [e0]; show (own lv) = 10000 ∨ (own lv) = 10001 ∨ (own lv) = 9000 ∨ (own lv) = 9001; rw [og_lv]; decide
              · rw [e0]; show (own lg) = 10000 ∨ (own lg) = 10001 ∨ (own lg) = 9000 ∨ (own lg) = 9001; rw [og_lg]; decide
              · rw [e0]; show (own en) = 10000 ∨ (own en) = 10001 ∨ (own en) = 9000 ∨ (own en) = 9001; rw [og_en]; decide
            have hu1 : own2 q_1 = (12000 + 3 * Int32.toNatClampNeg csz) := by rw [ho2, va_up_ne _ _ (cne hq_1 hfc_1 (by simp)), va_up_ne _ _ (cne hq_1 hso_1 (by simp)), va_up_self]
            have hu2 : own2 so_1 = (12000 + 3 * Int32.toNatClampNeg csz) + 1 := by rw [ho2, va_up_ne _ _ hn6_1.2.2.2.1, va_up_self]
            have hu3 : own2 fc_1 = (12000 + 3 * Int32.toNatClampNeg csz) + 2 := by rw [ho2, va_up_self]
            have hu4 : own2 e_1 = 9001 := by rw [ho2, va_up_ne _ _ hn6_1.2.2.2.2.2, va_up_ne _ _ hn6_1.2.2.2.2.1, va_up_ne _ _ (cne he_1 hq_1 (by simp)), va_up_self]
            have hcz1 : (csz + 1).toInt = csz.toInt + 1 := T_add (rfl : csz.toInt = csz.toInt) (rfl : (1 : Int32).toInt = 1) (by have := mcCo; omega)
            have hNew : cLf cy own2 f1 (Int32.toNatClampNeg csz) q_1 p so_1 fc_1 _ _ _ _ _ _ _ := ⟨⟨hu1, hu2, hu3⟩, hq_1, hso_1, hfc_1⟩
            exact gz_iretU rfl dX11_begin_44 (by omega) (by omega) (⟨_, rfl, own2, _, _, _, _, ⟨_, _, _, _, _, _, _, _, _, _, _, _, _, _, _, (cXo_kp HcXo hK nt_2021), (kCh_kp HcCh hK nt_2022), (kTp_kp HcTp hK nt_2023), (kOu_kp HcOu hK nt_2024), (cFa_kp HcFa hK nt_2025), (cFm_kp HcFm hK nt_2026), (kDr_kp HcDr hK nt_2027), (kOt_kp HcOt hK nt_2028), (kRt_kp HcRt hK nt_2029), (kLa_kp HcLa hK nt_2030), ⟨_, _, _, _, _, _, _, _, _, _, _, _, _, ⟨⟨((hO _ _ hlg).trans og_lg), hu4, ((hO _ _ hge).trans og_ge), ((hO _ _ hre).trans og_re), ((hO _ _ hgv).trans og_gv), ((hO _ _ htk).trans og_tk), ((hO _ _ ham).trans og_am)⟩, hlg_1, he_1, (hK.2 _ _ hge (by show ¬ ((own ge) = 10000 ∨ (own ge) = 10001 ∨ (own ge) = 9000 ∨ (own ge) = 9001); rw [og_ge]; exact nt_2031 _ ⟨Nat.le_refl _, Nat.lt_succ_self _⟩)), (hK.2 _ _ hre (by show ¬ ((own re) = 10000 ∨ (own re) = 10001 ∨ (own re) = 9000 ∨ (own re) = 9001); rw [og_re]; exact nt_2032 _ ⟨Nat.le_refl _, Nat.lt_succ_self _⟩)), (hK.2 _ _ hgv (by show ¬ ((own gv) = 10000 ∨ (own gv) = 10001 ∨ (own gv) = 9000 ∨ (own gv) = 9001); rw [og_gv]; exact nt_2033 _ ⟨Nat.le_refl _, Nat.lt_succ_self _⟩)), (hK.2 _ _ htk (by show ¬ ((own tk) = 10000 ∨ (own tk) = 10001 ∨ (own tk) = 9000 ∨ (own tk) = 9001); rw [og_tk]; exact nt_2034 _ ⟨Nat.le_refl _, Nat.lt_succ_self _⟩)), (hK.2 _ _ ham (by show ¬ ((own am) = 10000 ∨ (own am) = 10001 ∨ (own am) = 9000 ∨ (own am) = 9001); rw [og_am]; exact nt_2035 _ ⟨Nat.le_refl _, Nat.lt_succ_self _⟩)), hl_1⟩⟩, ⟨_, ⟨⟨((hO _ _ hco).trans og_co), ((hO _ _ hlv).trans og_lv)⟩, hco_1, hlv_1, ⟨by have := mcCo; omega, by omega⟩⟩⟩, (cLv_new (cLv_kp HcLv hK nt_2020) hNew ⟨hip, hjp⟩), (kWo_kp HcWo hK nt_2036 nt_2037), HcFn⟩, (kp_0 hK (nt_2038 0 ⟨Nat.le_refl _, Nat.lt_succ_self _⟩)), ⟨by omega, by omega⟩⟩)
          ·
            refine suX11_153 (k_X1_openF (p := p) (y1 := y) (y2 := u) hco (by omega)) hco ⟨(Nat.le_of_ble_eq_true rfl), (Nat.le_of_ble_eq_true rfl)⟩ ⟨(by simp only [gRm]; omega), (by simp only [gRm]; omega)⟩ rfl rfl (Nat.le_of_ble_eq_true rfl) dX11_begin_41 ?_
            rintro kk_0 nn_0 r_0 f_0 ⟨z1, z2, z3, z4⟩
            subst z1 z2 z3
            rw [z4]
            refine gz_eq (st2 := [.int (-1)]) rfl rfl rfl rfl ?_
            exact gz_iretU rfl dX11_begin_44 (by omega) (by omega) (⟨_, rfl, own, _, _, _, _, hI, kp0_rf, ⟨by omega, by omega⟩⟩)
        ·
          refine gz_iconst (v := (-1)) dX11_begin_31 (by decide) ?_
          exact gz_iretU rfl dX11_begin_32 (by omega) (by omega) (⟨_, rfl, own, _, _, _, _, hI, kp0_rf, ⟨by omega, by omega⟩⟩)

theorem trn_ok {da : Int32} (h : 0 ≤ da.toInt ∧ da.toInt ≤ 399) : 0 ≤ (trnF da).2.toInt ∧ (trnF da).2.toInt ≤ 399 := by
  unfold trnF
  by_cases hc : da < 399
  · rw [if_pos hc]
    have e1 : (1 : Int32).toInt = 1 := rfl
    have e3 : (399 : Int32).toInt = 399 := rfl
    rw [fl_lt] at hc
    have hx := T_add (rfl : da.toInt = da.toInt) e1 (by omega)
    show 0 ≤ (da + 1).toInt ∧ (da + 1).toInt ≤ 399
    omega
  · rw [if_neg hc]; exact h

set_option maxHeartbeats 4000000 in
set_option maxRecDepth 100000 in
theorem l_X11_day {l : Launch} {D : va_G} {cy : Nat → ClassId} {b : Nat} {f : gMem} {own0 : Nat → Nat} {xo ne0 : Nat} {bf : Int32} {da : Int32} {fcn : Int32} {csz : Int32} {len : Int32} {ln : Int32} {wz : Int32} {tg : Nat → Int32} {weg : Nat → Int32} {stg : Nat → Int32} {tpg : Nat → Int32} {CN : Nat → Int32 → Int32 → (Nat → Int32) → (Nat → Int32) → Prop} : ∀ (k : Nat) (i : Int32) (own : Nat → Nat) (sz lo : Int32) (ne cu su : Nat) (gm : gMem), xI cy own xo da fcn csz sz len ln wz lo tg weg stg tpg CN ne gm → kp0 own0 own f gm → (cu + ne0 ≤ ne ∧ su + 2 * ne0 ≤ 2 * ne) → (0 ≤ i.toInt ∧ i.toInt ≤ 40 ∧ i.toInt + (k : Int) = 41) → gG l (gRm 21 (24000 - ne0) (2 * (24000 - ne0))) (gQuf D b (fun kk nn r f2 => ∃ r9 : Int32, r = some (.int r9) ∧ ∃ (own2 : Nat → Nat) (sz2 lo2 : Int32) (ne2 : Nat), xI cy own2 xo da fcn csz sz2 len ln wz lo2 tg weg stg tpg CN ne2 f2 ∧ kp0 own0 own2 f f2 ∧ (kk + ne0 ≤ ne2 + 3 ∧ nn + 2 * ne0 ≤ 2 * ne2 + 604)) (24000 - ne0) (2 * (24000 - ne0))) gTt D cy b cX11_day 3 (some .int) RX11 "day" cu su gm 22 [(2, .int i), (0, .ref xo), (1, .int bf)] [] := by
  intro k
  induction k with
  | zero =>
    intro i own sz lo ne cu su gm hI hk0 hu0 hk
    exfalso; omega
  | succ k ih =>
    intro i own sz lo ne cu su gm hI hk0 hu0 hk
    obtain ⟨ch, sc, tp, ou, fm, dr, dt_, rd, te, la, lg, co, wo, fmg, lvg, HcXo, HcCh, HcTp, HcOu, HcFa, HcFm, HcDr, HcOt, HcRt, HcLa, HcLg, HcCo, HcLv, HcWo, HcFn⟩ := id hI
    obtain ⟨og_xo, hxo, mcXo⟩ := id HcXo
    obtain ⟨lv, ⟨og_co, og_lv⟩, hco, hlv, mcCo⟩ := id HcCo
    obtain ⟨tl, th, t, ⟨og_ch, og_tl, og_sc, og_th⟩, hch, htl, hsc, hth, mcCh⟩ := id HcCh
    obtain ⟨en, ge, re, gv, tk, am, gi, eg, gvg, tkg, geg, reg, amg, ⟨og_lg, og_en, og_ge, og_re, og_gv, og_tk, og_am⟩, hlg, hen, hge, hre, hgv, htk, ham, mcLg⟩ := id HcLg
    refine gz_iload_n dX11_day_22 rfl rfl ?_
    refine gz_bipush (v := 40) dX11_day_23 (by decide) ?_
    refine gz_icmp_ge (tgt := 49) dX11_day_25 (by decide) (fun c_25 => ?_) (fun c_25 => ?_)
    ·
      refine gz_aload_n dX11_day_49 rfl rfl ?_
      refine sgX11_72 hxo rfl dX11_day_50 ?_
      refine scX11_161 (k_X4_size hlg) hlg ⟨(Nat.le_of_ble_eq_true rfl), (Nat.le_of_ble_eq_true rfl)⟩ ⟨(by simp only [gRm]; omega), (by simp only [gRm]; omega)⟩ rfl rfl (Nat.le_of_ble_eq_true rfl) dX11_day_53 ?_
      intro v9 f9 z9; rw [z9.1, z9.2]
      refine gz_iload_n dX11_day_56 rfl rfl ?_
      refine gz_isub dX11_day_57 ?_
      exact gz_iretU rfl dX11_day_58 (by omega) (by omega) (⟨_, rfl, own, _, _, _, hI, hk0, ⟨by omega, by omega⟩⟩)
    ·
      refine gz_aload_n dX11_day_28 rfl rfl ?_
      refine sgX11_85 hxo rfl dX11_day_29 ?_
      refine gz_aload_n dX11_day_32 rfl rfl ?_
      refine sgX11_85 hxo rfl dX11_day_33 ?_
      refine gz_iload_n dX11_day_36 rfl rfl ?_
      refine scX11_162 (k_X1_lifeAt (nb := i) hco hlv) hco ⟨(Nat.le_of_ble_eq_true rfl), (Nat.le_of_ble_eq_true rfl)⟩ ⟨(by simp only [gRm]; omega), (by simp only [gRm]; omega)⟩ rfl rfl (Nat.le_of_ble_eq_true rfl) dX11_day_37 ?_
      rintro u9 f9 ⟨z9, y9⟩; rw [z9, y9]
      cases hA1 : lifeF csz lvg i with
      | none =>
        refine gz_ev (w := .null) rfl ?_
        refine suX11_166 (k_X1_wakeN hco) hco ⟨(Nat.le_of_ble_eq_true rfl), (Nat.le_of_ble_eq_true rfl)⟩ ⟨(by simp only [gRm]; omega), (by simp only [gRm]; omega)⟩ rfl rfl (Nat.le_of_ble_eq_true rfl) dX11_day_40 ?_
        rintro kk_0 nn_0 r_0 f_0 ⟨z1, z2, z3, z4⟩
        subst z1 z2 z3
        rw [z4]
        refine gz_eq (st2 := []) rfl rfl rfl rfl ?_
        refine gz_iinc (v := (i + 1)) (lv' := [(2, .int (i + 1)), (0, .ref xo), (1, .int bf)]) dX11_day_43 rfl rfl (by decide) rfl ?_
        refine gz_goto (tgt := 22) dX11_day_46 (by decide) ?_
        exact ih _ own sz lo ne _ _ _ hI hk0 (by omega) (by have e1 : (1 : Int32).toInt = 1 := rfl; have e40 : (40 : Int32).toInt = 40 := rfl; have hq0 := c_25; simp only [fl_le] at hq0; have hx := T_add (rfl : i.toInt = i.toInt) e1 (by omega); omega)
      | some lf =>
        refine gz_ev (w := .ref lf) rfl ?_
        have hilf := (lifeF_some hA1).1
        have hjlf := (lifeF_some hA1).2
        obtain ⟨p, so, fc, jf, nu, ho1, ho2, fs_, ga, sg, fg, hLf, hjf, hjp⟩ := HcLv _ _ hilf hjlf
        obtain ⟨⟨og_lf, og_so, og_fc⟩, hlf, hso, hfc⟩ := id hLf
        obtain ⟨c1, c2, n1, n2, s, v, g, h, ⟨⟨og_p, og_c1, og_c2⟩, hp, hc1, hc2, hs, hv, hFI⟩, hCN⟩ := HcFm _ _ hjf hjp
        refine suX11_166 (k_X1_wake hco hlf hso hfc hp hc1 hc2 hsc hth hlg hen hs hv ⟨(tgn og_so og_fc (by omega)), (tgn og_so og_c1 (by omega)), (tgn og_so og_c2 (by omega)), (tgn og_so og_th (by omega)), (tgn og_fc og_c1 (by omega)), (tgn og_fc og_c2 (by omega)), (tgn og_fc og_th (by omega))⟩ mcLg ⟨(tgn og_en og_so (by omega)), (tgn og_en og_fc (by omega)), (tgn og_en og_c1 (by omega)), (tgn og_en og_c2 (by omega)), (tgn og_en og_th (by decide))⟩) hco ⟨(Nat.le_of_ble_eq_true rfl), (Nat.le_of_ble_eq_true rfl)⟩ ⟨(by simp only [gRm]; omega), (by simp only [gRm]; omega)⟩ rfl rfl (Nat.le_of_ble_eq_true rfl) dX11_day_40 ?_
        rintro kk_1 nn_1 r_1 f1 ⟨e_1, m_1, g_1, s_1, l_1, z_1, a_1, x_1, y_1, rfl, hlg_1, he_1, hlf_1, hso_1, hfc_1, hl_1, hu_1, hc_1, hr1⟩
        refine gz_eq (st2 := []) rfl rfl rfl rfl ?_
        have hxo_1 : f1 xo = some (.inr (11, [.ref ch, .ref tp, .ref ou, .ref fm, .ref dr, .ref dt_, .ref rd, .ref te, .ref la, .ref lg, .ref co, .ref wo, .int fcn])) := hr1 _ _ hxo (by simp only [List.mem_cons, List.not_mem_nil, or_false, not_or]; exact ⟨(tgn og_xo og_lg (by decide)), (tgn og_xo og_en (by decide)), (tgn og_xo og_lf (by omega)), (tgn og_xo og_so (by omega)), (tgn og_xo og_fc (by omega))⟩)
        have hco_1 : f1 co = some (.inr (1, [.ref lv, .ref sc, .ref lg, .int csz])) := hr1 _ _ hco (by simp only [List.mem_cons, List.not_mem_nil, or_false, not_or]; exact ⟨(tgn og_co og_lg (by decide)), (tgn og_co og_en (by decide)), (tgn og_co og_lf (by omega)), (tgn og_co og_so (by omega)), (tgn og_co og_fc (by omega))⟩)
        have hlv_1 : f1 lv = some (.inl (cy 5, 40, .inr (.inr (.inr (.inr (lvg)))))) := hr1 _ _ hlv (by simp only [List.mem_cons, List.not_mem_nil, or_false, not_or]; exact ⟨(tgn og_lv og_lg (by decide)), (tgn og_lv og_en (by decide)), (tgn og_lv og_lf (by omega)), (tgn og_lv og_so (by omega)), (tgn og_lv og_fc (by omega))⟩)
        have hch_1 : f1 ch = some (.inr (0, [.ref tl, .ref sc])) := hr1 _ _ hch (by simp only [List.mem_cons, List.not_mem_nil, or_false, not_or]; exact ⟨(tgn og_ch og_lg (by decide)), (tgn og_ch og_en (by decide)), (tgn og_ch og_lf (by omega)), (tgn og_ch og_so (by omega)), (tgn og_ch og_fc (by omega))⟩)
        have htl_1 : f1 tl = some (.inl (cy 0, 2400, .inl (tg))) := hr1 _ _ htl (by simp only [List.mem_cons, List.not_mem_nil, or_false, not_or]; exact ⟨(tgn og_tl og_lg (by decide)), (tgn og_tl og_en (by decide)), (tgn og_tl og_lf (by omega)), (tgn og_tl og_so (by omega)), (tgn og_tl og_fc (by omega))⟩)
        have hsc_1 : f1 sc = some (.inr (7, [.ref th, .int da])) := hr1 _ _ hsc (by simp only [List.mem_cons, List.not_mem_nil, or_false, not_or]; exact ⟨(tgn og_sc og_lg (by decide)), (tgn og_sc og_en (by decide)), (tgn og_sc og_lf (by omega)), (tgn og_sc og_so (by omega)), (tgn og_sc og_fc (by omega))⟩)
        have hth_1 : f1 th = some (.inl (cy 0, 6, .inl (t))) := hr1 _ _ hth (by simp only [List.mem_cons, List.not_mem_nil, or_false, not_or]; exact ⟨(tgn og_th og_lg (by decide)), (tgn og_th og_en (by decide)), (tgn og_th og_lf (by omega)), (tgn og_th og_so (by omega)), (tgn og_th og_fc (by omega))⟩)
        have hge_1 : f1 ge = some (.inl (cy 2, 8, .inr (.inl (geg)))) := hr1 _ _ hge (by simp only [List.mem_cons, List.not_mem_nil, or_false, not_or]; exact ⟨(tgn og_ge og_lg (by decide)), (tgn og_ge og_en (by decide)), (tgn og_ge og_lf (by omega)), (tgn og_ge og_so (by omega)), (tgn og_ge og_fc (by omega))⟩)
        have hre_1 : f1 re = some (.inl (cy 2, 8, .inr (.inl (reg)))) := hr1 _ _ hre (by simp only [List.mem_cons, List.not_mem_nil, or_false, not_or]; exact ⟨(tgn og_re og_lg (by decide)), (tgn og_re og_en (by decide)), (tgn og_re og_lf (by omega)), (tgn og_re og_so (by omega)), (tgn og_re og_fc (by omega))⟩)
        have hgv_1 : f1 gv = some (.inl (cy 0, 8, .inl (gvg))) := hr1 _ _ hgv (by simp only [List.mem_cons, List.not_mem_nil, or_false, not_or]; exact ⟨(tgn og_gv og_lg (by decide)), (tgn og_gv og_en (by decide)), (tgn og_gv og_lf (by omega)), (tgn og_gv og_so (by omega)), (tgn og_gv og_fc (by omega))⟩)
        have htk_1 : f1 tk = some (.inl (cy 0, 8, .inl (tkg))) := hr1 _ _ htk (by simp only [List.mem_cons, List.not_mem_nil, or_false, not_or]; exact ⟨(tgn og_tk og_lg (by decide)), (tgn og_tk og_en (by decide)), (tgn og_tk og_lf (by omega)), (tgn og_tk og_so (by omega)), (tgn og_tk og_fc (by omega))⟩)
        have ham_1 : f1 am = some (.inl (cy 2, 8, .inr (.inl (amg)))) := hr1 _ _ ham (by simp only [List.mem_cons, List.not_mem_nil, or_false, not_or]; exact ⟨(tgn og_am og_lg (by decide)), (tgn og_am og_en (by decide)), (tgn og_am og_lf (by omega)), (tgn og_am og_so (by omega)), (tgn og_am og_fc (by omega))⟩)
        have hp_1 : f1 p = some (.inr (2, [.ref c1, .ref c2, .int s, .int v])) := hr1 _ _ hp (by simp only [List.mem_cons, List.not_mem_nil, or_false, not_or]; exact ⟨(tgn og_p og_lg (by omega)), (tgn og_p og_en (by omega)), (tgn og_p og_lf (by omega)), (tgn og_p og_so (by omega)), (tgn og_p og_fc (by omega))⟩)
        have hc1_1 : f1 c1 = some (.inl (cy 0, n1, .inl (g))) := hr1 _ _ hc1 (by simp only [List.mem_cons, List.not_mem_nil, or_false, not_or]; exact ⟨(tgn og_c1 og_lg (by omega)), (tgn og_c1 og_en (by omega)), (tgn og_c1 og_lf (by omega)), (tgn og_c1 og_so (by omega)), (tgn og_c1 og_fc (by omega))⟩)
        have hc2_1 : f1 c2 = some (.inl (cy 0, n2, .inl (h))) := hr1 _ _ hc2 (by simp only [List.mem_cons, List.not_mem_nil, or_false, not_or]; exact ⟨(tgn og_c2 og_lg (by omega)), (tgn og_c2 og_en (by omega)), (tgn og_c2 og_lf (by omega)), (tgn og_c2 og_so (by omega)), (tgn og_c2 og_fc (by omega))⟩)
        refine gz_iinc (v := (i + 1)) (lv' := [(2, .int (i + 1)), (0, .ref xo), (1, .int bf)]) dX11_day_43 rfl rfl (by decide) rfl ?_
        refine gz_goto (tgt := 22) dX11_day_46 (by decide) ?_
        obtain ⟨own2, ho2⟩ : ∃ own2 : Nat → Nat, own2 = va_up own e_1 9001 := ⟨_, rfl⟩
        have hO : ∀ z e, gm z = some e → own2 z = own z := by rw [ho2]; exact own_en hc_1 og_en
        have hK : kp own own2 (fun k => k = 9000 ∨ k = 9001 ∨ k = 12000 + 3 * (Int32.toNatClampNeg i) ∨ k = 12000 + 3 * (Int32.toNatClampNeg i) + 1 ∨ k = 12000 + 3 * (Int32.toNatClampNeg i) + 2) gm f1 := by
          refine kp_fr (S := [lg, en, lf, so, fc]) ((fr_tr fr_rf (fr_mo hr1 (by simp)))) hO ?_
          intro x0 hx0
          simp only [List.mem_cons, List.not_mem_nil, or_false] at hx0
          rcases hx0 with e0 | e0 | e0 | e0 | e0
          · rw [e0]; show (own lg) = 9000 ∨ (own lg) = 9001 ∨ (own lg) = 12000 + 3 * (Int32.toNatClampNeg i) ∨ (own lg) = 12000 + 3 * (Int32.toNatClampNeg i) + 1 ∨ (own lg) = 12000 + 3 * (Int32.toNatClampNeg i) + 2; rw [og_lg]; simp
          · rw [e0]; show (own en) = 9000 ∨ (own en) = 9001 ∨ (own en) = 12000 + 3 * (Int32.toNatClampNeg i) ∨ (own en) = 12000 + 3 * (Int32.toNatClampNeg i) + 1 ∨ (own en) = 12000 + 3 * (Int32.toNatClampNeg i) + 2; rw [og_en]; simp
          · rw [e0]; show (own lf) = 9000 ∨ (own lf) = 9001 ∨ (own lf) = 12000 + 3 * (Int32.toNatClampNeg i) ∨ (own lf) = 12000 + 3 * (Int32.toNatClampNeg i) + 1 ∨ (own lf) = 12000 + 3 * (Int32.toNatClampNeg i) + 2; rw [og_lf]; simp
          · rw [e0]; show (own so) = 9000 ∨ (own so) = 9001 ∨ (own so) = 12000 + 3 * (Int32.toNatClampNeg i) ∨ (own so) = 12000 + 3 * (Int32.toNatClampNeg i) + 1 ∨ (own so) = 12000 + 3 * (Int32.toNatClampNeg i) + 2; rw [og_so]; simp
          · rw [e0]; show (own fc) = 9000 ∨ (own fc) = 9001 ∨ (own fc) = 12000 + 3 * (Int32.toNatClampNeg i) ∨ (own fc) = 12000 + 3 * (Int32.toNatClampNeg i) + 1 ∨ (own fc) = 12000 + 3 * (Int32.toNatClampNeg i) + 2; rw [og_fc]; simp
        have hLf2 : cLf cy own2 f1 (Int32.toNatClampNeg i) lf p so fc _ _ _ _ _ _ _ := ⟨⟨(hO _ _ hlf).trans og_lf, (hO _ _ hso).trans og_so, (hO _ _ hfc).trans og_fc⟩, hlf_1, hso_1, hfc_1⟩
        have hen9 : own2 e_1 = 9001 := by rw [ho2]; exact va_up_self _ _ _
        have hI2 : xI cy own2 xo da fcn csz _ len ln wz _ tg weg stg tpg CN _ f1 := ⟨_, _, _, _, _, _, _, _, _, _, _, _, _, _, _, (cXo_kp HcXo hK (nt_2001 (Int32.toNatClampNeg i) hilf)), (kCh_kp HcCh hK (nt_2002 (Int32.toNatClampNeg i) hilf)), (kTp_kp HcTp hK (nt_2003 (Int32.toNatClampNeg i) hilf)), (kOu_kp HcOu hK (nt_2004 (Int32.toNatClampNeg i) hilf)), (cFa_kp HcFa hK (nt_2005 (Int32.toNatClampNeg i) hilf)), (cFm_kp HcFm hK (nt_2006 (Int32.toNatClampNeg i) hilf)), (kDr_kp HcDr hK (nt_2007 (Int32.toNatClampNeg i) hilf)), (kOt_kp HcOt hK (nt_2008 (Int32.toNatClampNeg i) hilf)), (kRt_kp HcRt hK (nt_2009 (Int32.toNatClampNeg i) hilf)), (kLa_kp HcLa hK (nt_2010 (Int32.toNatClampNeg i) hilf)), ⟨_, _, _, _, _, _, _, _, _, _, _, _, _, ⟨⟨((hO _ _ hlg).trans og_lg), hen9, ((hO _ _ hge).trans og_ge), ((hO _ _ hre).trans og_re), ((hO _ _ hgv).trans og_gv), ((hO _ _ htk).trans og_tk), ((hO _ _ ham).trans og_am)⟩, hlg_1, he_1, (hK.2 _ _ hge (by show ¬ ((own ge) = 9000 ∨ (own ge) = 9001 ∨ (own ge) = 12000 + 3 * (Int32.toNatClampNeg i) ∨ (own ge) = 12000 + 3 * (Int32.toNatClampNeg i) + 1 ∨ (own ge) = 12000 + 3 * (Int32.toNatClampNeg i) + 2); rw [og_ge]; exact (nt_2011 (Int32.toNatClampNeg i) hilf) _ ⟨Nat.le_refl _, Nat.lt_succ_self _⟩)), (hK.2 _ _ hre (by show ¬ ((own re) = 9000 ∨ (own re) = 9001 ∨ (own re) = 12000 + 3 * (Int32.toNatClampNeg i) ∨ (own re) = 12000 + 3 * (Int32.toNatClampNeg i) + 1 ∨ (own re) = 12000 + 3 * (Int32.toNatClampNeg i) + 2); rw [og_re]; exact (nt_2012 (Int32.toNatClampNeg i) hilf) _ ⟨Nat.le_refl _, Nat.lt_succ_self _⟩)), (hK.2 _ _ hgv (by show ¬ ((own gv) = 9000 ∨ (own gv) = 9001 ∨ (own gv) = 12000 + 3 * (Int32.toNatClampNeg i) ∨ (own gv) = 12000 + 3 * (Int32.toNatClampNeg i) + 1 ∨ (own gv) = 12000 + 3 * (Int32.toNatClampNeg i) + 2); rw [og_gv]; exact (nt_2013 (Int32.toNatClampNeg i) hilf) _ ⟨Nat.le_refl _, Nat.lt_succ_self _⟩)), (hK.2 _ _ htk (by show ¬ ((own tk) = 9000 ∨ (own tk) = 9001 ∨ (own tk) = 12000 + 3 * (Int32.toNatClampNeg i) ∨ (own tk) = 12000 + 3 * (Int32.toNatClampNeg i) + 1 ∨ (own tk) = 12000 + 3 * (Int32.toNatClampNeg i) + 2); rw [og_tk]; exact (nt_2014 (Int32.toNatClampNeg i) hilf) _ ⟨Nat.le_refl _, Nat.lt_succ_self _⟩)), (hK.2 _ _ ham (by show ¬ ((own am) = 9000 ∨ (own am) = 9001 ∨ (own am) = 12000 + 3 * (Int32.toNatClampNeg i) ∨ (own am) = 12000 + 3 * (Int32.toNatClampNeg i) + 1 ∨ (own am) = 12000 + 3 * (Int32.toNatClampNeg i) + 2); rw [og_am]; exact (nt_2015 (Int32.toNatClampNeg i) hilf) _ ⟨Nat.le_refl _, Nat.lt_succ_self _⟩)), hl_1⟩⟩, (kCo_kp HcCo hK (nt_2016 (Int32.toNatClampNeg i) hilf)), (cLv_one HcLv hK (nt_2000 (Int32.toNatClampNeg i) hilf) hjlf hLf2 ⟨hjf, hjp⟩), (kWo_kp HcWo hK (nt_2017 (Int32.toNatClampNeg i) hilf) (nt_2018 (Int32.toNatClampNeg i) hilf)), HcFn⟩
        exact ih _ own2 _ _ _ _ _ _ hI2 (kp0_tr hk0 (kp_0 hK ((nt_2019 (Int32.toNatClampNeg i) hilf) 0 ⟨Nat.le_refl _, Nat.lt_succ_self _⟩))) (by omega) (by have e1 : (1 : Int32).toInt = 1 := rfl; have e40 : (40 : Int32).toInt = 40 := rfl; have hq0 := c_25; simp only [fl_le] at hq0; have hx := T_add (rfl : i.toInt = i.toInt) e1 (by omega); omega)

theorem nt_2039  : ∀ k : Nat, 13000 ≤ k ∧ k < 14000 → ¬ (k = 1002) := by intro k hk hT; omega
theorem nt_2040  : ∀ k : Nat, 1000 ≤ k ∧ k < 1001 → ¬ (k = 1002) := by intro k hk hT; omega
theorem nt_2041  : ∀ k : Nat, 1001 ≤ k ∧ k < 1002 → ¬ (k = 1002) := by intro k hk hT; omega
theorem nt_2042  : ∀ k : Nat, 1003 ≤ k ∧ k < 1004 → ¬ (k = 1002) := by intro k hk hT; omega
theorem nt_2043  : ∀ k : Nat, 2000 ≤ k ∧ k < 3000 → ¬ (k = 1002) := by intro k hk hT; omega
theorem nt_2044  : ∀ k : Nat, 14000 ≤ k ∧ k < 15000 → ¬ (k = 1002) := by intro k hk hT; omega
theorem nt_2045  : ∀ k : Nat, 5000 ≤ k ∧ k < 6000 → ¬ (k = 1002) := by intro k hk hT; omega
theorem nt_2046  : ∀ k : Nat, 4000 ≤ k ∧ k < 5000 → ¬ (k = 1002) := by intro k hk hT; omega
theorem nt_2047  : ∀ k : Nat, 6000 ≤ k ∧ k < 7000 → ¬ (k = 1002) := by intro k hk hT; omega
theorem nt_2048  : ∀ k : Nat, 7000 ≤ k ∧ k < 8000 → ¬ (k = 1002) := by intro k hk hT; omega
theorem nt_2049  : ∀ k : Nat, 3000 ≤ k ∧ k < 4000 → ¬ (k = 1002) := by intro k hk hT; omega
theorem nt_2050  : ∀ k : Nat, 8000 ≤ k ∧ k < 9000 → ¬ (k = 1002) := by intro k hk hT; omega
theorem nt_2051  : ∀ k : Nat, 9000 ≤ k ∧ k < 10000 → ¬ (k = 1002) := by intro k hk hT; omega
theorem nt_2052  : ∀ k : Nat, 10000 ≤ k ∧ k < 11000 → ¬ (k = 1002) := by intro k hk hT; omega
theorem nt_2053  : ∀ k : Nat, 12000 ≤ k ∧ k < 13000 → ¬ (k = 1002) := by intro k hk hT; omega
theorem nt_2054  : ∀ k : Nat, 11000 ≤ k ∧ k < 12000 → ¬ (k = 1002) := by intro k hk hT; omega
theorem nt_2055  : ∀ k : Nat, 15000 ≤ k ∧ k < 16000 → ¬ (k = 1002) := by intro k hk hT; omega
theorem nt_2056  : ∀ k : Nat, 0 ≤ k ∧ k < 1 → ¬ (k = 1002) := by intro k hk hT; omega
set_option maxHeartbeats 4000000 in
set_option maxRecDepth 100000 in
theorem i_X11_day {l : Launch} {D : va_G} {cy : Nat → ClassId} {b : Nat} {f : gMem} {own : Nat → Nat} {xo : Nat} {da : Int32} {fcn : Int32} {csz : Int32} {sz : Int32} {len : Int32} {ln : Int32} {wz : Int32} {lo : Int32} {tg : Nat → Int32} {weg : Nat → Int32} {stg : Nat → Int32} {tpg : Nat → Int32} {CN : Nat → Int32 → Int32 → (Nat → Int32) → (Nat → Int32) → Prop} {ne : Nat}  (hI : xI cy own xo da fcn csz sz len ln wz lo tg weg stg tpg CN ne f)  : gU l D cy b yX11_day cX11_day 3 (some .int) 21 (24000 - ne) (2 * (24000 - ne)) [.ref xo] f gTt (fun kk nn r f2 => ∃ r9 : Int32, r = some (.int r9) ∧ ∃ (own2 : Nat → Nat) (sz2 lo2 : Int32) (ne2 : Nat), xI cy own2 xo (trnF da).2 fcn csz sz2 len ln wz lo2 tg weg stg tpg CN ne2 f2 ∧ kp0 own own2 f f2 ∧ (kk + ne ≤ ne2 + 3 ∧ nn + 2 * ne ≤ 2 * ne2 + 604)) := by
  obtain ⟨ch, sc, tp, ou, fm, dr, dt_, rd, te, la, lg, co, wo, fmg, lvg, HcXo, HcCh, HcTp, HcOu, HcFa, HcFm, HcDr, HcOt, HcRt, HcLa, HcLg, HcCo, HcLv, HcWo, HcFn⟩ := id hI
  obtain ⟨og_xo, hxo, mcXo⟩ := id HcXo
  obtain ⟨tl, th, t, ⟨og_ch, og_tl, og_sc, og_th⟩, hch, htl, hsc, hth, mcCh⟩ := id HcCh
  obtain ⟨en, ge, re, gv, tk, am, gi, eg, gvg, tkg, geg, reg, amg, ⟨og_lg, og_en, og_ge, og_re, og_gv, og_tk, og_am⟩, hlg, hen, hge, hre, hgv, htk, ham, mcLg⟩ := id HcLg
  refine gU_of (by decide) (Nat.le_of_ble_eq_true rfl) ?_
  show gG l _ _ _ D cy b cX11_day 3 _ RX11 "day" 0 0 f 0 [(0, .ref xo)] []
  refine gz_aload_n dX11_day_0 rfl rfl ?_
  refine sgX11_12 hxo rfl dX11_day_1 ?_
  refine scX11_157 (k_X0_turn hch hsc) hch ⟨(Nat.le_of_ble_eq_true rfl), (Nat.le_of_ble_eq_true rfl)⟩ ⟨(by simp only [gRm]; omega), (by simp only [gRm]; omega)⟩ rfl rfl (Nat.le_of_ble_eq_true rfl) dX11_day_4 ?_
  rintro r1 f1 ⟨z1, hsc_1, hr1⟩; rw [z1]
  have hxo_1 : f1 xo = some (.inr (11, [.ref ch, .ref tp, .ref ou, .ref fm, .ref dr, .ref dt_, .ref rd, .ref te, .ref la, .ref lg, .ref co, .ref wo, .int fcn])) := hr1 _ _ hxo (by simp only [List.mem_cons, List.not_mem_nil, or_false, not_or]; exact (tgn og_xo og_sc (by decide)))
  have hch_1 : f1 ch = some (.inr (0, [.ref tl, .ref sc])) := hr1 _ _ hch (by simp only [List.mem_cons, List.not_mem_nil, or_false, not_or]; exact (tgn og_ch og_sc (by decide)))
  have htl_1 : f1 tl = some (.inl (cy 0, 2400, .inl (tg))) := hr1 _ _ htl (by simp only [List.mem_cons, List.not_mem_nil, or_false, not_or]; exact (tgn og_tl og_sc (by decide)))
  have hth_1 : f1 th = some (.inl (cy 0, 6, .inl (t))) := hr1 _ _ hth (by simp only [List.mem_cons, List.not_mem_nil, or_false, not_or]; exact (tgn og_th og_sc (by decide)))
  have hlg_1 : f1 lg = some (.inr (4, [.ref en, .int sz, .int lo, .ref ge, .ref re, .ref gv, .ref tk, .ref am, .int gi])) := hr1 _ _ hlg (by simp only [List.mem_cons, List.not_mem_nil, or_false, not_or]; exact (tgn og_lg og_sc (by decide)))
  have hen_1 : f1 en = some (.inl (cy 0, ne, .inl (eg))) := hr1 _ _ hen (by simp only [List.mem_cons, List.not_mem_nil, or_false, not_or]; exact (tgn og_en og_sc (by decide)))
  have hge_1 : f1 ge = some (.inl (cy 2, 8, .inr (.inl (geg)))) := hr1 _ _ hge (by simp only [List.mem_cons, List.not_mem_nil, or_false, not_or]; exact (tgn og_ge og_sc (by decide)))
  have hre_1 : f1 re = some (.inl (cy 2, 8, .inr (.inl (reg)))) := hr1 _ _ hre (by simp only [List.mem_cons, List.not_mem_nil, or_false, not_or]; exact (tgn og_re og_sc (by decide)))
  have hgv_1 : f1 gv = some (.inl (cy 0, 8, .inl (gvg))) := hr1 _ _ hgv (by simp only [List.mem_cons, List.not_mem_nil, or_false, not_or]; exact (tgn og_gv og_sc (by decide)))
  have htk_1 : f1 tk = some (.inl (cy 0, 8, .inl (tkg))) := hr1 _ _ htk (by simp only [List.mem_cons, List.not_mem_nil, or_false, not_or]; exact (tgn og_tk og_sc (by decide)))
  have ham_1 : f1 am = some (.inl (cy 2, 8, .inr (.inl (amg)))) := hr1 _ _ ham (by simp only [List.mem_cons, List.not_mem_nil, or_false, not_or]; exact (tgn og_am og_sc (by decide)))
  refine gz_if_ne (tgt := 12) dX11_day_7 (by decide) (fun c_7 => ?_) (fun c_7 => ?_)
  ·
    refine gz_aload_n dX11_day_12 rfl rfl ?_
    refine sgX11_72 hxo_1 rfl dX11_day_13 ?_
    refine scX11_161 (k_X4_size hlg_1) hlg_1 ⟨(Nat.le_of_ble_eq_true rfl), (Nat.le_of_ble_eq_true rfl)⟩ ⟨(by simp only [gRm]; omega), (by simp only [gRm]; omega)⟩ rfl rfl (Nat.le_of_ble_eq_true rfl) dX11_day_16 ?_
    intro v9 f9 z9; rw [z9.1, z9.2]
    refine gz_istore_n (lv' := [(1, .int sz), (0, .ref xo)]) dX11_day_19 rfl (by decide) rfl ?_
    refine gz_iconst (v := 0) dX11_day_20 (by decide) ?_
    refine gz_istore_n (lv' := [(2, .int 0), (1, .int sz), (0, .ref xo)]) dX11_day_21 rfl (by decide) rfl ?_
    have hK : kp own own (fun k => k = 1002) f f1 := by
      refine kp_fr (S := [sc]) ((fr_tr fr_rf (fr_mo hr1 (by simp)))) (fun _ _ _ => rfl) ?_
      intro x0 hx0
      simp only [List.mem_cons, List.not_mem_nil, or_false] at hx0
      have e0 := hx0
      rw [e0]; exact og_sc
    have hI1 : xI cy own xo (trnF da).2 fcn csz sz len ln wz lo tg weg stg tpg CN ne f1 := ⟨_, _, _, _, _, _, _, _, _, _, _, _, _, _, _, (cXo_kp HcXo hK nt_2039), ⟨_, _, _, ⟨⟨og_ch, og_tl, og_sc, og_th⟩, (hK.2 _ _ hch (by show ¬ ((own ch) = 1002); rw [og_ch]; exact nt_2040 _ ⟨Nat.le_refl _, Nat.lt_succ_self _⟩)), (hK.2 _ _ htl (by show ¬ ((own tl) = 1002); rw [og_tl]; exact nt_2041 _ ⟨Nat.le_refl _, Nat.lt_succ_self _⟩)), hsc_1, (hK.2 _ _ hth (by show ¬ ((own th) = 1002); rw [og_th]; exact nt_2042 _ ⟨Nat.le_refl _, Nat.lt_succ_self _⟩)), (trn_ok mcCh)⟩⟩, (kTp_kp HcTp hK nt_2043), (kOu_kp HcOu hK nt_2044), (cFa_kp HcFa hK nt_2045), (cFm_kp HcFm hK nt_2046), (kDr_kp HcDr hK nt_2047), (kOt_kp HcOt hK nt_2048), (kRt_kp HcRt hK nt_2049), (kLa_kp HcLa hK nt_2050), (kLg_kp HcLg hK nt_2051), (kCo_kp HcCo hK nt_2052), (cLv_kp HcLv hK nt_2053), (kWo_kp HcWo hK nt_2054 nt_2055), HcFn⟩
    refine gz_sub (lv' := [(2, .int 0), (0, .ref xo), (1, .int sz)]) (by simp [List.lookup]) ?_
    exact l_X11_day 41 0 own _ _ _ 0 0 _ hI1 (kp_0 hK (nt_2056 0 ⟨Nat.le_refl _, Nat.lt_succ_self _⟩)) ⟨by omega, by omega⟩ ⟨by decide, by decide, by decide⟩
  ·
    refine gz_iconst (v := (-1)) dX11_day_10 (by decide) ?_
    have hK : kp own own (fun k => k = 1002) f f1 := by
      refine kp_fr (S := [sc]) ((fr_tr fr_rf (fr_mo hr1 (by simp)))) (fun _ _ _ => rfl) ?_
      intro x0 hx0
      simp only [List.mem_cons, List.not_mem_nil, or_false] at hx0
      have e0 := hx0
      rw [e0]; exact og_sc
    have hI1 : xI cy own xo (trnF da).2 fcn csz sz len ln wz lo tg weg stg tpg CN ne f1 := ⟨_, _, _, _, _, _, _, _, _, _, _, _, _, _, _, (cXo_kp HcXo hK nt_2039), ⟨_, _, _, ⟨⟨og_ch, og_tl, og_sc, og_th⟩, (hK.2 _ _ hch (by show ¬ ((own ch) = 1002); rw [og_ch]; exact nt_2040 _ ⟨Nat.le_refl _, Nat.lt_succ_self _⟩)), (hK.2 _ _ htl (by show ¬ ((own tl) = 1002); rw [og_tl]; exact nt_2041 _ ⟨Nat.le_refl _, Nat.lt_succ_self _⟩)), hsc_1, (hK.2 _ _ hth (by show ¬ ((own th) = 1002); rw [og_th]; exact nt_2042 _ ⟨Nat.le_refl _, Nat.lt_succ_self _⟩)), (trn_ok mcCh)⟩⟩, (kTp_kp HcTp hK nt_2043), (kOu_kp HcOu hK nt_2044), (cFa_kp HcFa hK nt_2045), (cFm_kp HcFm hK nt_2046), (kDr_kp HcDr hK nt_2047), (kOt_kp HcOt hK nt_2048), (kRt_kp HcRt hK nt_2049), (kLa_kp HcLa hK nt_2050), (kLg_kp HcLg hK nt_2051), (kCo_kp HcCo hK nt_2052), (cLv_kp HcLv hK nt_2053), (kWo_kp HcWo hK nt_2054 nt_2055), HcFn⟩
    exact gz_iretU rfl dX11_day_11 (by omega) (by omega) (⟨_, rfl, own, _, _, _, hI1, (kp_0 hK (nt_2056 0 ⟨Nat.le_refl _, Nat.lt_succ_self _⟩)), ⟨by omega, by omega⟩⟩)

theorem nt_2057  : ∀ k : Nat, 13000 ≤ k ∧ k < 14000 → ¬ (k = 11000 ∨ (15000 ≤ k ∧ k < 16000)) := by intro k hk hT; omega
theorem nt_2058  : ∀ k : Nat, 1000 ≤ k ∧ k < 2000 → ¬ (k = 11000 ∨ (15000 ≤ k ∧ k < 16000)) := by intro k hk hT; omega
theorem nt_2059  : ∀ k : Nat, 2000 ≤ k ∧ k < 3000 → ¬ (k = 11000 ∨ (15000 ≤ k ∧ k < 16000)) := by intro k hk hT; omega
theorem nt_2060  : ∀ k : Nat, 14000 ≤ k ∧ k < 15000 → ¬ (k = 11000 ∨ (15000 ≤ k ∧ k < 16000)) := by intro k hk hT; omega
theorem nt_2061  : ∀ k : Nat, 5000 ≤ k ∧ k < 6000 → ¬ (k = 11000 ∨ (15000 ≤ k ∧ k < 16000)) := by intro k hk hT; omega
theorem nt_2062  : ∀ k : Nat, 4000 ≤ k ∧ k < 5000 → ¬ (k = 11000 ∨ (15000 ≤ k ∧ k < 16000)) := by intro k hk hT; omega
theorem nt_2063  : ∀ k : Nat, 6000 ≤ k ∧ k < 7000 → ¬ (k = 11000 ∨ (15000 ≤ k ∧ k < 16000)) := by intro k hk hT; omega
theorem nt_2064  : ∀ k : Nat, 7000 ≤ k ∧ k < 8000 → ¬ (k = 11000 ∨ (15000 ≤ k ∧ k < 16000)) := by intro k hk hT; omega
theorem nt_2065  : ∀ k : Nat, 3000 ≤ k ∧ k < 4000 → ¬ (k = 11000 ∨ (15000 ≤ k ∧ k < 16000)) := by intro k hk hT; omega
theorem nt_2066  : ∀ k : Nat, 8000 ≤ k ∧ k < 9000 → ¬ (k = 11000 ∨ (15000 ≤ k ∧ k < 16000)) := by intro k hk hT; omega
theorem nt_2067  : ∀ k : Nat, 9000 ≤ k ∧ k < 10000 → ¬ (k = 11000 ∨ (15000 ≤ k ∧ k < 16000)) := by intro k hk hT; omega
theorem nt_2068  : ∀ k : Nat, 10000 ≤ k ∧ k < 11000 → ¬ (k = 11000 ∨ (15000 ≤ k ∧ k < 16000)) := by intro k hk hT; omega
theorem nt_2069  : ∀ k : Nat, 12000 ≤ k ∧ k < 13000 → ¬ (k = 11000 ∨ (15000 ≤ k ∧ k < 16000)) := by intro k hk hT; omega
theorem nt_2070  : ∀ k : Nat, 11001 ≤ k ∧ k < 11002 → ¬ (k = 11000 ∨ (15000 ≤ k ∧ k < 16000)) := by intro k hk hT; omega
theorem nt_2071  : ∀ k : Nat, 11002 ≤ k ∧ k < 11003 → ¬ (k = 11000 ∨ (15000 ≤ k ∧ k < 16000)) := by intro k hk hT; omega
theorem nt_2072  : ∀ k : Nat, 11003 ≤ k ∧ k < 11004 → ¬ (k = 11000 ∨ (15000 ≤ k ∧ k < 16000)) := by intro k hk hT; omega
theorem nt_2073  : ∀ k : Nat, 11004 ≤ k ∧ k < 11005 → ¬ (k = 11000 ∨ (15000 ≤ k ∧ k < 16000)) := by intro k hk hT; omega
theorem nt_2074  : ∀ k : Nat, 0 ≤ k ∧ k < 1 → ¬ (k = 11000 ∨ (15000 ≤ k ∧ k < 16000)) := by intro k hk hT; omega
set_option maxHeartbeats 4000000 in
set_option maxRecDepth 100000 in
theorem i_X11_worth {l : Launch} {D : va_G} {cy : Nat → ClassId} {b : Nat} {f : gMem} {own : Nat → Nat} {xo : Nat} {da : Int32} {fcn : Int32} {csz : Int32} {sz : Int32} {len : Int32} {ln : Int32} {wz : Int32} {lo : Int32} {tg : Nat → Int32} {weg : Nat → Int32} {stg : Nat → Int32} {tpg : Nat → Int32} {CN : Nat → Int32 → Int32 → (Nat → Int32) → (Nat → Int32) → Prop} {ne : Nat} {x y u : Int32} (hI : xI cy own xo da fcn csz sz len ln wz lo tg weg stg tpg CN ne f)  : gC l D cy b yX11_worth cX11_worth 5 (some .long) 511 0 0 [.ref xo, .int x, .int y, .int u] f (pL fun r f2 => xI cy own xo da fcn csz sz len ln wz lo tg weg stg tpg CN ne f2 ∧ kp0 own own f f2) := by
  obtain ⟨ch, sc, tp, ou, fm, dr, dt_, rd, te, la, lg, co, wo, fmg, lvg, HcXo, HcCh, HcTp, HcOu, HcFa, HcFm, HcDr, HcOt, HcRt, HcLa, HcLg, HcCo, HcLv, HcWo, HcFn⟩ := id hI
  obtain ⟨og_xo, hxo, mcXo⟩ := id HcXo
  obtain ⟨og_fm, hfm⟩ := id HcFa
  obtain ⟨we, stp, pa, ba, po, ah, gl, bag, pg, P, Q, ⟨⟨og_wo, og_we, og_stp, og_pa, og_ba⟩, hwo, hwe, hstp, hpa, hba, mcWo⟩, HcPa⟩ := id HcWo
  obtain ⟨tl, th, t, ⟨og_ch, og_tl, og_sc, og_th⟩, hch, htl, hsc, hth, mcCh⟩ := id HcCh
  refine gC_of (by decide) (Nat.le_of_ble_eq_true rfl) ?_
  show gG l _ _ _ D cy b cX11_worth 5 _ RX11 "worth" 0 0 f 0 [(0, .ref xo), (1, .int x), (2, .int y), (3, .int u)] []
  refine gz_aload_n dX11_worth_0 rfl rfl ?_
  refine gz_iload_n dX11_worth_1 rfl rfl ?_
  refine scX11_126 (k_X11_formAt (x := x) hxo hfm) hxo ⟨(Nat.le_of_ble_eq_true rfl), (Nat.le_of_ble_eq_true rfl)⟩ ⟨(Nat.le_of_ble_eq_true rfl), (Nat.le_of_ble_eq_true rfl)⟩ rfl rfl (Nat.le_of_ble_eq_true rfl) dX11_worth_2 ?_
  rintro u9 f9 ⟨z9, y9⟩; rw [z9, y9]
  cases hA2 : formF fcn fmg x with
  | none =>
    refine gz_ev (w := .null) rfl ?_
    refine gz_astoreN (lv' := [(4, .null), (0, .ref xo), (1, .int x), (2, .int y), (3, .int u)]) dX11_worth_5 (by decide) rfl ?_
    refine gz_aloadN dX11_worth_7 rfl ?_
    refine gz_ifnullN (tgt := 28) dX11_worth_9 (by decide) ?_
    refine gz_ldc2 (v := (-1000000000000000000)) wd_667 dX11_worth_28 ?_
    exact gz_lret rfl dX11_worth_31 (Nat.le_of_ble_eq_true rfl) (Nat.le_of_ble_eq_true rfl) (⟨_, rfl, hI, kp0_rf⟩)
  | some p =>
    refine gz_ev (w := .ref p) rfl ?_
    have hip := (formF_some hA2).1
    have hjp := (formF_some hA2).2
    obtain ⟨c1, c2, n1, n2, s, v, g, h, ⟨⟨og_p, og_c1, og_c2⟩, hp, hc1, hc2, hs, hv, hFI⟩, hCN⟩ := HcFm _ _ hip hjp
    refine gz_astore (lv' := [(4, .ref p), (0, .ref xo), (1, .int x), (2, .int y), (3, .int u)]) dX11_worth_5 (by decide) rfl ?_
    refine gz_aload dX11_worth_7 rfl ?_
    refine gz_ifnull dX11_worth_9 ?_
    refine gz_iload_n dX11_worth_12 rfl rfl ?_
    refine scX11_206 (k_X11_isAhead (x := y)) ⟨(Nat.le_of_ble_eq_true rfl), (Nat.le_of_ble_eq_true rfl)⟩ ⟨(Nat.le_of_ble_eq_true rfl), (Nat.le_of_ble_eq_true rfl)⟩ rfl rfl (Nat.le_of_ble_eq_true rfl) dX11_worth_13 ?_
    intro v9 f9 z9; rw [z9.1, z9.2]
    refine gz_if_eq (tgt := 28) dX11_worth_16 (by decide) (fun c_16 => ?_) (fun c_16 => ?_)
    ·
      refine gz_ldc2 (v := (-1000000000000000000)) wd_667 dX11_worth_28 ?_
      exact gz_lret rfl dX11_worth_31 (Nat.le_of_ble_eq_true rfl) (Nat.le_of_ble_eq_true rfl) (⟨_, rfl, hI, kp0_rf⟩)
    ·
      refine gz_iload_n dX11_worth_19 rfl rfl ?_
      refine gz_if_lt (tgt := 28) dX11_worth_20 (by decide) (fun c_20 => ?_) (fun c_20 => ?_)
      ·
        refine gz_ldc2 (v := (-1000000000000000000)) wd_667 dX11_worth_28 ?_
        exact gz_lret rfl dX11_worth_31 (Nat.le_of_ble_eq_true rfl) (Nat.le_of_ble_eq_true rfl) (⟨_, rfl, hI, kp0_rf⟩)
      ·
        refine gz_iload_n dX11_worth_23 rfl rfl ?_
        refine gz_iconst (v := 3) dX11_worth_24 (by decide) ?_
        refine gz_icmp_le (tgt := 32) dX11_worth_25 (by decide) (fun c_25 => ?_) (fun c_25 => ?_)
        ·
          refine gz_iload_n dX11_worth_32 rfl rfl ?_
          refine gz_iconst (v := 3) dX11_worth_33 (by decide) ?_
          refine gz_icmp_ne (tgt := 48) dX11_worth_34 (by decide) (fun c_34 => ?_) (fun c_34 => ?_)
          ·
            refine gz_aload_n dX11_worth_48 rfl rfl ?_
            refine sgX11_94 hxo rfl dX11_worth_49 ?_
            refine gz_aload dX11_worth_52 rfl ?_
            refine gz_iload_n dX11_worth_54 rfl rfl ?_
            refine gz_iload_n dX11_worth_55 rfl rfl ?_
            refine scX11_215 (k_X10_judge (nn_ := y) (gx := u) hwo hwe hstp hpa hp hc1 hc2 hsc hth hs hv hFI mcWo.2 HcPa.2.1 (cPa_ne HcPa) (cPa_no HcPa (by intro x0 hx0; simp only [List.mem_cons, List.not_mem_nil, or_false] at hx0; rcases hx0 with e0 | e0 | e0 | e0 | e0 | e0 | e0; all_goals first | (rw [e0, og_wo]; decide) | (rw [e0, og_we]; decide) | (rw [e0, og_stp]; decide) | (rw [e0, og_pa]; decide) | (rw [e0, og_p]; omega) | (rw [e0, og_c1]; omega) | (rw [e0, og_c2]; omega))) (cPa_no HcPa (by intro x0 hx0; simp only [List.mem_cons, List.not_mem_nil, or_false] at hx0; rcases hx0 with e0 | e0; all_goals first | (rw [e0, og_sc]; decide) | (rw [e0, og_th]; decide))) HcPa.2.2) hwo ⟨(Nat.le_of_ble_eq_true rfl), (Nat.le_of_ble_eq_true rfl)⟩ ⟨(Nat.le_of_ble_eq_true rfl), (Nat.le_of_ble_eq_true rfl)⟩ rfl rfl (Nat.le_of_ble_eq_true rfl) dX11_worth_56 ?_
            rintro r_1 f1 ⟨hwo_1, hF1, hr1⟩
            have hK : kp own own (fun k => k = 11000 ∨ (15000 ≤ k ∧ k < 16000)) f f1 := by
              refine kp_fr (S := wo :: scL P Q) (hr1) (fun _ _ _ => rfl) ?_
              intro x0 hx0
              rcases List.mem_cons.mp hx0 with e0 | hx0
              · rw [e0]; show (own wo) = 11000 ∨ (15000 ≤ (own wo) ∧ (own wo) < 16000); rw [og_wo]; decide
              exact Or.inr (cPa_tg HcPa _ hx0)
            exact gz_lret rfl dX11_worth_59 (Nat.le_of_ble_eq_true rfl) (Nat.le_of_ble_eq_true rfl) (⟨_, rfl, ⟨_, _, _, _, _, _, _, _, _, _, _, _, _, _, _, (cXo_kp HcXo hK nt_2057), (kCh_kp HcCh hK nt_2058), (kTp_kp HcTp hK nt_2059), (kOu_kp HcOu hK nt_2060), (cFa_kp HcFa hK nt_2061), (cFm_kp HcFm hK nt_2062), (kDr_kp HcDr hK nt_2063), (kOt_kp HcOt hK nt_2064), (kRt_kp HcRt hK nt_2065), (kLa_kp HcLa hK nt_2066), (kLg_kp HcLg hK nt_2067), (kCo_kp HcCo hK nt_2068), (cLv_kp HcLv hK nt_2069), ⟨_, _, _, _, _, _, _, _, _, _, _, ⟨⟨og_wo, og_we, og_stp, og_pa, og_ba⟩, hwo_1, (hK.2 _ _ hwe (by show ¬ ((own we) = 11000 ∨ (15000 ≤ (own we) ∧ (own we) < 16000)); rw [og_we]; exact nt_2070 _ ⟨Nat.le_refl _, Nat.lt_succ_self _⟩)), (hK.2 _ _ hstp (by show ¬ ((own stp) = 11000 ∨ (15000 ≤ (own stp) ∧ (own stp) < 16000)); rw [og_stp]; exact nt_2071 _ ⟨Nat.le_refl _, Nat.lt_succ_self _⟩)), (hK.2 _ _ hpa (by show ¬ ((own pa) = 11000 ∨ (15000 ≤ (own pa) ∧ (own pa) < 16000)); rw [og_pa]; exact nt_2072 _ ⟨Nat.le_refl _, Nat.lt_succ_self _⟩)), (hK.2 _ _ hba (by show ¬ ((own ba) = 11000 ∨ (15000 ≤ (own ba) ∧ (own ba) < 16000)); rw [og_ba]; exact nt_2073 _ ⟨Nat.le_refl _, Nat.lt_succ_self _⟩)), mcWo⟩, (cPa_F HcPa hK hF1)⟩, HcFn⟩, (kp_0 hK (nt_2074 0 ⟨Nat.le_refl _, Nat.lt_succ_self _⟩))⟩)
          ·
            refine gz_aload_n dX11_worth_37 rfl rfl ?_
            refine sgX11_94 hxo rfl dX11_worth_38 ?_
            refine gz_iload_n dX11_worth_41 rfl rfl ?_
            refine scX11_211 (k_X10_power (x := y) hwo hwe mcWo.2) hwo ⟨(Nat.le_of_ble_eq_true rfl), (Nat.le_of_ble_eq_true rfl)⟩ ⟨(Nat.le_of_ble_eq_true rfl), (Nat.le_of_ble_eq_true rfl)⟩ rfl rfl (Nat.le_of_ble_eq_true rfl) dX11_worth_42 ?_
            intro v9 f9 z9; rw [z9.1, z9.2]
            refine gz_goto (tgt := 59) dX11_worth_45 (by decide) ?_
            exact gz_lret rfl dX11_worth_59 (Nat.le_of_ble_eq_true rfl) (Nat.le_of_ble_eq_true rfl) (⟨_, rfl, hI, kp0_rf⟩)
        ·
          refine gz_ldc2 (v := (-1000000000000000000)) wd_667 dX11_worth_28 ?_
          exact gz_lret rfl dX11_worth_31 (Nat.le_of_ble_eq_true rfl) (Nat.le_of_ble_eq_true rfl) (⟨_, rfl, hI, kp0_rf⟩)

set_option maxHeartbeats 4000000 in
set_option maxRecDepth 100000 in
theorem i_X11_comeTo {l : Launch} {D : va_G} {cy : Nat → ClassId} {b : Nat} {f : gMem} {own : Nat → Nat} {xo : Nat} {da : Int32} {fcn : Int32} {csz : Int32} {sz : Int32} {len : Int32} {ln : Int32} {wz : Int32} {lo : Int32} {tg : Nat → Int32} {weg : Nat → Int32} {stg : Nat → Int32} {tpg : Nat → Int32} {CN : Nat → Int32 → Int32 → (Nat → Int32) → (Nat → Int32) → Prop} {ne : Nat} {x y u : Int32} (hI : xI cy own xo da fcn csz sz len ln wz lo tg weg stg tpg CN ne f)  : gC l D cy b yX11_comeTo cX11_comeTo 5 (some .int) 511 0 0 [.ref xo, .int x, .int y, .int u] f (pI fun r f2 => xI cy own xo da fcn csz sz len ln wz lo tg weg stg tpg CN ne f2 ∧ kp0 own own f f2) := by
  obtain ⟨ch, sc, tp, ou, fm, dr, dt_, rd, te, la, lg, co, wo, fmg, lvg, HcXo, HcCh, HcTp, HcOu, HcFa, HcFm, HcDr, HcOt, HcRt, HcLa, HcLg, HcCo, HcLv, HcWo, HcFn⟩ := id hI
  obtain ⟨og_xo, hxo, mcXo⟩ := id HcXo
  obtain ⟨og_fm, hfm⟩ := id HcFa
  obtain ⟨we, stp, pa, ba, po, ah, gl, bag, pg, P, Q, ⟨⟨og_wo, og_we, og_stp, og_pa, og_ba⟩, hwo, hwe, hstp, hpa, hba, mcWo⟩, HcPa⟩ := id HcWo
  obtain ⟨tl, th, t, ⟨og_ch, og_tl, og_sc, og_th⟩, hch, htl, hsc, hth, mcCh⟩ := id HcCh
  refine gC_of (by decide) (Nat.le_of_ble_eq_true rfl) ?_
  show gG l _ _ _ D cy b cX11_comeTo 5 _ RX11 "comeTo" 0 0 f 0 [(0, .ref xo), (1, .int x), (2, .int y), (3, .int u)] []
  refine gz_aload_n dX11_comeTo_0 rfl rfl ?_
  refine gz_iload_n dX11_comeTo_1 rfl rfl ?_
  refine scX11_126 (k_X11_formAt (x := x) hxo hfm) hxo ⟨(Nat.le_of_ble_eq_true rfl), (Nat.le_of_ble_eq_true rfl)⟩ ⟨(Nat.le_of_ble_eq_true rfl), (Nat.le_of_ble_eq_true rfl)⟩ rfl rfl (Nat.le_of_ble_eq_true rfl) dX11_comeTo_2 ?_
  rintro u9 f9 ⟨z9, y9⟩; rw [z9, y9]
  cases hA2 : formF fcn fmg x with
  | none =>
    refine gz_ev (w := .null) rfl ?_
    refine gz_astoreN (lv' := [(4, .null), (0, .ref xo), (1, .int x), (2, .int y), (3, .int u)]) dX11_comeTo_5 (by decide) rfl ?_
    refine gz_aloadN dX11_comeTo_7 rfl ?_
    refine gz_ifnullN (tgt := 32) dX11_comeTo_9 (by decide) ?_
    refine gz_iconst (v := (-1)) dX11_comeTo_32 (by decide) ?_
    exact gz_iret rfl dX11_comeTo_33 (Nat.le_of_ble_eq_true rfl) (Nat.le_of_ble_eq_true rfl) (⟨_, rfl, hI, kp0_rf⟩)
  | some p =>
    refine gz_ev (w := .ref p) rfl ?_
    have hip := (formF_some hA2).1
    have hjp := (formF_some hA2).2
    obtain ⟨c1, c2, n1, n2, s, v, g, h, ⟨⟨og_p, og_c1, og_c2⟩, hp, hc1, hc2, hs, hv, hFI⟩, hCN⟩ := HcFm _ _ hip hjp
    refine gz_astore (lv' := [(4, .ref p), (0, .ref xo), (1, .int x), (2, .int y), (3, .int u)]) dX11_comeTo_5 (by decide) rfl ?_
    refine gz_aload dX11_comeTo_7 rfl ?_
    refine gz_ifnull dX11_comeTo_9 ?_
    refine gz_iload_n dX11_comeTo_12 rfl rfl ?_
    refine scX11_206 (k_X11_isAhead (x := y)) ⟨(Nat.le_of_ble_eq_true rfl), (Nat.le_of_ble_eq_true rfl)⟩ ⟨(Nat.le_of_ble_eq_true rfl), (Nat.le_of_ble_eq_true rfl)⟩ rfl rfl (Nat.le_of_ble_eq_true rfl) dX11_comeTo_13 ?_
    intro v9 f9 z9; rw [z9.1, z9.2]
    refine gz_if_eq (tgt := 32) dX11_comeTo_16 (by decide) (fun c_16 => ?_) (fun c_16 => ?_)
    ·
      refine gz_iconst (v := (-1)) dX11_comeTo_32 (by decide) ?_
      exact gz_iret rfl dX11_comeTo_33 (Nat.le_of_ble_eq_true rfl) (Nat.le_of_ble_eq_true rfl) (⟨_, rfl, hI, kp0_rf⟩)
    ·
      refine gz_iload_n dX11_comeTo_19 rfl rfl ?_
      refine gz_if_lt (tgt := 32) dX11_comeTo_20 (by decide) (fun c_20 => ?_) (fun c_20 => ?_)
      ·
        refine gz_iconst (v := (-1)) dX11_comeTo_32 (by decide) ?_
        exact gz_iret rfl dX11_comeTo_33 (Nat.le_of_ble_eq_true rfl) (Nat.le_of_ble_eq_true rfl) (⟨_, rfl, hI, kp0_rf⟩)
      ·
        refine gz_iload_n dX11_comeTo_23 rfl rfl ?_
        refine gz_aload dX11_comeTo_24 rfl ?_
        refine scX11_133 (k_X2_size hp) hp ⟨(Nat.le_of_ble_eq_true rfl), (Nat.le_of_ble_eq_true rfl)⟩ ⟨(Nat.le_of_ble_eq_true rfl), (Nat.le_of_ble_eq_true rfl)⟩ rfl rfl (Nat.le_of_ble_eq_true rfl) dX11_comeTo_26 ?_
        intro v9 f9 z9; rw [z9.1, z9.2]
        refine gz_icmp_lt (tgt := 34) dX11_comeTo_29 (by decide) (fun c_29 => ?_) (fun c_29 => ?_)
        ·
          refine gz_aload_n dX11_comeTo_34 rfl rfl ?_
          refine sgX11_94 hxo rfl dX11_comeTo_35 ?_
          refine gz_aload dX11_comeTo_38 rfl ?_
          refine gz_iload_n dX11_comeTo_40 rfl rfl ?_
          refine gz_iload_n dX11_comeTo_41 rfl rfl ?_
          refine scX11_219 (k_X10_finds (nn_ := y) (gx := u) hwo hwe hstp hpa hp hc1 hc2 hsc hth hs hv hFI mcWo.2 HcPa.2.1 (cPa_ne HcPa) (cPa_no HcPa (by intro x0 hx0; simp only [List.mem_cons, List.not_mem_nil, or_false] at hx0; rcases hx0 with e0 | e0 | e0 | e0 | e0 | e0 | e0; all_goals first | (rw [e0, og_wo]; decide) | (rw [e0, og_we]; decide) | (rw [e0, og_stp]; decide) | (rw [e0, og_pa]; decide) | (rw [e0, og_p]; omega) | (rw [e0, og_c1]; omega) | (rw [e0, og_c2]; omega))) (cPa_no HcPa (by intro x0 hx0; simp only [List.mem_cons, List.not_mem_nil, or_false] at hx0; rcases hx0 with e0 | e0; all_goals first | (rw [e0, og_sc]; decide) | (rw [e0, og_th]; decide))) HcPa.2.2) hwo ⟨(Nat.le_of_ble_eq_true rfl), (Nat.le_of_ble_eq_true rfl)⟩ ⟨(Nat.le_of_ble_eq_true rfl), (Nat.le_of_ble_eq_true rfl)⟩ rfl rfl (Nat.le_of_ble_eq_true rfl) dX11_comeTo_42 ?_
          rintro r_1 f1 ⟨hbb, hwo_1, hF1, hr1⟩
          refine gz_if_eq (tgt := 52) dX11_comeTo_45 (by decide) (fun c_45 => ?_) (fun c_45 => ?_)
          ·
            refine gz_iconst (v := 0) dX11_comeTo_52 (by decide) ?_
            have hK : kp own own (fun k => k = 11000 ∨ (15000 ≤ k ∧ k < 16000)) f f1 := by
              refine kp_fr (S := wo :: scL P Q) (hr1) (fun _ _ _ => rfl) ?_
              intro x0 hx0
              rcases List.mem_cons.mp hx0 with e0 | hx0
              · rw [e0]; show (own wo) = 11000 ∨ (15000 ≤ (own wo) ∧ (own wo) < 16000); rw [og_wo]; decide
              exact Or.inr (cPa_tg HcPa _ hx0)
            exact gz_iret rfl dX11_comeTo_53 (Nat.le_of_ble_eq_true rfl) (Nat.le_of_ble_eq_true rfl) (⟨_, rfl, ⟨_, _, _, _, _, _, _, _, _, _, _, _, _, _, _, (cXo_kp HcXo hK nt_2057), (kCh_kp HcCh hK nt_2058), (kTp_kp HcTp hK nt_2059), (kOu_kp HcOu hK nt_2060), (cFa_kp HcFa hK nt_2061), (cFm_kp HcFm hK nt_2062), (kDr_kp HcDr hK nt_2063), (kOt_kp HcOt hK nt_2064), (kRt_kp HcRt hK nt_2065), (kLa_kp HcLa hK nt_2066), (kLg_kp HcLg hK nt_2067), (kCo_kp HcCo hK nt_2068), (cLv_kp HcLv hK nt_2069), ⟨_, _, _, _, _, _, _, _, _, _, _, ⟨⟨og_wo, og_we, og_stp, og_pa, og_ba⟩, hwo_1, (hK.2 _ _ hwe (by show ¬ ((own we) = 11000 ∨ (15000 ≤ (own we) ∧ (own we) < 16000)); rw [og_we]; exact nt_2070 _ ⟨Nat.le_refl _, Nat.lt_succ_self _⟩)), (hK.2 _ _ hstp (by show ¬ ((own stp) = 11000 ∨ (15000 ≤ (own stp) ∧ (own stp) < 16000)); rw [og_stp]; exact nt_2071 _ ⟨Nat.le_refl _, Nat.lt_succ_self _⟩)), (hK.2 _ _ hpa (by show ¬ ((own pa) = 11000 ∨ (15000 ≤ (own pa) ∧ (own pa) < 16000)); rw [og_pa]; exact nt_2072 _ ⟨Nat.le_refl _, Nat.lt_succ_self _⟩)), (hK.2 _ _ hba (by show ¬ ((own ba) = 11000 ∨ (15000 ≤ (own ba) ∧ (own ba) < 16000)); rw [og_ba]; exact nt_2073 _ ⟨Nat.le_refl _, Nat.lt_succ_self _⟩)), mcWo⟩, (cPa_F HcPa hK hF1)⟩, HcFn⟩, (kp_0 hK (nt_2074 0 ⟨Nat.le_refl _, Nat.lt_succ_self _⟩))⟩)
          ·
            refine gz_iconst (v := 1) dX11_comeTo_48 (by decide) ?_
            refine gz_goto (tgt := 53) dX11_comeTo_49 (by decide) ?_
            have hK : kp own own (fun k => k = 11000 ∨ (15000 ≤ k ∧ k < 16000)) f f1 := by
              refine kp_fr (S := wo :: scL P Q) (hr1) (fun _ _ _ => rfl) ?_
              intro x0 hx0
              rcases List.mem_cons.mp hx0 with e0 | hx0
              · rw [e0]; show (own wo) = 11000 ∨ (15000 ≤ (own wo) ∧ (own wo) < 16000); rw [og_wo]; decide
              exact Or.inr (cPa_tg HcPa _ hx0)
            exact gz_iret rfl dX11_comeTo_53 (Nat.le_of_ble_eq_true rfl) (Nat.le_of_ble_eq_true rfl) (⟨_, rfl, ⟨_, _, _, _, _, _, _, _, _, _, _, _, _, _, _, (cXo_kp HcXo hK nt_2057), (kCh_kp HcCh hK nt_2058), (kTp_kp HcTp hK nt_2059), (kOu_kp HcOu hK nt_2060), (cFa_kp HcFa hK nt_2061), (cFm_kp HcFm hK nt_2062), (kDr_kp HcDr hK nt_2063), (kOt_kp HcOt hK nt_2064), (kRt_kp HcRt hK nt_2065), (kLa_kp HcLa hK nt_2066), (kLg_kp HcLg hK nt_2067), (kCo_kp HcCo hK nt_2068), (cLv_kp HcLv hK nt_2069), ⟨_, _, _, _, _, _, _, _, _, _, _, ⟨⟨og_wo, og_we, og_stp, og_pa, og_ba⟩, hwo_1, (hK.2 _ _ hwe (by show ¬ ((own we) = 11000 ∨ (15000 ≤ (own we) ∧ (own we) < 16000)); rw [og_we]; exact nt_2070 _ ⟨Nat.le_refl _, Nat.lt_succ_self _⟩)), (hK.2 _ _ hstp (by show ¬ ((own stp) = 11000 ∨ (15000 ≤ (own stp) ∧ (own stp) < 16000)); rw [og_stp]; exact nt_2071 _ ⟨Nat.le_refl _, Nat.lt_succ_self _⟩)), (hK.2 _ _ hpa (by show ¬ ((own pa) = 11000 ∨ (15000 ≤ (own pa) ∧ (own pa) < 16000)); rw [og_pa]; exact nt_2072 _ ⟨Nat.le_refl _, Nat.lt_succ_self _⟩)), (hK.2 _ _ hba (by show ¬ ((own ba) = 11000 ∨ (15000 ≤ (own ba) ∧ (own ba) < 16000)); rw [og_ba]; exact nt_2073 _ ⟨Nat.le_refl _, Nat.lt_succ_self _⟩)), mcWo⟩, (cPa_F HcPa hK hF1)⟩, HcFn⟩, (kp_0 hK (nt_2074 0 ⟨Nat.le_refl _, Nat.lt_succ_self _⟩))⟩)
        ·
          refine gz_iconst (v := (-1)) dX11_comeTo_32 (by decide) ?_
          exact gz_iret rfl dX11_comeTo_33 (Nat.le_of_ble_eq_true rfl) (Nat.le_of_ble_eq_true rfl) (⟨_, rfl, hI, kp0_rf⟩)

theorem nt_2075  : ∀ k : Nat, 13000 ≤ k ∧ k < 14000 → ¬ (k = 11000 ∨ k = 11004 ∨ (15000 ≤ k ∧ k < 16000)) := by intro k hk hT; omega
theorem nt_2076  : ∀ k : Nat, 1000 ≤ k ∧ k < 2000 → ¬ (k = 11000 ∨ k = 11004 ∨ (15000 ≤ k ∧ k < 16000)) := by intro k hk hT; omega
theorem nt_2077  : ∀ k : Nat, 2000 ≤ k ∧ k < 3000 → ¬ (k = 11000 ∨ k = 11004 ∨ (15000 ≤ k ∧ k < 16000)) := by intro k hk hT; omega
theorem nt_2078  : ∀ k : Nat, 14000 ≤ k ∧ k < 15000 → ¬ (k = 11000 ∨ k = 11004 ∨ (15000 ≤ k ∧ k < 16000)) := by intro k hk hT; omega
theorem nt_2079  : ∀ k : Nat, 5000 ≤ k ∧ k < 6000 → ¬ (k = 11000 ∨ k = 11004 ∨ (15000 ≤ k ∧ k < 16000)) := by intro k hk hT; omega
theorem nt_2080  : ∀ k : Nat, 4000 ≤ k ∧ k < 5000 → ¬ (k = 11000 ∨ k = 11004 ∨ (15000 ≤ k ∧ k < 16000)) := by intro k hk hT; omega
theorem nt_2081  : ∀ k : Nat, 6000 ≤ k ∧ k < 7000 → ¬ (k = 11000 ∨ k = 11004 ∨ (15000 ≤ k ∧ k < 16000)) := by intro k hk hT; omega
theorem nt_2082  : ∀ k : Nat, 7000 ≤ k ∧ k < 8000 → ¬ (k = 11000 ∨ k = 11004 ∨ (15000 ≤ k ∧ k < 16000)) := by intro k hk hT; omega
theorem nt_2083  : ∀ k : Nat, 3000 ≤ k ∧ k < 4000 → ¬ (k = 11000 ∨ k = 11004 ∨ (15000 ≤ k ∧ k < 16000)) := by intro k hk hT; omega
theorem nt_2084  : ∀ k : Nat, 8000 ≤ k ∧ k < 9000 → ¬ (k = 11000 ∨ k = 11004 ∨ (15000 ≤ k ∧ k < 16000)) := by intro k hk hT; omega
theorem nt_2085  : ∀ k : Nat, 9000 ≤ k ∧ k < 10000 → ¬ (k = 11000 ∨ k = 11004 ∨ (15000 ≤ k ∧ k < 16000)) := by intro k hk hT; omega
theorem nt_2086  : ∀ k : Nat, 10000 ≤ k ∧ k < 11000 → ¬ (k = 11000 ∨ k = 11004 ∨ (15000 ≤ k ∧ k < 16000)) := by intro k hk hT; omega
theorem nt_2087  : ∀ k : Nat, 12000 ≤ k ∧ k < 13000 → ¬ (k = 11000 ∨ k = 11004 ∨ (15000 ≤ k ∧ k < 16000)) := by intro k hk hT; omega
theorem nt_2088  : ∀ k : Nat, 11001 ≤ k ∧ k < 11002 → ¬ (k = 11000 ∨ k = 11004 ∨ (15000 ≤ k ∧ k < 16000)) := by intro k hk hT; omega
theorem nt_2089  : ∀ k : Nat, 11002 ≤ k ∧ k < 11003 → ¬ (k = 11000 ∨ k = 11004 ∨ (15000 ≤ k ∧ k < 16000)) := by intro k hk hT; omega
theorem nt_2090  : ∀ k : Nat, 11003 ≤ k ∧ k < 11004 → ¬ (k = 11000 ∨ k = 11004 ∨ (15000 ≤ k ∧ k < 16000)) := by intro k hk hT; omega
theorem nt_2091  : ∀ k : Nat, 0 ≤ k ∧ k < 1 → ¬ (k = 11000 ∨ k = 11004 ∨ (15000 ≤ k ∧ k < 16000)) := by intro k hk hT; omega
set_option maxHeartbeats 4000000 in
set_option maxRecDepth 100000 in
theorem i_X11_parted {l : Launch} {D : va_G} {cy : Nat → ClassId} {b : Nat} {f : gMem} {own : Nat → Nat} {xo : Nat} {da : Int32} {fcn : Int32} {csz : Int32} {sz : Int32} {len : Int32} {ln : Int32} {wz : Int32} {lo : Int32} {tg : Nat → Int32} {weg : Nat → Int32} {stg : Nat → Int32} {tpg : Nat → Int32} {CN : Nat → Int32 → Int32 → (Nat → Int32) → (Nat → Int32) → Prop} {ne : Nat} {x y u : Int32} (hI : xI cy own xo da fcn csz sz len ln wz lo tg weg stg tpg CN ne f)  : gC l D cy b yX11_parted cX11_parted 6 (some .int) 264 0 0 [.ref xo, .int x, .int y, .int u] f (pI fun r f2 => xI cy own xo da fcn csz sz len ln wz lo tg weg stg tpg CN ne f2 ∧ kp0 own own f f2) := by
  obtain ⟨ch, sc, tp, ou, fm, dr, dt_, rd, te, la, lg, co, wo, fmg, lvg, HcXo, HcCh, HcTp, HcOu, HcFa, HcFm, HcDr, HcOt, HcRt, HcLa, HcLg, HcCo, HcLv, HcWo, HcFn⟩ := id hI
  obtain ⟨og_xo, hxo, mcXo⟩ := id HcXo
  obtain ⟨og_fm, hfm⟩ := id HcFa
  obtain ⟨we, stp, pa, ba, po, ah, gl, bag, pg, P, Q, ⟨⟨og_wo, og_we, og_stp, og_pa, og_ba⟩, hwo, hwe, hstp, hpa, hba, mcWo⟩, HcPa⟩ := id HcWo
  obtain ⟨tl, th, t, ⟨og_ch, og_tl, og_sc, og_th⟩, hch, htl, hsc, hth, mcCh⟩ := id HcCh
  refine gC_of (by decide) (Nat.le_of_ble_eq_true rfl) ?_
  show gG l _ _ _ D cy b cX11_parted 6 _ RX11 "parted" 0 0 f 0 [(0, .ref xo), (1, .int x), (2, .int y), (3, .int u)] []
  refine gz_aload_n dX11_parted_0 rfl rfl ?_
  refine gz_iload_n dX11_parted_1 rfl rfl ?_
  refine scX11_126 (k_X11_formAt (x := x) hxo hfm) hxo ⟨(Nat.le_of_ble_eq_true rfl), (Nat.le_of_ble_eq_true rfl)⟩ ⟨(Nat.le_of_ble_eq_true rfl), (Nat.le_of_ble_eq_true rfl)⟩ rfl rfl (Nat.le_of_ble_eq_true rfl) dX11_parted_2 ?_
  rintro u9 f9 ⟨z9, y9⟩; rw [z9, y9]
  cases hA2 : formF fcn fmg x with
  | none =>
    refine gz_ev (w := .null) rfl ?_
    refine gz_astoreN (lv' := [(4, .null), (0, .ref xo), (1, .int x), (2, .int y), (3, .int u)]) dX11_parted_5 (by decide) rfl ?_
    refine gz_aload_n dX11_parted_7 rfl rfl ?_
    refine gz_iload_n dX11_parted_8 rfl rfl ?_
    refine scX11_126 (k_X11_formAt (x := y) hxo hfm) hxo ⟨(Nat.le_of_ble_eq_true rfl), (Nat.le_of_ble_eq_true rfl)⟩ ⟨(Nat.le_of_ble_eq_true rfl), (Nat.le_of_ble_eq_true rfl)⟩ rfl rfl (Nat.le_of_ble_eq_true rfl) dX11_parted_9 ?_
    rintro u9 f9 ⟨z9, y9⟩; rw [z9, y9]
    cases hA4 : formF fcn fmg y with
    | none =>
      refine gz_ev (w := .null) rfl ?_
      refine gz_astoreN (lv' := [(5, .null), (4, .null), (0, .ref xo), (1, .int x), (2, .int y), (3, .int u)]) dX11_parted_12 (by decide) rfl ?_
      refine gz_aloadN dX11_parted_14 rfl ?_
      refine gz_ifnullN (tgt := 47) dX11_parted_16 (by decide) ?_
      refine gz_iconst (v := (-1)) dX11_parted_47 (by decide) ?_
      exact gz_iret rfl dX11_parted_48 (Nat.le_of_ble_eq_true rfl) (Nat.le_of_ble_eq_true rfl) (⟨_, rfl, hI, kp0_rf⟩)
    | some py =>
      refine gz_ev (w := .ref py) rfl ?_
      have hipy := (formF_some hA4).1
      have hjpy := (formF_some hA4).2
      obtain ⟨c1y, c2y, n1y, n2y, sy, vy, gy, hy, ⟨⟨og_py, og_c1y, og_c2y⟩, hpy, hc1y, hc2y, hsy, hvy, hFIy⟩, hCNy⟩ := HcFm _ _ hipy hjpy
      refine gz_astore (lv' := [(5, .ref py), (4, .null), (0, .ref xo), (1, .int x), (2, .int y), (3, .int u)]) dX11_parted_12 (by decide) rfl ?_
      refine gz_aloadN dX11_parted_14 rfl ?_
      refine gz_ifnullN (tgt := 47) dX11_parted_16 (by decide) ?_
      refine gz_iconst (v := (-1)) dX11_parted_47 (by decide) ?_
      exact gz_iret rfl dX11_parted_48 (Nat.le_of_ble_eq_true rfl) (Nat.le_of_ble_eq_true rfl) (⟨_, rfl, hI, kp0_rf⟩)
  | some p =>
    refine gz_ev (w := .ref p) rfl ?_
    have hip := (formF_some hA2).1
    have hjp := (formF_some hA2).2
    obtain ⟨c1, c2, n1, n2, s, v, g, h, ⟨⟨og_p, og_c1, og_c2⟩, hp, hc1, hc2, hs, hv, hFI⟩, hCN⟩ := HcFm _ _ hip hjp
    refine gz_astore (lv' := [(4, .ref p), (0, .ref xo), (1, .int x), (2, .int y), (3, .int u)]) dX11_parted_5 (by decide) rfl ?_
    refine gz_aload_n dX11_parted_7 rfl rfl ?_
    refine gz_iload_n dX11_parted_8 rfl rfl ?_
    refine scX11_126 (k_X11_formAt (x := y) hxo hfm) hxo ⟨(Nat.le_of_ble_eq_true rfl), (Nat.le_of_ble_eq_true rfl)⟩ ⟨(Nat.le_of_ble_eq_true rfl), (Nat.le_of_ble_eq_true rfl)⟩ rfl rfl (Nat.le_of_ble_eq_true rfl) dX11_parted_9 ?_
    rintro u9 f9 ⟨z9, y9⟩; rw [z9, y9]
    cases hA6 : formF fcn fmg y with
    | none =>
      refine gz_ev (w := .null) rfl ?_
      refine gz_astoreN (lv' := [(5, .null), (4, .ref p), (0, .ref xo), (1, .int x), (2, .int y), (3, .int u)]) dX11_parted_12 (by decide) rfl ?_
      refine gz_aload dX11_parted_14 rfl ?_
      refine gz_ifnull dX11_parted_16 ?_
      refine gz_aloadN dX11_parted_19 rfl ?_
      refine gz_ifnullN (tgt := 47) dX11_parted_21 (by decide) ?_
      refine gz_iconst (v := (-1)) dX11_parted_47 (by decide) ?_
      exact gz_iret rfl dX11_parted_48 (Nat.le_of_ble_eq_true rfl) (Nat.le_of_ble_eq_true rfl) (⟨_, rfl, hI, kp0_rf⟩)
    | some py =>
      refine gz_ev (w := .ref py) rfl ?_
      have hipy := (formF_some hA6).1
      have hjpy := (formF_some hA6).2
      obtain ⟨c1y, c2y, n1y, n2y, sy, vy, gy, hy, ⟨⟨og_py, og_c1y, og_c2y⟩, hpy, hc1y, hc2y, hsy, hvy, hFIy⟩, hCNy⟩ := HcFm _ _ hipy hjpy
      refine gz_astore (lv' := [(5, .ref py), (4, .ref p), (0, .ref xo), (1, .int x), (2, .int y), (3, .int u)]) dX11_parted_12 (by decide) rfl ?_
      refine gz_aload dX11_parted_14 rfl ?_
      refine gz_ifnull dX11_parted_16 ?_
      refine gz_aload dX11_parted_19 rfl ?_
      refine gz_ifnull dX11_parted_21 ?_
      refine gz_iload_n dX11_parted_24 rfl rfl ?_
      refine scX11_206 (k_X11_isAhead (x := u)) ⟨(Nat.le_of_ble_eq_true rfl), (Nat.le_of_ble_eq_true rfl)⟩ ⟨(Nat.le_of_ble_eq_true rfl), (Nat.le_of_ble_eq_true rfl)⟩ rfl rfl (Nat.le_of_ble_eq_true rfl) dX11_parted_25 ?_
      intro v9 f9 z9; rw [z9.1, z9.2]
      refine gz_if_eq (tgt := 47) dX11_parted_28 (by decide) (fun c_28 => ?_) (fun c_28 => ?_)
      ·
        refine gz_iconst (v := (-1)) dX11_parted_47 (by decide) ?_
        exact gz_iret rfl dX11_parted_48 (Nat.le_of_ble_eq_true rfl) (Nat.le_of_ble_eq_true rfl) (⟨_, rfl, hI, kp0_rf⟩)
      ·
        refine gz_aload dX11_parted_31 rfl ?_
        refine scX11_223 (k_X2_hasChoices hp hc1 hs) hp ⟨(Nat.le_of_ble_eq_true rfl), (Nat.le_of_ble_eq_true rfl)⟩ ⟨(Nat.le_of_ble_eq_true rfl), (Nat.le_of_ble_eq_true rfl)⟩ rfl rfl (Nat.le_of_ble_eq_true rfl) dX11_parted_33 ?_
        intro v9 f9 z9; rw [z9.1, z9.2]
        refine gz_if_ne (tgt := 47) dX11_parted_36 (by decide) (fun c_36 => ?_) (fun c_36 => ?_)
        ·
          refine gz_iconst (v := (-1)) dX11_parted_47 (by decide) ?_
          exact gz_iret rfl dX11_parted_48 (Nat.le_of_ble_eq_true rfl) (Nat.le_of_ble_eq_true rfl) (⟨_, rfl, hI, kp0_rf⟩)
        ·
          refine gz_aload dX11_parted_39 rfl ?_
          refine scX11_223 (k_X2_hasChoices hpy hc1y hsy) hpy ⟨(Nat.le_of_ble_eq_true rfl), (Nat.le_of_ble_eq_true rfl)⟩ ⟨(Nat.le_of_ble_eq_true rfl), (Nat.le_of_ble_eq_true rfl)⟩ rfl rfl (Nat.le_of_ble_eq_true rfl) dX11_parted_41 ?_
          intro v9 f9 z9; rw [z9.1, z9.2]
          refine gz_if_eq (tgt := 49) dX11_parted_44 (by decide) (fun c_44 => ?_) (fun c_44 => ?_)
          ·
            refine gz_aload_n dX11_parted_49 rfl rfl ?_
            refine sgX11_94 hxo rfl dX11_parted_50 ?_
            refine gz_aload dX11_parted_53 rfl ?_
            refine gz_iload_n dX11_parted_55 rfl rfl ?_
            refine scX11_226 (k_X10_start (p := p) (nn_ := u) hwo hpa hsc hth HcPa.2.2 HcPa.2.1 (cPa_ne HcPa) (cPa_no HcPa (by intro x0 hx0; simp only [List.mem_cons, List.not_mem_nil, or_false] at hx0; rcases hx0 with e0 | e0; all_goals first | (rw [e0, og_sc]; decide) | (rw [e0, og_th]; decide)))) hwo ⟨(Nat.le_of_ble_eq_true rfl), (Nat.le_of_ble_eq_true rfl)⟩ ⟨(Nat.le_of_ble_eq_true rfl), (Nat.le_of_ble_eq_true rfl)⟩ rfl rfl (Nat.le_of_ble_eq_true rfl) dX11_parted_56 ?_
            rintro f1 ⟨hwo_1, hF1, hr1⟩
            have hD9 : ∀ xx : Nat, xx ∈ [wo, ba, stp, pa, p, c1, c2, py, c1y, c2y] → xx ∉ scL P Q := cPa_no HcPa (by intro x0 hx0; simp only [List.mem_cons, List.not_mem_nil, or_false] at hx0; rcases hx0 with e0 | e0 | e0 | e0 | e0 | e0 | e0 | e0 | e0 | e0; all_goals first | (rw [e0, og_wo]; decide) | (rw [e0, og_ba]; decide) | (rw [e0, og_stp]; decide) | (rw [e0, og_pa]; decide) | (rw [e0, og_p]; omega) | (rw [e0, og_c1]; omega) | (rw [e0, og_c2]; omega) | (rw [e0, og_py]; omega) | (rw [e0, og_c1y]; omega) | (rw [e0, og_c2y]; omega))
            have hxo_1 : f1 xo = some (.inr (11, [.ref ch, .ref tp, .ref ou, .ref fm, .ref dr, .ref dt_, .ref rd, .ref te, .ref la, .ref lg, .ref co, .ref wo, .int fcn])) := hr1 _ _ hxo (by simp only [List.mem_cons, not_or]; exact ⟨(tgn og_xo og_wo (by decide)), (cPa_no HcPa (L := [xo]) (by intro x0 hx0; simp only [List.mem_cons, List.not_mem_nil, or_false] at hx0; rw [hx0, og_xo]; decide) _ (by simp))⟩)
            have hstp_1 : f1 stp = some (.inl (cy 0, 18, .inl (stg))) := hr1 _ _ hstp (by simp only [List.mem_cons, not_or]; exact ⟨(tgn og_stp og_wo (by decide)), (hD9 _ (by simp))⟩)
            have hpa_1 : f1 pa = some (.inl (cy 6, 5, .inr (.inr (.inr (.inr (pg)))))) := hr1 _ _ hpa (by simp only [List.mem_cons, not_or]; exact ⟨(tgn og_pa og_wo (by decide)), (hD9 _ (by simp))⟩)
            have hba_1 : f1 ba = some (.inl (cy 2, 5, .inr (.inl (bag)))) := hr1 _ _ hba (by simp only [List.mem_cons, not_or]; exact ⟨(tgn og_ba og_wo (by decide)), (hD9 _ (by simp))⟩)
            have hp_1 : f1 p = some (.inr (2, [.ref c1, .ref c2, .int s, .int v])) := hr1 _ _ hp (by simp only [List.mem_cons, not_or]; exact ⟨(tgn og_p og_wo (by omega)), (hD9 _ (by simp))⟩)
            have hc1_1 : f1 c1 = some (.inl (cy 0, n1, .inl (g))) := hr1 _ _ hc1 (by simp only [List.mem_cons, not_or]; exact ⟨(tgn og_c1 og_wo (by omega)), (hD9 _ (by simp))⟩)
            have hc2_1 : f1 c2 = some (.inl (cy 0, n2, .inl (h))) := hr1 _ _ hc2 (by simp only [List.mem_cons, not_or]; exact ⟨(tgn og_c2 og_wo (by omega)), (hD9 _ (by simp))⟩)
            have hpy_1 : f1 py = some (.inr (2, [.ref c1y, .ref c2y, .int sy, .int vy])) := hr1 _ _ hpy (by simp only [List.mem_cons, not_or]; exact ⟨(tgn og_py og_wo (by omega)), (hD9 _ (by simp))⟩)
            have hc1y_1 : f1 c1y = some (.inl (cy 0, n1y, .inl (gy))) := hr1 _ _ hc1y (by simp only [List.mem_cons, not_or]; exact ⟨(tgn og_c1y og_wo (by omega)), (hD9 _ (by simp))⟩)
            have hc2y_1 : f1 c2y = some (.inl (cy 0, n2y, .inl (hy))) := hr1 _ _ hc2y (by simp only [List.mem_cons, not_or]; exact ⟨(tgn og_c2y og_wo (by omega)), (hD9 _ (by simp))⟩)
            refine gz_aload_n dX11_parted_59 rfl rfl ?_
            refine sgX11_94 hxo_1 rfl dX11_parted_60 ?_
            refine gz_aload dX11_parted_63 rfl ?_
            refine gz_aload dX11_parted_65 rfl ?_
            refine gz_iconst (v := 0) dX11_parted_67 (by decide) ?_
            refine gz_iconst (v := 0) dX11_parted_68 (by decide) ?_
            refine scX11_230 (k_X10_firstParting hs hv hsy hvy hFI hFIy min4 HcPa.2.1 (cPa_ne HcPa) mcWo.2 hD9 5 0 0 _ _ _ hwo_1 hba_1 hstp_1 hpa_1 hp_1 hc1_1 hc2_1 hpy_1 hc1y_1 hc2y_1 hF1 ⟨by decide, by decide⟩ (by decide)) hwo_1 ⟨(Nat.le_of_ble_eq_true rfl), (Nat.le_of_ble_eq_true rfl)⟩ ⟨(Nat.le_of_ble_eq_true rfl), (Nat.le_of_ble_eq_true rfl)⟩ rfl rfl (Nat.le_of_ble_eq_true rfl) dX11_parted_69 ?_
            rintro r_2 f2 ⟨po2, b2, hwo_2, hba_2, hF2, hr2⟩
            have hK : kp own own (fun k => k = 11000 ∨ k = 11004 ∨ (15000 ≤ k ∧ k < 16000)) f f2 := by
              refine kp_fr (S := wo :: ba :: scL P Q) ((fr_tr (fr_mo hr1 (fun z hz9 => (List.mem_cons.mp hz9).elim (fun e9 => e9 ▸ List.mem_cons_self) (fun e9 => List.mem_cons_of_mem _ (List.mem_cons_of_mem _ e9)))) hr2)) (fun _ _ _ => rfl) ?_
              intro x0 hx0
              rcases List.mem_cons.mp hx0 with e0 | hx0
              · rw [e0]; show (own wo) = 11000 ∨ (own wo) = 11004 ∨ (15000 ≤ (own wo) ∧ (own wo) < 16000); rw [og_wo]; decide
              rcases List.mem_cons.mp hx0 with e0 | hx0
              · rw [e0]; show (own ba) = 11000 ∨ (own ba) = 11004 ∨ (15000 ≤ (own ba) ∧ (own ba) < 16000); rw [og_ba]; decide
              exact Or.inr (Or.inr (cPa_tg HcPa _ hx0))
            exact gz_iret rfl dX11_parted_72 (Nat.le_of_ble_eq_true rfl) (Nat.le_of_ble_eq_true rfl) (⟨_, rfl, ⟨_, _, _, _, _, _, _, _, _, _, _, _, _, _, _, (cXo_kp HcXo hK nt_2075), (kCh_kp HcCh hK nt_2076), (kTp_kp HcTp hK nt_2077), (kOu_kp HcOu hK nt_2078), (cFa_kp HcFa hK nt_2079), (cFm_kp HcFm hK nt_2080), (kDr_kp HcDr hK nt_2081), (kOt_kp HcOt hK nt_2082), (kRt_kp HcRt hK nt_2083), (kLa_kp HcLa hK nt_2084), (kLg_kp HcLg hK nt_2085), (kCo_kp HcCo hK nt_2086), (cLv_kp HcLv hK nt_2087), ⟨_, _, _, _, _, _, _, _, _, _, _, ⟨⟨og_wo, og_we, og_stp, og_pa, og_ba⟩, hwo_2, (hK.2 _ _ hwe (by show ¬ ((own we) = 11000 ∨ (own we) = 11004 ∨ (15000 ≤ (own we) ∧ (own we) < 16000)); rw [og_we]; exact nt_2088 _ ⟨Nat.le_refl _, Nat.lt_succ_self _⟩)), (hK.2 _ _ hstp (by show ¬ ((own stp) = 11000 ∨ (own stp) = 11004 ∨ (15000 ≤ (own stp) ∧ (own stp) < 16000)); rw [og_stp]; exact nt_2089 _ ⟨Nat.le_refl _, Nat.lt_succ_self _⟩)), (hK.2 _ _ hpa (by show ¬ ((own pa) = 11000 ∨ (own pa) = 11004 ∨ (15000 ≤ (own pa) ∧ (own pa) < 16000)); rw [og_pa]; exact nt_2090 _ ⟨Nat.le_refl _, Nat.lt_succ_self _⟩)), hba_2, mcWo⟩, (cPa_F HcPa hK hF2)⟩, HcFn⟩, (kp_0 hK (nt_2091 0 ⟨Nat.le_refl _, Nat.lt_succ_self _⟩))⟩)
          ·
            refine gz_iconst (v := (-1)) dX11_parted_47 (by decide) ?_
            exact gz_iret rfl dX11_parted_48 (Nat.le_of_ble_eq_true rfl) (Nat.le_of_ble_eq_true rfl) (⟨_, rfl, hI, kp0_rf⟩)
