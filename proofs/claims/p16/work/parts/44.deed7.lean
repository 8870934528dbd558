theorem nt_2000  : ∀ k : Nat, 13000 ≤ k ∧ k < 14000 → ¬ (k = 11000 ∨ (15000 ≤ k ∧ k < 16000)) := by intro k hk hT; omega
theorem nt_2001  : ∀ k : Nat, 1000 ≤ k ∧ k < 2000 → ¬ (k = 11000 ∨ (15000 ≤ k ∧ k < 16000)) := by intro k hk hT; omega
theorem nt_2002  : ∀ k : Nat, 2000 ≤ k ∧ k < 3000 → ¬ (k = 11000 ∨ (15000 ≤ k ∧ k < 16000)) := by intro k hk hT; omega
theorem nt_2003  : ∀ k : Nat, 14000 ≤ k ∧ k < 15000 → ¬ (k = 11000 ∨ (15000 ≤ k ∧ k < 16000)) := by intro k hk hT; omega
theorem nt_2004  : ∀ k : Nat, 5000 ≤ k ∧ k < 6000 → ¬ (k = 11000 ∨ (15000 ≤ k ∧ k < 16000)) := by intro k hk hT; omega
theorem nt_2005  : ∀ k : Nat, 4000 ≤ k ∧ k < 5000 → ¬ (k = 11000 ∨ (15000 ≤ k ∧ k < 16000)) := by intro k hk hT; omega
theorem nt_2006  : ∀ k : Nat, 6000 ≤ k ∧ k < 7000 → ¬ (k = 11000 ∨ (15000 ≤ k ∧ k < 16000)) := by intro k hk hT; omega
theorem nt_2007  : ∀ k : Nat, 7000 ≤ k ∧ k < 8000 → ¬ (k = 11000 ∨ (15000 ≤ k ∧ k < 16000)) := by intro k hk hT; omega
theorem nt_2008  : ∀ k : Nat, 3000 ≤ k ∧ k < 4000 → ¬ (k = 11000 ∨ (15000 ≤ k ∧ k < 16000)) := by intro k hk hT; omega
theorem nt_2009  : ∀ k : Nat, 8000 ≤ k ∧ k < 9000 → ¬ (k = 11000 ∨ (15000 ≤ k ∧ k < 16000)) := by intro k hk hT; omega
theorem nt_2010  : ∀ k : Nat, 9000 ≤ k ∧ k < 10000 → ¬ (k = 11000 ∨ (15000 ≤ k ∧ k < 16000)) := by intro k hk hT; omega
theorem nt_2011  : ∀ k : Nat, 10000 ≤ k ∧ k < 11000 → ¬ (k = 11000 ∨ (15000 ≤ k ∧ k < 16000)) := by intro k hk hT; omega
theorem nt_2012  : ∀ k : Nat, 12000 ≤ k ∧ k < 13000 → ¬ (k = 11000 ∨ (15000 ≤ k ∧ k < 16000)) := by intro k hk hT; omega
theorem nt_2013  : ∀ k : Nat, 11001 ≤ k ∧ k < 11002 → ¬ (k = 11000 ∨ (15000 ≤ k ∧ k < 16000)) := by intro k hk hT; omega
theorem nt_2014  : ∀ k : Nat, 11002 ≤ k ∧ k < 11003 → ¬ (k = 11000 ∨ (15000 ≤ k ∧ k < 16000)) := by intro k hk hT; omega
theorem nt_2015  : ∀ k : Nat, 11003 ≤ k ∧ k < 11004 → ¬ (k = 11000 ∨ (15000 ≤ k ∧ k < 16000)) := by intro k hk hT; omega
theorem nt_2016  : ∀ k : Nat, 11004 ≤ k ∧ k < 11005 → ¬ (k = 11000 ∨ (15000 ≤ k ∧ k < 16000)) := by intro k hk hT; omega
theorem nt_2017  : ∀ k : Nat, 0 ≤ k ∧ k < 1 → ¬ (k = 11000 ∨ (15000 ≤ k ∧ k < 16000)) := by intro k hk hT; omega
set_option maxHeartbeats 4000000 in
set_option maxRecDepth 100000 in
theorem i_X11_worth {l : Launch} {D : va_G} {cy : Nat → ClassId} {b : Nat} {f : gMem} {own : Nat → Nat} {xo : Nat} {da : Int32} {fcn : Int32} {csz : Int32} {sz : Int32} {len : Int32} {ln : Int32} {wz : Int32} {lo : Int32} {tg : Nat → Int32} {weg : Nat → Int32} {stg : Nat → Int32} {tpg : Nat → Int32} {CN : Nat → Int32 → Int32 → (Nat → Int32) → (Nat → Int32) → Prop} {eg : Nat → Int32} {thg : Nat → Int32} {LN : Nat → Nat → Int32 → Int32 → Int32 → Int32 → Int64 → (Nat → Int32) → (Nat → Int32) → Prop} {ne : Nat} {x y u : Int32} (hI : xI cy own xo da fcn csz sz len ln wz lo tg weg stg tpg CN eg thg LN ne f)  : gC l D cy b yX11_worth cX11_worth 5 (some .long) 511 0 0 [.ref xo, .int x, .int y, .int u] f (pL fun r f2 => xI cy own xo da fcn csz sz len ln wz lo tg weg stg tpg CN eg thg LN ne f2 ∧ kp0 own own f f2) := by
  obtain ⟨ch, sc, tp, ou, fm, dr, dt_, rd, te, la, lg, co, wo, fmg, lvg, HcXo, HcCh, HcTp, HcOu, HcFa, HcFm, HcDr, HcOt, HcRt, HcLa, HcLg, HcCo, HcLv, HcWo, HcFn, HcLn⟩ := id hI
  obtain ⟨og_xo, hxo, mcXo⟩ := id HcXo
  obtain ⟨og_fm, hfm⟩ := id HcFa
  obtain ⟨we, stp, pa, ba, po, ah, gl, bag, pg, P, Q, ⟨⟨og_wo, og_we, og_stp, og_pa, og_ba⟩, hwo, hwe, hstp, hpa, hba, mcWo⟩, HcPa⟩ := id HcWo
  obtain ⟨tl, th, ⟨og_ch, og_tl, og_sc, og_th⟩, hch, htl, hsc, hth, mcCh⟩ := id HcCh
  refine gC_of (by decide) (Nat.le_of_ble_eq_true rfl) ?_
  show gG l _ _ _ D cy b cX11_worth 5 _ RX11 "worth" 0 0 f 0 [(0, .ref xo), (1, .int x), (2, .int y), (3, .int u)] []
  refine gz_aload_n dX11_worth_0 rfl rfl ?_
  refine gz_iload_n dX11_worth_1 rfl rfl ?_
  refine scX11_126 (k_X11_formAt (x := x) hxo hfm) hxo ⟨(Nat.le_of_ble_eq_true rfl), (Nat.le_of_ble_eq_true rfl)⟩ ⟨(Nat.le_of_ble_eq_true rfl), (Nat.le_of_ble_eq_true rfl)⟩ rfl rfl (Nat.le_of_ble_eq_true rfl) dX11_worth_2 ?_
  rintro u9 f9 ⟨z9, y9⟩; rw [z9, y9]
  cases hA2 : formF fcn fmg x with
  | none =>
    refine gz_ev (w := .null) rfl ?_
    refine gz_astoreN (lv' := [(4, .null), (0, .ref xo), (1, .int x), (2, .int y), (3, .int u)]) dX11_worth_5 (by decide) rfl ?_
    refine gz_aloadN dX11_worth_7 rfl ?_
    refine gz_ifnullN (tgt := 28) dX11_worth_9 (by decide) ?_
    refine gz_ldc2 (v := (-1000000000000000000)) wd_667 dX11_worth_28 ?_
    exact gz_lret rfl dX11_worth_31 (Nat.le_of_ble_eq_true rfl) (Nat.le_of_ble_eq_true rfl) (⟨_, rfl, hI, kp0_rf⟩)
  | some p =>
    refine gz_ev (w := .ref p) rfl ?_
    have hip := (formF_some hA2).1
    have hjp := (formF_some hA2).2
    obtain ⟨c1, c2, n1, n2, s, v, g, h, ⟨⟨og_p, og_c1, og_c2⟩, hp, hc1, hc2, hs, hv, hFI⟩, hCN⟩ := HcFm _ _ hip hjp
    refine gz_astore (lv' := [(4, .ref p), (0, .ref xo), (1, .int x), (2, .int y), (3, .int u)]) dX11_worth_5 (by decide) rfl ?_
    refine gz_aload dX11_worth_7 rfl ?_
    refine gz_ifnull dX11_worth_9 ?_
    refine gz_iload_n dX11_worth_12 rfl rfl ?_
    refine scX11_206 (k_X11_isAhead (x := y)) ⟨(Nat.le_of_ble_eq_true rfl), (Nat.le_of_ble_eq_true rfl)⟩ ⟨(Nat.le_of_ble_eq_true rfl), (Nat.le_of_ble_eq_true rfl)⟩ rfl rfl (Nat.le_of_ble_eq_true rfl) dX11_worth_13 ?_
    intro v9 f9 z9; rw [z9.1, z9.2]
    refine gz_if_eq (tgt := 28) dX11_worth_16 (by decide) (fun c_16 => ?_) (fun c_16 => ?_)
    ·
      refine gz_ldc2 (v := (-1000000000000000000)) wd_667 dX11_worth_28 ?_
      exact gz_lret rfl dX11_worth_31 (Nat.le_of_ble_eq_true rfl) (Nat.le_of_ble_eq_true rfl) (⟨_, rfl, hI, kp0_rf⟩)
    ·
      refine gz_iload_n dX11_worth_19 rfl rfl ?_
      refine gz_if_lt (tgt := 28) dX11_worth_20 (by decide) (fun c_20 => ?_) (fun c_20 => ?_)
      ·
        refine gz_ldc2 (v := (-1000000000000000000)) wd_667 dX11_worth_28 ?_
        exact gz_lret rfl dX11_worth_31 (Nat.le_of_ble_eq_true rfl) (Nat.le_of_ble_eq_true rfl) (⟨_, rfl, hI, kp0_rf⟩)
      ·
        refine gz_iload_n dX11_worth_23 rfl rfl ?_
        refine gz_iconst (v := 3) dX11_worth_24 (by decide) ?_
        refine gz_icmp_le (tgt := 32) dX11_worth_25 (by decide) (fun c_25 => ?_) (fun c_25 => ?_)
        ·
          refine gz_iload_n dX11_worth_32 rfl rfl ?_
          refine gz_iconst (v := 3) dX11_worth_33 (by decide) ?_
          refine gz_icmp_ne (tgt := 48) dX11_worth_34 (by decide) (fun c_34 => ?_) (fun c_34 => ?_)
          ·
            refine gz_aload_n dX11_worth_48 rfl rfl ?_
            refine sgX11_94 hxo rfl dX11_worth_49 ?_
            refine gz_aload dX11_worth_52 rfl ?_
            refine gz_iload_n dX11_worth_54 rfl rfl ?_
            refine gz_iload_n dX11_worth_55 rfl rfl ?_
            refine scX11_215 (k_X10_judge (nn_ := y) (gx := u) hwo hwe hstp hpa hp hc1 hc2 hsc hth hs hv hFI mcWo.2 HcPa.2.1 (cPa_ne HcPa) (cPa_no HcPa (by intro x0 hx0; simp only [List.mem_cons, List.not_mem_nil, or_false] at hx0; rcases hx0 with e0 | e0 | e0 | e0 | e0 | e0 | e0; all_goals first | (rw [e0, og_wo]; decide) | (rw [e0, og_we]; decide) | (rw [e0, og_stp]; decide) | (rw [e0, og_pa]; decide) | (rw [e0, og_p]; omega) | (rw [e0, og_c1]; omega) | (rw [e0, og_c2]; omega))) (cPa_no HcPa (by intro x0 hx0; simp only [List.mem_cons, List.not_mem_nil, or_false] at hx0; rcases hx0 with e0 | e0; all_goals first | (rw [e0, og_sc]; decide) | (rw [e0, og_th]; decide))) HcPa.2.2) hwo ⟨(Nat.le_of_ble_eq_true rfl), (Nat.le_of_ble_eq_true rfl)⟩ ⟨(Nat.le_of_ble_eq_true rfl), (Nat.le_of_ble_eq_true rfl)⟩ rfl rfl (Nat.le_of_ble_eq_true rfl) dX11_worth_56 ?_
            rintro r_1 f1 ⟨hwo_1, hF1, hr1⟩
            have hK : kp own own (fun k => k = 11000 ∨ (15000 ≤ k ∧ k < 16000)) f f1 := by
              refine kp_fr (S := wo :: scL P Q) (hr1) (fun _ _ _ => rfl) ?_
              intro x0 hx0
              rcases List.mem_cons.mp hx0 with e0 | hx0
              · rw [e0]; show (own wo) = 11000 ∨ (15000 ≤ (own wo) ∧ (own wo) < 16000); rw [og_wo]; decide
              exact Or.inr (cPa_tg HcPa _ hx0)
            exact gz_lret rfl dX11_worth_59 (Nat.le_of_ble_eq_true rfl) (Nat.le_of_ble_eq_true rfl) (⟨_, rfl, ⟨_, _, _, _, _, _, _, _, _, _, _, _, _, _, _, (cXo_kp HcXo hK nt_2000), (kCh_kp HcCh hK nt_2001), (kTp_kp HcTp hK nt_2002), (kOu_kp HcOu hK nt_2003), (cFa_kp HcFa hK nt_2004), (cFm_kp HcFm hK nt_2005), (kDr_kp HcDr hK nt_2006), (kOt_kp HcOt hK nt_2007), (kRt_kp HcRt hK nt_2008), (kLa_kp HcLa hK nt_2009), (kLg_kp HcLg hK nt_2010), (kCo_kp HcCo hK nt_2011), (cLv_kp HcLv hK nt_2012), ⟨_, _, _, _, _, _, _, _, _, _, _, ⟨⟨og_wo, og_we, og_stp, og_pa, og_ba⟩, hwo_1, (hK.2 _ _ hwe (by show ¬ ((own we) = 11000 ∨ (15000 ≤ (own we) ∧ (own we) < 16000)); rw [og_we]; exact nt_2013 _ ⟨Nat.le_refl _, Nat.lt_succ_self _⟩)), (hK.2 _ _ hstp (by show ¬ ((own stp) = 11000 ∨ (15000 ≤ (own stp) ∧ (own stp) < 16000)); rw [og_stp]; exact nt_2014 _ ⟨Nat.le_refl _, Nat.lt_succ_self _⟩)), (hK.2 _ _ hpa (by show ¬ ((own pa) = 11000 ∨ (15000 ≤ (own pa) ∧ (own pa) < 16000)); rw [og_pa]; exact nt_2015 _ ⟨Nat.le_refl _, Nat.lt_succ_self _⟩)), (hK.2 _ _ hba (by show ¬ ((own ba) = 11000 ∨ (15000 ≤ (own ba) ∧ (own ba) < 16000)); rw [og_ba]; exact nt_2016 _ ⟨Nat.le_refl _, Nat.lt_succ_self _⟩)), mcWo⟩, (cPa_F HcPa hK hF1)⟩, HcFn, HcLn⟩, (kp_0 hK (nt_2017 0 ⟨Nat.le_refl _, Nat.lt_succ_self _⟩))⟩)
          ·
            refine gz_aload_n dX11_worth_37 rfl rfl ?_
            refine sgX11_94 hxo rfl dX11_worth_38 ?_
            refine gz_iload_n dX11_worth_41 rfl rfl ?_
            refine scX11_211 (k_X10_power (x := y) hwo hwe mcWo.2) hwo ⟨(Nat.le_of_ble_eq_true rfl), (Nat.le_of_ble_eq_true rfl)⟩ ⟨(Nat.le_of_ble_eq_true rfl), (Nat.le_of_ble_eq_true rfl)⟩ rfl rfl (Nat.le_of_ble_eq_true rfl) dX11_worth_42 ?_
            intro v9 f9 z9; rw [z9.1, z9.2]
            refine gz_goto (tgt := 59) dX11_worth_45 (by decide) ?_
            exact gz_lret rfl dX11_worth_59 (Nat.le_of_ble_eq_true rfl) (Nat.le_of_ble_eq_true rfl) (⟨_, rfl, hI, kp0_rf⟩)
        ·
          refine gz_ldc2 (v := (-1000000000000000000)) wd_667 dX11_worth_28 ?_
          exact gz_lret rfl dX11_worth_31 (Nat.le_of_ble_eq_true rfl) (Nat.le_of_ble_eq_true rfl) (⟨_, rfl, hI, kp0_rf⟩)

set_option maxHeartbeats 4000000 in
set_option maxRecDepth 100000 in
theorem i_X11_comeTo {l : Launch} {D : va_G} {cy : Nat → ClassId} {b : Nat} {f : gMem} {own : Nat → Nat} {xo : Nat} {da : Int32} {fcn : Int32} {csz : Int32} {sz : Int32} {len : Int32} {ln : Int32} {wz : Int32} {lo : Int32} {tg : Nat → Int32} {weg : Nat → Int32} {stg : Nat → Int32} {tpg : Nat → Int32} {CN : Nat → Int32 → Int32 → (Nat → Int32) → (Nat → Int32) → Prop} {eg : Nat → Int32} {thg : Nat → Int32} {LN : Nat → Nat → Int32 → Int32 → Int32 → Int32 → Int64 → (Nat → Int32) → (Nat → Int32) → Prop} {ne : Nat} {x y u : Int32} (hI : xI cy own xo da fcn csz sz len ln wz lo tg weg stg tpg CN eg thg LN ne f)  : gC l D cy b yX11_comeTo cX11_comeTo 5 (some .int) 511 0 0 [.ref xo, .int x, .int y, .int u] f (pI fun r f2 => xI cy own xo da fcn csz sz len ln wz lo tg weg stg tpg CN eg thg LN ne f2 ∧ kp0 own own f f2) := by
  obtain ⟨ch, sc, tp, ou, fm, dr, dt_, rd, te, la, lg, co, wo, fmg, lvg, HcXo, HcCh, HcTp, HcOu, HcFa, HcFm, HcDr, HcOt, HcRt, HcLa, HcLg, HcCo, HcLv, HcWo, HcFn, HcLn⟩ := id hI
  obtain ⟨og_xo, hxo, mcXo⟩ := id HcXo
  obtain ⟨og_fm, hfm⟩ := id HcFa
  obtain ⟨we, stp, pa, ba, po, ah, gl, bag, pg, P, Q, ⟨⟨og_wo, og_we, og_stp, og_pa, og_ba⟩, hwo, hwe, hstp, hpa, hba, mcWo⟩, HcPa⟩ := id HcWo
  obtain ⟨tl, th, ⟨og_ch, og_tl, og_sc, og_th⟩, hch, htl, hsc, hth, mcCh⟩ := id HcCh
  refine gC_of (by decide) (Nat.le_of_ble_eq_true rfl) ?_
  show gG l _ _ _ D cy b cX11_comeTo 5 _ RX11 "comeTo" 0 0 f 0 [(0, .ref xo), (1, .int x), (2, .int y), (3, .int u)] []
  refine gz_aload_n dX11_comeTo_0 rfl rfl ?_
  refine gz_iload_n dX11_comeTo_1 rfl rfl ?_
  refine scX11_126 (k_X11_formAt (x := x) hxo hfm) hxo ⟨(Nat.le_of_ble_eq_true rfl), (Nat.le_of_ble_eq_true rfl)⟩ ⟨(Nat.le_of_ble_eq_true rfl), (Nat.le_of_ble_eq_true rfl)⟩ rfl rfl (Nat.le_of_ble_eq_true rfl) dX11_comeTo_2 ?_
  rintro u9 f9 ⟨z9, y9⟩; rw [z9, y9]
  cases hA2 : formF fcn fmg x with
  | none =>
    refine gz_ev (w := .null) rfl ?_
    refine gz_astoreN (lv' := [(4, .null), (0, .ref xo), (1, .int x), (2, .int y), (3, .int u)]) dX11_comeTo_5 (by decide) rfl ?_
    refine gz_aloadN dX11_comeTo_7 rfl ?_
    refine gz_ifnullN (tgt := 32) dX11_comeTo_9 (by decide) ?_
    refine gz_iconst (v := (-1)) dX11_comeTo_32 (by decide) ?_
    exact gz_iret rfl dX11_comeTo_33 (Nat.le_of_ble_eq_true rfl) (Nat.le_of_ble_eq_true rfl) (⟨_, rfl, hI, kp0_rf⟩)
  | some p =>
    refine gz_ev (w := .ref p) rfl ?_
    have hip := (formF_some hA2).1
    have hjp := (formF_some hA2).2
    obtain ⟨c1, c2, n1, n2, s, v, g, h, ⟨⟨og_p, og_c1, og_c2⟩, hp, hc1, hc2, hs, hv, hFI⟩, hCN⟩ := HcFm _ _ hip hjp
    refine gz_astore (lv' := [(4, .ref p), (0, .ref xo), (1, .int x), (2, .int y), (3, .int u)]) dX11_comeTo_5 (by decide) rfl ?_
    refine gz_aload dX11_comeTo_7 rfl ?_
    refine gz_ifnull dX11_comeTo_9 ?_
    refine gz_iload_n dX11_comeTo_12 rfl rfl ?_
    refine scX11_206 (k_X11_isAhead (x := y)) ⟨(Nat.le_of_ble_eq_true rfl), (Nat.le_of_ble_eq_true rfl)⟩ ⟨(Nat.le_of_ble_eq_true rfl), (Nat.le_of_ble_eq_true rfl)⟩ rfl rfl (Nat.le_of_ble_eq_true rfl) dX11_comeTo_13 ?_
    intro v9 f9 z9; rw [z9.1, z9.2]
    refine gz_if_eq (tgt := 32) dX11_comeTo_16 (by decide) (fun c_16 => ?_) (fun c_16 => ?_)
    ·
      refine gz_iconst (v := (-1)) dX11_comeTo_32 (by decide) ?_
      exact gz_iret rfl dX11_comeTo_33 (Nat.le_of_ble_eq_true rfl) (Nat.le_of_ble_eq_true rfl) (⟨_, rfl, hI, kp0_rf⟩)
    ·
      refine gz_iload_n dX11_comeTo_19 rfl rfl ?_
      refine gz_if_lt (tgt := 32) dX11_comeTo_20 (by decide) (fun c_20 => ?_) (fun c_20 => ?_)
      ·
        refine gz_iconst (v := (-1)) dX11_comeTo_32 (by decide) ?_
        exact gz_iret rfl dX11_comeTo_33 (Nat.le_of_ble_eq_true rfl) (Nat.le_of_ble_eq_true rfl) (⟨_, rfl, hI, kp0_rf⟩)
      ·
        refine gz_iload_n dX11_comeTo_23 rfl rfl ?_
        refine gz_aload dX11_comeTo_24 rfl ?_
        refine scX11_133 (k_X2_size hp) hp ⟨(Nat.le_of_ble_eq_true rfl), (Nat.le_of_ble_eq_true rfl)⟩ ⟨(Nat.le_of_ble_eq_true rfl), (Nat.le_of_ble_eq_true rfl)⟩ rfl rfl (Nat.le_of_ble_eq_true rfl) dX11_comeTo_26 ?_
        intro v9 f9 z9; rw [z9.1, z9.2]
        refine gz_icmp_lt (tgt := 34) dX11_comeTo_29 (by decide) (fun c_29 => ?_) (fun c_29 => ?_)
        ·
          refine gz_aload_n dX11_comeTo_34 rfl rfl ?_
          refine sgX11_94 hxo rfl dX11_comeTo_35 ?_
          refine gz_aload dX11_comeTo_38 rfl ?_
          refine gz_iload_n dX11_comeTo_40 rfl rfl ?_
          refine gz_iload_n dX11_comeTo_41 rfl rfl ?_
          refine scX11_219 (k_X10_finds (nn_ := y) (gx := u) hwo hwe hstp hpa hp hc1 hc2 hsc hth hs hv hFI mcWo.2 HcPa.2.1 (cPa_ne HcPa) (cPa_no HcPa (by intro x0 hx0; simp only [List.mem_cons, List.not_mem_nil, or_false] at hx0; rcases hx0 with e0 | e0 | e0 | e0 | e0 | e0 | e0; all_goals first | (rw [e0, og_wo]; decide) | (rw [e0, og_we]; decide) | (rw [e0, og_stp]; decide) | (rw [e0, og_pa]; decide) | (rw [e0, og_p]; omega) | (rw [e0, og_c1]; omega) | (rw [e0, og_c2]; omega))) (cPa_no HcPa (by intro x0 hx0; simp only [List.mem_cons, List.not_mem_nil, or_false] at hx0; rcases hx0 with e0 | e0; all_goals first | (rw [e0, og_sc]; decide) | (rw [e0, og_th]; decide))) HcPa.2.2) hwo ⟨(Nat.le_of_ble_eq_true rfl), (Nat.le_of_ble_eq_true rfl)⟩ ⟨(Nat.le_of_ble_eq_true rfl), (Nat.le_of_ble_eq_true rfl)⟩ rfl rfl (Nat.le_of_ble_eq_true rfl) dX11_comeTo_42 ?_
          rintro r_1 f1 ⟨hbb, hwo_1, hF1, hr1⟩
          refine gz_if_eq (tgt := 52) dX11_comeTo_45 (by decide) (fun c_45 => ?_) (fun c_45 => ?_)
          ·
            refine gz_iconst (v := 0) dX11_comeTo_52 (by decide) ?_
            have hK : kp own own (fun k => k = 11000 ∨ (15000 ≤ k ∧ k < 16000)) f f1 := by
              refine kp_fr (S := wo :: scL P Q) (hr1) (fun _ _ _ => rfl) ?_
              intro x0 hx0
              rcases List.mem_cons.mp hx0 with e0 | hx0
              · rw [e0]; show (own wo) = 11000 ∨ (15000 ≤ (own wo) ∧ (own wo) < 16000); rw [og_wo]; decide
              exact Or.inr (cPa_tg HcPa _ hx0)
            exact gz_iret rfl dX11_comeTo_53 (Nat.le_of_ble_eq_true rfl) (Nat.le_of_ble_eq_true rfl) (⟨_, rfl, ⟨_, _, _, _, _, _, _, _, _, _, _, _, _, _, _, (cXo_kp HcXo hK nt_2000), (kCh_kp HcCh hK nt_2001), (kTp_kp HcTp hK nt_2002), (kOu_kp HcOu hK nt_2003), (cFa_kp HcFa hK nt_2004), (cFm_kp HcFm hK nt_2005), (kDr_kp HcDr hK nt_2006), (kOt_kp HcOt hK nt_2007), (kRt_kp HcRt hK nt_2008), (kLa_kp HcLa hK nt_2009), (kLg_kp HcLg hK nt_2010), (kCo_kp HcCo hK nt_2011), (cLv_kp HcLv hK nt_2012), ⟨_, _, _, _, _, _, _, _, _, _, _, ⟨⟨og_wo, og_we, og_stp, og_pa, og_ba⟩, hwo_1, (hK.2 _ _ hwe (by show ¬ ((own we) = 11000 ∨ (15000 ≤ (own we) ∧ (own we) < 16000)); rw [og_we]; exact nt_2013 _ ⟨Nat.le_refl _, Nat.lt_succ_self _⟩)), (hK.2 _ _ hstp (by show ¬ ((own stp) = 11000 ∨ (15000 ≤ (own stp) ∧ (own stp) < 16000)); rw [og_stp]; exact nt_2014 _ ⟨Nat.le_refl _, Nat.lt_succ_self _⟩)), (hK.2 _ _ hpa (by show ¬ ((own pa) = 11000 ∨ (15000 ≤ (own pa) ∧ (own pa) < 16000)); rw [og_pa]; exact nt_2015 _ ⟨Nat.le_refl _, Nat.lt_succ_self _⟩)), (hK.2 _ _ hba (by show ¬ ((own ba) = 11000 ∨ (15000 ≤ (own ba) ∧ (own ba) < 16000)); rw [og_ba]; exact nt_2016 _ ⟨Nat.le_refl _, Nat.lt_succ_self _⟩)), mcWo⟩, (cPa_F HcPa hK hF1)⟩, HcFn, HcLn⟩, (kp_0 hK (nt_2017 0 ⟨Nat.le_refl _, Nat.lt_succ_self _⟩))⟩)
          ·
            refine gz_iconst (v := 1) dX11_comeTo_48 (by decide) ?_
            refine gz_goto (tgt := 53) dX11_comeTo_49 (by decide) ?_
            have hK : kp own own (fun k => k = 11000 ∨ (15000 ≤ k ∧ k < 16000)) f f1 := by
              refine kp_fr (S := wo :: scL P Q) (hr1) (fun _ _ _ => rfl) ?_
              intro x0 hx0
              rcases List.mem_cons.mp hx0 with e0 | hx0
              · rw [e0]; show (own wo) = 11000 ∨ (15000 ≤ (own wo) ∧ (own wo) < 16000); rw [og_wo]; decide
              exact Or.inr (cPa_tg HcPa _ hx0)
            exact gz_iret rfl dX11_comeTo_53 (Nat.le_of_ble_eq_true rfl) (Nat.le_of_ble_eq_true rfl) (⟨_, rfl, ⟨_, _, _, _, _, _, _, _, _, _, _, _, _, _, _, (cXo_kp HcXo hK nt_2000), (kCh_kp HcCh hK nt_2001), (kTp_kp HcTp hK nt_2002), (kOu_kp HcOu hK nt_2003), (cFa_kp HcFa hK nt_2004), (cFm_kp HcFm hK nt_2005), (kDr_kp HcDr hK nt_2006), (kOt_kp HcOt hK nt_2007), (kRt_kp HcRt hK nt_2008), (kLa_kp HcLa hK nt_2009), (kLg_kp HcLg hK nt_2010), (kCo_kp HcCo hK nt_2011), (cLv_kp HcLv hK nt_2012), ⟨_, _, _, _, _, _, _, _, _, _, _, ⟨⟨og_wo, og_we, og_stp, og_pa, og_ba⟩, hwo_1, (hK.2 _ _ hwe (by show ¬ ((own we) = 11000 ∨ (15000 ≤ (own we) ∧ (own we) < 16000)); rw [og_we]; exact nt_2013 _ ⟨Nat.le_refl _, Nat.lt_succ_self _⟩)), (hK.2 _ _ hstp (by show ¬ ((own stp) = 11000 ∨ (15000 ≤ (own stp) ∧ (own stp) < 16000)); rw [og_stp]; exact nt_2014 _ ⟨Nat.le_refl _, Nat.lt_succ_self _⟩)), (hK.2 _ _ hpa (by show ¬ ((own pa) = 11000 ∨ (15000 ≤ (own pa) ∧ (own pa) < 16000)); rw [og_pa]; exact nt_2015 _ ⟨Nat.le_refl _, Nat.lt_succ_self _⟩)), (hK.2 _ _ hba (by show ¬ ((own ba) = 11000 ∨ (15000 ≤ (own ba) ∧ (own ba) < 16000)); rw [og_ba]; exact nt_2016 _ ⟨Nat.le_refl _, Nat.lt_succ_self _⟩)), mcWo⟩, (cPa_F HcPa hK hF1)⟩, HcFn, HcLn⟩, (kp_0 hK (nt_2017 0 ⟨Nat.le_refl _, Nat.lt_succ_self _⟩))⟩)
        ·
          refine gz_iconst (v := (-1)) dX11_comeTo_32 (by decide) ?_
          exact gz_iret rfl dX11_comeTo_33 (Nat.le_of_ble_eq_true rfl) (Nat.le_of_ble_eq_true rfl) (⟨_, rfl, hI, kp0_rf⟩)

theorem nt_2018  : ∀ k : Nat, 13000 ≤ k ∧ k < 14000 → ¬ (k = 11000 ∨ k = 11004 ∨ (15000 ≤ k ∧ k < 16000)) := by intro k hk hT; omega
theorem nt_2019  : ∀ k : Nat, 1000 ≤ k ∧ k < 2000 → ¬ (k = 11000 ∨ k = 11004 ∨ (15000 ≤ k ∧ k < 16000)) := by intro k hk hT; omega
theorem nt_2020  : ∀ k : Nat, 2000 ≤ k ∧ k < 3000 → ¬ (k = 11000 ∨ k = 11004 ∨ (15000 ≤ k ∧ k < 16000)) := by intro k hk hT; omega
theorem nt_2021  : ∀ k : Nat, 14000 ≤ k ∧ k < 15000 → ¬ (k = 11000 ∨ k = 11004 ∨ (15000 ≤ k ∧ k < 16000)) := by intro k hk hT; omega
theorem nt_2022  : ∀ k : Nat, 5000 ≤ k ∧ k < 6000 → ¬ (k = 11000 ∨ k = 11004 ∨ (15000 ≤ k ∧ k < 16000)) := by intro k hk hT; omega
theorem nt_2023  : ∀ k : Nat, 4000 ≤ k ∧ k < 5000 → ¬ (k = 11000 ∨ k = 11004 ∨ (15000 ≤ k ∧ k < 16000)) := by intro k hk hT; omega
theorem nt_2024  : ∀ k : Nat, 6000 ≤ k ∧ k < 7000 → ¬ (k = 11000 ∨ k = 11004 ∨ (15000 ≤ k ∧ k < 16000)) := by intro k hk hT; omega
theorem nt_2025  : ∀ k : Nat, 7000 ≤ k ∧ k < 8000 → ¬ (k = 11000 ∨ k = 11004 ∨ (15000 ≤ k ∧ k < 16000)) := by intro k hk hT; omega
theorem nt_2026  : ∀ k : Nat, 3000 ≤ k ∧ k < 4000 → ¬ (k = 11000 ∨ k = 11004 ∨ (15000 ≤ k ∧ k < 16000)) := by intro k hk hT; omega
theorem nt_2027  : ∀ k : Nat, 8000 ≤ k ∧ k < 9000 → ¬ (k = 11000 ∨ k = 11004 ∨ (15000 ≤ k ∧ k < 16000)) := by intro k hk hT; omega
theorem nt_2028  : ∀ k : Nat, 9000 ≤ k ∧ k < 10000 → ¬ (k = 11000 ∨ k = 11004 ∨ (15000 ≤ k ∧ k < 16000)) := by intro k hk hT; omega
theorem nt_2029  : ∀ k : Nat, 10000 ≤ k ∧ k < 11000 → ¬ (k = 11000 ∨ k = 11004 ∨ (15000 ≤ k ∧ k < 16000)) := by intro k hk hT; omega
theorem nt_2030  : ∀ k : Nat, 12000 ≤ k ∧ k < 13000 → ¬ (k = 11000 ∨ k = 11004 ∨ (15000 ≤ k ∧ k < 16000)) := by intro k hk hT; omega
theorem nt_2031  : ∀ k : Nat, 11001 ≤ k ∧ k < 11002 → ¬ (k = 11000 ∨ k = 11004 ∨ (15000 ≤ k ∧ k < 16000)) := by intro k hk hT; omega
theorem nt_2032  : ∀ k : Nat, 11002 ≤ k ∧ k < 11003 → ¬ (k = 11000 ∨ k = 11004 ∨ (15000 ≤ k ∧ k < 16000)) := by intro k hk hT; omega
theorem nt_2033  : ∀ k : Nat, 11003 ≤ k ∧ k < 11004 → ¬ (k = 11000 ∨ k = 11004 ∨ (15000 ≤ k ∧ k < 16000)) := by intro k hk hT; omega
theorem nt_2034  : ∀ k : Nat, 0 ≤ k ∧ k < 1 → ¬ (k = 11000 ∨ k = 11004 ∨ (15000 ≤ k ∧ k < 16000)) := by intro k hk hT; omega
set_option maxHeartbeats 4000000 in
set_option maxRecDepth 100000 in
theorem i_X11_parted {l : Launch} {D : va_G} {cy : Nat → ClassId} {b : Nat} {f : gMem} {own : Nat → Nat} {xo : Nat} {da : Int32} {fcn : Int32} {csz : Int32} {sz : Int32} {len : Int32} {ln : Int32} {wz : Int32} {lo : Int32} {tg : Nat → Int32} {weg : Nat → Int32} {stg : Nat → Int32} {tpg : Nat → Int32} {CN : Nat → Int32 → Int32 → (Nat → Int32) → (Nat → Int32) → Prop} {eg : Nat → Int32} {thg : Nat → Int32} {LN : Nat → Nat → Int32 → Int32 → Int32 → Int32 → Int64 → (Nat → Int32) → (Nat → Int32) → Prop} {ne : Nat} {x y u : Int32} (hI : xI cy own xo da fcn csz sz len ln wz lo tg weg stg tpg CN eg thg LN ne f)  : gC l D cy b yX11_parted cX11_parted 6 (some .int) 264 0 0 [.ref xo, .int x, .int y, .int u] f (pI fun r f2 => xI cy own xo da fcn csz sz len ln wz lo tg weg stg tpg CN eg thg LN ne f2 ∧ kp0 own own f f2) := by
  obtain ⟨ch, sc, tp, ou, fm, dr, dt_, rd, te, la, lg, co, wo, fmg, lvg, HcXo, HcCh, HcTp, HcOu, HcFa, HcFm, HcDr, HcOt, HcRt, HcLa, HcLg, HcCo, HcLv, HcWo, HcFn, HcLn⟩ := id hI
  obtain ⟨og_xo, hxo, mcXo⟩ := id HcXo
  obtain ⟨og_fm, hfm⟩ := id HcFa
  obtain ⟨we, stp, pa, ba, po, ah, gl, bag, pg, P, Q, ⟨⟨og_wo, og_we, og_stp, og_pa, og_ba⟩, hwo, hwe, hstp, hpa, hba, mcWo⟩, HcPa⟩ := id HcWo
  obtain ⟨tl, th, ⟨og_ch, og_tl, og_sc, og_th⟩, hch, htl, hsc, hth, mcCh⟩ := id HcCh
  refine gC_of (by decide) (Nat.le_of_ble_eq_true rfl) ?_
  show gG l _ _ _ D cy b cX11_parted 6 _ RX11 "parted" 0 0 f 0 [(0, .ref xo), (1, .int x), (2, .int y), (3, .int u)] []
  refine gz_aload_n dX11_parted_0 rfl rfl ?_
  refine gz_iload_n dX11_parted_1 rfl rfl ?_
  refine scX11_126 (k_X11_formAt (x := x) hxo hfm) hxo ⟨(Nat.le_of_ble_eq_true rfl), (Nat.le_of_ble_eq_true rfl)⟩ ⟨(Nat.le_of_ble_eq_true rfl), (Nat.le_of_ble_eq_true rfl)⟩ rfl rfl (Nat.le_of_ble_eq_true rfl) dX11_parted_2 ?_
  rintro u9 f9 ⟨z9, y9⟩; rw [z9, y9]
  cases hA2 : formF fcn fmg x with
  | none =>
    refine gz_ev (w := .null) rfl ?_
    refine gz_astoreN (lv' := [(4, .null), (0, .ref xo), (1, .int x), (2, .int y), (3, .int u)]) dX11_parted_5 (by decide) rfl ?_
    refine gz_aload_n dX11_parted_7 rfl rfl ?_
    refine gz_iload_n dX11_parted_8 rfl rfl ?_
    refine scX11_126 (k_X11_formAt (x := y) hxo hfm) hxo ⟨(Nat.le_of_ble_eq_true rfl), (Nat.le_of_ble_eq_true rfl)⟩ ⟨(Nat.le_of_ble_eq_true rfl), (Nat.le_of_ble_eq_true rfl)⟩ rfl rfl (Nat.le_of_ble_eq_true rfl) dX11_parted_9 ?_
    rintro u9 f9 ⟨z9, y9⟩; rw [z9, y9]
    cases hA4 : formF fcn fmg y with
    | none =>
      refine gz_ev (w := .null) rfl ?_
      refine gz_astoreN (lv' := [(5, .null), (4, .null), (0, .ref xo), (1, .int x), (2, .int y), (3, .int u)]) dX11_parted_12 (by decide) rfl ?_
      refine gz_aloadN dX11_parted_14 rfl ?_
      refine gz_ifnullN (tgt := 47) dX11_parted_16 (by decide) ?_
      refine gz_iconst (v := (-1)) dX11_parted_47 (by decide) ?_
      exact gz_iret rfl dX11_parted_48 (Nat.le_of_ble_eq_true rfl) (Nat.le_of_ble_eq_true rfl) (⟨_, rfl, hI, kp0_rf⟩)
    | some py =>
      refine gz_ev (w := .ref py) rfl ?_
      have hipy := (formF_some hA4).1
      have hjpy := (formF_some hA4).2
      obtain ⟨c1y, c2y, n1y, n2y, sy, vy, gy, hy, ⟨⟨og_py, og_c1y, og_c2y⟩, hpy, hc1y, hc2y, hsy, hvy, hFIy⟩, hCNy⟩ := HcFm _ _ hipy hjpy
      refine gz_astore (lv' := [(5, .ref py), (4, .null), (0, .ref xo), (1, .int x), (2, .int y), (3, .int u)]) dX11_parted_12 (by decide) rfl ?_
      refine gz_aloadN dX11_parted_14 rfl ?_
      refine gz_ifnullN (tgt := 47) dX11_parted_16 (by decide) ?_
      refine gz_iconst (v := (-1)) dX11_parted_47 (by decide) ?_
      exact gz_iret rfl dX11_parted_48 (Nat.le_of_ble_eq_true rfl) (Nat.le_of_ble_eq_true rfl) (⟨_, rfl, hI, kp0_rf⟩)
  | some p =>
    refine gz_ev (w := .ref p) rfl ?_
    have hip := (formF_some hA2).1
    have hjp := (formF_some hA2).2
    obtain ⟨c1, c2, n1, n2, s, v, g, h, ⟨⟨og_p, og_c1, og_c2⟩, hp, hc1, hc2, hs, hv, hFI⟩, hCN⟩ := HcFm _ _ hip hjp
    refine gz_astore (lv' := [(4, .ref p), (0, .ref xo), (1, .int x), (2, .int y), (3, .int u)]) dX11_parted_5 (by decide) rfl ?_
    refine gz_aload_n dX11_parted_7 rfl rfl ?_
    refine gz_iload_n dX11_parted_8 rfl rfl ?_
    refine scX11_126 (k_X11_formAt (x := y) hxo hfm) hxo ⟨(Nat.le_of_ble_eq_true rfl), (Nat.le_of_ble_eq_true rfl)⟩ ⟨(Nat.le_of_ble_eq_true rfl), (Nat.le_of_ble_eq_true rfl)⟩ rfl rfl (Nat.le_of_ble_eq_true rfl) dX11_parted_9 ?_
    rintro u9 f9 ⟨z9, y9⟩; rw [z9, y9]
    cases hA6 : formF fcn fmg y with
    | none =>
      refine gz_ev (w := .null) rfl ?_
      refine gz_astoreN (lv' := [(5, .null), (4, .ref p), (0, .ref xo), (1, .int x), (2, .int y), (3, .int u)]) dX11_parted_12 (by decide) rfl ?_
      refine gz_aload dX11_parted_14 rfl ?_
      refine gz_ifnull dX11_parted_16 ?_
      refine gz_aloadN dX11_parted_19 rfl ?_
      refine gz_ifnullN (tgt := 47) dX11_parted_21 (by decide) ?_
      refine gz_iconst (v := (-1)) dX11_parted_47 (by decide) ?_
      exact gz_iret rfl dX11_parted_48 (Nat.le_of_ble_eq_true rfl) (Nat.le_of_ble_eq_true rfl) (⟨_, rfl, hI, kp0_rf⟩)
    | some py =>
      refine gz_ev (w := .ref py) rfl ?_
      have hipy := (formF_some hA6).1
      have hjpy := (formF_some hA6).2
      obtain ⟨c1y, c2y, n1y, n2y, sy, vy, gy, hy, ⟨⟨og_py, og_c1y, og_c2y⟩, hpy, hc1y, hc2y, hsy, hvy, hFIy⟩, hCNy⟩ := HcFm _ _ hipy hjpy
      refine gz_astore (lv' := [(5, .ref py), (4, .ref p), (0, .ref xo), (1, .int x), (2, .int y), (3, .int u)]) dX11_parted_12 (by decide) rfl ?_
      refine gz_aload dX11_parted_14 rfl ?_
      refine gz_ifnull dX11_parted_16 ?_
      refine gz_aload dX11_parted_19 rfl ?_
      refine gz_ifnull dX11_parted_21 ?_
      refine gz_iload_n dX11_parted_24 rfl rfl ?_
      refine scX11_206 (k_X11_isAhead (x := u)) ⟨(Nat.le_of_ble_eq_true rfl), (Nat.le_of_ble_eq_true rfl)⟩ ⟨(Nat.le_of_ble_eq_true rfl), (Nat.le_of_ble_eq_true rfl)⟩ rfl rfl (Nat.le_of_ble_eq_true rfl) dX11_parted_25 ?_
      intro v9 f9 z9; rw [z9.1, z9.2]
      refine gz_if_eq (tgt := 47) dX11_parted_28 (by decide) (fun c_28 => ?_) (fun c_28 => ?_)
      ·
        refine gz_iconst (v := (-1)) dX11_parted_47 (by decide) ?_
        exact gz_iret rfl dX11_parted_48 (Nat.le_of_ble_eq_true rfl) (Nat.le_of_ble_eq_true rfl) (⟨_, rfl, hI, kp0_rf⟩)
      ·
        refine gz_aload dX11_parted_31 rfl ?_
        refine scX11_223 (k_X2_hasChoices hp hc1 hs) hp ⟨(Nat.le_of_ble_eq_true rfl), (Nat.le_of_ble_eq_true rfl)⟩ ⟨(Nat.le_of_ble_eq_true rfl), (Nat.le_of_ble_eq_true rfl)⟩ rfl rfl (Nat.le_of_ble_eq_true rfl) dX11_parted_33 ?_
        intro v9 f9 z9; rw [z9.1, z9.2]
        refine gz_if_ne (tgt := 47) dX11_parted_36 (by decide) (fun c_36 => ?_) (fun c_36 => ?_)
        ·
          refine gz_iconst (v := (-1)) dX11_parted_47 (by decide) ?_
          exact gz_iret rfl dX11_parted_48 (Nat.le_of_ble_eq_true rfl) (Nat.le_of_ble_eq_true rfl) (⟨_, rfl, hI, kp0_rf⟩)
        ·
          refine gz_aload dX11_parted_39 rfl ?_
          refine scX11_223 (k_X2_hasChoices hpy hc1y hsy) hpy ⟨(Nat.le_of_ble_eq_true rfl), (Nat.le_of_ble_eq_true rfl)⟩ ⟨(Nat.le_of_ble_eq_true rfl), (Nat.le_of_ble_eq_true rfl)⟩ rfl rfl (Nat.le_of_ble_eq_true rfl) dX11_parted_41 ?_
          intro v9 f9 z9; rw [z9.1, z9.2]
          refine gz_if_eq (tgt := 49) dX11_parted_44 (by decide) (fun c_44 => ?_) (fun c_44 => ?_)
          ·
            refine gz_aload_n dX11_parted_49 rfl rfl ?_
            refine sgX11_94 hxo rfl dX11_parted_50 ?_
            refine gz_aload dX11_parted_53 rfl ?_
            refine gz_iload_n dX11_parted_55 rfl rfl ?_
            refine scX11_226 (k_X10_start (p := p) (nn_ := u) hwo hpa hsc hth HcPa.2.2 HcPa.2.1 (cPa_ne HcPa) (cPa_no HcPa (by intro x0 hx0; simp only [List.mem_cons, List.not_mem_nil, or_false] at hx0; rcases hx0 with e0 | e0; all_goals first | (rw [e0, og_sc]; decide) | (rw [e0, og_th]; decide)))) hwo ⟨(Nat.le_of_ble_eq_true rfl), (Nat.le_of_ble_eq_true rfl)⟩ ⟨(Nat.le_of_ble_eq_true rfl), (Nat.le_of_ble_eq_true rfl)⟩ rfl rfl (Nat.le_of_ble_eq_true rfl) dX11_parted_56 ?_
            rintro f1 ⟨hwo_1, hF1, hr1⟩
            have hD9 : ∀ xx : Nat, xx ∈ [wo, ba, stp, pa, p, c1, c2, py, c1y, c2y] → xx ∉ scL P Q := cPa_no HcPa (by intro x0 hx0; simp only [List.mem_cons, List.not_mem_nil, or_false] at hx0; rcases hx0 with e0 | e0 | e0 | e0 | e0 | e0 | e0 | e0 | e0 | e0; all_goals first | (rw [e0, og_wo]; decide) | (rw [e0, og_ba]; decide) | (rw [e0, og_stp]; decide) | (rw [e0, og_pa]; decide) | (rw [e0, og_p]; omega) | (rw [e0, og_c1]; omega) | (rw [e0, og_c2]; omega) | (rw [e0, og_py]; omega) | (rw [e0, og_c1y]; omega) | (rw [e0, og_c2y]; omega))
            have hxo_1 : f1 xo = some (.inr (11, [.ref ch, .ref tp, .ref ou, .ref fm, .ref dr, .ref dt_, .ref rd, .ref te, .ref la, .ref lg, .ref co, .ref wo, .int fcn])) := hr1 _ _ hxo (by simp only [List.mem_cons, not_or]; exact ⟨(tgn og_xo og_wo (by decide)), (cPa_no HcPa (L := [xo]) (by intro x0 hx0; simp only [List.mem_cons, List.not_mem_nil, or_false] at hx0; rw [hx0, og_xo]; decide) _ (by simp))⟩)
            have hstp_1 : f1 stp = some (.inl (cy 0, 18, .inl (stg))) := hr1 _ _ hstp (by simp only [List.mem_cons, not_or]; exact ⟨(tgn og_stp og_wo (by decide)), (hD9 _ (by simp))⟩)
            have hpa_1 : f1 pa = some (.inl (cy 6, 5, .inr (.inr (.inr (.inr (pg)))))) := hr1 _ _ hpa (by simp only [List.mem_cons, not_or]; exact ⟨(tgn og_pa og_wo (by decide)), (hD9 _ (by simp))⟩)
            have hba_1 : f1 ba = some (.inl (cy 2, 5, .inr (.inl (bag)))) := hr1 _ _ hba (by simp only [List.mem_cons, not_or]; exact ⟨(tgn og_ba og_wo (by decide)), (hD9 _ (by simp))⟩)
            have hp_1 : f1 p = some (.inr (2, [.ref c1, .ref c2, .int s, .int v])) := hr1 _ _ hp (by simp only [List.mem_cons, not_or]; exact ⟨(tgn og_p og_wo (by omega)), (hD9 _ (by simp))⟩)
            have hc1_1 : f1 c1 = some (.inl (cy 0, n1, .inl (g))) := hr1 _ _ hc1 (by simp only [List.mem_cons, not_or]; exact ⟨(tgn og_c1 og_wo (by omega)), (hD9 _ (by simp))⟩)
            have hc2_1 : f1 c2 = some (.inl (cy 0, n2, .inl (h))) := hr1 _ _ hc2 (by simp only [List.mem_cons, not_or]; exact ⟨(tgn og_c2 og_wo (by omega)), (hD9 _ (by simp))⟩)
            have hpy_1 : f1 py = some (.inr (2, [.ref c1y, .ref c2y, .int sy, .int vy])) := hr1 _ _ hpy (by simp only [List.mem_cons, not_or]; exact ⟨(tgn og_py og_wo (by omega)), (hD9 _ (by simp))⟩)
            have hc1y_1 : f1 c1y = some (.inl (cy 0, n1y, .inl (gy))) := hr1 _ _ hc1y (by simp only [List.mem_cons, not_or]; exact ⟨(tgn og_c1y og_wo (by omega)), (hD9 _ (by simp))⟩)
            have hc2y_1 : f1 c2y = some (.inl (cy 0, n2y, .inl (hy))) := hr1 _ _ hc2y (by simp only [List.mem_cons, not_or]; exact ⟨(tgn og_c2y og_wo (by omega)), (hD9 _ (by simp))⟩)
            refine gz_aload_n dX11_parted_59 rfl rfl ?_
            refine sgX11_94 hxo_1 rfl dX11_parted_60 ?_
            refine gz_aload dX11_parted_63 rfl ?_
            refine gz_aload dX11_parted_65 rfl ?_
            refine gz_iconst (v := 0) dX11_parted_67 (by decide) ?_
            refine gz_iconst (v := 0) dX11_parted_68 (by decide) ?_
            refine scX11_230 (k_X10_firstParting hs hv hsy hvy hFI hFIy min4 HcPa.2.1 (cPa_ne HcPa) mcWo.2 hD9 5 0 0 _ _ _ hwo_1 hba_1 hstp_1 hpa_1 hp_1 hc1_1 hc2_1 hpy_1 hc1y_1 hc2y_1 hF1 ⟨by decide, by decide⟩ (by decide)) hwo_1 ⟨(Nat.le_of_ble_eq_true rfl), (Nat.le_of_ble_eq_true rfl)⟩ ⟨(Nat.le_of_ble_eq_true rfl), (Nat.le_of_ble_eq_true rfl)⟩ rfl rfl (Nat.le_of_ble_eq_true rfl) dX11_parted_69 ?_
            rintro r_2 f2 ⟨po2, b2, hwo_2, hba_2, hF2, hr2⟩
            have hK : kp own own (fun k => k = 11000 ∨ k = 11004 ∨ (15000 ≤ k ∧ k < 16000)) f f2 := by
              refine kp_fr (S := wo :: ba :: scL P Q) ((fr_tr (fr_mo hr1 (fun z hz9 => (List.mem_cons.mp hz9).elim (fun e9 => e9 ▸ List.mem_cons_self) (fun e9 => List.mem_cons_of_mem _ (List.mem_cons_of_mem _ e9)))) hr2)) (fun _ _ _ => rfl) ?_
              intro x0 hx0
              rcases List.mem_cons.mp hx0 with e0 | hx0
              · rw [e0]; show (own wo) = 11000 ∨ (own wo) = 11004 ∨ (15000 ≤ (own wo) ∧ (own wo) < 16000); rw [og_wo]; decide
              rcases List.mem_cons.mp hx0 with e0 | hx0
              · rw [e0]; show (own ba) = 11000 ∨ (own ba) = 11004 ∨ (15000 ≤ (own ba) ∧ (own ba) < 16000); rw [og_ba]; decide
              exact Or.inr (Or.inr (cPa_tg HcPa _ hx0))
            exact gz_iret rfl dX11_parted_72 (Nat.le_of_ble_eq_true rfl) (Nat.le_of_ble_eq_true rfl) (⟨_, rfl, ⟨_, _, _, _, _, _, _, _, _, _, _, _, _, _, _, (cXo_kp HcXo hK nt_2018), (kCh_kp HcCh hK nt_2019), (kTp_kp HcTp hK nt_2020), (kOu_kp HcOu hK nt_2021), (cFa_kp HcFa hK nt_2022), (cFm_kp HcFm hK nt_2023), (kDr_kp HcDr hK nt_2024), (kOt_kp HcOt hK nt_2025), (kRt_kp HcRt hK nt_2026), (kLa_kp HcLa hK nt_2027), (kLg_kp HcLg hK nt_2028), (kCo_kp HcCo hK nt_2029), (cLv_kp HcLv hK nt_2030), ⟨_, _, _, _, _, _, _, _, _, _, _, ⟨⟨og_wo, og_we, og_stp, og_pa, og_ba⟩, hwo_2, (hK.2 _ _ hwe (by show ¬ ((own we) = 11000 ∨ (own we) = 11004 ∨ (15000 ≤ (own we) ∧ (own we) < 16000)); rw [og_we]; exact nt_2031 _ ⟨Nat.le_refl _, Nat.lt_succ_self _⟩)), (hK.2 _ _ hstp (by show ¬ ((own stp) = 11000 ∨ (own stp) = 11004 ∨ (15000 ≤ (own stp) ∧ (own stp) < 16000)); rw [og_stp]; exact nt_2032 _ ⟨Nat.le_refl _, Nat.lt_succ_self _⟩)), (hK.2 _ _ hpa (by show ¬ ((own pa) = 11000 ∨ (own pa) = 11004 ∨ (15000 ≤ (own pa) ∧ (own pa) < 16000)); rw [og_pa]; exact nt_2033 _ ⟨Nat.le_refl _, Nat.lt_succ_self _⟩)), hba_2, mcWo⟩, (cPa_F HcPa hK hF2)⟩, HcFn, HcLn⟩, (kp_0 hK (nt_2034 0 ⟨Nat.le_refl _, Nat.lt_succ_self _⟩))⟩)
          ·
            refine gz_iconst (v := (-1)) dX11_parted_47 (by decide) ?_
            exact gz_iret rfl dX11_parted_48 (Nat.le_of_ble_eq_true rfl) (Nat.le_of_ble_eq_true rfl) (⟨_, rfl, hI, kp0_rf⟩)
