theorem fr_none {S : List Nat} {f g : gMem} {q : Nat} (h : fr S f g) (hS : ∀ x, x ∈ S → ∃ e, g x = some e) (hq : g q = none) : f q = none := by
  cases hf : f q with
  | none => rfl
  | some e =>
    by_cases hm : q ∈ S
    · obtain ⟨e2, h2⟩ := hS q hm
      rw [hq] at h2; cases h2
    · have := h q e hf hm
      rw [hq] at this; cases this
theorem fI_cg {g g2 : Nat → Int32} {m : Int} (h0 : 0 ≤ m) (h : ∀ j : Nat, j < 13 * m.toNat → g2 j = g j) (hI : fI g m) : fI g2 m := by
  intro i hi
  rw [h (13 * i + 3) (by omega), h (13 * i + 4) (by omega)]
  exact hI i hi
theorem cFn_up {fcn fcn2 : Int32} {fmg : Nat → Option Nat} {q : Nat} (h0 : 0 ≤ fcn.toInt) (h1 : fcn2.toInt = fcn.toInt + 1) (h : cFn fcn fmg) : cFn fcn2 (va_up fmg (Int32.toNatClampNeg fcn) (some q)) := by
  intro i hi hx
  rw [va_up_ne _ _ (by unfold Int32.toNatClampNeg; omega)]
  exact h i hi (by omega)
theorem cFn_lv {fcn : Int32} {fmg : Nat → Option Nat} {q : Nat} (h0 : 0 ≤ fcn.toInt) (h : cFn fcn fmg) : ∀ j p, j < 20 → fmg j = some p → va_up fmg (Int32.toNatClampNeg fcn) (some q) j = some p := by
  intro j p hj hp
  by_cases e : j = Int32.toNatClampNeg fcn
  · exfalso
    have := h j hj (by rw [e]; unfold Int32.toNatClampNeg; omega)
    rw [hp] at this; cases this
  · rw [va_up_ne _ _ e]; exact hp
theorem clampB {x : Int32} {k : Nat} (h0 : 0 ≤ x.toInt) (h : x.toInt < k) : Int32.toNatClampNeg x < k := by
  unfold Int32.toNatClampNeg; omega

set_option maxHeartbeats 4000000 in
set_option maxRecDepth 100000 in
theorem k_X1_size {l : Launch} {D : va_G} {cy : Nat → ClassId} {b : Nat} {f : gMem} {co lv sc lg : Nat} {csz : Int32} (hco : f co = some (.inr (1, [.ref lv, .ref sc, .ref lg, .int csz])))  : gC l D cy b yX1_size cX1_size 1 (some .int) 0 0 0 [.ref co] f (pI fun r f2 => r = csz ∧ f2 = f) := by
  refine gC_of (by decide) (Nat.le_of_ble_eq_true rfl) ?_
  show gG l _ _ _ D cy b cX1_size 1 _ RX1 "size" 0 0 f 0 [(0, .ref co)] []
  refine gz_aload_n dX1_size_0 rfl rfl ?_
  refine sgX1_25 hco rfl dX1_size_1 ?_
  exact gz_iret rfl dX1_size_4 (Nat.le_of_ble_eq_true rfl) (Nat.le_of_ble_eq_true rfl) (⟨_, rfl, rfl, rfl⟩)

set_option maxHeartbeats 4000000 in
set_option maxRecDepth 100000 in
theorem i_X11_stands {l : Launch} {D : va_G} {cy : Nat → ClassId} {b : Nat} {f : gMem} {own : Nat → Nat} {xo : Nat} {da : Int32} {fcn : Int32} {csz : Int32} {sz : Int32} {len : Int32} {ln : Int32} {wz : Int32} {lo : Int32} {tg : Nat → Int32} {weg : Nat → Int32} {stg : Nat → Int32} {ne : Nat} {x : Int32} (hI : xI cy own xo da fcn csz sz len ln wz lo tg weg stg ne f)  : gC l D cy b yX11_stands cX11_stands 3 (some .int) 1 0 0 [.ref xo, .int x] f (pI fun r f2 => xI cy own xo da fcn csz sz len ln wz lo tg weg stg ne f2 ∧ kp0 own own f f2) := by
  obtain ⟨ch, sc, tp, ou, fm, dr, dt_, rd, te, la, lg, co, wo, fmg, lvg, HcXo, HcCh, HcTp, HcOu, HcFa, HcFm, HcDr, HcOt, HcRt, HcLa, HcLg, HcCo, HcLv, HcWo, HcFn⟩ := id hI
  obtain ⟨og_xo, hxo, mcXo⟩ := id HcXo
  obtain ⟨lv, ⟨og_co, og_lv⟩, hco, hlv, mcCo⟩ := id HcCo
  refine gC_of (by decide) (Nat.le_of_ble_eq_true rfl) ?_
  show gG l _ _ _ D cy b cX11_stands 3 _ RX11 "stands" 0 0 f 0 [(0, .ref xo), (1, .int x)] []
  refine gz_aload_n dX11_stands_0 rfl rfl ?_
  refine sgX11_85 hxo rfl dX11_stands_1 ?_
  refine gz_iload_n dX11_stands_4 rfl rfl ?_
  refine scX11_162 (k_X1_lifeAt (nb := x) hco hlv) hco ⟨(Nat.le_of_ble_eq_true rfl), (Nat.le_of_ble_eq_true rfl)⟩ ⟨(Nat.le_of_ble_eq_true rfl), (Nat.le_of_ble_eq_true rfl)⟩ rfl rfl (Nat.le_of_ble_eq_true rfl) dX11_stands_5 ?_
  rintro u9 f9 ⟨z9, y9⟩; rw [z9, y9]
  cases hA1 : lifeF csz lvg x with
  | none =>
    refine gz_ev (w := .null) rfl ?_
    refine gz_astore_nN (lv' := [(2, .null), (0, .ref xo), (1, .int x)]) dX11_stands_8 rfl (by decide) rfl ?_
    refine gz_aload_nN dX11_stands_9 rfl rfl ?_
    refine gz_ifnonnullN dX11_stands_10 ?_
    refine gz_iconst (v := (-1)) dX11_stands_13 (by decide) ?_
    refine gz_goto (tgt := 21) dX11_stands_14 (by decide) ?_
    exact gz_iret rfl dX11_stands_21 (Nat.le_of_ble_eq_true rfl) (Nat.le_of_ble_eq_true rfl) (⟨_, rfl, hI, kp0_rf⟩)
  | some lf =>
    refine gz_ev (w := .ref lf) rfl ?_
    have hilf := (lifeF_some hA1).1
    have hjlf := (lifeF_some hA1).2
    obtain ⟨p, so, fc, jf, nu, ho1, ho2, fs_, ga, sg, fg, hLf, hjf, hjp⟩ := HcLv _ _ hilf hjlf
    obtain ⟨⟨og_lf, og_so, og_fc⟩, hlf, hso, hfc⟩ := id hLf
    obtain ⟨c1, c2, n1, n2, s, v, g, h, ⟨og_p, og_c1, og_c2⟩, hp, hc1, hc2, hs, hv, hFI⟩ := HcFm _ _ hjf hjp
    refine gz_astore_n (lv' := [(2, .ref lf), (0, .ref xo), (1, .int x)]) dX11_stands_8 rfl (by decide) rfl ?_
    refine gz_aload_n dX11_stands_9 rfl rfl ?_
    refine gz_ifnonnull (tgt := 17) dX11_stands_10 (by decide) ?_
    refine gz_aload_n dX11_stands_17 rfl rfl ?_
    refine scX11_170 (k_X5_size hlf) hlf ⟨(Nat.le_of_ble_eq_true rfl), (Nat.le_of_ble_eq_true rfl)⟩ ⟨(Nat.le_of_ble_eq_true rfl), (Nat.le_of_ble_eq_true rfl)⟩ rfl rfl (Nat.le_of_ble_eq_true rfl) dX11_stands_18 ?_
    intro v9 f9 z9; rw [z9.1, z9.2]
    exact gz_iret rfl dX11_stands_21 (Nat.le_of_ble_eq_true rfl) (Nat.le_of_ble_eq_true rfl) (⟨_, rfl, hI, kp0_rf⟩)

set_option maxHeartbeats 4000000 in
set_option maxRecDepth 100000 in
theorem i_X11_standing {l : Launch} {D : va_G} {cy : Nat → ClassId} {b : Nat} {f : gMem} {own : Nat → Nat} {xo : Nat} {da : Int32} {fcn : Int32} {csz : Int32} {sz : Int32} {len : Int32} {ln : Int32} {wz : Int32} {lo : Int32} {tg : Nat → Int32} {weg : Nat → Int32} {stg : Nat → Int32} {ne : Nat} {x y u : Int32} (hI : xI cy own xo da fcn csz sz len ln wz lo tg weg stg ne f)  : gC l D cy b yX11_standing cX11_standing 5 (some .int) 4 0 0 [.ref xo, .int x, .int y, .int u] f (pI fun r f2 => xI cy own xo da fcn csz sz len ln wz lo tg weg stg ne f2 ∧ kp0 own own f f2) := by
  obtain ⟨ch, sc, tp, ou, fm, dr, dt_, rd, te, la, lg, co, wo, fmg, lvg, HcXo, HcCh, HcTp, HcOu, HcFa, HcFm, HcDr, HcOt, HcRt, HcLa, HcLg, HcCo, HcLv, HcWo, HcFn⟩ := id hI
  obtain ⟨og_xo, hxo, mcXo⟩ := id HcXo
  obtain ⟨lv, ⟨og_co, og_lv⟩, hco, hlv, mcCo⟩ := id HcCo
  obtain ⟨tl, th, t, ⟨og_ch, og_tl, og_sc, og_th⟩, hch, htl, hsc, hth, mcCh⟩ := id HcCh
  refine gC_of (by decide) (Nat.le_of_ble_eq_true rfl) ?_
  show gG l _ _ _ D cy b cX11_standing 5 _ RX11 "standing" 0 0 f 0 [(0, .ref xo), (1, .int x), (2, .int y), (3, .int u)] []
  refine gz_aload_n dX11_standing_0 rfl rfl ?_
  refine sgX11_85 hxo rfl dX11_standing_1 ?_
  refine gz_iload_n dX11_standing_4 rfl rfl ?_
  refine scX11_162 (k_X1_lifeAt (nb := x) hco hlv) hco ⟨(Nat.le_of_ble_eq_true rfl), (Nat.le_of_ble_eq_true rfl)⟩ ⟨(Nat.le_of_ble_eq_true rfl), (Nat.le_of_ble_eq_true rfl)⟩ rfl rfl (Nat.le_of_ble_eq_true rfl) dX11_standing_5 ?_
  rintro u9 f9 ⟨z9, y9⟩; rw [z9, y9]
  cases hA1 : lifeF csz lvg x with
  | none =>
    refine gz_ev (w := .null) rfl ?_
    refine gz_astoreN (lv' := [(4, .null), (0, .ref xo), (1, .int x), (2, .int y), (3, .int u)]) dX11_standing_8 (by decide) rfl ?_
    refine gz_aloadN dX11_standing_10 rfl ?_
    refine gz_ifnonnullN dX11_standing_12 ?_
    refine gz_iconst (v := (-1)) dX11_standing_15 (by decide) ?_
    refine gz_goto (tgt := 33) dX11_standing_16 (by decide) ?_
    exact gz_iret rfl dX11_standing_33 (Nat.le_of_ble_eq_true rfl) (Nat.le_of_ble_eq_true rfl) (⟨_, rfl, hI, kp0_rf⟩)
  | some lf =>
    refine gz_ev (w := .ref lf) rfl ?_
    have hilf := (lifeF_some hA1).1
    have hjlf := (lifeF_some hA1).2
    obtain ⟨p, so, fc, jf, nu, ho1, ho2, fs_, ga, sg, fg, hLf, hjf, hjp⟩ := HcLv _ _ hilf hjlf
    obtain ⟨⟨og_lf, og_so, og_fc⟩, hlf, hso, hfc⟩ := id hLf
    obtain ⟨c1, c2, n1, n2, s, v, g, h, ⟨og_p, og_c1, og_c2⟩, hp, hc1, hc2, hs, hv, hFI⟩ := HcFm _ _ hjf hjp
    refine gz_astore (lv' := [(4, .ref lf), (0, .ref xo), (1, .int x), (2, .int y), (3, .int u)]) dX11_standing_8 (by decide) rfl ?_
    refine gz_aload dX11_standing_10 rfl ?_
    refine gz_ifnonnull (tgt := 19) dX11_standing_12 (by decide) ?_
    refine gz_aload dX11_standing_19 rfl ?_
    refine gz_iload_n dX11_standing_21 rfl rfl ?_
    refine gz_iload_n dX11_standing_22 rfl rfl ?_
    refine gz_aload_n dX11_standing_23 rfl rfl ?_
    refine sgX11_12 hxo rfl dX11_standing_24 ?_
    refine sgX11_78 hch rfl dX11_standing_27 ?_
    refine scX11_173 (k_X5_about (k := y) (wh := u) hlf hso hfc hp hc1 hc2 hsc hth hs hv) hlf ⟨(Nat.le_of_ble_eq_true rfl), (Nat.le_of_ble_eq_true rfl)⟩ ⟨(Nat.le_of_ble_eq_true rfl), (Nat.le_of_ble_eq_true rfl)⟩ rfl rfl (Nat.le_of_ble_eq_true rfl) dX11_standing_30 ?_
    intro v9 f9 z9; rw [z9.1, z9.2]
    exact gz_iret rfl dX11_standing_33 (Nat.le_of_ble_eq_true rfl) (Nat.le_of_ble_eq_true rfl) (⟨_, rfl, hI, kp0_rf⟩)

set_option maxHeartbeats 4000000 in
set_option maxRecDepth 100000 in
theorem i_X11_got {l : Launch} {D : va_G} {cy : Nat → ClassId} {b : Nat} {f : gMem} {own : Nat → Nat} {xo : Nat} {da : Int32} {fcn : Int32} {csz : Int32} {sz : Int32} {len : Int32} {ln : Int32} {wz : Int32} {lo : Int32} {tg : Nat → Int32} {weg : Nat → Int32} {stg : Nat → Int32} {ne : Nat} {x : Int32} (hI : xI cy own xo da fcn csz sz len ln wz lo tg weg stg ne f)  : gC l D cy b yX11_got cX11_got 3 (some .long) 1 0 0 [.ref xo, .int x] f (pL fun r f2 => xI cy own xo da fcn csz sz len ln wz lo tg weg stg ne f2 ∧ kp0 own own f f2) := by
  obtain ⟨ch, sc, tp, ou, fm, dr, dt_, rd, te, la, lg, co, wo, fmg, lvg, HcXo, HcCh, HcTp, HcOu, HcFa, HcFm, HcDr, HcOt, HcRt, HcLa, HcLg, HcCo, HcLv, HcWo, HcFn⟩ := id hI
  obtain ⟨og_xo, hxo, mcXo⟩ := id HcXo
  obtain ⟨lv, ⟨og_co, og_lv⟩, hco, hlv, mcCo⟩ := id HcCo
  refine gC_of (by decide) (Nat.le_of_ble_eq_true rfl) ?_
  show gG l _ _ _ D cy b cX11_got 3 _ RX11 "got" 0 0 f 0 [(0, .ref xo), (1, .int x)] []
  refine gz_aload_n dX11_got_0 rfl rfl ?_
  refine sgX11_85 hxo rfl dX11_got_1 ?_
  refine gz_iload_n dX11_got_4 rfl rfl ?_
  refine scX11_162 (k_X1_lifeAt (nb := x) hco hlv) hco ⟨(Nat.le_of_ble_eq_true rfl), (Nat.le_of_ble_eq_true rfl)⟩ ⟨(Nat.le_of_ble_eq_true rfl), (Nat.le_of_ble_eq_true rfl)⟩ rfl rfl (Nat.le_of_ble_eq_true rfl) dX11_got_5 ?_
  rintro u9 f9 ⟨z9, y9⟩; rw [z9, y9]
  cases hA1 : lifeF csz lvg x with
  | none =>
    refine gz_ev (w := .null) rfl ?_
    refine gz_astore_nN (lv' := [(2, .null), (0, .ref xo), (1, .int x)]) dX11_got_8 rfl (by decide) rfl ?_
    refine gz_aload_nN dX11_got_9 rfl rfl ?_
    refine gz_ifnonnullN dX11_got_10 ?_
    refine gz_lconst (v := 0) dX11_got_13 (by decide) ?_
    refine gz_goto (tgt := 21) dX11_got_14 (by decide) ?_
    exact gz_lret rfl dX11_got_21 (Nat.le_of_ble_eq_true rfl) (Nat.le_of_ble_eq_true rfl) (⟨_, rfl, hI, kp0_rf⟩)
  | some lf =>
    refine gz_ev (w := .ref lf) rfl ?_
    have hilf := (lifeF_some hA1).1
    have hjlf := (lifeF_some hA1).2
    obtain ⟨p, so, fc, jf, nu, ho1, ho2, fs_, ga, sg, fg, hLf, hjf, hjp⟩ := HcLv _ _ hilf hjlf
    obtain ⟨⟨og_lf, og_so, og_fc⟩, hlf, hso, hfc⟩ := id hLf
    obtain ⟨c1, c2, n1, n2, s, v, g, h, ⟨og_p, og_c1, og_c2⟩, hp, hc1, hc2, hs, hv, hFI⟩ := HcFm _ _ hjf hjp
    refine gz_astore_n (lv' := [(2, .ref lf), (0, .ref xo), (1, .int x)]) dX11_got_8 rfl (by decide) rfl ?_
    refine gz_aload_n dX11_got_9 rfl rfl ?_
    refine gz_ifnonnull (tgt := 17) dX11_got_10 (by decide) ?_
    refine gz_aload_n dX11_got_17 rfl rfl ?_
    refine sgX11_185 hlf rfl dX11_got_18 ?_
    exact gz_lret rfl dX11_got_21 (Nat.le_of_ble_eq_true rfl) (Nat.le_of_ble_eq_true rfl) (⟨_, rfl, hI, kp0_rf⟩)

set_option maxHeartbeats 4000000 in
set_option maxRecDepth 100000 in
theorem i_X11_count {l : Launch} {D : va_G} {cy : Nat → ClassId} {b : Nat} {f : gMem} {own : Nat → Nat} {xo : Nat} {da : Int32} {fcn : Int32} {csz : Int32} {sz : Int32} {len : Int32} {ln : Int32} {wz : Int32} {lo : Int32} {tg : Nat → Int32} {weg : Nat → Int32} {stg : Nat → Int32} {ne : Nat} {x : Int32} (hI : xI cy own xo da fcn csz sz len ln wz lo tg weg stg ne f)  : gC l D cy b yX11_count cX11_count 2 (some .int) 1 0 0 [.ref xo, .int x] f (pI fun r f2 => xI cy own xo da fcn csz sz len ln wz lo tg weg stg ne f2 ∧ kp0 own own f f2) := by
  obtain ⟨ch, sc, tp, ou, fm, dr, dt_, rd, te, la, lg, co, wo, fmg, lvg, HcXo, HcCh, HcTp, HcOu, HcFa, HcFm, HcDr, HcOt, HcRt, HcLa, HcLg, HcCo, HcLv, HcWo, HcFn⟩ := id hI
  obtain ⟨og_xo, hxo, mcXo⟩ := id HcXo
  obtain ⟨tl, th, t, ⟨og_ch, og_tl, og_sc, og_th⟩, hch, htl, hsc, hth, mcCh⟩ := id HcCh
  obtain ⟨lv, ⟨og_co, og_lv⟩, hco, hlv, mcCo⟩ := id HcCo
  obtain ⟨en, ge, re, gv, tk, am, gi, eg, gvg, tkg, geg, reg, amg, ⟨og_lg, og_en, og_ge, og_re, og_gv, og_tk, og_am⟩, hlg, hen, hge, hre, hgv, htk, ham, mcLg⟩ := id HcLg
  obtain ⟨tb, tg2, ⟨og_tp, og_tb⟩, htp, htb⟩ := id HcTp
  obtain ⟨ob, og, ⟨og_ou, og_ob⟩, hou, hob⟩ := id HcOu
  obtain ⟨we, stp, pa, ba, po, ah, gl, bag, pg, P, Q, ⟨⟨og_wo, og_we, og_stp, og_pa, og_ba⟩, hwo, hwe, hstp, hpa, hba, mcWo⟩, HcPa⟩ := id HcWo
  refine gC_of (by decide) (Nat.le_of_ble_eq_true rfl) ?_
  show gG l _ _ _ D cy b cX11_count 2 _ RX11 "count" 0 0 f 0 [(0, .ref xo), (1, .int x)] []
  refine gz_iload_n dX11_count_0 rfl rfl ?_
  by_cases hsw : x.toInt < 0 ∨ 7 < x.toInt
  ·
    refine gz_tableOut (tgt := 112) dX11_count_1 hsw (by decide) ?_
    refine gz_iconst (v := (-1)) dX11_count_112 (by decide) ?_
    exact gz_iret rfl dX11_count_113 (Nat.le_of_ble_eq_true rfl) (Nat.le_of_ble_eq_true rfl) (⟨_, rfl, hI, kp0_rf⟩)
  · rcases sw7 hsw with rfl | rfl | rfl | rfl | rfl | rfl | rfl | rfl
    ·
      refine gz_tableIn (off := 47) (tgt := 48) dX11_count_1 (by decide) (by decide) rfl (by decide) ?_
      refine gz_aload_n dX11_count_48 rfl rfl ?_
      refine sgX11_12 hxo rfl dX11_count_49 ?_
      refine sgX11_78 hch rfl dX11_count_52 ?_
      refine sgX11_234 hsc rfl dX11_count_55 ?_
      exact gz_iret rfl dX11_count_58 (Nat.le_of_ble_eq_true rfl) (Nat.le_of_ble_eq_true rfl) (⟨_, rfl, hI, kp0_rf⟩)
    ·
      refine gz_tableIn (off := 58) (tgt := 59) dX11_count_1 (by decide) (by decide) rfl (by decide) ?_
      refine gz_aload_n dX11_count_59 rfl rfl ?_
      refine sgX11_116 hxo rfl dX11_count_60 ?_
      exact gz_iret rfl dX11_count_63 (Nat.le_of_ble_eq_true rfl) (Nat.le_of_ble_eq_true rfl) (⟨_, rfl, hI, kp0_rf⟩)
    ·
      refine gz_tableIn (off := 63) (tgt := 64) dX11_count_1 (by decide) (by decide) rfl (by decide) ?_
      refine gz_aload_n dX11_count_64 rfl rfl ?_
      refine sgX11_85 hxo rfl dX11_count_65 ?_
      refine scX11_239 (k_X1_size hco) hco ⟨(Nat.le_of_ble_eq_true rfl), (Nat.le_of_ble_eq_true rfl)⟩ ⟨(Nat.le_of_ble_eq_true rfl), (Nat.le_of_ble_eq_true rfl)⟩ rfl rfl (Nat.le_of_ble_eq_true rfl) dX11_count_68 ?_
      intro v9 f9 z9; rw [z9.1, z9.2]
      exact gz_iret rfl dX11_count_71 (Nat.le_of_ble_eq_true rfl) (Nat.le_of_ble_eq_true rfl) (⟨_, rfl, hI, kp0_rf⟩)
    ·
      refine gz_tableIn (off := 71) (tgt := 72) dX11_count_1 (by decide) (by decide) rfl (by decide) ?_
      refine gz_aload_n dX11_count_72 rfl rfl ?_
      refine sgX11_72 hxo rfl dX11_count_73 ?_
      refine scX11_161 (k_X4_size hlg) hlg ⟨(Nat.le_of_ble_eq_true rfl), (Nat.le_of_ble_eq_true rfl)⟩ ⟨(Nat.le_of_ble_eq_true rfl), (Nat.le_of_ble_eq_true rfl)⟩ rfl rfl (Nat.le_of_ble_eq_true rfl) dX11_count_76 ?_
      intro v9 f9 z9; rw [z9.1, z9.2]
      exact gz_iret rfl dX11_count_79 (Nat.le_of_ble_eq_true rfl) (Nat.le_of_ble_eq_true rfl) (⟨_, rfl, hI, kp0_rf⟩)
    ·
      refine gz_tableIn (off := 79) (tgt := 80) dX11_count_1 (by decide) (by decide) rfl (by decide) ?_
      refine gz_aload_n dX11_count_80 rfl rfl ?_
      refine sgX11_21 hxo rfl dX11_count_81 ?_
      refine scX11_106 (k_X9_size htp) htp ⟨(Nat.le_of_ble_eq_true rfl), (Nat.le_of_ble_eq_true rfl)⟩ ⟨(Nat.le_of_ble_eq_true rfl), (Nat.le_of_ble_eq_true rfl)⟩ rfl rfl (Nat.le_of_ble_eq_true rfl) dX11_count_84 ?_
      intro v9 f9 z9; rw [z9.1, z9.2]
      exact gz_iret rfl dX11_count_87 (Nat.le_of_ble_eq_true rfl) (Nat.le_of_ble_eq_true rfl) (⟨_, rfl, hI, kp0_rf⟩)
    ·
      refine gz_tableIn (off := 87) (tgt := 88) dX11_count_1 (by decide) (by decide) rfl (by decide) ?_
      refine gz_aload_n dX11_count_88 rfl rfl ?_
      refine sgX11_25 hxo rfl dX11_count_89 ?_
      refine scX11_106 (k_X9_size hou) hou ⟨(Nat.le_of_ble_eq_true rfl), (Nat.le_of_ble_eq_true rfl)⟩ ⟨(Nat.le_of_ble_eq_true rfl), (Nat.le_of_ble_eq_true rfl)⟩ rfl rfl (Nat.le_of_ble_eq_true rfl) dX11_count_92 ?_
      intro v9 f9 z9; rw [z9.1, z9.2]
      exact gz_iret rfl dX11_count_95 (Nat.le_of_ble_eq_true rfl) (Nat.le_of_ble_eq_true rfl) (⟨_, rfl, hI, kp0_rf⟩)
    ·
      refine gz_tableIn (off := 95) (tgt := 96) dX11_count_1 (by decide) (by decide) rfl (by decide) ?_
      refine gz_aload_n dX11_count_96 rfl rfl ?_
      refine sgX11_94 hxo rfl dX11_count_97 ?_
      refine scX11_240 (k_X10_size hwo) hwo ⟨(Nat.le_of_ble_eq_true rfl), (Nat.le_of_ble_eq_true rfl)⟩ ⟨(Nat.le_of_ble_eq_true rfl), (Nat.le_of_ble_eq_true rfl)⟩ rfl rfl (Nat.le_of_ble_eq_true rfl) dX11_count_100 ?_
      intro v9 f9 z9; rw [z9.1, z9.2]
      exact gz_iret rfl dX11_count_103 (Nat.le_of_ble_eq_true rfl) (Nat.le_of_ble_eq_true rfl) (⟨_, rfl, hI, kp0_rf⟩)
    ·
      refine gz_tableIn (off := 103) (tgt := 104) dX11_count_1 (by decide) (by decide) rfl (by decide) ?_
      refine gz_aload_n dX11_count_104 rfl rfl ?_
      refine sgX11_72 hxo rfl dX11_count_105 ?_
      refine sgX11_241 hlg rfl dX11_count_108 ?_
      exact gz_iret rfl dX11_count_111 (Nat.le_of_ble_eq_true rfl) (Nat.le_of_ble_eq_true rfl) (⟨_, rfl, hI, kp0_rf⟩)
