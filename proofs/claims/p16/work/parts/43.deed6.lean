theorem fr_none {S : List Nat} {f g : gMem} {q : Nat} (h : fr S f g) (hS : ∀ x, x ∈ S → ∃ e, g x = some e) (hq : g q = none) : f q = none := by
  cases hf : f q with
  | none => rfl
  | some e =>
    by_cases hm : q ∈ S
    · obtain ⟨e2, h2⟩ := hS q hm
      rw [hq] at h2; cases h2
    · have := h q e hf hm
      rw [hq] at this; cases this
theorem fI_cg {g g2 : Nat → Int32} {m : Int} (h0 : 0 ≤ m) (h : ∀ j : Nat, j < 13 * m.toNat → g2 j = g j) (hI : fI g m) : fI g2 m := by
  intro i hi
  rw [h (13 * i + 3) (by omega), h (13 * i + 4) (by omega)]
  exact hI i hi
theorem cFn_up {fcn fcn2 : Int32} {fmg : Nat → Option Nat} {q : Nat} (h0 : 0 ≤ fcn.toInt) (h1 : fcn2.toInt = fcn.toInt + 1) (h : cFn fcn fmg) : cFn fcn2 (va_up fmg (Int32.toNatClampNeg fcn) (some q)) := by
  refine ⟨fun i hi hx => ?_, fun i hi => ?_⟩
  · rw [va_up_ne _ _ (by unfold Int32.toNatClampNeg; omega)]
    exact h.1 i hi (by omega)
  · by_cases e : i = Int32.toNatClampNeg fcn
    · rw [e, va_up_self]; exact ⟨q, rfl⟩
    · rw [va_up_ne _ _ e]
      exact h.2 i (by have z : Int32.toNatClampNeg fcn = fcn.toInt.toNat := rfl; omega)
theorem cFn_lv {fcn : Int32} {fmg : Nat → Option Nat} {q : Nat} (h0 : 0 ≤ fcn.toInt) (h : cFn fcn fmg) : ∀ j p, j < 20 → fmg j = some p → va_up fmg (Int32.toNatClampNeg fcn) (some q) j = some p := by
  intro j p hj hp
  by_cases e : j = Int32.toNatClampNeg fcn
  · exfalso
    have := h.1 j hj (by rw [e]; unfold Int32.toNatClampNeg; omega)
    rw [hp] at this; cases this
  · rw [va_up_ne _ _ e]; exact hp
theorem clampB {x : Int32} {k : Nat} (h0 : 0 ≤ x.toInt) (h : x.toInt < k) : Int32.toNatClampNeg x < k := by
  unfold Int32.toNatClampNeg; omega

set_option maxHeartbeats 4000000 in
set_option maxRecDepth 100000 in
theorem k_X1_size {l : Launch} {D : va_G} {cy : Nat → ClassId} {b : Nat} {f : gMem} {co lv sc lg : Nat} {csz : Int32} (hco : f co = some (.inr (1, [.ref lv, .ref sc, .ref lg, .int csz])))  : gC l D cy b yX1_size cX1_size 1 (some .int) 0 0 0 [.ref co] f (pI fun r f2 => r = csz ∧ f2 = f) := by
  refine gC_of (by decide) (Nat.le_of_ble_eq_true rfl) ?_
  show gG l _ _ _ D cy b cX1_size 1 _ RX1 "size" 0 0 f 0 [(0, .ref co)] []
  refine gz_aload_n dX1_size_0 rfl rfl ?_
  refine sgX1_25 hco rfl dX1_size_1 ?_
  exact gz_iret rfl dX1_size_4 (Nat.le_of_ble_eq_true rfl) (Nat.le_of_ble_eq_true rfl) (⟨_, rfl, rfl, rfl⟩)

set_option maxHeartbeats 4000000 in
set_option maxRecDepth 100000 in
theorem i_X11_stands {l : Launch} {D : va_G} {cy : Nat → ClassId} {b : Nat} {f : gMem} {own : Nat → Nat} {xo : Nat} {da : Int32} {fcn : Int32} {csz : Int32} {sz : Int32} {len : Int32} {ln : Int32} {wz : Int32} {lo : Int32} {tg : Nat → Int32} {weg : Nat → Int32} {stg : Nat → Int32} {tpg : Nat → Int32} {CN : Nat → Int32 → Int32 → (Nat → Int32) → (Nat → Int32) → Prop} {eg : Nat → Int32} {thg : Nat → Int32} {LN : Nat → Nat → Int32 → Int32 → Int32 → Int32 → Int64 → (Nat → Int32) → (Nat → Int32) → Prop} {ne : Nat} {x : Int32} (hI : xI cy own xo da fcn csz sz len ln wz lo tg weg stg tpg CN eg thg LN ne f)  : gC l D cy b yX11_stands cX11_stands 3 (some .int) 1 0 0 [.ref xo, .int x] f (pI fun r f2 => xI cy own xo da fcn csz sz len ln wz lo tg weg stg tpg CN eg thg LN ne f2 ∧ kp0 own own f f2) := by
  obtain ⟨ch, sc, tp, ou, fm, dr, dt_, rd, te, la, lg, co, wo, fmg, lvg, HcXo, HcCh, HcTp, HcOu, HcFa, HcFm, HcDr, HcOt, HcRt, HcLa, HcLg, HcCo, HcLv, HcWo, HcFn, HcLn⟩ := id hI
  obtain ⟨og_xo, hxo, mcXo⟩ := id HcXo
  obtain ⟨lv, ⟨og_co, og_lv⟩, hco, hlv, mcCo⟩ := id HcCo
  refine gC_of (by decide) (Nat.le_of_ble_eq_true rfl) ?_
  show gG l _ _ _ D cy b cX11_stands 3 _ RX11 "stands" 0 0 f 0 [(0, .ref xo), (1, .int x)] []
  refine gz_aload_n dX11_stands_0 rfl rfl ?_
  refine sgX11_85 hxo rfl dX11_stands_1 ?_
  refine gz_iload_n dX11_stands_4 rfl rfl ?_
  refine scX11_162 (k_X1_lifeAt (nb := x) hco hlv) hco ⟨(Nat.le_of_ble_eq_true rfl), (Nat.le_of_ble_eq_true rfl)⟩ ⟨(Nat.le_of_ble_eq_true rfl), (Nat.le_of_ble_eq_true rfl)⟩ rfl rfl (Nat.le_of_ble_eq_true rfl) dX11_stands_5 ?_
  rintro u9 f9 ⟨z9, y9⟩; rw [z9, y9]
  cases hA1 : lifeF csz lvg x with
  | none =>
    refine gz_ev (w := .null) rfl ?_
    refine gz_astore_nN (lv' := [(2, .null), (0, .ref xo), (1, .int x)]) dX11_stands_8 rfl (by decide) rfl ?_
    refine gz_aload_nN dX11_stands_9 rfl rfl ?_
    refine gz_ifnonnullN dX11_stands_10 ?_
    refine gz_iconst (v := (-1)) dX11_stands_13 (by decide) ?_
    refine gz_goto (tgt := 21) dX11_stands_14 (by decide) ?_
    exact gz_iret rfl dX11_stands_21 (Nat.le_of_ble_eq_true rfl) (Nat.le_of_ble_eq_true rfl) (⟨_, rfl, hI, kp0_rf⟩)
  | some lf =>
    refine gz_ev (w := .ref lf) rfl ?_
    have hilf := (lifeF_some hA1).1
    have hjlf := (lifeF_some hA1).2
    obtain ⟨p, so, fc, jf, nu, ho1, ho2, fs_, ga, sg, fg, hLf, hjf, hjp, hLN⟩ := HcLv _ _ hilf hjlf
    obtain ⟨⟨og_lf, og_so, og_fc⟩, hlf, hso, hfc⟩ := id hLf
    obtain ⟨c1, c2, n1, n2, s, v, g, h, ⟨⟨og_p, og_c1, og_c2⟩, hp, hc1, hc2, hs, hv, hFI⟩, hCN⟩ := HcFm _ _ hjf hjp
    refine gz_astore_n (lv' := [(2, .ref lf), (0, .ref xo), (1, .int x)]) dX11_stands_8 rfl (by decide) rfl ?_
    refine gz_aload_n dX11_stands_9 rfl rfl ?_
    refine gz_ifnonnull (tgt := 17) dX11_stands_10 (by decide) ?_
    refine gz_aload_n dX11_stands_17 rfl rfl ?_
    refine scX11_170 (k_X5_size hlf) hlf ⟨(Nat.le_of_ble_eq_true rfl), (Nat.le_of_ble_eq_true rfl)⟩ ⟨(Nat.le_of_ble_eq_true rfl), (Nat.le_of_ble_eq_true rfl)⟩ rfl rfl (Nat.le_of_ble_eq_true rfl) dX11_stands_18 ?_
    intro v9 f9 z9; rw [z9.1, z9.2]
    exact gz_iret rfl dX11_stands_21 (Nat.le_of_ble_eq_true rfl) (Nat.le_of_ble_eq_true rfl) (⟨_, rfl, hI, kp0_rf⟩)

set_option maxHeartbeats 4000000 in
set_option maxRecDepth 100000 in
theorem i_X11_standing {l : Launch} {D : va_G} {cy : Nat → ClassId} {b : Nat} {f : gMem} {own : Nat → Nat} {xo : Nat} {da : Int32} {fcn : Int32} {csz : Int32} {sz : Int32} {len : Int32} {ln : Int32} {wz : Int32} {lo : Int32} {tg : Nat → Int32} {weg : Nat → Int32} {stg : Nat → Int32} {tpg : Nat → Int32} {CN : Nat → Int32 → Int32 → (Nat → Int32) → (Nat → Int32) → Prop} {eg : Nat → Int32} {thg : Nat → Int32} {LN : Nat → Nat → Int32 → Int32 → Int32 → Int32 → Int64 → (Nat → Int32) → (Nat → Int32) → Prop} {ne : Nat} {x y u : Int32} (hI : xI cy own xo da fcn csz sz len ln wz lo tg weg stg tpg CN eg thg LN ne f)  : gC l D cy b yX11_standing cX11_standing 5 (some .int) 4 0 0 [.ref xo, .int x, .int y, .int u] f (pI fun r f2 => xI cy own xo da fcn csz sz len ln wz lo tg weg stg tpg CN eg thg LN ne f2 ∧ kp0 own own f f2) := by
  obtain ⟨ch, sc, tp, ou, fm, dr, dt_, rd, te, la, lg, co, wo, fmg, lvg, HcXo, HcCh, HcTp, HcOu, HcFa, HcFm, HcDr, HcOt, HcRt, HcLa, HcLg, HcCo, HcLv, HcWo, HcFn, HcLn⟩ := id hI
  obtain ⟨og_xo, hxo, mcXo⟩ := id HcXo
  obtain ⟨lv, ⟨og_co, og_lv⟩, hco, hlv, mcCo⟩ := id HcCo
  obtain ⟨tl, th, ⟨og_ch, og_tl, og_sc, og_th⟩, hch, htl, hsc, hth, mcCh⟩ := id HcCh
  refine gC_of (by decide) (Nat.le_of_ble_eq_true rfl) ?_
  show gG l _ _ _ D cy b cX11_standing 5 _ RX11 "standing" 0 0 f 0 [(0, .ref xo), (1, .int x), (2, .int y), (3, .int u)] []
  refine gz_aload_n dX11_standing_0 rfl rfl ?_
  refine sgX11_85 hxo rfl dX11_standing_1 ?_
  refine gz_iload_n dX11_standing_4 rfl rfl ?_
  refine scX11_162 (k_X1_lifeAt (nb := x) hco hlv) hco ⟨(Nat.le_of_ble_eq_true rfl), (Nat.le_of_ble_eq_true rfl)⟩ ⟨(Nat.le_of_ble_eq_true rfl), (Nat.le_of_ble_eq_true rfl)⟩ rfl rfl (Nat.le_of_ble_eq_true rfl) dX11_standing_5 ?_
  rintro u9 f9 ⟨z9, y9⟩; rw [z9, y9]
  cases hA1 : lifeF csz lvg x with
  | none =>
    refine gz_ev (w := .null) rfl ?_
    refine gz_astoreN (lv' := [(4, .null), (0, .ref xo), (1, .int x), (2, .int y), (3, .int u)]) dX11_standing_8 (by decide) rfl ?_
    refine gz_aloadN dX11_standing_10 rfl ?_
    refine gz_ifnonnullN dX11_standing_12 ?_
    refine gz_iconst (v := (-1)) dX11_standing_15 (by decide) ?_
    refine gz_goto (tgt := 33) dX11_standing_16 (by decide) ?_
    exact gz_iret rfl dX11_standing_33 (Nat.le_of_ble_eq_true rfl) (Nat.le_of_ble_eq_true rfl) (⟨_, rfl, hI, kp0_rf⟩)
  | some lf =>
    refine gz_ev (w := .ref lf) rfl ?_
    have hilf := (lifeF_some hA1).1
    have hjlf := (lifeF_some hA1).2
    obtain ⟨p, so, fc, jf, nu, ho1, ho2, fs_, ga, sg, fg, hLf, hjf, hjp, hLN⟩ := HcLv _ _ hilf hjlf
    obtain ⟨⟨og_lf, og_so, og_fc⟩, hlf, hso, hfc⟩ := id hLf
    obtain ⟨c1, c2, n1, n2, s, v, g, h, ⟨⟨og_p, og_c1, og_c2⟩, hp, hc1, hc2, hs, hv, hFI⟩, hCN⟩ := HcFm _ _ hjf hjp
    refine gz_astore (lv' := [(4, .ref lf), (0, .ref xo), (1, .int x), (2, .int y), (3, .int u)]) dX11_standing_8 (by decide) rfl ?_
    refine gz_aload dX11_standing_10 rfl ?_
    refine gz_ifnonnull (tgt := 19) dX11_standing_12 (by decide) ?_
    refine gz_aload dX11_standing_19 rfl ?_
    refine gz_iload_n dX11_standing_21 rfl rfl ?_
    refine gz_iload_n dX11_standing_22 rfl rfl ?_
    refine gz_aload_n dX11_standing_23 rfl rfl ?_
    refine sgX11_12 hxo rfl dX11_standing_24 ?_
    refine sgX11_78 hch rfl dX11_standing_27 ?_
    refine scX11_173 (k_X5_about (k := y) (wh := u) hlf hso hfc hp hc1 hc2 hsc hth hs hv) hlf ⟨(Nat.le_of_ble_eq_true rfl), (Nat.le_of_ble_eq_true rfl)⟩ ⟨(Nat.le_of_ble_eq_true rfl), (Nat.le_of_ble_eq_true rfl)⟩ rfl rfl (Nat.le_of_ble_eq_true rfl) dX11_standing_30 ?_
    intro v9 f9 z9; rw [z9.1, z9.2]
    exact gz_iret rfl dX11_standing_33 (Nat.le_of_ble_eq_true rfl) (Nat.le_of_ble_eq_true rfl) (⟨_, rfl, hI, kp0_rf⟩)

set_option maxHeartbeats 4000000 in
set_option maxRecDepth 100000 in
theorem i_X11_got {l : Launch} {D : va_G} {cy : Nat → ClassId} {b : Nat} {f : gMem} {own : Nat → Nat} {xo : Nat} {da : Int32} {fcn : Int32} {csz : Int32} {sz : Int32} {len : Int32} {ln : Int32} {wz : Int32} {lo : Int32} {tg : Nat → Int32} {weg : Nat → Int32} {stg : Nat → Int32} {tpg : Nat → Int32} {CN : Nat → Int32 → Int32 → (Nat → Int32) → (Nat → Int32) → Prop} {eg : Nat → Int32} {thg : Nat → Int32} {LN : Nat → Nat → Int32 → Int32 → Int32 → Int32 → Int64 → (Nat → Int32) → (Nat → Int32) → Prop} {ne : Nat} {x : Int32} (hI : xI cy own xo da fcn csz sz len ln wz lo tg weg stg tpg CN eg thg LN ne f)  : gC l D cy b yX11_got cX11_got 3 (some .long) 1 0 0 [.ref xo, .int x] f (pL fun r f2 => xI cy own xo da fcn csz sz len ln wz lo tg weg stg tpg CN eg thg LN ne f2 ∧ kp0 own own f f2) := by
  obtain ⟨ch, sc, tp, ou, fm, dr, dt_, rd, te, la, lg, co, wo, fmg, lvg, HcXo, HcCh, HcTp, HcOu, HcFa, HcFm, HcDr, HcOt, HcRt, HcLa, HcLg, HcCo, HcLv, HcWo, HcFn, HcLn⟩ := id hI
  obtain ⟨og_xo, hxo, mcXo⟩ := id HcXo
  obtain ⟨lv, ⟨og_co, og_lv⟩, hco, hlv, mcCo⟩ := id HcCo
  refine gC_of (by decide) (Nat.le_of_ble_eq_true rfl) ?_
  show gG l _ _ _ D cy b cX11_got 3 _ RX11 "got" 0 0 f 0 [(0, .ref xo), (1, .int x)] []
  refine gz_aload_n dX11_got_0 rfl rfl ?_
  refine sgX11_85 hxo rfl dX11_got_1 ?_
  refine gz_iload_n dX11_got_4 rfl rfl ?_
  refine scX11_162 (k_X1_lifeAt (nb := x) hco hlv) hco ⟨(Nat.le_of_ble_eq_true rfl), (Nat.le_of_ble_eq_true rfl)⟩ ⟨(Nat.le_of_ble_eq_true rfl), (Nat.le_of_ble_eq_true rfl)⟩ rfl rfl (Nat.le_of_ble_eq_true rfl) dX11_got_5 ?_
  rintro u9 f9 ⟨z9, y9⟩; rw [z9, y9]
  cases hA1 : lifeF csz lvg x with
  | none =>
    refine gz_ev (w := .null) rfl ?_
    refine gz_astore_nN (lv' := [(2, .null), (0, .ref xo), (1, .int x)]) dX11_got_8 rfl (by decide) rfl ?_
    refine gz_aload_nN dX11_got_9 rfl rfl ?_
    refine gz_ifnonnullN dX11_got_10 ?_
    refine gz_lconst (v := 0) dX11_got_13 (by decide) ?_
    refine gz_goto (tgt := 21) dX11_got_14 (by decide) ?_
    exact gz_lret rfl dX11_got_21 (Nat.le_of_ble_eq_true rfl) (Nat.le_of_ble_eq_true rfl) (⟨_, rfl, hI, kp0_rf⟩)
  | some lf =>
    refine gz_ev (w := .ref lf) rfl ?_
    have hilf := (lifeF_some hA1).1
    have hjlf := (lifeF_some hA1).2
    obtain ⟨p, so, fc, jf, nu, ho1, ho2, fs_, ga, sg, fg, hLf, hjf, hjp, hLN⟩ := HcLv _ _ hilf hjlf
    obtain ⟨⟨og_lf, og_so, og_fc⟩, hlf, hso, hfc⟩ := id hLf
    obtain ⟨c1, c2, n1, n2, s, v, g, h, ⟨⟨og_p, og_c1, og_c2⟩, hp, hc1, hc2, hs, hv, hFI⟩, hCN⟩ := HcFm _ _ hjf hjp
    refine gz_astore_n (lv' := [(2, .ref lf), (0, .ref xo), (1, .int x)]) dX11_got_8 rfl (by decide) rfl ?_
    refine gz_aload_n dX11_got_9 rfl rfl ?_
    refine gz_ifnonnull (tgt := 17) dX11_got_10 (by decide) ?_
    refine gz_aload_n dX11_got_17 rfl rfl ?_
    refine sgX11_185 hlf rfl dX11_got_18 ?_
    exact gz_lret rfl dX11_got_21 (Nat.le_of_ble_eq_true rfl) (Nat.le_of_ble_eq_true rfl) (⟨_, rfl, hI, kp0_rf⟩)

set_option maxHeartbeats 4000000 in
set_option maxRecDepth 100000 in
theorem i_X11_count {l : Launch} {D : va_G} {cy : Nat → ClassId} {b : Nat} {f : gMem} {own : Nat → Nat} {xo : Nat} {da : Int32} {fcn : Int32} {csz : Int32} {sz : Int32} {len : Int32} {ln : Int32} {wz : Int32} {lo : Int32} {tg : Nat → Int32} {weg : Nat → Int32} {stg : Nat → Int32} {tpg : Nat → Int32} {CN : Nat → Int32 → Int32 → (Nat → Int32) → (Nat → Int32) → Prop} {eg : Nat → Int32} {thg : Nat → Int32} {LN : Nat → Nat → Int32 → Int32 → Int32 → Int32 → Int64 → (Nat → Int32) → (Nat → Int32) → Prop} {ne : Nat} {x : Int32} (hI : xI cy own xo da fcn csz sz len ln wz lo tg weg stg tpg CN eg thg LN ne f)  : gC l D cy b yX11_count cX11_count 2 (some .int) 1 0 0 [.ref xo, .int x] f (pI fun r f2 => xI cy own xo da fcn csz sz len ln wz lo tg weg stg tpg CN eg thg LN ne f2 ∧ kp0 own own f f2) := by
  obtain ⟨ch, sc, tp, ou, fm, dr, dt_, rd, te, la, lg, co, wo, fmg, lvg, HcXo, HcCh, HcTp, HcOu, HcFa, HcFm, HcDr, HcOt, HcRt, HcLa, HcLg, HcCo, HcLv, HcWo, HcFn, HcLn⟩ := id hI
  obtain ⟨og_xo, hxo, mcXo⟩ := id HcXo
  obtain ⟨tl, th, ⟨og_ch, og_tl, og_sc, og_th⟩, hch, htl, hsc, hth, mcCh⟩ := id HcCh
  obtain ⟨lv, ⟨og_co, og_lv⟩, hco, hlv, mcCo⟩ := id HcCo
  obtain ⟨en, ge, re, gv, tk, am, gi, gvg, tkg, geg, reg, amg, ⟨og_lg, og_en, og_ge, og_re, og_gv, og_tk, og_am⟩, hlg, hen, hge, hre, hgv, htk, ham, mcLg⟩ := id HcLg
  obtain ⟨tb, ⟨og_tp, og_tb⟩, htp, htb⟩ := id HcTp
  obtain ⟨ob, og, ⟨og_ou, og_ob⟩, hou, hob⟩ := id HcOu
  obtain ⟨we, stp, pa, ba, po, ah, gl, bag, pg, P, Q, ⟨⟨og_wo, og_we, og_stp, og_pa, og_ba⟩, hwo, hwe, hstp, hpa, hba, mcWo⟩, HcPa⟩ := id HcWo
  refine gC_of (by decide) (Nat.le_of_ble_eq_true rfl) ?_
  show gG l _ _ _ D cy b cX11_count 2 _ RX11 "count" 0 0 f 0 [(0, .ref xo), (1, .int x)] []
  refine gz_iload_n dX11_count_0 rfl rfl ?_
  by_cases hsw : x.toInt < 0 ∨ 7 < x.toInt
  ·
    refine gz_tableOut (tgt := 112) dX11_count_1 hsw (by decide) ?_
    refine gz_iconst (v := (-1)) dX11_count_112 (by decide) ?_
    exact gz_iret rfl dX11_count_113 (Nat.le_of_ble_eq_true rfl) (Nat.le_of_ble_eq_true rfl) (⟨_, rfl, hI, kp0_rf⟩)
  · rcases sw7 hsw with rfl | rfl | rfl | rfl | rfl | rfl | rfl | rfl
    ·
      refine gz_tableIn (off := 47) (tgt := 48) dX11_count_1 (by decide) (by decide) rfl (by decide) ?_
      refine gz_aload_n dX11_count_48 rfl rfl ?_
      refine sgX11_12 hxo rfl dX11_count_49 ?_
      refine sgX11_78 hch rfl dX11_count_52 ?_
      refine sgX11_234 hsc rfl dX11_count_55 ?_
      exact gz_iret rfl dX11_count_58 (Nat.le_of_ble_eq_true rfl) (Nat.le_of_ble_eq_true rfl) (⟨_, rfl, hI, kp0_rf⟩)
    ·
      refine gz_tableIn (off := 58) (tgt := 59) dX11_count_1 (by decide) (by decide) rfl (by decide) ?_
      refine gz_aload_n dX11_count_59 rfl rfl ?_
      refine sgX11_116 hxo rfl dX11_count_60 ?_
      exact gz_iret rfl dX11_count_63 (Nat.le_of_ble_eq_true rfl) (Nat.le_of_ble_eq_true rfl) (⟨_, rfl, hI, kp0_rf⟩)
    ·
      refine gz_tableIn (off := 63) (tgt := 64) dX11_count_1 (by decide) (by decide) rfl (by decide) ?_
      refine gz_aload_n dX11_count_64 rfl rfl ?_
      refine sgX11_85 hxo rfl dX11_count_65 ?_
      refine scX11_239 (k_X1_size hco) hco ⟨(Nat.le_of_ble_eq_true rfl), (Nat.le_of_ble_eq_true rfl)⟩ ⟨(Nat.le_of_ble_eq_true rfl), (Nat.le_of_ble_eq_true rfl)⟩ rfl rfl (Nat.le_of_ble_eq_true rfl) dX11_count_68 ?_
      intro v9 f9 z9; rw [z9.1, z9.2]
      exact gz_iret rfl dX11_count_71 (Nat.le_of_ble_eq_true rfl) (Nat.le_of_ble_eq_true rfl) (⟨_, rfl, hI, kp0_rf⟩)
    ·
      refine gz_tableIn (off := 71) (tgt := 72) dX11_count_1 (by decide) (by decide) rfl (by decide) ?_
      refine gz_aload_n dX11_count_72 rfl rfl ?_
      refine sgX11_72 hxo rfl dX11_count_73 ?_
      refine scX11_161 (k_X4_size hlg) hlg ⟨(Nat.le_of_ble_eq_true rfl), (Nat.le_of_ble_eq_true rfl)⟩ ⟨(Nat.le_of_ble_eq_true rfl), (Nat.le_of_ble_eq_true rfl)⟩ rfl rfl (Nat.le_of_ble_eq_true rfl) dX11_count_76 ?_
      intro v9 f9 z9; rw [z9.1, z9.2]
      exact gz_iret rfl dX11_count_79 (Nat.le_of_ble_eq_true rfl) (Nat.le_of_ble_eq_true rfl) (⟨_, rfl, hI, kp0_rf⟩)
    ·
      refine gz_tableIn (off := 79) (tgt := 80) dX11_count_1 (by decide) (by decide) rfl (by decide) ?_
      refine gz_aload_n dX11_count_80 rfl rfl ?_
      refine sgX11_21 hxo rfl dX11_count_81 ?_
      refine scX11_106 (k_X9_size htp) htp ⟨(Nat.le_of_ble_eq_true rfl), (Nat.le_of_ble_eq_true rfl)⟩ ⟨(Nat.le_of_ble_eq_true rfl), (Nat.le_of_ble_eq_true rfl)⟩ rfl rfl (Nat.le_of_ble_eq_true rfl) dX11_count_84 ?_
      intro v9 f9 z9; rw [z9.1, z9.2]
      exact gz_iret rfl dX11_count_87 (Nat.le_of_ble_eq_true rfl) (Nat.le_of_ble_eq_true rfl) (⟨_, rfl, hI, kp0_rf⟩)
    ·
      refine gz_tableIn (off := 87) (tgt := 88) dX11_count_1 (by decide) (by decide) rfl (by decide) ?_
      refine gz_aload_n dX11_count_88 rfl rfl ?_
      refine sgX11_25 hxo rfl dX11_count_89 ?_
      refine scX11_106 (k_X9_size hou) hou ⟨(Nat.le_of_ble_eq_true rfl), (Nat.le_of_ble_eq_true rfl)⟩ ⟨(Nat.le_of_ble_eq_true rfl), (Nat.le_of_ble_eq_true rfl)⟩ rfl rfl (Nat.le_of_ble_eq_true rfl) dX11_count_92 ?_
      intro v9 f9 z9; rw [z9.1, z9.2]
      exact gz_iret rfl dX11_count_95 (Nat.le_of_ble_eq_true rfl) (Nat.le_of_ble_eq_true rfl) (⟨_, rfl, hI, kp0_rf⟩)
    ·
      refine gz_tableIn (off := 95) (tgt := 96) dX11_count_1 (by decide) (by decide) rfl (by decide) ?_
      refine gz_aload_n dX11_count_96 rfl rfl ?_
      refine sgX11_94 hxo rfl dX11_count_97 ?_
      refine scX11_240 (k_X10_size hwo) hwo ⟨(Nat.le_of_ble_eq_true rfl), (Nat.le_of_ble_eq_true rfl)⟩ ⟨(Nat.le_of_ble_eq_true rfl), (Nat.le_of_ble_eq_true rfl)⟩ rfl rfl (Nat.le_of_ble_eq_true rfl) dX11_count_100 ?_
      intro v9 f9 z9; rw [z9.1, z9.2]
      exact gz_iret rfl dX11_count_103 (Nat.le_of_ble_eq_true rfl) (Nat.le_of_ble_eq_true rfl) (⟨_, rfl, hI, kp0_rf⟩)
    ·
      refine gz_tableIn (off := 103) (tgt := 104) dX11_count_1 (by decide) (by decide) rfl (by decide) ?_
      refine gz_aload_n dX11_count_104 rfl rfl ?_
      refine sgX11_72 hxo rfl dX11_count_105 ?_
      refine sgX11_241 hlg rfl dX11_count_108 ?_
      exact gz_iret rfl dX11_count_111 (Nat.le_of_ble_eq_true rfl) (Nat.le_of_ble_eq_true rfl) (⟨_, rfl, hI, kp0_rf⟩)

theorem nt_1000  : ∀ k : Nat, 13000 ≤ k ∧ k < 14000 → ¬ (k = 14000 ∨ k = 14001) := by intro k hk hT; omega
theorem nt_1001  : ∀ k : Nat, 1000 ≤ k ∧ k < 2000 → ¬ (k = 14000 ∨ k = 14001) := by intro k hk hT; omega
theorem nt_1002  : ∀ k : Nat, 2000 ≤ k ∧ k < 3000 → ¬ (k = 14000 ∨ k = 14001) := by intro k hk hT; omega
theorem nt_1003  : ∀ k : Nat, 5000 ≤ k ∧ k < 6000 → ¬ (k = 14000 ∨ k = 14001) := by intro k hk hT; omega
theorem nt_1004  : ∀ k : Nat, 4000 ≤ k ∧ k < 5000 → ¬ (k = 14000 ∨ k = 14001) := by intro k hk hT; omega
theorem nt_1005  : ∀ k : Nat, 6000 ≤ k ∧ k < 7000 → ¬ (k = 14000 ∨ k = 14001) := by intro k hk hT; omega
theorem nt_1006  : ∀ k : Nat, 7000 ≤ k ∧ k < 8000 → ¬ (k = 14000 ∨ k = 14001) := by intro k hk hT; omega
theorem nt_1007  : ∀ k : Nat, 3000 ≤ k ∧ k < 4000 → ¬ (k = 14000 ∨ k = 14001) := by intro k hk hT; omega
theorem nt_1008  : ∀ k : Nat, 8000 ≤ k ∧ k < 9000 → ¬ (k = 14000 ∨ k = 14001) := by intro k hk hT; omega
theorem nt_1009  : ∀ k : Nat, 9000 ≤ k ∧ k < 10000 → ¬ (k = 14000 ∨ k = 14001) := by intro k hk hT; omega
theorem nt_1010  : ∀ k : Nat, 10000 ≤ k ∧ k < 11000 → ¬ (k = 14000 ∨ k = 14001) := by intro k hk hT; omega
theorem nt_1011  : ∀ k : Nat, 12000 ≤ k ∧ k < 13000 → ¬ (k = 14000 ∨ k = 14001) := by intro k hk hT; omega
theorem nt_1012  : ∀ k : Nat, 11000 ≤ k ∧ k < 12000 → ¬ (k = 14000 ∨ k = 14001) := by intro k hk hT; omega
theorem nt_1013  : ∀ k : Nat, 15000 ≤ k ∧ k < 16000 → ¬ (k = 14000 ∨ k = 14001) := by intro k hk hT; omega
theorem nt_1014  : ∀ k : Nat, 0 ≤ k ∧ k < 1 → ¬ (k = 14000 ∨ k = 14001) := by intro k hk hT; omega
set_option maxHeartbeats 4000000 in
set_option maxRecDepth 100000 in
theorem i_X11_tell {l : Launch} {D : va_G} {cy : Nat → ClassId} {b : Nat} {f : gMem} {own : Nat → Nat} {xo : Nat} {da : Int32} {fcn : Int32} {csz : Int32} {sz : Int32} {len : Int32} {ln : Int32} {wz : Int32} {lo : Int32} {tg : Nat → Int32} {weg : Nat → Int32} {stg : Nat → Int32} {tpg : Nat → Int32} {CN : Nat → Int32 → Int32 → (Nat → Int32) → (Nat → Int32) → Prop} {eg : Nat → Int32} {thg : Nat → Int32} {LN : Nat → Nat → Int32 → Int32 → Int32 → Int32 → Int64 → (Nat → Int32) → (Nat → Int32) → Prop} {ne : Nat} {x : Int32} (hI : xI cy own xo da fcn csz sz len ln wz lo tg weg stg tpg CN eg thg LN ne f)  : gC l D cy b yX11_tell cX11_tell 3 (some .int) 21 0 0 [.ref xo, .int x] f (pI fun r f2 => ∃ (ln2 : Int32) , xI cy own xo da fcn csz sz len ln2 wz lo tg weg stg tpg CN eg thg LN ne f2 ∧ kp0 own own f f2) := by
  obtain ⟨ch, sc, tp, ou, fm, dr, dt_, rd, te, la, lg, co, wo, fmg, lvg, HcXo, HcCh, HcTp, HcOu, HcFa, HcFm, HcDr, HcOt, HcRt, HcLa, HcLg, HcCo, HcLv, HcWo, HcFn, HcLn⟩ := id hI
  obtain ⟨og_xo, hxo, mcXo⟩ := id HcXo
  obtain ⟨og_fm, hfm⟩ := id HcFa
  obtain ⟨pl, fa, ⟨og_rd, og_te⟩, hrd, hte⟩ := id HcRt
  obtain ⟨ob, og, ⟨og_ou, og_ob⟩, hou, hob⟩ := id HcOu
  refine gC_of (by decide) (Nat.le_of_ble_eq_true rfl) ?_
  show gG l _ _ _ D cy b cX11_tell 3 _ RX11 "tell" 0 0 f 0 [(0, .ref xo), (1, .int x)] []
  refine gz_aload_n dX11_tell_0 rfl rfl ?_
  refine gz_iload_n dX11_tell_1 rfl rfl ?_
  refine scX11_126 (k_X11_formAt (x := x) hxo hfm) hxo ⟨(Nat.le_of_ble_eq_true rfl), (Nat.le_of_ble_eq_true rfl)⟩ ⟨(Nat.le_of_ble_eq_true rfl), (Nat.le_of_ble_eq_true rfl)⟩ rfl rfl (Nat.le_of_ble_eq_true rfl) dX11_tell_2 ?_
  rintro u9 f9 ⟨z9, y9⟩; rw [z9, y9]
  cases hA2 : formF fcn fmg x with
  | none =>
    refine gz_ev (w := .null) rfl ?_
    refine gz_astore_nN (lv' := [(2, .null), (0, .ref xo), (1, .int x)]) dX11_tell_5 rfl (by decide) rfl ?_
    refine gz_aload_nN dX11_tell_6 rfl rfl ?_
    refine gz_ifnonnullN dX11_tell_7 ?_
    refine gz_iconst (v := (-1)) dX11_tell_10 (by decide) ?_
    exact gz_iret rfl dX11_tell_11 (Nat.le_of_ble_eq_true rfl) (Nat.le_of_ble_eq_true rfl) (⟨_, rfl, _, hI, kp0_rf⟩)
  | some p =>
    refine gz_ev (w := .ref p) rfl ?_
    have hip := (formF_some hA2).1
    have hjp := (formF_some hA2).2
    obtain ⟨c1, c2, n1, n2, s, v, g, h, ⟨⟨og_p, og_c1, og_c2⟩, hp, hc1, hc2, hs, hv, hFI⟩, hCN⟩ := HcFm _ _ hip hjp
    refine gz_astore_n (lv' := [(2, .ref p), (0, .ref xo), (1, .int x)]) dX11_tell_5 rfl (by decide) rfl ?_
    refine gz_aload_n dX11_tell_6 rfl rfl ?_
    refine gz_ifnonnull (tgt := 12) dX11_tell_7 (by decide) ?_
    refine gz_aload_n dX11_tell_12 rfl rfl ?_
    refine sgX11_58 hxo rfl dX11_tell_13 ?_
    refine gz_aload_n dX11_tell_16 rfl rfl ?_
    refine scX11_142 (k_X8_write hte hou hob hp hc1 hc2 (by decide) hs hv ⟨(tgn og_ob og_c1 (by omega)), (tgn og_ob og_c2 (by omega))⟩) hte ⟨(Nat.le_of_ble_eq_true rfl), (Nat.le_of_ble_eq_true rfl)⟩ ⟨(Nat.le_of_ble_eq_true rfl), (Nat.le_of_ble_eq_true rfl)⟩ rfl rfl (Nat.le_of_ble_eq_true rfl) dX11_tell_17 ?_
    rintro f1 ⟨l_1, o_1, hou_1, hob_1, hr1⟩
    have hxo_1 : f1 xo = some (.inr (11, [.ref ch, .ref tp, .ref ou, .ref fm, .ref dr, .ref dt_, .ref rd, .ref te, .ref la, .ref lg, .ref co, .ref wo, .int fcn])) := hr1 _ _ hxo (by simp only [List.mem_cons, List.not_mem_nil, or_false, not_or]; exact ⟨(tgn og_xo og_ou (by decide)), (tgn og_xo og_ob (by decide))⟩)
    have hfm_1 : f1 fm = some (.inl (cy 4, 20, .inr (.inr (.inr (.inr (fmg)))))) := hr1 _ _ hfm (by simp only [List.mem_cons, List.not_mem_nil, or_false, not_or]; exact ⟨(tgn og_fm og_ou (by decide)), (tgn og_fm og_ob (by decide))⟩)
    have hrd_1 : f1 rd = some (.inr (6, [.ref tp, .ref dr, .int pl, .int fa])) := hr1 _ _ hrd (by simp only [List.mem_cons, List.not_mem_nil, or_false, not_or]; exact ⟨(tgn og_rd og_ou (by decide)), (tgn og_rd og_ob (by decide))⟩)
    have hte_1 : f1 te = some (.inr (8, [.ref ou])) := hr1 _ _ hte (by simp only [List.mem_cons, List.not_mem_nil, or_false, not_or]; exact ⟨(tgn og_te og_ou (by decide)), (tgn og_te og_ob (by decide))⟩)
    have hp_1 : f1 p = some (.inr (2, [.ref c1, .ref c2, .int s, .int v])) := hr1 _ _ hp (by simp only [List.mem_cons, List.not_mem_nil, or_false, not_or]; exact ⟨(tgn og_p og_ou (by omega)), (tgn og_p og_ob (by omega))⟩)
    have hc1_1 : f1 c1 = some (.inl (cy 0, n1, .inl (g))) := hr1 _ _ hc1 (by simp only [List.mem_cons, List.not_mem_nil, or_false, not_or]; exact ⟨(tgn og_c1 og_ou (by omega)), (tgn og_c1 og_ob (by omega))⟩)
    have hc2_1 : f1 c2 = some (.inl (cy 0, n2, .inl (h))) := hr1 _ _ hc2 (by simp only [List.mem_cons, List.not_mem_nil, or_false, not_or]; exact ⟨(tgn og_c2 og_ou (by omega)), (tgn og_c2 og_ob (by omega))⟩)
    refine gz_aload_n dX11_tell_20 rfl rfl ?_
    refine sgX11_25 hxo_1 rfl dX11_tell_21 ?_
    refine scX11_106 (k_X9_size hou_1) hou_1 ⟨(Nat.le_of_ble_eq_true rfl), (Nat.le_of_ble_eq_true rfl)⟩ ⟨(Nat.le_of_ble_eq_true rfl), (Nat.le_of_ble_eq_true rfl)⟩ rfl rfl (Nat.le_of_ble_eq_true rfl) dX11_tell_24 ?_
    intro v9 f9 z9; rw [z9.1, z9.2]
    have hK : kp own own (fun k => k = 14000 ∨ k = 14001) f f1 := by
      refine kp_fr (S := [ou, ob]) ((fr_tr fr_rf (fr_mo hr1 (by simp)))) (fun _ _ _ => rfl) ?_
      intro x0 hx0
      simp only [List.mem_cons, List.not_mem_nil, or_false] at hx0
      rcases hx0 with e0 | e0
      · rw [e0]; show (own ou) = 14000 ∨ (own ou) = 14001; rw [og_ou]; decide
      · rw [e0]; show (own ob) = 14000 ∨ (own ob) = 14001; rw [og_ob]; decide
    exact gz_iret rfl dX11_tell_27 (Nat.le_of_ble_eq_true rfl) (Nat.le_of_ble_eq_true rfl) (⟨_, rfl, _, ⟨_, _, _, _, _, _, _, _, _, _, _, _, _, _, _, (cXo_kp HcXo hK nt_1000), (kCh_kp HcCh hK nt_1001), (kTp_kp HcTp hK nt_1002), ⟨_, _, ⟨⟨og_ou, og_ob⟩, hou_1, hob_1⟩⟩, (cFa_kp HcFa hK nt_1003), (cFm_kp HcFm hK nt_1004), (kDr_kp HcDr hK nt_1005), (kOt_kp HcOt hK nt_1006), (kRt_kp HcRt hK nt_1007), (kLa_kp HcLa hK nt_1008), (kLg_kp HcLg hK nt_1009), (kCo_kp HcCo hK nt_1010), (cLv_kp HcLv hK nt_1011), (kWo_kp HcWo hK nt_1012 nt_1013), HcFn, HcLn⟩, (kp_0 hK (nt_1014 0 ⟨Nat.le_refl _, Nat.lt_succ_self _⟩))⟩)

theorem nt_1015  : ∀ k : Nat, 4000 ≤ k ∧ k < 5000 → ¬ (k = 3000 ∨ k = 6000 ∨ k = 6001 ∨ k = 6002 ∨ k = 2000 ∨ k = 13000 ∨ k = 5000) := by intro k hk hT; omega
theorem nt_1016  : ∀ k : Nat, 12000 ≤ k ∧ k < 13000 → ¬ (k = 3000 ∨ k = 6000 ∨ k = 6001 ∨ k = 6002 ∨ k = 2000 ∨ k = 13000 ∨ k = 5000) := by intro k hk hT; omega
theorem nt_1017  : ∀ k : Nat, 1000 ≤ k ∧ k < 2000 → ¬ (k = 3000 ∨ k = 6000 ∨ k = 6001 ∨ k = 6002 ∨ k = 2000 ∨ k = 13000 ∨ k = 5000) := by intro k hk hT; omega
theorem nt_1018  : ∀ k : Nat, 2001 ≤ k ∧ k < 2002 → ¬ (k = 3000 ∨ k = 6000 ∨ k = 6001 ∨ k = 6002 ∨ k = 2000 ∨ k = 13000 ∨ k = 5000) := by intro k hk hT; omega
theorem nt_1019  : ∀ k : Nat, 14000 ≤ k ∧ k < 15000 → ¬ (k = 3000 ∨ k = 6000 ∨ k = 6001 ∨ k = 6002 ∨ k = 2000 ∨ k = 13000 ∨ k = 5000) := by intro k hk hT; omega
theorem nt_1020  : ∀ k : Nat, 7000 ≤ k ∧ k < 8000 → ¬ (k = 3000 ∨ k = 6000 ∨ k = 6001 ∨ k = 6002 ∨ k = 2000 ∨ k = 13000 ∨ k = 5000) := by intro k hk hT; omega
theorem nt_1021  : ∀ k : Nat, 3001 ≤ k ∧ k < 3002 → ¬ (k = 3000 ∨ k = 6000 ∨ k = 6001 ∨ k = 6002 ∨ k = 2000 ∨ k = 13000 ∨ k = 5000) := by intro k hk hT; omega
theorem nt_1022  : ∀ k : Nat, 8000 ≤ k ∧ k < 9000 → ¬ (k = 3000 ∨ k = 6000 ∨ k = 6001 ∨ k = 6002 ∨ k = 2000 ∨ k = 13000 ∨ k = 5000) := by intro k hk hT; omega
theorem nt_1023  : ∀ k : Nat, 9000 ≤ k ∧ k < 10000 → ¬ (k = 3000 ∨ k = 6000 ∨ k = 6001 ∨ k = 6002 ∨ k = 2000 ∨ k = 13000 ∨ k = 5000) := by intro k hk hT; omega
theorem nt_1024  : ∀ k : Nat, 10000 ≤ k ∧ k < 11000 → ¬ (k = 3000 ∨ k = 6000 ∨ k = 6001 ∨ k = 6002 ∨ k = 2000 ∨ k = 13000 ∨ k = 5000) := by intro k hk hT; omega
theorem nt_1025  : ∀ k : Nat, 11000 ≤ k ∧ k < 12000 → ¬ (k = 3000 ∨ k = 6000 ∨ k = 6001 ∨ k = 6002 ∨ k = 2000 ∨ k = 13000 ∨ k = 5000) := by intro k hk hT; omega
theorem nt_1026  : ∀ k : Nat, 15000 ≤ k ∧ k < 16000 → ¬ (k = 3000 ∨ k = 6000 ∨ k = 6001 ∨ k = 6002 ∨ k = 2000 ∨ k = 13000 ∨ k = 5000) := by intro k hk hT; omega
theorem nt_1027  : ∀ k : Nat, 0 ≤ k ∧ k < 1 → ¬ (k = 3000 ∨ k = 6000 ∨ k = 6001 ∨ k = 6002 ∨ k = 2000 ∨ k = 13000 ∨ k = 5000) := by intro k hk hT; omega
theorem nt_1028  : ∀ k : Nat, 13000 ≤ k ∧ k < 14000 → ¬ (k = 3000 ∨ k = 6000 ∨ k = 6001 ∨ k = 6002 ∨ k = 2000) := by intro k hk hT; omega
theorem nt_1029  : ∀ k : Nat, 1000 ≤ k ∧ k < 2000 → ¬ (k = 3000 ∨ k = 6000 ∨ k = 6001 ∨ k = 6002 ∨ k = 2000) := by intro k hk hT; omega
theorem nt_1030  : ∀ k : Nat, 2001 ≤ k ∧ k < 2002 → ¬ (k = 3000 ∨ k = 6000 ∨ k = 6001 ∨ k = 6002 ∨ k = 2000) := by intro k hk hT; omega
theorem nt_1031  : ∀ k : Nat, 14000 ≤ k ∧ k < 15000 → ¬ (k = 3000 ∨ k = 6000 ∨ k = 6001 ∨ k = 6002 ∨ k = 2000) := by intro k hk hT; omega
theorem nt_1032  : ∀ k : Nat, 5000 ≤ k ∧ k < 6000 → ¬ (k = 3000 ∨ k = 6000 ∨ k = 6001 ∨ k = 6002 ∨ k = 2000) := by intro k hk hT; omega
theorem nt_1033  : ∀ k : Nat, 4000 ≤ k ∧ k < 5000 → ¬ (k = 3000 ∨ k = 6000 ∨ k = 6001 ∨ k = 6002 ∨ k = 2000) := by intro k hk hT; omega
theorem nt_1034  : ∀ k : Nat, 7000 ≤ k ∧ k < 8000 → ¬ (k = 3000 ∨ k = 6000 ∨ k = 6001 ∨ k = 6002 ∨ k = 2000) := by intro k hk hT; omega
theorem nt_1035  : ∀ k : Nat, 3001 ≤ k ∧ k < 3002 → ¬ (k = 3000 ∨ k = 6000 ∨ k = 6001 ∨ k = 6002 ∨ k = 2000) := by intro k hk hT; omega
theorem nt_1036  : ∀ k : Nat, 8000 ≤ k ∧ k < 9000 → ¬ (k = 3000 ∨ k = 6000 ∨ k = 6001 ∨ k = 6002 ∨ k = 2000) := by intro k hk hT; omega
theorem nt_1037  : ∀ k : Nat, 9000 ≤ k ∧ k < 10000 → ¬ (k = 3000 ∨ k = 6000 ∨ k = 6001 ∨ k = 6002 ∨ k = 2000) := by intro k hk hT; omega
theorem nt_1038  : ∀ k : Nat, 10000 ≤ k ∧ k < 11000 → ¬ (k = 3000 ∨ k = 6000 ∨ k = 6001 ∨ k = 6002 ∨ k = 2000) := by intro k hk hT; omega
theorem nt_1039  : ∀ k : Nat, 12000 ≤ k ∧ k < 13000 → ¬ (k = 3000 ∨ k = 6000 ∨ k = 6001 ∨ k = 6002 ∨ k = 2000) := by intro k hk hT; omega
theorem nt_1040  : ∀ k : Nat, 11000 ≤ k ∧ k < 12000 → ¬ (k = 3000 ∨ k = 6000 ∨ k = 6001 ∨ k = 6002 ∨ k = 2000) := by intro k hk hT; omega
theorem nt_1041  : ∀ k : Nat, 15000 ≤ k ∧ k < 16000 → ¬ (k = 3000 ∨ k = 6000 ∨ k = 6001 ∨ k = 6002 ∨ k = 2000) := by intro k hk hT; omega
theorem nt_1042  : ∀ k : Nat, 0 ≤ k ∧ k < 1 → ¬ (k = 3000 ∨ k = 6000 ∨ k = 6001 ∨ k = 6002 ∨ k = 2000) := by intro k hk hT; omega
set_option maxHeartbeats 4000000 in
set_option maxRecDepth 100000 in
theorem i_X11_form {l : Launch} {D : va_G} {cy : Nat → ClassId} {b : Nat} {f : gMem} {own : Nat → Nat} {xo : Nat} {da : Int32} {fcn : Int32} {csz : Int32} {sz : Int32} {len : Int32} {ln : Int32} {wz : Int32} {lo : Int32} {tg : Nat → Int32} {weg : Nat → Int32} {stg : Nat → Int32} {tpg : Nat → Int32} {CN : Nat → Int32 → Int32 → (Nat → Int32) → (Nat → Int32) → Prop} {eg : Nat → Int32} {thg : Nat → Int32} {LN : Nat → Nat → Int32 → Int32 → Int32 → Int32 → Int64 → (Nat → Int32) → (Nat → Int32) → Prop} {ne : Nat}  (hI : xI cy own xo da fcn csz sz len ln wz lo tg weg stg tpg CN eg thg LN ne f)  : gC l D cy b yX11_form cX11_form 2 (some .int) 35 3 604 [.ref xo] f (pI fun r f2 => ∃ (own2 : Nat → Nat) (fcn2 len2 : Int32) (CN2 : Nat → Int32 → Int32 → (Nat → Int32) → (Nat → Int32) → Prop), xI cy own2 xo da fcn2 csz sz len2 ln wz lo tg weg stg tpg CN2 eg thg LN ne f2 ∧ kp0 own own2 f f2) := by
  obtain ⟨ch, sc, tp, ou, fm, dr, dt_, rd, te, la, lg, co, wo, fmg, lvg, HcXo, HcCh, HcTp, HcOu, HcFa, HcFm, HcDr, HcOt, HcRt, HcLa, HcLg, HcCo, HcLv, HcWo, HcFn, HcLn⟩ := id hI
  obtain ⟨og_xo, hxo, mcXo⟩ := id HcXo
  obtain ⟨pl, fa, ⟨og_rd, og_te⟩, hrd, hte⟩ := id HcRt
  obtain ⟨tb, ⟨og_tp, og_tb⟩, htp, htb⟩ := id HcTp
  obtain ⟨d1, d2, ds, dv, dg, dh, ⟨og_dr, og_d1, og_d2⟩, hdr, hd1, hd2⟩ := id HcDr
  obtain ⟨og_fm, hfm⟩ := id HcFa
  refine gC_of (by decide) (Nat.le_of_ble_eq_true rfl) ?_
  show gG l _ _ _ D cy b cX11_form 2 _ RX11 "form" 0 0 f 0 [(0, .ref xo)] []
  refine gz_aload_n dX11_form_0 rfl rfl ?_
  refine sgX11_116 hxo rfl dX11_form_1 ?_
  refine gz_bipush (v := 20) dX11_form_4 (by decide) ?_
  refine gz_icmp_lt (tgt := 11) dX11_form_6 (by decide) (fun c_6 => ?_) (fun c_6 => ?_)
  ·
    refine gz_aload_n dX11_form_11 rfl rfl ?_
    refine sgX11_49 hxo rfl dX11_form_12 ?_
    refine scX11_120 (k_X6_readTape hrd htp htb hdr hd1 hd2 (by decide) ⟨(tgn og_tb og_d1 (by decide)), (tgn og_tb og_d2 (by decide)), (tgn og_d1 og_d2 (by decide))⟩ ⟨by decide, by decide⟩) hrd ⟨(Nat.le_of_ble_eq_true rfl), (Nat.le_of_ble_eq_true rfl)⟩ ⟨(by simp only [gRm]; omega), (by simp only [gRm]; omega)⟩ rfl rfl (Nat.le_of_ble_eq_true rfl) dX11_form_15 ?_
    rintro r1 f1 ⟨pl_1, fa_1, s_1, v_1, g_1, h_1, hrd_1, hdr_1, hd1_1, hd2_1, hs_1, hv_1, hF_1, hr1⟩
    have hxo_1 : f1 xo = some (.inr (11, [.ref ch, .ref tp, .ref ou, .ref fm, .ref dr, .ref dt_, .ref rd, .ref te, .ref la, .ref lg, .ref co, .ref wo, .int fcn])) := hr1 _ _ hxo (by simp only [List.mem_cons, List.not_mem_nil, or_false, not_or]; exact ⟨(tgn og_xo og_rd (by decide)), (tgn og_xo og_dr (by decide)), (tgn og_xo og_d1 (by decide)), (tgn og_xo og_d2 (by decide))⟩)
    have hte_1 : f1 te = some (.inr (8, [.ref ou])) := hr1 _ _ hte (by simp only [List.mem_cons, List.not_mem_nil, or_false, not_or]; exact ⟨(tgn og_te og_rd (by decide)), (tgn og_te og_dr (by decide)), (tgn og_te og_d1 (by decide)), (tgn og_te og_d2 (by decide))⟩)
    have htp_1 : f1 tp = some (.inr (9, [.ref tb, .int len])) := hr1 _ _ htp (by simp only [List.mem_cons, List.not_mem_nil, or_false, not_or]; exact ⟨(tgn og_tp og_rd (by decide)), (tgn og_tp og_dr (by decide)), (tgn og_tp og_d1 (by decide)), (tgn og_tp og_d2 (by decide))⟩)
    have htb_1 : f1 tb = some (.inl (cy 1, 400, .inl (tpg))) := hr1 _ _ htb (by simp only [List.mem_cons, List.not_mem_nil, or_false, not_or]; exact ⟨(tgn og_tb og_rd (by decide)), (tgn og_tb og_dr (by decide)), (tgn og_tb og_d1 (by decide)), (tgn og_tb og_d2 (by decide))⟩)
    have hfm_1 : f1 fm = some (.inl (cy 4, 20, .inr (.inr (.inr (.inr (fmg)))))) := hr1 _ _ hfm (by simp only [List.mem_cons, List.not_mem_nil, or_false, not_or]; exact ⟨(tgn og_fm og_rd (by decide)), (tgn og_fm og_dr (by decide)), (tgn og_fm og_d1 (by decide)), (tgn og_fm og_d2 (by decide))⟩)
    refine gz_istore_n (lv' := [(1, .int r1), (0, .ref xo)]) dX11_form_18 rfl (by decide) rfl ?_
    refine gz_aload_n dX11_form_19 rfl rfl ?_
    refine sgX11_21 hxo_1 rfl dX11_form_20 ?_
    refine gz_iconst (v := 0) dX11_form_23 (by decide) ?_
    refine scX11_113 (k_X9_cut (x := 0) htp_1) htp_1 ⟨(Nat.le_of_ble_eq_true rfl), (Nat.le_of_ble_eq_true rfl)⟩ ⟨(by simp only [gRm]; omega), (by simp only [gRm]; omega)⟩ rfl rfl (Nat.le_of_ble_eq_true rfl) dX11_form_24 ?_
    rintro f2 ⟨htp_2, hr2⟩
    have hxo_2 : f2 xo = some (.inr (11, [.ref ch, .ref tp, .ref ou, .ref fm, .ref dr, .ref dt_, .ref rd, .ref te, .ref la, .ref lg, .ref co, .ref wo, .int fcn])) := hr2 _ _ hxo_1 (by simp only [List.mem_cons, List.not_mem_nil, or_false, not_or]; exact (tgn og_xo og_tp (by decide)))
    have hte_2 : f2 te = some (.inr (8, [.ref ou])) := hr2 _ _ hte_1 (by simp only [List.mem_cons, List.not_mem_nil, or_false, not_or]; exact (tgn og_te og_tp (by decide)))
    have htb_2 : f2 tb = some (.inl (cy 1, 400, .inl (tpg))) := hr2 _ _ htb_1 (by simp only [List.mem_cons, List.not_mem_nil, or_false, not_or]; exact (tgn og_tb og_tp (by decide)))
    have hfm_2 : f2 fm = some (.inl (cy 4, 20, .inr (.inr (.inr (.inr (fmg)))))) := hr2 _ _ hfm_1 (by simp only [List.mem_cons, List.not_mem_nil, or_false, not_or]; exact (tgn og_fm og_tp (by decide)))
    have hrd_2 : f2 rd = some (.inr (6, [.ref tp, .ref dr, .int pl_1, .int fa_1])) := hr2 _ _ hrd_1 (by simp only [List.mem_cons, List.not_mem_nil, or_false, not_or]; exact (tgn og_rd og_tp (by decide)))
    have hdr_2 : f2 dr = some (.inr (2, [.ref d1, .ref d2, .int s_1, .int v_1])) := hr2 _ _ hdr_1 (by simp only [List.mem_cons, List.not_mem_nil, or_false, not_or]; exact (tgn og_dr og_tp (by decide)))
    have hd1_2 : f2 d1 = some (.inl (cy 0, 520, .inl (g_1))) := hr2 _ _ hd1_1 (by simp only [List.mem_cons, List.not_mem_nil, or_false, not_or]; exact (tgn og_d1 og_tp (by decide)))
    have hd2_2 : f2 d2 = some (.inl (cy 0, 80, .inl (h_1))) := hr2 _ _ hd2_1 (by simp only [List.mem_cons, List.not_mem_nil, or_false, not_or]; exact (tgn og_d2 og_tp (by decide)))
    refine gz_iload_n dX11_form_27 rfl rfl ?_
    refine gz_if_le (tgt := 38) dX11_form_28 (by decide) (fun c_28 => ?_) (fun c_28 => ?_)
    ·
      refine gz_aload_n dX11_form_38 rfl rfl ?_
      have hfc : fcn.toInt < 20 := by have e20 : (20 : Int32).toInt = 20 := rfl; have hq0 := c_6; simp only [fl_lt] at hq0; omega
      refine scX11_123 (k_X11_keepY hxo_2 hfm_2 hdr_2 hd1_2 hd2_2 hs_1 hv_1 ⟨mcXo.1, hfc⟩) hxo_2 ⟨(Nat.le_of_ble_eq_true rfl), (Nat.le_of_ble_eq_true rfl)⟩ ⟨(by simp only [gRm]; omega), (by simp only [gRm]; omega)⟩ rfl rfl (Nat.le_of_ble_eq_true rfl) dX11_form_39 ?_
      rintro r_3 f3 ⟨q, qa, qb, g2, h2_, hxo_3, hfm_3, hqq, hqa, hqb, hg, hh_, hn3, hr3⟩
      have hnn : ∀ z : Nat, f2 z = none → f z = none := fun z hz => fr_none (S := [rd, dr, d1, d2, tp]) ((fr_tr (fr_tr fr_rf (fr_mo hr1 (by simp))) (fr_mo hr2 (by simp)))) (by intro x0 hx0; simp only [List.mem_cons, List.not_mem_nil, or_false] at hx0; rcases hx0 with e0 | e0 | e0 | e0 | e0; exact ⟨_, by rw [e0]; exact hrd_2⟩; exact ⟨_, by rw [e0]; exact hdr_2⟩; exact ⟨_, by rw [e0]; exact hd1_2⟩; exact ⟨_, by rw [e0]; exact hd2_2⟩; exact ⟨_, by rw [e0]; exact htp_2⟩) hz
      obtain ⟨own2, ho2⟩ : ∃ own2 : Nat → Nat, own2 = va_up (va_up (va_up own q (4000 + 3 * Int32.toNatClampNeg fcn)) qa ((4000 + 3 * Int32.toNatClampNeg fcn) + 1)) qb ((4000 + 3 * Int32.toNatClampNeg fcn) + 2) := ⟨_, rfl⟩
      have hO : ∀ z e, f z = some e → own2 z = own z := by rw [ho2]; exact own_up (own_up (own_up (fun _ _ _ => rfl) (hnn _ hn3.1)) (hnn _ hn3.2.1)) (hnn _ hn3.2.2.1)
      have hK : kp own own2 (fun k => k = 3000 ∨ k = 6000 ∨ k = 6001 ∨ k = 6002 ∨ k = 2000 ∨ k = 13000 ∨ k = 5000) f f3 := by
        refine kp_fr (S := [rd, dr, d1, d2, tp, xo, fm]) ((fr_tr (fr_tr (fr_tr fr_rf (fr_mo hr1 (by simp))) (fr_mo hr2 (by simp))) (fr_mo hr3 (by simp)))) hO ?_
        intro x0 hx0
        simp only [List.mem_cons, List.not_mem_nil, or_false] at hx0
        rcases hx0 with e0 | e0 | e0 | e0 | e0 | e0 | e0
        · rw [e0]; show (own rd) = 3000 ∨ (own rd) = 6000 ∨ (own rd) = 6001 ∨ (own rd) = 6002 ∨ (own rd) = 2000 ∨ (own rd) = 13000 ∨ (own rd) = 5000; rw [og_rd]; decide
        · rw [e0]; show (own dr) = 3000 ∨ (own dr) = 6000 ∨ (own dr) = 6001 ∨ (own dr) = 6002 ∨ (own dr) = 2000 ∨ (own dr) = 13000 ∨ (own dr) = 5000; rw [og_dr]; decide
        · rw [e0]; show (own d1) = 3000 ∨ (own d1) = 6000 ∨ (own d1) = 6001 ∨ (own d1) = 6002 ∨ (own d1) = 2000 ∨ (own d1) = 13000 ∨ (own d1) = 5000; rw [og_d1]; decide
        · rw [e0]; show (own d2) = 3000 ∨ (own d2) = 6000 ∨ (own d2) = 6001 ∨ (own d2) = 6002 ∨ (own d2) = 2000 ∨ (own d2) = 13000 ∨ (own d2) = 5000; rw [og_d2]; decide
        · rw [e0]; show (own tp) = 3000 ∨ (own tp) = 6000 ∨ (own tp) = 6001 ∨ (own tp) = 6002 ∨ (own tp) = 2000 ∨ (own tp) = 13000 ∨ (own tp) = 5000; rw [og_tp]; decide
        · rw [e0]; show (own xo) = 3000 ∨ (own xo) = 6000 ∨ (own xo) = 6001 ∨ (own xo) = 6002 ∨ (own xo) = 2000 ∨ (own xo) = 13000 ∨ (own xo) = 5000; rw [og_xo]; decide
        · rw [e0]; show (own fm) = 3000 ∨ (own fm) = 6000 ∨ (own fm) = 6001 ∨ (own fm) = 6002 ∨ (own fm) = 2000 ∨ (own fm) = 13000 ∨ (own fm) = 5000; rw [og_fm]; decide
      have hq1 : own2 q = (4000 + 3 * Int32.toNatClampNeg fcn) := by rw [ho2, va_up_ne _ _ (cne hqq hqb (by simp)), va_up_ne _ _ (cne hqq hqa (by simp)), va_up_self]
      have hq2 : own2 qa = (4000 + 3 * Int32.toNatClampNeg fcn) + 1 := by rw [ho2, va_up_ne _ _ hn3.2.2.2, va_up_self]
      have hq3 : own2 qb = (4000 + 3 * Int32.toNatClampNeg fcn) + 2 := by rw [ho2, va_up_self]
      have hsv := And.intro hs_1 hv_1
      have hNew : cFo cy own2 f3 (4000 + 3 * Int32.toNatClampNeg fcn) q qa qb (13 * s_1.toInt.toNat) (2 * v_1.toInt.toNat) s_1 v_1 g2 h2_ := ⟨⟨hq1, hq2, hq3⟩, hqq, hqa, hqb, ⟨hsv.1.1, by have := hsv.1; omega, by have := hsv.1; omega⟩, ⟨hsv.2.1, by have := hsv.2; omega, by have := hsv.2; omega⟩, fI_cg hsv.1.1 hg hF_1⟩
      have hf1 : (fcn + 1).toInt = fcn.toInt + 1 := T_add (rfl : fcn.toInt = fcn.toInt) (rfl : (1 : Int32).toInt = 1) (by omega)
      exact gz_iret rfl dX11_form_42 (by omega) (by omega) (⟨_, rfl, own2, _, _, _, ⟨_, _, _, _, _, _, _, _, _, _, _, _, _, _, _, ⟨((hO _ _ hxo).trans og_xo), hxo_3, ⟨by omega, by omega⟩⟩, (kCh_kp HcCh hK nt_1017), ⟨_, ⟨⟨((hO _ _ htp).trans og_tp), ((hO _ _ htb).trans og_tb)⟩, (hr3 _ _ htp_2 (by simp only [List.mem_cons, List.not_mem_nil, or_false, not_or]; exact ⟨tgn og_tp og_xo (by decide), tgn og_tp og_fm (by decide)⟩)), (hK.2 _ _ htb (by show ¬ ((own tb) = 3000 ∨ (own tb) = 6000 ∨ (own tb) = 6001 ∨ (own tb) = 6002 ∨ (own tb) = 2000 ∨ (own tb) = 13000 ∨ (own tb) = 5000); rw [og_tb]; exact nt_1018 _ ⟨Nat.le_refl _, Nat.lt_succ_self _⟩))⟩⟩, (kOu_kp HcOu hK nt_1019), ⟨((hO _ _ hfm).trans og_fm), hfm_3⟩, (cFm_new (cFm_kp HcFm hK nt_1015) hNew (P := fun _ _ _ _ => True) trivial), ⟨_, _, _, _, _, _, ⟨⟨((hO _ _ hdr).trans og_dr), ((hO _ _ hd1).trans og_d1), ((hO _ _ hd2).trans og_d2)⟩, (hr3 _ _ hdr_2 (by simp only [List.mem_cons, List.not_mem_nil, or_false, not_or]; exact ⟨tgn og_dr og_xo (by decide), tgn og_dr og_fm (by decide)⟩)), (hr3 _ _ hd1_2 (by simp only [List.mem_cons, List.not_mem_nil, or_false, not_or]; exact ⟨tgn og_d1 og_xo (by decide), tgn og_d1 og_fm (by decide)⟩)), (hr3 _ _ hd2_2 (by simp only [List.mem_cons, List.not_mem_nil, or_false, not_or]; exact ⟨tgn og_d2 og_xo (by decide), tgn og_d2 og_fm (by decide)⟩))⟩⟩, (kOt_kp HcOt hK nt_1020), ⟨_, _, ⟨⟨((hO _ _ hrd).trans og_rd), ((hO _ _ hte).trans og_te)⟩, (hr3 _ _ hrd_2 (by simp only [List.mem_cons, List.not_mem_nil, or_false, not_or]; exact ⟨tgn og_rd og_xo (by decide), tgn og_rd og_fm (by decide)⟩)), (hK.2 _ _ hte (by show ¬ ((own te) = 3000 ∨ (own te) = 6000 ∨ (own te) = 6001 ∨ (own te) = 6002 ∨ (own te) = 2000 ∨ (own te) = 13000 ∨ (own te) = 5000); rw [og_te]; exact nt_1021 _ ⟨Nat.le_refl _, Nat.lt_succ_self _⟩))⟩⟩, (kLa_kp HcLa hK nt_1022), (kLg_kp HcLg hK nt_1023), (kCo_kp HcCo hK nt_1024), (cLv_fm (cLv_kp HcLv hK nt_1016) (cFn_lv mcXo.1 HcFn)), (kWo_kp HcWo hK nt_1025 nt_1026), (cFn_up mcXo.1 hf1 HcFn), HcLn⟩, (kp_0 hK (nt_1027 0 ⟨Nat.le_refl _, Nat.lt_succ_self _⟩))⟩)
    ·
      refine gz_bipush (v := (-2)) dX11_form_31 (by decide) ?_
      refine gz_iload_n dX11_form_33 rfl rfl ?_
      refine gz_isub dX11_form_34 ?_
      refine gz_goto (tgt := 42) dX11_form_35 (by decide) ?_
      have hK : kp own own (fun k => k = 3000 ∨ k = 6000 ∨ k = 6001 ∨ k = 6002 ∨ k = 2000) f f2 := by
        refine kp_fr (S := [rd, dr, d1, d2, tp]) ((fr_tr (fr_tr fr_rf (fr_mo hr1 (by simp))) (fr_mo hr2 (by simp)))) (fun _ _ _ => rfl) ?_
        intro x0 hx0
        simp only [List.mem_cons, List.not_mem_nil, or_false] at hx0
        rcases hx0 with e0 | e0 | e0 | e0 | e0
        · rw [e0]; show (own rd) = 3000 ∨ (own rd) = 6000 ∨ (own rd) = 6001 ∨ (own rd) = 6002 ∨ (own rd) = 2000; rw [og_rd]; decide
        · rw [e0]; show (own dr) = 3000 ∨ (own dr) = 6000 ∨ (own dr) = 6001 ∨ (own dr) = 6002 ∨ (own dr) = 2000; rw [og_dr]; decide
        · rw [e0]; show (own d1) = 3000 ∨ (own d1) = 6000 ∨ (own d1) = 6001 ∨ (own d1) = 6002 ∨ (own d1) = 2000; rw [og_d1]; decide
        · rw [e0]; show (own d2) = 3000 ∨ (own d2) = 6000 ∨ (own d2) = 6001 ∨ (own d2) = 6002 ∨ (own d2) = 2000; rw [og_d2]; decide
        · rw [e0]; show (own tp) = 3000 ∨ (own tp) = 6000 ∨ (own tp) = 6001 ∨ (own tp) = 6002 ∨ (own tp) = 2000; rw [og_tp]; decide
      exact gz_iret rfl dX11_form_42 (by omega) (by omega) (⟨_, rfl, own, _, _, _, ⟨_, _, _, _, _, _, _, _, _, _, _, _, _, _, _, (cXo_kp HcXo hK nt_1028), (kCh_kp HcCh hK nt_1029), ⟨_, ⟨⟨og_tp, og_tb⟩, htp_2, (hK.2 _ _ htb (by show ¬ ((own tb) = 3000 ∨ (own tb) = 6000 ∨ (own tb) = 6001 ∨ (own tb) = 6002 ∨ (own tb) = 2000); rw [og_tb]; exact nt_1030 _ ⟨Nat.le_refl _, Nat.lt_succ_self _⟩))⟩⟩, (kOu_kp HcOu hK nt_1031), (cFa_kp HcFa hK nt_1032), (cFm_kp HcFm hK nt_1033), ⟨_, _, _, _, _, _, ⟨⟨og_dr, og_d1, og_d2⟩, hdr_2, hd1_2, hd2_2⟩⟩, (kOt_kp HcOt hK nt_1034), ⟨_, _, ⟨⟨og_rd, og_te⟩, hrd_2, (hK.2 _ _ hte (by show ¬ ((own te) = 3000 ∨ (own te) = 6000 ∨ (own te) = 6001 ∨ (own te) = 6002 ∨ (own te) = 2000); rw [og_te]; exact nt_1035 _ ⟨Nat.le_refl _, Nat.lt_succ_self _⟩))⟩⟩, (kLa_kp HcLa hK nt_1036), (kLg_kp HcLg hK nt_1037), (kCo_kp HcCo hK nt_1038), (cLv_kp HcLv hK nt_1039), (kWo_kp HcWo hK nt_1040 nt_1041), HcFn, HcLn⟩, (kp_0 hK (nt_1042 0 ⟨Nat.le_refl _, Nat.lt_succ_self _⟩))⟩)
  ·
    refine gz_iconst (v := (-1)) dX11_form_9 (by decide) ?_
    exact gz_iret rfl dX11_form_10 (by omega) (by omega) (⟨_, rfl, own, _, _, _, hI, kp0_rf⟩)

theorem nt_1043  : ∀ k : Nat, 4000 ≤ k ∧ k < 5000 → ¬ (k = 8002 ∨ k = 8003 ∨ k = 8004 ∨ k = 8001 ∨ k = 6000 ∨ k = 6001 ∨ k = 6002 ∨ k = 13000 ∨ k = 5000) := by intro k hk hT; omega
theorem nt_1044  : ∀ k : Nat, 12000 ≤ k ∧ k < 13000 → ¬ (k = 8002 ∨ k = 8003 ∨ k = 8004 ∨ k = 8001 ∨ k = 6000 ∨ k = 6001 ∨ k = 6002 ∨ k = 13000 ∨ k = 5000) := by intro k hk hT; omega
theorem nt_1045  : ∀ k : Nat, 1000 ≤ k ∧ k < 2000 → ¬ (k = 8002 ∨ k = 8003 ∨ k = 8004 ∨ k = 8001 ∨ k = 6000 ∨ k = 6001 ∨ k = 6002 ∨ k = 13000 ∨ k = 5000) := by intro k hk hT; omega
theorem nt_1046  : ∀ k : Nat, 2000 ≤ k ∧ k < 3000 → ¬ (k = 8002 ∨ k = 8003 ∨ k = 8004 ∨ k = 8001 ∨ k = 6000 ∨ k = 6001 ∨ k = 6002 ∨ k = 13000 ∨ k = 5000) := by intro k hk hT; omega
theorem nt_1047  : ∀ k : Nat, 14000 ≤ k ∧ k < 15000 → ¬ (k = 8002 ∨ k = 8003 ∨ k = 8004 ∨ k = 8001 ∨ k = 6000 ∨ k = 6001 ∨ k = 6002 ∨ k = 13000 ∨ k = 5000) := by intro k hk hT; omega
theorem nt_1048  : ∀ k : Nat, 7000 ≤ k ∧ k < 8000 → ¬ (k = 8002 ∨ k = 8003 ∨ k = 8004 ∨ k = 8001 ∨ k = 6000 ∨ k = 6001 ∨ k = 6002 ∨ k = 13000 ∨ k = 5000) := by intro k hk hT; omega
theorem nt_1049  : ∀ k : Nat, 3000 ≤ k ∧ k < 4000 → ¬ (k = 8002 ∨ k = 8003 ∨ k = 8004 ∨ k = 8001 ∨ k = 6000 ∨ k = 6001 ∨ k = 6002 ∨ k = 13000 ∨ k = 5000) := by intro k hk hT; omega
theorem nt_1050  : ∀ k : Nat, 8000 ≤ k ∧ k < 8001 → ¬ (k = 8002 ∨ k = 8003 ∨ k = 8004 ∨ k = 8001 ∨ k = 6000 ∨ k = 6001 ∨ k = 6002 ∨ k = 13000 ∨ k = 5000) := by intro k hk hT; omega
theorem nt_1051  : ∀ k : Nat, 9000 ≤ k ∧ k < 10000 → ¬ (k = 8002 ∨ k = 8003 ∨ k = 8004 ∨ k = 8001 ∨ k = 6000 ∨ k = 6001 ∨ k = 6002 ∨ k = 13000 ∨ k = 5000) := by intro k hk hT; omega
theorem nt_1052  : ∀ k : Nat, 10000 ≤ k ∧ k < 11000 → ¬ (k = 8002 ∨ k = 8003 ∨ k = 8004 ∨ k = 8001 ∨ k = 6000 ∨ k = 6001 ∨ k = 6002 ∨ k = 13000 ∨ k = 5000) := by intro k hk hT; omega
theorem nt_1053  : ∀ k : Nat, 11000 ≤ k ∧ k < 12000 → ¬ (k = 8002 ∨ k = 8003 ∨ k = 8004 ∨ k = 8001 ∨ k = 6000 ∨ k = 6001 ∨ k = 6002 ∨ k = 13000 ∨ k = 5000) := by intro k hk hT; omega
theorem nt_1054  : ∀ k : Nat, 15000 ≤ k ∧ k < 16000 → ¬ (k = 8002 ∨ k = 8003 ∨ k = 8004 ∨ k = 8001 ∨ k = 6000 ∨ k = 6001 ∨ k = 6002 ∨ k = 13000 ∨ k = 5000) := by intro k hk hT; omega
theorem nt_1055  : ∀ k : Nat, 0 ≤ k ∧ k < 1 → ¬ (k = 8002 ∨ k = 8003 ∨ k = 8004 ∨ k = 8001 ∨ k = 6000 ∨ k = 6001 ∨ k = 6002 ∨ k = 13000 ∨ k = 5000) := by intro k hk hT; omega
set_option maxHeartbeats 4000000 in
set_option maxRecDepth 100000 in
theorem i_X11_shorter {l : Launch} {D : va_G} {cy : Nat → ClassId} {b : Nat} {f : gMem} {own : Nat → Nat} {xo : Nat} {da : Int32} {fcn : Int32} {csz : Int32} {sz : Int32} {len : Int32} {ln : Int32} {wz : Int32} {lo : Int32} {tg : Nat → Int32} {weg : Nat → Int32} {stg : Nat → Int32} {tpg : Nat → Int32} {CN : Nat → Int32 → Int32 → (Nat → Int32) → (Nat → Int32) → Prop} {eg : Nat → Int32} {thg : Nat → Int32} {LN : Nat → Nat → Int32 → Int32 → Int32 → Int32 → Int64 → (Nat → Int32) → (Nat → Int32) → Prop} {ne : Nat} {x : Int32} (hI : xI cy own xo da fcn csz sz len ln wz lo tg weg stg tpg CN eg thg LN ne f)  : gC l D cy b yX11_shorter cX11_shorter 3 (some .int) 48 3 604 [.ref xo, .int x] f (pI fun r f2 => ∃ (own2 : Nat → Nat) (fcn2 : Int32) (CN2 : Nat → Int32 → Int32 → (Nat → Int32) → (Nat → Int32) → Prop), xI cy own2 xo da fcn2 csz sz len ln wz lo tg weg stg tpg CN2 eg thg LN ne f2 ∧ kp0 own own2 f f2) := by
  obtain ⟨ch, sc, tp, ou, fm, dr, dt_, rd, te, la, lg, co, wo, fmg, lvg, HcXo, HcCh, HcTp, HcOu, HcFa, HcFm, HcDr, HcOt, HcRt, HcLa, HcLg, HcCo, HcLv, HcWo, HcFn, HcLn⟩ := id hI
  obtain ⟨og_xo, hxo, mcXo⟩ := id HcXo
  obtain ⟨og_fm, hfm⟩ := id HcFa
  obtain ⟨wk, bc, w1, w2, ws, wv, bg, wg, wh, ⟨og_la, og_bc, og_wk, og_w1, og_w2⟩, hla, hbc, hwk, hw1, hw2⟩ := id HcLa
  obtain ⟨d1, d2, ds, dv, dg, dh, ⟨og_dr, og_d1, og_d2⟩, hdr, hd1, hd2⟩ := id HcDr
  refine gC_of (by decide) (Nat.le_of_ble_eq_true rfl) ?_
  show gG l _ _ _ D cy b cX11_shorter 3 _ RX11 "shorter" 0 0 f 0 [(0, .ref xo), (1, .int x)] []
  refine gz_aload_n dX11_shorter_0 rfl rfl ?_
  refine gz_iload_n dX11_shorter_1 rfl rfl ?_
  refine scX11_126 (k_X11_formAt (x := x) hxo hfm) hxo ⟨(Nat.le_of_ble_eq_true rfl), (Nat.le_of_ble_eq_true rfl)⟩ ⟨(by simp only [gRm]; omega), (by simp only [gRm]; omega)⟩ rfl rfl (Nat.le_of_ble_eq_true rfl) dX11_shorter_2 ?_
  rintro u9 f9 ⟨z9, y9⟩; rw [z9, y9]
  cases hA2 : formF fcn fmg x with
  | none =>
    refine gz_ev (w := .null) rfl ?_
    refine gz_astore_nN (lv' := [(2, .null), (0, .ref xo), (1, .int x)]) dX11_shorter_5 rfl (by decide) rfl ?_
    refine gz_aload_nN dX11_shorter_6 rfl rfl ?_
    refine gz_ifnullN (tgt := 19) dX11_shorter_7 (by decide) ?_
    refine gz_iconst (v := (-1)) dX11_shorter_19 (by decide) ?_
    exact gz_iret rfl dX11_shorter_20 (by omega) (by omega) (⟨_, rfl, own, _, _, hI, kp0_rf⟩)
  | some p =>
    refine gz_ev (w := .ref p) rfl ?_
    have hip := (formF_some hA2).1
    have hjp := (formF_some hA2).2
    obtain ⟨c1, c2, n1, n2, s, v, g, h, ⟨⟨og_p, og_c1, og_c2⟩, hp, hc1, hc2, hs, hv, hFI⟩, hCN⟩ := HcFm _ _ hip hjp
    refine gz_astore_n (lv' := [(2, .ref p), (0, .ref xo), (1, .int x)]) dX11_shorter_5 rfl (by decide) rfl ?_
    refine gz_aload_n dX11_shorter_6 rfl rfl ?_
    refine gz_ifnull dX11_shorter_7 ?_
    refine gz_aload_n dX11_shorter_10 rfl rfl ?_
    refine sgX11_116 hxo rfl dX11_shorter_11 ?_
    refine gz_bipush (v := 20) dX11_shorter_14 (by decide) ?_
    refine gz_icmp_lt (tgt := 21) dX11_shorter_16 (by decide) (fun c_16 => ?_) (fun c_16 => ?_)
    ·
      refine gz_aload_n dX11_shorter_21 rfl rfl ?_
      refine sgX11_65 hxo rfl dX11_shorter_22 ?_
      refine gz_aload_n dX11_shorter_25 rfl rfl ?_
      refine gz_aload_n dX11_shorter_26 rfl rfl ?_
      refine sgX11_37 hxo rfl dX11_shorter_27 ?_
      refine scX11_134 (k_X3_shorten hla hbc hwk hw1 hw2 hp hc1 hc2 hdr hd1 hd2 hs hv ⟨(tgn og_wk og_p (by omega)), (tgn og_wk og_dr (by decide)), (tgn og_p og_dr (by omega)), (tgn og_w1 og_w2 (by decide)), (tgn og_w1 og_c1 (by omega)), (tgn og_w1 og_c2 (by omega)), (tgn og_w1 og_d1 (by decide)), (tgn og_w1 og_d2 (by decide)), (tgn og_w1 og_bc (by decide)), (tgn og_w2 og_c1 (by omega)), (tgn og_w2 og_c2 (by omega)), (tgn og_w2 og_d1 (by decide)), (tgn og_w2 og_d2 (by decide)), (tgn og_w2 og_bc (by decide)), (tgn og_c1 og_c2 (by omega)), (tgn og_c1 og_d1 (by omega)), (tgn og_c1 og_d2 (by omega)), (tgn og_c1 og_bc (by omega)), (tgn og_c2 og_d1 (by omega)), (tgn og_c2 og_d2 (by omega)), (tgn og_c2 og_bc (by omega)), (tgn og_d1 og_d2 (by decide)), (tgn og_d1 og_bc (by decide)), (tgn og_d2 og_bc (by decide))⟩ ⟨by decide, by decide⟩ ⟨by decide, by decide⟩) hla ⟨(Nat.le_of_ble_eq_true rfl), (Nat.le_of_ble_eq_true rfl)⟩ ⟨(by simp only [gRm]; omega), (by simp only [gRm]; omega)⟩ rfl rfl (Nat.le_of_ble_eq_true rfl) dX11_shorter_30 ?_
      rintro f1 ⟨s_1, v_1, s__1, v__1, g_1, h_1, g__1, h__1, b_1, hwk_1, hw1_1, hw2_1, hbc_1, hdr_1, hd1_1, hd2_1, hs_1, hv_1, hF_1, hr1⟩
      have hxo_1 : f1 xo = some (.inr (11, [.ref ch, .ref tp, .ref ou, .ref fm, .ref dr, .ref dt_, .ref rd, .ref te, .ref la, .ref lg, .ref co, .ref wo, .int fcn])) := hr1 _ _ hxo (by simp only [List.mem_cons, List.not_mem_nil, or_false, not_or]; exact ⟨(tgn og_xo og_wk (by decide)), (tgn og_xo og_w1 (by decide)), (tgn og_xo og_w2 (by decide)), (tgn og_xo og_bc (by decide)), (tgn og_xo og_dr (by decide)), (tgn og_xo og_d1 (by decide)), (tgn og_xo og_d2 (by decide))⟩)
      have hfm_1 : f1 fm = some (.inl (cy 4, 20, .inr (.inr (.inr (.inr (fmg)))))) := hr1 _ _ hfm (by simp only [List.mem_cons, List.not_mem_nil, or_false, not_or]; exact ⟨(tgn og_fm og_wk (by decide)), (tgn og_fm og_w1 (by decide)), (tgn og_fm og_w2 (by decide)), (tgn og_fm og_bc (by decide)), (tgn og_fm og_dr (by decide)), (tgn og_fm og_d1 (by decide)), (tgn og_fm og_d2 (by decide))⟩)
      have hla_1 : f1 la = some (.inr (3, [.ref wk, .ref bc])) := hr1 _ _ hla (by simp only [List.mem_cons, List.not_mem_nil, or_false, not_or]; exact ⟨(tgn og_la og_wk (by decide)), (tgn og_la og_w1 (by decide)), (tgn og_la og_w2 (by decide)), (tgn og_la og_bc (by decide)), (tgn og_la og_dr (by decide)), (tgn og_la og_d1 (by decide)), (tgn og_la og_d2 (by decide))⟩)
      have hp_1 : f1 p = some (.inr (2, [.ref c1, .ref c2, .int s, .int v])) := hr1 _ _ hp (by simp only [List.mem_cons, List.not_mem_nil, or_false, not_or]; exact ⟨(tgn og_p og_wk (by omega)), (tgn og_p og_w1 (by omega)), (tgn og_p og_w2 (by omega)), (tgn og_p og_bc (by omega)), (tgn og_p og_dr (by omega)), (tgn og_p og_d1 (by omega)), (tgn og_p og_d2 (by omega))⟩)
      have hc1_1 : f1 c1 = some (.inl (cy 0, n1, .inl (g))) := hr1 _ _ hc1 (by simp only [List.mem_cons, List.not_mem_nil, or_false, not_or]; exact ⟨(tgn og_c1 og_wk (by omega)), (tgn og_c1 og_w1 (by omega)), (tgn og_c1 og_w2 (by omega)), (tgn og_c1 og_bc (by omega)), (tgn og_c1 og_dr (by omega)), (tgn og_c1 og_d1 (by omega)), (tgn og_c1 og_d2 (by omega))⟩)
      have hc2_1 : f1 c2 = some (.inl (cy 0, n2, .inl (h))) := hr1 _ _ hc2 (by simp only [List.mem_cons, List.not_mem_nil, or_false, not_or]; exact ⟨(tgn og_c2 og_wk (by omega)), (tgn og_c2 og_w1 (by omega)), (tgn og_c2 og_w2 (by omega)), (tgn og_c2 og_bc (by omega)), (tgn og_c2 og_dr (by omega)), (tgn og_c2 og_d1 (by omega)), (tgn og_c2 og_d2 (by omega))⟩)
      refine gz_aload_n dX11_shorter_33 rfl rfl ?_
      have hfc : fcn.toInt < 20 := by have e20 : (20 : Int32).toInt = 20 := rfl; have hq0 := c_16; simp only [fl_lt] at hq0; omega
      refine scX11_123 (k_X11_keepY hxo_1 hfm_1 hdr_1 hd1_1 hd2_1 hs_1 hv_1 ⟨mcXo.1, hfc⟩) hxo_1 ⟨(Nat.le_of_ble_eq_true rfl), (Nat.le_of_ble_eq_true rfl)⟩ ⟨(by simp only [gRm]; omega), (by simp only [gRm]; omega)⟩ rfl rfl (Nat.le_of_ble_eq_true rfl) dX11_shorter_34 ?_
      rintro r_2 f2 ⟨q, qa, qb, g2, h2_, hxo_2, hfm_2, hqq, hqa, hqb, hg, hh_, hn3, hr2⟩
      have hnn : ∀ z : Nat, f1 z = none → f z = none := fun z hz => fr_none (S := [wk, w1, w2, bc, dr, d1, d2]) ((fr_tr fr_rf (fr_mo hr1 (by simp)))) (by intro x0 hx0; simp only [List.mem_cons, List.not_mem_nil, or_false] at hx0; rcases hx0 with e0 | e0 | e0 | e0 | e0 | e0 | e0; exact ⟨_, by rw [e0]; exact hwk_1⟩; exact ⟨_, by rw [e0]; exact hw1_1⟩; exact ⟨_, by rw [e0]; exact hw2_1⟩; exact ⟨_, by rw [e0]; exact hbc_1⟩; exact ⟨_, by rw [e0]; exact hdr_1⟩; exact ⟨_, by rw [e0]; exact hd1_1⟩; exact ⟨_, by rw [e0]; exact hd2_1⟩) hz
      obtain ⟨own2, ho2⟩ : ∃ own2 : Nat → Nat, own2 = va_up (va_up (va_up own q (4000 + 3 * Int32.toNatClampNeg fcn)) qa ((4000 + 3 * Int32.toNatClampNeg fcn) + 1)) qb ((4000 + 3 * Int32.toNatClampNeg fcn) + 2) := ⟨_, rfl⟩
      have hO : ∀ z e, f z = some e → own2 z = own z := by rw [ho2]; exact own_up (own_up (own_up (fun _ _ _ => rfl) (hnn _ hn3.1)) (hnn _ hn3.2.1)) (hnn _ hn3.2.2.1)
      have hK : kp own own2 (fun k => k = 8002 ∨ k = 8003 ∨ k = 8004 ∨ k = 8001 ∨ k = 6000 ∨ k = 6001 ∨ k = 6002 ∨ k = 13000 ∨ k = 5000) f f2 := by
        refine kp_fr (S := [wk, w1, w2, bc, dr, d1, d2, xo, fm]) ((fr_tr (fr_tr fr_rf (fr_mo hr1 (by simp))) (fr_mo hr2 (by simp)))) hO ?_
        intro x0 hx0
        simp only [List.mem_cons, List.not_mem_nil, or_false] at hx0
        rcases hx0 with e0 | e0 | e0 | e0 | e0 | e0 | e0 | e0 | e0
        · rw [e0]; show (own wk) = 8002 ∨ (own wk) = 8003 ∨ (own wk) = 8004 ∨ (own wk) = 8001 ∨ (own wk) = 6000 ∨ (own wk) = 6001 ∨ (own wk) = 6002 ∨ (own wk) = 13000 ∨ (own wk) = 5000; rw [og_wk]; decide
        · rw [e0]; show (own w1) = 8002 ∨ (own w1) = 8003 ∨ (own w1) = 8004 ∨ (own w1) = 8001 ∨ (own w1) = 6000 ∨ (own w1) = 6001 ∨ (own w1) = 6002 ∨ (own w1) = 13000 ∨ (own w1) = 5000; rw [og_w1]; decide
        · rw [e0]; show (own w2) = 8002 ∨ (own w2) = 8003 ∨ (own w2) = 8004 ∨ (own w2) = 8001 ∨ (own w2) = 6000 ∨ (own w2) = 6001 ∨ (own w2) = 6002 ∨ (own w2) = 13000 ∨ (own w2) = 5000; rw [og_w2]; decide
        · rw [e0]; show (own bc) = 8002 ∨ (own bc) = 8003 ∨ (own bc) = 8004 ∨ (own bc) = 8001 ∨ (own bc) = 6000 ∨ (own bc) = 6001 ∨ (own bc) = 6002 ∨ (own bc) = 13000 ∨ (own bc) = 5000; rw [og_bc]; decide
        · rw [e0]; show (own dr) = 8002 ∨ (own dr) = 8003 ∨ (own dr) = 8004 ∨ (own dr) = 8001 ∨ (own dr) = 6000 ∨ (own dr) = 6001 ∨ (own dr) = 6002 ∨ (own dr) = 13000 ∨ (own dr) = 5000; rw [og_dr]; decide
        · rw [e0]; show (own d1) = 8002 ∨ (own d1) = 8003 ∨ (own d1) = 8004 ∨ (own d1) = 8001 ∨ (own d1) = 6000 ∨ (own d1) = 6001 ∨ (own d1) = 6002 ∨ (own d1) = 13000 ∨ (own d1) = 5000; rw [og_d1]; decide
        · rw [e0]; show (own d2) = 8002 ∨ (own d2) = 8003 ∨ (own d2) = 8004 ∨ (own d2) = 8001 ∨ (own d2) = 6000 ∨ (own d2) = 6001 ∨ (own d2) = 6002 ∨ (own d2) = 13000 ∨ (own d2) = 5000; rw [og_d2]; decide
        · rw [e0]; show (own xo) = 8002 ∨ (own xo) = 8003 ∨ (own xo) = 8004 ∨ (own xo) = 8001 ∨ (own xo) = 6000 ∨ (own xo) = 6001 ∨ (own xo) = 6002 ∨ (own xo) = 13000 ∨ (own xo) = 5000; rw [og_xo]; decide
        · rw [e0]; show (own fm) = 8002 ∨ (own fm) = 8003 ∨ (own fm) = 8004 ∨ (own fm) = 8001 ∨ (own fm) = 6000 ∨ (own fm) = 6001 ∨ (own fm) = 6002 ∨ (own fm) = 13000 ∨ (own fm) = 5000; rw [og_fm]; decide
      have hq1 : own2 q = (4000 + 3 * Int32.toNatClampNeg fcn) := by rw [ho2, va_up_ne _ _ (cne hqq hqb (by simp)), va_up_ne _ _ (cne hqq hqa (by simp)), va_up_self]
      have hq2 : own2 qa = (4000 + 3 * Int32.toNatClampNeg fcn) + 1 := by rw [ho2, va_up_ne _ _ hn3.2.2.2, va_up_self]
      have hq3 : own2 qb = (4000 + 3 * Int32.toNatClampNeg fcn) + 2 := by rw [ho2, va_up_self]
      have hsv := And.intro hs_1 hv_1
      have hNew : cFo cy own2 f2 (4000 + 3 * Int32.toNatClampNeg fcn) q qa qb (13 * s__1.toInt.toNat) (2 * v__1.toInt.toNat) s__1 v__1 g2 h2_ := ⟨⟨hq1, hq2, hq3⟩, hqq, hqa, hqb, ⟨hsv.1.1, by have := hsv.1; omega, by have := hsv.1; omega⟩, ⟨hsv.2.1, by have := hsv.2; omega, by have := hsv.2; omega⟩, fI_cg hsv.1.1 hg hF_1⟩
      have hf1 : (fcn + 1).toInt = fcn.toInt + 1 := T_add (rfl : fcn.toInt = fcn.toInt) (rfl : (1 : Int32).toInt = 1) (by omega)
      exact gz_iret rfl dX11_shorter_37 (by omega) (by omega) (⟨_, rfl, own2, _, _, ⟨_, _, _, _, _, _, _, _, _, _, _, _, _, _, _, ⟨((hO _ _ hxo).trans og_xo), hxo_2, ⟨by omega, by omega⟩⟩, (kCh_kp HcCh hK nt_1045), (kTp_kp HcTp hK nt_1046), (kOu_kp HcOu hK nt_1047), ⟨((hO _ _ hfm).trans og_fm), hfm_2⟩, (cFm_new (cFm_kp HcFm hK nt_1043) hNew (P := fun _ _ _ _ => True) trivial), ⟨_, _, _, _, _, _, ⟨⟨((hO _ _ hdr).trans og_dr), ((hO _ _ hd1).trans og_d1), ((hO _ _ hd2).trans og_d2)⟩, (hr2 _ _ hdr_1 (by simp only [List.mem_cons, List.not_mem_nil, or_false, not_or]; exact ⟨tgn og_dr og_xo (by decide), tgn og_dr og_fm (by decide)⟩)), (hr2 _ _ hd1_1 (by simp only [List.mem_cons, List.not_mem_nil, or_false, not_or]; exact ⟨tgn og_d1 og_xo (by decide), tgn og_d1 og_fm (by decide)⟩)), (hr2 _ _ hd2_1 (by simp only [List.mem_cons, List.not_mem_nil, or_false, not_or]; exact ⟨tgn og_d2 og_xo (by decide), tgn og_d2 og_fm (by decide)⟩))⟩⟩, (kOt_kp HcOt hK nt_1048), (kRt_kp HcRt hK nt_1049), ⟨_, _, _, _, _, _, _, _, _, ⟨⟨((hO _ _ hla).trans og_la), ((hO _ _ hbc).trans og_bc), ((hO _ _ hwk).trans og_wk), ((hO _ _ hw1).trans og_w1), ((hO _ _ hw2).trans og_w2)⟩, (hK.2 _ _ hla (by show ¬ ((own la) = 8002 ∨ (own la) = 8003 ∨ (own la) = 8004 ∨ (own la) = 8001 ∨ (own la) = 6000 ∨ (own la) = 6001 ∨ (own la) = 6002 ∨ (own la) = 13000 ∨ (own la) = 5000); rw [og_la]; exact nt_1050 _ ⟨Nat.le_refl _, Nat.lt_succ_self _⟩)), (hr2 _ _ hbc_1 (by simp only [List.mem_cons, List.not_mem_nil, or_false, not_or]; exact ⟨tgn og_bc og_xo (by decide), tgn og_bc og_fm (by decide)⟩)), (hr2 _ _ hwk_1 (by simp only [List.mem_cons, List.not_mem_nil, or_false, not_or]; exact ⟨tgn og_wk og_xo (by decide), tgn og_wk og_fm (by decide)⟩)), (hr2 _ _ hw1_1 (by simp only [List.mem_cons, List.not_mem_nil, or_false, not_or]; exact ⟨tgn og_w1 og_xo (by decide), tgn og_w1 og_fm (by decide)⟩)), (hr2 _ _ hw2_1 (by simp only [List.mem_cons, List.not_mem_nil, or_false, not_or]; exact ⟨tgn og_w2 og_xo (by decide), tgn og_w2 og_fm (by decide)⟩))⟩⟩, (kLg_kp HcLg hK nt_1051), (kCo_kp HcCo hK nt_1052), (cLv_fm (cLv_kp HcLv hK nt_1044) (cFn_lv mcXo.1 HcFn)), (kWo_kp HcWo hK nt_1053 nt_1054), (cFn_up mcXo.1 hf1 HcFn), HcLn⟩, (kp_0 hK (nt_1055 0 ⟨Nat.le_refl _, Nat.lt_succ_self _⟩))⟩)
    ·
      refine gz_iconst (v := (-1)) dX11_shorter_19 (by decide) ?_
      exact gz_iret rfl dX11_shorter_20 (by omega) (by omega) (⟨_, rfl, own, _, _, hI, kp0_rf⟩)

theorem nt_1056  : ∀ k : Nat, 13000 ≤ k ∧ k < 14000 → ¬ (k = 8002 ∨ k = 8003 ∨ k = 8004 ∨ k = 8001 ∨ k = 6000 ∨ k = 6001 ∨ k = 6002 ∨ k = 7000 ∨ k = 7001 ∨ k = 7002) := by intro k hk hT; omega
theorem nt_1057  : ∀ k : Nat, 1000 ≤ k ∧ k < 2000 → ¬ (k = 8002 ∨ k = 8003 ∨ k = 8004 ∨ k = 8001 ∨ k = 6000 ∨ k = 6001 ∨ k = 6002 ∨ k = 7000 ∨ k = 7001 ∨ k = 7002) := by intro k hk hT; omega
theorem nt_1058  : ∀ k : Nat, 2000 ≤ k ∧ k < 3000 → ¬ (k = 8002 ∨ k = 8003 ∨ k = 8004 ∨ k = 8001 ∨ k = 6000 ∨ k = 6001 ∨ k = 6002 ∨ k = 7000 ∨ k = 7001 ∨ k = 7002) := by intro k hk hT; omega
theorem nt_1059  : ∀ k : Nat, 14000 ≤ k ∧ k < 15000 → ¬ (k = 8002 ∨ k = 8003 ∨ k = 8004 ∨ k = 8001 ∨ k = 6000 ∨ k = 6001 ∨ k = 6002 ∨ k = 7000 ∨ k = 7001 ∨ k = 7002) := by intro k hk hT; omega
theorem nt_1060  : ∀ k : Nat, 5000 ≤ k ∧ k < 6000 → ¬ (k = 8002 ∨ k = 8003 ∨ k = 8004 ∨ k = 8001 ∨ k = 6000 ∨ k = 6001 ∨ k = 6002 ∨ k = 7000 ∨ k = 7001 ∨ k = 7002) := by intro k hk hT; omega
theorem nt_1061  : ∀ k : Nat, 4000 ≤ k ∧ k < 5000 → ¬ (k = 8002 ∨ k = 8003 ∨ k = 8004 ∨ k = 8001 ∨ k = 6000 ∨ k = 6001 ∨ k = 6002 ∨ k = 7000 ∨ k = 7001 ∨ k = 7002) := by intro k hk hT; omega
theorem nt_1062  : ∀ k : Nat, 3000 ≤ k ∧ k < 4000 → ¬ (k = 8002 ∨ k = 8003 ∨ k = 8004 ∨ k = 8001 ∨ k = 6000 ∨ k = 6001 ∨ k = 6002 ∨ k = 7000 ∨ k = 7001 ∨ k = 7002) := by intro k hk hT; omega
theorem nt_1063  : ∀ k : Nat, 8000 ≤ k ∧ k < 8001 → ¬ (k = 8002 ∨ k = 8003 ∨ k = 8004 ∨ k = 8001 ∨ k = 6000 ∨ k = 6001 ∨ k = 6002 ∨ k = 7000 ∨ k = 7001 ∨ k = 7002) := by intro k hk hT; omega
theorem nt_1064  : ∀ k : Nat, 9000 ≤ k ∧ k < 10000 → ¬ (k = 8002 ∨ k = 8003 ∨ k = 8004 ∨ k = 8001 ∨ k = 6000 ∨ k = 6001 ∨ k = 6002 ∨ k = 7000 ∨ k = 7001 ∨ k = 7002) := by intro k hk hT; omega
theorem nt_1065  : ∀ k : Nat, 10000 ≤ k ∧ k < 11000 → ¬ (k = 8002 ∨ k = 8003 ∨ k = 8004 ∨ k = 8001 ∨ k = 6000 ∨ k = 6001 ∨ k = 6002 ∨ k = 7000 ∨ k = 7001 ∨ k = 7002) := by intro k hk hT; omega
theorem nt_1066  : ∀ k : Nat, 12000 ≤ k ∧ k < 13000 → ¬ (k = 8002 ∨ k = 8003 ∨ k = 8004 ∨ k = 8001 ∨ k = 6000 ∨ k = 6001 ∨ k = 6002 ∨ k = 7000 ∨ k = 7001 ∨ k = 7002) := by intro k hk hT; omega
theorem nt_1067  : ∀ k : Nat, 11000 ≤ k ∧ k < 12000 → ¬ (k = 8002 ∨ k = 8003 ∨ k = 8004 ∨ k = 8001 ∨ k = 6000 ∨ k = 6001 ∨ k = 6002 ∨ k = 7000 ∨ k = 7001 ∨ k = 7002) := by intro k hk hT; omega
theorem nt_1068  : ∀ k : Nat, 15000 ≤ k ∧ k < 16000 → ¬ (k = 8002 ∨ k = 8003 ∨ k = 8004 ∨ k = 8001 ∨ k = 6000 ∨ k = 6001 ∨ k = 6002 ∨ k = 7000 ∨ k = 7001 ∨ k = 7002) := by intro k hk hT; omega
theorem nt_1069  : ∀ k : Nat, 0 ≤ k ∧ k < 1 → ¬ (k = 8002 ∨ k = 8003 ∨ k = 8004 ∨ k = 8001 ∨ k = 6000 ∨ k = 6001 ∨ k = 6002 ∨ k = 7000 ∨ k = 7001 ∨ k = 7002) := by intro k hk hT; omega
set_option maxHeartbeats 4000000 in
set_option maxRecDepth 100000 in
theorem i_X11_same {l : Launch} {D : va_G} {cy : Nat → ClassId} {b : Nat} {f : gMem} {own : Nat → Nat} {xo : Nat} {da : Int32} {fcn : Int32} {csz : Int32} {sz : Int32} {len : Int32} {ln : Int32} {wz : Int32} {lo : Int32} {tg : Nat → Int32} {weg : Nat → Int32} {stg : Nat → Int32} {tpg : Nat → Int32} {CN : Nat → Int32 → Int32 → (Nat → Int32) → (Nat → Int32) → Prop} {eg : Nat → Int32} {thg : Nat → Int32} {LN : Nat → Nat → Int32 → Int32 → Int32 → Int32 → Int64 → (Nat → Int32) → (Nat → Int32) → Prop} {ne : Nat} {x y : Int32} (hI : xI cy own xo da fcn csz sz len ln wz lo tg weg stg tpg CN eg thg LN ne f)  : gC l D cy b yX11_same cX11_same 5 (some .int) 48 0 0 [.ref xo, .int x, .int y] f (pI fun r f2 => xI cy own xo da fcn csz sz len ln wz lo tg weg stg tpg CN eg thg LN ne f2 ∧ kp0 own own f f2) := by
  obtain ⟨ch, sc, tp, ou, fm, dr, dt_, rd, te, la, lg, co, wo, fmg, lvg, HcXo, HcCh, HcTp, HcOu, HcFa, HcFm, HcDr, HcOt, HcRt, HcLa, HcLg, HcCo, HcLv, HcWo, HcFn, HcLn⟩ := id hI
  obtain ⟨og_xo, hxo, mcXo⟩ := id HcXo
  obtain ⟨og_fm, hfm⟩ := id HcFa
  obtain ⟨wk, bc, w1, w2, ws, wv, bg, wg, wh, ⟨og_la, og_bc, og_wk, og_w1, og_w2⟩, hla, hbc, hwk, hw1, hw2⟩ := id HcLa
  obtain ⟨d1, d2, ds, dv, dg, dh, ⟨og_dr, og_d1, og_d2⟩, hdr, hd1, hd2⟩ := id HcDr
  obtain ⟨e1, e2, xs, xv, xg, xh, ⟨og_dt_, og_e1, og_e2⟩, hdt_, he1, he2⟩ := id HcOt
  refine gC_of (by decide) (Nat.le_of_ble_eq_true rfl) ?_
  show gG l _ _ _ D cy b cX11_same 5 _ RX11 "same" 0 0 f 0 [(0, .ref xo), (1, .int x), (2, .int y)] []
  refine gz_aload_n dX11_same_0 rfl rfl ?_
  refine gz_iload_n dX11_same_1 rfl rfl ?_
  refine scX11_126 (k_X11_formAt (x := x) hxo hfm) hxo ⟨(Nat.le_of_ble_eq_true rfl), (Nat.le_of_ble_eq_true rfl)⟩ ⟨(Nat.le_of_ble_eq_true rfl), (Nat.le_of_ble_eq_true rfl)⟩ rfl rfl (Nat.le_of_ble_eq_true rfl) dX11_same_2 ?_
  rintro u9 f9 ⟨z9, y9⟩; rw [z9, y9]
  cases hA2 : formF fcn fmg x with
  | none =>
    refine gz_ev (w := .null) rfl ?_
    refine gz_astore_nN (lv' := [(3, .null), (0, .ref xo), (1, .int x), (2, .int y)]) dX11_same_5 rfl (by decide) rfl ?_
    refine gz_aload_n dX11_same_6 rfl rfl ?_
    refine gz_iload_n dX11_same_7 rfl rfl ?_
    refine scX11_126 (k_X11_formAt (x := y) hxo hfm) hxo ⟨(Nat.le_of_ble_eq_true rfl), (Nat.le_of_ble_eq_true rfl)⟩ ⟨(Nat.le_of_ble_eq_true rfl), (Nat.le_of_ble_eq_true rfl)⟩ rfl rfl (Nat.le_of_ble_eq_true rfl) dX11_same_8 ?_
    rintro u9 f9 ⟨z9, y9⟩; rw [z9, y9]
    cases hA4 : formF fcn fmg y with
    | none =>
      refine gz_ev (w := .null) rfl ?_
      refine gz_astoreN (lv' := [(4, .null), (3, .null), (0, .ref xo), (1, .int x), (2, .int y)]) dX11_same_11 (by decide) rfl ?_
      refine gz_aload_nN dX11_same_13 rfl rfl ?_
      refine gz_ifnullN (tgt := 22) dX11_same_14 (by decide) ?_
      refine gz_iconst (v := (-1)) dX11_same_22 (by decide) ?_
      exact gz_iret rfl dX11_same_23 (Nat.le_of_ble_eq_true rfl) (Nat.le_of_ble_eq_true rfl) (⟨_, rfl, hI, kp0_rf⟩)
    | some py =>
      refine gz_ev (w := .ref py) rfl ?_
      have hipy := (formF_some hA4).1
      have hjpy := (formF_some hA4).2
      obtain ⟨c1y, c2y, n1y, n2y, sy, vy, gy, hy, ⟨⟨og_py, og_c1y, og_c2y⟩, hpy, hc1y, hc2y, hsy, hvy, hFIy⟩, hCNy⟩ := HcFm _ _ hipy hjpy
      refine gz_astore (lv' := [(4, .ref py), (3, .null), (0, .ref xo), (1, .int x), (2, .int y)]) dX11_same_11 (by decide) rfl ?_
      refine gz_aload_nN dX11_same_13 rfl rfl ?_
      refine gz_ifnullN (tgt := 22) dX11_same_14 (by decide) ?_
      refine gz_iconst (v := (-1)) dX11_same_22 (by decide) ?_
      exact gz_iret rfl dX11_same_23 (Nat.le_of_ble_eq_true rfl) (Nat.le_of_ble_eq_true rfl) (⟨_, rfl, hI, kp0_rf⟩)
  | some p =>
    refine gz_ev (w := .ref p) rfl ?_
    have hip := (formF_some hA2).1
    have hjp := (formF_some hA2).2
    obtain ⟨c1, c2, n1, n2, s, v, g, h, ⟨⟨og_p, og_c1, og_c2⟩, hp, hc1, hc2, hs, hv, hFI⟩, hCN⟩ := HcFm _ _ hip hjp
    refine gz_astore_n (lv' := [(3, .ref p), (0, .ref xo), (1, .int x), (2, .int y)]) dX11_same_5 rfl (by decide) rfl ?_
    refine gz_aload_n dX11_same_6 rfl rfl ?_
    refine gz_iload_n dX11_same_7 rfl rfl ?_
    refine scX11_126 (k_X11_formAt (x := y) hxo hfm) hxo ⟨(Nat.le_of_ble_eq_true rfl), (Nat.le_of_ble_eq_true rfl)⟩ ⟨(Nat.le_of_ble_eq_true rfl), (Nat.le_of_ble_eq_true rfl)⟩ rfl rfl (Nat.le_of_ble_eq_true rfl) dX11_same_8 ?_
    rintro u9 f9 ⟨z9, y9⟩; rw [z9, y9]
    cases hA6 : formF fcn fmg y with
    | none =>
      refine gz_ev (w := .null) rfl ?_
      refine gz_astoreN (lv' := [(4, .null), (3, .ref p), (0, .ref xo), (1, .int x), (2, .int y)]) dX11_same_11 (by decide) rfl ?_
      refine gz_aload_n dX11_same_13 rfl rfl ?_
      refine gz_ifnull dX11_same_14 ?_
      refine gz_aloadN dX11_same_17 rfl ?_
      refine gz_ifnonnullN dX11_same_19 ?_
      refine gz_iconst (v := (-1)) dX11_same_22 (by decide) ?_
      exact gz_iret rfl dX11_same_23 (Nat.le_of_ble_eq_true rfl) (Nat.le_of_ble_eq_true rfl) (⟨_, rfl, hI, kp0_rf⟩)
    | some py =>
      refine gz_ev (w := .ref py) rfl ?_
      have hipy := (formF_some hA6).1
      have hjpy := (formF_some hA6).2
      obtain ⟨c1y, c2y, n1y, n2y, sy, vy, gy, hy, ⟨⟨og_py, og_c1y, og_c2y⟩, hpy, hc1y, hc2y, hsy, hvy, hFIy⟩, hCNy⟩ := HcFm _ _ hipy hjpy
      refine gz_astore (lv' := [(4, .ref py), (3, .ref p), (0, .ref xo), (1, .int x), (2, .int y)]) dX11_same_11 (by decide) rfl ?_
      refine gz_aload_n dX11_same_13 rfl rfl ?_
      refine gz_ifnull dX11_same_14 ?_
      refine gz_aload dX11_same_17 rfl ?_
      refine gz_ifnonnull (tgt := 24) dX11_same_19 (by decide) ?_
      refine gz_aload_n dX11_same_24 rfl rfl ?_
      refine sgX11_65 hxo rfl dX11_same_25 ?_
      refine gz_aload_n dX11_same_28 rfl rfl ?_
      refine gz_aload_n dX11_same_29 rfl rfl ?_
      refine sgX11_37 hxo rfl dX11_same_30 ?_
      refine scX11_134 (k_X3_shorten hla hbc hwk hw1 hw2 hp hc1 hc2 hdr hd1 hd2 hs hv ⟨(tgn og_wk og_p (by omega)), (tgn og_wk og_dr (by decide)), (tgn og_p og_dr (by omega)), (tgn og_w1 og_w2 (by decide)), (tgn og_w1 og_c1 (by omega)), (tgn og_w1 og_c2 (by omega)), (tgn og_w1 og_d1 (by decide)), (tgn og_w1 og_d2 (by decide)), (tgn og_w1 og_bc (by decide)), (tgn og_w2 og_c1 (by omega)), (tgn og_w2 og_c2 (by omega)), (tgn og_w2 og_d1 (by decide)), (tgn og_w2 og_d2 (by decide)), (tgn og_w2 og_bc (by decide)), (tgn og_c1 og_c2 (by omega)), (tgn og_c1 og_d1 (by omega)), (tgn og_c1 og_d2 (by omega)), (tgn og_c1 og_bc (by omega)), (tgn og_c2 og_d1 (by omega)), (tgn og_c2 og_d2 (by omega)), (tgn og_c2 og_bc (by omega)), (tgn og_d1 og_d2 (by decide)), (tgn og_d1 og_bc (by decide)), (tgn og_d2 og_bc (by decide))⟩ ⟨by decide, by decide⟩ ⟨by decide, by decide⟩) hla ⟨(Nat.le_of_ble_eq_true rfl), (Nat.le_of_ble_eq_true rfl)⟩ ⟨(Nat.le_of_ble_eq_true rfl), (Nat.le_of_ble_eq_true rfl)⟩ rfl rfl (Nat.le_of_ble_eq_true rfl) dX11_same_33 ?_
      rintro f1 ⟨s_1, v_1, s__1, v__1, g_1, h_1, g__1, h__1, b_1, hwk_1, hw1_1, hw2_1, hbc_1, hdr_1, hd1_1, hd2_1, hs_1, hv_1, hF_1, hr1⟩
      have hxo_1 : f1 xo = some (.inr (11, [.ref ch, .ref tp, .ref ou, .ref fm, .ref dr, .ref dt_, .ref rd, .ref te, .ref la, .ref lg, .ref co, .ref wo, .int fcn])) := hr1 _ _ hxo (by simp only [List.mem_cons, List.not_mem_nil, or_false, not_or]; exact ⟨(tgn og_xo og_wk (by decide)), (tgn og_xo og_w1 (by decide)), (tgn og_xo og_w2 (by decide)), (tgn og_xo og_bc (by decide)), (tgn og_xo og_dr (by decide)), (tgn og_xo og_d1 (by decide)), (tgn og_xo og_d2 (by decide))⟩)
      have hfm_1 : f1 fm = some (.inl (cy 4, 20, .inr (.inr (.inr (.inr (fmg)))))) := hr1 _ _ hfm (by simp only [List.mem_cons, List.not_mem_nil, or_false, not_or]; exact ⟨(tgn og_fm og_wk (by decide)), (tgn og_fm og_w1 (by decide)), (tgn og_fm og_w2 (by decide)), (tgn og_fm og_bc (by decide)), (tgn og_fm og_dr (by decide)), (tgn og_fm og_d1 (by decide)), (tgn og_fm og_d2 (by decide))⟩)
      have hla_1 : f1 la = some (.inr (3, [.ref wk, .ref bc])) := hr1 _ _ hla (by simp only [List.mem_cons, List.not_mem_nil, or_false, not_or]; exact ⟨(tgn og_la og_wk (by decide)), (tgn og_la og_w1 (by decide)), (tgn og_la og_w2 (by decide)), (tgn og_la og_bc (by decide)), (tgn og_la og_dr (by decide)), (tgn og_la og_d1 (by decide)), (tgn og_la og_d2 (by decide))⟩)
      have hdt_1 : f1 dt_ = some (.inr (2, [.ref e1, .ref e2, .int xs, .int xv])) := hr1 _ _ hdt_ (by simp only [List.mem_cons, List.not_mem_nil, or_false, not_or]; exact ⟨(tgn og_dt_ og_wk (by decide)), (tgn og_dt_ og_w1 (by decide)), (tgn og_dt_ og_w2 (by decide)), (tgn og_dt_ og_bc (by decide)), (tgn og_dt_ og_dr (by decide)), (tgn og_dt_ og_d1 (by decide)), (tgn og_dt_ og_d2 (by decide))⟩)
      have he1_1 : f1 e1 = some (.inl (cy 0, 520, .inl (xg))) := hr1 _ _ he1 (by simp only [List.mem_cons, List.not_mem_nil, or_false, not_or]; exact ⟨(tgn og_e1 og_wk (by decide)), (tgn og_e1 og_w1 (by decide)), (tgn og_e1 og_w2 (by decide)), (tgn og_e1 og_bc (by decide)), (tgn og_e1 og_dr (by decide)), (tgn og_e1 og_d1 (by decide)), (tgn og_e1 og_d2 (by decide))⟩)
      have he2_1 : f1 e2 = some (.inl (cy 0, 80, .inl (xh))) := hr1 _ _ he2 (by simp only [List.mem_cons, List.not_mem_nil, or_false, not_or]; exact ⟨(tgn og_e2 og_wk (by decide)), (tgn og_e2 og_w1 (by decide)), (tgn og_e2 og_w2 (by decide)), (tgn og_e2 og_bc (by decide)), (tgn og_e2 og_dr (by decide)), (tgn og_e2 og_d1 (by decide)), (tgn og_e2 og_d2 (by decide))⟩)
      have hp_1 : f1 p = some (.inr (2, [.ref c1, .ref c2, .int s, .int v])) := hr1 _ _ hp (by simp only [List.mem_cons, List.not_mem_nil, or_false, not_or]; exact ⟨(tgn og_p og_wk (by omega)), (tgn og_p og_w1 (by omega)), (tgn og_p og_w2 (by omega)), (tgn og_p og_bc (by omega)), (tgn og_p og_dr (by omega)), (tgn og_p og_d1 (by omega)), (tgn og_p og_d2 (by omega))⟩)
      have hc1_1 : f1 c1 = some (.inl (cy 0, n1, .inl (g))) := hr1 _ _ hc1 (by simp only [List.mem_cons, List.not_mem_nil, or_false, not_or]; exact ⟨(tgn og_c1 og_wk (by omega)), (tgn og_c1 og_w1 (by omega)), (tgn og_c1 og_w2 (by omega)), (tgn og_c1 og_bc (by omega)), (tgn og_c1 og_dr (by omega)), (tgn og_c1 og_d1 (by omega)), (tgn og_c1 og_d2 (by omega))⟩)
      have hc2_1 : f1 c2 = some (.inl (cy 0, n2, .inl (h))) := hr1 _ _ hc2 (by simp only [List.mem_cons, List.not_mem_nil, or_false, not_or]; exact ⟨(tgn og_c2 og_wk (by omega)), (tgn og_c2 og_w1 (by omega)), (tgn og_c2 og_w2 (by omega)), (tgn og_c2 og_bc (by omega)), (tgn og_c2 og_dr (by omega)), (tgn og_c2 og_d1 (by omega)), (tgn og_c2 og_d2 (by omega))⟩)
      have hpy_1 : f1 py = some (.inr (2, [.ref c1y, .ref c2y, .int sy, .int vy])) := hr1 _ _ hpy (by simp only [List.mem_cons, List.not_mem_nil, or_false, not_or]; exact ⟨(tgn og_py og_wk (by omega)), (tgn og_py og_w1 (by omega)), (tgn og_py og_w2 (by omega)), (tgn og_py og_bc (by omega)), (tgn og_py og_dr (by omega)), (tgn og_py og_d1 (by omega)), (tgn og_py og_d2 (by omega))⟩)
      have hc1y_1 : f1 c1y = some (.inl (cy 0, n1y, .inl (gy))) := hr1 _ _ hc1y (by simp only [List.mem_cons, List.not_mem_nil, or_false, not_or]; exact ⟨(tgn og_c1y og_wk (by omega)), (tgn og_c1y og_w1 (by omega)), (tgn og_c1y og_w2 (by omega)), (tgn og_c1y og_bc (by omega)), (tgn og_c1y og_dr (by omega)), (tgn og_c1y og_d1 (by omega)), (tgn og_c1y og_d2 (by omega))⟩)
      have hc2y_1 : f1 c2y = some (.inl (cy 0, n2y, .inl (hy))) := hr1 _ _ hc2y (by simp only [List.mem_cons, List.not_mem_nil, or_false, not_or]; exact ⟨(tgn og_c2y og_wk (by omega)), (tgn og_c2y og_w1 (by omega)), (tgn og_c2y og_w2 (by omega)), (tgn og_c2y og_bc (by omega)), (tgn og_c2y og_dr (by omega)), (tgn og_c2y og_d1 (by omega)), (tgn og_c2y og_d2 (by omega))⟩)
      refine gz_aload_n dX11_same_36 rfl rfl ?_
      refine sgX11_65 hxo_1 rfl dX11_same_37 ?_
      refine gz_aload dX11_same_40 rfl ?_
      refine gz_aload_n dX11_same_42 rfl rfl ?_
      refine sgX11_41 hxo_1 rfl dX11_same_43 ?_
      refine scX11_134 (k_X3_shorten hla_1 hbc_1 hwk_1 hw1_1 hw2_1 hpy_1 hc1y_1 hc2y_1 hdt_1 he1_1 he2_1 hsy hvy ⟨(tgn og_wk og_py (by omega)), (tgn og_wk og_dt_ (by decide)), (tgn og_py og_dt_ (by omega)), (tgn og_w1 og_w2 (by decide)), (tgn og_w1 og_c1y (by omega)), (tgn og_w1 og_c2y (by omega)), (tgn og_w1 og_e1 (by decide)), (tgn og_w1 og_e2 (by decide)), (tgn og_w1 og_bc (by decide)), (tgn og_w2 og_c1y (by omega)), (tgn og_w2 og_c2y (by omega)), (tgn og_w2 og_e1 (by decide)), (tgn og_w2 og_e2 (by decide)), (tgn og_w2 og_bc (by decide)), (tgn og_c1y og_c2y (by omega)), (tgn og_c1y og_e1 (by omega)), (tgn og_c1y og_e2 (by omega)), (tgn og_c1y og_bc (by omega)), (tgn og_c2y og_e1 (by omega)), (tgn og_c2y og_e2 (by omega)), (tgn og_c2y og_bc (by omega)), (tgn og_e1 og_e2 (by decide)), (tgn og_e1 og_bc (by decide)), (tgn og_e2 og_bc (by decide))⟩ ⟨by decide, by decide⟩ ⟨by decide, by decide⟩) hla_1 ⟨(Nat.le_of_ble_eq_true rfl), (Nat.le_of_ble_eq_true rfl)⟩ ⟨(Nat.le_of_ble_eq_true rfl), (Nat.le_of_ble_eq_true rfl)⟩ rfl rfl (Nat.le_of_ble_eq_true rfl) dX11_same_46 ?_
      rintro f2 ⟨s_2, v_2, s__2, v__2, g_2, h_2, g__2, h__2, b_2, hwk_2, hw1_2, hw2_2, hbc_2, hdt_2, he1_2, he2_2, hs_2, hv_2, hF_2, hr2⟩
      have hxo_2 : f2 xo = some (.inr (11, [.ref ch, .ref tp, .ref ou, .ref fm, .ref dr, .ref dt_, .ref rd, .ref te, .ref la, .ref lg, .ref co, .ref wo, .int fcn])) := hr2 _ _ hxo_1 (by simp only [List.mem_cons, List.not_mem_nil, or_false, not_or]; exact ⟨(tgn og_xo og_wk (by decide)), (tgn og_xo og_w1 (by decide)), (tgn og_xo og_w2 (by decide)), (tgn og_xo og_bc (by decide)), (tgn og_xo og_dt_ (by decide)), (tgn og_xo og_e1 (by decide)), (tgn og_xo og_e2 (by decide))⟩)
      have hfm_2 : f2 fm = some (.inl (cy 4, 20, .inr (.inr (.inr (.inr (fmg)))))) := hr2 _ _ hfm_1 (by simp only [List.mem_cons, List.not_mem_nil, or_false, not_or]; exact ⟨(tgn og_fm og_wk (by decide)), (tgn og_fm og_w1 (by decide)), (tgn og_fm og_w2 (by decide)), (tgn og_fm og_bc (by decide)), (tgn og_fm og_dt_ (by decide)), (tgn og_fm og_e1 (by decide)), (tgn og_fm og_e2 (by decide))⟩)
      have hla_2 : f2 la = some (.inr (3, [.ref wk, .ref bc])) := hr2 _ _ hla_1 (by simp only [List.mem_cons, List.not_mem_nil, or_false, not_or]; exact ⟨(tgn og_la og_wk (by decide)), (tgn og_la og_w1 (by decide)), (tgn og_la og_w2 (by decide)), (tgn og_la og_bc (by decide)), (tgn og_la og_dt_ (by decide)), (tgn og_la og_e1 (by decide)), (tgn og_la og_e2 (by decide))⟩)
      have hp_2 : f2 p = some (.inr (2, [.ref c1, .ref c2, .int s, .int v])) := hr2 _ _ hp_1 (by simp only [List.mem_cons, List.not_mem_nil, or_false, not_or]; exact ⟨(tgn og_p og_wk (by omega)), (tgn og_p og_w1 (by omega)), (tgn og_p og_w2 (by omega)), (tgn og_p og_bc (by omega)), (tgn og_p og_dt_ (by omega)), (tgn og_p og_e1 (by omega)), (tgn og_p og_e2 (by omega))⟩)
      have hc1_2 : f2 c1 = some (.inl (cy 0, n1, .inl (g))) := hr2 _ _ hc1_1 (by simp only [List.mem_cons, List.not_mem_nil, or_false, not_or]; exact ⟨(tgn og_c1 og_wk (by omega)), (tgn og_c1 og_w1 (by omega)), (tgn og_c1 og_w2 (by omega)), (tgn og_c1 og_bc (by omega)), (tgn og_c1 og_dt_ (by omega)), (tgn og_c1 og_e1 (by omega)), (tgn og_c1 og_e2 (by omega))⟩)
      have hc2_2 : f2 c2 = some (.inl (cy 0, n2, .inl (h))) := hr2 _ _ hc2_1 (by simp only [List.mem_cons, List.not_mem_nil, or_false, not_or]; exact ⟨(tgn og_c2 og_wk (by omega)), (tgn og_c2 og_w1 (by omega)), (tgn og_c2 og_w2 (by omega)), (tgn og_c2 og_bc (by omega)), (tgn og_c2 og_dt_ (by omega)), (tgn og_c2 og_e1 (by omega)), (tgn og_c2 og_e2 (by omega))⟩)
      have hpy_2 : f2 py = some (.inr (2, [.ref c1y, .ref c2y, .int sy, .int vy])) := hr2 _ _ hpy_1 (by simp only [List.mem_cons, List.not_mem_nil, or_false, not_or]; exact ⟨(tgn og_py og_wk (by omega)), (tgn og_py og_w1 (by omega)), (tgn og_py og_w2 (by omega)), (tgn og_py og_bc (by omega)), (tgn og_py og_dt_ (by omega)), (tgn og_py og_e1 (by omega)), (tgn og_py og_e2 (by omega))⟩)
      have hc1y_2 : f2 c1y = some (.inl (cy 0, n1y, .inl (gy))) := hr2 _ _ hc1y_1 (by simp only [List.mem_cons, List.not_mem_nil, or_false, not_or]; exact ⟨(tgn og_c1y og_wk (by omega)), (tgn og_c1y og_w1 (by omega)), (tgn og_c1y og_w2 (by omega)), (tgn og_c1y og_bc (by omega)), (tgn og_c1y og_dt_ (by omega)), (tgn og_c1y og_e1 (by omega)), (tgn og_c1y og_e2 (by omega))⟩)
      have hc2y_2 : f2 c2y = some (.inl (cy 0, n2y, .inl (hy))) := hr2 _ _ hc2y_1 (by simp only [List.mem_cons, List.not_mem_nil, or_false, not_or]; exact ⟨(tgn og_c2y og_wk (by omega)), (tgn og_c2y og_w1 (by omega)), (tgn og_c2y og_w2 (by omega)), (tgn og_c2y og_bc (by omega)), (tgn og_c2y og_dt_ (by omega)), (tgn og_c2y og_e1 (by omega)), (tgn og_c2y og_e2 (by omega))⟩)
      have hdr_2 : f2 dr = some (.inr (2, [.ref d1, .ref d2, .int s__1, .int v__1])) := hr2 _ _ hdr_1 (by simp only [List.mem_cons, List.not_mem_nil, or_false, not_or]; exact ⟨(tgn og_dr og_wk (by decide)), (tgn og_dr og_w1 (by decide)), (tgn og_dr og_w2 (by decide)), (tgn og_dr og_bc (by decide)), (tgn og_dr og_dt_ (by decide)), (tgn og_dr og_e1 (by decide)), (tgn og_dr og_e2 (by decide))⟩)
      have hd1_2 : f2 d1 = some (.inl (cy 0, 520, .inl (g__1))) := hr2 _ _ hd1_1 (by simp only [List.mem_cons, List.not_mem_nil, or_false, not_or]; exact ⟨(tgn og_d1 og_wk (by decide)), (tgn og_d1 og_w1 (by decide)), (tgn og_d1 og_w2 (by decide)), (tgn og_d1 og_bc (by decide)), (tgn og_d1 og_dt_ (by decide)), (tgn og_d1 og_e1 (by decide)), (tgn og_d1 og_e2 (by decide))⟩)
      have hd2_2 : f2 d2 = some (.inl (cy 0, 80, .inl (h__1))) := hr2 _ _ hd2_1 (by simp only [List.mem_cons, List.not_mem_nil, or_false, not_or]; exact ⟨(tgn og_d2 og_wk (by decide)), (tgn og_d2 og_w1 (by decide)), (tgn og_d2 og_w2 (by decide)), (tgn og_d2 og_bc (by decide)), (tgn og_d2 og_dt_ (by decide)), (tgn og_d2 og_e1 (by decide)), (tgn og_d2 og_e2 (by decide))⟩)
      refine gz_aload_n dX11_same_49 rfl rfl ?_
      refine sgX11_65 hxo_2 rfl dX11_same_50 ?_
      refine gz_aload_n dX11_same_53 rfl rfl ?_
      refine sgX11_37 hxo_2 rfl dX11_same_54 ?_
      refine gz_aload_n dX11_same_57 rfl rfl ?_
      refine sgX11_41 hxo_2 rfl dX11_same_58 ?_
      refine scX11_138 (k_X3_sameEitherWay (la := la) hdr_2 hd1_2 hd2_2 hdt_2 he1_2 he2_2 hs_1 hv_1 hs_2 hv_2 hF_1) hla_2 ⟨(Nat.le_of_ble_eq_true rfl), (Nat.le_of_ble_eq_true rfl)⟩ ⟨(Nat.le_of_ble_eq_true rfl), (Nat.le_of_ble_eq_true rfl)⟩ rfl rfl (Nat.le_of_ble_eq_true rfl) dX11_same_61 ?_
      rintro r_s f9 ⟨hbs, y9⟩; rw [y9]
      refine gz_if_eq (tgt := 71) dX11_same_64 (by decide) (fun c_64 => ?_) (fun c_64 => ?_)
      ·
        refine gz_iconst (v := 0) dX11_same_71 (by decide) ?_
        have hK : kp own own (fun k => k = 8002 ∨ k = 8003 ∨ k = 8004 ∨ k = 8001 ∨ k = 6000 ∨ k = 6001 ∨ k = 6002 ∨ k = 7000 ∨ k = 7001 ∨ k = 7002) f f2 := by
          refine kp_fr (S := [wk, w1, w2, bc, dr, d1, d2, dt_, e1, e2]) ((fr_tr (fr_tr fr_rf (fr_mo hr1 (by simp))) (fr_mo hr2 (by simp)))) (fun _ _ _ => rfl) ?_
          intro x0 hx0
          simp only [List.mem_cons, List.not_mem_nil, or_false] at hx0
          rcases hx0 with e0 | e0 | e0 | e0 | e0 | e0 | e0 | e0 | e0 | e0
          · rw [e0]; show (own wk) = 8002 ∨ (own wk) = 8003 ∨ (own wk) = 8004 ∨ (own wk) = 8001 ∨ (own wk) = 6000 ∨ (own wk) = 6001 ∨ (own wk) = 6002 ∨ (own wk) = 7000 ∨ (own wk) = 7001 ∨ (own wk) = 7002; rw [og_wk]; decide
          · rw [e0]; show (own w1) = 8002 ∨ (own w1) = 8003 ∨ (own w1) = 8004 ∨ (own w1) = 8001 ∨ (own w1) = 6000 ∨ (own w1) = 6001 ∨ (own w1) = 6002 ∨ (own w1) = 7000 ∨ (own w1) = 7001 ∨ (own w1) = 7002; rw [og_w1]; decide
          · rw [e0]; show (own w2) = 8002 ∨ (own w2) = 8003 ∨ (own w2) = 8004 ∨ (own w2) = 8001 ∨ (own w2) = 6000 ∨ (own w2) = 6001 ∨ (own w2) = 6002 ∨ (own w2) = 7000 ∨ (own w2) = 7001 ∨ (own w2) = 7002; rw [og_w2]; decide
          · rw [e0]; show (own bc) = 8002 ∨ (own bc) = 8003 ∨ (own bc) = 8004 ∨ (own bc) = 8001 ∨ (own bc) = 6000 ∨ (own bc) = 6001 ∨ (own bc) = 6002 ∨ (own bc) = 7000 ∨ (own bc) = 7001 ∨ (own bc) = 7002; rw [og_bc]; decide
          · rw [e0]; show (own dr) = 8002 ∨ (own dr) = 8003 ∨ (own dr) = 8004 ∨ (own dr) = 8001 ∨ (own dr) = 6000 ∨ (own dr) = 6001 ∨ (own dr) = 6002 ∨ (own dr) = 7000 ∨ (own dr) = 7001 ∨ (own dr) = 7002; rw [og_dr]; decide
          · rw [e0]; show (own d1) = 8002 ∨ (own d1) = 8003 ∨ (own d1) = 8004 ∨ (own d1) = 8001 ∨ (own d1) = 6000 ∨ (own d1) = 6001 ∨ (own d1) = 6002 ∨ (own d1) = 7000 ∨ (own d1) = 7001 ∨ (own d1) = 7002; rw [og_d1]; decide
          · rw [e0]; show (own d2) = 8002 ∨ (own d2) = 8003 ∨ (own d2) = 8004 ∨ (own d2) = 8001 ∨ (own d2) = 6000 ∨ (own d2) = 6001 ∨ (own d2) = 6002 ∨ (own d2) = 7000 ∨ (own d2) = 7001 ∨ (own d2) = 7002; rw [og_d2]; decide
          · rw [e0]; show (own dt_) = 8002 ∨ (own dt_) = 8003 ∨ (own dt_) = 8004 ∨ (own dt_) = 8001 ∨ (own dt_) = 6000 ∨ (own dt_) = 6001 ∨ (own dt_) = 6002 ∨ (own dt_) = 7000 ∨ (own dt_) = 7001 ∨ (own dt_) = 7002; rw [og_dt_]; decide
          · rw [e0]; show (own e1) = 8002 ∨ (own e1) = 8003 ∨ (own e1) = 8004 ∨ (own e1) = 8001 ∨ (own e1) = 6000 ∨ (own e1) = 6001 ∨ (own e1) = 6002 ∨ (own e1) = 7000 ∨ (own e1) = 7001 ∨ (own e1) = 7002; rw [og_e1]; decide
          · rw [e0]; show (own e2) = 8002 ∨ (own e2) = 8003 ∨ (own e2) = 8004 ∨ (own e2) = 8001 ∨ (own e2) = 6000 ∨ (own e2) = 6001 ∨ (own e2) = 6002 ∨ (own e2) = 7000 ∨ (own e2) = 7001 ∨ (own e2) = 7002; rw [og_e2]; decide
        exact gz_iret rfl dX11_same_72 (Nat.le_of_ble_eq_true rfl) (Nat.le_of_ble_eq_true rfl) (⟨_, rfl, ⟨_, _, _, _, _, _, _, _, _, _, _, _, _, _, _, (cXo_kp HcXo hK nt_1056), (kCh_kp HcCh hK nt_1057), (kTp_kp HcTp hK nt_1058), (kOu_kp HcOu hK nt_1059), (cFa_kp HcFa hK nt_1060), (cFm_kp HcFm hK nt_1061), ⟨_, _, _, _, _, _, ⟨⟨og_dr, og_d1, og_d2⟩, hdr_2, hd1_2, hd2_2⟩⟩, ⟨_, _, _, _, _, _, ⟨⟨og_dt_, og_e1, og_e2⟩, hdt_2, he1_2, he2_2⟩⟩, (kRt_kp HcRt hK nt_1062), ⟨_, _, _, _, _, _, _, _, _, ⟨⟨og_la, og_bc, og_wk, og_w1, og_w2⟩, (hK.2 _ _ hla (by show ¬ ((own la) = 8002 ∨ (own la) = 8003 ∨ (own la) = 8004 ∨ (own la) = 8001 ∨ (own la) = 6000 ∨ (own la) = 6001 ∨ (own la) = 6002 ∨ (own la) = 7000 ∨ (own la) = 7001 ∨ (own la) = 7002); rw [og_la]; exact nt_1063 _ ⟨Nat.le_refl _, Nat.lt_succ_self _⟩)), hbc_2, hwk_2, hw1_2, hw2_2⟩⟩, (kLg_kp HcLg hK nt_1064), (kCo_kp HcCo hK nt_1065), (cLv_kp HcLv hK nt_1066), (kWo_kp HcWo hK nt_1067 nt_1068), HcFn, HcLn⟩, (kp_0 hK (nt_1069 0 ⟨Nat.le_refl _, Nat.lt_succ_self _⟩))⟩)
      ·
        refine gz_iconst (v := 1) dX11_same_67 (by decide) ?_
        refine gz_goto (tgt := 72) dX11_same_68 (by decide) ?_
        have hK : kp own own (fun k => k = 8002 ∨ k = 8003 ∨ k = 8004 ∨ k = 8001 ∨ k = 6000 ∨ k = 6001 ∨ k = 6002 ∨ k = 7000 ∨ k = 7001 ∨ k = 7002) f f2 := by
          refine kp_fr (S := [wk, w1, w2, bc, dr, d1, d2, dt_, e1, e2]) ((fr_tr (fr_tr fr_rf (fr_mo hr1 (by simp))) (fr_mo hr2 (by simp)))) (fun _ _ _ => rfl) ?_
          intro x0 hx0
          simp only [List.mem_cons, List.not_mem_nil, or_false] at hx0
          rcases hx0 with e0 | e0 | e0 | e0 | e0 | e0 | e0 | e0 | e0 | e0
          · rw [e0]; show (own wk) = 8002 ∨ (own wk) = 8003 ∨ (own wk) = 8004 ∨ (own wk) = 8001 ∨ (own wk) = 6000 ∨ (own wk) = 6001 ∨ (own wk) = 6002 ∨ (own wk) = 7000 ∨ (own wk) = 7001 ∨ (own wk) = 7002; rw [og_wk]; decide
          · rw [e0]; show (own w1) = 8002 ∨ (own w1) = 8003 ∨ (own w1) = 8004 ∨ (own w1) = 8001 ∨ (own w1) = 6000 ∨ (own w1) = 6001 ∨ (own w1) = 6002 ∨ (own w1) = 7000 ∨ (own w1) = 7001 ∨ (own w1) = 7002; rw [og_w1]; decide
          · rw [e0]; show (own w2) = 8002 ∨ (own w2) = 8003 ∨ (own w2) = 8004 ∨ (own w2) = 8001 ∨ (own w2) = 6000 ∨ (own w2) = 6001 ∨ (own w2) = 6002 ∨ (own w2) = 7000 ∨ (own w2) = 7001 ∨ (own w2) = 7002; rw [og_w2]; decide
          · rw [e0]; show (own bc) = 8002 ∨ (own bc) = 8003 ∨ (own bc) = 8004 ∨ (own bc) = 8001 ∨ (own bc) = 6000 ∨ (own bc) = 6001 ∨ (own bc) = 6002 ∨ (own bc) = 7000 ∨ (own bc) = 7001 ∨ (own bc) = 7002; rw [og_bc]; decide
          · rw [e0]; show (own dr) = 8002 ∨ (own dr) = 8003 ∨ (own dr) = 8004 ∨ (own dr) = 8001 ∨ (own dr) = 6000 ∨ (own dr) = 6001 ∨ (own dr) = 6002 ∨ (own dr) = 7000 ∨ (own dr) = 7001 ∨ (own dr) = 7002; rw [og_dr]; decide
          · rw [e0]; show (own d1) = 8002 ∨ (own d1) = 8003 ∨ (own d1) = 8004 ∨ (own d1) = 8001 ∨ (own d1) = 6000 ∨ (own d1) = 6001 ∨ (own d1) = 6002 ∨ (own d1) = 7000 ∨ (own d1) = 7001 ∨ (own d1) = 7002; rw [og_d1]; decide
          · rw [e0]; show (own d2) = 8002 ∨ (own d2) = 8003 ∨ (own d2) = 8004 ∨ (own d2) = 8001 ∨ (own d2) = 6000 ∨ (own d2) = 6001 ∨ (own d2) = 6002 ∨ (own d2) = 7000 ∨ (own d2) = 7001 ∨ (own d2) = 7002; rw [og_d2]; decide
          · rw [e0]; show (own dt_) = 8002 ∨ (own dt_) = 8003 ∨ (own dt_) = 8004 ∨ (own dt_) = 8001 ∨ (own dt_) = 6000 ∨ (own dt_) = 6001 ∨ (own dt_) = 6002 ∨ (own dt_) = 7000 ∨ (own dt_) = 7001 ∨ (own dt_) = 7002; rw [og_dt_]; decide
          · rw [e0]; show (own e1) = 8002 ∨ (own e1) = 8003 ∨ (own e1) = 8004 ∨ (own e1) = 8001 ∨ (own e1) = 6000 ∨ (own e1) = 6001 ∨ (own e1) = 6002 ∨ (own e1) = 7000 ∨ (own e1) = 7001 ∨ (own e1) = 7002; rw [og_e1]; decide
          · rw [e0]; show (own e2) = 8002 ∨ (own e2) = 8003 ∨ (own e2) = 8004 ∨ (own e2) = 8001 ∨ (own e2) = 6000 ∨ (own e2) = 6001 ∨ (own e2) = 6002 ∨ (own e2) = 7000 ∨ (own e2) = 7001 ∨ (own e2) = 7002; rw [og_e2]; decide
        exact gz_iret rfl dX11_same_72 (Nat.le_of_ble_eq_true rfl) (Nat.le_of_ble_eq_true rfl) (⟨_, rfl, ⟨_, _, _, _, _, _, _, _, _, _, _, _, _, _, _, (cXo_kp HcXo hK nt_1056), (kCh_kp HcCh hK nt_1057), (kTp_kp HcTp hK nt_1058), (kOu_kp HcOu hK nt_1059), (cFa_kp HcFa hK nt_1060), (cFm_kp HcFm hK nt_1061), ⟨_, _, _, _, _, _, ⟨⟨og_dr, og_d1, og_d2⟩, hdr_2, hd1_2, hd2_2⟩⟩, ⟨_, _, _, _, _, _, ⟨⟨og_dt_, og_e1, og_e2⟩, hdt_2, he1_2, he2_2⟩⟩, (kRt_kp HcRt hK nt_1062), ⟨_, _, _, _, _, _, _, _, _, ⟨⟨og_la, og_bc, og_wk, og_w1, og_w2⟩, (hK.2 _ _ hla (by show ¬ ((own la) = 8002 ∨ (own la) = 8003 ∨ (own la) = 8004 ∨ (own la) = 8001 ∨ (own la) = 6000 ∨ (own la) = 6001 ∨ (own la) = 6002 ∨ (own la) = 7000 ∨ (own la) = 7001 ∨ (own la) = 7002); rw [og_la]; exact nt_1063 _ ⟨Nat.le_refl _, Nat.lt_succ_self _⟩)), hbc_2, hwk_2, hw1_2, hw2_2⟩⟩, (kLg_kp HcLg hK nt_1064), (kCo_kp HcCo hK nt_1065), (cLv_kp HcLv hK nt_1066), (kWo_kp HcWo hK nt_1067 nt_1068), HcFn, HcLn⟩, (kp_0 hK (nt_1069 0 ⟨Nat.le_refl _, Nat.lt_succ_self _⟩))⟩)
