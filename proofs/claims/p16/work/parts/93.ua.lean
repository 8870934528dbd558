/-! the class's LIVES over its invariant -/
theorem lifeF_in {csz : Int32} {lvg : Nat → Option Nat} {x : Int32} {p : Nat} (h : lifeF csz lvg x = some p) : 0 ≤ x.toInt ∧ x.toInt < csz.toInt := by
  have e0 : (0 : Int32).toInt = 0 := rfl
  unfold lifeF at h
  by_cases h1 : x < 0
  · rw [if_pos h1] at h; cases h
  · rw [if_neg h1] at h
    rw [fl_lt, e0] at h1
    by_cases h2 : csz ≤ x
    · rw [if_pos h2] at h; cases h
    · rw [fl_le] at h2
      exact ⟨by omega, by omega⟩
theorem lifeF_out {csz : Int32} {lvg : Nat → Option Nat} {x : Int32} (hz : csz.toInt ≤ 40) (hn : cLn csz lvg) (h : lifeF csz lvg x = none) : ¬ (0 ≤ x.toInt ∧ x.toInt < csz.toInt) := fun q => by
  have e0 : (0 : Int32).toInt = 0 := rfl
  have e40 : (40 : Int32).toInt = 40 := rfl
  unfold lifeF at h
  rw [if_neg (by rw [fl_lt, e0]; omega), if_neg (by rw [fl_le]; omega), if_neg (by rw [fl_le, e40]; omega)] at h
  obtain ⟨p, hp⟩ := hn (Int32.toNatClampNeg x) (by rw [clN]; omega)
  rw [hp] at h
  cases h
theorem dyT_0 {Tf : Nat → List Hd} {S : Sn} {l : Nat} {W : Lw} : dyT Tf S 0 l W = W := rfl
theorem dyT_nx {Tf : Nat → List Hd} {S : Sn} {W WF : Lw} {i j : Nat} (h : dyT Tf S (W.2.2.length - i) i W = WF) (hi : i < W.2.2.length) (hj : j = i + 1) : dyT Tf S ((lfT Tf S i W).2.2.length - j) j (lfT Tf S i W) = WF := by
  subst hj
  rw [← h, lfT_ln]
  obtain ⟨n, hn⟩ : ∃ n, W.2.2.length - i = n + 1 := ⟨W.2.2.length - i - 1, by omega⟩
  rw [hn, show W.2.2.length - (i + 1) = n by omega]; rfl
/-- what a LIFE's cells hold -/
def lnW (W : Lw) : (Nat → Nat → Int32 → Int32 → Int32 → Int32 → Int64 → (Nat → Int32) → (Nat → Int32) → Prop) := fun i j nu h1 h2 fs ga sg fg => i < W.2.2.length → ((nu.toInt = (i : Int) ∧ j = (W.2.2.getD i lf0).1) ∧ h1.toInt = (W.2.2.getD i lf0).2.1 ∧ h2.toInt = (W.2.2.getD i lf0).2.2.1) ∧ LFc fs ga sg fg (W.2.2.getD i lf0).2.2.2.1 (W.2.2.getD i lf0).2.2.2.2
theorem lnW_at {W : Lw} {i j : Nat} {nu h1 h2 fs : Int32} {ga : Int64} {sg fg : Nat → Int32} {Z : Ls} (hi : i < W.2.2.length) (h : (nu.toInt = (i : Int) ∧ j = (W.2.2.getD i lf0).1) ∧ h1.toInt = (W.2.2.getD i lf0).2.1 ∧ h2.toInt = (W.2.2.getD i lf0).2.2.1) (hZ : LFc fs ga sg fg Z.2.2.1 Z.2.2.2) : lnW (puW W i Z) i j nu h1 h2 fs ga sg fg := fun _ => by
  show ((nu.toInt = (i : Int) ∧ j = ((W.2.2.set i ((W.2.2.getD i lf0).1, (W.2.2.getD i lf0).2.1, (W.2.2.getD i lf0).2.2.1, Z.2.2)).getD i lf0).1) ∧ h1.toInt = ((W.2.2.set i ((W.2.2.getD i lf0).1, (W.2.2.getD i lf0).2.1, (W.2.2.getD i lf0).2.2.1, Z.2.2)).getD i lf0).2.1 ∧ h2.toInt = ((W.2.2.set i ((W.2.2.getD i lf0).1, (W.2.2.getD i lf0).2.1, (W.2.2.getD i lf0).2.2.1, Z.2.2)).getD i lf0).2.2.1) ∧ LFc fs ga sg fg ((W.2.2.set i ((W.2.2.getD i lf0).1, (W.2.2.getD i lf0).2.1, (W.2.2.getD i lf0).2.2.1, Z.2.2)).getD i lf0).2.2.2.1 ((W.2.2.set i ((W.2.2.getD i lf0).1, (W.2.2.getD i lf0).2.1, (W.2.2.getD i lf0).2.2.1, Z.2.2)).getD i lf0).2.2.2.2
  rw [gt_set hi, if_pos rfl]
  exact ⟨h, hZ⟩
theorem lnW_ot {W : Lw} {k i j : Nat} {nu h1 h2 fs : Int32} {ga : Int64} {sg fg : Nat → Int32} {Z : Ls} (hk : k < W.2.2.length) (hn : i ≠ k) (h : lnW W i j nu h1 h2 fs ga sg fg) : lnW (puW W k Z) i j nu h1 h2 fs ga sg fg := fun hi => by
  have hi : i < (W.2.2.set k ((W.2.2.getD k lf0).1, (W.2.2.getD k lf0).2.1, (W.2.2.getD k lf0).2.2.1, Z.2.2)).length := hi
  rw [List.length_set] at hi
  have q := h hi
  show ((nu.toInt = (i : Int) ∧ j = ((W.2.2.set k ((W.2.2.getD k lf0).1, (W.2.2.getD k lf0).2.1, (W.2.2.getD k lf0).2.2.1, Z.2.2)).getD i lf0).1) ∧ h1.toInt = ((W.2.2.set k ((W.2.2.getD k lf0).1, (W.2.2.getD k lf0).2.1, (W.2.2.getD k lf0).2.2.1, Z.2.2)).getD i lf0).2.1 ∧ h2.toInt = ((W.2.2.set k ((W.2.2.getD k lf0).1, (W.2.2.getD k lf0).2.1, (W.2.2.getD k lf0).2.2.1, Z.2.2)).getD i lf0).2.2.1) ∧ LFc fs ga sg fg ((W.2.2.set k ((W.2.2.getD k lf0).1, (W.2.2.getD k lf0).2.1, (W.2.2.getD k lf0).2.2.1, Z.2.2)).getD i lf0).2.2.2.1 ((W.2.2.set k ((W.2.2.getD k lf0).1, (W.2.2.getD k lf0).2.1, (W.2.2.getD k lf0).2.2.1, Z.2.2)).getD i lf0).2.2.2.2
  rw [gt_set hk, if_neg hn]
  exact q
/-- class and LIVES: what the cells hold -/
def cLW (Tf : Nat → List Hd) (W : Lw) (fcn csz sz lo : Int32) (eg : Nat → Int32) (CN : (Nat → Int32 → Int32 → (Nat → Int32) → (Nat → Int32) → Prop)) (LN : (Nat → Nat → Int32 → Int32 → Int32 → Int32 → Int64 → (Nat → Int32) → (Nat → Int32) → Prop)) : Prop := (csz.toInt = (W.2.2.length : Int) ∧ W.2.2.length ≤ 40) ∧ LGc sz lo eg W.1 W.2.1 ∧ (∀ i j nu h1 h2 fs ga sg fg, LN i j nu h1 h2 fs ga sg fg → lnW W i j nu h1 h2 fs ga sg fg) ∧ okW fcn.toInt Tf W ∧ ∀ (i : Nat) (s v : Int32) (g h : Nat → Int32), (i : Int) < fcn.toInt → CN i s v g h → hcT (Tf i) s v g h
theorem puW_ln {W : Lw} {l : Nat} {Z : Ls} : (puW W l Z).2.2.length = W.2.2.length := List.length_set
theorem cLW_put {Tf : Nat → List Hd} {W : Lw} {fcn csz sz lo s2 l2 z2 : Int32} {eg g2 : Nat → Int32} {a2 : Int64} {sg fg : Nat → Int32} {CN : (Nat → Int32 → Int32 → (Nat → Int32) → (Nat → Int32) → Prop)} {LN : (Nat → Nat → Int32 → Int32 → Int32 → Int32 → Int64 → (Nat → Int32) → (Nat → Int32) → Prop)} {k : Nat} {Z : Ls} (h : cLW Tf W fcn csz sz lo eg CN LN) (hk : k < W.2.2.length) (hZ : CSt s2 l2 g2 z2 a2 sg fg Z) (hQ : okQ (Tf (W.2.2.getD k lf0).1) Z.2.2.1) : cLW Tf (puW W k Z) fcn csz s2 l2 g2 CN (lnW (puW W k Z)) := ⟨by rw [puW_ln]; exact h.1, hZ.1, fun _ _ _ _ _ _ _ _ _ q => q, okW_put h.2.2.2.1 hk hQ, h.2.2.2.2⟩
theorem dcZ_ok {T : List Hd} {S : Sn} {l a b kd k hs wh : Int} {Z : Ls} (hok : okT T 1) (hv : hvT T) (h : okQ T Z.2.2.1) (h4 : ¬ wh = 0 → kd = 4) : okQ T (dcZ T S l a b kd k hs wh Z).2.2.1 := by
  by_cases c : chB T S a b kd k hs Z.2.2.1 = true
  · rw [(dc_y c).1]
    obtain ⟨k0, k1, k2, _⟩ := chB_st.mp c
    have hl : k.toNat < Z.2.2.1.length := by omega
    have hc := st_ch hok hv (h.2 _ (gtD_mem (d := (0, 0)) hl))
    refine (dpE_ok hok hv h hl ?_).1
    unfold chC
    by_cases cw : wh = 0
    · rw [if_pos cw]; exact hc.1
    · rw [if_neg cw]; exact hc.2 (by rw [k2]; exact h4 cw)
  · rw [(dc_n c).1]; exact h

theorem nt_7500 (i : Nat) (hi : i < 40) : ∀ k : Nat, 12000 ≤ k ∧ k < 13000 → (k < 12000 + 3 * i ∨ 12000 + 3 * i + 3 ≤ k) → ¬ (k = 9000 ∨ k = 9001 ∨ k = 12000 + 3 * i ∨ k = 12000 + 3 * i + 1 ∨ k = 12000 + 3 * i + 2) := by intro k hk h2 hT; omega
theorem nt_7501 (i : Nat) (hi : i < 40) : ∀ k : Nat, 13000 ≤ k ∧ k < 14000 → ¬ (k = 9000 ∨ k = 9001 ∨ k = 12000 + 3 * i ∨ k = 12000 + 3 * i + 1 ∨ k = 12000 + 3 * i + 2) := by intro k hk hT; omega
theorem nt_7502 (i : Nat) (hi : i < 40) : ∀ k : Nat, 1000 ≤ k ∧ k < 2000 → ¬ (k = 9000 ∨ k = 9001 ∨ k = 12000 + 3 * i ∨ k = 12000 + 3 * i + 1 ∨ k = 12000 + 3 * i + 2) := by intro k hk hT; omega
theorem nt_7503 (i : Nat) (hi : i < 40) : ∀ k : Nat, 2000 ≤ k ∧ k < 3000 → ¬ (k = 9000 ∨ k = 9001 ∨ k = 12000 + 3 * i ∨ k = 12000 + 3 * i + 1 ∨ k = 12000 + 3 * i + 2) := by intro k hk hT; omega
theorem nt_7504 (i : Nat) (hi : i < 40) : ∀ k : Nat, 14000 ≤ k ∧ k < 15000 → ¬ (k = 9000 ∨ k = 9001 ∨ k = 12000 + 3 * i ∨ k = 12000 + 3 * i + 1 ∨ k = 12000 + 3 * i + 2) := by intro k hk hT; omega
theorem nt_7505 (i : Nat) (hi : i < 40) : ∀ k : Nat, 5000 ≤ k ∧ k < 6000 → ¬ (k = 9000 ∨ k = 9001 ∨ k = 12000 + 3 * i ∨ k = 12000 + 3 * i + 1 ∨ k = 12000 + 3 * i + 2) := by intro k hk hT; omega
theorem nt_7506 (i : Nat) (hi : i < 40) : ∀ k : Nat, 4000 ≤ k ∧ k < 5000 → ¬ (k = 9000 ∨ k = 9001 ∨ k = 12000 + 3 * i ∨ k = 12000 + 3 * i + 1 ∨ k = 12000 + 3 * i + 2) := by intro k hk hT; omega
theorem nt_7507 (i : Nat) (hi : i < 40) : ∀ k : Nat, 6000 ≤ k ∧ k < 7000 → ¬ (k = 9000 ∨ k = 9001 ∨ k = 12000 + 3 * i ∨ k = 12000 + 3 * i + 1 ∨ k = 12000 + 3 * i + 2) := by intro k hk hT; omega
theorem nt_7508 (i : Nat) (hi : i < 40) : ∀ k : Nat, 7000 ≤ k ∧ k < 8000 → ¬ (k = 9000 ∨ k = 9001 ∨ k = 12000 + 3 * i ∨ k = 12000 + 3 * i + 1 ∨ k = 12000 + 3 * i + 2) := by intro k hk hT; omega
theorem nt_7509 (i : Nat) (hi : i < 40) : ∀ k : Nat, 3000 ≤ k ∧ k < 4000 → ¬ (k = 9000 ∨ k = 9001 ∨ k = 12000 + 3 * i ∨ k = 12000 + 3 * i + 1 ∨ k = 12000 + 3 * i + 2) := by intro k hk hT; omega
theorem nt_7510 (i : Nat) (hi : i < 40) : ∀ k : Nat, 8000 ≤ k ∧ k < 9000 → ¬ (k = 9000 ∨ k = 9001 ∨ k = 12000 + 3 * i ∨ k = 12000 + 3 * i + 1 ∨ k = 12000 + 3 * i + 2) := by intro k hk hT; omega
theorem nt_7511 (i : Nat) (hi : i < 40) : ∀ k : Nat, 9002 ≤ k ∧ k < 9003 → ¬ (k = 9000 ∨ k = 9001 ∨ k = 12000 + 3 * i ∨ k = 12000 + 3 * i + 1 ∨ k = 12000 + 3 * i + 2) := by intro k hk hT; omega
theorem nt_7512 (i : Nat) (hi : i < 40) : ∀ k : Nat, 9003 ≤ k ∧ k < 9004 → ¬ (k = 9000 ∨ k = 9001 ∨ k = 12000 + 3 * i ∨ k = 12000 + 3 * i + 1 ∨ k = 12000 + 3 * i + 2) := by intro k hk hT; omega
theorem nt_7513 (i : Nat) (hi : i < 40) : ∀ k : Nat, 9004 ≤ k ∧ k < 9005 → ¬ (k = 9000 ∨ k = 9001 ∨ k = 12000 + 3 * i ∨ k = 12000 + 3 * i + 1 ∨ k = 12000 + 3 * i + 2) := by intro k hk hT; omega
theorem nt_7514 (i : Nat) (hi : i < 40) : ∀ k : Nat, 9005 ≤ k ∧ k < 9006 → ¬ (k = 9000 ∨ k = 9001 ∨ k = 12000 + 3 * i ∨ k = 12000 + 3 * i + 1 ∨ k = 12000 + 3 * i + 2) := by intro k hk hT; omega
theorem nt_7515 (i : Nat) (hi : i < 40) : ∀ k : Nat, 9006 ≤ k ∧ k < 9007 → ¬ (k = 9000 ∨ k = 9001 ∨ k = 12000 + 3 * i ∨ k = 12000 + 3 * i + 1 ∨ k = 12000 + 3 * i + 2) := by intro k hk hT; omega
theorem nt_7516 (i : Nat) (hi : i < 40) : ∀ k : Nat, 10000 ≤ k ∧ k < 11000 → ¬ (k = 9000 ∨ k = 9001 ∨ k = 12000 + 3 * i ∨ k = 12000 + 3 * i + 1 ∨ k = 12000 + 3 * i + 2) := by intro k hk hT; omega
theorem nt_7517 (i : Nat) (hi : i < 40) : ∀ k : Nat, 11000 ≤ k ∧ k < 12000 → ¬ (k = 9000 ∨ k = 9001 ∨ k = 12000 + 3 * i ∨ k = 12000 + 3 * i + 1 ∨ k = 12000 + 3 * i + 2) := by intro k hk hT; omega
theorem nt_7518 (i : Nat) (hi : i < 40) : ∀ k : Nat, 15000 ≤ k ∧ k < 16000 → ¬ (k = 9000 ∨ k = 9001 ∨ k = 12000 + 3 * i ∨ k = 12000 + 3 * i + 1 ∨ k = 12000 + 3 * i + 2) := by intro k hk hT; omega
theorem nt_7519 (i : Nat) (hi : i < 40) : ∀ k : Nat, 0 ≤ k ∧ k < 1 → ¬ (k = 9000 ∨ k = 9001 ∨ k = 12000 + 3 * i ∨ k = 12000 + 3 * i + 1 ∨ k = 12000 + 3 * i + 2) := by intro k hk hT; omega
set_option maxHeartbeats 4000000 in
set_option maxRecDepth 100000 in
theorem i_X11_takeL {l : Launch} {D : va_G} {cy : Nat → ClassId} {b : Nat} {f : gMem} {own : Nat → Nat} {xo : Nat} {da : Int32} {fcn : Int32} {csz : Int32} {sz : Int32} {len : Int32} {ln : Int32} {wz : Int32} {lo : Int32} {tg : Nat → Int32} {weg : Nat → Int32} {stg : Nat → Int32} {tpg : Nat → Int32} {CN : Nat → Int32 → Int32 → (Nat → Int32) → (Nat → Int32) → Prop} {eg : Nat → Int32} {thg : Nat → Int32} {LN : Nat → Nat → Int32 → Int32 → Int32 → Int32 → Int64 → (Nat → Int32) → (Nat → Int32) → Prop} {ne : Nat} {x y u : Int32} {Tf : Nat → List Hd} {W : Lw} {S : Sn} (hI : xI cy own xo da fcn csz sz len ln wz lo tg weg stg tpg CN eg thg LN ne f) (hcw : cLW Tf W fcn csz sz lo eg CN LN) (hSn : sCn S da thg) : gU l D cy b yX11_take cX11_take 4 (some .int) 21 (24000 - ne) (2 * (24000 - ne)) [.ref xo, .int x, .int y, .int u] f gTt (fun kk nn r f2 => ∃ r9 : Int32, r = some (.int r9) ∧ ∃ (own2 : Nat → Nat) (sz2 lo2 : Int32) (ne2 : Nat) (eg2 : Nat → Int32) (LN2 : Nat → Nat → Int32 → Int32 → Int32 → Int32 → Int64 → (Nat → Int32) → (Nat → Int32) → Prop), xI cy own2 xo da fcn csz sz2 len ln wz lo2 tg weg stg tpg CN eg2 thg LN2 ne2 f2 ∧ kp0 own own2 f f2 ∧ (kk + ne ≤ ne2 + 3 ∧ nn + 2 * ne ≤ 2 * ne2 + 604) ∧ cLW Tf (chW Tf S 7 x.toInt y.toInt u.toInt 0 W) fcn csz sz2 lo2 eg2 CN LN2 ∧ r9.toInt = chR Tf S 7 x.toInt y.toInt u.toInt 0 W) := by
  obtain ⟨ch, sc, tp, ou, fm, dr, dt_, rd, te, la, lg, co, wo, fmg, lvg, HcXo, HcCh, HcTp, HcOu, HcFa, HcFm, HcDr, HcOt, HcRt, HcLa, HcLg, HcCo, HcLv, HcWo, HcFn, HcLn⟩ := id hI
  obtain ⟨og_xo, hxo, mcXo⟩ := id HcXo
  obtain ⟨lv, ⟨og_co, og_lv⟩, hco, hlv, mcCo⟩ := id HcCo
  obtain ⟨tl, th, ⟨og_ch, og_tl, og_sc, og_th⟩, hch, htl, hsc, hth, mcCh⟩ := id HcCh
  obtain ⟨en, ge, re, gv, tk, am, gi, gvg, tkg, geg, reg, amg, ⟨og_lg, og_en, og_ge, og_re, og_gv, og_tk, og_am⟩, hlg, hen, hge, hre, hgv, htk, ham, mcLg⟩ := id HcLg
  refine gU_of (by decide) (Nat.le_of_ble_eq_true rfl) ?_
  show gG l _ _ _ D cy b cX11_take 4 _ RX11 "take" 0 0 f 0 [(0, .ref xo), (1, .int x), (2, .int y), (3, .int u)] []
  refine gz_aload_n dX11_take_0 rfl rfl ?_
  refine sgX11_85 hxo rfl dX11_take_1 ?_
  refine gz_iload_n dX11_take_4 rfl rfl ?_
  refine gz_iload_n dX11_take_5 rfl rfl ?_
  refine gz_iload_n dX11_take_6 rfl rfl ?_
  refine gz_bipush (v := 7) dX11_take_7 (by decide) ?_
  refine gz_iconst (v := 0) dX11_take_9 (by decide) ?_
  have hwh01 : (0 : Int) ≤ 0 ∧ (0 : Int) ≤ 1 := ⟨by decide, by decide⟩
  cases hA : lifeF csz lvg x with
  | none =>
    have hno := lifeF_out (by have z9 := hcw.1; omega) HcLn hA
    obtain ⟨cn1, cn2⟩ := ch_n (Tf := Tf) (S := S) (kd := 7) (l := x.toInt) (k := y.toInt) (hs := u.toInt) (wh := 0) (W := W) (fun z => hno ⟨z.1.1, by have z9 := hcw.1.1; have z8 := z.1.2; omega⟩)
    refine suX11_177 (k_X1_decideN (kx := y) (hx_ := u) (kd := 7) (wh := 0) hco hlv hA) hco ⟨(Nat.le_of_ble_eq_true rfl), (Nat.le_of_ble_eq_true rfl)⟩ ⟨(by simp only [gRm]; omega), (by simp only [gRm]; omega)⟩ rfl rfl (Nat.le_of_ble_eq_true rfl) dX11_take_10 ?_
    rintro kk_0 nn_0 r_0 f_0 ⟨z1, z2, z3, z4⟩
    subst z1 z2 z3
    rw [z4]
    refine gz_eq (st2 := [.int (-1)]) rfl rfl rfl rfl ?_
    exact gz_iretU rfl dX11_take_13 (by omega) (by omega) (⟨_, rfl, own, _, _, _, _, _, hI, kp0_rf, ⟨by omega, by omega⟩, by rw [cn1]; exact hcw, by rw [cn2]; rfl⟩)
  | some lf =>
    have hilf := (lifeF_some hA).1
    have hjlf := (lifeF_some hA).2
    obtain ⟨p, so, fc, jf, nu, ho1, ho2, fs_, ga, sg, fg, hLf, hjf, hjp, hLN⟩ := HcLv _ _ hilf hjlf
    obtain ⟨⟨og_lf, og_so, og_fc⟩, hlf, hso, hfc⟩ := id hLf
    obtain ⟨c1, c2, n1, n2, s, v, g, h, ⟨⟨og_p, og_c1, og_c2⟩, hp, hc1, hc2, hs, hv, hFI⟩, hCN⟩ := HcFm _ _ hjf hjp
    have hin := lifeF_in hA
    have hlW : (Int32.toNatClampNeg x) < W.2.2.length := by have z9 := hcw.1.1; rw [clN]; omega
    have hixx : (((Int32.toNatClampNeg x) : Nat) : Int) = x.toInt := by rw [clN]; omega
    obtain ⟨⟨⟨hnu, hjfo⟩, hho1, hho2⟩, hLFc⟩ := hcw.2.2.1 _ _ _ _ _ _ _ _ _ hLN hlW
    obtain ⟨hfc_, hQ⟩ := hcw.2.2.2.1 _ hlW
    have hcT_ := hcw.2.2.2.2 jf _ _ _ _ (by rw [hjfo]; exact hfc_) hCN
    rw [← hjfo] at hQ
    refine suX11_177 (k_X1_decideE (T := Tf jf) (S := S) (Z := lsW W (Int32.toNatClampNeg x)) (kx := y) (hx_ := u) (kd := 7) (wh := 0) (y2 := 0) hco hlv hlf hso hfc hp hc1 hc2 hsc hth hlg hen hs hv ⟨(tgn og_so og_fc (by omega)), (tgn og_so og_c1 (by omega)), (tgn og_so og_c2 (by omega)), (tgn og_so og_th (by omega)), (tgn og_fc og_c1 (by omega)), (tgn og_fc og_c2 (by omega)), (tgn og_fc og_th (by omega))⟩ hcT_ hSn mcLg ⟨(tgn og_en og_so (by omega)), (tgn og_en og_fc (by omega)), (tgn og_en og_c1 (by omega)), (tgn og_en og_c2 (by omega)), (tgn og_en og_th (by decide))⟩ hA ⟨hcw.2.1, hLFc⟩ hQ (fun z9 _ _ => absurd rfl z9)) hco ⟨(Nat.le_of_ble_eq_true rfl), (Nat.le_of_ble_eq_true rfl)⟩ ⟨(by simp only [gRm]; omega), (by simp only [gRm]; omega)⟩ rfl rfl (Nat.le_of_ble_eq_true rfl) dX11_take_10 ?_
    rintro kk_1 nn_1 r_1 f1 ⟨rr_1, e_1, m_1, g_1, s_1, l_1, z_1, a_1, x_1, y_1, rfl, hlg_1, he_1, hlf_1, hso_1, hfc_1, hl_1, hu_1, hc_1, hst_1, hrr_1, hr1⟩
    refine gz_eq (st2 := [.int rr_1]) rfl rfl rfl rfl ?_
    have hxo_1 : f1 xo = some (.inr (11, [.ref ch, .ref tp, .ref ou, .ref fm, .ref dr, .ref dt_, .ref rd, .ref te, .ref la, .ref lg, .ref co, .ref wo, .int fcn])) := hr1 _ _ hxo (by simp only [List.mem_cons, List.not_mem_nil, or_false, not_or]; exact ⟨(tgn og_xo og_lg (by decide)), (tgn og_xo og_en (by decide)), (tgn og_xo og_lf (by omega)), (tgn og_xo og_so (by omega)), (tgn og_xo og_fc (by omega))⟩)
    have hco_1 : f1 co = some (.inr (1, [.ref lv, .ref sc, .ref lg, .int csz])) := hr1 _ _ hco (by simp only [List.mem_cons, List.not_mem_nil, or_false, not_or]; exact ⟨(tgn og_co og_lg (by decide)), (tgn og_co og_en (by decide)), (tgn og_co og_lf (by omega)), (tgn og_co og_so (by omega)), (tgn og_co og_fc (by omega))⟩)
    have hlv_1 : f1 lv = some (.inl (cy 5, 40, .inr (.inr (.inr (.inr (lvg)))))) := hr1 _ _ hlv (by simp only [List.mem_cons, List.not_mem_nil, or_false, not_or]; exact ⟨(tgn og_lv og_lg (by decide)), (tgn og_lv og_en (by decide)), (tgn og_lv og_lf (by omega)), (tgn og_lv og_so (by omega)), (tgn og_lv og_fc (by omega))⟩)
    have hch_1 : f1 ch = some (.inr (0, [.ref tl, .ref sc])) := hr1 _ _ hch (by simp only [List.mem_cons, List.not_mem_nil, or_false, not_or]; exact ⟨(tgn og_ch og_lg (by decide)), (tgn og_ch og_en (by decide)), (tgn og_ch og_lf (by omega)), (tgn og_ch og_so (by omega)), (tgn og_ch og_fc (by omega))⟩)
    have htl_1 : f1 tl = some (.inl (cy 0, 2400, .inl (tg))) := hr1 _ _ htl (by simp only [List.mem_cons, List.not_mem_nil, or_false, not_or]; exact ⟨(tgn og_tl og_lg (by decide)), (tgn og_tl og_en (by decide)), (tgn og_tl og_lf (by omega)), (tgn og_tl og_so (by omega)), (tgn og_tl og_fc (by omega))⟩)
    have hsc_1 : f1 sc = some (.inr (7, [.ref th, .int da])) := hr1 _ _ hsc (by simp only [List.mem_cons, List.not_mem_nil, or_false, not_or]; exact ⟨(tgn og_sc og_lg (by decide)), (tgn og_sc og_en (by decide)), (tgn og_sc og_lf (by omega)), (tgn og_sc og_so (by omega)), (tgn og_sc og_fc (by omega))⟩)
    have hth_1 : f1 th = some (.inl (cy 0, 6, .inl (thg))) := hr1 _ _ hth (by simp only [List.mem_cons, List.not_mem_nil, or_false, not_or]; exact ⟨(tgn og_th og_lg (by decide)), (tgn og_th og_en (by decide)), (tgn og_th og_lf (by omega)), (tgn og_th og_so (by omega)), (tgn og_th og_fc (by omega))⟩)
    have hge_1 : f1 ge = some (.inl (cy 2, 8, .inr (.inl (geg)))) := hr1 _ _ hge (by simp only [List.mem_cons, List.not_mem_nil, or_false, not_or]; exact ⟨(tgn og_ge og_lg (by decide)), (tgn og_ge og_en (by decide)), (tgn og_ge og_lf (by omega)), (tgn og_ge og_so (by omega)), (tgn og_ge og_fc (by omega))⟩)
    have hre_1 : f1 re = some (.inl (cy 2, 8, .inr (.inl (reg)))) := hr1 _ _ hre (by simp only [List.mem_cons, List.not_mem_nil, or_false, not_or]; exact ⟨(tgn og_re og_lg (by decide)), (tgn og_re og_en (by decide)), (tgn og_re og_lf (by omega)), (tgn og_re og_so (by omega)), (tgn og_re og_fc (by omega))⟩)
    have hgv_1 : f1 gv = some (.inl (cy 0, 8, .inl (gvg))) := hr1 _ _ hgv (by simp only [List.mem_cons, List.not_mem_nil, or_false, not_or]; exact ⟨(tgn og_gv og_lg (by decide)), (tgn og_gv og_en (by decide)), (tgn og_gv og_lf (by omega)), (tgn og_gv og_so (by omega)), (tgn og_gv og_fc (by omega))⟩)
    have htk_1 : f1 tk = some (.inl (cy 0, 8, .inl (tkg))) := hr1 _ _ htk (by simp only [List.mem_cons, List.not_mem_nil, or_false, not_or]; exact ⟨(tgn og_tk og_lg (by decide)), (tgn og_tk og_en (by decide)), (tgn og_tk og_lf (by omega)), (tgn og_tk og_so (by omega)), (tgn og_tk og_fc (by omega))⟩)
    have ham_1 : f1 am = some (.inl (cy 2, 8, .inr (.inl (amg)))) := hr1 _ _ ham (by simp only [List.mem_cons, List.not_mem_nil, or_false, not_or]; exact ⟨(tgn og_am og_lg (by decide)), (tgn og_am og_en (by decide)), (tgn og_am og_lf (by omega)), (tgn og_am og_so (by omega)), (tgn og_am og_fc (by omega))⟩)
    have hp_1 : f1 p = some (.inr (2, [.ref c1, .ref c2, .int s, .int v])) := hr1 _ _ hp (by simp only [List.mem_cons, List.not_mem_nil, or_false, not_or]; exact ⟨(tgn og_p og_lg (by omega)), (tgn og_p og_en (by omega)), (tgn og_p og_lf (by omega)), (tgn og_p og_so (by omega)), (tgn og_p og_fc (by omega))⟩)
    have hc1_1 : f1 c1 = some (.inl (cy 0, n1, .inl (g))) := hr1 _ _ hc1 (by simp only [List.mem_cons, List.not_mem_nil, or_false, not_or]; exact ⟨(tgn og_c1 og_lg (by omega)), (tgn og_c1 og_en (by omega)), (tgn og_c1 og_lf (by omega)), (tgn og_c1 og_so (by omega)), (tgn og_c1 og_fc (by omega))⟩)
    have hc2_1 : f1 c2 = some (.inl (cy 0, n2, .inl (h))) := hr1 _ _ hc2 (by simp only [List.mem_cons, List.not_mem_nil, or_false, not_or]; exact ⟨(tgn og_c2 og_lg (by omega)), (tgn og_c2 og_en (by omega)), (tgn og_c2 og_lf (by omega)), (tgn og_c2 og_so (by omega)), (tgn og_c2 og_fc (by omega))⟩)
    rw [hnu, hixx, hho1, hho2, hjfo] at hst_1 hrr_1
    have hcZ : chW Tf S 7 x.toInt y.toInt u.toInt 0 W = puW W (Int32.toNatClampNeg x) (dcZ (Tf (W.2.2.getD (Int32.toNatClampNeg x) lf0).1) S x.toInt (W.2.2.getD (Int32.toNatClampNeg x) lf0).2.1 (W.2.2.getD (Int32.toNatClampNeg x) lf0).2.2.1 7 y.toInt u.toInt 0 (lsW W (Int32.toNatClampNeg x))) := by unfold chW; rw [if_pos ⟨⟨hin.1, by have z9 := hcw.1.1; omega⟩, hwh01⟩]; rfl
    have hcR : chR Tf S 7 x.toInt y.toInt u.toInt 0 W = dcR (Tf (W.2.2.getD (Int32.toNatClampNeg x) lf0).1) S x.toInt (W.2.2.getD (Int32.toNatClampNeg x) lf0).2.1 (W.2.2.getD (Int32.toNatClampNeg x) lf0).2.2.1 7 y.toInt u.toInt 0 (lsW W (Int32.toNatClampNeg x)) := by unfold chR; rw [if_pos ⟨⟨hin.1, by have z9 := hcw.1.1; omega⟩, hwh01⟩]; rfl
    have hQ2 := dcZ_ok (S := S) (l := x.toInt) (a := (W.2.2.getD (Int32.toNatClampNeg x) lf0).2.1) (b := (W.2.2.getD (Int32.toNatClampNeg x) lf0).2.2.1) (kd := 7) (k := y.toInt) (hs := u.toInt) (wh := 0) (Z := lsW W (Int32.toNatClampNeg x)) hcT_.1.1 hcT_.1.2.1 hQ (fun z9 => absurd rfl z9)
    rw [hjfo] at hQ2
    obtain ⟨own2, ho2⟩ : ∃ own2 : Nat → Nat, own2 = va_up own e_1 9001 := ⟨_, rfl⟩
    have hO : ∀ z e, f z = some e → own2 z = own z := by rw [ho2]; exact own_en hc_1 og_en
    have hK : kp own own2 (fun k => k = 9000 ∨ k = 9001 ∨ k = 12000 + 3 * (Int32.toNatClampNeg x) ∨ k = 12000 + 3 * (Int32.toNatClampNeg x) + 1 ∨ k = 12000 + 3 * (Int32.toNatClampNeg x) + 2) f f1 := by
      refine kp_fr (S := [lg, en, lf, so, fc]) ((fr_tr fr_rf (fr_mo hr1 (by simp)))) hO ?_
      intro x0 hx0
      simp only [List.mem_cons, List.not_mem_nil, or_false] at hx0
      rcases hx0 with e0 | e0 | e0 | e0 | e0
      · rw [e0]; show (own lg) = 9000 ∨ (own lg) = 9001 ∨ (own lg) = 12000 + 3 * (Int32.toNatClampNeg x) ∨ (own lg) = 12000 + 3 * (Int32.toNatClampNeg x) + 1 ∨ (own lg) = 12000 + 3 * (Int32.toNatClampNeg x) + 2; rw [og_lg]; simp
      · rw [e0]; show (own en) = 9000 ∨ (own en) = 9001 ∨ (own en) = 12000 + 3 * (Int32.toNatClampNeg x) ∨ (own en) = 12000 + 3 * (Int32.toNatClampNeg x) + 1 ∨ (own en) = 12000 + 3 * (Int32.toNatClampNeg x) + 2; rw [og_en]; simp
      · rw [e0]; show (own lf) = 9000 ∨ (own lf) = 9001 ∨ (own lf) = 12000 + 3 * (Int32.toNatClampNeg x) ∨ (own lf) = 12000 + 3 * (Int32.toNatClampNeg x) + 1 ∨ (own lf) = 12000 + 3 * (Int32.toNatClampNeg x) + 2; rw [og_lf]; simp
      · rw [e0]; show (own so) = 9000 ∨ (own so) = 9001 ∨ (own so) = 12000 + 3 * (Int32.toNatClampNeg x) ∨ (own so) = 12000 + 3 * (Int32.toNatClampNeg x) + 1 ∨ (own so) = 12000 + 3 * (Int32.toNatClampNeg x) + 2; rw [og_so]; simp
      · rw [e0]; show (own fc) = 9000 ∨ (own fc) = 9001 ∨ (own fc) = 12000 + 3 * (Int32.toNatClampNeg x) ∨ (own fc) = 12000 + 3 * (Int32.toNatClampNeg x) + 1 ∨ (own fc) = 12000 + 3 * (Int32.toNatClampNeg x) + 2; rw [og_fc]; simp
    have hLf2 : cLf cy own2 f1 (Int32.toNatClampNeg x) lf p so fc _ _ _ _ _ _ _ := ⟨⟨(hO _ _ hlf).trans og_lf, (hO _ _ hso).trans og_so, (hO _ _ hfc).trans og_fc⟩, hlf_1, hso_1, hfc_1⟩
    have hen9 : own2 e_1 = 9001 := by rw [ho2]; exact va_up_self _ _ _
    exact gz_iretU rfl dX11_take_13 (by omega) (by omega) (⟨_, rfl, own2, _, _, _, _, _, ⟨_, _, _, _, _, _, _, _, _, _, _, _, _, _, _, (cXo_kp HcXo hK (nt_7501 (Int32.toNatClampNeg x) hilf)), (kCh_kp HcCh hK (nt_7502 (Int32.toNatClampNeg x) hilf)), (kTp_kp HcTp hK (nt_7503 (Int32.toNatClampNeg x) hilf)), (kOu_kp HcOu hK (nt_7504 (Int32.toNatClampNeg x) hilf)), (cFa_kp HcFa hK (nt_7505 (Int32.toNatClampNeg x) hilf)), (cFm_kp HcFm hK (nt_7506 (Int32.toNatClampNeg x) hilf)), (kDr_kp HcDr hK (nt_7507 (Int32.toNatClampNeg x) hilf)), (kOt_kp HcOt hK (nt_7508 (Int32.toNatClampNeg x) hilf)), (kRt_kp HcRt hK (nt_7509 (Int32.toNatClampNeg x) hilf)), (kLa_kp HcLa hK (nt_7510 (Int32.toNatClampNeg x) hilf)), ⟨_, _, _, _, _, _, _, _, _, _, _, _, ⟨⟨((hO _ _ hlg).trans og_lg), hen9, ((hO _ _ hge).trans og_ge), ((hO _ _ hre).trans og_re), ((hO _ _ hgv).trans og_gv), ((hO _ _ htk).trans og_tk), ((hO _ _ ham).trans og_am)⟩, hlg_1, he_1, (hK.2 _ _ hge (by show ¬ ((own ge) = 9000 ∨ (own ge) = 9001 ∨ (own ge) = 12000 + 3 * (Int32.toNatClampNeg x) ∨ (own ge) = 12000 + 3 * (Int32.toNatClampNeg x) + 1 ∨ (own ge) = 12000 + 3 * (Int32.toNatClampNeg x) + 2); rw [og_ge]; exact (nt_7511 (Int32.toNatClampNeg x) hilf) _ ⟨Nat.le_refl _, Nat.lt_succ_self _⟩)), (hK.2 _ _ hre (by show ¬ ((own re) = 9000 ∨ (own re) = 9001 ∨ (own re) = 12000 + 3 * (Int32.toNatClampNeg x) ∨ (own re) = 12000 + 3 * (Int32.toNatClampNeg x) + 1 ∨ (own re) = 12000 + 3 * (Int32.toNatClampNeg x) + 2); rw [og_re]; exact (nt_7512 (Int32.toNatClampNeg x) hilf) _ ⟨Nat.le_refl _, Nat.lt_succ_self _⟩)), (hK.2 _ _ hgv (by show ¬ ((own gv) = 9000 ∨ (own gv) = 9001 ∨ (own gv) = 12000 + 3 * (Int32.toNatClampNeg x) ∨ (own gv) = 12000 + 3 * (Int32.toNatClampNeg x) + 1 ∨ (own gv) = 12000 + 3 * (Int32.toNatClampNeg x) + 2); rw [og_gv]; exact (nt_7513 (Int32.toNatClampNeg x) hilf) _ ⟨Nat.le_refl _, Nat.lt_succ_self _⟩)), (hK.2 _ _ htk (by show ¬ ((own tk) = 9000 ∨ (own tk) = 9001 ∨ (own tk) = 12000 + 3 * (Int32.toNatClampNeg x) ∨ (own tk) = 12000 + 3 * (Int32.toNatClampNeg x) + 1 ∨ (own tk) = 12000 + 3 * (Int32.toNatClampNeg x) + 2); rw [og_tk]; exact (nt_7514 (Int32.toNatClampNeg x) hilf) _ ⟨Nat.le_refl _, Nat.lt_succ_self _⟩)), (hK.2 _ _ ham (by show ¬ ((own am) = 9000 ∨ (own am) = 9001 ∨ (own am) = 12000 + 3 * (Int32.toNatClampNeg x) ∨ (own am) = 12000 + 3 * (Int32.toNatClampNeg x) + 1 ∨ (own am) = 12000 + 3 * (Int32.toNatClampNeg x) + 2); rw [og_am]; exact (nt_7515 (Int32.toNatClampNeg x) hilf) _ ⟨Nat.le_refl _, Nat.lt_succ_self _⟩)), hl_1⟩⟩, (kCo_kp HcCo hK (nt_7516 (Int32.toNatClampNeg x) hilf)), (cLv_one (LN2 := lnW (puW W (Int32.toNatClampNeg x) (dcZ (Tf (W.2.2.getD (Int32.toNatClampNeg x) lf0).1) S x.toInt (W.2.2.getD (Int32.toNatClampNeg x) lf0).2.1 (W.2.2.getD (Int32.toNatClampNeg x) lf0).2.2.1 7 y.toInt u.toInt 0 (lsW W (Int32.toNatClampNeg x))))) HcLv hK (nt_7500 (Int32.toNatClampNeg x) hilf) hjlf hLf2 ⟨hjf, hjp⟩ (lnW_at hlW ⟨⟨hnu, hjfo⟩, hho1, hho2⟩ hst_1.2) (fun i9 j9 n9 a9 b9 c9 d9 e9 f9 z9 y9 => lnW_ot hlW z9 (hcw.2.2.1 i9 j9 n9 a9 b9 c9 d9 e9 f9 y9))), (kWo_kp HcWo hK (nt_7517 (Int32.toNatClampNeg x) hilf) (nt_7518 (Int32.toNatClampNeg x) hilf)), HcFn, HcLn⟩, (kp_0 hK ((nt_7519 (Int32.toNatClampNeg x) hilf) 0 ⟨Nat.le_refl _, Nat.lt_succ_self _⟩)), ⟨by omega, by omega⟩, by rw [hcZ]; exact cLW_put hcw hlW hst_1 hQ2, by rw [hcR]; exact hrr_1⟩)

set_option maxHeartbeats 4000000 in
set_option maxRecDepth 100000 in
theorem i_X11_chooseL {l : Launch} {D : va_G} {cy : Nat → ClassId} {b : Nat} {f : gMem} {own : Nat → Nat} {xo : Nat} {da : Int32} {fcn : Int32} {csz : Int32} {sz : Int32} {len : Int32} {ln : Int32} {wz : Int32} {lo : Int32} {tg : Nat → Int32} {weg : Nat → Int32} {stg : Nat → Int32} {tpg : Nat → Int32} {CN : Nat → Int32 → Int32 → (Nat → Int32) → (Nat → Int32) → Prop} {eg : Nat → Int32} {thg : Nat → Int32} {LN : Nat → Nat → Int32 → Int32 → Int32 → Int32 → Int64 → (Nat → Int32) → (Nat → Int32) → Prop} {ne : Nat} {x y u q0 : Int32} {Tf : Nat → List Hd} {W : Lw} {S : Sn} (hI : xI cy own xo da fcn csz sz len ln wz lo tg weg stg tpg CN eg thg LN ne f) (hcw : cLW Tf W fcn csz sz lo eg CN LN) (hSn : sCn S da thg) : gU l D cy b yX11_choose cX11_choose 5 (some .int) 21 (24000 - ne) (2 * (24000 - ne)) [.ref xo, .int x, .int y, .int u, .int q0] f gTt (fun kk nn r f2 => ∃ r9 : Int32, r = some (.int r9) ∧ ∃ (own2 : Nat → Nat) (sz2 lo2 : Int32) (ne2 : Nat) (eg2 : Nat → Int32) (LN2 : Nat → Nat → Int32 → Int32 → Int32 → Int32 → Int64 → (Nat → Int32) → (Nat → Int32) → Prop), xI cy own2 xo da fcn csz sz2 len ln wz lo2 tg weg stg tpg CN eg2 thg LN2 ne2 f2 ∧ kp0 own own2 f f2 ∧ (kk + ne ≤ ne2 + 3 ∧ nn + 2 * ne ≤ 2 * ne2 + 604) ∧ cLW Tf (chW Tf S 4 x.toInt y.toInt u.toInt q0.toInt W) fcn csz sz2 lo2 eg2 CN LN2 ∧ r9.toInt = chR Tf S 4 x.toInt y.toInt u.toInt q0.toInt W) := by
  obtain ⟨ch, sc, tp, ou, fm, dr, dt_, rd, te, la, lg, co, wo, fmg, lvg, HcXo, HcCh, HcTp, HcOu, HcFa, HcFm, HcDr, HcOt, HcRt, HcLa, HcLg, HcCo, HcLv, HcWo, HcFn, HcLn⟩ := id hI
  obtain ⟨og_xo, hxo, mcXo⟩ := id HcXo
  obtain ⟨lv, ⟨og_co, og_lv⟩, hco, hlv, mcCo⟩ := id HcCo
  obtain ⟨tl, th, ⟨og_ch, og_tl, og_sc, og_th⟩, hch, htl, hsc, hth, mcCh⟩ := id HcCh
  obtain ⟨en, ge, re, gv, tk, am, gi, gvg, tkg, geg, reg, amg, ⟨og_lg, og_en, og_ge, og_re, og_gv, og_tk, og_am⟩, hlg, hen, hge, hre, hgv, htk, ham, mcLg⟩ := id HcLg
  refine gU_of (by decide) (Nat.le_of_ble_eq_true rfl) ?_
  show gG l _ _ _ D cy b cX11_choose 5 _ RX11 "choose" 0 0 f 0 [(0, .ref xo), (1, .int x), (2, .int y), (3, .int u), (4, .int q0)] []
  refine gz_iload dX11_choose_0 rfl ?_
  refine gz_if_eq (tgt := 13) dX11_choose_2 (by decide) (fun c_2 => ?_) (fun c_2 => ?_)
  ·
    refine gz_aload_n dX11_choose_13 rfl rfl ?_
    refine sgX11_85 hxo rfl dX11_choose_14 ?_
    refine gz_iload_n dX11_choose_17 rfl rfl ?_
    refine gz_iload_n dX11_choose_18 rfl rfl ?_
    refine gz_iload_n dX11_choose_19 rfl rfl ?_
    refine gz_iconst (v := 4) dX11_choose_20 (by decide) ?_
    refine gz_iload dX11_choose_21 rfl ?_
    have hq01 : 0 ≤ q0.toInt ∧ q0.toInt ≤ 1 := by rw [c_2]; exact ⟨by decide, by decide⟩
    have hwh01 : 0 ≤ q0.toInt ∧ q0.toInt ≤ 1 := hq01
    cases hA : lifeF csz lvg x with
    | none =>
      have hno := lifeF_out (by have z9 := hcw.1; omega) HcLn hA
      obtain ⟨cn1, cn2⟩ := ch_n (Tf := Tf) (S := S) (kd := 4) (l := x.toInt) (k := y.toInt) (hs := u.toInt) (wh := q0.toInt) (W := W) (fun z => hno ⟨z.1.1, by have z9 := hcw.1.1; have z8 := z.1.2; omega⟩)
      refine suX11_177 (k_X1_decideN (kx := y) (hx_ := u) (kd := 4) (wh := q0) hco hlv hA) hco ⟨(Nat.le_of_ble_eq_true rfl), (Nat.le_of_ble_eq_true rfl)⟩ ⟨(by simp only [gRm]; omega), (by simp only [gRm]; omega)⟩ rfl rfl (Nat.le_of_ble_eq_true rfl) dX11_choose_23 ?_
      rintro kk_0 nn_0 r_0 f_0 ⟨z1, z2, z3, z4⟩
      subst z1 z2 z3
      rw [z4]
      refine gz_eq (st2 := [.int (-1)]) rfl rfl rfl rfl ?_
      exact gz_iretU rfl dX11_choose_26 (by omega) (by omega) (⟨_, rfl, own, _, _, _, _, _, hI, kp0_rf, ⟨by omega, by omega⟩, by rw [cn1]; exact hcw, by rw [cn2]; rfl⟩)
    | some lf =>
      have hilf := (lifeF_some hA).1
      have hjlf := (lifeF_some hA).2
      obtain ⟨p, so, fc, jf, nu, ho1, ho2, fs_, ga, sg, fg, hLf, hjf, hjp, hLN⟩ := HcLv _ _ hilf hjlf
      obtain ⟨⟨og_lf, og_so, og_fc⟩, hlf, hso, hfc⟩ := id hLf
      obtain ⟨c1, c2, n1, n2, s, v, g, h, ⟨⟨og_p, og_c1, og_c2⟩, hp, hc1, hc2, hs, hv, hFI⟩, hCN⟩ := HcFm _ _ hjf hjp
      have hin := lifeF_in hA
      have hlW : (Int32.toNatClampNeg x) < W.2.2.length := by have z9 := hcw.1.1; rw [clN]; omega
      have hixx : (((Int32.toNatClampNeg x) : Nat) : Int) = x.toInt := by rw [clN]; omega
      obtain ⟨⟨⟨hnu, hjfo⟩, hho1, hho2⟩, hLFc⟩ := hcw.2.2.1 _ _ _ _ _ _ _ _ _ hLN hlW
      obtain ⟨hfc_, hQ⟩ := hcw.2.2.2.1 _ hlW
      have hcT_ := hcw.2.2.2.2 jf _ _ _ _ (by rw [hjfo]; exact hfc_) hCN
      rw [← hjfo] at hQ
      refine suX11_177 (k_X1_decideE (T := Tf jf) (S := S) (Z := lsW W (Int32.toNatClampNeg x)) (kx := y) (hx_ := u) (kd := 4) (wh := q0) (y2 := 0) hco hlv hlf hso hfc hp hc1 hc2 hsc hth hlg hen hs hv ⟨(tgn og_so og_fc (by omega)), (tgn og_so og_c1 (by omega)), (tgn og_so og_c2 (by omega)), (tgn og_so og_th (by omega)), (tgn og_fc og_c1 (by omega)), (tgn og_fc og_c2 (by omega)), (tgn og_fc og_th (by omega))⟩ hcT_ hSn mcLg ⟨(tgn og_en og_so (by omega)), (tgn og_en og_fc (by omega)), (tgn og_en og_c1 (by omega)), (tgn og_en og_c2 (by omega)), (tgn og_en og_th (by decide))⟩ hA ⟨hcw.2.1, hLFc⟩ hQ (fun z9 y9 _ => y9)) hco ⟨(Nat.le_of_ble_eq_true rfl), (Nat.le_of_ble_eq_true rfl)⟩ ⟨(by simp only [gRm]; omega), (by simp only [gRm]; omega)⟩ rfl rfl (Nat.le_of_ble_eq_true rfl) dX11_choose_23 ?_
      rintro kk_1 nn_1 r_1 f1 ⟨rr_1, e_1, m_1, g_1, s_1, l_1, z_1, a_1, x_1, y_1, rfl, hlg_1, he_1, hlf_1, hso_1, hfc_1, hl_1, hu_1, hc_1, hst_1, hrr_1, hr1⟩
      refine gz_eq (st2 := [.int rr_1]) rfl rfl rfl rfl ?_
      have hxo_1 : f1 xo = some (.inr (11, [.ref ch, .ref tp, .ref ou, .ref fm, .ref dr, .ref dt_, .ref rd, .ref te, .ref la, .ref lg, .ref co, .ref wo, .int fcn])) := hr1 _ _ hxo (by simp only [List.mem_cons, List.not_mem_nil, or_false, not_or]; exact ⟨(tgn og_xo og_lg (by decide)), (tgn og_xo og_en (by decide)), (tgn og_xo og_lf (by omega)), (tgn og_xo og_so (by omega)), (tgn og_xo og_fc (by omega))⟩)
      have hco_1 : f1 co = some (.inr (1, [.ref lv, .ref sc, .ref lg, .int csz])) := hr1 _ _ hco (by simp only [List.mem_cons, List.not_mem_nil, or_false, not_or]; exact ⟨(tgn og_co og_lg (by decide)), (tgn og_co og_en (by decide)), (tgn og_co og_lf (by omega)), (tgn og_co og_so (by omega)), (tgn og_co og_fc (by omega))⟩)
      have hlv_1 : f1 lv = some (.inl (cy 5, 40, .inr (.inr (.inr (.inr (lvg)))))) := hr1 _ _ hlv (by simp only [List.mem_cons, List.not_mem_nil, or_false, not_or]; exact ⟨(tgn og_lv og_lg (by decide)), (tgn og_lv og_en (by decide)), (tgn og_lv og_lf (by omega)), (tgn og_lv og_so (by omega)), (tgn og_lv og_fc (by omega))⟩)
      have hch_1 : f1 ch = some (.inr (0, [.ref tl, .ref sc])) := hr1 _ _ hch (by simp only [List.mem_cons, List.not_mem_nil, or_false, not_or]; exact ⟨(tgn og_ch og_lg (by decide)), (tgn og_ch og_en (by decide)), (tgn og_ch og_lf (by omega)), (tgn og_ch og_so (by omega)), (tgn og_ch og_fc (by omega))⟩)
      have htl_1 : f1 tl = some (.inl (cy 0, 2400, .inl (tg))) := hr1 _ _ htl (by simp only [List.mem_cons, List.not_mem_nil, or_false, not_or]; exact ⟨(tgn og_tl og_lg (by decide)), (tgn og_tl og_en (by decide)), (tgn og_tl og_lf (by omega)), (tgn og_tl og_so (by omega)), (tgn og_tl og_fc (by omega))⟩)
      have hsc_1 : f1 sc = some (.inr (7, [.ref th, .int da])) := hr1 _ _ hsc (by simp only [List.mem_cons, List.not_mem_nil, or_false, not_or]; exact ⟨(tgn og_sc og_lg (by decide)), (tgn og_sc og_en (by decide)), (tgn og_sc og_lf (by omega)), (tgn og_sc og_so (by omega)), (tgn og_sc og_fc (by omega))⟩)
      have hth_1 : f1 th = some (.inl (cy 0, 6, .inl (thg))) := hr1 _ _ hth (by simp only [List.mem_cons, List.not_mem_nil, or_false, not_or]; exact ⟨(tgn og_th og_lg (by decide)), (tgn og_th og_en (by decide)), (tgn og_th og_lf (by omega)), (tgn og_th og_so (by omega)), (tgn og_th og_fc (by omega))⟩)
      have hge_1 : f1 ge = some (.inl (cy 2, 8, .inr (.inl (geg)))) := hr1 _ _ hge (by simp only [List.mem_cons, List.not_mem_nil, or_false, not_or]; exact ⟨(tgn og_ge og_lg (by decide)), (tgn og_ge og_en (by decide)), (tgn og_ge og_lf (by omega)), (tgn og_ge og_so (by omega)), (tgn og_ge og_fc (by omega))⟩)
      have hre_1 : f1 re = some (.inl (cy 2, 8, .inr (.inl (reg)))) := hr1 _ _ hre (by simp only [List.mem_cons, List.not_mem_nil, or_false, not_or]; exact ⟨(tgn og_re og_lg (by decide)), (tgn og_re og_en (by decide)), (tgn og_re og_lf (by omega)), (tgn og_re og_so (by omega)), (tgn og_re og_fc (by omega))⟩)
      have hgv_1 : f1 gv = some (.inl (cy 0, 8, .inl (gvg))) := hr1 _ _ hgv (by simp only [List.mem_cons, List.not_mem_nil, or_false, not_or]; exact ⟨(tgn og_gv og_lg (by decide)), (tgn og_gv og_en (by decide)), (tgn og_gv og_lf (by omega)), (tgn og_gv og_so (by omega)), (tgn og_gv og_fc (by omega))⟩)
      have htk_1 : f1 tk = some (.inl (cy 0, 8, .inl (tkg))) := hr1 _ _ htk (by simp only [List.mem_cons, List.not_mem_nil, or_false, not_or]; exact ⟨(tgn og_tk og_lg (by decide)), (tgn og_tk og_en (by decide)), (tgn og_tk og_lf (by omega)), (tgn og_tk og_so (by omega)), (tgn og_tk og_fc (by omega))⟩)
      have ham_1 : f1 am = some (.inl (cy 2, 8, .inr (.inl (amg)))) := hr1 _ _ ham (by simp only [List.mem_cons, List.not_mem_nil, or_false, not_or]; exact ⟨(tgn og_am og_lg (by decide)), (tgn og_am og_en (by decide)), (tgn og_am og_lf (by omega)), (tgn og_am og_so (by omega)), (tgn og_am og_fc (by omega))⟩)
      have hp_1 : f1 p = some (.inr (2, [.ref c1, .ref c2, .int s, .int v])) := hr1 _ _ hp (by simp only [List.mem_cons, List.not_mem_nil, or_false, not_or]; exact ⟨(tgn og_p og_lg (by omega)), (tgn og_p og_en (by omega)), (tgn og_p og_lf (by omega)), (tgn og_p og_so (by omega)), (tgn og_p og_fc (by omega))⟩)
      have hc1_1 : f1 c1 = some (.inl (cy 0, n1, .inl (g))) := hr1 _ _ hc1 (by simp only [List.mem_cons, List.not_mem_nil, or_false, not_or]; exact ⟨(tgn og_c1 og_lg (by omega)), (tgn og_c1 og_en (by omega)), (tgn og_c1 og_lf (by omega)), (tgn og_c1 og_so (by omega)), (tgn og_c1 og_fc (by omega))⟩)
      have hc2_1 : f1 c2 = some (.inl (cy 0, n2, .inl (h))) := hr1 _ _ hc2 (by simp only [List.mem_cons, List.not_mem_nil, or_false, not_or]; exact ⟨(tgn og_c2 og_lg (by omega)), (tgn og_c2 og_en (by omega)), (tgn og_c2 og_lf (by omega)), (tgn og_c2 og_so (by omega)), (tgn og_c2 og_fc (by omega))⟩)
      rw [hnu, hixx, hho1, hho2, hjfo] at hst_1 hrr_1
      have hcZ : chW Tf S 4 x.toInt y.toInt u.toInt q0.toInt W = puW W (Int32.toNatClampNeg x) (dcZ (Tf (W.2.2.getD (Int32.toNatClampNeg x) lf0).1) S x.toInt (W.2.2.getD (Int32.toNatClampNeg x) lf0).2.1 (W.2.2.getD (Int32.toNatClampNeg x) lf0).2.2.1 4 y.toInt u.toInt q0.toInt (lsW W (Int32.toNatClampNeg x))) := by unfold chW; rw [if_pos ⟨⟨hin.1, by have z9 := hcw.1.1; omega⟩, hwh01⟩]; rfl
      have hcR : chR Tf S 4 x.toInt y.toInt u.toInt q0.toInt W = dcR (Tf (W.2.2.getD (Int32.toNatClampNeg x) lf0).1) S x.toInt (W.2.2.getD (Int32.toNatClampNeg x) lf0).2.1 (W.2.2.getD (Int32.toNatClampNeg x) lf0).2.2.1 4 y.toInt u.toInt q0.toInt (lsW W (Int32.toNatClampNeg x)) := by unfold chR; rw [if_pos ⟨⟨hin.1, by have z9 := hcw.1.1; omega⟩, hwh01⟩]; rfl
      have hQ2 := dcZ_ok (S := S) (l := x.toInt) (a := (W.2.2.getD (Int32.toNatClampNeg x) lf0).2.1) (b := (W.2.2.getD (Int32.toNatClampNeg x) lf0).2.2.1) (kd := 4) (k := y.toInt) (hs := u.toInt) (wh := q0.toInt) (Z := lsW W (Int32.toNatClampNeg x)) hcT_.1.1 hcT_.1.2.1 hQ (fun _ => rfl)
      rw [hjfo] at hQ2
      obtain ⟨own2, ho2⟩ : ∃ own2 : Nat → Nat, own2 = va_up own e_1 9001 := ⟨_, rfl⟩
      have hO : ∀ z e, f z = some e → own2 z = own z := by rw [ho2]; exact own_en hc_1 og_en
      have hK : kp own own2 (fun k => k = 9000 ∨ k = 9001 ∨ k = 12000 + 3 * (Int32.toNatClampNeg x) ∨ k = 12000 + 3 * (Int32.toNatClampNeg x) + 1 ∨ k = 12000 + 3 * (Int32.toNatClampNeg x) + 2) f f1 := by
        refine kp_fr (S := [lg, en, lf, so, fc]) ((fr_tr fr_rf (fr_mo hr1 (by simp)))) hO ?_
        intro x0 hx0
        simp only [List.mem_cons, List.not_mem_nil, or_false] at hx0
        rcases hx0 with e0 | e0 | e0 | e0 | e0
        · rw [e0]; show (own lg) = 9000 ∨ (own lg) = 9001 ∨ (own lg) = 12000 + 3 * (Int32.toNatClampNeg x) ∨ (own lg) = 12000 + 3 * (Int32.toNatClampNeg x) + 1 ∨ (own lg) = 12000 + 3 * (Int32.toNatClampNeg x) + 2; rw [og_lg]; simp
        · rw [e0]; show (own en) = 9000 ∨ (own en) = 9001 ∨ (own en) = 12000 + 3 * (Int32.toNatClampNeg x) ∨ (own en) = 12000 + 3 * (Int32.toNatClampNeg x) + 1 ∨ (own en) = 12000 + 3 * (Int32.toNatClampNeg x) + 2; rw [og_en]; simp
        · rw [e0]; show (own lf) = 9000 ∨ (own lf) = 9001 ∨ (own lf) = 12000 + 3 * (Int32.toNatClampNeg x) ∨ (own lf) = 12000 + 3 * (Int32.toNatClampNeg x) + 1 ∨ (own lf) = 12000 + 3 * (Int32.toNatClampNeg x) + 2; rw [og_lf]; simp
        · rw [e0]; show (own so) = 9000 ∨ (own so) = 9001 ∨ (own so) = 12000 + 3 * (Int32.toNatClampNeg x) ∨ (own so) = 12000 + 3 * (Int32.toNatClampNeg x) + 1 ∨ (own so) = 12000 + 3 * (Int32.toNatClampNeg x) + 2; rw [og_so]; simp
        · rw [e0]; show (own fc) = 9000 ∨ (own fc) = 9001 ∨ (own fc) = 12000 + 3 * (Int32.toNatClampNeg x) ∨ (own fc) = 12000 + 3 * (Int32.toNatClampNeg x) + 1 ∨ (own fc) = 12000 + 3 * (Int32.toNatClampNeg x) + 2; rw [og_fc]; simp
      have hLf2 : cLf cy own2 f1 (Int32.toNatClampNeg x) lf p so fc _ _ _ _ _ _ _ := ⟨⟨(hO _ _ hlf).trans og_lf, (hO _ _ hso).trans og_so, (hO _ _ hfc).trans og_fc⟩, hlf_1, hso_1, hfc_1⟩
      have hen9 : own2 e_1 = 9001 := by rw [ho2]; exact va_up_self _ _ _
      exact gz_iretU rfl dX11_choose_26 (by omega) (by omega) (⟨_, rfl, own2, _, _, _, _, _, ⟨_, _, _, _, _, _, _, _, _, _, _, _, _, _, _, (cXo_kp HcXo hK (nt_7501 (Int32.toNatClampNeg x) hilf)), (kCh_kp HcCh hK (nt_7502 (Int32.toNatClampNeg x) hilf)), (kTp_kp HcTp hK (nt_7503 (Int32.toNatClampNeg x) hilf)), (kOu_kp HcOu hK (nt_7504 (Int32.toNatClampNeg x) hilf)), (cFa_kp HcFa hK (nt_7505 (Int32.toNatClampNeg x) hilf)), (cFm_kp HcFm hK (nt_7506 (Int32.toNatClampNeg x) hilf)), (kDr_kp HcDr hK (nt_7507 (Int32.toNatClampNeg x) hilf)), (kOt_kp HcOt hK (nt_7508 (Int32.toNatClampNeg x) hilf)), (kRt_kp HcRt hK (nt_7509 (Int32.toNatClampNeg x) hilf)), (kLa_kp HcLa hK (nt_7510 (Int32.toNatClampNeg x) hilf)), ⟨_, _, _, _, _, _, _, _, _, _, _, _, ⟨⟨((hO _ _ hlg).trans og_lg), hen9, ((hO _ _ hge).trans og_ge), ((hO _ _ hre).trans og_re), ((hO _ _ hgv).trans og_gv), ((hO _ _ htk).trans og_tk), ((hO _ _ ham).trans og_am)⟩, hlg_1, he_1, (hK.2 _ _ hge (by show ¬ ((own ge) = 9000 ∨ (own ge) = 9001 ∨ (own ge) = 12000 + 3 * (Int32.toNatClampNeg x) ∨ (own ge) = 12000 + 3 * (Int32.toNatClampNeg x) + 1 ∨ (own ge) = 12000 + 3 * (Int32.toNatClampNeg x) + 2); rw [og_ge]; exact (nt_7511 (Int32.toNatClampNeg x) hilf) _ ⟨Nat.le_refl _, Nat.lt_succ_self _⟩)), (hK.2 _ _ hre (by show ¬ ((own re) = 9000 ∨ (own re) = 9001 ∨ (own re) = 12000 + 3 * (Int32.toNatClampNeg x) ∨ (own re) = 12000 + 3 * (Int32.toNatClampNeg x) + 1 ∨ (own re) = 12000 + 3 * (Int32.toNatClampNeg x) + 2); rw [og_re]; exact (nt_7512 (Int32.toNatClampNeg x) hilf) _ ⟨Nat.le_refl _, Nat.lt_succ_self _⟩)), (hK.2 _ _ hgv (by show ¬ ((own gv) = 9000 ∨ (own gv) = 9001 ∨ (own gv) = 12000 + 3 * (Int32.toNatClampNeg x) ∨ (own gv) = 12000 + 3 * (Int32.toNatClampNeg x) + 1 ∨ (own gv) = 12000 + 3 * (Int32.toNatClampNeg x) + 2); rw [og_gv]; exact (nt_7513 (Int32.toNatClampNeg x) hilf) _ ⟨Nat.le_refl _, Nat.lt_succ_self _⟩)), (hK.2 _ _ htk (by show ¬ ((own tk) = 9000 ∨ (own tk) = 9001 ∨ (own tk) = 12000 + 3 * (Int32.toNatClampNeg x) ∨ (own tk) = 12000 + 3 * (Int32.toNatClampNeg x) + 1 ∨ (own tk) = 12000 + 3 * (Int32.toNatClampNeg x) + 2); rw [og_tk]; exact (nt_7514 (Int32.toNatClampNeg x) hilf) _ ⟨Nat.le_refl _, Nat.lt_succ_self _⟩)), (hK.2 _ _ ham (by show ¬ ((own am) = 9000 ∨ (own am) = 9001 ∨ (own am) = 12000 + 3 * (Int32.toNatClampNeg x) ∨ (own am) = 12000 + 3 * (Int32.toNatClampNeg x) + 1 ∨ (own am) = 12000 + 3 * (Int32.toNatClampNeg x) + 2); rw [og_am]; exact (nt_7515 (Int32.toNatClampNeg x) hilf) _ ⟨Nat.le_refl _, Nat.lt_succ_self _⟩)), hl_1⟩⟩, (kCo_kp HcCo hK (nt_7516 (Int32.toNatClampNeg x) hilf)), (cLv_one (LN2 := lnW (puW W (Int32.toNatClampNeg x) (dcZ (Tf (W.2.2.getD (Int32.toNatClampNeg x) lf0).1) S x.toInt (W.2.2.getD (Int32.toNatClampNeg x) lf0).2.1 (W.2.2.getD (Int32.toNatClampNeg x) lf0).2.2.1 4 y.toInt u.toInt q0.toInt (lsW W (Int32.toNatClampNeg x))))) HcLv hK (nt_7500 (Int32.toNatClampNeg x) hilf) hjlf hLf2 ⟨hjf, hjp⟩ (lnW_at hlW ⟨⟨hnu, hjfo⟩, hho1, hho2⟩ hst_1.2) (fun i9 j9 n9 a9 b9 c9 d9 e9 f9 z9 y9 => lnW_ot hlW z9 (hcw.2.2.1 i9 j9 n9 a9 b9 c9 d9 e9 f9 y9))), (kWo_kp HcWo hK (nt_7517 (Int32.toNatClampNeg x) hilf) (nt_7518 (Int32.toNatClampNeg x) hilf)), HcFn, HcLn⟩, (kp_0 hK ((nt_7519 (Int32.toNatClampNeg x) hilf) 0 ⟨Nat.le_refl _, Nat.lt_succ_self _⟩)), ⟨by omega, by omega⟩, by rw [hcZ]; exact cLW_put hcw hlW hst_1 hQ2, by rw [hcR]; exact hrr_1⟩)
  ·
    refine gz_iload dX11_choose_5 rfl ?_
    refine gz_iconst (v := 1) dX11_choose_7 (by decide) ?_
    refine gz_icmp_eq (tgt := 13) dX11_choose_8 (by decide) (fun c_8 => ?_) (fun c_8 => ?_)
    ·
      refine gz_aload_n dX11_choose_13 rfl rfl ?_
      refine sgX11_85 hxo rfl dX11_choose_14 ?_
      refine gz_iload_n dX11_choose_17 rfl rfl ?_
      refine gz_iload_n dX11_choose_18 rfl rfl ?_
      refine gz_iload_n dX11_choose_19 rfl rfl ?_
      refine gz_iconst (v := 4) dX11_choose_20 (by decide) ?_
      refine gz_iload dX11_choose_21 rfl ?_
      have hq01 : 0 ≤ q0.toInt ∧ q0.toInt ≤ 1 := by rw [c_8]; exact ⟨by decide, by decide⟩
      have hwh01 : 0 ≤ q0.toInt ∧ q0.toInt ≤ 1 := hq01
      cases hA : lifeF csz lvg x with
      | none =>
        have hno := lifeF_out (by have z9 := hcw.1; omega) HcLn hA
        obtain ⟨cn1, cn2⟩ := ch_n (Tf := Tf) (S := S) (kd := 4) (l := x.toInt) (k := y.toInt) (hs := u.toInt) (wh := q0.toInt) (W := W) (fun z => hno ⟨z.1.1, by have z9 := hcw.1.1; have z8 := z.1.2; omega⟩)
        refine suX11_177 (k_X1_decideN (kx := y) (hx_ := u) (kd := 4) (wh := q0) hco hlv hA) hco ⟨(Nat.le_of_ble_eq_true rfl), (Nat.le_of_ble_eq_true rfl)⟩ ⟨(by simp only [gRm]; omega), (by simp only [gRm]; omega)⟩ rfl rfl (Nat.le_of_ble_eq_true rfl) dX11_choose_23 ?_
        rintro kk_0 nn_0 r_0 f_0 ⟨z1, z2, z3, z4⟩
        subst z1 z2 z3
        rw [z4]
        refine gz_eq (st2 := [.int (-1)]) rfl rfl rfl rfl ?_
        exact gz_iretU rfl dX11_choose_26 (by omega) (by omega) (⟨_, rfl, own, _, _, _, _, _, hI, kp0_rf, ⟨by omega, by omega⟩, by rw [cn1]; exact hcw, by rw [cn2]; rfl⟩)
      | some lf =>
        have hilf := (lifeF_some hA).1
        have hjlf := (lifeF_some hA).2
        obtain ⟨p, so, fc, jf, nu, ho1, ho2, fs_, ga, sg, fg, hLf, hjf, hjp, hLN⟩ := HcLv _ _ hilf hjlf
        obtain ⟨⟨og_lf, og_so, og_fc⟩, hlf, hso, hfc⟩ := id hLf
        obtain ⟨c1, c2, n1, n2, s, v, g, h, ⟨⟨og_p, og_c1, og_c2⟩, hp, hc1, hc2, hs, hv, hFI⟩, hCN⟩ := HcFm _ _ hjf hjp
        have hin := lifeF_in hA
        have hlW : (Int32.toNatClampNeg x) < W.2.2.length := by have z9 := hcw.1.1; rw [clN]; omega
        have hixx : (((Int32.toNatClampNeg x) : Nat) : Int) = x.toInt := by rw [clN]; omega
        obtain ⟨⟨⟨hnu, hjfo⟩, hho1, hho2⟩, hLFc⟩ := hcw.2.2.1 _ _ _ _ _ _ _ _ _ hLN hlW
        obtain ⟨hfc_, hQ⟩ := hcw.2.2.2.1 _ hlW
        have hcT_ := hcw.2.2.2.2 jf _ _ _ _ (by rw [hjfo]; exact hfc_) hCN
        rw [← hjfo] at hQ
        refine suX11_177 (k_X1_decideE (T := Tf jf) (S := S) (Z := lsW W (Int32.toNatClampNeg x)) (kx := y) (hx_ := u) (kd := 4) (wh := q0) (y2 := 0) hco hlv hlf hso hfc hp hc1 hc2 hsc hth hlg hen hs hv ⟨(tgn og_so og_fc (by omega)), (tgn og_so og_c1 (by omega)), (tgn og_so og_c2 (by omega)), (tgn og_so og_th (by omega)), (tgn og_fc og_c1 (by omega)), (tgn og_fc og_c2 (by omega)), (tgn og_fc og_th (by omega))⟩ hcT_ hSn mcLg ⟨(tgn og_en og_so (by omega)), (tgn og_en og_fc (by omega)), (tgn og_en og_c1 (by omega)), (tgn og_en og_c2 (by omega)), (tgn og_en og_th (by decide))⟩ hA ⟨hcw.2.1, hLFc⟩ hQ (fun z9 y9 _ => y9)) hco ⟨(Nat.le_of_ble_eq_true rfl), (Nat.le_of_ble_eq_true rfl)⟩ ⟨(by simp only [gRm]; omega), (by simp only [gRm]; omega)⟩ rfl rfl (Nat.le_of_ble_eq_true rfl) dX11_choose_23 ?_
        rintro kk_2 nn_2 r_2 f2 ⟨rr_2, e_2, m_2, g_2, s_2, l_2, z_2, a_2, x_2, y_2, rfl, hlg_2, he_2, hlf_2, hso_2, hfc_2, hl_2, hu_2, hc_2, hst_2, hrr_2, hr2⟩
        refine gz_eq (st2 := [.int rr_2]) rfl rfl rfl rfl ?_
        have hxo_2 : f2 xo = some (.inr (11, [.ref ch, .ref tp, .ref ou, .ref fm, .ref dr, .ref dt_, .ref rd, .ref te, .ref la, .ref lg, .ref co, .ref wo, .int fcn])) := hr2 _ _ hxo (by simp only [List.mem_cons, List.not_mem_nil, or_false, not_or]; exact ⟨(tgn og_xo og_lg (by decide)), (tgn og_xo og_en (by decide)), (tgn og_xo og_lf (by omega)), (tgn og_xo og_so (by omega)), (tgn og_xo og_fc (by omega))⟩)
        have hco_2 : f2 co = some (.inr (1, [.ref lv, .ref sc, .ref lg, .int csz])) := hr2 _ _ hco (by simp only [List.mem_cons, List.not_mem_nil, or_false, not_or]; exact ⟨(tgn og_co og_lg (by decide)), (tgn og_co og_en (by decide)), (tgn og_co og_lf (by omega)), (tgn og_co og_so (by omega)), (tgn og_co og_fc (by omega))⟩)
        have hlv_2 : f2 lv = some (.inl (cy 5, 40, .inr (.inr (.inr (.inr (lvg)))))) := hr2 _ _ hlv (by simp only [List.mem_cons, List.not_mem_nil, or_false, not_or]; exact ⟨(tgn og_lv og_lg (by decide)), (tgn og_lv og_en (by decide)), (tgn og_lv og_lf (by omega)), (tgn og_lv og_so (by omega)), (tgn og_lv og_fc (by omega))⟩)
        have hch_2 : f2 ch = some (.inr (0, [.ref tl, .ref sc])) := hr2 _ _ hch (by simp only [List.mem_cons, List.not_mem_nil, or_false, not_or]; exact ⟨(tgn og_ch og_lg (by decide)), (tgn og_ch og_en (by decide)), (tgn og_ch og_lf (by omega)), (tgn og_ch og_so (by omega)), (tgn og_ch og_fc (by omega))⟩)
        have htl_2 : f2 tl = some (.inl (cy 0, 2400, .inl (tg))) := hr2 _ _ htl (by simp only [List.mem_cons, List.not_mem_nil, or_false, not_or]; exact ⟨(tgn og_tl og_lg (by decide)), (tgn og_tl og_en (by decide)), (tgn og_tl og_lf (by omega)), (tgn og_tl og_so (by omega)), (tgn og_tl og_fc (by omega))⟩)
        have hsc_2 : f2 sc = some (.inr (7, [.ref th, .int da])) := hr2 _ _ hsc (by simp only [List.mem_cons, List.not_mem_nil, or_false, not_or]; exact ⟨(tgn og_sc og_lg (by decide)), (tgn og_sc og_en (by decide)), (tgn og_sc og_lf (by omega)), (tgn og_sc og_so (by omega)), (tgn og_sc og_fc (by omega))⟩)
        have hth_2 : f2 th = some (.inl (cy 0, 6, .inl (thg))) := hr2 _ _ hth (by simp only [List.mem_cons, List.not_mem_nil, or_false, not_or]; exact ⟨(tgn og_th og_lg (by decide)), (tgn og_th og_en (by decide)), (tgn og_th og_lf (by omega)), (tgn og_th og_so (by omega)), (tgn og_th og_fc (by omega))⟩)
        have hge_2 : f2 ge = some (.inl (cy 2, 8, .inr (.inl (geg)))) := hr2 _ _ hge (by simp only [List.mem_cons, List.not_mem_nil, or_false, not_or]; exact ⟨(tgn og_ge og_lg (by decide)), (tgn og_ge og_en (by decide)), (tgn og_ge og_lf (by omega)), (tgn og_ge og_so (by omega)), (tgn og_ge og_fc (by omega))⟩)
        have hre_2 : f2 re = some (.inl (cy 2, 8, .inr (.inl (reg)))) := hr2 _ _ hre (by simp only [List.mem_cons, List.not_mem_nil, or_false, not_or]; exact ⟨(tgn og_re og_lg (by decide)), (tgn og_re og_en (by decide)), (tgn og_re og_lf (by omega)), (tgn og_re og_so (by omega)), (tgn og_re og_fc (by omega))⟩)
        have hgv_2 : f2 gv = some (.inl (cy 0, 8, .inl (gvg))) := hr2 _ _ hgv (by simp only [List.mem_cons, List.not_mem_nil, or_false, not_or]; exact ⟨(tgn og_gv og_lg (by decide)), (tgn og_gv og_en (by decide)), (tgn og_gv og_lf (by omega)), (tgn og_gv og_so (by omega)), (tgn og_gv og_fc (by omega))⟩)
        have htk_2 : f2 tk = some (.inl (cy 0, 8, .inl (tkg))) := hr2 _ _ htk (by simp only [List.mem_cons, List.not_mem_nil, or_false, not_or]; exact ⟨(tgn og_tk og_lg (by decide)), (tgn og_tk og_en (by decide)), (tgn og_tk og_lf (by omega)), (tgn og_tk og_so (by omega)), (tgn og_tk og_fc (by omega))⟩)
        have ham_2 : f2 am = some (.inl (cy 2, 8, .inr (.inl (amg)))) := hr2 _ _ ham (by simp only [List.mem_cons, List.not_mem_nil, or_false, not_or]; exact ⟨(tgn og_am og_lg (by decide)), (tgn og_am og_en (by decide)), (tgn og_am og_lf (by omega)), (tgn og_am og_so (by omega)), (tgn og_am og_fc (by omega))⟩)
        have hp_2 : f2 p = some (.inr (2, [.ref c1, .ref c2, .int s, .int v])) := hr2 _ _ hp (by simp only [List.mem_cons, List.not_mem_nil, or_false, not_or]; exact ⟨(tgn og_p og_lg (by omega)), (tgn og_p og_en (by omega)), (tgn og_p og_lf (by omega)), (tgn og_p og_so (by omega)), (tgn og_p og_fc (by omega))⟩)
        have hc1_2 : f2 c1 = some (.inl (cy 0, n1, .inl (g))) := hr2 _ _ hc1 (by simp only [List.mem_cons, List.not_mem_nil, or_false, not_or]; exact ⟨(tgn og_c1 og_lg (by omega)), (tgn og_c1 og_en (by omega)), (tgn og_c1 og_lf (by omega)), (tgn og_c1 og_so (by omega)), (tgn og_c1 og_fc (by omega))⟩)
        have hc2_2 : f2 c2 = some (.inl (cy 0, n2, .inl (h))) := hr2 _ _ hc2 (by simp only [List.mem_cons, List.not_mem_nil, or_false, not_or]; exact ⟨(tgn og_c2 og_lg (by omega)), (tgn og_c2 og_en (by omega)), (tgn og_c2 og_lf (by omega)), (tgn og_c2 og_so (by omega)), (tgn og_c2 og_fc (by omega))⟩)
        rw [hnu, hixx, hho1, hho2, hjfo] at hst_2 hrr_2
        have hcZ : chW Tf S 4 x.toInt y.toInt u.toInt q0.toInt W = puW W (Int32.toNatClampNeg x) (dcZ (Tf (W.2.2.getD (Int32.toNatClampNeg x) lf0).1) S x.toInt (W.2.2.getD (Int32.toNatClampNeg x) lf0).2.1 (W.2.2.getD (Int32.toNatClampNeg x) lf0).2.2.1 4 y.toInt u.toInt q0.toInt (lsW W (Int32.toNatClampNeg x))) := by unfold chW; rw [if_pos ⟨⟨hin.1, by have z9 := hcw.1.1; omega⟩, hwh01⟩]; rfl
        have hcR : chR Tf S 4 x.toInt y.toInt u.toInt q0.toInt W = dcR (Tf (W.2.2.getD (Int32.toNatClampNeg x) lf0).1) S x.toInt (W.2.2.getD (Int32.toNatClampNeg x) lf0).2.1 (W.2.2.getD (Int32.toNatClampNeg x) lf0).2.2.1 4 y.toInt u.toInt q0.toInt (lsW W (Int32.toNatClampNeg x)) := by unfold chR; rw [if_pos ⟨⟨hin.1, by have z9 := hcw.1.1; omega⟩, hwh01⟩]; rfl
        have hQ2 := dcZ_ok (S := S) (l := x.toInt) (a := (W.2.2.getD (Int32.toNatClampNeg x) lf0).2.1) (b := (W.2.2.getD (Int32.toNatClampNeg x) lf0).2.2.1) (kd := 4) (k := y.toInt) (hs := u.toInt) (wh := q0.toInt) (Z := lsW W (Int32.toNatClampNeg x)) hcT_.1.1 hcT_.1.2.1 hQ (fun _ => rfl)
        rw [hjfo] at hQ2
        obtain ⟨own2, ho2⟩ : ∃ own2 : Nat → Nat, own2 = va_up own e_2 9001 := ⟨_, rfl⟩
        have hO : ∀ z e, f z = some e → own2 z = own z := by rw [ho2]; exact own_en hc_2 og_en
        have hK : kp own own2 (fun k => k = 9000 ∨ k = 9001 ∨ k = 12000 + 3 * (Int32.toNatClampNeg x) ∨ k = 12000 + 3 * (Int32.toNatClampNeg x) + 1 ∨ k = 12000 + 3 * (Int32.toNatClampNeg x) + 2) f f2 := by
          refine kp_fr (S := [lg, en, lf, so, fc]) ((fr_tr fr_rf (fr_mo hr2 (by simp)))) hO ?_
          intro x0 hx0
          simp only [List.mem_cons, List.not_mem_nil, or_false] at hx0
          rcases hx0 with e0 | e0 | e0 | e0 | e0
          · rw [e0]; show (own lg) = 9000 ∨ (own lg) = 9001 ∨ (own lg) = 12000 + 3 * (Int32.toNatClampNeg x) ∨ (own lg) = 12000 + 3 * (Int32.toNatClampNeg x) + 1 ∨ (own lg) = 12000 + 3 * (Int32.toNatClampNeg x) + 2; rw [og_lg]; simp
          · rw [e0]; show (own en) = 9000 ∨ (own en) = 9001 ∨ (own en) = 12000 + 3 * (Int32.toNatClampNeg x) ∨ (own en) = 12000 + 3 * (Int32.toNatClampNeg x) + 1 ∨ (own en) = 12000 + 3 * (Int32.toNatClampNeg x) + 2; rw [og_en]; simp
          · rw [e0]; show (own lf) = 9000 ∨ (own lf) = 9001 ∨ (own lf) = 12000 + 3 * (Int32.toNatClampNeg x) ∨ (own lf) = 12000 + 3 * (Int32.toNatClampNeg x) + 1 ∨ (own lf) = 12000 + 3 * (Int32.toNatClampNeg x) + 2; rw [og_lf]; simp
          · rw [e0]; show (own so) = 9000 ∨ (own so) = 9001 ∨ (own so) = 12000 + 3 * (Int32.toNatClampNeg x) ∨ (own so) = 12000 + 3 * (Int32.toNatClampNeg x) + 1 ∨ (own so) = 12000 + 3 * (Int32.toNatClampNeg x) + 2; rw [og_so]; simp
          · rw [e0]; show (own fc) = 9000 ∨ (own fc) = 9001 ∨ (own fc) = 12000 + 3 * (Int32.toNatClampNeg x) ∨ (own fc) = 12000 + 3 * (Int32.toNatClampNeg x) + 1 ∨ (own fc) = 12000 + 3 * (Int32.toNatClampNeg x) + 2; rw [og_fc]; simp
        have hLf2 : cLf cy own2 f2 (Int32.toNatClampNeg x) lf p so fc _ _ _ _ _ _ _ := ⟨⟨(hO _ _ hlf).trans og_lf, (hO _ _ hso).trans og_so, (hO _ _ hfc).trans og_fc⟩, hlf_2, hso_2, hfc_2⟩
        have hen9 : own2 e_2 = 9001 := by rw [ho2]; exact va_up_self _ _ _
        exact gz_iretU rfl dX11_choose_26 (by omega) (by omega) (⟨_, rfl, own2, _, _, _, _, _, ⟨_, _, _, _, _, _, _, _, _, _, _, _, _, _, _, (cXo_kp HcXo hK (nt_7501 (Int32.toNatClampNeg x) hilf)), (kCh_kp HcCh hK (nt_7502 (Int32.toNatClampNeg x) hilf)), (kTp_kp HcTp hK (nt_7503 (Int32.toNatClampNeg x) hilf)), (kOu_kp HcOu hK (nt_7504 (Int32.toNatClampNeg x) hilf)), (cFa_kp HcFa hK (nt_7505 (Int32.toNatClampNeg x) hilf)), (cFm_kp HcFm hK (nt_7506 (Int32.toNatClampNeg x) hilf)), (kDr_kp HcDr hK (nt_7507 (Int32.toNatClampNeg x) hilf)), (kOt_kp HcOt hK (nt_7508 (Int32.toNatClampNeg x) hilf)), (kRt_kp HcRt hK (nt_7509 (Int32.toNatClampNeg x) hilf)), (kLa_kp HcLa hK (nt_7510 (Int32.toNatClampNeg x) hilf)), ⟨_, _, _, _, _, _, _, _, _, _, _, _, ⟨⟨((hO _ _ hlg).trans og_lg), hen9, ((hO _ _ hge).trans og_ge), ((hO _ _ hre).trans og_re), ((hO _ _ hgv).trans og_gv), ((hO _ _ htk).trans og_tk), ((hO _ _ ham).trans og_am)⟩, hlg_2, he_2, (hK.2 _ _ hge (by show ¬ ((own ge) = 9000 ∨ (own ge) = 9001 ∨ (own ge) = 12000 + 3 * (Int32.toNatClampNeg x) ∨ (own ge) = 12000 + 3 * (Int32.toNatClampNeg x) + 1 ∨ (own ge) = 12000 + 3 * (Int32.toNatClampNeg x) + 2); rw [og_ge]; exact (nt_7511 (Int32.toNatClampNeg x) hilf) _ ⟨Nat.le_refl _, Nat.lt_succ_self _⟩)), (hK.2 _ _ hre (by show ¬ ((own re) = 9000 ∨ (own re) = 9001 ∨ (own re) = 12000 + 3 * (Int32.toNatClampNeg x) ∨ (own re) = 12000 + 3 * (Int32.toNatClampNeg x) + 1 ∨ (own re) = 12000 + 3 * (Int32.toNatClampNeg x) + 2); rw [og_re]; exact (nt_7512 (Int32.toNatClampNeg x) hilf) _ ⟨Nat.le_refl _, Nat.lt_succ_self _⟩)), (hK.2 _ _ hgv (by show ¬ ((own gv) = 9000 ∨ (own gv) = 9001 ∨ (own gv) = 12000 + 3 * (Int32.toNatClampNeg x) ∨ (own gv) = 12000 + 3 * (Int32.toNatClampNeg x) + 1 ∨ (own gv) = 12000 + 3 * (Int32.toNatClampNeg x) + 2); rw [og_gv]; exact (nt_7513 (Int32.toNatClampNeg x) hilf) _ ⟨Nat.le_refl _, Nat.lt_succ_self _⟩)), (hK.2 _ _ htk (by show ¬ ((own tk) = 9000 ∨ (own tk) = 9001 ∨ (own tk) = 12000 + 3 * (Int32.toNatClampNeg x) ∨ (own tk) = 12000 + 3 * (Int32.toNatClampNeg x) + 1 ∨ (own tk) = 12000 + 3 * (Int32.toNatClampNeg x) + 2); rw [og_tk]; exact (nt_7514 (Int32.toNatClampNeg x) hilf) _ ⟨Nat.le_refl _, Nat.lt_succ_self _⟩)), (hK.2 _ _ ham (by show ¬ ((own am) = 9000 ∨ (own am) = 9001 ∨ (own am) = 12000 + 3 * (Int32.toNatClampNeg x) ∨ (own am) = 12000 + 3 * (Int32.toNatClampNeg x) + 1 ∨ (own am) = 12000 + 3 * (Int32.toNatClampNeg x) + 2); rw [og_am]; exact (nt_7515 (Int32.toNatClampNeg x) hilf) _ ⟨Nat.le_refl _, Nat.lt_succ_self _⟩)), hl_2⟩⟩, (kCo_kp HcCo hK (nt_7516 (Int32.toNatClampNeg x) hilf)), (cLv_one (LN2 := lnW (puW W (Int32.toNatClampNeg x) (dcZ (Tf (W.2.2.getD (Int32.toNatClampNeg x) lf0).1) S x.toInt (W.2.2.getD (Int32.toNatClampNeg x) lf0).2.1 (W.2.2.getD (Int32.toNatClampNeg x) lf0).2.2.1 4 y.toInt u.toInt q0.toInt (lsW W (Int32.toNatClampNeg x))))) HcLv hK (nt_7500 (Int32.toNatClampNeg x) hilf) hjlf hLf2 ⟨hjf, hjp⟩ (lnW_at hlW ⟨⟨hnu, hjfo⟩, hho1, hho2⟩ hst_2.2) (fun i9 j9 n9 a9 b9 c9 d9 e9 f9 z9 y9 => lnW_ot hlW z9 (hcw.2.2.1 i9 j9 n9 a9 b9 c9 d9 e9 f9 y9))), (kWo_kp HcWo hK (nt_7517 (Int32.toNatClampNeg x) hilf) (nt_7518 (Int32.toNatClampNeg x) hilf)), HcFn, HcLn⟩, (kp_0 hK ((nt_7519 (Int32.toNatClampNeg x) hilf) 0 ⟨Nat.le_refl _, Nat.lt_succ_self _⟩)), ⟨by omega, by omega⟩, by rw [hcZ]; exact cLW_put hcw hlW hst_2 hQ2, by rw [hcR]; exact hrr_2⟩)
    ·
      refine gz_iconst (v := (-1)) dX11_choose_11 (by decide) ?_
      have hb0 : q0.toInt ≠ 0 := fun e => c_2 (Int32.toInt_inj.mp (e.trans rfl))
      have hb1 : q0.toInt ≠ 1 := fun e => c_8 (Int32.toInt_inj.mp (e.trans rfl))
      obtain ⟨cn1, cn2⟩ := ch_n (Tf := Tf) (S := S) (kd := 4) (l := x.toInt) (k := y.toInt) (hs := u.toInt) (wh := q0.toInt) (W := W) (fun z => by have z9 := z.2.1; omega)
      exact gz_iretU rfl dX11_choose_12 (by omega) (by omega) (⟨_, rfl, own, _, _, _, _, _, hI, kp0_rf, ⟨by omega, by omega⟩, by rw [cn1]; exact hcw, by rw [cn2]; rfl⟩)

theorem lnW_new {W : Lw} {r : Lf} {i j : Nat} {nu h1 h2 fs : Int32} {ga : Int64} {sg fg : Nat → Int32} (h : lnW W i j nu h1 h2 fs ga sg fg) (hn : i ≠ W.2.2.length) : lnW (W.1, W.2.1, W.2.2 ++ [r]) i j nu h1 h2 fs ga sg fg := fun hi => by
  have hi : i < (W.2.2 ++ [r]).length := hi
  rw [List.length_append, List.length_cons, List.length_nil] at hi
  have q := h (by omega)
  show ((nu.toInt = (i : Int) ∧ j = ((W.2.2 ++ [r]).getD i lf0).1) ∧ h1.toInt = ((W.2.2 ++ [r]).getD i lf0).2.1 ∧ h2.toInt = ((W.2.2 ++ [r]).getD i lf0).2.2.1) ∧ LFc fs ga sg fg ((W.2.2 ++ [r]).getD i lf0).2.2.2.1 ((W.2.2 ++ [r]).getD i lf0).2.2.2.2
  rw [gtD2 (by omega)]
  exact q
theorem adW_ok {c : Int} {Tf : Nat → List Hd} {S : Sn} {f : Nat} {a b : Int} {W : Lw} (hT : okT (Tf f) 1 ∧ hvT (Tf f)) (hf : (f : Int) < c) (h : okW c Tf W) : okW c Tf (adW Tf S f a b W) := by
  have hl : W.2.2.length < (W.1, W.2.1, W.2.2 ++ [(f, a, b, ([] : List Sd), (0 : Int))]).2.2.length := by show _ < (W.2.2 ++ [_]).length; rw [List.length_append, List.length_cons, List.length_nil]; omega
  have hg : (W.1, W.2.1, W.2.2 ++ [(f, a, b, ([] : List Sd), (0 : Int))]).2.2.getD W.2.2.length lf0 = (f, a, b, ([] : List Sd), (0 : Int)) := gtD1
  have h0 : 0 < (Tf f).length := by obtain ⟨z9, B9, e9⟩ := okT_ne hT.1; rw [e9]; exact Nat.succ_pos _
  have h1 : okW c Tf (W.1, W.2.1, W.2.2 ++ [(f, a, b, ([] : List Sd), (0 : Int))]) := fun l hl9 => by
    have hl9 : l < (W.2.2 ++ [(f, a, b, ([] : List Sd), (0 : Int))]).length := hl9
    rw [List.length_append, List.length_cons, List.length_nil] at hl9
    show (((W.2.2 ++ [(f, a, b, ([] : List Sd), (0 : Int))]).getD l lf0).1 : Int) < c ∧ okQ (Tf ((W.2.2 ++ [(f, a, b, ([] : List Sd), (0 : Int))]).getD l lf0).1) ((W.2.2 ++ [(f, a, b, ([] : List Sd), (0 : Int))]).getD l lf0).2.2.2.1
    by_cases e : l = W.2.2.length
    · rw [e, gtD1]
      exact ⟨hf, Nat.zero_le _, fun e he => by cases he⟩
    · rw [gtD2 (by omega)]
      exact h l (by omega)
  refine okW_put h1 hl ?_
  rw [hg]
  exact (apS_ok (evT_ok hT.1 hT.2 41 0 1 h0 ⟨by decide, by decide⟩) ⟨Nat.zero_le _, fun e he => by cases he⟩).1
theorem adW_ln {Tf : Nat → List Hd} {S : Sn} {f : Nat} {a b : Int} {W : Lw} : (adW Tf S f a b W).2.2.length = W.2.2.length + 1 := by
  unfold adW
  rw [puW_ln]
  show (W.2.2 ++ [_]).length = _
  rw [List.length_append, List.length_cons, List.length_nil]
theorem formF_in {fcn : Int32} {fmg : Nat → Option Nat} {x : Int32} {p : Nat} (h : formF fcn fmg x = some p) : 0 ≤ x.toInt ∧ x.toInt < fcn.toInt := by
  have e0 : (0 : Int32).toInt = 0 := rfl
  unfold formF at h
  by_cases h1 : x < 0
  · rw [if_pos h1] at h; cases h
  · rw [if_neg h1] at h
    rw [fl_lt, e0] at h1
    by_cases h2 : fcn ≤ x
    · rw [if_pos h2] at h; cases h
    · rw [fl_le] at h2
      exact ⟨by omega, by omega⟩
theorem formF_out {fcn : Int32} {fmg : Nat → Option Nat} {x : Int32} (hz : fcn.toInt ≤ 20) (hn : cFn fcn fmg) (h : formF fcn fmg x = none) : ¬ (0 ≤ x.toInt ∧ x.toInt < fcn.toInt) := fun q => by
  have e0 : (0 : Int32).toInt = 0 := rfl
  have e20 : (20 : Int32).toInt = 20 := rfl
  unfold formF at h
  rw [if_neg (by rw [fl_lt, e0]; omega), if_neg (by rw [fl_le]; omega), if_neg (by rw [fl_le, e20]; omega)] at h
  obtain ⟨p, hp⟩ := hn.2 (Int32.toNatClampNeg x) (by rw [clN]; omega)
  rw [hp] at h
  cases h

theorem nt_7520  : ∀ k : Nat, 12000 ≤ k ∧ k < 13000 → ¬ (k = 10000 ∨ k = 10001 ∨ k = 9000 ∨ k = 9001) := by intro k hk hT; omega
theorem nt_7521  : ∀ k : Nat, 13000 ≤ k ∧ k < 14000 → ¬ (k = 10000 ∨ k = 10001 ∨ k = 9000 ∨ k = 9001) := by intro k hk hT; omega
theorem nt_7522  : ∀ k : Nat, 1000 ≤ k ∧ k < 2000 → ¬ (k = 10000 ∨ k = 10001 ∨ k = 9000 ∨ k = 9001) := by intro k hk hT; omega
theorem nt_7523  : ∀ k : Nat, 2000 ≤ k ∧ k < 3000 → ¬ (k = 10000 ∨ k = 10001 ∨ k = 9000 ∨ k = 9001) := by intro k hk hT; omega
theorem nt_7524  : ∀ k : Nat, 14000 ≤ k ∧ k < 15000 → ¬ (k = 10000 ∨ k = 10001 ∨ k = 9000 ∨ k = 9001) := by intro k hk hT; omega
theorem nt_7525  : ∀ k : Nat, 5000 ≤ k ∧ k < 6000 → ¬ (k = 10000 ∨ k = 10001 ∨ k = 9000 ∨ k = 9001) := by intro k hk hT; omega
theorem nt_7526  : ∀ k : Nat, 4000 ≤ k ∧ k < 5000 → ¬ (k = 10000 ∨ k = 10001 ∨ k = 9000 ∨ k = 9001) := by intro k hk hT; omega
theorem nt_7527  : ∀ k : Nat, 6000 ≤ k ∧ k < 7000 → ¬ (k = 10000 ∨ k = 10001 ∨ k = 9000 ∨ k = 9001) := by intro k hk hT; omega
theorem nt_7528  : ∀ k : Nat, 7000 ≤ k ∧ k < 8000 → ¬ (k = 10000 ∨ k = 10001 ∨ k = 9000 ∨ k = 9001) := by intro k hk hT; omega
theorem nt_7529  : ∀ k : Nat, 3000 ≤ k ∧ k < 4000 → ¬ (k = 10000 ∨ k = 10001 ∨ k = 9000 ∨ k = 9001) := by intro k hk hT; omega
theorem nt_7530  : ∀ k : Nat, 8000 ≤ k ∧ k < 9000 → ¬ (k = 10000 ∨ k = 10001 ∨ k = 9000 ∨ k = 9001) := by intro k hk hT; omega
theorem nt_7531  : ∀ k : Nat, 9002 ≤ k ∧ k < 9003 → ¬ (k = 10000 ∨ k = 10001 ∨ k = 9000 ∨ k = 9001) := by intro k hk hT; omega
theorem nt_7532  : ∀ k : Nat, 9003 ≤ k ∧ k < 9004 → ¬ (k = 10000 ∨ k = 10001 ∨ k = 9000 ∨ k = 9001) := by intro k hk hT; omega
theorem nt_7533  : ∀ k : Nat, 9004 ≤ k ∧ k < 9005 → ¬ (k = 10000 ∨ k = 10001 ∨ k = 9000 ∨ k = 9001) := by intro k hk hT; omega
theorem nt_7534  : ∀ k : Nat, 9005 ≤ k ∧ k < 9006 → ¬ (k = 10000 ∨ k = 10001 ∨ k = 9000 ∨ k = 9001) := by intro k hk hT; omega
theorem nt_7535  : ∀ k : Nat, 9006 ≤ k ∧ k < 9007 → ¬ (k = 10000 ∨ k = 10001 ∨ k = 9000 ∨ k = 9001) := by intro k hk hT; omega
theorem nt_7536  : ∀ k : Nat, 11000 ≤ k ∧ k < 12000 → ¬ (k = 10000 ∨ k = 10001 ∨ k = 9000 ∨ k = 9001) := by intro k hk hT; omega
theorem nt_7537  : ∀ k : Nat, 15000 ≤ k ∧ k < 16000 → ¬ (k = 10000 ∨ k = 10001 ∨ k = 9000 ∨ k = 9001) := by intro k hk hT; omega
theorem nt_7538  : ∀ k : Nat, 0 ≤ k ∧ k < 1 → ¬ (k = 10000 ∨ k = 10001 ∨ k = 9000 ∨ k = 9001) := by intro k hk hT; omega
set_option maxHeartbeats 4000000 in
set_option maxRecDepth 100000 in
theorem i_X11_beginL {l : Launch} {D : va_G} {cy : Nat → ClassId} {b : Nat} {f : gMem} {own : Nat → Nat} {xo : Nat} {da : Int32} {fcn : Int32} {csz : Int32} {sz : Int32} {len : Int32} {ln : Int32} {wz : Int32} {lo : Int32} {tg : Nat → Int32} {weg : Nat → Int32} {stg : Nat → Int32} {tpg : Nat → Int32} {CN : Nat → Int32 → Int32 → (Nat → Int32) → (Nat → Int32) → Prop} {eg : Nat → Int32} {thg : Nat → Int32} {LN : Nat → Nat → Int32 → Int32 → Int32 → Int32 → Int64 → (Nat → Int32) → (Nat → Int32) → Prop} {ne : Nat} {x y u : Int32} {Tf : Nat → List Hd} {W : Lw} {S : Sn} (hI : xI cy own xo da fcn csz sz len ln wz lo tg weg stg tpg CN eg thg LN ne f) (hcw : cLW Tf W fcn csz sz lo eg CN LN) (hSn : sCn S da thg) : gU l D cy b yX11_begin cX11_begin 5 (some .int) 20 (24000 - ne + 3) (2 * (24000 - ne) + 88) [.ref xo, .int x, .int y, .int u] f gTt (fun kk nn r f2 => ∃ r9 : Int32, r = some (.int r9) ∧ ∃ (own2 : Nat → Nat) (csz2 : Int32) (sz2 lo2 : Int32) (ne2 : Nat) (eg2 : Nat → Int32) (LN2 : Nat → Nat → Int32 → Int32 → Int32 → Int32 → Int64 → (Nat → Int32) → (Nat → Int32) → Prop), xI cy own2 xo da fcn csz2 sz2 len ln wz lo2 tg weg stg tpg CN eg2 thg LN2 ne2 f2 ∧ kp0 own own2 f f2 ∧ (kk + ne ≤ ne2 + 3 ∧ nn + 2 * ne ≤ 2 * ne2 + 604) ∧ (((W.2.2.length < 40 ∧ (0 ≤ x.toInt ∧ x.toInt < fcn.toInt) ∧ (0 ≤ y.toInt ∧ y.toInt ≤ 7) ∧ (0 ≤ u.toInt ∧ u.toInt ≤ 7) ∧ y.toInt ≠ u.toInt) ∧ cLW Tf (adW Tf S x.toInt.toNat y.toInt u.toInt W) fcn csz2 sz2 lo2 eg2 CN LN2 ∧ r9.toInt = (W.2.2.length : Int)) ∨ (¬ (W.2.2.length < 40 ∧ (0 ≤ x.toInt ∧ x.toInt < fcn.toInt) ∧ (0 ≤ y.toInt ∧ y.toInt ≤ 7) ∧ (0 ≤ u.toInt ∧ u.toInt ≤ 7) ∧ y.toInt ≠ u.toInt) ∧ cLW Tf W fcn csz2 sz2 lo2 eg2 CN LN2 ∧ r9.toInt = -1))) := by
  obtain ⟨ch, sc, tp, ou, fm, dr, dt_, rd, te, la, lg, co, wo, fmg, lvg, HcXo, HcCh, HcTp, HcOu, HcFa, HcFm, HcDr, HcOt, HcRt, HcLa, HcLg, HcCo, HcLv, HcWo, HcFn, HcLn⟩ := id hI
  obtain ⟨og_xo, hxo, mcXo⟩ := id HcXo
  obtain ⟨og_fm, hfm⟩ := id HcFa
  obtain ⟨lv, ⟨og_co, og_lv⟩, hco, hlv, mcCo⟩ := id HcCo
  obtain ⟨tl, th, ⟨og_ch, og_tl, og_sc, og_th⟩, hch, htl, hsc, hth, mcCh⟩ := id HcCh
  obtain ⟨en, ge, re, gv, tk, am, gi, gvg, tkg, geg, reg, amg, ⟨og_lg, og_en, og_ge, og_re, og_gv, og_tk, og_am⟩, hlg, hen, hge, hre, hgv, htk, ham, mcLg⟩ := id HcLg
  refine gU_of (by decide) (Nat.le_of_ble_eq_true rfl) ?_
  show gG l _ _ _ D cy b cX11_begin 5 _ RX11 "begin" 0 0 f 0 [(0, .ref xo), (1, .int x), (2, .int y), (3, .int u)] []
  refine gz_aload_n dX11_begin_0 rfl rfl ?_
  refine gz_iload_n dX11_begin_1 rfl rfl ?_
  refine scX11_126 (k_X11_formAt (x := x) hxo hfm) hxo ⟨(Nat.le_of_ble_eq_true rfl), (Nat.le_of_ble_eq_true rfl)⟩ ⟨(by simp only [gRm]; omega), (by simp only [gRm]; omega)⟩ rfl rfl (Nat.le_of_ble_eq_true rfl) dX11_begin_2 ?_
  rintro u9 f9 ⟨z9, y9⟩; rw [z9, y9]
  cases hA2 : formF fcn fmg x with
  | none =>
    refine gz_ev (w := .null) rfl ?_
    refine gz_astoreN (lv' := [(4, .null), (0, .ref xo), (1, .int x), (2, .int y), (3, .int u)]) dX11_begin_5 (by decide) rfl ?_
    refine gz_aloadN dX11_begin_7 rfl ?_
    refine gz_ifnullN (tgt := 31) dX11_begin_9 (by decide) ?_
    refine gz_iconst (v := (-1)) dX11_begin_31 (by decide) ?_
    have hxo_ := formF_out mcXo.2 HcFn hA2
    exact gz_iretU rfl dX11_begin_32 (by omega) (by omega) (⟨_, rfl, own, _, _, _, _, _, _, hI, kp0_rf, ⟨by omega, by omega⟩, Or.inr ⟨(fun z => by exact hxo_ z.2.1), hcw, rfl⟩⟩)
  | some p =>
    refine gz_ev (w := .ref p) rfl ?_
    have hip := (formF_some hA2).1
    have hjp := (formF_some hA2).2
    obtain ⟨c1, c2, n1, n2, s, v, g, h, ⟨⟨og_p, og_c1, og_c2⟩, hp, hc1, hc2, hs, hv, hFI⟩, hCN⟩ := HcFm _ _ hip hjp
    refine gz_astore (lv' := [(4, .ref p), (0, .ref xo), (1, .int x), (2, .int y), (3, .int u)]) dX11_begin_5 (by decide) rfl ?_
    refine gz_aload dX11_begin_7 rfl ?_
    refine gz_ifnull dX11_begin_9 ?_
    refine gz_iload_n dX11_begin_12 rfl rfl ?_
    refine scX11_149 (k_X11_isHouse (x := y)) ⟨(Nat.le_of_ble_eq_true rfl), (Nat.le_of_ble_eq_true rfl)⟩ ⟨(by simp only [gRm]; omega), (by simp only [gRm]; omega)⟩ rfl rfl (Nat.le_of_ble_eq_true rfl) dX11_begin_13 ?_
    intro v9 f9 z9; rw [z9.1, z9.2]
    refine gz_if_eq (tgt := 31) dX11_begin_16 (by decide) (fun c_16 => ?_) (fun c_16 => ?_)
    ·
      refine gz_iconst (v := (-1)) dX11_begin_31 (by decide) ?_
      have kc_16 := housF_w.mp c_16
      exact gz_iretU rfl dX11_begin_32 (by omega) (by omega) (⟨_, rfl, own, _, _, _, _, _, _, hI, kp0_rf, ⟨by omega, by omega⟩, Or.inr ⟨(fun z => by have z9 := hcw.1; omega), hcw, rfl⟩⟩)
    ·
      refine gz_iload_n dX11_begin_19 rfl rfl ?_
      refine scX11_149 (k_X11_isHouse (x := u)) ⟨(Nat.le_of_ble_eq_true rfl), (Nat.le_of_ble_eq_true rfl)⟩ ⟨(by simp only [gRm]; omega), (by simp only [gRm]; omega)⟩ rfl rfl (Nat.le_of_ble_eq_true rfl) dX11_begin_20 ?_
      intro v9 f9 z9; rw [z9.1, z9.2]
      refine gz_if_eq (tgt := 31) dX11_begin_23 (by decide) (fun c_23 => ?_) (fun c_23 => ?_)
      ·
        refine gz_iconst (v := (-1)) dX11_begin_31 (by decide) ?_
        have kc_16 := Classical.not_not.mp (fun q => c_16 (housF_w.mpr q))
        have kc_23 := housF_w.mp c_23
        exact gz_iretU rfl dX11_begin_32 (by omega) (by omega) (⟨_, rfl, own, _, _, _, _, _, _, hI, kp0_rf, ⟨by omega, by omega⟩, Or.inr ⟨(fun z => by have z9 := hcw.1; omega), hcw, rfl⟩⟩)
      ·
        refine gz_iload_n dX11_begin_26 rfl rfl ?_
        refine gz_iload_n dX11_begin_27 rfl rfl ?_
        refine gz_icmp_ne (tgt := 33) dX11_begin_28 (by decide) (fun c_28 => ?_) (fun c_28 => ?_)
        ·
          refine gz_aload_n dX11_begin_33 rfl rfl ?_
          refine sgX11_85 hxo rfl dX11_begin_34 ?_
          refine gz_aload dX11_begin_37 rfl ?_
          refine gz_iload_n dX11_begin_39 rfl rfl ?_
          refine gz_iload_n dX11_begin_40 rfl rfl ?_
          have kc_16 := Classical.not_not.mp (fun q => c_16 (housF_w.mpr q))
          have kc_23 := Classical.not_not.mp (fun q => c_23 (housF_w.mpr q))
          have kc_28 : y.toInt ≠ u.toInt := fun z => c_28 (Int32.toInt_inj.mp z)
          have hxi := formF_in hA2
          have hcT_ := hcw.2.2.2.2 (Int32.toNatClampNeg x) _ _ _ _ (by rw [clN]; omega) hCN
          by_cases hcz : csz.toInt < 40
          ·
            refine suX11_153 (k_X1_openE (T := Tf (Int32.toNatClampNeg x)) (S := S) (P := W.1) (L := W.2.1) (y1 := y) (y2 := u) (so := 0) (fc := 0) (q := 0) hco hlv hp hc1 hc2 hsc hth hlg hen hs hv hcT_ hSn ⟨mcCo.1, hcz⟩ mcLg ⟨(tgn og_en og_c1 (by omega)), (tgn og_en og_c2 (by omega)), (tgn og_en og_th (by decide))⟩ hcw.2.1) hco ⟨(Nat.le_of_ble_eq_true rfl), (Nat.le_of_ble_eq_true rfl)⟩ ⟨(by simp only [gRm]; omega), (by simp only [gRm]; omega)⟩ rfl rfl (Nat.le_of_ble_eq_true rfl) dX11_begin_41 ?_
            rintro kk_1 nn_1 r_1 f1 ⟨q_1, so_1, fc_1, e_1, m_1, g_1, s_1, l_1, z_1, a_1, x_1, y_1, rfl, hco_1, hlv_1, hq_1, hso_1, hfc_1, hlg_1, he_1, hl_1, hu_1, hc_1, hn6_1, hst_1, hr1⟩
            refine gz_eq (st2 := [.int csz]) rfl rfl rfl rfl ?_
            have hxo_1 : f1 xo = some (.inr (11, [.ref ch, .ref tp, .ref ou, .ref fm, .ref dr, .ref dt_, .ref rd, .ref te, .ref la, .ref lg, .ref co, .ref wo, .int fcn])) := hr1 _ _ hxo (by simp only [List.mem_cons, List.not_mem_nil, or_false, not_or]; exact ⟨(tgn og_xo og_co (by decide)), (tgn og_xo og_lv (by decide)), (tgn og_xo og_lg (by decide)), (tgn og_xo og_en (by decide))⟩)
            have hfm_1 : f1 fm = some (.inl (cy 4, 20, .inr (.inr (.inr (.inr (fmg)))))) := hr1 _ _ hfm (by simp only [List.mem_cons, List.not_mem_nil, or_false, not_or]; exact ⟨(tgn og_fm og_co (by decide)), (tgn og_fm og_lv (by decide)), (tgn og_fm og_lg (by decide)), (tgn og_fm og_en (by decide))⟩)
            have hch_1 : f1 ch = some (.inr (0, [.ref tl, .ref sc])) := hr1 _ _ hch (by simp only [List.mem_cons, List.not_mem_nil, or_false, not_or]; exact ⟨(tgn og_ch og_co (by decide)), (tgn og_ch og_lv (by decide)), (tgn og_ch og_lg (by decide)), (tgn og_ch og_en (by decide))⟩)
            have htl_1 : f1 tl = some (.inl (cy 0, 2400, .inl (tg))) := hr1 _ _ htl (by simp only [List.mem_cons, List.not_mem_nil, or_false, not_or]; exact ⟨(tgn og_tl og_co (by decide)), (tgn og_tl og_lv (by decide)), (tgn og_tl og_lg (by decide)), (tgn og_tl og_en (by decide))⟩)
            have hsc_1 : f1 sc = some (.inr (7, [.ref th, .int da])) := hr1 _ _ hsc (by simp only [List.mem_cons, List.not_mem_nil, or_false, not_or]; exact ⟨(tgn og_sc og_co (by decide)), (tgn og_sc og_lv (by decide)), (tgn og_sc og_lg (by decide)), (tgn og_sc og_en (by decide))⟩)
            have hth_1 : f1 th = some (.inl (cy 0, 6, .inl (thg))) := hr1 _ _ hth (by simp only [List.mem_cons, List.not_mem_nil, or_false, not_or]; exact ⟨(tgn og_th og_co (by decide)), (tgn og_th og_lv (by decide)), (tgn og_th og_lg (by decide)), (tgn og_th og_en (by decide))⟩)
            have hge_1 : f1 ge = some (.inl (cy 2, 8, .inr (.inl (geg)))) := hr1 _ _ hge (by simp only [List.mem_cons, List.not_mem_nil, or_false, not_or]; exact ⟨(tgn og_ge og_co (by decide)), (tgn og_ge og_lv (by decide)), (tgn og_ge og_lg (by decide)), (tgn og_ge og_en (by decide))⟩)
            have hre_1 : f1 re = some (.inl (cy 2, 8, .inr (.inl (reg)))) := hr1 _ _ hre (by simp only [List.mem_cons, List.not_mem_nil, or_false, not_or]; exact ⟨(tgn og_re og_co (by decide)), (tgn og_re og_lv (by decide)), (tgn og_re og_lg (by decide)), (tgn og_re og_en (by decide))⟩)
            have hgv_1 : f1 gv = some (.inl (cy 0, 8, .inl (gvg))) := hr1 _ _ hgv (by simp only [List.mem_cons, List.not_mem_nil, or_false, not_or]; exact ⟨(tgn og_gv og_co (by decide)), (tgn og_gv og_lv (by decide)), (tgn og_gv og_lg (by decide)), (tgn og_gv og_en (by decide))⟩)
            have htk_1 : f1 tk = some (.inl (cy 0, 8, .inl (tkg))) := hr1 _ _ htk (by simp only [List.mem_cons, List.not_mem_nil, or_false, not_or]; exact ⟨(tgn og_tk og_co (by decide)), (tgn og_tk og_lv (by decide)), (tgn og_tk og_lg (by decide)), (tgn og_tk og_en (by decide))⟩)
            have ham_1 : f1 am = some (.inl (cy 2, 8, .inr (.inl (amg)))) := hr1 _ _ ham (by simp only [List.mem_cons, List.not_mem_nil, or_false, not_or]; exact ⟨(tgn og_am og_co (by decide)), (tgn og_am og_lv (by decide)), (tgn og_am og_lg (by decide)), (tgn og_am og_en (by decide))⟩)
            have hp_1 : f1 p = some (.inr (2, [.ref c1, .ref c2, .int s, .int v])) := hr1 _ _ hp (by simp only [List.mem_cons, List.not_mem_nil, or_false, not_or]; exact ⟨(tgn og_p og_co (by omega)), (tgn og_p og_lv (by omega)), (tgn og_p og_lg (by omega)), (tgn og_p og_en (by omega))⟩)
            have hc1_1 : f1 c1 = some (.inl (cy 0, n1, .inl (g))) := hr1 _ _ hc1 (by simp only [List.mem_cons, List.not_mem_nil, or_false, not_or]; exact ⟨(tgn og_c1 og_co (by omega)), (tgn og_c1 og_lv (by omega)), (tgn og_c1 og_lg (by omega)), (tgn og_c1 og_en (by omega))⟩)
            have hc2_1 : f1 c2 = some (.inl (cy 0, n2, .inl (h))) := hr1 _ _ hc2 (by simp only [List.mem_cons, List.not_mem_nil, or_false, not_or]; exact ⟨(tgn og_c2 og_co (by omega)), (tgn og_c2 og_lv (by omega)), (tgn og_c2 og_lg (by omega)), (tgn og_c2 og_en (by omega))⟩)
            have hcl : Int32.toNatClampNeg csz < 40 := clampB mcCo.1 hcz
            have hclW : Int32.toNatClampNeg csz = W.2.2.length := by have z9 := hcw.1; rw [clN]; omega
            obtain ⟨own2, ho2⟩ : ∃ own2 : Nat → Nat, own2 = va_up (va_up (va_up (va_up own e_1 9001) q_1 (12000 + 3 * Int32.toNatClampNeg csz)) so_1 ((12000 + 3 * Int32.toNatClampNeg csz) + 1)) fc_1 ((12000 + 3 * Int32.toNatClampNeg csz) + 2) := ⟨_, rfl⟩
            have hO : ∀ z e, f z = some e → own2 z = own z := by rw [ho2]; exact own_up (own_up (own_up (own_en hc_1 og_en) hn6_1.1) hn6_1.2.1) hn6_1.2.2.1
            have hK : kp own own2 (fun k => k = 10000 ∨ k = 10001 ∨ k = 9000 ∨ k = 9001) f f1 := by
              refine kp_fr (S := [co, lv, lg, en]) ((fr_tr fr_rf (fr_mo hr1 (by simp)))) hO ?_
              intro x0 hx0
              simp only [List.mem_cons, List.not_mem_nil, or_false] at hx0
              rcases hx0 with e0 | e0 | e0 | e0
              · rw [e0]; show (own co) = 10000 ∨ (own co) = 10001 ∨ (own co) = 9000 ∨ (own co) = 9001; rw [og_co]; decide
              · rw [e0]; show (own lv) = 10000 ∨ (own lv) = 10001 ∨ (own lv) = 9000 ∨ (own lv) = 9001; rw [og_lv]; decide
              · rw [e0]; show (own lg) = 10000 ∨ (own lg) = 10001 ∨ (own lg) = 9000 ∨ (own lg) = 9001; rw [og_lg]; decide
              · rw [e0]; show (own en) = 10000 ∨ (own en) = 10001 ∨ (own en) = 9000 ∨ (own en) = 9001; rw [og_en]; decide
            have hu1 : own2 q_1 = (12000 + 3 * Int32.toNatClampNeg csz) := by rw [ho2, va_up_ne _ _ (cne hq_1 hfc_1 (by simp)), va_up_ne _ _ (cne hq_1 hso_1 (by simp)), va_up_self]
            have hu2 : own2 so_1 = (12000 + 3 * Int32.toNatClampNeg csz) + 1 := by rw [ho2, va_up_ne _ _ hn6_1.2.2.2.1, va_up_self]
            have hu3 : own2 fc_1 = (12000 + 3 * Int32.toNatClampNeg csz) + 2 := by rw [ho2, va_up_self]
            have hu4 : own2 e_1 = 9001 := by rw [ho2, va_up_ne _ _ hn6_1.2.2.2.2.2, va_up_ne _ _ hn6_1.2.2.2.2.1, va_up_ne _ _ (cne he_1 hq_1 (by simp)), va_up_self]
            have hcz1 : (csz + 1).toInt = csz.toInt + 1 := T_add (rfl : csz.toInt = csz.toInt) (rfl : (1 : Int32).toInt = 1) (by have := mcCo; omega)
            have hNew : cLf cy own2 f1 (Int32.toNatClampNeg csz) q_1 p so_1 fc_1 _ _ _ _ _ _ _ := ⟨⟨hu1, hu2, hu3⟩, hq_1, hso_1, hfc_1⟩
            have hlnn : W.2.2.length < (W.1, W.2.1, W.2.2 ++ [(x.toInt.toNat, y.toInt, u.toInt, ([] : List Sd), (0 : Int))]).2.2.length := by show _ < (W.2.2 ++ [_]).length; rw [List.length_append, List.length_cons, List.length_nil]; omega
            have hgD : (W.1, W.2.1, W.2.2 ++ [(x.toInt.toNat, y.toInt, u.toInt, ([] : List Sd), (0 : Int))]).2.2.getD W.2.2.length lf0 = (x.toInt.toNat, y.toInt, u.toInt, ([] : List Sd), (0 : Int)) := gtD1
            have hcs := hcw.1.1
            have hst9 := hst_1
            rw [hcs] at hst9
            have hokA := adW_ok (S := S) (a := y.toInt) (b := u.toInt) ⟨hcT_.1.1, hcT_.1.2.1⟩ (by rw [clN]; omega) hcw.2.2.2.1
            have hcwA : cLW Tf (adW Tf S x.toInt.toNat y.toInt u.toInt W) fcn (csz + 1) _ _ _ CN (lnW (adW Tf S x.toInt.toNat y.toInt u.toInt W)) := ⟨⟨by rw [adW_ln, hcz1, hcs]; omega, by rw [adW_ln]; omega⟩, hst9.1, fun _ _ _ _ _ _ _ _ _ q9 => q9, hokA, hcw.2.2.2.2⟩
            exact gz_iretU rfl dX11_begin_44 (by omega) (by omega) (⟨_, rfl, own2, _, _, _, _, _, _, ⟨_, _, _, _, _, _, _, _, _, _, _, _, _, _, _, (cXo_kp HcXo hK nt_7521), (kCh_kp HcCh hK nt_7522), (kTp_kp HcTp hK nt_7523), (kOu_kp HcOu hK nt_7524), (cFa_kp HcFa hK nt_7525), (cFm_kp HcFm hK nt_7526), (kDr_kp HcDr hK nt_7527), (kOt_kp HcOt hK nt_7528), (kRt_kp HcRt hK nt_7529), (kLa_kp HcLa hK nt_7530), ⟨_, _, _, _, _, _, _, _, _, _, _, _, ⟨⟨((hO _ _ hlg).trans og_lg), hu4, ((hO _ _ hge).trans og_ge), ((hO _ _ hre).trans og_re), ((hO _ _ hgv).trans og_gv), ((hO _ _ htk).trans og_tk), ((hO _ _ ham).trans og_am)⟩, hlg_1, he_1, (hK.2 _ _ hge (by show ¬ ((own ge) = 10000 ∨ (own ge) = 10001 ∨ (own ge) = 9000 ∨ (own ge) = 9001); rw [og_ge]; exact nt_7531 _ ⟨Nat.le_refl _, Nat.lt_succ_self _⟩)), (hK.2 _ _ hre (by show ¬ ((own re) = 10000 ∨ (own re) = 10001 ∨ (own re) = 9000 ∨ (own re) = 9001); rw [og_re]; exact nt_7532 _ ⟨Nat.le_refl _, Nat.lt_succ_self _⟩)), (hK.2 _ _ hgv (by show ¬ ((own gv) = 10000 ∨ (own gv) = 10001 ∨ (own gv) = 9000 ∨ (own gv) = 9001); rw [og_gv]; exact nt_7533 _ ⟨Nat.le_refl _, Nat.lt_succ_self _⟩)), (hK.2 _ _ htk (by show ¬ ((own tk) = 10000 ∨ (own tk) = 10001 ∨ (own tk) = 9000 ∨ (own tk) = 9001); rw [og_tk]; exact nt_7534 _ ⟨Nat.le_refl _, Nat.lt_succ_self _⟩)), (hK.2 _ _ ham (by show ¬ ((own am) = 10000 ∨ (own am) = 10001 ∨ (own am) = 9000 ∨ (own am) = 9001); rw [og_am]; exact nt_7535 _ ⟨Nat.le_refl _, Nat.lt_succ_self _⟩)), hl_1⟩⟩, ⟨_, ⟨⟨((hO _ _ hco).trans og_co), ((hO _ _ hlv).trans og_lv)⟩, hco_1, hlv_1, ⟨by have := mcCo; omega, by omega⟩⟩⟩, (cLv_new (LN2 := lnW (adW Tf S x.toInt.toNat y.toInt u.toInt W)) (cLv_kp HcLv hK nt_7520) hNew ⟨hip, hjp⟩ (by rw [hclW]; exact lnW_at hlnn (by rw [hgD]; exact ⟨⟨hcs, by rw [clN]⟩, rfl, rfl⟩) hst9.2) (fun i9 j9 n9 a9 b9 c9 d9 e9 f9 z9 y9 => lnW_ot hlnn (by rw [← hclW]; exact z9) (lnW_new (hcw.2.2.1 i9 j9 n9 a9 b9 c9 d9 e9 f9 y9) (by rw [← hclW]; exact z9)))), (kWo_kp HcWo hK nt_7536 nt_7537), HcFn, ((fun i9 hi9 => by by_cases e9 : i9 = Int32.toNatClampNeg csz; exact ⟨_, by rw [e9, va_up_self]⟩; obtain ⟨q9, hq9⟩ := HcLn i9 (by rw [hclW] at e9; omega); exact ⟨q9, by rw [va_up_ne _ _ e9]; exact hq9⟩))⟩, (kp_0 hK (nt_7538 0 ⟨Nat.le_refl _, Nat.lt_succ_self _⟩)), ⟨by omega, by omega⟩, Or.inl ⟨⟨by omega, by omega, by omega, by omega, by omega⟩, hcwA, hcs⟩⟩)
          ·
            refine suX11_153 (k_X1_openF (p := p) (y1 := y) (y2 := u) hco (by omega)) hco ⟨(Nat.le_of_ble_eq_true rfl), (Nat.le_of_ble_eq_true rfl)⟩ ⟨(by simp only [gRm]; omega), (by simp only [gRm]; omega)⟩ rfl rfl (Nat.le_of_ble_eq_true rfl) dX11_begin_41 ?_
            rintro kk_0 nn_0 r_0 f_0 ⟨z1, z2, z3, z4⟩
            subst z1 z2 z3
            rw [z4]
            refine gz_eq (st2 := [.int (-1)]) rfl rfl rfl rfl ?_
            exact gz_iretU rfl dX11_begin_44 (by omega) (by omega) (⟨_, rfl, own, _, _, _, _, _, _, hI, kp0_rf, ⟨by omega, by omega⟩, Or.inr ⟨(fun z => by have z9 := hcw.1; omega), hcw, rfl⟩⟩)
        ·
          refine gz_iconst (v := (-1)) dX11_begin_31 (by decide) ?_
          have kc_16 := Classical.not_not.mp (fun q => c_16 (housF_w.mpr q))
          have kc_23 := Classical.not_not.mp (fun q => c_23 (housF_w.mpr q))
          have kc_28 : y.toInt = u.toInt := congrArg Int32.toInt c_28
          exact gz_iretU rfl dX11_begin_32 (by omega) (by omega) (⟨_, rfl, own, _, _, _, _, _, _, hI, kp0_rf, ⟨by omega, by omega⟩, Or.inr ⟨(fun z => by have z9 := hcw.1; omega), hcw, rfl⟩⟩)

set_option maxHeartbeats 4000000 in
set_option maxRecDepth 100000 in
theorem l_X11_dayL {l : Launch} {D : va_G} {cy : Nat → ClassId} {b : Nat} {f : gMem} {own0 : Nat → Nat} {xo ne0 : Nat} {bf : Int32} {da : Int32} {fcn : Int32} {csz : Int32} {len : Int32} {ln : Int32} {wz : Int32} {tg : Nat → Int32} {weg : Nat → Int32} {stg : Nat → Int32} {tpg : Nat → Int32} {CN : Nat → Int32 → Int32 → (Nat → Int32) → (Nat → Int32) → Prop} {thg : Nat → Int32} {Tf : Nat → List Hd} {S : Sn} {WF : Lw} {PX : Int32 → Int32 → Int32 → (Nat → Int32) → (Nat → Nat → Int32 → Int32 → Int32 → Int32 → Int64 → (Nat → Int32) → (Nat → Int32) → Prop) → Prop} (hSn : sCn S da thg) (hbf : 0 ≤ bf.toInt) (hPX : ∀ (r9 sz2 lo2 : Int32) (eg2 : Nat → Int32) (LN2 : Nat → Nat → Int32 → Int32 → Int32 → Int32 → Int64 → (Nat → Int32) → (Nat → Int32) → Prop), cLW Tf WF fcn csz sz2 lo2 eg2 CN LN2 → r9.toInt = (WF.1.length : Int) - bf.toInt → PX r9 sz2 lo2 eg2 LN2) : ∀ (k : Nat) (i : Int32) (own : Nat → Nat) (sz lo : Int32) (ne cu su : Nat) (eg : Nat → Int32) (LN : Nat → Nat → Int32 → Int32 → Int32 → Int32 → Int64 → (Nat → Int32) → (Nat → Int32) → Prop) (W : Lw) (gm : gMem), xI cy own xo da fcn csz sz len ln wz lo tg weg stg tpg CN eg thg LN ne gm → kp0 own0 own f gm → (cu + ne0 ≤ ne ∧ su + 2 * ne0 ≤ 2 * ne) → (0 ≤ i.toInt ∧ i.toInt ≤ 40 ∧ i.toInt + (k : Int) = 41) → cLW Tf W fcn csz sz lo eg CN LN → dyT Tf S (W.2.2.length - i.toInt.toNat) i.toInt.toNat W = WF → gG l (gRm 21 (24000 - ne0) (2 * (24000 - ne0))) (gQuf D b (fun kk nn r f2 => ∃ r9 : Int32, r = some (.int r9) ∧ ∃ (own2 : Nat → Nat) (sz2 lo2 : Int32) (ne2 : Nat) (eg2 : Nat → Int32) (LN2 : Nat → Nat → Int32 → Int32 → Int32 → Int32 → Int64 → (Nat → Int32) → (Nat → Int32) → Prop), xI cy own2 xo da fcn csz sz2 len ln wz lo2 tg weg stg tpg CN eg2 thg LN2 ne2 f2 ∧ kp0 own0 own2 f f2 ∧ (kk + ne0 ≤ ne2 + 3 ∧ nn + 2 * ne0 ≤ 2 * ne2 + 604) ∧ PX r9 sz2 lo2 eg2 LN2) (24000 - ne0) (2 * (24000 - ne0))) gTt D cy b cX11_day 3 (some .int) RX11 "day" cu su gm 22 [(2, .int i), (0, .ref xo), (1, .int bf)] [] := by
  intro k
  induction k with
  | zero =>
    intro i own sz lo ne cu su eg LN W gm hI hk0 hu0 hk hcw hWF
    exfalso; omega
  | succ k ih =>
    intro i own sz lo ne cu su eg LN W gm hI hk0 hu0 hk hcw hWF
    obtain ⟨ch, sc, tp, ou, fm, dr, dt_, rd, te, la, lg, co, wo, fmg, lvg, HcXo, HcCh, HcTp, HcOu, HcFa, HcFm, HcDr, HcOt, HcRt, HcLa, HcLg, HcCo, HcLv, HcWo, HcFn, HcLn⟩ := id hI
    obtain ⟨og_xo, hxo, mcXo⟩ := id HcXo
    obtain ⟨lv, ⟨og_co, og_lv⟩, hco, hlv, mcCo⟩ := id HcCo
    obtain ⟨tl, th, ⟨og_ch, og_tl, og_sc, og_th⟩, hch, htl, hsc, hth, mcCh⟩ := id HcCh
    obtain ⟨en, ge, re, gv, tk, am, gi, gvg, tkg, geg, reg, amg, ⟨og_lg, og_en, og_ge, og_re, og_gv, og_tk, og_am⟩, hlg, hen, hge, hre, hgv, htk, ham, mcLg⟩ := id HcLg
    refine gz_iload_n dX11_day_22 rfl rfl ?_
    refine gz_bipush (v := 40) dX11_day_23 (by decide) ?_
    refine gz_icmp_ge (tgt := 49) dX11_day_25 (by decide) (fun c_25 => ?_) (fun c_25 => ?_)
    ·
      refine gz_aload_n dX11_day_49 rfl rfl ?_
      refine sgX11_72 hxo rfl dX11_day_50 ?_
      refine scX11_161 (k_X4_size hlg) hlg ⟨(Nat.le_of_ble_eq_true rfl), (Nat.le_of_ble_eq_true rfl)⟩ ⟨(by simp only [gRm]; omega), (by simp only [gRm]; omega)⟩ rfl rfl (Nat.le_of_ble_eq_true rfl) dX11_day_53 ?_
      intro v9 f9 z9; rw [z9.1, z9.2]
      refine gz_iload_n dX11_day_56 rfl rfl ?_
      refine gz_isub dX11_day_57 ?_
      have hWe : W = WF := by rw [← hWF, show W.2.2.length - i.toInt.toNat = 0 by have e40 : (40 : Int32).toInt = 40 := rfl; have hq0 := c_25; simp only [fl_le] at hq0; have z9 := hcw.1; omega, dyT_0]
      exact gz_iretU rfl dX11_day_58 (by omega) (by omega) (⟨_, rfl, own, _, _, _, _, _, hI, hk0, ⟨by omega, by omega⟩, hPX _ _ _ _ _ (by rw [← hWe]; exact hcw) (by rw [T_sub hcw.2.1.1.1 (rfl : bf.toInt = bf.toInt) (by have z9 := hcw.2.1.1.2; have z8 := i32_hi bf; omega), hWe])⟩)
    ·
      refine gz_aload_n dX11_day_28 rfl rfl ?_
      refine sgX11_85 hxo rfl dX11_day_29 ?_
      refine gz_aload_n dX11_day_32 rfl rfl ?_
      refine sgX11_85 hxo rfl dX11_day_33 ?_
      refine gz_iload_n dX11_day_36 rfl rfl ?_
      refine scX11_162 (k_X1_lifeAt (nb := i) hco hlv) hco ⟨(Nat.le_of_ble_eq_true rfl), (Nat.le_of_ble_eq_true rfl)⟩ ⟨(by simp only [gRm]; omega), (by simp only [gRm]; omega)⟩ rfl rfl (Nat.le_of_ble_eq_true rfl) dX11_day_37 ?_
      rintro u9 f9 ⟨z9, y9⟩; rw [z9, y9]
      cases hA1 : lifeF csz lvg i with
      | none =>
        refine gz_ev (w := .null) rfl ?_
        refine suX11_166 (k_X1_wakeN hco) hco ⟨(Nat.le_of_ble_eq_true rfl), (Nat.le_of_ble_eq_true rfl)⟩ ⟨(by simp only [gRm]; omega), (by simp only [gRm]; omega)⟩ rfl rfl (Nat.le_of_ble_eq_true rfl) dX11_day_40 ?_
        rintro kk_0 nn_0 r_0 f_0 ⟨z1, z2, z3, z4⟩
        subst z1 z2 z3
        rw [z4]
        refine gz_eq (st2 := []) rfl rfl rfl rfl ?_
        refine gz_iinc (v := (i + 1)) (lv' := [(2, .int (i + 1)), (0, .ref xo), (1, .int bf)]) dX11_day_43 rfl rfl (by decide) rfl ?_
        refine gz_goto (tgt := 22) dX11_day_46 (by decide) ?_
        have hno := lifeF_out (by have z9 := hcw.1; omega) HcLn hA1
        have hWF9 : dyT Tf S (W.2.2.length - (i + 1).toInt.toNat) (i + 1).toInt.toNat W = WF := by have e1 : (1 : Int32).toInt = 1 := rfl; have e40 : (40 : Int32).toInt = 40 := rfl; have hq0 := c_25; simp only [fl_le] at hq0; have hx := T_add (rfl : i.toInt = i.toInt) e1 (by omega); rw [← hWF, show W.2.2.length - (i + 1).toInt.toNat = 0 by have z9 := hcw.1.1; omega, show W.2.2.length - i.toInt.toNat = 0 by have z9 := hcw.1.1; omega, dyT_0, dyT_0]
        exact ih _ own sz lo ne _ _ eg LN W _ hI hk0 (by omega) (by have e1 : (1 : Int32).toInt = 1 := rfl; have e40 : (40 : Int32).toInt = 40 := rfl; have hq0 := c_25; simp only [fl_le] at hq0; have hx := T_add (rfl : i.toInt = i.toInt) e1 (by omega); omega) hcw hWF9
      | some lf =>
        refine gz_ev (w := .ref lf) rfl ?_
        have hilf := (lifeF_some hA1).1
        have hjlf := (lifeF_some hA1).2
        obtain ⟨p, so, fc, jf, nu, ho1, ho2, fs_, ga, sg, fg, hLf, hjf, hjp, hLN⟩ := HcLv _ _ hilf hjlf
        obtain ⟨⟨og_lf, og_so, og_fc⟩, hlf, hso, hfc⟩ := id hLf
        obtain ⟨c1, c2, n1, n2, s, v, g, h, ⟨⟨og_p, og_c1, og_c2⟩, hp, hc1, hc2, hs, hv, hFI⟩, hCN⟩ := HcFm _ _ hjf hjp
        have hA := hA1
        have hin := lifeF_in hA
        have hlW : (Int32.toNatClampNeg i) < W.2.2.length := by have z9 := hcw.1.1; rw [clN]; omega
        have hixx : (((Int32.toNatClampNeg i) : Nat) : Int) = i.toInt := by rw [clN]; omega
        obtain ⟨⟨⟨hnu, hjfo⟩, hho1, hho2⟩, hLFc⟩ := hcw.2.2.1 _ _ _ _ _ _ _ _ _ hLN hlW
        obtain ⟨hfc_, hQ⟩ := hcw.2.2.2.1 _ hlW
        have hcT_ := hcw.2.2.2.2 jf _ _ _ _ (by rw [hjfo]; exact hfc_) hCN
        rw [← hjfo] at hQ
        refine suX11_166 (k_X1_wakeE (T := Tf jf) (S := S) (Z := lsW W (Int32.toNatClampNeg i)) hco hlf hso hfc hp hc1 hc2 hsc hth hlg hen hs hv ⟨(tgn og_so og_fc (by omega)), (tgn og_so og_c1 (by omega)), (tgn og_so og_c2 (by omega)), (tgn og_so og_th (by omega)), (tgn og_fc og_c1 (by omega)), (tgn og_fc og_c2 (by omega)), (tgn og_fc og_th (by omega))⟩ hcT_ hSn mcLg ⟨(tgn og_en og_so (by omega)), (tgn og_en og_fc (by omega)), (tgn og_en og_c1 (by omega)), (tgn og_en og_c2 (by omega)), (tgn og_en og_th (by decide))⟩ ⟨hcw.2.1, hLFc⟩ hQ) hco ⟨(Nat.le_of_ble_eq_true rfl), (Nat.le_of_ble_eq_true rfl)⟩ ⟨(by simp only [gRm]; omega), (by simp only [gRm]; omega)⟩ rfl rfl (Nat.le_of_ble_eq_true rfl) dX11_day_40 ?_
        rintro kk_1 nn_1 r_1 f1 ⟨e_1, m_1, g_1, s_1, l_1, z_1, a_1, x_1, y_1, rfl, hlg_1, he_1, hlf_1, hso_1, hfc_1, hl_1, hu_1, hc_1, hst_1, hr1⟩
        refine gz_eq (st2 := []) rfl rfl rfl rfl ?_
        have hxo_1 : f1 xo = some (.inr (11, [.ref ch, .ref tp, .ref ou, .ref fm, .ref dr, .ref dt_, .ref rd, .ref te, .ref la, .ref lg, .ref co, .ref wo, .int fcn])) := hr1 _ _ hxo (by simp only [List.mem_cons, List.not_mem_nil, or_false, not_or]; exact ⟨(tgn og_xo og_lg (by decide)), (tgn og_xo og_en (by decide)), (tgn og_xo og_lf (by omega)), (tgn og_xo og_so (by omega)), (tgn og_xo og_fc (by omega))⟩)
        have hco_1 : f1 co = some (.inr (1, [.ref lv, .ref sc, .ref lg, .int csz])) := hr1 _ _ hco (by simp only [List.mem_cons, List.not_mem_nil, or_false, not_or]; exact ⟨(tgn og_co og_lg (by decide)), (tgn og_co og_en (by decide)), (tgn og_co og_lf (by omega)), (tgn og_co og_so (by omega)), (tgn og_co og_fc (by omega))⟩)
        have hlv_1 : f1 lv = some (.inl (cy 5, 40, .inr (.inr (.inr (.inr (lvg)))))) := hr1 _ _ hlv (by simp only [List.mem_cons, List.not_mem_nil, or_false, not_or]; exact ⟨(tgn og_lv og_lg (by decide)), (tgn og_lv og_en (by decide)), (tgn og_lv og_lf (by omega)), (tgn og_lv og_so (by omega)), (tgn og_lv og_fc (by omega))⟩)
        have hch_1 : f1 ch = some (.inr (0, [.ref tl, .ref sc])) := hr1 _ _ hch (by simp only [List.mem_cons, List.not_mem_nil, or_false, not_or]; exact ⟨(tgn og_ch og_lg (by decide)), (tgn og_ch og_en (by decide)), (tgn og_ch og_lf (by omega)), (tgn og_ch og_so (by omega)), (tgn og_ch og_fc (by omega))⟩)
        have htl_1 : f1 tl = some (.inl (cy 0, 2400, .inl (tg))) := hr1 _ _ htl (by simp only [List.mem_cons, List.not_mem_nil, or_false, not_or]; exact ⟨(tgn og_tl og_lg (by decide)), (tgn og_tl og_en (by decide)), (tgn og_tl og_lf (by omega)), (tgn og_tl og_so (by omega)), (tgn og_tl og_fc (by omega))⟩)
        have hsc_1 : f1 sc = some (.inr (7, [.ref th, .int da])) := hr1 _ _ hsc (by simp only [List.mem_cons, List.not_mem_nil, or_false, not_or]; exact ⟨(tgn og_sc og_lg (by decide)), (tgn og_sc og_en (by decide)), (tgn og_sc og_lf (by omega)), (tgn og_sc og_so (by omega)), (tgn og_sc og_fc (by omega))⟩)
        have hth_1 : f1 th = some (.inl (cy 0, 6, .inl (thg))) := hr1 _ _ hth (by simp only [List.mem_cons, List.not_mem_nil, or_false, not_or]; exact ⟨(tgn og_th og_lg (by decide)), (tgn og_th og_en (by decide)), (tgn og_th og_lf (by omega)), (tgn og_th og_so (by omega)), (tgn og_th og_fc (by omega))⟩)
        have hge_1 : f1 ge = some (.inl (cy 2, 8, .inr (.inl (geg)))) := hr1 _ _ hge (by simp only [List.mem_cons, List.not_mem_nil, or_false, not_or]; exact ⟨(tgn og_ge og_lg (by decide)), (tgn og_ge og_en (by decide)), (tgn og_ge og_lf (by omega)), (tgn og_ge og_so (by omega)), (tgn og_ge og_fc (by omega))⟩)
        have hre_1 : f1 re = some (.inl (cy 2, 8, .inr (.inl (reg)))) := hr1 _ _ hre (by simp only [List.mem_cons, List.not_mem_nil, or_false, not_or]; exact ⟨(tgn og_re og_lg (by decide)), (tgn og_re og_en (by decide)), (tgn og_re og_lf (by omega)), (tgn og_re og_so (by omega)), (tgn og_re og_fc (by omega))⟩)
        have hgv_1 : f1 gv = some (.inl (cy 0, 8, .inl (gvg))) := hr1 _ _ hgv (by simp only [List.mem_cons, List.not_mem_nil, or_false, not_or]; exact ⟨(tgn og_gv og_lg (by decide)), (tgn og_gv og_en (by decide)), (tgn og_gv og_lf (by omega)), (tgn og_gv og_so (by omega)), (tgn og_gv og_fc (by omega))⟩)
        have htk_1 : f1 tk = some (.inl (cy 0, 8, .inl (tkg))) := hr1 _ _ htk (by simp only [List.mem_cons, List.not_mem_nil, or_false, not_or]; exact ⟨(tgn og_tk og_lg (by decide)), (tgn og_tk og_en (by decide)), (tgn og_tk og_lf (by omega)), (tgn og_tk og_so (by omega)), (tgn og_tk og_fc (by omega))⟩)
        have ham_1 : f1 am = some (.inl (cy 2, 8, .inr (.inl (amg)))) := hr1 _ _ ham (by simp only [List.mem_cons, List.not_mem_nil, or_false, not_or]; exact ⟨(tgn og_am og_lg (by decide)), (tgn og_am og_en (by decide)), (tgn og_am og_lf (by omega)), (tgn og_am og_so (by omega)), (tgn og_am og_fc (by omega))⟩)
        have hp_1 : f1 p = some (.inr (2, [.ref c1, .ref c2, .int s, .int v])) := hr1 _ _ hp (by simp only [List.mem_cons, List.not_mem_nil, or_false, not_or]; exact ⟨(tgn og_p og_lg (by omega)), (tgn og_p og_en (by omega)), (tgn og_p og_lf (by omega)), (tgn og_p og_so (by omega)), (tgn og_p og_fc (by omega))⟩)
        have hc1_1 : f1 c1 = some (.inl (cy 0, n1, .inl (g))) := hr1 _ _ hc1 (by simp only [List.mem_cons, List.not_mem_nil, or_false, not_or]; exact ⟨(tgn og_c1 og_lg (by omega)), (tgn og_c1 og_en (by omega)), (tgn og_c1 og_lf (by omega)), (tgn og_c1 og_so (by omega)), (tgn og_c1 og_fc (by omega))⟩)
        have hc2_1 : f1 c2 = some (.inl (cy 0, n2, .inl (h))) := hr1 _ _ hc2 (by simp only [List.mem_cons, List.not_mem_nil, or_false, not_or]; exact ⟨(tgn og_c2 og_lg (by omega)), (tgn og_c2 og_en (by omega)), (tgn og_c2 og_lf (by omega)), (tgn og_c2 og_so (by omega)), (tgn og_c2 og_fc (by omega))⟩)
        rw [hnu, hho1, hho2, hjfo] at hst_1
        have hQ2 := (wkT_ok (S := S) (l := (((Int32.toNatClampNeg i) : Nat) : Int)) (a := (W.2.2.getD (Int32.toNatClampNeg i) lf0).2.1) (b := (W.2.2.getD (Int32.toNatClampNeg i) lf0).2.2.1) (T := Tf jf) hcT_.1.1 hcT_.1.2.1 (m := (W.2.2.getD (Int32.toNatClampNeg i) lf0).2.2.2.1.length) (k := 0) (σ := lsW W (Int32.toNatClampNeg i)) hQ (by show 0 + _ ≤ (W.2.2.getD (Int32.toNatClampNeg i) lf0).2.2.2.1.length; omega)).1
        rw [hjfo] at hQ2
        refine gz_iinc (v := (i + 1)) (lv' := [(2, .int (i + 1)), (0, .ref xo), (1, .int bf)]) dX11_day_43 rfl rfl (by decide) rfl ?_
        refine gz_goto (tgt := 22) dX11_day_46 (by decide) ?_
        obtain ⟨own2, ho2⟩ : ∃ own2 : Nat → Nat, own2 = va_up own e_1 9001 := ⟨_, rfl⟩
        have hO : ∀ z e, gm z = some e → own2 z = own z := by rw [ho2]; exact own_en hc_1 og_en
        have hK : kp own own2 (fun k => k = 9000 ∨ k = 9001 ∨ k = 12000 + 3 * (Int32.toNatClampNeg i) ∨ k = 12000 + 3 * (Int32.toNatClampNeg i) + 1 ∨ k = 12000 + 3 * (Int32.toNatClampNeg i) + 2) gm f1 := by
          refine kp_fr (S := [lg, en, lf, so, fc]) ((fr_tr fr_rf (fr_mo hr1 (by simp)))) hO ?_
          intro x0 hx0
          simp only [List.mem_cons, List.not_mem_nil, or_false] at hx0
          rcases hx0 with e0 | e0 | e0 | e0 | e0
          · rw [e0]; show (own lg) = 9000 ∨ (own lg) = 9001 ∨ (own lg) = 12000 + 3 * (Int32.toNatClampNeg i) ∨ (own lg) = 12000 + 3 * (Int32.toNatClampNeg i) + 1 ∨ (own lg) = 12000 + 3 * (Int32.toNatClampNeg i) + 2; rw [og_lg]; simp
          · rw [e0]; show (own en) = 9000 ∨ (own en) = 9001 ∨ (own en) = 12000 + 3 * (Int32.toNatClampNeg i) ∨ (own en) = 12000 + 3 * (Int32.toNatClampNeg i) + 1 ∨ (own en) = 12000 + 3 * (Int32.toNatClampNeg i) + 2; rw [og_en]; simp
          · rw [e0]; show (own lf) = 9000 ∨ (own lf) = 9001 ∨ (own lf) = 12000 + 3 * (Int32.toNatClampNeg i) ∨ (own lf) = 12000 + 3 * (Int32.toNatClampNeg i) + 1 ∨ (own lf) = 12000 + 3 * (Int32.toNatClampNeg i) + 2; rw [og_lf]; simp
          · rw [e0]; show (own so) = 9000 ∨ (own so) = 9001 ∨ (own so) = 12000 + 3 * (Int32.toNatClampNeg i) ∨ (own so) = 12000 + 3 * (Int32.toNatClampNeg i) + 1 ∨ (own so) = 12000 + 3 * (Int32.toNatClampNeg i) + 2; rw [og_so]; simp
          · rw [e0]; show (own fc) = 9000 ∨ (own fc) = 9001 ∨ (own fc) = 12000 + 3 * (Int32.toNatClampNeg i) ∨ (own fc) = 12000 + 3 * (Int32.toNatClampNeg i) + 1 ∨ (own fc) = 12000 + 3 * (Int32.toNatClampNeg i) + 2; rw [og_fc]; simp
        have hLf2 : cLf cy own2 f1 (Int32.toNatClampNeg i) lf p so fc _ _ _ _ _ _ _ := ⟨⟨(hO _ _ hlf).trans og_lf, (hO _ _ hso).trans og_so, (hO _ _ hfc).trans og_fc⟩, hlf_1, hso_1, hfc_1⟩
        have hen9 : own2 e_1 = 9001 := by rw [ho2]; exact va_up_self _ _ _
        have hI2 : xI cy own2 xo da fcn csz _ len ln wz _ tg weg stg tpg CN _ thg (lnW (lfT Tf S (Int32.toNatClampNeg i) W)) _ f1 := ⟨_, _, _, _, _, _, _, _, _, _, _, _, _, _, _, (cXo_kp HcXo hK (nt_7501 (Int32.toNatClampNeg i) hilf)), (kCh_kp HcCh hK (nt_7502 (Int32.toNatClampNeg i) hilf)), (kTp_kp HcTp hK (nt_7503 (Int32.toNatClampNeg i) hilf)), (kOu_kp HcOu hK (nt_7504 (Int32.toNatClampNeg i) hilf)), (cFa_kp HcFa hK (nt_7505 (Int32.toNatClampNeg i) hilf)), (cFm_kp HcFm hK (nt_7506 (Int32.toNatClampNeg i) hilf)), (kDr_kp HcDr hK (nt_7507 (Int32.toNatClampNeg i) hilf)), (kOt_kp HcOt hK (nt_7508 (Int32.toNatClampNeg i) hilf)), (kRt_kp HcRt hK (nt_7509 (Int32.toNatClampNeg i) hilf)), (kLa_kp HcLa hK (nt_7510 (Int32.toNatClampNeg i) hilf)), ⟨_, _, _, _, _, _, _, _, _, _, _, _, ⟨⟨((hO _ _ hlg).trans og_lg), hen9, ((hO _ _ hge).trans og_ge), ((hO _ _ hre).trans og_re), ((hO _ _ hgv).trans og_gv), ((hO _ _ htk).trans og_tk), ((hO _ _ ham).trans og_am)⟩, hlg_1, he_1, (hK.2 _ _ hge (by show ¬ ((own ge) = 9000 ∨ (own ge) = 9001 ∨ (own ge) = 12000 + 3 * (Int32.toNatClampNeg i) ∨ (own ge) = 12000 + 3 * (Int32.toNatClampNeg i) + 1 ∨ (own ge) = 12000 + 3 * (Int32.toNatClampNeg i) + 2); rw [og_ge]; exact (nt_7511 (Int32.toNatClampNeg i) hilf) _ ⟨Nat.le_refl _, Nat.lt_succ_self _⟩)), (hK.2 _ _ hre (by show ¬ ((own re) = 9000 ∨ (own re) = 9001 ∨ (own re) = 12000 + 3 * (Int32.toNatClampNeg i) ∨ (own re) = 12000 + 3 * (Int32.toNatClampNeg i) + 1 ∨ (own re) = 12000 + 3 * (Int32.toNatClampNeg i) + 2); rw [og_re]; exact (nt_7512 (Int32.toNatClampNeg i) hilf) _ ⟨Nat.le_refl _, Nat.lt_succ_self _⟩)), (hK.2 _ _ hgv (by show ¬ ((own gv) = 9000 ∨ (own gv) = 9001 ∨ (own gv) = 12000 + 3 * (Int32.toNatClampNeg i) ∨ (own gv) = 12000 + 3 * (Int32.toNatClampNeg i) + 1 ∨ (own gv) = 12000 + 3 * (Int32.toNatClampNeg i) + 2); rw [og_gv]; exact (nt_7513 (Int32.toNatClampNeg i) hilf) _ ⟨Nat.le_refl _, Nat.lt_succ_self _⟩)), (hK.2 _ _ htk (by show ¬ ((own tk) = 9000 ∨ (own tk) = 9001 ∨ (own tk) = 12000 + 3 * (Int32.toNatClampNeg i) ∨ (own tk) = 12000 + 3 * (Int32.toNatClampNeg i) + 1 ∨ (own tk) = 12000 + 3 * (Int32.toNatClampNeg i) + 2); rw [og_tk]; exact (nt_7514 (Int32.toNatClampNeg i) hilf) _ ⟨Nat.le_refl _, Nat.lt_succ_self _⟩)), (hK.2 _ _ ham (by show ¬ ((own am) = 9000 ∨ (own am) = 9001 ∨ (own am) = 12000 + 3 * (Int32.toNatClampNeg i) ∨ (own am) = 12000 + 3 * (Int32.toNatClampNeg i) + 1 ∨ (own am) = 12000 + 3 * (Int32.toNatClampNeg i) + 2); rw [og_am]; exact (nt_7515 (Int32.toNatClampNeg i) hilf) _ ⟨Nat.le_refl _, Nat.lt_succ_self _⟩)), hl_1⟩⟩, (kCo_kp HcCo hK (nt_7516 (Int32.toNatClampNeg i) hilf)), (cLv_one (LN2 := lnW (lfT Tf S (Int32.toNatClampNeg i) W)) HcLv hK (nt_7500 (Int32.toNatClampNeg i) hilf) hjlf hLf2 ⟨hjf, hjp⟩ (lnW_at hlW ⟨⟨hnu, hjfo⟩, hho1, hho2⟩ hst_1.2) (fun i9 j9 n9 a9 b9 c9 d9 e9 f9 z9 y9 => lnW_ot hlW z9 (hcw.2.2.1 i9 j9 n9 a9 b9 c9 d9 e9 f9 y9))), (kWo_kp HcWo hK (nt_7517 (Int32.toNatClampNeg i) hilf) (nt_7518 (Int32.toNatClampNeg i) hilf)), HcFn, HcLn⟩
        have hcw9 : cLW Tf (lfT Tf S (Int32.toNatClampNeg i) W) fcn csz _ _ _ CN (lnW (lfT Tf S (Int32.toNatClampNeg i) W)) := cLW_put hcw hlW hst_1 hQ2
        have hWF9 : dyT Tf S ((lfT Tf S (Int32.toNatClampNeg i) W).2.2.length - (i + 1).toInt.toNat) (i + 1).toInt.toNat (lfT Tf S (Int32.toNatClampNeg i) W) = WF := dyT_nx (by rw [clN]; exact hWF) hlW (by have e1 : (1 : Int32).toInt = 1 := rfl; have e40 : (40 : Int32).toInt = 40 := rfl; have hq0 := c_25; simp only [fl_le] at hq0; have hx := T_add (rfl : i.toInt = i.toInt) e1 (by omega); rw [clN]; omega)
        exact ih _ own2 _ _ _ _ _ _ _ _ _ hI2 (kp0_tr hk0 (kp_0 hK ((nt_7519 (Int32.toNatClampNeg i) hilf) 0 ⟨Nat.le_refl _, Nat.lt_succ_self _⟩))) (by omega) (by have e1 : (1 : Int32).toInt = 1 := rfl; have e40 : (40 : Int32).toInt = 40 := rfl; have hq0 := c_25; simp only [fl_le] at hq0; have hx := T_add (rfl : i.toInt = i.toInt) e1 (by omega); omega) hcw9 hWF9

theorem gU_mo9 {l : Launch} {D : va_G} {cy : Nat → ClassId} {b : Nat} {y : MethodName} {cc : ByteArray} {nL : Nat} {ret : Option FieldType} {d mc ms : Nat} {av : List Value} {f : gMem} {Po Po' : Nat → Nat → Option Value → gMem → Prop} (h : gU l D cy b y cc nL ret d mc ms av f gTt Po) (hp : ∀ kk nn r f', Po kk nn r f' → Po' kk nn r f') : gU l D cy b y cc nL ret d mc ms av f gTt Po' := gU_mono h hp
theorem trn_w {da : Int32} (h : 0 ≤ da.toInt ∧ da.toInt ≤ 399) : (da.toInt = 399 → (trnF da).1 = 0 ∧ (trnF da).2 = da) ∧ (da.toInt ≠ 399 → (trnF da).1 = 1 ∧ (trnF da).2 = da + 1) := by
  have e3 : (399 : Int32).toInt = 399 := rfl
  unfold trnF
  by_cases hc : da < 399
  · rw [if_pos hc]
    rw [fl_lt, e3] at hc
    exact ⟨fun z => by omega, fun _ => ⟨rfl, rfl⟩⟩
  · rw [if_neg hc]
    rw [fl_lt, e3] at hc
    exact ⟨fun _ => ⟨rfl, rfl⟩, fun z => by omega⟩

theorem trn_k {da : Int32} (h : 0 ≤ da.toInt ∧ da.toInt ≤ 399) : 0 ≤ (trnF da).2.toInt ∧ (trnF da).2.toInt ≤ 399 := by
  by_cases c : da.toInt = 399
  · rw [((trn_w h).1 c).2]; exact h
  · rw [((trn_w h).2 c).2]
    have hx := T_add (rfl : da.toInt = da.toInt) (show (1 : Int32).toInt = 1 from rfl) (by omega)
    omega

theorem nt_7539  : ∀ k : Nat, 13000 ≤ k ∧ k < 14000 → ¬ (k = 1002) := by intro k hk hT; omega
theorem nt_7540  : ∀ k : Nat, 1000 ≤ k ∧ k < 1001 → ¬ (k = 1002) := by intro k hk hT; omega
theorem nt_7541  : ∀ k : Nat, 1001 ≤ k ∧ k < 1002 → ¬ (k = 1002) := by intro k hk hT; omega
theorem nt_7542  : ∀ k : Nat, 1003 ≤ k ∧ k < 1004 → ¬ (k = 1002) := by intro k hk hT; omega
theorem nt_7543  : ∀ k : Nat, 2000 ≤ k ∧ k < 3000 → ¬ (k = 1002) := by intro k hk hT; omega
theorem nt_7544  : ∀ k : Nat, 14000 ≤ k ∧ k < 15000 → ¬ (k = 1002) := by intro k hk hT; omega
theorem nt_7545  : ∀ k : Nat, 5000 ≤ k ∧ k < 6000 → ¬ (k = 1002) := by intro k hk hT; omega
theorem nt_7546  : ∀ k : Nat, 4000 ≤ k ∧ k < 5000 → ¬ (k = 1002) := by intro k hk hT; omega
theorem nt_7547  : ∀ k : Nat, 6000 ≤ k ∧ k < 7000 → ¬ (k = 1002) := by intro k hk hT; omega
theorem nt_7548  : ∀ k : Nat, 7000 ≤ k ∧ k < 8000 → ¬ (k = 1002) := by intro k hk hT; omega
theorem nt_7549  : ∀ k : Nat, 3000 ≤ k ∧ k < 4000 → ¬ (k = 1002) := by intro k hk hT; omega
theorem nt_7550  : ∀ k : Nat, 8000 ≤ k ∧ k < 9000 → ¬ (k = 1002) := by intro k hk hT; omega
theorem nt_7551  : ∀ k : Nat, 9000 ≤ k ∧ k < 10000 → ¬ (k = 1002) := by intro k hk hT; omega
theorem nt_7552  : ∀ k : Nat, 10000 ≤ k ∧ k < 11000 → ¬ (k = 1002) := by intro k hk hT; omega
theorem nt_7553  : ∀ k : Nat, 12000 ≤ k ∧ k < 13000 → ¬ (k = 1002) := by intro k hk hT; omega
theorem nt_7554  : ∀ k : Nat, 11000 ≤ k ∧ k < 12000 → ¬ (k = 1002) := by intro k hk hT; omega
theorem nt_7555  : ∀ k : Nat, 15000 ≤ k ∧ k < 16000 → ¬ (k = 1002) := by intro k hk hT; omega
theorem nt_7556  : ∀ k : Nat, 0 ≤ k ∧ k < 1 → ¬ (k = 1002) := by intro k hk hT; omega
set_option maxHeartbeats 4000000 in
set_option maxRecDepth 100000 in
theorem i_X11_dayL {l : Launch} {D : va_G} {cy : Nat → ClassId} {b : Nat} {f : gMem} {own : Nat → Nat} {xo : Nat} {da : Int32} {fcn : Int32} {csz : Int32} {sz : Int32} {len : Int32} {ln : Int32} {wz : Int32} {lo : Int32} {tg : Nat → Int32} {weg : Nat → Int32} {stg : Nat → Int32} {tpg : Nat → Int32} {CN : Nat → Int32 → Int32 → (Nat → Int32) → (Nat → Int32) → Prop} {eg : Nat → Int32} {thg : Nat → Int32} {LN : Nat → Nat → Int32 → Int32 → Int32 → Int32 → Int64 → (Nat → Int32) → (Nat → Int32) → Prop} {ne : Nat}  {Tf : Nat → List Hd} {W : Lw} {S : Sn} (hI : xI cy own xo da fcn csz sz len ln wz lo tg weg stg tpg CN eg thg LN ne f) (hcw : cLW Tf W fcn csz sz lo eg CN LN) (hSn : sCn S (trnF da).2 thg) : gU l D cy b yX11_day cX11_day 3 (some .int) 21 (24000 - ne) (2 * (24000 - ne)) [.ref xo] f gTt (fun kk nn r f2 => ∃ r9 : Int32, r = some (.int r9) ∧ ∃ (own2 : Nat → Nat) (sz2 lo2 : Int32) (ne2 : Nat) (eg2 : Nat → Int32) (LN2 : Nat → Nat → Int32 → Int32 → Int32 → Int32 → Int64 → (Nat → Int32) → (Nat → Int32) → Prop), xI cy own2 xo (trnF da).2 fcn csz sz2 len ln wz lo2 tg weg stg tpg CN eg2 thg LN2 ne2 f2 ∧ kp0 own own2 f f2 ∧ (kk + ne ≤ ne2 + 3 ∧ nn + 2 * ne ≤ 2 * ne2 + 604) ∧ ((da.toInt = 399 ∧ cLW Tf W fcn csz sz2 lo2 eg2 CN LN2 ∧ r9.toInt = -1) ∨ (da.toInt ≠ 399 ∧ cLW Tf (dyA Tf S W) fcn csz sz2 lo2 eg2 CN LN2 ∧ r9.toInt = ((dyA Tf S W).1.length : Int) - (W.1.length : Int)))) := by
  obtain ⟨ch, sc, tp, ou, fm, dr, dt_, rd, te, la, lg, co, wo, fmg, lvg, HcXo, HcCh, HcTp, HcOu, HcFa, HcFm, HcDr, HcOt, HcRt, HcLa, HcLg, HcCo, HcLv, HcWo, HcFn, HcLn⟩ := id hI
  obtain ⟨og_xo, hxo, mcXo⟩ := id HcXo
  obtain ⟨tl, th, ⟨og_ch, og_tl, og_sc, og_th⟩, hch, htl, hsc, hth, mcCh⟩ := id HcCh
  obtain ⟨en, ge, re, gv, tk, am, gi, gvg, tkg, geg, reg, amg, ⟨og_lg, og_en, og_ge, og_re, og_gv, og_tk, og_am⟩, hlg, hen, hge, hre, hgv, htk, ham, mcLg⟩ := id HcLg
  refine gU_of (by decide) (Nat.le_of_ble_eq_true rfl) ?_
  show gG l _ _ _ D cy b cX11_day 3 _ RX11 "day" 0 0 f 0 [(0, .ref xo)] []
  refine gz_aload_n dX11_day_0 rfl rfl ?_
  refine sgX11_12 hxo rfl dX11_day_1 ?_
  refine scX11_157 (k_X0_turn hch hsc) hch ⟨(Nat.le_of_ble_eq_true rfl), (Nat.le_of_ble_eq_true rfl)⟩ ⟨(by simp only [gRm]; omega), (by simp only [gRm]; omega)⟩ rfl rfl (Nat.le_of_ble_eq_true rfl) dX11_day_4 ?_
  rintro r1 f1 ⟨z1, hsc_1, hr1⟩; rw [z1]
  have hxo_1 : f1 xo = some (.inr (11, [.ref ch, .ref tp, .ref ou, .ref fm, .ref dr, .ref dt_, .ref rd, .ref te, .ref la, .ref lg, .ref co, .ref wo, .int fcn])) := hr1 _ _ hxo (by simp only [List.mem_cons, List.not_mem_nil, or_false, not_or]; exact (tgn og_xo og_sc (by decide)))
  have hch_1 : f1 ch = some (.inr (0, [.ref tl, .ref sc])) := hr1 _ _ hch (by simp only [List.mem_cons, List.not_mem_nil, or_false, not_or]; exact (tgn og_ch og_sc (by decide)))
  have htl_1 : f1 tl = some (.inl (cy 0, 2400, .inl (tg))) := hr1 _ _ htl (by simp only [List.mem_cons, List.not_mem_nil, or_false, not_or]; exact (tgn og_tl og_sc (by decide)))
  have hth_1 : f1 th = some (.inl (cy 0, 6, .inl (thg))) := hr1 _ _ hth (by simp only [List.mem_cons, List.not_mem_nil, or_false, not_or]; exact (tgn og_th og_sc (by decide)))
  have hlg_1 : f1 lg = some (.inr (4, [.ref en, .int sz, .int lo, .ref ge, .ref re, .ref gv, .ref tk, .ref am, .int gi])) := hr1 _ _ hlg (by simp only [List.mem_cons, List.not_mem_nil, or_false, not_or]; exact (tgn og_lg og_sc (by decide)))
  have hen_1 : f1 en = some (.inl (cy 0, ne, .inl (eg))) := hr1 _ _ hen (by simp only [List.mem_cons, List.not_mem_nil, or_false, not_or]; exact (tgn og_en og_sc (by decide)))
  have hge_1 : f1 ge = some (.inl (cy 2, 8, .inr (.inl (geg)))) := hr1 _ _ hge (by simp only [List.mem_cons, List.not_mem_nil, or_false, not_or]; exact (tgn og_ge og_sc (by decide)))
  have hre_1 : f1 re = some (.inl (cy 2, 8, .inr (.inl (reg)))) := hr1 _ _ hre (by simp only [List.mem_cons, List.not_mem_nil, or_false, not_or]; exact (tgn og_re og_sc (by decide)))
  have hgv_1 : f1 gv = some (.inl (cy 0, 8, .inl (gvg))) := hr1 _ _ hgv (by simp only [List.mem_cons, List.not_mem_nil, or_false, not_or]; exact (tgn og_gv og_sc (by decide)))
  have htk_1 : f1 tk = some (.inl (cy 0, 8, .inl (tkg))) := hr1 _ _ htk (by simp only [List.mem_cons, List.not_mem_nil, or_false, not_or]; exact (tgn og_tk og_sc (by decide)))
  have ham_1 : f1 am = some (.inl (cy 2, 8, .inr (.inl (amg)))) := hr1 _ _ ham (by simp only [List.mem_cons, List.not_mem_nil, or_false, not_or]; exact (tgn og_am og_sc (by decide)))
  refine gz_if_ne (tgt := 12) dX11_day_7 (by decide) (fun c_7 => ?_) (fun c_7 => ?_)
  ·
    refine gz_aload_n dX11_day_12 rfl rfl ?_
    refine sgX11_72 hxo_1 rfl dX11_day_13 ?_
    refine scX11_161 (k_X4_size hlg_1) hlg_1 ⟨(Nat.le_of_ble_eq_true rfl), (Nat.le_of_ble_eq_true rfl)⟩ ⟨(by simp only [gRm]; omega), (by simp only [gRm]; omega)⟩ rfl rfl (Nat.le_of_ble_eq_true rfl) dX11_day_16 ?_
    intro v9 f9 z9; rw [z9.1, z9.2]
    refine gz_istore_n (lv' := [(1, .int sz), (0, .ref xo)]) dX11_day_19 rfl (by decide) rfl ?_
    refine gz_iconst (v := 0) dX11_day_20 (by decide) ?_
    refine gz_istore_n (lv' := [(2, .int 0), (1, .int sz), (0, .ref xo)]) dX11_day_21 rfl (by decide) rfl ?_
    have hK : kp own own (fun k => k = 1002) f f1 := by
      refine kp_fr (S := [sc]) ((fr_tr fr_rf (fr_mo hr1 (by simp)))) (fun _ _ _ => rfl) ?_
      intro x0 hx0
      simp only [List.mem_cons, List.not_mem_nil, or_false] at hx0
      have e0 := hx0
      rw [e0]; exact og_sc
    have hI1 : xI cy own xo (trnF da).2 fcn csz sz len ln wz lo tg weg stg tpg CN eg thg LN ne f1 := ⟨_, _, _, _, _, _, _, _, _, _, _, _, _, _, _, (cXo_kp HcXo hK nt_7539), ⟨_, _, ⟨⟨og_ch, og_tl, og_sc, og_th⟩, (hK.2 _ _ hch (by show ¬ ((own ch) = 1002); rw [og_ch]; exact nt_7540 _ ⟨Nat.le_refl _, Nat.lt_succ_self _⟩)), (hK.2 _ _ htl (by show ¬ ((own tl) = 1002); rw [og_tl]; exact nt_7541 _ ⟨Nat.le_refl _, Nat.lt_succ_self _⟩)), hsc_1, (hK.2 _ _ hth (by show ¬ ((own th) = 1002); rw [og_th]; exact nt_7542 _ ⟨Nat.le_refl _, Nat.lt_succ_self _⟩)), (trn_k mcCh)⟩⟩, (kTp_kp HcTp hK nt_7543), (kOu_kp HcOu hK nt_7544), (cFa_kp HcFa hK nt_7545), (cFm_kp HcFm hK nt_7546), (kDr_kp HcDr hK nt_7547), (kOt_kp HcOt hK nt_7548), (kRt_kp HcRt hK nt_7549), (kLa_kp HcLa hK nt_7550), (kLg_kp HcLg hK nt_7551), (kCo_kp HcCo hK nt_7552), (cLv_kp HcLv hK nt_7553), (kWo_kp HcWo hK nt_7554 nt_7555), HcFn, HcLn⟩
    have hd : da.toInt ≠ 399 := fun z9 => c_7 ((trn_w mcCh).1 z9).1
    refine gz_sub (lv' := [(2, .int 0), (0, .ref xo), (1, .int sz)]) (by simp [List.lookup]) ?_
    exact l_X11_dayL (Tf := Tf) (S := S) (WF := (dyA Tf S W)) (PX := fun r9 sz2 lo2 eg2 LN2 => (da.toInt = 399 ∧ cLW Tf W fcn csz sz2 lo2 eg2 CN LN2 ∧ r9.toInt = -1) ∨ (da.toInt ≠ 399 ∧ cLW Tf (dyA Tf S W) fcn csz sz2 lo2 eg2 CN LN2 ∧ r9.toInt = ((dyA Tf S W).1.length : Int) - (W.1.length : Int))) hSn mcLg.1 (fun r9 sz2 lo2 eg2 LN2 q1 q2 => Or.inr ⟨hd, q1, by rw [q2, hcw.2.1.1.1]⟩) 41 0 own _ _ _ 0 0 _ _ W _ hI1 (kp_0 hK (nt_7556 0 ⟨Nat.le_refl _, Nat.lt_succ_self _⟩)) ⟨by omega, by omega⟩ ⟨by decide, by decide, by decide⟩ hcw rfl
  ·
    refine gz_iconst (v := (-1)) dX11_day_10 (by decide) ?_
    have hK : kp own own (fun k => k = 1002) f f1 := by
      refine kp_fr (S := [sc]) ((fr_tr fr_rf (fr_mo hr1 (by simp)))) (fun _ _ _ => rfl) ?_
      intro x0 hx0
      simp only [List.mem_cons, List.not_mem_nil, or_false] at hx0
      have e0 := hx0
      rw [e0]; exact og_sc
    have hI1 : xI cy own xo (trnF da).2 fcn csz sz len ln wz lo tg weg stg tpg CN eg thg LN ne f1 := ⟨_, _, _, _, _, _, _, _, _, _, _, _, _, _, _, (cXo_kp HcXo hK nt_7539), ⟨_, _, ⟨⟨og_ch, og_tl, og_sc, og_th⟩, (hK.2 _ _ hch (by show ¬ ((own ch) = 1002); rw [og_ch]; exact nt_7540 _ ⟨Nat.le_refl _, Nat.lt_succ_self _⟩)), (hK.2 _ _ htl (by show ¬ ((own tl) = 1002); rw [og_tl]; exact nt_7541 _ ⟨Nat.le_refl _, Nat.lt_succ_self _⟩)), hsc_1, (hK.2 _ _ hth (by show ¬ ((own th) = 1002); rw [og_th]; exact nt_7542 _ ⟨Nat.le_refl _, Nat.lt_succ_self _⟩)), (trn_k mcCh)⟩⟩, (kTp_kp HcTp hK nt_7543), (kOu_kp HcOu hK nt_7544), (cFa_kp HcFa hK nt_7545), (cFm_kp HcFm hK nt_7546), (kDr_kp HcDr hK nt_7547), (kOt_kp HcOt hK nt_7548), (kRt_kp HcRt hK nt_7549), (kLa_kp HcLa hK nt_7550), (kLg_kp HcLg hK nt_7551), (kCo_kp HcCo hK nt_7552), (cLv_kp HcLv hK nt_7553), (kWo_kp HcWo hK nt_7554 nt_7555), HcFn, HcLn⟩
    have hd : da.toInt = 399 := Classical.byContradiction (fun z9 => by have q9 := ((trn_w mcCh).2 z9).1; rw [q9] at c_7; exact absurd c_7 (by decide))
    exact gz_iretU rfl dX11_day_11 (by omega) (by omega) (⟨_, rfl, own, _, _, _, _, _, hI1, (kp_0 hK (nt_7556 0 ⟨Nat.le_refl _, Nat.lt_succ_self _⟩)), ⟨by omega, by omega⟩, Or.inl ⟨hd, hcw, rfl⟩⟩)

theorem abo_S {n1 n2 : Nat} {g hh t sg fg : Nat → Int32} {s v da fs ho1 ho2 k wh : Int32} {ga : Int64} {T : List Hd} {S : Sn} {Q : List Sd} {G : Int} (hs : 0 ≤ s.toInt ∧ 13 * s.toInt ≤ n1 ∧ n1 ≤ 520) (hv : 0 ≤ v.toInt ∧ 2 * v.toInt ≤ n2 ∧ n2 ≤ 80) (hSn : sCn S da t) (hc : hcT T s v g hh) (hF : LFc fs ga sg fg Q G) (hQ : okQ T Q) : (aboF n1 n2 g hh s v t da sg fg fs ho1 ho2 k wh).toInt = stR T S ho1.toInt ho2.toInt k.toInt wh.toInt Q := by
  have m1 : (-1 : Int32).toInt = -1 := rfl
  unfold aboF stR
  by_cases ck : 0 ≤ k.toInt ∧ k.toInt < (Q.length : Int)
  · have hl : k.toInt.toNat < Q.length := by omega
    obtain ⟨wq1, wq2⟩ := wdA_S hF (k0 := k) (kN := k.toInt.toNat) (by omega) hl
    have hsd := hQ.2 _ (gtD_mem (d := (0, 0)) hl)
    obtain ⟨f0, f9, f10, f12, _, _⟩ := fk_S (n1 := n1) hs hc wq1 hsd.1
    have hcq := cho_S (n1 := n1) (ho1 := ho1) (ho2 := ho2) hs hc wq1 hsd.1
    obtain ⟨⟨hok, hvT_, h4, hoT⟩, esT, hG, _⟩ := hc_lk (n1 := n1) hc
    have hh6 : hldF n1 n2 g hh s v t da (wdAF sg fs k) = (if hlB S (grH T (Q.getD k.toInt.toNat (0, 0)).1) = true then 1 else 0) ∨ (grH T (Q.getD k.toInt.toNat (0, 0)).1).1 = 4 := by
      by_cases c4 : (grH T (Q.getD k.toInt.toNat (0, 0)).1).1 = 4
      · exact Or.inr c4
      · exact Or.inl (hld_S hs hv hSn wq1 (by have := hsd.1; omega) (hG _ (by have := hsd.1; omega)).1 (hG _ (by have := hsd.1; omega)).2.1 (by have := hsd.2.1; omega))
    rw [if_neg (fun e => by rw [e, m1] at wq1; omega), if_pos ck]
    have nw : ∀ (c : Int32) (z : Int), c.toInt = z → ¬ wh = c → ¬ wh.toInt = z := fun c z hz h1 h2 => h1 (Int32.toInt_inj.mp (h2.trans hz.symm))
    by_cases c0 : wh = 0
    · rw [if_pos c0, if_pos (by rw [c0]; rfl)]; exact wq1
    rw [if_neg c0, if_neg (nw 0 0 rfl c0)]
    by_cases c1 : wh = 1
    · rw [if_pos c1, if_pos (by rw [c1]; rfl)]; exact f0
    rw [if_neg c1, if_neg (nw 1 1 rfl c1)]
    by_cases c2 : wh = 2
    · rw [if_pos c2, if_pos (by rw [c2]; rfl)]; exact hcq
    rw [if_neg c2, if_neg (nw 2 2 rfl c2)]
    by_cases c3 : wh = 3
    · rw [if_pos c3, if_pos (by rw [c3]; rfl)]; exact wq2
    rw [if_neg c3, if_neg (nw 3 3 rfl c3)]
    by_cases c4 : wh = 4
    · rw [if_pos c4, if_pos (by rw [c4]; rfl)]; exact f9
    rw [if_neg c4, if_neg (nw 4 4 rfl c4)]
    by_cases c5 : wh = 5
    · rw [if_pos c5, if_pos (by rw [c5]; rfl)]; exact f12
    rw [if_neg c5, if_neg (nw 5 5 rfl c5)]
    by_cases c6 : wh = 6
    · rw [if_pos c6, if_pos (show wh.toInt = 6 by rw [c6]; rfl)]
      by_cases k4 : fldF n1 g s (wdAF sg fs k) 0 = 4
      · rw [if_pos k4, if_pos (Or.inl (by rw [← f0, k4]; rfl))]; rfl
      · have k4n : ¬ (grH T (Q.getD k.toInt.toNat (0, 0)).1).1 = 4 := fun e => k4 (Int32.toInt_inj.mp (f0.trans e))
        rw [if_neg k4]
        rcases hh6 with q | q
        · rw [q]
          cases hb : hlB S (grH T (Q.getD k.toInt.toNat (0, 0)).1) with
          | true => rw [if_pos (Or.inr rfl)]; rfl
          | false => rw [if_neg (show ¬ ((grH T (Q.getD k.toInt.toNat (0, 0)).1).1 = 4 ∨ false = true) from fun z => z.elim k4n (fun y => absurd y (by decide)))]; rfl
        · exact absurd q k4n
    · rw [if_neg c6, if_neg (nw 6 6 rfl c6)]; rfl
  · rw [if_pos (wdA_N hF ck).1, if_neg ck]; rfl
theorem pay_W {ne : Nat} {eg : Nat → Int32} {sz lo x y : Int32} {P : List Pm} {L : Int} (h : LGc sz lo eg P L) (hn : 6 * sz.toInt ≤ ne ∧ ne ≤ 24000) : (xpayF ne eg sz x y).toInt = (if 0 ≤ x.toInt ∧ x.toInt < (P.length : Int) then (if y.toInt = 0 then (P.getD x.toInt.toNat pm0).1 else if y.toInt = 1 then (P.getD x.toInt.toNat pm0).2.1 else if y.toInt = 2 then (P.getD x.toInt.toNat pm0).2.2.1 else if y.toInt = 3 then (P.getD x.toInt.toNat pm0).2.2.2.1 else -10000000) else -10000000) := by
  have e0 : (0 : Int32).toInt = 0 := rfl
  have e3 : (3 : Int32).toInt = 3 := rfl
  have e6 : (6 : Int32).toInt = 6 := rfl
  have en : (Int32.ofNat ne).toInt = ne := ofN_toInt (by omega)
  obtain ⟨⟨h1, h1b⟩, _, h3⟩ := h
  unfold xpayF
  by_cases c1 : y < 0
  · rw [if_pos c1]
    rw [fl_lt, e0] at c1
    split
    · rw [if_neg (by omega), if_neg (by omega), if_neg (by omega), if_neg (by omega)]; rfl
    · rfl
  rw [if_neg c1]
  rw [fl_lt, e0] at c1
  by_cases c2 : y ≤ 3
  · rw [if_pos c2]
    rw [fl_le, e3] at c2
    unfold entF
    by_cases cx : 0 ≤ x.toInt ∧ x.toInt < (P.length : Int)
    · have q1 := T_mul (rfl : x.toInt = x.toInt) e6 (by omega)
      have q2 := T_add q1 (rfl : y.toInt = y.toInt) (by omega)
      rw [if_pos cx, if_neg (by rw [fl_lt, e0]; omega), if_neg (by rw [fl_le]; omega), if_neg (by rw [fl_lt, e0]; omega), if_pos (by rw [fl_lt, e6]; omega), if_neg (by rw [fl_le, en, q2]; omega)]
      have ec : Int32.toNatClampNeg ((x * 6) + y) = 6 * x.toInt.toNat + y.toInt.toNat := by rw [clN, q2]; omega
      rw [ec]
      obtain ⟨p0, p1, p2, p3, _⟩ := h3 x.toInt.toNat (by omega)
      have cy_ : y.toInt = 0 ∨ y.toInt = 1 ∨ y.toInt = 2 ∨ y.toInt = 3 := by omega
      rcases cy_ with z | z | z | z
      · rw [if_pos z, z]; exact p0
      · rw [if_neg (by omega), if_pos z, z]; exact p1
      · rw [if_neg (by omega), if_neg (by omega), if_pos z, z]; exact p2
      · rw [if_neg (by omega), if_neg (by omega), if_neg (by omega), if_pos z, z]; exact p3
    · rw [if_neg cx]
      by_cases c4 : x < 0
      · rw [if_pos c4]; rfl
      · rw [if_neg c4, if_pos (by rw [fl_lt, e0] at c4; rw [fl_le]; omega)]; rfl
  · rw [if_neg c2]
    rw [fl_le, e3] at c2
    split
    · rw [if_neg (by omega), if_neg (by omega), if_neg (by omega), if_neg (by omega)]; rfl
    · rfl

set_option maxHeartbeats 4000000 in
set_option maxRecDepth 100000 in
theorem i_X11_standsL {l : Launch} {D : va_G} {cy : Nat → ClassId} {b : Nat} {f : gMem} {own : Nat → Nat} {xo : Nat} {da : Int32} {fcn : Int32} {csz : Int32} {sz : Int32} {len : Int32} {ln : Int32} {wz : Int32} {lo : Int32} {tg : Nat → Int32} {weg : Nat → Int32} {stg : Nat → Int32} {tpg : Nat → Int32} {CN : Nat → Int32 → Int32 → (Nat → Int32) → (Nat → Int32) → Prop} {eg : Nat → Int32} {thg : Nat → Int32} {LN : Nat → Nat → Int32 → Int32 → Int32 → Int32 → Int64 → (Nat → Int32) → (Nat → Int32) → Prop} {ne : Nat} {x : Int32} {Tf : Nat → List Hd} {W : Lw} {S : Sn} (hI : xI cy own xo da fcn csz sz len ln wz lo tg weg stg tpg CN eg thg LN ne f) (hcw : cLW Tf W fcn csz sz lo eg CN LN) (hSn : sCn S da thg) : gC l D cy b yX11_stands cX11_stands 3 (some .int) 1 0 0 [.ref xo, .int x] f (pI fun r f2 => r.toInt = (if 0 ≤ x.toInt ∧ x.toInt < (W.2.2.length : Int) then ((W.2.2.getD x.toInt.toNat lf0).2.2.2.1.length : Int) else -1) ∧ xI cy own xo da fcn csz sz len ln wz lo tg weg stg tpg CN eg thg LN ne f2 ∧ kp0 own own f f2) := by
  obtain ⟨ch, sc, tp, ou, fm, dr, dt_, rd, te, la, lg, co, wo, fmg, lvg, HcXo, HcCh, HcTp, HcOu, HcFa, HcFm, HcDr, HcOt, HcRt, HcLa, HcLg, HcCo, HcLv, HcWo, HcFn, HcLn⟩ := id hI
  obtain ⟨og_xo, hxo, mcXo⟩ := id HcXo
  obtain ⟨lv, ⟨og_co, og_lv⟩, hco, hlv, mcCo⟩ := id HcCo
  refine gC_of (by decide) (Nat.le_of_ble_eq_true rfl) ?_
  show gG l _ _ _ D cy b cX11_stands 3 _ RX11 "stands" 0 0 f 0 [(0, .ref xo), (1, .int x)] []
  refine gz_aload_n dX11_stands_0 rfl rfl ?_
  refine sgX11_85 hxo rfl dX11_stands_1 ?_
  refine gz_iload_n dX11_stands_4 rfl rfl ?_
  refine scX11_162 (k_X1_lifeAt (nb := x) hco hlv) hco ⟨(Nat.le_of_ble_eq_true rfl), (Nat.le_of_ble_eq_true rfl)⟩ ⟨(Nat.le_of_ble_eq_true rfl), (Nat.le_of_ble_eq_true rfl)⟩ rfl rfl (Nat.le_of_ble_eq_true rfl) dX11_stands_5 ?_
  rintro u9 f9 ⟨z9, y9⟩; rw [z9, y9]
  cases hA1 : lifeF csz lvg x with
  | none =>
    refine gz_ev (w := .null) rfl ?_
    refine gz_astore_nN (lv' := [(2, .null), (0, .ref xo), (1, .int x)]) dX11_stands_8 rfl (by decide) rfl ?_
    refine gz_aload_nN dX11_stands_9 rfl rfl ?_
    refine gz_ifnonnullN dX11_stands_10 ?_
    refine gz_iconst (v := (-1)) dX11_stands_13 (by decide) ?_
    refine gz_goto (tgt := 21) dX11_stands_14 (by decide) ?_
    have hno := lifeF_out (by have z9 := hcw.1; omega) HcLn hA1
    exact gz_iret rfl dX11_stands_21 (Nat.le_of_ble_eq_true rfl) (Nat.le_of_ble_eq_true rfl) (⟨_, rfl, (by rw [if_neg (fun z => hno ⟨z.1, by have z9 := hcw.1.1; omega⟩)]; rfl), hI, kp0_rf⟩)
  | some lf =>
    refine gz_ev (w := .ref lf) rfl ?_
    have hilf := (lifeF_some hA1).1
    have hjlf := (lifeF_some hA1).2
    obtain ⟨p, so, fc, jf, nu, ho1, ho2, fs_, ga, sg, fg, hLf, hjf, hjp, hLN⟩ := HcLv _ _ hilf hjlf
    obtain ⟨⟨og_lf, og_so, og_fc⟩, hlf, hso, hfc⟩ := id hLf
    obtain ⟨c1, c2, n1, n2, s, v, g, h, ⟨⟨og_p, og_c1, og_c2⟩, hp, hc1, hc2, hs, hv, hFI⟩, hCN⟩ := HcFm _ _ hjf hjp
    refine gz_astore_n (lv' := [(2, .ref lf), (0, .ref xo), (1, .int x)]) dX11_stands_8 rfl (by decide) rfl ?_
    refine gz_aload_n dX11_stands_9 rfl rfl ?_
    refine gz_ifnonnull (tgt := 17) dX11_stands_10 (by decide) ?_
    refine gz_aload_n dX11_stands_17 rfl rfl ?_
    refine scX11_170 (k_X5_size hlf) hlf ⟨(Nat.le_of_ble_eq_true rfl), (Nat.le_of_ble_eq_true rfl)⟩ ⟨(Nat.le_of_ble_eq_true rfl), (Nat.le_of_ble_eq_true rfl)⟩ rfl rfl (Nat.le_of_ble_eq_true rfl) dX11_stands_18 ?_
    intro v9 f9 z9; rw [z9.1, z9.2]
    have hA := hA1
    have hin := lifeF_in hA
    have hlW : (Int32.toNatClampNeg x) < W.2.2.length := by have z9 := hcw.1.1; rw [clN]; omega
    have hixx : (((Int32.toNatClampNeg x) : Nat) : Int) = x.toInt := by rw [clN]; omega
    obtain ⟨⟨⟨hnu, hjfo⟩, hho1, hho2⟩, hLFc⟩ := hcw.2.2.1 _ _ _ _ _ _ _ _ _ hLN hlW
    obtain ⟨hfc_, hQ⟩ := hcw.2.2.2.1 _ hlW
    have hcT_ := hcw.2.2.2.2 jf _ _ _ _ (by rw [hjfo]; exact hfc_) hCN
    rw [← hjfo] at hQ
    exact gz_iret rfl dX11_stands_21 (Nat.le_of_ble_eq_true rfl) (Nat.le_of_ble_eq_true rfl) (⟨_, rfl, (by rw [if_pos ⟨hin.1, by have z9 := hcw.1.1; omega⟩]; exact hLFc.1.1), hI, kp0_rf⟩)

set_option maxHeartbeats 4000000 in
set_option maxRecDepth 100000 in
theorem i_X11_gotL {l : Launch} {D : va_G} {cy : Nat → ClassId} {b : Nat} {f : gMem} {own : Nat → Nat} {xo : Nat} {da : Int32} {fcn : Int32} {csz : Int32} {sz : Int32} {len : Int32} {ln : Int32} {wz : Int32} {lo : Int32} {tg : Nat → Int32} {weg : Nat → Int32} {stg : Nat → Int32} {tpg : Nat → Int32} {CN : Nat → Int32 → Int32 → (Nat → Int32) → (Nat → Int32) → Prop} {eg : Nat → Int32} {thg : Nat → Int32} {LN : Nat → Nat → Int32 → Int32 → Int32 → Int32 → Int64 → (Nat → Int32) → (Nat → Int32) → Prop} {ne : Nat} {x : Int32} {Tf : Nat → List Hd} {W : Lw} {S : Sn} (hI : xI cy own xo da fcn csz sz len ln wz lo tg weg stg tpg CN eg thg LN ne f) (hcw : cLW Tf W fcn csz sz lo eg CN LN) (hSn : sCn S da thg) : gC l D cy b yX11_got cX11_got 3 (some .long) 1 0 0 [.ref xo, .int x] f (pL fun r f2 => r = Int64.ofInt (if 0 ≤ x.toInt ∧ x.toInt < (W.2.2.length : Int) then (W.2.2.getD x.toInt.toNat lf0).2.2.2.2 else 0) ∧ xI cy own xo da fcn csz sz len ln wz lo tg weg stg tpg CN eg thg LN ne f2 ∧ kp0 own own f f2) := by
  obtain ⟨ch, sc, tp, ou, fm, dr, dt_, rd, te, la, lg, co, wo, fmg, lvg, HcXo, HcCh, HcTp, HcOu, HcFa, HcFm, HcDr, HcOt, HcRt, HcLa, HcLg, HcCo, HcLv, HcWo, HcFn, HcLn⟩ := id hI
  obtain ⟨og_xo, hxo, mcXo⟩ := id HcXo
  obtain ⟨lv, ⟨og_co, og_lv⟩, hco, hlv, mcCo⟩ := id HcCo
  refine gC_of (by decide) (Nat.le_of_ble_eq_true rfl) ?_
  show gG l _ _ _ D cy b cX11_got 3 _ RX11 "got" 0 0 f 0 [(0, .ref xo), (1, .int x)] []
  refine gz_aload_n dX11_got_0 rfl rfl ?_
  refine sgX11_85 hxo rfl dX11_got_1 ?_
  refine gz_iload_n dX11_got_4 rfl rfl ?_
  refine scX11_162 (k_X1_lifeAt (nb := x) hco hlv) hco ⟨(Nat.le_of_ble_eq_true rfl), (Nat.le_of_ble_eq_true rfl)⟩ ⟨(Nat.le_of_ble_eq_true rfl), (Nat.le_of_ble_eq_true rfl)⟩ rfl rfl (Nat.le_of_ble_eq_true rfl) dX11_got_5 ?_
  rintro u9 f9 ⟨z9, y9⟩; rw [z9, y9]
  cases hA1 : lifeF csz lvg x with
  | none =>
    refine gz_ev (w := .null) rfl ?_
    refine gz_astore_nN (lv' := [(2, .null), (0, .ref xo), (1, .int x)]) dX11_got_8 rfl (by decide) rfl ?_
    refine gz_aload_nN dX11_got_9 rfl rfl ?_
    refine gz_ifnonnullN dX11_got_10 ?_
    refine gz_lconst (v := 0) dX11_got_13 (by decide) ?_
    refine gz_goto (tgt := 21) dX11_got_14 (by decide) ?_
    have hno := lifeF_out (by have z9 := hcw.1; omega) HcLn hA1
    exact gz_lret rfl dX11_got_21 (Nat.le_of_ble_eq_true rfl) (Nat.le_of_ble_eq_true rfl) (⟨_, rfl, (by rw [if_neg (fun z => hno ⟨z.1, by have z9 := hcw.1.1; omega⟩)]; rfl), hI, kp0_rf⟩)
  | some lf =>
    refine gz_ev (w := .ref lf) rfl ?_
    have hilf := (lifeF_some hA1).1
    have hjlf := (lifeF_some hA1).2
    obtain ⟨p, so, fc, jf, nu, ho1, ho2, fs_, ga, sg, fg, hLf, hjf, hjp, hLN⟩ := HcLv _ _ hilf hjlf
    obtain ⟨⟨og_lf, og_so, og_fc⟩, hlf, hso, hfc⟩ := id hLf
    obtain ⟨c1, c2, n1, n2, s, v, g, h, ⟨⟨og_p, og_c1, og_c2⟩, hp, hc1, hc2, hs, hv, hFI⟩, hCN⟩ := HcFm _ _ hjf hjp
    refine gz_astore_n (lv' := [(2, .ref lf), (0, .ref xo), (1, .int x)]) dX11_got_8 rfl (by decide) rfl ?_
    refine gz_aload_n dX11_got_9 rfl rfl ?_
    refine gz_ifnonnull (tgt := 17) dX11_got_10 (by decide) ?_
    refine gz_aload_n dX11_got_17 rfl rfl ?_
    refine sgX11_185 hlf rfl dX11_got_18 ?_
    have hA := hA1
    have hin := lifeF_in hA
    have hlW : (Int32.toNatClampNeg x) < W.2.2.length := by have z9 := hcw.1.1; rw [clN]; omega
    have hixx : (((Int32.toNatClampNeg x) : Nat) : Int) = x.toInt := by rw [clN]; omega
    obtain ⟨⟨⟨hnu, hjfo⟩, hho1, hho2⟩, hLFc⟩ := hcw.2.2.1 _ _ _ _ _ _ _ _ _ hLN hlW
    obtain ⟨hfc_, hQ⟩ := hcw.2.2.2.1 _ hlW
    have hcT_ := hcw.2.2.2.2 jf _ _ _ _ (by rw [hjfo]; exact hfc_) hCN
    rw [← hjfo] at hQ
    exact gz_lret rfl dX11_got_21 (Nat.le_of_ble_eq_true rfl) (Nat.le_of_ble_eq_true rfl) (⟨_, rfl, (by rw [if_pos ⟨hin.1, by have z9 := hcw.1.1; omega⟩]; exact hLFc.2.1), hI, kp0_rf⟩)

set_option maxHeartbeats 4000000 in
set_option maxRecDepth 100000 in
theorem i_X11_standingL {l : Launch} {D : va_G} {cy : Nat → ClassId} {b : Nat} {f : gMem} {own : Nat → Nat} {xo : Nat} {da : Int32} {fcn : Int32} {csz : Int32} {sz : Int32} {len : Int32} {ln : Int32} {wz : Int32} {lo : Int32} {tg : Nat → Int32} {weg : Nat → Int32} {stg : Nat → Int32} {tpg : Nat → Int32} {CN : Nat → Int32 → Int32 → (Nat → Int32) → (Nat → Int32) → Prop} {eg : Nat → Int32} {thg : Nat → Int32} {LN : Nat → Nat → Int32 → Int32 → Int32 → Int32 → Int64 → (Nat → Int32) → (Nat → Int32) → Prop} {ne : Nat} {x y u : Int32} {Tf : Nat → List Hd} {W : Lw} {S : Sn} (hI : xI cy own xo da fcn csz sz len ln wz lo tg weg stg tpg CN eg thg LN ne f) (hcw : cLW Tf W fcn csz sz lo eg CN LN) (hSn : sCn S da thg) : gC l D cy b yX11_standing cX11_standing 5 (some .int) 4 0 0 [.ref xo, .int x, .int y, .int u] f (pI fun r f2 => r.toInt = stW Tf S x.toInt y.toInt u.toInt W ∧ xI cy own xo da fcn csz sz len ln wz lo tg weg stg tpg CN eg thg LN ne f2 ∧ kp0 own own f f2) := by
  obtain ⟨ch, sc, tp, ou, fm, dr, dt_, rd, te, la, lg, co, wo, fmg, lvg, HcXo, HcCh, HcTp, HcOu, HcFa, HcFm, HcDr, HcOt, HcRt, HcLa, HcLg, HcCo, HcLv, HcWo, HcFn, HcLn⟩ := id hI
  obtain ⟨og_xo, hxo, mcXo⟩ := id HcXo
  obtain ⟨lv, ⟨og_co, og_lv⟩, hco, hlv, mcCo⟩ := id HcCo
  obtain ⟨tl, th, ⟨og_ch, og_tl, og_sc, og_th⟩, hch, htl, hsc, hth, mcCh⟩ := id HcCh
  refine gC_of (by decide) (Nat.le_of_ble_eq_true rfl) ?_
  show gG l _ _ _ D cy b cX11_standing 5 _ RX11 "standing" 0 0 f 0 [(0, .ref xo), (1, .int x), (2, .int y), (3, .int u)] []
  refine gz_aload_n dX11_standing_0 rfl rfl ?_
  refine sgX11_85 hxo rfl dX11_standing_1 ?_
  refine gz_iload_n dX11_standing_4 rfl rfl ?_
  refine scX11_162 (k_X1_lifeAt (nb := x) hco hlv) hco ⟨(Nat.le_of_ble_eq_true rfl), (Nat.le_of_ble_eq_true rfl)⟩ ⟨(Nat.le_of_ble_eq_true rfl), (Nat.le_of_ble_eq_true rfl)⟩ rfl rfl (Nat.le_of_ble_eq_true rfl) dX11_standing_5 ?_
  rintro u9 f9 ⟨z9, y9⟩; rw [z9, y9]
  cases hA1 : lifeF csz lvg x with
  | none =>
    refine gz_ev (w := .null) rfl ?_
    refine gz_astoreN (lv' := [(4, .null), (0, .ref xo), (1, .int x), (2, .int y), (3, .int u)]) dX11_standing_8 (by decide) rfl ?_
    refine gz_aloadN dX11_standing_10 rfl ?_
    refine gz_ifnonnullN dX11_standing_12 ?_
    refine gz_iconst (v := (-1)) dX11_standing_15 (by decide) ?_
    refine gz_goto (tgt := 33) dX11_standing_16 (by decide) ?_
    have hno := lifeF_out (by have z9 := hcw.1; omega) HcLn hA1
    exact gz_iret rfl dX11_standing_33 (Nat.le_of_ble_eq_true rfl) (Nat.le_of_ble_eq_true rfl) (⟨_, rfl, (by unfold stW; rw [if_neg (fun z => hno ⟨z.1, by have z9 := hcw.1.1; omega⟩)]; rfl), hI, kp0_rf⟩)
  | some lf =>
    refine gz_ev (w := .ref lf) rfl ?_
    have hilf := (lifeF_some hA1).1
    have hjlf := (lifeF_some hA1).2
    obtain ⟨p, so, fc, jf, nu, ho1, ho2, fs_, ga, sg, fg, hLf, hjf, hjp, hLN⟩ := HcLv _ _ hilf hjlf
    obtain ⟨⟨og_lf, og_so, og_fc⟩, hlf, hso, hfc⟩ := id hLf
    obtain ⟨c1, c2, n1, n2, s, v, g, h, ⟨⟨og_p, og_c1, og_c2⟩, hp, hc1, hc2, hs, hv, hFI⟩, hCN⟩ := HcFm _ _ hjf hjp
    refine gz_astore (lv' := [(4, .ref lf), (0, .ref xo), (1, .int x), (2, .int y), (3, .int u)]) dX11_standing_8 (by decide) rfl ?_
    refine gz_aload dX11_standing_10 rfl ?_
    refine gz_ifnonnull (tgt := 19) dX11_standing_12 (by decide) ?_
    refine gz_aload dX11_standing_19 rfl ?_
    refine gz_iload_n dX11_standing_21 rfl rfl ?_
    refine gz_iload_n dX11_standing_22 rfl rfl ?_
    refine gz_aload_n dX11_standing_23 rfl rfl ?_
    refine sgX11_12 hxo rfl dX11_standing_24 ?_
    refine sgX11_78 hch rfl dX11_standing_27 ?_
    refine scX11_173 (k_X5_about (k := y) (wh := u) hlf hso hfc hp hc1 hc2 hsc hth hs hv) hlf ⟨(Nat.le_of_ble_eq_true rfl), (Nat.le_of_ble_eq_true rfl)⟩ ⟨(Nat.le_of_ble_eq_true rfl), (Nat.le_of_ble_eq_true rfl)⟩ rfl rfl (Nat.le_of_ble_eq_true rfl) dX11_standing_30 ?_
    intro v9 f9 z9; rw [z9.1, z9.2]
    have hA := hA1
    have hin := lifeF_in hA
    have hlW : (Int32.toNatClampNeg x) < W.2.2.length := by have z9 := hcw.1.1; rw [clN]; omega
    have hixx : (((Int32.toNatClampNeg x) : Nat) : Int) = x.toInt := by rw [clN]; omega
    obtain ⟨⟨⟨hnu, hjfo⟩, hho1, hho2⟩, hLFc⟩ := hcw.2.2.1 _ _ _ _ _ _ _ _ _ hLN hlW
    obtain ⟨hfc_, hQ⟩ := hcw.2.2.2.1 _ hlW
    have hcT_ := hcw.2.2.2.2 jf _ _ _ _ (by rw [hjfo]; exact hfc_) hCN
    rw [← hjfo] at hQ
    have hab := abo_S (ho1 := ho1) (ho2 := ho2) (k := y) (wh := u) hs hv hSn hcT_ hLFc hQ
    rw [hho1, hho2, hjfo] at hab
    exact gz_iret rfl dX11_standing_33 (Nat.le_of_ble_eq_true rfl) (Nat.le_of_ble_eq_true rfl) (⟨_, rfl, (by unfold stW; rw [if_pos ⟨hin.1, by have z9 := hcw.1.1; omega⟩]; exact hab), hI, kp0_rf⟩)

set_option maxHeartbeats 4000000 in
set_option maxRecDepth 100000 in
theorem i_X11_paymentL {l : Launch} {D : va_G} {cy : Nat → ClassId} {b : Nat} {f : gMem} {own : Nat → Nat} {xo : Nat} {da : Int32} {fcn : Int32} {csz : Int32} {sz : Int32} {len : Int32} {ln : Int32} {wz : Int32} {lo : Int32} {tg : Nat → Int32} {weg : Nat → Int32} {stg : Nat → Int32} {tpg : Nat → Int32} {CN : Nat → Int32 → Int32 → (Nat → Int32) → (Nat → Int32) → Prop} {eg : Nat → Int32} {thg : Nat → Int32} {LN : Nat → Nat → Int32 → Int32 → Int32 → Int32 → Int64 → (Nat → Int32) → (Nat → Int32) → Prop} {ne : Nat} {x y : Int32} {Tf : Nat → List Hd} {W : Lw} (hI : xI cy own xo da fcn csz sz len ln wz lo tg weg stg tpg CN eg thg LN ne f) (hcw : cLW Tf W fcn csz sz lo eg CN LN) : gC l D cy b yX11_payment cX11_payment 3 (some .int) 1 0 0 [.ref xo, .int x, .int y] f (pI fun r f2 => r.toInt = (if 0 ≤ x.toInt ∧ x.toInt < (W.1.length : Int) then (if y.toInt = 0 then (W.1.getD x.toInt.toNat pm0).1 else if y.toInt = 1 then (W.1.getD x.toInt.toNat pm0).2.1 else if y.toInt = 2 then (W.1.getD x.toInt.toNat pm0).2.2.1 else if y.toInt = 3 then (W.1.getD x.toInt.toNat pm0).2.2.2.1 else -10000000) else -10000000) ∧ xI cy own xo da fcn csz sz len ln wz lo tg weg stg tpg CN eg thg LN ne f2 ∧ kp0 own own f f2) := by
  obtain ⟨ch, sc, tp, ou, fm, dr, dt_, rd, te, la, lg, co, wo, fmg, lvg, HcXo, HcCh, HcTp, HcOu, HcFa, HcFm, HcDr, HcOt, HcRt, HcLa, HcLg, HcCo, HcLv, HcWo, HcFn, HcLn⟩ := id hI
  obtain ⟨og_xo, hxo, mcXo⟩ := id HcXo
  obtain ⟨en, ge, re, gv, tk, am, gi, gvg, tkg, geg, reg, amg, ⟨og_lg, og_en, og_ge, og_re, og_gv, og_tk, og_am⟩, hlg, hen, hge, hre, hgv, htk, ham, mcLg⟩ := id HcLg
  refine gC_mono (k_X11_payment hxo hlg hen (Nat.lt_of_le_of_lt mcLg.2.2.2 (by decide)) ⟨mcLg.1, mcLg.2.1⟩) ?_
  rintro r f2 ⟨v9, rfl, hr, rfl⟩
  exact ⟨v9, rfl, by rw [hr]; exact pay_W hcw.2.1 ⟨by omega, by omega⟩, hI, kp0_rf⟩
