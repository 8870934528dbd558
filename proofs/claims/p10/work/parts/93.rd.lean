set_option maxHeartbeats 4000000 in
set_option maxRecDepth 100000 in
theorem k_X3_sameEitherWayE {l : Launch} {D : va_G} {cy : Nat → ClassId} {b : Nat} {f : gMem} {la p c1 c2 n1 n2 q d1 d2 m1 m2 : Nat} {s v qs qv : Int32} {g h gq hh : Nat → Int32} {TA TB : List Hd} (hp : f p = some (.inr (2, [.ref c1, .ref c2, .int s, .int v]))) (h1 : f c1 = some (.inl (cy 0, n1, .inl (g)))) (h2 : f c2 = some (.inl (cy 0, n2, .inl (h)))) (hq0 : f q = some (.inr (2, [.ref d1, .ref d2, .int qs, .int qv]))) (hd1 : f d1 = some (.inl (cy 0, m1, .inl (gq)))) (hd2 : f d2 = some (.inl (cy 0, m2, .inl (hh)))) (hs : 0 ≤ s.toInt ∧ 13 * s.toInt ≤ n1 ∧ n1 ≤ 520) (hv : 0 ≤ v.toInt ∧ 2 * v.toInt ≤ n2 ∧ n2 ≤ 80) (hqs : 0 ≤ qs.toInt ∧ 13 * qs.toInt ≤ m1 ∧ m1 ≤ 520) (hqv : 0 ≤ qv.toInt ∧ 2 * qv.toInt ≤ m2 ∧ m2 ≤ 80) (hTA : hcT TA s v g h) (hTB : hcT TB qs qv gq hh) : gC l D cy b yX3_sameEitherWay cX3_sameEitherWay 3 (some .boolean) 46 0 0 [.ref la, .ref p, .ref q] f (pI fun r f2 => ((r = 1 ∧ ewT 41 TA TB) ∨ (r = 0 ∧ ¬ ewT 41 TA TB)) ∧ f2 = f) := by
  refine gC_of (by decide) (Nat.le_of_ble_eq_true rfl) ?_
  show gG l _ _ _ D cy b cX3_sameEitherWay 3 _ RX3 "sameEitherWay" 0 0 f 0 [(0, .ref la), (1, .ref p), (2, .ref q)] []
  refine gz_aload_n dX3_sameEitherWay_0 rfl rfl ?_
  refine gz_iconst (v := 0) dX3_sameEitherWay_1 (by decide) ?_
  refine gz_aload_n dX3_sameEitherWay_2 rfl rfl ?_
  refine gz_iconst (v := 0) dX3_sameEitherWay_3 (by decide) ?_
  refine gz_iconst (v := 1) dX3_sameEitherWay_4 (by decide) ?_
  have e0 : (0 : Int32).toInt = 0 := rfl
  have hG := LC_gkN hTA.1.1 hTA.1.2.1 hTA.2.2.2 hTA.2.1 hTA.2.2.1
  have hG2 := LC_gkN hTB.1.1 hTB.1.2.1 hTB.2.2.2 hTB.2.1 hTB.2.2.1
  obtain ⟨za, Ba, eTa⟩ := okT_ne hTA.1.1
  obtain ⟨zb, Bb, eTb⟩ := okT_ne hTB.1.1
  have hla : 1 ≤ TA.length := by rw [eTa, List.length_cons]; omega
  have hlb : 1 ≤ TB.length := by rw [eTb, List.length_cons]; omega
  have ha40 := hTA.1.2.2.2.1
  have hb40 := hTB.1.2.2.2.1
  have has := hTA.2.1
  have hbs := hTB.2.1
  have hew := ew_T (gkN_gO hG) (gkN_gO hG2) 41 0 0 (by omega) (by omega) (by omega) (by omega)
  rw [gr_tr hTA.1.1 ha40, gr_tr hTB.1.1 hb40] at hew
  refine scX3_48 (k_X3_alikeE hs hv hqs hqv hG hG2 41 0 0 1 0 0 true _ hp h1 h2 hq0 hd1 hd2 ⟨rfl, by omega⟩ ⟨rfl, by omega⟩ (by omega) rfl) ⟨(Nat.le_of_ble_eq_true rfl), (Nat.le_of_ble_eq_true rfl)⟩ ⟨(Nat.le_of_ble_eq_true rfl), (Nat.le_of_ble_eq_true rfl)⟩ rfl rfl (Nat.le_of_ble_eq_true rfl) dX3_sameEitherWay_5 ?_
  rintro r1 f1 ⟨hb1, hf1⟩; subst hf1
  have hbb : r1 = 0 ∨ r1 = 1 := hb1.elim (fun q => Or.inr q.1) (fun q => Or.inl q.1)
  exact gz_zret rfl (by first | decide | exact nrb (Or.inl rfl) | (refine nrb ?_; (repeat' split) <;> first | assumption | exact Or.inl rfl | exact Or.inr rfl)) dX3_sameEitherWay_8 (Nat.le_of_ble_eq_true rfl) (Nat.le_of_ble_eq_true rfl) (⟨_, rfl, hb1.imp (fun q => ⟨q.1, hew.mp q.2⟩) (fun q => ⟨q.1, fun z => q.2 (hew.mpr z)⟩), rfl⟩)

theorem nt_8000  : ∀ k : Nat, 13000 ≤ k ∧ k < 14000 → ¬ (k = 8002 ∨ k = 8003 ∨ k = 8004 ∨ k = 8001 ∨ k = 6000 ∨ k = 6001 ∨ k = 6002 ∨ k = 7000 ∨ k = 7001 ∨ k = 7002) := by intro k hk hT; omega
theorem nt_8001  : ∀ k : Nat, 1000 ≤ k ∧ k < 2000 → ¬ (k = 8002 ∨ k = 8003 ∨ k = 8004 ∨ k = 8001 ∨ k = 6000 ∨ k = 6001 ∨ k = 6002 ∨ k = 7000 ∨ k = 7001 ∨ k = 7002) := by intro k hk hT; omega
theorem nt_8002  : ∀ k : Nat, 2000 ≤ k ∧ k < 3000 → ¬ (k = 8002 ∨ k = 8003 ∨ k = 8004 ∨ k = 8001 ∨ k = 6000 ∨ k = 6001 ∨ k = 6002 ∨ k = 7000 ∨ k = 7001 ∨ k = 7002) := by intro k hk hT; omega
theorem nt_8003  : ∀ k : Nat, 14000 ≤ k ∧ k < 15000 → ¬ (k = 8002 ∨ k = 8003 ∨ k = 8004 ∨ k = 8001 ∨ k = 6000 ∨ k = 6001 ∨ k = 6002 ∨ k = 7000 ∨ k = 7001 ∨ k = 7002) := by intro k hk hT; omega
theorem nt_8004  : ∀ k : Nat, 5000 ≤ k ∧ k < 6000 → ¬ (k = 8002 ∨ k = 8003 ∨ k = 8004 ∨ k = 8001 ∨ k = 6000 ∨ k = 6001 ∨ k = 6002 ∨ k = 7000 ∨ k = 7001 ∨ k = 7002) := by intro k hk hT; omega
theorem nt_8005  : ∀ k : Nat, 4000 ≤ k ∧ k < 5000 → ¬ (k = 8002 ∨ k = 8003 ∨ k = 8004 ∨ k = 8001 ∨ k = 6000 ∨ k = 6001 ∨ k = 6002 ∨ k = 7000 ∨ k = 7001 ∨ k = 7002) := by intro k hk hT; omega
theorem nt_8006  : ∀ k : Nat, 3000 ≤ k ∧ k < 4000 → ¬ (k = 8002 ∨ k = 8003 ∨ k = 8004 ∨ k = 8001 ∨ k = 6000 ∨ k = 6001 ∨ k = 6002 ∨ k = 7000 ∨ k = 7001 ∨ k = 7002) := by intro k hk hT; omega
theorem nt_8007  : ∀ k : Nat, 8000 ≤ k ∧ k < 8001 → ¬ (k = 8002 ∨ k = 8003 ∨ k = 8004 ∨ k = 8001 ∨ k = 6000 ∨ k = 6001 ∨ k = 6002 ∨ k = 7000 ∨ k = 7001 ∨ k = 7002) := by intro k hk hT; omega
theorem nt_8008  : ∀ k : Nat, 9000 ≤ k ∧ k < 10000 → ¬ (k = 8002 ∨ k = 8003 ∨ k = 8004 ∨ k = 8001 ∨ k = 6000 ∨ k = 6001 ∨ k = 6002 ∨ k = 7000 ∨ k = 7001 ∨ k = 7002) := by intro k hk hT; omega
theorem nt_8009  : ∀ k : Nat, 10000 ≤ k ∧ k < 11000 → ¬ (k = 8002 ∨ k = 8003 ∨ k = 8004 ∨ k = 8001 ∨ k = 6000 ∨ k = 6001 ∨ k = 6002 ∨ k = 7000 ∨ k = 7001 ∨ k = 7002) := by intro k hk hT; omega
theorem nt_8010  : ∀ k : Nat, 12000 ≤ k ∧ k < 13000 → ¬ (k = 8002 ∨ k = 8003 ∨ k = 8004 ∨ k = 8001 ∨ k = 6000 ∨ k = 6001 ∨ k = 6002 ∨ k = 7000 ∨ k = 7001 ∨ k = 7002) := by intro k hk hT; omega
theorem nt_8011  : ∀ k : Nat, 11000 ≤ k ∧ k < 12000 → ¬ (k = 8002 ∨ k = 8003 ∨ k = 8004 ∨ k = 8001 ∨ k = 6000 ∨ k = 6001 ∨ k = 6002 ∨ k = 7000 ∨ k = 7001 ∨ k = 7002) := by intro k hk hT; omega
theorem nt_8012  : ∀ k : Nat, 15000 ≤ k ∧ k < 16000 → ¬ (k = 8002 ∨ k = 8003 ∨ k = 8004 ∨ k = 8001 ∨ k = 6000 ∨ k = 6001 ∨ k = 6002 ∨ k = 7000 ∨ k = 7001 ∨ k = 7002) := by intro k hk hT; omega
theorem nt_8013  : ∀ k : Nat, 0 ≤ k ∧ k < 1 → ¬ (k = 8002 ∨ k = 8003 ∨ k = 8004 ∨ k = 8001 ∨ k = 6000 ∨ k = 6001 ∨ k = 6002 ∨ k = 7000 ∨ k = 7001 ∨ k = 7002) := by intro k hk hT; omega
set_option maxHeartbeats 4000000 in
set_option maxRecDepth 100000 in
theorem i_X11_sameC {l : Launch} {D : va_G} {cy : Nat → ClassId} {b : Nat} {f : gMem} {own : Nat → Nat} {xo : Nat} {da : Int32} {fcn : Int32} {csz : Int32} {sz : Int32} {len : Int32} {ln : Int32} {wz : Int32} {lo : Int32} {tg : Nat → Int32} {weg : Nat → Int32} {stg : Nat → Int32} {tpg : Nat → Int32} {CN : Nat → Int32 → Int32 → (Nat → Int32) → (Nat → Int32) → Prop} {ne : Nat} {x y : Int32} {Tf : Nat → List Hd} (hI : xI cy own xo da fcn csz sz len ln wz lo tg weg stg tpg CN ne f) (hX : ∀ (k : Nat) (s v : Int32) (g h : Nat → Int32), (k : Int) < fcn.toInt → CN k s v g h → hcT (Tf k) s v g h) : gC l D cy b yX11_same cX11_same 5 (some .int) 48 0 0 [.ref xo, .int x, .int y] f (pI fun r f2 => ((((0 ≤ x.toInt ∧ x.toInt < fcn.toInt) ∧ 0 ≤ y.toInt ∧ y.toInt < fcn.toInt) → (r = 1 ∧ ewT 41 (shT (Tf (Int32.toNatClampNeg x))) (shT (Tf (Int32.toNatClampNeg y)))) ∨ (r = 0 ∧ ¬ ewT 41 (shT (Tf (Int32.toNatClampNeg x))) (shT (Tf (Int32.toNatClampNeg y))))) ∧ (¬ ((0 ≤ x.toInt ∧ x.toInt < fcn.toInt) ∧ 0 ≤ y.toInt ∧ y.toInt < fcn.toInt) → r = -1)) ∧ xI cy own xo da fcn csz sz len ln wz lo tg weg stg tpg CN ne f2 ∧ kp0 own own f f2) := by
  obtain ⟨ch, sc, tp, ou, fm, dr, dt_, rd, te, la, lg, co, wo, fmg, lvg, HcXo, HcCh, HcTp, HcOu, HcFa, HcFm, HcDr, HcOt, HcRt, HcLa, HcLg, HcCo, HcLv, HcWo, HcFn⟩ := id hI
  obtain ⟨og_xo, hxo, mcXo⟩ := id HcXo
  obtain ⟨og_fm, hfm⟩ := id HcFa
  obtain ⟨wk, bc, w1, w2, ws, wv, bg, wg, wh, ⟨og_la, og_bc, og_wk, og_w1, og_w2⟩, hla, hbc, hwk, hw1, hw2⟩ := id HcLa
  obtain ⟨d1, d2, ds, dv, dg, dh, ⟨og_dr, og_d1, og_d2⟩, hdr, hd1, hd2⟩ := id HcDr
  obtain ⟨e1, e2, xs, xv, xg, xh, ⟨og_dt_, og_e1, og_e2⟩, hdt_, he1, he2⟩ := id HcOt
  refine gC_of (by decide) (Nat.le_of_ble_eq_true rfl) ?_
  show gG l _ _ _ D cy b cX11_same 5 _ RX11 "same" 0 0 f 0 [(0, .ref xo), (1, .int x), (2, .int y)] []
  refine gz_aload_n dX11_same_0 rfl rfl ?_
  refine gz_iload_n dX11_same_1 rfl rfl ?_
  refine scX11_126 (k_X11_formAt (x := x) hxo hfm) hxo ⟨(Nat.le_of_ble_eq_true rfl), (Nat.le_of_ble_eq_true rfl)⟩ ⟨(Nat.le_of_ble_eq_true rfl), (Nat.le_of_ble_eq_true rfl)⟩ rfl rfl (Nat.le_of_ble_eq_true rfl) dX11_same_2 ?_
  rintro u9 f9 ⟨z9, y9⟩; rw [z9, y9]
  cases hA2 : formF fcn fmg x with
  | none =>
    refine gz_ev (w := .null) rfl ?_
    refine gz_astore_nN (lv' := [(3, .null), (0, .ref xo), (1, .int x), (2, .int y)]) dX11_same_5 rfl (by decide) rfl ?_
    refine gz_aload_n dX11_same_6 rfl rfl ?_
    refine gz_iload_n dX11_same_7 rfl rfl ?_
    refine scX11_126 (k_X11_formAt (x := y) hxo hfm) hxo ⟨(Nat.le_of_ble_eq_true rfl), (Nat.le_of_ble_eq_true rfl)⟩ ⟨(Nat.le_of_ble_eq_true rfl), (Nat.le_of_ble_eq_true rfl)⟩ rfl rfl (Nat.le_of_ble_eq_true rfl) dX11_same_8 ?_
    rintro u9 f9 ⟨z9, y9⟩; rw [z9, y9]
    cases hA4 : formF fcn fmg y with
    | none =>
      refine gz_ev (w := .null) rfl ?_
      refine gz_astoreN (lv' := [(4, .null), (3, .null), (0, .ref xo), (1, .int x), (2, .int y)]) dX11_same_11 (by decide) rfl ?_
      refine gz_aload_nN dX11_same_13 rfl rfl ?_
      refine gz_ifnullN (tgt := 22) dX11_same_14 (by decide) ?_
      refine gz_iconst (v := (-1)) dX11_same_22 (by decide) ?_
      exact gz_iret rfl dX11_same_23 (Nat.le_of_ble_eq_true rfl) (Nat.le_of_ble_eq_true rfl) (⟨_, rfl, ⟨fun z => by exfalso; obtain ⟨p9, hp9⟩ := formF_is mcXo HcFn z.1; rw [hA2] at hp9; (cases hp9), fun _ => rfl⟩, hI, kp0_rf⟩)
    | some py =>
      refine gz_ev (w := .ref py) rfl ?_
      have hipy := (formF_some hA4).1
      have hjpy := (formF_some hA4).2
      obtain ⟨c1y, c2y, n1y, n2y, sy, vy, gy, hy, ⟨⟨og_py, og_c1y, og_c2y⟩, hpy, hc1y, hc2y, hsy, hvy, hFIy⟩, hCNy⟩ := HcFm _ _ hipy hjpy
      refine gz_astore (lv' := [(4, .ref py), (3, .null), (0, .ref xo), (1, .int x), (2, .int y)]) dX11_same_11 (by decide) rfl ?_
      refine gz_aload_nN dX11_same_13 rfl rfl ?_
      refine gz_ifnullN (tgt := 22) dX11_same_14 (by decide) ?_
      refine gz_iconst (v := (-1)) dX11_same_22 (by decide) ?_
      exact gz_iret rfl dX11_same_23 (Nat.le_of_ble_eq_true rfl) (Nat.le_of_ble_eq_true rfl) (⟨_, rfl, ⟨fun z => by exfalso; obtain ⟨p9, hp9⟩ := formF_is mcXo HcFn z.1; rw [hA2] at hp9; (cases hp9), fun _ => rfl⟩, hI, kp0_rf⟩)
  | some p =>
    refine gz_ev (w := .ref p) rfl ?_
    have hip := (formF_some hA2).1
    have hjp := (formF_some hA2).2
    obtain ⟨c1, c2, n1, n2, s, v, g, h, ⟨⟨og_p, og_c1, og_c2⟩, hp, hc1, hc2, hs, hv, hFI⟩, hCN⟩ := HcFm _ _ hip hjp
    refine gz_astore_n (lv' := [(3, .ref p), (0, .ref xo), (1, .int x), (2, .int y)]) dX11_same_5 rfl (by decide) rfl ?_
    refine gz_aload_n dX11_same_6 rfl rfl ?_
    refine gz_iload_n dX11_same_7 rfl rfl ?_
    refine scX11_126 (k_X11_formAt (x := y) hxo hfm) hxo ⟨(Nat.le_of_ble_eq_true rfl), (Nat.le_of_ble_eq_true rfl)⟩ ⟨(Nat.le_of_ble_eq_true rfl), (Nat.le_of_ble_eq_true rfl)⟩ rfl rfl (Nat.le_of_ble_eq_true rfl) dX11_same_8 ?_
    rintro u9 f9 ⟨z9, y9⟩; rw [z9, y9]
    cases hA6 : formF fcn fmg y with
    | none =>
      refine gz_ev (w := .null) rfl ?_
      refine gz_astoreN (lv' := [(4, .null), (3, .ref p), (0, .ref xo), (1, .int x), (2, .int y)]) dX11_same_11 (by decide) rfl ?_
      refine gz_aload_n dX11_same_13 rfl rfl ?_
      refine gz_ifnull dX11_same_14 ?_
      refine gz_aloadN dX11_same_17 rfl ?_
      refine gz_ifnonnullN dX11_same_19 ?_
      refine gz_iconst (v := (-1)) dX11_same_22 (by decide) ?_
      exact gz_iret rfl dX11_same_23 (Nat.le_of_ble_eq_true rfl) (Nat.le_of_ble_eq_true rfl) (⟨_, rfl, ⟨fun z => by exfalso; obtain ⟨p9, hp9⟩ := formF_is mcXo HcFn z.2; rw [hA6] at hp9; (cases hp9), fun _ => rfl⟩, hI, kp0_rf⟩)
    | some py =>
      refine gz_ev (w := .ref py) rfl ?_
      have hipy := (formF_some hA6).1
      have hjpy := (formF_some hA6).2
      obtain ⟨c1y, c2y, n1y, n2y, sy, vy, gy, hy, ⟨⟨og_py, og_c1y, og_c2y⟩, hpy, hc1y, hc2y, hsy, hvy, hFIy⟩, hCNy⟩ := HcFm _ _ hipy hjpy
      refine gz_astore (lv' := [(4, .ref py), (3, .ref p), (0, .ref xo), (1, .int x), (2, .int y)]) dX11_same_11 (by decide) rfl ?_
      refine gz_aload_n dX11_same_13 rfl rfl ?_
      refine gz_ifnull dX11_same_14 ?_
      refine gz_aload dX11_same_17 rfl ?_
      refine gz_ifnonnull (tgt := 24) dX11_same_19 (by decide) ?_
      refine gz_aload_n dX11_same_24 rfl rfl ?_
      refine sgX11_65 hxo rfl dX11_same_25 ?_
      refine gz_aload_n dX11_same_28 rfl rfl ?_
      refine gz_aload_n dX11_same_29 rfl rfl ?_
      refine sgX11_37 hxo rfl dX11_same_30 ?_
      have hcx := hX _ s v g h (show ((Int32.toNatClampNeg x : Nat) : Int) < fcn.toInt by have z := formF_lt hA2; rw [show Int32.toNatClampNeg x = x.toInt.toNat from rfl]; omega) hCN
      refine scX11_134 (k_X3_shortenE (T := Tf (Int32.toNatClampNeg x)) hla hbc hwk hw1 hw2 hp hc1 hc2 hdr hd1 hd2 ⟨(tgn og_wk og_p (by omega)), (tgn og_wk og_dr (by decide)), (tgn og_p og_dr (by omega)), (tgn og_w1 og_w2 (by decide)), (tgn og_w1 og_c1 (by omega)), (tgn og_w1 og_c2 (by omega)), (tgn og_w1 og_d1 (by decide)), (tgn og_w1 og_d2 (by decide)), (tgn og_w1 og_bc (by decide)), (tgn og_w2 og_c1 (by omega)), (tgn og_w2 og_c2 (by omega)), (tgn og_w2 og_d1 (by decide)), (tgn og_w2 og_d2 (by decide)), (tgn og_w2 og_bc (by decide)), (tgn og_c1 og_c2 (by omega)), (tgn og_c1 og_d1 (by omega)), (tgn og_c1 og_d2 (by omega)), (tgn og_c1 og_bc (by omega)), (tgn og_c2 og_d1 (by omega)), (tgn og_c2 og_d2 (by omega)), (tgn og_c2 og_bc (by omega)), (tgn og_d1 og_d2 (by decide)), (tgn og_d1 og_bc (by decide)), (tgn og_d2 og_bc (by decide))⟩ hcx.1 hs hv ⟨hcx.2.1, hcx.2.2.1⟩ hcx.2.2.2) hla ⟨(Nat.le_of_ble_eq_true rfl), (Nat.le_of_ble_eq_true rfl)⟩ ⟨(Nat.le_of_ble_eq_true rfl), (Nat.le_of_ble_eq_true rfl)⟩ rfl rfl (Nat.le_of_ble_eq_true rfl) dX11_same_33 ?_
      rintro f1 ⟨s_1, v_1, s__1, v__1, g_1, h_1, g__1, h__1, b_1, hwk_1, hw1_1, hw2_1, hbc_1, hdr_1, hd1_1, hd2_1, hs_1, hv_1, hF_1, hsT_1, hvT_1, hLT_1, hr1⟩
      have hxo_1 : f1 xo = some (.inr (11, [.ref ch, .ref tp, .ref ou, .ref fm, .ref dr, .ref dt_, .ref rd, .ref te, .ref la, .ref lg, .ref co, .ref wo, .int fcn])) := hr1 _ _ hxo (by simp only [List.mem_cons, List.not_mem_nil, or_false, not_or]; exact ⟨(tgn og_xo og_wk (by decide)), (tgn og_xo og_w1 (by decide)), (tgn og_xo og_w2 (by decide)), (tgn og_xo og_bc (by decide)), (tgn og_xo og_dr (by decide)), (tgn og_xo og_d1 (by decide)), (tgn og_xo og_d2 (by decide))⟩)
      have hfm_1 : f1 fm = some (.inl (cy 4, 20, .inr (.inr (.inr (.inr (fmg)))))) := hr1 _ _ hfm (by simp only [List.mem_cons, List.not_mem_nil, or_false, not_or]; exact ⟨(tgn og_fm og_wk (by decide)), (tgn og_fm og_w1 (by decide)), (tgn og_fm og_w2 (by decide)), (tgn og_fm og_bc (by decide)), (tgn og_fm og_dr (by decide)), (tgn og_fm og_d1 (by decide)), (tgn og_fm og_d2 (by decide))⟩)
      have hla_1 : f1 la = some (.inr (3, [.ref wk, .ref bc])) := hr1 _ _ hla (by simp only [List.mem_cons, List.not_mem_nil, or_false, not_or]; exact ⟨(tgn og_la og_wk (by decide)), (tgn og_la og_w1 (by decide)), (tgn og_la og_w2 (by decide)), (tgn og_la og_bc (by decide)), (tgn og_la og_dr (by decide)), (tgn og_la og_d1 (by decide)), (tgn og_la og_d2 (by decide))⟩)
      have hdt_1 : f1 dt_ = some (.inr (2, [.ref e1, .ref e2, .int xs, .int xv])) := hr1 _ _ hdt_ (by simp only [List.mem_cons, List.not_mem_nil, or_false, not_or]; exact ⟨(tgn og_dt_ og_wk (by decide)), (tgn og_dt_ og_w1 (by decide)), (tgn og_dt_ og_w2 (by decide)), (tgn og_dt_ og_bc (by decide)), (tgn og_dt_ og_dr (by decide)), (tgn og_dt_ og_d1 (by decide)), (tgn og_dt_ og_d2 (by decide))⟩)
      have he1_1 : f1 e1 = some (.inl (cy 0, 520, .inl (xg))) := hr1 _ _ he1 (by simp only [List.mem_cons, List.not_mem_nil, or_false, not_or]; exact ⟨(tgn og_e1 og_wk (by decide)), (tgn og_e1 og_w1 (by decide)), (tgn og_e1 og_w2 (by decide)), (tgn og_e1 og_bc (by decide)), (tgn og_e1 og_dr (by decide)), (tgn og_e1 og_d1 (by decide)), (tgn og_e1 og_d2 (by decide))⟩)
      have he2_1 : f1 e2 = some (.inl (cy 0, 80, .inl (xh))) := hr1 _ _ he2 (by simp only [List.mem_cons, List.not_mem_nil, or_false, not_or]; exact ⟨(tgn og_e2 og_wk (by decide)), (tgn og_e2 og_w1 (by decide)), (tgn og_e2 og_w2 (by decide)), (tgn og_e2 og_bc (by decide)), (tgn og_e2 og_dr (by decide)), (tgn og_e2 og_d1 (by decide)), (tgn og_e2 og_d2 (by decide))⟩)
      have hp_1 : f1 p = some (.inr (2, [.ref c1, .ref c2, .int s, .int v])) := hr1 _ _ hp (by simp only [List.mem_cons, List.not_mem_nil, or_false, not_or]; exact ⟨(tgn og_p og_wk (by omega)), (tgn og_p og_w1 (by omega)), (tgn og_p og_w2 (by omega)), (tgn og_p og_bc (by omega)), (tgn og_p og_dr (by omega)), (tgn og_p og_d1 (by omega)), (tgn og_p og_d2 (by omega))⟩)
      have hc1_1 : f1 c1 = some (.inl (cy 0, n1, .inl (g))) := hr1 _ _ hc1 (by simp only [List.mem_cons, List.not_mem_nil, or_false, not_or]; exact ⟨(tgn og_c1 og_wk (by omega)), (tgn og_c1 og_w1 (by omega)), (tgn og_c1 og_w2 (by omega)), (tgn og_c1 og_bc (by omega)), (tgn og_c1 og_dr (by omega)), (tgn og_c1 og_d1 (by omega)), (tgn og_c1 og_d2 (by omega))⟩)
      have hc2_1 : f1 c2 = some (.inl (cy 0, n2, .inl (h))) := hr1 _ _ hc2 (by simp only [List.mem_cons, List.not_mem_nil, or_false, not_or]; exact ⟨(tgn og_c2 og_wk (by omega)), (tgn og_c2 og_w1 (by omega)), (tgn og_c2 og_w2 (by omega)), (tgn og_c2 og_bc (by omega)), (tgn og_c2 og_dr (by omega)), (tgn og_c2 og_d1 (by omega)), (tgn og_c2 og_d2 (by omega))⟩)
      have hpy_1 : f1 py = some (.inr (2, [.ref c1y, .ref c2y, .int sy, .int vy])) := hr1 _ _ hpy (by simp only [List.mem_cons, List.not_mem_nil, or_false, not_or]; exact ⟨(tgn og_py og_wk (by omega)), (tgn og_py og_w1 (by omega)), (tgn og_py og_w2 (by omega)), (tgn og_py og_bc (by omega)), (tgn og_py og_dr (by omega)), (tgn og_py og_d1 (by omega)), (tgn og_py og_d2 (by omega))⟩)
      have hc1y_1 : f1 c1y = some (.inl (cy 0, n1y, .inl (gy))) := hr1 _ _ hc1y (by simp only [List.mem_cons, List.not_mem_nil, or_false, not_or]; exact ⟨(tgn og_c1y og_wk (by omega)), (tgn og_c1y og_w1 (by omega)), (tgn og_c1y og_w2 (by omega)), (tgn og_c1y og_bc (by omega)), (tgn og_c1y og_dr (by omega)), (tgn og_c1y og_d1 (by omega)), (tgn og_c1y og_d2 (by omega))⟩)
      have hc2y_1 : f1 c2y = some (.inl (cy 0, n2y, .inl (hy))) := hr1 _ _ hc2y (by simp only [List.mem_cons, List.not_mem_nil, or_false, not_or]; exact ⟨(tgn og_c2y og_wk (by omega)), (tgn og_c2y og_w1 (by omega)), (tgn og_c2y og_w2 (by omega)), (tgn og_c2y og_bc (by omega)), (tgn og_c2y og_dr (by omega)), (tgn og_c2y og_d1 (by omega)), (tgn og_c2y og_d2 (by omega))⟩)
      refine gz_aload_n dX11_same_36 rfl rfl ?_
      refine sgX11_65 hxo_1 rfl dX11_same_37 ?_
      refine gz_aload dX11_same_40 rfl ?_
      refine gz_aload_n dX11_same_42 rfl rfl ?_
      refine sgX11_41 hxo_1 rfl dX11_same_43 ?_
      have hcxy := hX _ sy vy gy hy (show ((Int32.toNatClampNeg y : Nat) : Int) < fcn.toInt by have z := formF_lt hA6; rw [show Int32.toNatClampNeg y = y.toInt.toNat from rfl]; omega) hCNy
      refine scX11_134 (k_X3_shortenE (T := Tf (Int32.toNatClampNeg y)) hla_1 hbc_1 hwk_1 hw1_1 hw2_1 hpy_1 hc1y_1 hc2y_1 hdt_1 he1_1 he2_1 ⟨(tgn og_wk og_py (by omega)), (tgn og_wk og_dt_ (by decide)), (tgn og_py og_dt_ (by omega)), (tgn og_w1 og_w2 (by decide)), (tgn og_w1 og_c1y (by omega)), (tgn og_w1 og_c2y (by omega)), (tgn og_w1 og_e1 (by decide)), (tgn og_w1 og_e2 (by decide)), (tgn og_w1 og_bc (by decide)), (tgn og_w2 og_c1y (by omega)), (tgn og_w2 og_c2y (by omega)), (tgn og_w2 og_e1 (by decide)), (tgn og_w2 og_e2 (by decide)), (tgn og_w2 og_bc (by decide)), (tgn og_c1y og_c2y (by omega)), (tgn og_c1y og_e1 (by omega)), (tgn og_c1y og_e2 (by omega)), (tgn og_c1y og_bc (by omega)), (tgn og_c2y og_e1 (by omega)), (tgn og_c2y og_e2 (by omega)), (tgn og_c2y og_bc (by omega)), (tgn og_e1 og_e2 (by decide)), (tgn og_e1 og_bc (by decide)), (tgn og_e2 og_bc (by decide))⟩ hcxy.1 hsy hvy ⟨hcxy.2.1, hcxy.2.2.1⟩ hcxy.2.2.2) hla_1 ⟨(Nat.le_of_ble_eq_true rfl), (Nat.le_of_ble_eq_true rfl)⟩ ⟨(Nat.le_of_ble_eq_true rfl), (Nat.le_of_ble_eq_true rfl)⟩ rfl rfl (Nat.le_of_ble_eq_true rfl) dX11_same_46 ?_
      rintro f2 ⟨s_2, v_2, s__2, v__2, g_2, h_2, g__2, h__2, b_2, hwk_2, hw1_2, hw2_2, hbc_2, hdt_2, he1_2, he2_2, hs_2, hv_2, hF_2, hsT_2, hvT_2, hLT_2, hr2⟩
      have hxo_2 : f2 xo = some (.inr (11, [.ref ch, .ref tp, .ref ou, .ref fm, .ref dr, .ref dt_, .ref rd, .ref te, .ref la, .ref lg, .ref co, .ref wo, .int fcn])) := hr2 _ _ hxo_1 (by simp only [List.mem_cons, List.not_mem_nil, or_false, not_or]; exact ⟨(tgn og_xo og_wk (by decide)), (tgn og_xo og_w1 (by decide)), (tgn og_xo og_w2 (by decide)), (tgn og_xo og_bc (by decide)), (tgn og_xo og_dt_ (by decide)), (tgn og_xo og_e1 (by decide)), (tgn og_xo og_e2 (by decide))⟩)
      have hfm_2 : f2 fm = some (.inl (cy 4, 20, .inr (.inr (.inr (.inr (fmg)))))) := hr2 _ _ hfm_1 (by simp only [List.mem_cons, List.not_mem_nil, or_false, not_or]; exact ⟨(tgn og_fm og_wk (by decide)), (tgn og_fm og_w1 (by decide)), (tgn og_fm og_w2 (by decide)), (tgn og_fm og_bc (by decide)), (tgn og_fm og_dt_ (by decide)), (tgn og_fm og_e1 (by decide)), (tgn og_fm og_e2 (by decide))⟩)
      have hla_2 : f2 la = some (.inr (3, [.ref wk, .ref bc])) := hr2 _ _ hla_1 (by simp only [List.mem_cons, List.not_mem_nil, or_false, not_or]; exact ⟨(tgn og_la og_wk (by decide)), (tgn og_la og_w1 (by decide)), (tgn og_la og_w2 (by decide)), (tgn og_la og_bc (by decide)), (tgn og_la og_dt_ (by decide)), (tgn og_la og_e1 (by decide)), (tgn og_la og_e2 (by decide))⟩)
      have hp_2 : f2 p = some (.inr (2, [.ref c1, .ref c2, .int s, .int v])) := hr2 _ _ hp_1 (by simp only [List.mem_cons, List.not_mem_nil, or_false, not_or]; exact ⟨(tgn og_p og_wk (by omega)), (tgn og_p og_w1 (by omega)), (tgn og_p og_w2 (by omega)), (tgn og_p og_bc (by omega)), (tgn og_p og_dt_ (by omega)), (tgn og_p og_e1 (by omega)), (tgn og_p og_e2 (by omega))⟩)
      have hc1_2 : f2 c1 = some (.inl (cy 0, n1, .inl (g))) := hr2 _ _ hc1_1 (by simp only [List.mem_cons, List.not_mem_nil, or_false, not_or]; exact ⟨(tgn og_c1 og_wk (by omega)), (tgn og_c1 og_w1 (by omega)), (tgn og_c1 og_w2 (by omega)), (tgn og_c1 og_bc (by omega)), (tgn og_c1 og_dt_ (by omega)), (tgn og_c1 og_e1 (by omega)), (tgn og_c1 og_e2 (by omega))⟩)
      have hc2_2 : f2 c2 = some (.inl (cy 0, n2, .inl (h))) := hr2 _ _ hc2_1 (by simp only [List.mem_cons, List.not_mem_nil, or_false, not_or]; exact ⟨(tgn og_c2 og_wk (by omega)), (tgn og_c2 og_w1 (by omega)), (tgn og_c2 og_w2 (by omega)), (tgn og_c2 og_bc (by omega)), (tgn og_c2 og_dt_ (by omega)), (tgn og_c2 og_e1 (by omega)), (tgn og_c2 og_e2 (by omega))⟩)
      have hpy_2 : f2 py = some (.inr (2, [.ref c1y, .ref c2y, .int sy, .int vy])) := hr2 _ _ hpy_1 (by simp only [List.mem_cons, List.not_mem_nil, or_false, not_or]; exact ⟨(tgn og_py og_wk (by omega)), (tgn og_py og_w1 (by omega)), (tgn og_py og_w2 (by omega)), (tgn og_py og_bc (by omega)), (tgn og_py og_dt_ (by omega)), (tgn og_py og_e1 (by omega)), (tgn og_py og_e2 (by omega))⟩)
      have hc1y_2 : f2 c1y = some (.inl (cy 0, n1y, .inl (gy))) := hr2 _ _ hc1y_1 (by simp only [List.mem_cons, List.not_mem_nil, or_false, not_or]; exact ⟨(tgn og_c1y og_wk (by omega)), (tgn og_c1y og_w1 (by omega)), (tgn og_c1y og_w2 (by omega)), (tgn og_c1y og_bc (by omega)), (tgn og_c1y og_dt_ (by omega)), (tgn og_c1y og_e1 (by omega)), (tgn og_c1y og_e2 (by omega))⟩)
      have hc2y_2 : f2 c2y = some (.inl (cy 0, n2y, .inl (hy))) := hr2 _ _ hc2y_1 (by simp only [List.mem_cons, List.not_mem_nil, or_false, not_or]; exact ⟨(tgn og_c2y og_wk (by omega)), (tgn og_c2y og_w1 (by omega)), (tgn og_c2y og_w2 (by omega)), (tgn og_c2y og_bc (by omega)), (tgn og_c2y og_dt_ (by omega)), (tgn og_c2y og_e1 (by omega)), (tgn og_c2y og_e2 (by omega))⟩)
      have hdr_2 : f2 dr = some (.inr (2, [.ref d1, .ref d2, .int s__1, .int v__1])) := hr2 _ _ hdr_1 (by simp only [List.mem_cons, List.not_mem_nil, or_false, not_or]; exact ⟨(tgn og_dr og_wk (by decide)), (tgn og_dr og_w1 (by decide)), (tgn og_dr og_w2 (by decide)), (tgn og_dr og_bc (by decide)), (tgn og_dr og_dt_ (by decide)), (tgn og_dr og_e1 (by decide)), (tgn og_dr og_e2 (by decide))⟩)
      have hd1_2 : f2 d1 = some (.inl (cy 0, 520, .inl (g__1))) := hr2 _ _ hd1_1 (by simp only [List.mem_cons, List.not_mem_nil, or_false, not_or]; exact ⟨(tgn og_d1 og_wk (by decide)), (tgn og_d1 og_w1 (by decide)), (tgn og_d1 og_w2 (by decide)), (tgn og_d1 og_bc (by decide)), (tgn og_d1 og_dt_ (by decide)), (tgn og_d1 og_e1 (by decide)), (tgn og_d1 og_e2 (by decide))⟩)
      have hd2_2 : f2 d2 = some (.inl (cy 0, 80, .inl (h__1))) := hr2 _ _ hd2_1 (by simp only [List.mem_cons, List.not_mem_nil, or_false, not_or]; exact ⟨(tgn og_d2 og_wk (by decide)), (tgn og_d2 og_w1 (by decide)), (tgn og_d2 og_w2 (by decide)), (tgn og_d2 og_bc (by decide)), (tgn og_d2 og_dt_ (by decide)), (tgn og_d2 og_e1 (by decide)), (tgn og_d2 og_e2 (by decide))⟩)
      refine gz_aload_n dX11_same_49 rfl rfl ?_
      refine sgX11_65 hxo_2 rfl dX11_same_50 ?_
      refine gz_aload_n dX11_same_53 rfl rfl ?_
      refine sgX11_37 hxo_2 rfl dX11_same_54 ?_
      refine gz_aload_n dX11_same_57 rfl rfl ?_
      refine sgX11_41 hxo_2 rfl dX11_same_58 ?_
      have hTdr : hcT (shT (Tf (Int32.toNatClampNeg x))) s__1 v__1 g__1 h__1 := by
        obtain ⟨-, k1, k2, k3, k4, k5⟩ := shT_ok hcx.1.1 hcx.1.2.2.1 hcx.1.2.1
        have kb := hcx.1.2.2.2
        exact ⟨⟨k1, k2, k5, by omega, by omega⟩, hsT_1, hvT_1, hLT_1⟩
      have hTdt_ : hcT (shT (Tf (Int32.toNatClampNeg y))) s__2 v__2 g__2 h__2 := by
        obtain ⟨-, k1, k2, k3, k4, k5⟩ := shT_ok hcxy.1.1 hcxy.1.2.2.1 hcxy.1.2.1
        have kb := hcxy.1.2.2.2
        exact ⟨⟨k1, k2, k5, by omega, by omega⟩, hsT_2, hvT_2, hLT_2⟩
      refine scX11_138 (k_X3_sameEitherWayE (la := la) hdr_2 hd1_2 hd2_2 hdt_2 he1_2 he2_2 hs_1 hv_1 hs_2 hv_2 hTdr hTdt_) hla_2 ⟨(Nat.le_of_ble_eq_true rfl), (Nat.le_of_ble_eq_true rfl)⟩ ⟨(Nat.le_of_ble_eq_true rfl), (Nat.le_of_ble_eq_true rfl)⟩ rfl rfl (Nat.le_of_ble_eq_true rfl) dX11_same_61 ?_
      rintro r_s f9 ⟨hbs, y9⟩; rw [y9]
      refine gz_if_eq (tgt := 71) dX11_same_64 (by decide) (fun c_64 => ?_) (fun c_64 => ?_)
      ·
        refine gz_iconst (v := 0) dX11_same_71 (by decide) ?_
        have hK : kp own own (fun k => k = 8002 ∨ k = 8003 ∨ k = 8004 ∨ k = 8001 ∨ k = 6000 ∨ k = 6001 ∨ k = 6002 ∨ k = 7000 ∨ k = 7001 ∨ k = 7002) f f2 := by
          refine kp_fr (S := [wk, w1, w2, bc, dr, d1, d2, dt_, e1, e2]) ((fr_tr (fr_tr fr_rf (fr_mo hr1 (by simp))) (fr_mo hr2 (by simp)))) (fun _ _ _ => rfl) ?_
          intro x0 hx0
          simp only [List.mem_cons, List.not_mem_nil, or_false] at hx0
          rcases hx0 with e0 | e0 | e0 | e0 | e0 | e0 | e0 | e0 | e0 | e0
          · rw [e0]; show (own wk) = 8002 ∨ (own wk) = 8003 ∨ (own wk) = 8004 ∨ (own wk) = 8001 ∨ (own wk) = 6000 ∨ (own wk) = 6001 ∨ (own wk) = 6002 ∨ (own wk) = 7000 ∨ (own wk) = 7001 ∨ (own wk) = 7002; rw [og_wk]; decide
          · rw [e0]; show (own w1) = 8002 ∨ (own w1) = 8003 ∨ (own w1) = 8004 ∨ (own w1) = 8001 ∨ (own w1) = 6000 ∨ (own w1) = 6001 ∨ (own w1) = 6002 ∨ (own w1) = 7000 ∨ (own w1) = 7001 ∨ (own w1) = 7002; rw [og_w1]; decide
          · rw [e0]; show (own w2) = 8002 ∨ (own w2) = 8003 ∨ (own w2) = 8004 ∨ (own w2) = 8001 ∨ (own w2) = 6000 ∨ (own w2) = 6001 ∨ (own w2) = 6002 ∨ (own w2) = 7000 ∨ (own w2) = 7001 ∨ (own w2) = 7002; rw [og_w2]; decide
          · rw [e0]; show (own bc) = 8002 ∨ (own bc) = 8003 ∨ (own bc) = 8004 ∨ (own bc) = 8001 ∨ (own bc) = 6000 ∨ (own bc) = 6001 ∨ (own bc) = 6002 ∨ (own bc) = 7000 ∨ (own bc) = 7001 ∨ (own bc) = 7002; rw [og_bc]; decide
          · rw [e0]; show (own dr) = 8002 ∨ (own dr) = 8003 ∨ (own dr) = 8004 ∨ (own dr) = 8001 ∨ (own dr) = 6000 ∨ (own dr) = 6001 ∨ (own dr) = 6002 ∨ (own dr) = 7000 ∨ (own dr) = 7001 ∨ (own dr) = 7002; rw [og_dr]; decide
          · rw [e0]; show (own d1) = 8002 ∨ (own d1) = 8003 ∨ (own d1) = 8004 ∨ (own d1) = 8001 ∨ (own d1) = 6000 ∨ (own d1) = 6001 ∨ (own d1) = 6002 ∨ (own d1) = 7000 ∨ (own d1) = 7001 ∨ (own d1) = 7002; rw [og_d1]; decide
          · rw [e0]; show (own d2) = 8002 ∨ (own d2) = 8003 ∨ (own d2) = 8004 ∨ (own d2) = 8001 ∨ (own d2) = 6000 ∨ (own d2) = 6001 ∨ (own d2) = 6002 ∨ (own d2) = 7000 ∨ (own d2) = 7001 ∨ (own d2) = 7002; rw [og_d2]; decide
          · rw [e0]; show (own dt_) = 8002 ∨ (own dt_) = 8003 ∨ (own dt_) = 8004 ∨ (own dt_) = 8001 ∨ (own dt_) = 6000 ∨ (own dt_) = 6001 ∨ (own dt_) = 6002 ∨ (own dt_) = 7000 ∨ (own dt_) = 7001 ∨ (own dt_) = 7002; rw [og_dt_]; decide
          · rw [e0]; show (own e1) = 8002 ∨ (own e1) = 8003 ∨ (own e1) = 8004 ∨ (own e1) = 8001 ∨ (own e1) = 6000 ∨ (own e1) = 6001 ∨ (own e1) = 6002 ∨ (own e1) = 7000 ∨ (own e1) = 7001 ∨ (own e1) = 7002; rw [og_e1]; decide
          · rw [e0]; show (own e2) = 8002 ∨ (own e2) = 8003 ∨ (own e2) = 8004 ∨ (own e2) = 8001 ∨ (own e2) = 6000 ∨ (own e2) = 6001 ∨ (own e2) = 6002 ∨ (own e2) = 7000 ∨ (own e2) = 7001 ∨ (own e2) = 7002; rw [og_e2]; decide
        exact gz_iret rfl dX11_same_72 (Nat.le_of_ble_eq_true rfl) (Nat.le_of_ble_eq_true rfl) (⟨_, rfl, ⟨(fun _ => by first | (exact Or.inl ⟨rfl, (hbs.resolve_right (fun q => absurd q.1 (fun e => by rw [e] at c_64; exact absurd c_64 (by decide)))).2⟩) | (exact Or.inr ⟨rfl, (hbs.resolve_left (fun q => absurd q.1 (fun e => by rw [e] at c_64; exact absurd c_64 (by decide)))).2⟩)), fun z => absurd ⟨formF_lt hA2, formF_lt hA6⟩ z⟩, ⟨_, _, _, _, _, _, _, _, _, _, _, _, _, _, _, (cXo_kp HcXo hK nt_8000), (kCh_kp HcCh hK nt_8001), (kTp_kp HcTp hK nt_8002), (kOu_kp HcOu hK nt_8003), (cFa_kp HcFa hK nt_8004), (cFm_kp HcFm hK nt_8005), ⟨_, _, _, _, _, _, ⟨⟨og_dr, og_d1, og_d2⟩, hdr_2, hd1_2, hd2_2⟩⟩, ⟨_, _, _, _, _, _, ⟨⟨og_dt_, og_e1, og_e2⟩, hdt_2, he1_2, he2_2⟩⟩, (kRt_kp HcRt hK nt_8006), ⟨_, _, _, _, _, _, _, _, _, ⟨⟨og_la, og_bc, og_wk, og_w1, og_w2⟩, (hK.2 _ _ hla (by show ¬ ((own la) = 8002 ∨ (own la) = 8003 ∨ (own la) = 8004 ∨ (own la) = 8001 ∨ (own la) = 6000 ∨ (own la) = 6001 ∨ (own la) = 6002 ∨ (own la) = 7000 ∨ (own la) = 7001 ∨ (own la) = 7002); rw [og_la]; exact nt_8007 _ ⟨Nat.le_refl _, Nat.lt_succ_self _⟩)), hbc_2, hwk_2, hw1_2, hw2_2⟩⟩, (kLg_kp HcLg hK nt_8008), (kCo_kp HcCo hK nt_8009), (cLv_kp HcLv hK nt_8010), (kWo_kp HcWo hK nt_8011 nt_8012), HcFn⟩, (kp_0 hK (nt_8013 0 ⟨Nat.le_refl _, Nat.lt_succ_self _⟩))⟩)
      ·
        refine gz_iconst (v := 1) dX11_same_67 (by decide) ?_
        refine gz_goto (tgt := 72) dX11_same_68 (by decide) ?_
        have hK : kp own own (fun k => k = 8002 ∨ k = 8003 ∨ k = 8004 ∨ k = 8001 ∨ k = 6000 ∨ k = 6001 ∨ k = 6002 ∨ k = 7000 ∨ k = 7001 ∨ k = 7002) f f2 := by
          refine kp_fr (S := [wk, w1, w2, bc, dr, d1, d2, dt_, e1, e2]) ((fr_tr (fr_tr fr_rf (fr_mo hr1 (by simp))) (fr_mo hr2 (by simp)))) (fun _ _ _ => rfl) ?_
          intro x0 hx0
          simp only [List.mem_cons, List.not_mem_nil, or_false] at hx0
          rcases hx0 with e0 | e0 | e0 | e0 | e0 | e0 | e0 | e0 | e0 | e0
          · rw [e0]; show (own wk) = 8002 ∨ (own wk) = 8003 ∨ (own wk) = 8004 ∨ (own wk) = 8001 ∨ (own wk) = 6000 ∨ (own wk) = 6001 ∨ (own wk) = 6002 ∨ (own wk) = 7000 ∨ (own wk) = 7001 ∨ (own wk) = 7002; rw [og_wk]; decide
          · rw [e0]; show (own w1) = 8002 ∨ (own w1) = 8003 ∨ (own w1) = 8004 ∨ (own w1) = 8001 ∨ (own w1) = 6000 ∨ (own w1) = 6001 ∨ (own w1) = 6002 ∨ (own w1) = 7000 ∨ (own w1) = 7001 ∨ (own w1) = 7002; rw [og_w1]; decide
          · rw [e0]; show (own w2) = 8002 ∨ (own w2) = 8003 ∨ (own w2) = 8004 ∨ (own w2) = 8001 ∨ (own w2) = 6000 ∨ (own w2) = 6001 ∨ (own w2) = 6002 ∨ (own w2) = 7000 ∨ (own w2) = 7001 ∨ (own w2) = 7002; rw [og_w2]; decide
          · rw [e0]; show (own bc) = 8002 ∨ (own bc) = 8003 ∨ (own bc) = 8004 ∨ (own bc) = 8001 ∨ (own bc) = 6000 ∨ (own bc) = 6001 ∨ (own bc) = 6002 ∨ (own bc) = 7000 ∨ (own bc) = 7001 ∨ (own bc) = 7002; rw [og_bc]; decide
          · rw [e0]; show (own dr) = 8002 ∨ (own dr) = 8003 ∨ (own dr) = 8004 ∨ (own dr) = 8001 ∨ (own dr) = 6000 ∨ (own dr) = 6001 ∨ (own dr) = 6002 ∨ (own dr) = 7000 ∨ (own dr) = 7001 ∨ (own dr) = 7002; rw [og_dr]; decide
          · rw [e0]; show (own d1) = 8002 ∨ (own d1) = 8003 ∨ (own d1) = 8004 ∨ (own d1) = 8001 ∨ (own d1) = 6000 ∨ (own d1) = 6001 ∨ (own d1) = 6002 ∨ (own d1) = 7000 ∨ (own d1) = 7001 ∨ (own d1) = 7002; rw [og_d1]; decide
          · rw [e0]; show (own d2) = 8002 ∨ (own d2) = 8003 ∨ (own d2) = 8004 ∨ (own d2) = 8001 ∨ (own d2) = 6000 ∨ (own d2) = 6001 ∨ (own d2) = 6002 ∨ (own d2) = 7000 ∨ (own d2) = 7001 ∨ (own d2) = 7002; rw [og_d2]; decide
          · rw [e0]; show (own dt_) = 8002 ∨ (own dt_) = 8003 ∨ (own dt_) = 8004 ∨ (own dt_) = 8001 ∨ (own dt_) = 6000 ∨ (own dt_) = 6001 ∨ (own dt_) = 6002 ∨ (own dt_) = 7000 ∨ (own dt_) = 7001 ∨ (own dt_) = 7002; rw [og_dt_]; decide
          · rw [e0]; show (own e1) = 8002 ∨ (own e1) = 8003 ∨ (own e1) = 8004 ∨ (own e1) = 8001 ∨ (own e1) = 6000 ∨ (own e1) = 6001 ∨ (own e1) = 6002 ∨ (own e1) = 7000 ∨ (own e1) = 7001 ∨ (own e1) = 7002; rw [og_e1]; decide
          · rw [e0]; show (own e2) = 8002 ∨ (own e2) = 8003 ∨ (own e2) = 8004 ∨ (own e2) = 8001 ∨ (own e2) = 6000 ∨ (own e2) = 6001 ∨ (own e2) = 6002 ∨ (own e2) = 7000 ∨ (own e2) = 7001 ∨ (own e2) = 7002; rw [og_e2]; decide
        exact gz_iret rfl dX11_same_72 (Nat.le_of_ble_eq_true rfl) (Nat.le_of_ble_eq_true rfl) (⟨_, rfl, ⟨(fun _ => by first | (exact Or.inl ⟨rfl, (hbs.resolve_right (fun q => absurd q.1 (fun e => by rw [e] at c_64; exact absurd c_64 (by decide)))).2⟩) | (exact Or.inr ⟨rfl, (hbs.resolve_left (fun q => absurd q.1 (fun e => by rw [e] at c_64; exact absurd c_64 (by decide)))).2⟩)), fun z => absurd ⟨formF_lt hA2, formF_lt hA6⟩ z⟩, ⟨_, _, _, _, _, _, _, _, _, _, _, _, _, _, _, (cXo_kp HcXo hK nt_8000), (kCh_kp HcCh hK nt_8001), (kTp_kp HcTp hK nt_8002), (kOu_kp HcOu hK nt_8003), (cFa_kp HcFa hK nt_8004), (cFm_kp HcFm hK nt_8005), ⟨_, _, _, _, _, _, ⟨⟨og_dr, og_d1, og_d2⟩, hdr_2, hd1_2, hd2_2⟩⟩, ⟨_, _, _, _, _, _, ⟨⟨og_dt_, og_e1, og_e2⟩, hdt_2, he1_2, he2_2⟩⟩, (kRt_kp HcRt hK nt_8006), ⟨_, _, _, _, _, _, _, _, _, ⟨⟨og_la, og_bc, og_wk, og_w1, og_w2⟩, (hK.2 _ _ hla (by show ¬ ((own la) = 8002 ∨ (own la) = 8003 ∨ (own la) = 8004 ∨ (own la) = 8001 ∨ (own la) = 6000 ∨ (own la) = 6001 ∨ (own la) = 6002 ∨ (own la) = 7000 ∨ (own la) = 7001 ∨ (own la) = 7002); rw [og_la]; exact nt_8007 _ ⟨Nat.le_refl _, Nat.lt_succ_self _⟩)), hbc_2, hwk_2, hw1_2, hw2_2⟩⟩, (kLg_kp HcLg hK nt_8008), (kCo_kp HcCo hK nt_8009), (cLv_kp HcLv hK nt_8010), (kWo_kp HcWo hK nt_8011 nt_8012), HcFn⟩, (kp_0 hK (nt_8013 0 ⟨Nat.le_refl _, Nat.lt_succ_self _⟩))⟩)
