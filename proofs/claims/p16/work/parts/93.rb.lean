/-! what the FORMS hold -/
def coF (fcn : Int32) (CN : (Nat → Int32 → Int32 → (Nat → Int32) → (Nat → Int32) → Prop)) (F : Nat → Nat → Int32) : Prop := ∃ Tf : Nat → List Hd, (∀ (k : Nat) (s v : Int32) (g h : Nat → Int32), (k : Int) < fcn.toInt → CN k s v g h → hcT (Tf k) s v g h) ∧ ∀ k : Nat, (k : Int) < fcn.toInt → LX F k (Tf k)
theorem coF_cg {fcn : Int32} {CN : (Nat → Int32 → Int32 → (Nat → Int32) → (Nat → Int32) → Prop)} {F F2 : Nat → Nat → Int32} (h : ∀ r, 6 ≤ r → r ≤ 20 → F2 r = F r) (q : coF fcn CN F) : coF fcn CN F2 := by
  obtain ⟨Tf, k1, k2⟩ := q
  exact ⟨Tf, k1, fun k hk => LX_cg h (k2 k hk)⟩
theorem form_co {N n5 fcn fcn9 : Int32} {g h : Nat → Int32} {CN CN9 : (Nat → Int32 → Int32 → (Nat → Int32) → (Nat → Int32) → Prop)} {n8 : Nat → Int32} {F F8 : Nat → Nat → Int32} (hfc : fcn = n5) (h5 : 0 ≤ n5.toInt ∧ n5.toInt ≤ 20) (ht : tpE g h N.toInt) (hco : coF fcn CN F)
    (hf9 : fcn9.toInt = (if 20 ≤ fcn.toInt then fcn.toInt else if foR (tX g N) = 0 then fcn.toInt + 1 else fcn.toInt))
    (hc9 : CN9 = (if 20 ≤ fcn.toInt ∨ foR (tX g N) ≠ 0 then CN else cnU CN (Int32.toNatClampNeg fcn) (hcT (deL (tX g N) 13 0 0 0 0))))
    (l3 : lo3 F F8 n5.toInt.toNat) (l8 : ∀ i, i < 40 * n5.toInt.toNat → F8 8 i = F 8 i ∧ F8 16 i = F 16 i) (lg : ∀ q : Nat, (q : Int) < n5.toInt → agF F F8 q)
    (hn : ¬ n5.toInt = 20 → foR (tX h N) = 0 → ∃ q W V, deR (tX h N) 13 0 0 0 0 = .inr (q, W, V) ∧ (F8 6 n5.toInt.toNat).toInt = (W : Int) ∧ LR F8 n5.toInt.toNat (deC (tX h N) 13 0 0 0 0 (fun _ _ => -1) (-1) false) W V ∧ (F8 17 n5.toInt.toNat).toInt = (V : Int) ∧ vsF F8 n5.toInt.toNat 0 W ≤ V)
    (hW : rW F8 (n8 5).toInt) (hf8 : (n8 5).toInt = (if n5.toInt = 20 then 20 else if foR (tX h N) = 0 then n5.toInt + 1 else n5.toInt)) : coF fcn9 CN9 F8 := by
  subst hfc
  obtain ⟨Tf, k1, k2⟩ := hco
  rw [tpE_tX ht] at hf9 hc9
  have old : ∀ q : Nat, (q : Int) < fcn.toInt → LX F8 q (Tf q) := fun q hq => LX_lo2 (f := fcn.toInt.toNat) (by omega) (lg q hq) l8 l3 (k2 q hq)
  by_cases e : fcn.toInt = 20
  · rw [if_pos (by omega)] at hf9
    rw [if_pos (Or.inl (by omega))] at hc9
    subst hc9
    exact ⟨Tf, fun q s v a b hq => k1 q s v a b (by omega), fun q hq => old q (by omega)⟩
  · by_cases f0 : foR (tX h N) = 0
    · rw [if_neg (by omega), if_pos f0] at hf9
      rw [if_neg (fun z => z.elim (fun y => by omega) (fun y => y f0)), show Int32.toNatClampNeg fcn = fcn.toInt.toNat from rfl] at hc9
      obtain ⟨q9, W, V, hd, h6, hL, h17, hv⟩ := hn e f0
      obtain ⟨d1, d2, d3, d4, d5, d6⟩ := deL_ok 13 0 0 0 0 q9 W V (by omega) hd
      rw [Nat.zero_add] at d2 d3
      subst d2 d3
      rw [d6] at hL
      rw [if_neg e, if_pos f0] at hf8
      have fo : fOK F8 fcn.toInt.toNat := hW _ (by omega)
      have hnw : LX F8 fcn.toInt.toNat (deL (tX h N) 13 0 0 0 0) := LX_mk ⟨d1, d5, d4⟩ fo h6 hL hv
      refine ⟨fun q => if q = fcn.toInt.toNat then deL (tX h N) 13 0 0 0 0 else Tf q, fun q s v a b hq hc => ?_, fun q hq => ?_⟩
      · show hcT (if q = fcn.toInt.toNat then deL (tX h N) 13 0 0 0 0 else Tf q) s v a b
        rw [hc9] at hc
        unfold cnU at hc
        by_cases z : q = fcn.toInt.toNat
        · rw [if_pos z] at hc ⊢
          exact hc
        · rw [if_neg z] at hc ⊢
          exact k1 q s v a b (by omega) hc
      · show LX F8 q (if q = fcn.toInt.toNat then deL (tX h N) 13 0 0 0 0 else Tf q)
        by_cases z : q = fcn.toInt.toNat
        · rw [if_pos z, z]
          exact hnw
        · rw [if_neg z]
          exact old q (by omega)
    · rw [if_neg (by omega), if_neg f0] at hf9
      rw [if_pos (Or.inr f0)] at hc9
      subst hc9
      exact ⟨Tf, fun q s v a b hq => k1 q s v a b (by omega), fun q hq => old q (by omega)⟩
theorem shorter_co {n5 fcn fcn9 x : Int32} {CN CN9 : (Nat → Int32 → Int32 → (Nat → Int32) → (Nat → Int32) → Prop)} {F8 : Nat → Nat → Int32} {Tf : Nat → List Hd} (hfc : fcn = n5) (k1 : ∀ (k : Nat) (s v : Int32) (g h : Nat → Int32), (k : Int) < fcn.toInt → CN k s v g h → hcT (Tf k) s v g h)
    (hf9 : fcn9.toInt = (if (0 ≤ x.toInt ∧ x.toInt < fcn.toInt) ∧ fcn.toInt < 20 then fcn.toInt + 1 else fcn.toInt)) (hc9 : CN9 = (if (0 ≤ x.toInt ∧ x.toInt < fcn.toInt) ∧ fcn.toInt < 20 then cnU CN (Int32.toNatClampNeg fcn) (hcT (shT (Tf (Int32.toNatClampNeg x)))) else CN))
    (ho : ∀ k : Nat, (k : Int) < n5.toInt → LX F8 k (Tf k)) (hn : (0 ≤ x.toInt ∧ x.toInt < n5.toInt) ∧ n5.toInt < 20 → LX F8 n5.toInt.toNat (shT (Tf (Int32.toNatClampNeg x)))) : coF fcn9 CN9 F8 := by
  subst hfc
  by_cases e : (0 ≤ x.toInt ∧ x.toInt < fcn.toInt) ∧ fcn.toInt < 20
  · rw [if_pos e] at hf9
    rw [if_pos e, show Int32.toNatClampNeg fcn = fcn.toInt.toNat from rfl] at hc9
    refine ⟨fun q => if q = fcn.toInt.toNat then shT (Tf (Int32.toNatClampNeg x)) else Tf q, fun q s v a b hq hc => ?_, fun q hq => ?_⟩
    · show hcT (if q = fcn.toInt.toNat then shT (Tf (Int32.toNatClampNeg x)) else Tf q) s v a b
      rw [hc9] at hc
      unfold cnU at hc
      by_cases z : q = fcn.toInt.toNat
      · rw [if_pos z] at hc ⊢
        exact hc
      · rw [if_neg z] at hc ⊢
        exact k1 q s v a b (by omega) hc
    · show LX F8 q (if q = fcn.toInt.toNat then shT (Tf (Int32.toNatClampNeg x)) else Tf q)
      by_cases z : q = fcn.toInt.toNat
      · rw [if_pos z, z]
        exact hn e
      · rw [if_neg z]
        exact ho q (by omega)
  · rw [if_neg e] at hf9 hc9
    subst hc9
    exact ⟨Tf, fun q s v a b hq => k1 q s v a b (by omega), fun q hq => ho q (by omega)⟩
theorem wrd_c {n1 : Nat} {s v y u : Int32} {g h : Nat → Int32} {T : List Hd} (hs : 0 ≤ s.toInt ∧ 13 * s.toInt ≤ n1 ∧ n1 ≤ 520) (hc : hcT T s v g h) : (0 ≤ y.toInt ∧ y.toInt < s.toInt → (u.toInt = 0 → (xwrdF n1 g s y u).toInt = tcC T 0 y.toInt.toNat) ∧ (u.toInt = 1 → (xwrdF n1 g s y u).toInt = tcC T 1 y.toInt.toNat) ∧ (u.toInt = 2 → (xwrdF n1 g s y u).toInt = tcC T 2 y.toInt.toNat)) ∧ (¬ ((0 ≤ y.toInt ∧ y.toInt < s.toInt) ∧ 0 ≤ u.toInt ∧ u.toInt ≤ 2) → xwrdF n1 g s y u = -1) := by
  have e0 : (0 : Int32).toInt = 0 := rfl
  have e2 : (2 : Int32).toInt = 2 := rfl
  obtain ⟨hT, h1, h2, hL⟩ := hc
  have hF : ∀ (k : Int32) (c : Nat), k.toInt = c → c ≤ 7 → 0 ≤ y.toInt ∧ y.toInt < s.toInt → (fldF n1 g s y k).toInt = tcC T c y.toInt.toNat := fun k c hk hc7 z => by
    rw [fldG hs (show y.toInt = ((y.toInt.toNat : Nat) : Int) by omega) (by omega) hk (by omega)]
    exact (hL.1 _ (by omega)).1 c hc7
  have hN : ¬ (0 ≤ y.toInt ∧ y.toInt < s.toInt) → ∀ k : Int32, fldF n1 g s y k = -1 := fun z k => by
    unfold fldF
    by_cases c1 : y < 0
    · rw [if_pos c1]
    · rw [if_neg c1, if_pos (by rw [fl_le]; rw [fl_lt, e0] at c1; omega)]
  unfold xwrdF
  refine ⟨fun z => ⟨fun e => ?_, fun e => ?_, fun e => ?_⟩, fun z => ?_⟩
  · have eu : u = 0 := Int32.toInt_inj.mp (by rw [e]; rfl)
    subst eu
    rw [if_neg (by decide), if_pos (by decide), if_pos rfl]
    exact hF 0 0 rfl (by decide) z
  · have eu : u = 1 := Int32.toInt_inj.mp (by rw [e]; rfl)
    subst eu
    rw [if_neg (by decide), if_pos (by decide), if_neg (by decide), if_pos rfl]
    exact hF 1 1 rfl (by decide) z
  · have eu : u = 2 := Int32.toInt_inj.mp (by rw [e]; rfl)
    subst eu
    rw [if_neg (by decide), if_pos (by decide), if_neg (by decide), if_neg (by decide)]
    exact hF 2 2 rfl (by decide) z
  · by_cases c1 : u < 0
    · rw [if_pos c1]
    · by_cases c2 : u ≤ 2
      · have ny : ¬ (0 ≤ y.toInt ∧ y.toInt < s.toInt) := by
          rw [fl_lt, e0] at c1
          rw [fl_le, e2] at c2
          omega
        rw [if_neg c1, if_pos c2, hN ny 0, hN ny 1, hN ny 2]
        split
        · rfl
        · split <;> rfl
      · rw [if_neg c1, if_neg c2]
theorem words_cp {fcn n5 x r9 r8 : Int32} {CN : (Nat → Int32 → Int32 → (Nat → Int32) → (Nat → Int32) → Prop)} {F : Nat → Nat → Int32} (hfc : fcn = n5) (hco : coF fcn CN F) (h9 : (0 ≤ x.toInt ∧ x.toInt < fcn.toInt → ∃ (s v : Int32) (g h : Nat → Int32), CN (Int32.toNatClampNeg x) s v g h ∧ r9 = s) ∧ (¬ (0 ≤ x.toInt ∧ x.toInt < fcn.toInt) → r9 = -1))
    (h8 : r8 = (if 0 ≤ x.toInt ∧ x.toInt < n5.toInt then F 6 (Int32.toNatClampNeg x) else -1)) : r8 = r9 := by
  subst hfc
  obtain ⟨Tf, k1, k2⟩ := hco
  by_cases c : 0 ≤ x.toInt ∧ x.toInt < fcn.toInt
  · obtain ⟨s, v, g, h, hc, e9⟩ := h9.1 c
    have ex : Int32.toNatClampNeg x = x.toInt.toNat := rfl
    have hk : ((Int32.toNatClampNeg x : Nat) : Int) < fcn.toInt := by rw [ex]; omega
    have hT := k1 _ s v g h hk hc
    have hX := k2 _ hk
    rw [h8, if_pos c, e9]
    exact Int32.toInt_inj.mp (hX.2.1.trans hT.2.1.symm)
  · rw [h8, if_neg c, h9.2 c]
theorem word_cp {fcn n5 x y u r9 r8 : Int32} {CN : (Nat → Int32 → Int32 → (Nat → Int32) → (Nat → Int32) → Prop)} {F : Nat → Nat → Int32} (hfc : fcn = n5) (hco : coF fcn CN F) (h9 : (0 ≤ x.toInt ∧ x.toInt < fcn.toInt → ∃ (n1 : Nat) (s v : Int32) (g h : Nat → Int32), (0 ≤ s.toInt ∧ 13 * s.toInt ≤ n1 ∧ n1 ≤ 520) ∧ CN (Int32.toNatClampNeg x) s v g h ∧ r9 = xwrdF n1 g s y u) ∧ (¬ (0 ≤ x.toInt ∧ x.toInt < fcn.toInt) → r9 = -1))
    (h8 : ((0 ≤ x.toInt ∧ x.toInt < n5.toInt) ∧ (0 ≤ y.toInt ∧ y.toInt < (F 6 (Int32.toNatClampNeg x)).toInt) → (u.toInt = 0 → r8 = F 7 (40 * x.toInt.toNat + y.toInt.toNat)) ∧ (u.toInt = 1 → r8 = F 9 (40 * x.toInt.toNat + y.toInt.toNat)) ∧ (u.toInt = 2 → r8 = F 8 (40 * x.toInt.toNat + y.toInt.toNat))) ∧ (¬ ((0 ≤ x.toInt ∧ x.toInt < n5.toInt) ∧ (0 ≤ y.toInt ∧ y.toInt < (F 6 (Int32.toNatClampNeg x)).toInt) ∧ 0 ≤ u.toInt ∧ u.toInt ≤ 2) → r8 = -1)) : r8 = r9 := by
  subst hfc
  obtain ⟨Tf, k1, k2⟩ := hco
  by_cases c : 0 ≤ x.toInt ∧ x.toInt < fcn.toInt
  · obtain ⟨n1, s, v, g, h, hs, hc, e9⟩ := h9.1 c
    have ex : Int32.toNatClampNeg x = x.toInt.toNat := rfl
    have hk : ((Int32.toNatClampNeg x : Nat) : Int) < fcn.toInt := by rw [ex]; omega
    have hT := k1 _ s v g h hk hc
    have hX := k2 _ hk
    obtain ⟨w1, w2⟩ := wrd_c (y := y) (u := u) hs hT
    have e6 : (F 6 (Int32.toNatClampNeg x)).toInt = s.toInt := hX.2.1.trans hT.2.1.symm
    rw [e9]
    by_cases d : 0 ≤ y.toInt ∧ y.toInt < s.toInt
    · obtain ⟨a0, a1, a2⟩ := w1 d
      obtain ⟨b0, b1, b2⟩ := h8.1 ⟨c, by omega⟩
      have hy : y.toInt.toNat < (Tf (Int32.toNatClampNeg x)).length := by have := hT.2.1; omega
      have l := hX.2.2.1.1 _ hy
      by_cases u0 : u.toInt = 0
      · exact Int32.toInt_inj.mp ((congrArg Int32.toInt (b0 u0)).trans (l.1.trans (a0 u0).symm))
      · by_cases u1 : u.toInt = 1
        · exact Int32.toInt_inj.mp ((congrArg Int32.toInt (b1 u1)).trans (l.2.2.1.trans (a1 u1).symm))
        · by_cases u2 : u.toInt = 2
          · exact Int32.toInt_inj.mp ((congrArg Int32.toInt (b2 u2)).trans (l.2.1.trans (a2 u2).symm))
          · rw [h8.2 (by omega), w2 (by omega)]
    · rw [h8.2 (by omega), w2 (by omega)]
  · rw [h8.2 (by omega), h9.2 c]

set_option maxHeartbeats 4000000 in
set_option maxRecDepth 100000 in
theorem i_X11_wordsC {l : Launch} {D : va_G} {cy : Nat → ClassId} {b : Nat} {f : gMem} {own : Nat → Nat} {xo : Nat} {da : Int32} {fcn : Int32} {csz : Int32} {sz : Int32} {len : Int32} {ln : Int32} {wz : Int32} {lo : Int32} {tg : Nat → Int32} {weg : Nat → Int32} {stg : Nat → Int32} {tpg : Nat → Int32} {CN : Nat → Int32 → Int32 → (Nat → Int32) → (Nat → Int32) → Prop} {eg : Nat → Int32} {thg : Nat → Int32} {LN : Nat → Nat → Int32 → Int32 → Int32 → Int32 → Int64 → (Nat → Int32) → (Nat → Int32) → Prop} {ne : Nat} {x : Int32} (hI : xI cy own xo da fcn csz sz len ln wz lo tg weg stg tpg CN eg thg LN ne f)  : gC l D cy b yX11_words cX11_words 3 (some .int) 1 0 0 [.ref xo, .int x] f (pI fun r f2 => (((0 ≤ x.toInt ∧ x.toInt < fcn.toInt) → ∃ (s v : Int32) (g h : Nat → Int32), CN (Int32.toNatClampNeg x) s v g h ∧ r = s) ∧ (¬ (0 ≤ x.toInt ∧ x.toInt < fcn.toInt) → r = -1)) ∧ xI cy own xo da fcn csz sz len ln wz lo tg weg stg tpg CN eg thg LN ne f2 ∧ kp0 own own f f2) := by
  obtain ⟨ch, sc, tp, ou, fm, dr, dt_, rd, te, la, lg, co, wo, fmg, lvg, HcXo, HcCh, HcTp, HcOu, HcFa, HcFm, HcDr, HcOt, HcRt, HcLa, HcLg, HcCo, HcLv, HcWo, HcFn, HcLn⟩ := id hI
  obtain ⟨og_xo, hxo, mcXo⟩ := id HcXo
  obtain ⟨og_fm, hfm⟩ := id HcFa
  cases hA : formF fcn fmg x with
  | none =>
    refine gC_mono (k_X11_wordsN hxo hfm hA) ?_
    rintro r f2 ⟨v9, rfl, hr, rfl⟩
    exact ⟨v9, rfl, ⟨(fun z => by obtain ⟨p9, hp9⟩ := formF_is mcXo HcFn z; rw [hp9] at hA; cases hA), fun _ => hr⟩, hI, kp0_rf⟩
  | some p =>
    obtain ⟨c1, c2, n1, n2, s, v, g, h, ⟨⟨og_p, og_c1, og_c2⟩, hp, h1, h2, hs, hv, hFI⟩, hCN⟩ := HcFm _ _ (formF_some hA).1 (formF_some hA).2
    have hCN : CN (Int32.toNatClampNeg x) s v g h := hCN
    refine gC_mono (k_X11_wordsY hxo hfm hp hA) ?_
    rintro r f2 ⟨v9, rfl, hr, rfl⟩
    exact ⟨v9, rfl, ⟨fun _ => ⟨s, v, g, h, hCN, hr⟩, fun z => absurd (formF_lt hA) z⟩, hI, kp0_rf⟩

set_option maxHeartbeats 4000000 in
set_option maxRecDepth 100000 in
theorem i_X11_wordC {l : Launch} {D : va_G} {cy : Nat → ClassId} {b : Nat} {f : gMem} {own : Nat → Nat} {xo : Nat} {da : Int32} {fcn : Int32} {csz : Int32} {sz : Int32} {len : Int32} {ln : Int32} {wz : Int32} {lo : Int32} {tg : Nat → Int32} {weg : Nat → Int32} {stg : Nat → Int32} {tpg : Nat → Int32} {CN : Nat → Int32 → Int32 → (Nat → Int32) → (Nat → Int32) → Prop} {eg : Nat → Int32} {thg : Nat → Int32} {LN : Nat → Nat → Int32 → Int32 → Int32 → Int32 → Int64 → (Nat → Int32) → (Nat → Int32) → Prop} {ne : Nat} {x y u : Int32} (hI : xI cy own xo da fcn csz sz len ln wz lo tg weg stg tpg CN eg thg LN ne f)  : gC l D cy b yX11_word cX11_word 5 (some .int) 1 0 0 [.ref xo, .int x, .int y, .int u] f (pI fun r f2 => (((0 ≤ x.toInt ∧ x.toInt < fcn.toInt) → ∃ (n1 : Nat) (s v : Int32) (g h : Nat → Int32), (0 ≤ s.toInt ∧ 13 * s.toInt ≤ n1 ∧ n1 ≤ 520) ∧ CN (Int32.toNatClampNeg x) s v g h ∧ r = xwrdF n1 g s y u) ∧ (¬ (0 ≤ x.toInt ∧ x.toInt < fcn.toInt) → r = -1)) ∧ xI cy own xo da fcn csz sz len ln wz lo tg weg stg tpg CN eg thg LN ne f2 ∧ kp0 own own f f2) := by
  obtain ⟨ch, sc, tp, ou, fm, dr, dt_, rd, te, la, lg, co, wo, fmg, lvg, HcXo, HcCh, HcTp, HcOu, HcFa, HcFm, HcDr, HcOt, HcRt, HcLa, HcLg, HcCo, HcLv, HcWo, HcFn, HcLn⟩ := id hI
  obtain ⟨og_xo, hxo, mcXo⟩ := id HcXo
  obtain ⟨og_fm, hfm⟩ := id HcFa
  cases hA : formF fcn fmg x with
  | none =>
    refine gC_mono (k_X11_wordN hxo hfm hA) ?_
    rintro r f2 ⟨v9, rfl, hr, rfl⟩
    exact ⟨v9, rfl, ⟨(fun z => by obtain ⟨p9, hp9⟩ := formF_is mcXo HcFn z; rw [hp9] at hA; cases hA), fun _ => hr⟩, hI, kp0_rf⟩
  | some p =>
    obtain ⟨c1, c2, n1, n2, s, v, g, h, ⟨⟨og_p, og_c1, og_c2⟩, hp, h1, h2, hs, hv, hFI⟩, hCN⟩ := HcFm _ _ (formF_some hA).1 (formF_some hA).2
    have hCN : CN (Int32.toNatClampNeg x) s v g h := hCN
    refine gC_mono (k_X11_wordY hxo hfm hp h1 hA hs) ?_
    rintro r f2 ⟨v9, rfl, hr, rfl⟩
    exact ⟨v9, rfl, ⟨fun _ => ⟨n1, s, v, g, h, hs, hCN, hr⟩, fun z => absurd (formF_lt hA) z⟩, hI, kp0_rf⟩

set_option maxHeartbeats 4000000 in
set_option maxRecDepth 100000 in
theorem k_X12_wordsE {l : Launch} {D : va_G} {cy : Nat → ClassId} {b : Nat} {f : gMem} {m : Nat} {a : Nat → Nat} {f0 : gMem} {n : Nat → Int32} {z : Nat → Int64} {F : Nat → Nat → Int32} {G : Nat → Nat → Int64}  {x1 : Int32} (hS : mS cy m a f0 n z F G f) (hR : RI n F) : gC l D cy b yX12_words cX12_words 2 (some .int) 1 0 0 [.ref m, .int x1] f (pI fun r f2 => r = (if 0 ≤ x1.toInt ∧ x1.toInt < (n 5).toInt then (F 6 (Int32.toNatClampNeg x1)) else -1) ∧ f2 = f) := by
  obtain ⟨a0, a4, a5, bA, bW, a30, bL, a38, bP, a53, a47, a88⟩ := id hR
  refine gC_of (by decide) (Nat.le_of_ble_eq_true rfl) ?_
  show gG l _ _ _ D cy b cX12_words 2 _ RX12 "words" 0 0 f 0 [(0, .ref m), (1, .int x1)] []
  refine gz_aload_n dX12_words_0 rfl rfl ?_
  refine gz_iload_n dX12_words_1 rfl rfl ?_
  refine scX12_337 (k_X12_isFormE (x1 := x1) hS ) hS.1 ⟨(Nat.le_of_ble_eq_true rfl), (Nat.le_of_ble_eq_true rfl)⟩ ⟨(Nat.le_of_ble_eq_true rfl), (Nat.le_of_ble_eq_true rfl)⟩ rfl rfl (Nat.le_of_ble_eq_true rfl) dX12_words_2 ?_
  rintro r_1 f9 ⟨hb_1, y9⟩; rw [y9]
  try rw [(show n 5 = (n 5) from rfl)] at hb_1
  have hbb_1 : r_1 = 0 ∨ r_1 = 1 := hb_1.imp And.left And.left
  simp only [fl_eq, Int32.reduceToInt] at hb_1
  refine gz_if_eq (tgt := 17) dX12_words_5 (by decide) (fun c_5 => ?_) (fun c_5 => ?_)
  ·
    try simp only [mIn_0, lgc_lt, lgc_gt, lgc_le, lgc_ge, lgc_eq] at c_5
    try simp only [fl_lt, fl_le, fl_eq, fL_w, fL_lt, fL_le, tm1, tm10k, tm9, tm99, Int32.reduceToInt, Int64.reduceToInt, Int.not_lt, Int.not_le] at c_5
    refine gz_iconst (v := (-1)) dX12_words_17 (by decide) ?_
    exact gz_iret rfl dX12_words_18 (Nat.le_of_ble_eq_true rfl) (Nat.le_of_ble_eq_true rfl) (⟨_, rfl, (by rw [if_neg (by omega)]), rfl⟩)
  ·
    try simp only [mIn_0, lgc_lt, lgc_gt, lgc_le, lgc_ge, lgc_eq] at c_5
    try simp only [fl_lt, fl_le, fl_eq, fL_w, fL_lt, fL_le, tm1, tm10k, tm9, tm99, Int32.reduceToInt, Int64.reduceToInt, Int.not_lt, Int.not_le] at c_5
    refine gz_aload_n dX12_words_8 rfl rfl ?_
    refine mg_17 hS dX12_words_9 ?_
    refine gz_iload_n dX12_words_12 rfl rfl ?_
    refine m_iald 6 hS rfl (N := 22) rfl ((by exact vin_T (rfl : (x1).toInt = (x1).toInt) (by omega) (by omega))) dX12_words_13 ?_
    refine gz_goto (tgt := 18) dX12_words_14 (by decide) ?_
    exact gz_iret rfl dX12_words_18 (Nat.le_of_ble_eq_true rfl) (Nat.le_of_ble_eq_true rfl) (⟨_, rfl, (by rw [if_pos (by omega)]), rfl⟩)

set_option maxHeartbeats 4000000 in
set_option maxRecDepth 100000 in
theorem k_X12_wordE {l : Launch} {D : va_G} {cy : Nat → ClassId} {b : Nat} {f : gMem} {m : Nat} {a : Nat → Nat} {f0 : gMem} {n : Nat → Int32} {z : Nat → Int64} {F : Nat → Nat → Int32} {G : Nat → Nat → Int64}  {x1 x2 x3 : Int32} (hS : mS cy m a f0 n z F G f) (hR : RI n F) : gC l D cy b yX12_word cX12_word 5 (some .int) 1 0 0 [.ref m, .int x1, .int x2, .int x3] f (pI fun r f2 => (((0 ≤ x1.toInt ∧ x1.toInt < (n 5).toInt) ∧ (0 ≤ x2.toInt ∧ x2.toInt < (F 6 (Int32.toNatClampNeg x1)).toInt) → (x3.toInt = 0 → r = F 7 (40 * x1.toInt.toNat + x2.toInt.toNat)) ∧ (x3.toInt = 1 → r = F 9 (40 * x1.toInt.toNat + x2.toInt.toNat)) ∧ (x3.toInt = 2 → r = F 8 (40 * x1.toInt.toNat + x2.toInt.toNat))) ∧ (¬ ((0 ≤ x1.toInt ∧ x1.toInt < (n 5).toInt) ∧ (0 ≤ x2.toInt ∧ x2.toInt < (F 6 (Int32.toNatClampNeg x1)).toInt) ∧ 0 ≤ x3.toInt ∧ x3.toInt ≤ 2) → r = -1)) ∧ f2 = f) := by
  obtain ⟨a0, a4, a5, bA, bW, a30, bL, a38, bP, a53, a47, a88⟩ := id hR
  refine gC_of (by decide) (Nat.le_of_ble_eq_true rfl) ?_
  show gG l _ _ _ D cy b cX12_word 5 _ RX12 "word" 0 0 f 0 [(0, .ref m), (1, .int x1), (2, .int x2), (3, .int x3)] []
  refine gz_aload_n dX12_word_0 rfl rfl ?_
  refine gz_iload_n dX12_word_1 rfl rfl ?_
  refine scX12_337 (k_X12_isFormE (x1 := x1) hS ) hS.1 ⟨(Nat.le_of_ble_eq_true rfl), (Nat.le_of_ble_eq_true rfl)⟩ ⟨(Nat.le_of_ble_eq_true rfl), (Nat.le_of_ble_eq_true rfl)⟩ rfl rfl (Nat.le_of_ble_eq_true rfl) dX12_word_2 ?_
  rintro r_1 f9 ⟨hb_1, y9⟩; rw [y9]
  try rw [(show n 5 = (n 5) from rfl)] at hb_1
  have hbb_1 : r_1 = 0 ∨ r_1 = 1 := hb_1.imp And.left And.left
  simp only [fl_eq, Int32.reduceToInt] at hb_1
  refine gz_if_eq (tgt := 26) dX12_word_5 (by decide) (fun c_5 => ?_) (fun c_5 => ?_)
  ·
    try simp only [mIn_0, lgc_lt, lgc_gt, lgc_le, lgc_ge, lgc_eq] at c_5
    try simp only [fl_lt, fl_le, fl_eq, fL_w, fL_lt, fL_le, tm1, tm10k, tm9, tm99, Int32.reduceToInt, Int64.reduceToInt, Int.not_lt, Int.not_le] at c_5
    refine gz_iconst (v := (-1)) dX12_word_26 (by decide) ?_
    exact gz_iret rfl dX12_word_27 (Nat.le_of_ble_eq_true rfl) (Nat.le_of_ble_eq_true rfl) (⟨_, rfl, ⟨fun z => ⟨fun y => by exfalso; omega, fun y => by exfalso; omega, fun y => by exfalso; omega⟩, fun _ => rfl⟩, rfl⟩)
  ·
    try simp only [mIn_0, lgc_lt, lgc_gt, lgc_le, lgc_ge, lgc_eq] at c_5
    try simp only [fl_lt, fl_le, fl_eq, fL_w, fL_lt, fL_le, tm1, tm10k, tm9, tm99, Int32.reduceToInt, Int64.reduceToInt, Int.not_lt, Int.not_le] at c_5
    refine gz_iload_n dX12_word_8 rfl rfl ?_
    refine gz_i2l dX12_word_9 ?_
    refine gz_lconst (v := 0) dX12_word_10 (by decide) ?_
    refine gz_aload_n dX12_word_11 rfl rfl ?_
    refine mg_17 hS dX12_word_12 ?_
    refine gz_iload_n dX12_word_15 rfl rfl ?_
    refine m_iald 6 hS rfl (N := 22) rfl ((by exact vin_T (rfl : (x1).toInt = (x1).toInt) (by omega) (by omega))) dX12_word_16 ?_
    refine gz_iconst (v := 1) dX12_word_17 (by decide) ?_
    refine gz_isub dX12_word_18 ?_
    refine gz_i2l dX12_word_19 ?_
    have qW := (bW (Int32.toNatClampNeg x1) (by have := clI (i := x1) (by omega); omega)).1
    have qs : ((F 6 (Int32.toNatClampNeg x1)) - 1).toInt = (F 6 (Int32.toNatClampNeg x1)).toInt - 1 := T_sub rfl (show (1 : Int32).toInt = 1 from rfl) (by omega)
    refine scX12_245 (k_X12_in (x := x2.toInt64) (y := 0) (w := (((F 6) (Int32.toNatClampNeg x1)) - 1).toInt64)) ⟨(Nat.le_of_ble_eq_true rfl), (Nat.le_of_ble_eq_true rfl)⟩ ⟨(Nat.le_of_ble_eq_true rfl), (Nat.le_of_ble_eq_true rfl)⟩ rfl rfl (Nat.le_of_ble_eq_true rfl) dX12_word_20 ?_
    intro v9 f9 z9; rw [z9.1, z9.2]
    refine gz_if_ne (tgt := 28) dX12_word_23 (by decide) (fun c_23 => ?_) (fun c_23 => ?_)
    ·
      try simp only [mIn_0, lgc_lt, lgc_gt, lgc_le, lgc_ge, lgc_eq] at c_23
      try simp only [fl_lt, fl_le, fl_eq, fL_w, fL_lt, fL_le, tm1, tm10k, tm9, tm99, Int32.reduceToInt, Int64.reduceToInt, Int.not_lt, Int.not_le] at c_23
      refine gz_bipush (v := 40) dX12_word_28 (by decide) ?_
      refine gz_iload_n dX12_word_30 rfl rfl ?_
      refine gz_imul dX12_word_31 ?_
      refine gz_iload_n dX12_word_32 rfl rfl ?_
      refine gz_iadd dX12_word_33 ?_
      refine gz_istore (lv' := [(4, .int ((40 * x1) + x2)), (0, .ref m), (1, .int x1), (2, .int x2), (3, .int x3)]) dX12_word_34 (by decide) rfl ?_
      refine gz_iload_n dX12_word_36 rfl rfl ?_
      refine gz_if_ne (tgt := 50) dX12_word_37 (by decide) (fun c_37 => ?_) (fun c_37 => ?_)
      ·
        try simp only [mIn_0, lgc_lt, lgc_gt, lgc_le, lgc_ge, lgc_eq] at c_37
        try simp only [fl_lt, fl_le, fl_eq, fL_w, fL_lt, fL_le, tm1, tm10k, tm9, tm99, Int32.reduceToInt, Int64.reduceToInt, Int.not_lt, Int.not_le] at c_37
        refine gz_iload_n dX12_word_50 rfl rfl ?_
        refine gz_iconst (v := 1) dX12_word_51 (by decide) ?_
        refine gz_icmp_ne (tgt := 65) dX12_word_52 (by decide) (fun c_52 => ?_) (fun c_52 => ?_)
        ·
          try simp only [mIn_0, lgc_lt, lgc_gt, lgc_le, lgc_ge, lgc_eq] at c_52
          try simp only [fl_lt, fl_le, fl_eq, fL_w, fL_lt, fL_le, tm1, tm10k, tm9, tm99, Int32.reduceToInt, Int64.reduceToInt, Int.not_lt, Int.not_le] at c_52
          refine gz_iload_n dX12_word_65 rfl rfl ?_
          refine gz_iconst (v := 2) dX12_word_66 (by decide) ?_
          refine gz_icmp_ne (tgt := 80) dX12_word_67 (by decide) (fun c_67 => ?_) (fun c_67 => ?_)
          ·
            try simp only [mIn_0, lgc_lt, lgc_gt, lgc_le, lgc_ge, lgc_eq] at c_67
            try simp only [fl_lt, fl_le, fl_eq, fL_w, fL_lt, fL_le, tm1, tm10k, tm9, tm99, Int32.reduceToInt, Int64.reduceToInt, Int.not_lt, Int.not_le] at c_67
            refine gz_iconst (v := (-1)) dX12_word_80 (by decide) ?_
            exact gz_iret rfl dX12_word_81 (Nat.le_of_ble_eq_true rfl) (Nat.le_of_ble_eq_true rfl) (⟨_, rfl, ⟨fun z => ⟨fun y => by exfalso; omega, fun y => by exfalso; omega, fun y => by exfalso; omega⟩, fun _ => rfl⟩, rfl⟩)
          ·
            try simp only [mIn_0, lgc_lt, lgc_gt, lgc_le, lgc_ge, lgc_eq] at c_67
            try simp only [fl_lt, fl_le, fl_eq, fL_w, fL_lt, fL_le, tm1, tm10k, tm9, tm99, Int32.reduceToInt, Int64.reduceToInt, Int.not_lt, Int.not_le] at c_67
            refine gz_aload_n dX12_word_70 rfl rfl ?_
            refine mg_23 hS dX12_word_71 ?_
            refine gz_iload dX12_word_74 rfl ?_
            refine m_iald 8 hS rfl (N := 880) rfl ((by have q9 := (T_add (T_mul (show (40 : Int32).toInt = 40 from rfl) (rfl : (x1).toInt = (x1).toInt) (by omega)) (rfl : (x2).toInt = (x2).toInt) (by omega)); exact vin_T q9 (by omega) (by omega))) dX12_word_76 ?_
            refine gz_goto (tgt := 81) dX12_word_77 (by decide) ?_
            have q9 := (T_add (T_mul (show (40 : Int32).toInt = 40 from rfl) (rfl : (x1).toInt = (x1).toInt) (by omega)) (rfl : (x2).toInt = (x2).toInt) (by omega))
            have eI : Int32.toNatClampNeg ((40 * x1) + x2) = (40 * x1.toInt.toNat + x2.toInt.toNat) := by rw [clN]; omega
            exact gz_iret rfl dX12_word_81 (Nat.le_of_ble_eq_true rfl) (Nat.le_of_ble_eq_true rfl) (⟨_, rfl, ⟨fun z => ⟨fun y => by first | (exfalso; omega) | (rw [eI]), fun y => by first | (exfalso; omega) | (rw [eI]), fun y => by first | (exfalso; omega) | (rw [eI])⟩, fun z => by exfalso; omega⟩, rfl⟩)
        ·
          try simp only [mIn_0, lgc_lt, lgc_gt, lgc_le, lgc_ge, lgc_eq] at c_52
          try simp only [fl_lt, fl_le, fl_eq, fL_w, fL_lt, fL_le, tm1, tm10k, tm9, tm99, Int32.reduceToInt, Int64.reduceToInt, Int.not_lt, Int.not_le] at c_52
          refine gz_aload_n dX12_word_55 rfl rfl ?_
          refine mg_26 hS dX12_word_56 ?_
          refine gz_iload dX12_word_59 rfl ?_
          refine m_iald 9 hS rfl (N := 880) rfl ((by have q9 := (T_add (T_mul (show (40 : Int32).toInt = 40 from rfl) (rfl : (x1).toInt = (x1).toInt) (by omega)) (rfl : (x2).toInt = (x2).toInt) (by omega)); exact vin_T q9 (by omega) (by omega))) dX12_word_61 ?_
          refine gz_goto (tgt := 81) dX12_word_62 (by decide) ?_
          have q9 := (T_add (T_mul (show (40 : Int32).toInt = 40 from rfl) (rfl : (x1).toInt = (x1).toInt) (by omega)) (rfl : (x2).toInt = (x2).toInt) (by omega))
          have eI : Int32.toNatClampNeg ((40 * x1) + x2) = (40 * x1.toInt.toNat + x2.toInt.toNat) := by rw [clN]; omega
          exact gz_iret rfl dX12_word_81 (Nat.le_of_ble_eq_true rfl) (Nat.le_of_ble_eq_true rfl) (⟨_, rfl, ⟨fun z => ⟨fun y => by first | (exfalso; omega) | (rw [eI]), fun y => by first | (exfalso; omega) | (rw [eI]), fun y => by first | (exfalso; omega) | (rw [eI])⟩, fun z => by exfalso; omega⟩, rfl⟩)
      ·
        try simp only [mIn_0, lgc_lt, lgc_gt, lgc_le, lgc_ge, lgc_eq] at c_37
        try simp only [fl_lt, fl_le, fl_eq, fL_w, fL_lt, fL_le, tm1, tm10k, tm9, tm99, Int32.reduceToInt, Int64.reduceToInt, Int.not_lt, Int.not_le] at c_37
        refine gz_aload_n dX12_word_40 rfl rfl ?_
        refine mg_20 hS dX12_word_41 ?_
        refine gz_iload dX12_word_44 rfl ?_
        refine m_iald 7 hS rfl (N := 880) rfl ((by have q9 := (T_add (T_mul (show (40 : Int32).toInt = 40 from rfl) (rfl : (x1).toInt = (x1).toInt) (by omega)) (rfl : (x2).toInt = (x2).toInt) (by omega)); exact vin_T q9 (by omega) (by omega))) dX12_word_46 ?_
        refine gz_goto (tgt := 81) dX12_word_47 (by decide) ?_
        have q9 := (T_add (T_mul (show (40 : Int32).toInt = 40 from rfl) (rfl : (x1).toInt = (x1).toInt) (by omega)) (rfl : (x2).toInt = (x2).toInt) (by omega))
        have eI : Int32.toNatClampNeg ((40 * x1) + x2) = (40 * x1.toInt.toNat + x2.toInt.toNat) := by rw [clN]; omega
        exact gz_iret rfl dX12_word_81 (Nat.le_of_ble_eq_true rfl) (Nat.le_of_ble_eq_true rfl) (⟨_, rfl, ⟨fun z => ⟨fun y => by first | (exfalso; omega) | (rw [eI]), fun y => by first | (exfalso; omega) | (rw [eI]), fun y => by first | (exfalso; omega) | (rw [eI])⟩, fun z => by exfalso; omega⟩, rfl⟩)
    ·
      try simp only [mIn_0, lgc_lt, lgc_gt, lgc_le, lgc_ge, lgc_eq] at c_23
      try simp only [fl_lt, fl_le, fl_eq, fL_w, fL_lt, fL_le, tm1, tm10k, tm9, tm99, Int32.reduceToInt, Int64.reduceToInt, Int.not_lt, Int.not_le] at c_23
      refine gz_iconst (v := (-1)) dX12_word_26 (by decide) ?_
      exact gz_iret rfl dX12_word_27 (Nat.le_of_ble_eq_true rfl) (Nat.le_of_ble_eq_true rfl) (⟨_, rfl, ⟨fun z => ⟨fun y => by exfalso; omega, fun y => by exfalso; omega, fun y => by exfalso; omega⟩, fun _ => rfl⟩, rfl⟩)
