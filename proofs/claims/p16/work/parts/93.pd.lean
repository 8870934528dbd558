/-! a WORD's head of the class -/
/-- the class's FORM holds what c says -/
def LC (g h : Nat → Int32) (c : Cn) (W V : Nat) : Prop := LCw g c W ∧ LCv h c V
theorem cU_at {c : Cn} {k w a b : Nat} {x : Int} : cU c k w x a b = if a = k ∧ b = w then x else c a b := rfl
theorem rdn_c {len : Int32} {tg g h : Nat → Int32} {pl s wd : Int32} {c : Cn} {p W V Q : Nat} (hl : 0 ≤ len.toInt ∧ len.toInt ≤ 400) (hp : pl.toInt = p) (h4 : (p : Int) ≤ len.toInt) (hs : s.toInt = (W : Int) + 1) (hW : W < 40) (hw : wd.toInt = W) (hL : LC g h c (W + 1) V) (hr : nuR (tX tg len) (skR (tX tg len) p) = .inr Q) : LC (rdnF len 400 tg pl 0 520 g s wd).2.2.2 h (cU c 2 W (nuV (tX tg len) (skR (tX tg len) p))) (W + 1) V := by
  obtain ⟨u1, u2⟩ := upnF_sk (tg := tg) hl hp (by omega)
  have hk := skR_le (tX_ln (g := tg) hl) (p := p) (by omega)
  have e : (rdnF len 400 tg pl 0 520 g s wd).2.2.2 = stF 520 g s wd 2 (rnuF len 400 tg (upnF len 400 tg pl).2 0).1 := by
    unfold rdnF
    simp only [lett]
    split <;> rfl
  rw [e, stN hs (by omega) hw (by omega) (show (2 : Int32).toInt = (2 : Nat) from rfl) (by omega)]
  clear e
  have hv := rnuF_v (tg := tg) hl u2 (by omega) hr
  generalize rnuF len 400 tg (upnF len 400 tg pl).2 0 = x at hv ⊢
  generalize nuV (tX tg len) (skR (tX tg len) p) = y at hv ⊢
  refine ⟨LCw_set hL.1 (fun i hi => by rw [updE, if_neg (by omega)]) (fun a w ha hw2 => by rw [cU_at, if_neg (fun z => hw2 z.2)]) (fun a ha hb => by rw [updE, if_neg (by omega)]) (fun a ha => by rw [cU_at, if_neg (by omega)]) (fun a ha => ?_) ?_, LCv_cg (fun a i ha => by rw [cU_at, if_neg (by omega)]) hL.2⟩
  · rw [updE, cU_at]
    by_cases e2 : a = 2
    · rw [if_pos (by omega), if_pos ⟨e2, rfl⟩]; exact hv
    · rw [if_neg (by omega), if_neg (fun z => e2 z.1)]
      exact (hL.1 W (by omega)).1 a (by omega)
  · rw [updE, cU_at, if_neg (by omega), if_neg (by omega)]
    exact (hL.1 W (by omega)).2.1
theorem rrl_c {len : Int32} {tg g : Nat → Int32} {pl s wd : Int32} {p Q n1 : Nat} (hl : 0 ≤ len.toInt ∧ len.toInt ≤ 400) (hp : pl.toInt = p) (h4 : (p : Int) ≤ len.toInt) (hr : reR (tX tg len) p = .inr Q) : ∃ x : Int32, (rrlF len 400 tg pl 0 n1 g s wd).2.2.2 = stF n1 g s wd 8 x ∧ x.toInt = cdS (reV (tX tg len) p) := by
  obtain ⟨u1, u2⟩ := upnF_sk (tg := tg) hl hp (by omega)
  have hs := skR_le (tX_ln (g := tg) hl) (p := p) (by omega)
  unfold reR at hr
  unfold reV rrlF lett
  generalize upnF len 400 tg pl = y at u1 u2 ⊢
  generalize skR (tX tg len) p = q at u1 u2 hs hr ⊢
  have q1 := T_add u2 (show (1 : Int32).toInt = 1 from rfl) (by omega)
  have t1 := tAt_tX (tg := tg) (k := q + 1) hl (i := y.2 + 1) (by omega)
  by_cases c60 : y.1 = 60
  · have e : tX tg len q = 60 := by rw [← u1, c60]; rfl
    simp only [c60, if_true, e]
    simp only [show ¬ ((60 : Int) = 61) by decide, if_false, if_true, show ¬ ((1 : Int32) = 0) by decide, show ¬ ((1 : Int32) = 2) by decide]
    by_cases c : tAt len 400 tg (y.2 + 1) = 61
    · rw [if_pos c, if_pos (show tX tg len (q + 1) = 61 by rw [← t1, c]; rfl)]
      exact ⟨_, rfl, by decide⟩
    · rw [if_neg c, if_neg (show ¬ tX tg len (q + 1) = 61 from fun z => c (Int32.toInt_inj.mp (by rw [t1, z]; rfl)))]
      exact ⟨_, rfl, by decide⟩
  · by_cases c62 : y.1 = 62
    · have e : tX tg len q = 62 := by rw [← u1, c62]; rfl
      simp only [c62, e]
      simp only [show ¬ ((62 : Int) = 61) by decide, show ¬ ((62 : Int) = 60) by decide, show ¬ ((62 : Int32) = 60) by decide, if_false, if_true, show ¬ ((4 : Int32) = 0) by decide, show ¬ ((4 : Int32) = 2) by decide]
      by_cases c : tAt len 400 tg (y.2 + 1) = 61
      · rw [if_pos c, if_pos (show tX tg len (q + 1) = 61 by rw [← t1, c]; rfl)]
        exact ⟨_, rfl, by decide⟩
      · rw [if_neg c, if_neg (show ¬ tX tg len (q + 1) = 61 from fun z => c (Int32.toInt_inj.mp (by rw [t1, z]; rfl)))]
        exact ⟨_, rfl, by decide⟩
    · by_cases c61 : y.1 = 61
      · have e : tX tg len q = 61 := by rw [← u1, c61]; rfl
        simp only [c61, e]
        simp only [show ¬ ((61 : Int32) = 60) by decide, show ¬ ((61 : Int32) = 62) by decide, if_false, if_true, show ¬ ((2 : Int32) = 0) by decide]
        exact ⟨_, rfl, by decide⟩
      · have e60 : ¬ tX tg len q = 60 := fun z => c60 (Int32.toInt_inj.mp (by rw [u1, z]; rfl))
        have e62 : ¬ tX tg len q = 62 := fun z => c62 (Int32.toInt_inj.mp (by rw [u1, z]; rfl))
        have e61 : ¬ tX tg len q = 61 := fun z => c61 (Int32.toInt_inj.mp (by rw [u1, z]; rfl))
        rw [if_neg e61, if_neg (fun z => z.elim e60 e62)] at hr
        cases hr
/-- the sums of a WORD, its last: from, mid, to, the SIGN set -/
theorem LC_sums {g h h2 : Nat → Int32} {c c2 : Cn} {W V V2 : Nat} {a b d : Int} {x5 x6 x7 : Int32} (hL : LCw g c (W + 1)) (hv : LCv h2 c2 V2) (hc : ∀ k w, k ≤ 9 → c2 k w = (if w = W ∧ k = 5 then a else if w = W ∧ k = 6 then b else if w = W ∧ k = 7 then d else c k w)) (h5 : x5.toInt = a) (h6 : x6.toInt = b) (h7 : x7.toInt = d) : LC (upd (upd (upd g (13 * W + 5) x5) (13 * W + 6) x6) (13 * W + 7) x7) h2 c2 (W + 1) V2 := by
  refine ⟨LCw_set hL (fun i hi => by rw [updE, if_neg (by omega), updE, if_neg (by omega), updE, if_neg (by omega)]) (fun k w hk hw => by rw [hc k w hk, if_neg (fun z => hw z.1), if_neg (fun z => hw z.1), if_neg (fun z => hw z.1)]) (fun k hk hb => by rw [updE, if_neg (by omega), updE, if_neg (by omega), updE, if_neg (by omega)]) (fun k hk => by rw [hc k W (by omega), if_neg (by omega), if_neg (by omega), if_neg (by omega)]) (fun k hk => ?_) ?_, hv⟩
  · rw [hc k W (by omega)]
    rcases hk with e | e | e | e
    · rw [e, if_neg (by omega), if_neg (by omega), if_neg (by omega), updE, if_neg (by omega), updE, if_neg (by omega), updE, if_neg (by omega)]
      exact (hL W (by omega)).1 2 (by omega)
    · rw [e, if_pos ⟨rfl, rfl⟩, updE, if_neg (by omega), updE, if_neg (by omega), updE, if_pos rfl]; exact h5
    · rw [e, if_neg (by omega), if_pos ⟨rfl, rfl⟩, updE, if_neg (by omega), updE, if_pos rfl]; exact h6
    · rw [e, if_neg (by omega), if_neg (by omega), if_pos ⟨rfl, rfl⟩, updE, if_pos rfl]; exact h7
  · rw [hc 8 W (by omega), if_neg (by omega), if_neg (by omega), if_neg (by omega), updE, if_neg (by omega), updE, if_neg (by omega), updE, if_neg (by omega)]
    exact (hL W (by omega)).2.1
theorem LC_test {g h2 : Nat → Int32} {c c2 : Cn} {W V2 : Nat} {a b d e : Int} {x5 x6 x7 x8 : Int32} (hL : LCw g c (W + 1)) (hv : LCv h2 c2 V2) (hc : ∀ k w, k ≤ 9 → c2 k w = (if w = W ∧ k = 5 then a else if w = W ∧ k = 6 then b else if w = W ∧ k = 7 then d else if w = W ∧ k = 8 then e else c k w)) (h5 : x5.toInt = a) (h6 : x6.toInt = b) (h7 : x7.toInt = d) (h8 : x8.toInt = cdS e) : LC (upd (upd (upd (upd g (13 * W + 5) x5) (13 * W + 6) x6) (13 * W + 8) x8) (13 * W + 7) x7) h2 c2 (W + 1) V2 := by
  refine ⟨LCw_set hL (fun i hi => by rw [updE, if_neg (by omega), updE, if_neg (by omega), updE, if_neg (by omega), updE, if_neg (by omega)]) (fun k w hk hw => by rw [hc k w hk, if_neg (fun z => hw z.1), if_neg (fun z => hw z.1), if_neg (fun z => hw z.1), if_neg (fun z => hw z.1)]) (fun k hk hb => by rw [updE, if_neg (by omega), updE, if_neg (by omega), updE, if_neg (by omega), updE, if_neg (by omega)]) (fun k hk => by rw [hc k W (by omega), if_neg (by omega), if_neg (by omega), if_neg (by omega), if_neg (by omega)]) (fun k hk => ?_) ?_, hv⟩
  · rw [hc k W (by omega)]
    rcases hk with z | z | z | z
    · rw [z, if_neg (by omega), if_neg (by omega), if_neg (by omega), if_neg (by omega), updE, if_neg (by omega), updE, if_neg (by omega), updE, if_neg (by omega), updE, if_neg (by omega)]
      exact (hL W (by omega)).1 2 (by omega)
    · rw [z, if_pos ⟨rfl, rfl⟩, updE, if_neg (by omega), updE, if_neg (by omega), updE, if_neg (by omega), updE, if_pos rfl]; exact h5
    · rw [z, if_neg (by omega), if_pos ⟨rfl, rfl⟩, updE, if_neg (by omega), updE, if_neg (by omega), updE, if_pos rfl]; exact h6
    · rw [z, if_neg (by omega), if_neg (by omega), if_pos ⟨rfl, rfl⟩, updE, if_pos rfl]; exact h7
  · rw [hc 8 W (by omega), if_neg (by omega), if_neg (by omega), if_neg (by omega), if_pos ⟨rfl, rfl⟩, updE, if_neg (by omega), updE, if_pos rfl]
    exact h8
theorem rss_c {len : Int32} {tg g h : Nat → Int32} {pl s v kd wd : Int32} {c : Cn} {p W V K Q V3 : Nat} (hl : 0 ≤ len.toInt ∧ len.toInt ≤ 400) (hp : pl.toInt = p) (h4 : (p : Int) ≤ len.toInt) (hv : v.toInt = V) (hV : V ≤ 40) (hk : kd.toInt = K) (hK : K = 6 ∨ K = 7 ∨ K = 8 ∨ K = 9) (hs : s.toInt = (W : Int) + 1) (hW : W < 40) (hw : wd.toInt = W) (hL : LC g h c (W + 1) V) (hr : hdR (tX tg len) K p V = .inr (Q, V3)) :
    LC (rssF len 400 tg pl 0 520 80 g h s v kd wd).2.2.2.2.2 (rssF len 400 tg pl 0 520 80 g h s v kd wd).2.2.2.2.1 (hdC (tX tg len) K p V W c) (W + 1) V3 := by
  have hln := tX_ln (g := tg) hl
  have ex := rsm_su (tg := tg) (h := h) hl hp h4 hv hV
  have zz : ∀ (k : Int32) (a : Nat), k.toInt = a → a ≤ 12 → ∀ (g' : Nat → Int32) (x : Int32), stF 520 g' s wd k x = upd g' (13 * W + a) x := fun k a hk ha g' x => stN hs (by omega) hw (by omega) hk ha
  have z5 := zz 5 5 rfl (by omega)
  have z6 := zz 6 6 rfl (by omega)
  have z7 := zz 7 7 rfl (by omega)
  have z8 := zz 8 8 rfl (by omega)
  clear zz
  unfold hdR at hr
  unfold hdC
  rw [if_neg (show ¬ (K = 5 ∨ K = 10) by omega)] at hr
  rw [if_neg (show ¬ (K = 5 ∨ K = 10) by omega)]
  unfold rssF lett
  have hts9 : K = 9 → htsF kd = 0 := fun e => by
    have : kd = 9 := Int32.toInt_inj.mp (by rw [hk, e]; rfl)
    rw [this]; rfl
  have hts6 : K ≠ 9 → htsF kd ≠ 0 := fun e => by
    have : kd = 6 ∨ kd = 7 ∨ kd = 8 := by
      rcases hK with z | z | z | z
      · exact Or.inl (Int32.toInt_inj.mp (by rw [hk, z]; rfl))
      · exact Or.inr (Or.inl (Int32.toInt_inj.mp (by rw [hk, z]; rfl)))
      · exact Or.inr (Or.inr (Int32.toInt_inj.mp (by rw [hk, z]; rfl)))
      · exact absurd z e
    rcases this with z | z | z <;> (rw [z]; decide)
  cases hsu : suR (tX tg len) 41 p V with
  | inl d =>
    rw [hsu] at hr
    by_cases c9 : K = 6 ∨ K = 7 ∨ K = 8
    · rw [if_pos c9] at hr; cases hr
    · rw [if_neg c9, if_pos (show K = 9 by omega)] at hr; cases hr
  | inr r =>
    obtain ⟨q, V2⟩ := r
    have rc : ∀ c1 : Cn, LCv h c1 V → LCv (rsmF len 400 tg pl 0 80 h v).2.2.2.2 (suC (tX tg len) 41 p V 0 c1) V2 := fun c1 hc1 => rsm_c (tg := tg) (h := h) hl hp h4 hv hV hc1 hsu
    obtain ⟨o1, o2, o3⟩ := suR_ok hln _ _ _ _ _ (by omega) hV hsu
    rw [hsu] at ex hr
    generalize rsmF len 400 tg pl 0 80 h v = w at ex rc ⊢
    obtain ⟨r1, r2, r3, r4⟩ := ex
    dsimp only at hr ⊢
    rw [if_neg (show ¬ w.1 = 0 by rw [r1]; decide), r3]
    by_cases c9 : K = 6 ∨ K = 7 ∨ K = 8
    · rw [if_pos c9] at hr
      rw [if_pos c9, if_neg (hts6 (by omega)), z5, z6]
      cases hre : reR (tX tg len) q with
      | inl d => rw [hre] at hr; cases hr
      | inr q2 =>
        have oq := reR_le hln o3 hre
        have ey := rrl_re (tg := tg) (g := upd (upd g (13 * W + 5) v) (13 * W + 6) w.2.2.2.1) (s := s) (wd := wd) (n1 := 520) hl r2 (by omega)
        obtain ⟨x8, ec, e8⟩ := rrl_c (tg := tg) (g := upd (upd g (13 * W + 5) v) (13 * W + 6) w.2.2.2.1) (s := s) (wd := wd) (n1 := 520) hl r2 (by omega) hre
        rw [hre] at ey hr
        generalize rrlF len 400 tg w.2.1 0 520 (upd (upd g (13 * W + 5) v) (13 * W + 6) w.2.2.2.1) s wd = y at ey ec ⊢
        obtain ⟨y1, y2, y3⟩ := ey
        dsimp only at hr ⊢
        rw [if_neg (show ¬ y.1 = 0 by rw [y1]; decide), y3, ec, z8]
        have ez := rsm_su (tg := tg) (h := w.2.2.2.2) hl y2 (by omega) r4 o2
        cases hs2 : suR (tX tg len) 41 q2 V2 with
        | inl d => rw [hs2] at hr; cases hr
        | inr r5 =>
          obtain ⟨q3, V4⟩ := r5
          have rd : ∀ c1 : Cn, LCv w.2.2.2.2 c1 V2 → LCv (rsmF len 400 tg y.2.1 0 80 w.2.2.2.2 w.2.2.2.1).2.2.2.2 (suC (tX tg len) 41 q2 V2 0 c1) V4 := fun c1 hc1 => rsm_c (tg := tg) (h := w.2.2.2.2) hl y2 (by omega) r4 o2 hc1 hs2
          obtain ⟨p1, p2, p3⟩ := suR_ok hln _ _ _ _ _ (by omega) o2 hs2
          rw [hs2] at ez hr
          generalize rsmF len 400 tg y.2.1 0 80 w.2.2.2.2 w.2.2.2.1 = x at ez rd ⊢
          obtain ⟨z1, z2, z3, z4⟩ := ez
          dsimp only at hr ⊢
          rw [if_neg (show ¬ x.1 = 0 by rw [z1]; decide), z3]
          have hV3 : V3 = V4 := by
            cases htk : tkR (tX tg len) q3 58 with
            | inl d => rw [htk] at hr; cases hr
            | inr q4 => rw [htk] at hr; cases hr; rfl
          rw [hV3]
          dsimp only
          rw [z7]
          refine LC_test (a := V) (b := V2) (d := V4) (e := reV (tX tg len) q) hL.1 (rd _ (rc _ (LCv_cg (fun a i ha => by rw [cU_at, if_neg (by omega), cU_at, if_neg (by omega), cU_at, if_neg (by omega), cU_at, if_neg (by omega)]) hL.2))) (fun k w2 hk2 => ?_) hv r4 z4 e8
          rw [suC_w _ _ _ _ _ _ _ hk2, suC_w _ _ _ _ _ _ _ hk2, cU_at, cU_at, cU_at, cU_at]
          (repeat' split) <;> first | rfl | (exfalso; omega)
    · rw [if_neg c9, if_pos (show K = 9 by omega)] at hr
      rw [if_neg c9, if_pos (show K = 9 by omega), if_pos (hts9 (by omega)), z5, z6, z7]
      have hV3 : V3 = V2 := by
        cases htk : tkR (tX tg len) q 58 with
        | inl d => rw [htk] at hr; cases hr
        | inr q4 => rw [htk] at hr; cases hr; rfl
      rw [hV3]
      dsimp only
      refine LC_sums (h := h) (V := V) (a := V) (b := V2) (d := V2) hL.1 (rc _ (LCv_cg (fun a i ha => by rw [cU_at, if_neg (by omega), cU_at, if_neg (by omega), cU_at, if_neg (by omega)]) hL.2)) (fun k w2 hk2 => ?_) hv r4 r4
      rw [suC_w _ _ _ _ _ _ _ hk2, cU_at, cU_at, cU_at]
      (repeat' split) <;> first | rfl | (exfalso; omega)