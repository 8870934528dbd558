/-! the class's VALUES -/
theorem rnuL_v {len : Int32} {tg : Nat → Int32} {st : Int32} {p : Nat} (hl : 0 ≤ len.toInt ∧ len.toInt ≤ 400) (hs : st.toInt = p) (h8 : p ≤ 400) : ∀ (k : Nat) (i nu : Int32) (j : Nat), i.toInt = j → j ≤ 400 → (j : Int) + (k : Int) = 401 → nuB j nu.toInt → (j ≤ 5 → nu.toInt = dgV (tX tg len) p j) → 1 ≤ j + dgR (tX tg len) (p + j) → j + dgR (tX tg len) (p + j) ≤ 5 →
    (rnuL len 400 tg st k i nu st 0).1.toInt = dgV (tX tg len) p (j + dgR (tX tg len) (p + j)) := by
  have e4 : (400 : Int32).toInt = 400 := rfl
  have e5 : (5 : Int32).toInt = 5 := rfl
  have e0 : (0 : Int32).toInt = 0 := rfl
  have hln := tX_ln (g := tg) hl
  intro k
  induction k with
  | zero => intro i nu j h1 h2 h3; exfalso; omega
  | succ k ih =>
    intro i nu j h1 h2 h3 hn hv d1 d2
    have q := T_add hs h1 (by omega)
    have ht := tAt_tX (tg := tg) (k := p + j) hl (i := st + i) (by omega)
    have fin : dgR (tX tg len) (p + j) = 0 → (if i = 0 then (lett (faiF 0 st (if i = 0 then 0 else 1)) fun x1 => ((-1 : Int32), st, x1.2)) else (if i ≤ 5 then (nu, (st + i), (0 : Int32)) else (lett (faiF 0 st (if i = 0 then 0 else 1)) fun x3 => ((-1 : Int32), st, x3.2)))).1.toInt = dgV (tX tg len) p (j + dgR (tX tg len) (p + j)) := fun e => by
      rw [e] at d1 d2 ⊢
      rw [if_neg (show ¬ i = 0 from fun z => by rw [z, e0] at h1; omega), if_pos (show i ≤ 5 by rw [fl_le, e5]; omega)]
      exact hv (by omega)
    unfold rnuL
    by_cases c1 : 400 ≤ i
    · rw [if_pos c1]
      rw [fl_le, e4] at c1
      exact fin (dgR_no (by rw [tX_out (by omega)]; omega))
    · rw [if_neg c1]
      rw [fl_le, e4] at c1
      by_cases c2 : digF (tAt len 400 tg (st + i)) = 0
      · rw [if_pos c2]
        rw [digF_b, ht] at c2
        exact fin (dgR_no c2)
      · rw [if_neg c2]
        rw [digF_b, ht] at c2
        have c3 := Classical.not_not.mp c2
        clear fin
        have ed : j + dgR (tX tg len) (p + j) = (j + 1) + dgR (tX tg len) (p + (j + 1)) := by
          rw [dgR_st hln c3, show p + j + 1 = p + (j + 1) by omega]; omega
        rw [ed] at d1 d2 ⊢
        have q2 := T_add h1 (show (1 : Int32).toInt = 1 from rfl) (by omega)
        rw [if_neg (show ¬ 5 ≤ i by rw [fl_le, e5]; omega)]
        have hj := hv (by omega)
        have hn2 := hn
        unfold nuB at hn2
        have r1 := T_mul (rfl : nu.toInt = nu.toInt) (show (10 : Int32).toInt = 10 from rfl) (by omega)
        have r2 := T_add r1 ht (by omega)
        have r3 := T_sub r2 (show (48 : Int32).toInt = 48 from rfl) (by omega)
        refine ih (i + 1) _ (j + 1) (by omega) (by omega) (by omega) ?_ (fun _ => ?_) d1 d2
        · unfold nuB
          omega
        · show _ = 10 * dgV (tX tg len) p j + (tX tg len (p + j) - 48)
          omega
theorem rnuF_v {len : Int32} {tg : Nat → Int32} {st : Int32} {p Q : Nat} (hl : 0 ≤ len.toInt ∧ len.toInt ≤ 400) (hs : st.toInt = p) (h8 : p ≤ 400) (h : nuR (tX tg len) p = .inr Q) : (rnuF len 400 tg st 0).1.toInt = nuV (tX tg len) p := by
  unfold nuR at h
  by_cases d1 : dgR (tX tg len) p = 0
  · rw [if_pos d1] at h; cases h
  · rw [if_neg d1] at h
    by_cases d2 : 5 < dgR (tX tg len) p
    · rw [if_pos d2] at h; cases h
    · have r := rnuL_v (tg := tg) hl hs h8 401 0 0 0 rfl (by omega) (by omega) ⟨by decide, by decide, fun _ => by decide, fun _ => by decide, fun _ => by decide, fun _ => by decide, fun _ => by decide⟩ (fun _ => rfl) (by show 1 ≤ 0 + dgR (tX tg len) p; omega) (by show 0 + dgR (tX tg len) p ≤ 5; omega)
      rw [Nat.zero_add] at r
      exact r
theorem rnv_v {len : Int32} {tg : Nat → Int32} {pl lg : Int32} {q : Nat} (hl : 0 ≤ len.toInt ∧ len.toInt ≤ 400) (hq : pl.toInt = q) (h8 : q ≤ 400) (hg : lg.toInt = ltR (tX tg len) q) :
    ((ltR (tX tg len) q = 3 ∧ tX tg len q = 100 ∧ tX tg len (q + 1) = 97 ∧ tX tg len (q + 2) = 121) → (rnvF len 400 tg pl 0 lg).1.toInt = -1)
    ∧ ((ltR (tX tg len) q = 1 ∧ tX tg len q = 115) → (48 ≤ tX tg len (q + 1) ∧ tX tg len (q + 1) ≤ 53) → (rnvF len 400 tg pl 0 lg).1.toInt = -2 - (tX tg len (q + 1) - 48)) := by
  have p1 := T_add hq (show (1 : Int32).toInt = 1 from rfl) (by omega)
  have p2 := T_add hq (show (2 : Int32).toInt = 2 from rfl) (by omega)
  have t0 := tAt_tX (tg := tg) hl hq
  have t1 := tAt_tX (tg := tg) (k := q + 1) hl (i := pl + 1) (by omega)
  have t2 := tAt_tX (tg := tg) (k := q + 2) hl (i := pl + 2) (by omega)
  have b1 := tX_rg (g := tg) (L := len) (k := q + 1)
  have s1 := T_sub t1 (show (48 : Int32).toInt = 48 from rfl) (by omega)
  unfold rnvF
  simp only [fl_eq, fl_lt, Int32.reduceToInt, t0, t1, t2, s1, hg]
  refine ⟨fun d => ?_, fun d e => ?_⟩
  · rw [if_pos (by omega), if_pos (by omega), if_pos (by omega), if_pos (by omega)]
    rfl
  · rw [if_neg (by omega), if_pos (by omega), if_pos (by omega), if_neg (by omega), if_pos (by omega)]
    exact T_sub (show (-2 : Int32).toInt = -2 from rfl) s1 (by omega)
theorem add_c {h : Nat → Int32} {v jo x : Int32} {V : Nat} (hv : v.toInt = V) (h4 : V < 40) : (addF 80 h v jo x).2.1 (2 * V) = jo ∧ (addF 80 h v jo x).2.1 (2 * V + 1) = x ∧ ∀ i, i < 2 * V → (addF 80 h v jo x).2.1 i = h i := by
  have e0 : (0 : Int32).toInt = 0 := rfl
  have e8 : (Int32.ofNat 80).toInt = 80 := rfl
  have q1 := T_mul hv (show (2 : Int32).toInt = 2 from rfl) (by omega)
  have q2 := T_add q1 (show (1 : Int32).toInt = 1 from rfl) (by omega)
  unfold addF
  rw [if_neg (by rw [fl_lt, e0]; omega), if_pos (by rw [fl_lt, e8]; omega)]
  have n1 : Int32.toNatClampNeg (v * 2) = 2 * V := by show (v * 2).toInt.toNat = _; omega
  have n2 : Int32.toNatClampNeg (v * 2 + 1) = 2 * V + 1 := by show (v * 2 + 1).toInt.toNat = _; omega
  dsimp only
  rw [n1, n2]
  exact ⟨by rw [updE, if_neg (by omega), updE, if_pos rfl], by rw [updE, if_pos rfl], fun i hi => by rw [updE, if_neg (by omega), updE, if_neg (by omega)]⟩
/-- the class's code of a sign ahead (+ ahead of a SUM's first VALUE), of a VALUE -/
def cdJ (x : Int) : Int := if x = 0 then 43 else x
def cdV (a b : Int) : Int := if a = -1 then b else if a = 6 then -1 else -2 - a
/-- the class's VALUES hold what c says -/
def LCv (h : Nat → Int32) (c : Cn) (V : Nat) : Prop := ∀ i, i < V → (h (2 * i)).toInt = cdJ (c 10 i) ∧ (h (2 * i + 1)).toInt = cdV (c 11 i) (c 12 i)
theorem cU3 {c : Cn} {V i : Nat} {x y z : Int} : (cU (cU (cU c 10 V x) 11 V y) 12 V z) 10 i = (if i = V then x else c 10 i) ∧ (cU (cU (cU c 10 V x) 11 V y) 12 V z) 11 i = (if i = V then y else c 11 i) ∧ (cU (cU (cU c 10 V x) 11 V y) 12 V z) 12 i = (if i = V then z else c 12 i) := by
  refine ⟨?_, ?_, ?_⟩ <;> simp [cU]
theorem LCv_add {h : Nat → Int32} {c : Cn} {v jo x : Int32} {V : Nat} {j a b : Int} (hv : v.toInt = V) (h4 : V < 40) (hL : LCv h c V) (hjo : jo.toInt = cdJ j) (hx : x.toInt = cdV a b) : LCv (addF 80 h v jo x).2.1 (cU (cU (cU c 10 V j) 11 V a) 12 V b) (V + 1) := by
  obtain ⟨a1, a2, a3⟩ := add_c (h := h) (jo := jo) (x := x) hv h4
  intro i hi
  obtain ⟨u1, u2, u3⟩ := cU3 (c := c) (V := V) (i := i) (x := j) (y := a) (z := b)
  rw [u1, u2, u3]
  by_cases e : i = V
  · rw [if_pos e, if_pos e, if_pos e, e, a1, a2]
    exact ⟨hjo, hx⟩
  · rw [if_neg e, if_neg e, if_neg e, a3 _ (by omega), a3 _ (by omega)]
    exact hL i (by omega)
theorem rvT_l {s q fa : Int32} {a : Int32 × (Nat → Int32) × Int32} : (rvT s q fa a).2.2.2.2 = a.2.1 := by
  unfold rvT
  simp only [lett]
  (repeat' split) <;> rfl
theorem rva_c {len : Int32} {tg h : Nat → Int32} {pl v jo : Int32} {p V Q2 V2 : Nat} {c : Cn} {j : Int} (hl : 0 ≤ len.toInt ∧ len.toInt ≤ 400) (hp : pl.toInt = p) (h4 : (p : Int) ≤ len.toInt) (hv : v.toInt = V) (hV : V ≤ 40) (hL : LCv h c V) (hjo : jo.toInt = cdJ j) (hr : vaR (tX tg len) p V = .inr (Q2, V2)) :
    LCv (rvaF len 400 tg pl 0 80 h v jo).2.2.2.2 (vaC (tX tg len) p V j c) V2 := by
  obtain ⟨u1, u2⟩ := upnF_sk (tg := tg) hl hp (by omega)
  have hs := skR_le (tX_ln (g := tg) hl) (p := p) (by omega)
  have e : rvaF len 400 tg pl 0 80 h v jo = (if digF (upnF len 400 tg pl).1 = 0 then (if letF (upnF len 400 tg pl).1 = 0 then rvT (upnF len 400 tg pl).2 (upnF len 400 tg pl).2 (faiF 0 (upnF len 400 tg pl).2 0).2 (addF 80 h v jo (-1)) else rvT (upnF len 400 tg pl).2 (rnvF len 400 tg (upnF len 400 tg pl).2 0 (ltrF len 400 tg (upnF len 400 tg pl).2)).2.1 (rnvF len 400 tg (upnF len 400 tg pl).2 0 (ltrF len 400 tg (upnF len 400 tg pl).2)).2.2 (addF 80 h v jo (rnvF len 400 tg (upnF len 400 tg pl).2 0 (ltrF len 400 tg (upnF len 400 tg pl).2)).1)) else rvT (upnF len 400 tg pl).2 (rnuF len 400 tg (upnF len 400 tg pl).2 0).2.1 (rnuF len 400 tg (upnF len 400 tg pl).2 0).2.2 (addF 80 h v jo (rnuF len 400 tg (upnF len 400 tg pl).2 0).1)) := rfl
  rw [e]
  clear e
  generalize (upnF len 400 tg pl).1 = b at u1 ⊢
  generalize (upnF len 400 tg pl).2 = s at u2 ⊢
  have h40 : skR (tX tg len) p ≤ 400 := by omega
  unfold vaR at hr
  unfold vaC whV nbV
  generalize skR (tX tg len) p = q at u1 u2 hs h40 hr ⊢
  by_cases c1 : digF b = 0
  · rw [if_pos c1]
    rw [digF_b, u1] at c1
    rw [if_neg c1] at hr
    rw [if_neg c1, if_neg c1]
    by_cases c2 : letF b = 0
    · rw [letF_b, u1] at c2
      have l0 := ltR_no c2
      rw [if_neg (fun d => by omega), if_neg (fun d => by omega)] at hr
      cases hr
    · rw [if_neg c2, rvT_l]
      have hg := ltrF_lt (tg := tg) hl u2 h40
      obtain ⟨n1, n2⟩ := rnv_v (tg := tg) hl u2 h40 hg
      generalize rnvF len 400 tg s 0 (ltrF len 400 tg s) = w at n1 n2 ⊢
      by_cases D : ltR (tX tg len) q = 3 ∧ tX tg len q = 100 ∧ tX tg len (q + 1) = 97 ∧ tX tg len (q + 2) = 121
      · rw [if_pos D] at hr
        by_cases cV : V = 40
        · rw [if_pos cV] at hr; cases hr
        · rw [if_neg cV] at hr
          cases hr
          rw [if_pos D.2.1]
          exact LCv_add hv (by omega) hL hjo ((n1 D).trans (by decide))
      · rw [if_neg D] at hr
        by_cases Sx : ltR (tX tg len) q = 1 ∧ tX tg len q = 115
        · rw [if_pos Sx] at hr
          by_cases cV : V = 40
          · rw [if_pos cV] at hr; cases hr
          · rw [if_neg cV] at hr
            by_cases ok : 48 ≤ tX tg len (q + 1) ∧ tX tg len (q + 1) ≤ 53
            · rw [if_pos ok] at hr
              cases hr
              rw [if_neg (show ¬ tX tg len q = 100 by omega)]
              exact LCv_add hv (by omega) hL hjo (by rw [n2 Sx ok]; unfold cdV; rw [if_neg (by omega), if_neg (by omega)])
            · rw [if_neg ok] at hr; cases hr
        · rw [if_neg Sx] at hr; cases hr
  · rw [if_neg c1]
    rw [digF_b, u1] at c1
    have c3 := Classical.not_not.mp c1
    rw [if_pos c3] at hr
    rw [if_pos c3, if_pos c3, rvT_l]
    cases hn : nuR (tX tg len) q with
    | inl d => rw [hn] at hr; cases hr
    | inr Q =>
      have rv := rnuF_v (tg := tg) hl u2 h40 hn
      rw [hn] at hr
      dsimp only at hr
      by_cases cV : V = 40
      · rw [if_pos cV] at hr; cases hr
      · rw [if_neg cV] at hr
        cases hr
        exact LCv_add hv (by omega) hL hjo (rv.trans rfl)
theorem cdJ_ne {x : Int} (h : x ≠ 0) : cdJ x = x := if_neg h
theorem rsmL_c {len : Int32} {tg : Nat → Int32} (hl : 0 ≤ len.toInt ∧ len.toInt ≤ 400) : ∀ (k : Nat) (i jo pl v : Int32) (h : Nat → Int32) (p V m : Nat) (c : Cn) (j : Int) (Q2 V2 : Nat), pl.toInt = p → (p : Int) ≤ len.toInt → v.toInt = V → V ≤ 40 → 0 ≤ i.toInt ∧ i.toInt ≤ (V : Int) ∧ i.toInt + (k : Int) = 42 → LCv h c V → jo.toInt = cdJ j → suR (tX tg len) m p V = .inr (Q2, V2) →
    LCv (rsmL len 400 tg 80 k i jo pl 0 v h).2.2.2.2 (suC (tX tg len) m p V j c) V2 := by
  have e40 : (40 : Int32).toInt = 40 := rfl
  have hln := tX_ln (g := tg) hl
  intro k
  induction k with
  | zero => intro i jo pl v h p V m c j Q2 V2 h1 h2 h3 h4 h5; exfalso; omega
  | succ k ih =>
    intro i jo pl v h p V m c j Q2 V2 h1 h2 h3 h4 h5 hL hjo hr
    cases m with
    | zero => cases hr
    | succ m =>
    have ex := rva_va (tg := tg) (h := h) (jo := jo) hl h1 h2 h3 h4
    unfold suR at hr
    unfold suC rsmL
    rw [if_neg (show ¬ (40 : Int32) < i by rw [fl_lt, e40]; omega)]
    unfold lett
    cases hva : vaR (tX tg len) p V with
    | inl d => rw [hva] at hr; cases hr
    | inr r =>
      obtain ⟨q, V1⟩ := r
      obtain ⟨o1, o2, o3⟩ := vaR_ok hln (by omega) h4 hva
      have rc := rva_c (tg := tg) (h := h) (jo := jo) hl h1 h2 h3 h4 hL hjo hva
      rw [hva] at ex hr
      generalize rvaF len 400 tg pl 0 80 h v jo = w at ex rc ⊢
      generalize vaC (tX tg len) p V j c = c2 at rc ⊢
      obtain ⟨r1, r2, r3, r4⟩ := ex
      dsimp only at hr ⊢
      rw [if_neg (show ¬ w.1 = 0 by rw [r1]; decide), r3]
      obtain ⟨u1, u2⟩ := upnF_sk (tg := tg) hl r2 (by omega)
      have hs := skR_le hln (p := q) o3
      generalize upnF len 400 tg w.2.1 = y at u1 u2 ⊢
      have q1 := T_add u2 (show (1 : Int32).toInt = 1 from rfl) (by omega)
      have q2 := T_add (rfl : i.toInt = i.toInt) (show (1 : Int32).toInt = 1 from rfl) (by omega)
      have hlt : tX tg len (skR (tX tg len) q) ≠ -1 → (skR (tX tg len) q : Int) < len.toInt := fun hne => by
        by_cases d : (skR (tX tg len) q : Int) < len.toInt
        · exact d
        · exact absurd (tX_out d) hne
      by_cases cc : tX tg len (skR (tX tg len) q) = 43 ∨ tX tg len (skR (tX tg len) q) = 45 ∨ tX tg len (skR (tX tg len) q) = 42
      · rw [if_pos cc] at hr
        rw [if_pos cc]
        have go := ih (i + 1) y.1 (y.2 + 1) w.2.2.2.1 w.2.2.2.2 (skR (tX tg len) q + 1) V1 m c2 (tX tg len (skR (tX tg len) q)) Q2 V2 (by omega) (by have := hlt (by omega); omega) r4 o2 (by omega) rc (by rw [u1, cdJ_ne (by omega)]) hr
        by_cases d1 : y.1 = 43
        · rw [if_pos d1]; exact go
        · rw [if_neg d1]
          by_cases d2 : y.1 = 45
          · rw [if_pos d2]; exact go
          · rw [if_neg d2]
            by_cases d3 : y.1 = 42
            · rw [if_pos d3]; exact go
            · exfalso
              rcases cc with z | z | z
              · exact d1 (Int32.toInt_inj.mp (by rw [u1, z]; rfl))
              · exact d2 (Int32.toInt_inj.mp (by rw [u1, z]; rfl))
              · exact d3 (Int32.toInt_inj.mp (by rw [u1, z]; rfl))
      · rw [if_neg cc] at hr
        rw [if_neg cc]
        cases hr
        rw [if_neg (show ¬ y.1 = 43 from fun z => cc (Or.inl (by rw [← u1, z]; rfl))), if_neg (show ¬ y.1 = 45 from fun z => cc (Or.inr (Or.inl (by rw [← u1, z]; rfl)))), if_neg (show ¬ y.1 = 42 from fun z => cc (Or.inr (Or.inr (by rw [← u1, z]; rfl))))]
        exact rc
theorem rsm_c {len : Int32} {tg h : Nat → Int32} {pl v : Int32} {p V Q2 V2 : Nat} {c : Cn} (hl : 0 ≤ len.toInt ∧ len.toInt ≤ 400) (h1 : pl.toInt = p) (h2 : (p : Int) ≤ len.toInt) (h3 : v.toInt = V) (h4 : V ≤ 40) (hL : LCv h c V) (hr : suR (tX tg len) 41 p V = .inr (Q2, V2)) : LCv (rsmF len 400 tg pl 0 80 h v).2.2.2.2 (suC (tX tg len) 41 p V 0 c) V2 := by
  unfold rsmF
  have e0 : (0 : Int32).toInt = 0 := rfl
  with_reducible exact rsmL_c hl 42 0 43 pl v h p V 41 c 0 Q2 V2 h1 h2 h3 h4 ⟨by omega, by omega, by omega⟩ hL (by decide) hr
theorem LCv_cg {h : Nat → Int32} {c c2 : Cn} {V : Nat} (e : ∀ a i, 10 ≤ a → c2 a i = c a i) (hL : LCv h c V) : LCv h c2 V := fun i hi => by
  rw [e 10 i (by omega), e 11 i (by omega), e 12 i (by omega)]
  exact hL i hi
/-- reading VALUES leaves the WORDS as they stand -/
theorem suC_w {T : Nat → Int} : ∀ (m p V : Nat) (j : Int) (c : Cn) (a w : Nat), a ≤ 9 → suC T m p V j c a w = c a w := by
  intro m
  induction m with
  | zero => intro p V j c a w _; rfl
  | succ m ih =>
    intro p V j c a w ha
    have hva : vaC T p V j c a w = c a w := by
      unfold vaC cU
      rw [if_neg (by omega), if_neg (by omega), if_neg (by omega)]
    unfold suC
    cases vaR T p V with
    | inl d => rfl
    | inr r =>
      dsimp only
      split
      · rw [ih _ _ _ _ _ _ ha, hva]
      · exact hva
/-- and no VALUE but from V on -/
theorem suC_v {T : Nat → Int} {L : Nat} (hT : tLn T L) : ∀ (m p V : Nat) (j : Int) (c : Cn) (a i : Nat), p ≤ L → V ≤ 40 → i < V → suC T m p V j c a i = c a i := by
  intro m
  induction m with
  | zero => intro p V j c a i _ _ _; rfl
  | succ m ih =>
    intro p V j c a i hp hV hi
    have hva : vaC T p V j c a i = c a i := by
      unfold vaC cU
      rw [if_neg (by omega), if_neg (by omega), if_neg (by omega)]
    unfold suC
    cases h : vaR T p V with
    | inl d => rfl
    | inr r =>
      obtain ⟨q, V1⟩ := r
      have o := vaR_ok hT hp hV h
      have hs := skR_le hT o.2.2
      dsimp only
      split
      · rename_i cc
        have hlt : skR T q < L := by
          rcases Nat.lt_or_ge (skR T q) L with z | z
          · exact z
          · rw [hT.2 _ z] at cc; omega
        rw [ih _ _ _ _ _ _ (by omega) (by omega) (by omega), hva]
      · exact hva