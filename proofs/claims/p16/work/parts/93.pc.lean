/-! the class's WORDS -/
/-- the class's code of a SIGN -/
def cdS (x : Int) : Int := if x = 0 then 1 else if x = 1 then 3 else if x = 2 then 2 else if x = 3 then 6 else if x = 4 then 4 else -1
/-- WORD w of the class holds what c says; fields 9 .. 12 (cap, side, until, untils) by the WORD around -/
def LCo (g : Nat → Int32) (c : Cn) (w : Nat) : Prop := (∀ a, a ≤ 7 → (g (13 * w + a)).toInt = c a w) ∧ (g (13 * w + 8)).toInt = cdS (c 8 w) ∧ (-1 ≤ c 9 w ∧ c 9 w < w) ∧ (0 ≤ c 1 w ∧ c 1 w ≤ 11) ∧ (0 ≤ (g (13 * w + 10)).toInt ∧ (g (13 * w + 10)).toInt ≤ 1) ∧ (0 ≤ (g (13 * w + 12)).toInt ∧ (g (13 * w + 12)).toInt ≤ c 1 w)
  ∧ (c 9 w = -1 → c 1 w = 0 ∧ (g (13 * w + 9)).toInt = -1 ∧ (g (13 * w + 10)).toInt = 0 ∧ (g (13 * w + 11)).toInt = -1 ∧ (g (13 * w + 12)).toInt = 0)
  ∧ (∀ p : Nat, c 9 w = p → c 1 w = c 1 p + 1
    ∧ (g (13 * w + 9)).toInt = (if c 0 p = 10 then (if (g (13 * p + 9)).toInt = -1 ∨ c 2 p < (g (13 * p + 9)).toInt then c 2 p else (g (13 * p + 9)).toInt) else (g (13 * p + 9)).toInt)
    ∧ (g (13 * w + 10)).toInt = (if c 0 p = 2 then 1 - (g (13 * p + 10)).toInt else (g (13 * p + 10)).toInt)
    ∧ (g (13 * w + 11)).toInt = (if c 0 p = 8 then (p : Int) else (g (13 * p + 11)).toInt)
    ∧ (g (13 * w + 12)).toInt = (g (13 * p + 12)).toInt + (if c 0 p = 8 then 1 else 0))
def LCw (g : Nat → Int32) (c : Cn) (W : Nat) : Prop := ∀ w, w < W → LCo g c w
/-- what LCo reads -/
theorem LCo_cg {g g2 : Nat → Int32} {c c2 : Cn} {w : Nat} (h : LCo g c w) (hg : ∀ a, a ≤ 12 → g2 (13 * w + a) = g (13 * w + a)) (hc : ∀ a, a ≤ 9 → c2 a w = c a w) (hp : ∀ p : Nat, c 9 w = p → (∀ a, 9 ≤ a → a ≤ 12 → g2 (13 * p + a) = g (13 * p + a)) ∧ c2 0 p = c 0 p ∧ c2 1 p = c 1 p ∧ c2 2 p = c 2 p) : LCo g2 c2 w := by
  obtain ⟨h1, h2, h3, h4, h5, h6, h7, h8⟩ := h
  refine ⟨fun a ha => by rw [hg a (by omega), hc a (by omega)]; exact h1 a ha, by rw [hg 8 (by omega), hc 8 (by omega)]; exact h2, by rw [hc 9 (by omega)]; exact h3, by rw [hc 1 (by omega)]; exact h4, by rw [hg 10 (by omega)]; exact h5, by rw [hg 12 (by omega), hc 1 (by omega)]; exact h6, ?_, ?_⟩
  · rw [hc 9 (by omega), hc 1 (by omega), hg 9 (by omega), hg 10 (by omega), hg 11 (by omega), hg 12 (by omega)]
    exact h7
  · intro p e
    rw [hc 9 (by omega)] at e
    obtain ⟨p1, p2, p3, p4⟩ := hp p e
    rw [hc 1 (by omega), hg 9 (by omega), hg 10 (by omega), hg 11 (by omega), hg 12 (by omega), p1 9 (by omega) (by omega), p1 10 (by omega) (by omega), p1 11 (by omega) (by omega), p1 12 (by omega) (by omega), p2, p3, p4]
    exact h8 p e
theorem stN {g : Nat → Int32} {s wd k x : Int32} {w a : Nat} {W : Int} (hs : s.toInt = W) (hW : W ≤ 40) (hw : wd.toInt = w) (hlt : (w : Int) < W) (hk : k.toInt = a) (ha : a ≤ 12) : stF 520 g s wd k x = upd g (13 * w + a) x := by
  rw [st_in ⟨by omega, by omega, by omega⟩ ⟨by omega, by omega⟩ ⟨by omega, by omega⟩]
  rw [show (13 * wd.toInt + k.toInt).toNat = 13 * w + a by omega]
theorem fldN {g : Nat → Int32} {s wd k : Int32} {w a : Nat} {W : Int} (hs : s.toInt = W) (hW : W ≤ 40) (hw : wd.toInt = w) (hlt : (w : Int) < W) (hk : k.toInt = a) (ha : a ≤ 12) : fldF 520 g s wd k = g (13 * w + a) := by
  rw [fld_in ⟨by omega, by omega, by omega⟩ ⟨by omega, by omega⟩ ⟨by omega, by omega⟩]
  rw [show (13 * wd.toInt + k.toInt).toNat = 13 * w + a by omega]
/-- a WORD as grow leaves it ahead of inherit -/
def grw0 (g : Nat → Int32) (s kd : Int32) : Nat → Int32 := (stF 520 (stF 520 (stF 520 (stF 520 (stF 520 (stF 520 (stF 520 (stF 520 (stF 520 (stF 520 (stF 520 (stF 520 (stF 520 (stF 520 (stF 520 (stF 520 (stF 520 g (s + 1) s 0 (-1)) (s + 1) s 1 (-1)) (s + 1) s 2 (-1)) (s + 1) s 3 (-1)) (s + 1) s 4 (-1)) (s + 1) s 5 (-1)) (s + 1) s 6 (-1)) (s + 1) s 7 (-1)) (s + 1) s 8 (-1)) (s + 1) s 9 (-1)) (s + 1) s 10 (-1)) (s + 1) s 11 (-1)) (s + 1) s 12 (-1)) (s + 1) s 0 kd) (s + 1) s 1 0) (s + 1) s 10 0) (s + 1) s 12 0)
theorem grw0_at {g : Nat → Int32} {s kd : Int32} {W : Nat} (hs : s.toInt = W) (h4 : W < 40) : (∀ i, i < 13 * W → grw0 g s kd i = g i) ∧ grw0 g s kd (13 * W + 0) = kd ∧ grw0 g s kd (13 * W + 1) = 0 ∧ grw0 g s kd (13 * W + 10) = 0 ∧ grw0 g s kd (13 * W + 12) = 0 ∧ ∀ a, a ≤ 11 → a ≠ 0 → a ≠ 1 → a ≠ 10 → grw0 g s kd (13 * W + a) = -1 := by
  have hx := T_add hs (show (1 : Int32).toInt = 1 from rfl) (by omega)
  have zz : ∀ (k : Int32) (a : Nat), k.toInt = a → a ≤ 12 → ∀ (g' : Nat → Int32) (x : Int32), stF 520 g' (s + 1) s k x = upd g' (13 * W + a) x := fun k a hk ha g' x => stN hx (by omega) hs (by omega) hk ha
  have z0 := zz 0 0 rfl (by omega)
  have z1 := zz 1 1 rfl (by omega)
  have z2 := zz 2 2 rfl (by omega)
  have z3 := zz 3 3 rfl (by omega)
  have z4 := zz 4 4 rfl (by omega)
  have z5 := zz 5 5 rfl (by omega)
  have z6 := zz 6 6 rfl (by omega)
  have z7 := zz 7 7 rfl (by omega)
  have z8 := zz 8 8 rfl (by omega)
  have z9 := zz 9 9 rfl (by omega)
  have z10 := zz 10 10 rfl (by omega)
  have z11 := zz 11 11 rfl (by omega)
  have z12 := zz 12 12 rfl (by omega)
  unfold grw0
  simp only [z0, z1, z2, z3, z4, z5, z6, z7, z8, z9, z10, z11, z12]
  clear z0 z1 z2 z3 z4 z5 z6 z7 z8 z9 z10 z11 z12 zz
  refine ⟨fun i hi => ?_, ?_, ?_, ?_, ?_, fun a h1 h2 h3 h4 => ?_⟩
  · have hn : ∀ k, ¬ i = 13 * W + k := fun k => by omega
    simp only [updE, hn, if_false]
  · simp [updE]
  · simp [updE]
  · simp [updE]
  · simp [updE]
  · simp only [updE, Nat.add_left_cancel_iff]
    rw [if_neg (by omega), if_neg h4, if_neg h3, if_neg h2]
    (repeat' split) <;> first | rfl | (exfalso; omega)
theorem inh_at {g : Nat → Int32} {s wd ar : Int32} {W P : Nat} (hs : s.toInt = (W : Int) + 1) (h4 : W < 40) (hw : wd.toInt = W) (ha : ar.toInt = P) (hlt : P < W) :
    (∀ i, i < 13 * W → i ≠ 13 * P + 3 → i ≠ 13 * P + 4 → inhF 520 g s wd ar i = g i) ∧ inhF 520 g s wd ar (13 * P + 3) = (if g (13 * P + 3) = -1 then wd else g (13 * P + 3)) ∧ inhF 520 g s wd ar (13 * P + 4) = (if g (13 * P + 3) = -1 then g (13 * P + 4) else wd)
    ∧ (∀ a, a ≤ 8 → a ≠ 1 → inhF 520 g s wd ar (13 * W + a) = g (13 * W + a)) ∧ inhF 520 g s wd ar (13 * W + 1) = g (13 * P + 1) + 1
    ∧ inhF 520 g s wd ar (13 * W + 9) = (if g (13 * P + 0) = 10 then (if g (13 * P + 9) = -1 then g (13 * P + 2) else (if g (13 * P + 2) < g (13 * P + 9) then g (13 * P + 2) else g (13 * P + 9))) else g (13 * P + 9))
    ∧ inhF 520 g s wd ar (13 * W + 10) = (if g (13 * P + 0) = 2 then 1 - g (13 * P + 10) else g (13 * P + 10))
    ∧ inhF 520 g s wd ar (13 * W + 11) = (if g (13 * P + 0) = 8 then ar else g (13 * P + 11))
    ∧ inhF 520 g s wd ar (13 * W + 12) = g (13 * P + 12) + (if g (13 * P + 0) = 8 then 1 else 0) := by
  have zz : ∀ (k : Int32) (a : Nat), k.toInt = a → a ≤ 12 → ∀ (g' : Nat → Int32) (x : Int32), stF 520 g' s wd k x = upd g' (13 * W + a) x := fun k a hk ha g' x => stN hs (by omega) hw (by omega) hk ha
  have z1 := zz 1 1 rfl (by omega)
  have z9 := zz 9 9 rfl (by omega)
  have z10 := zz 10 10 rfl (by omega)
  have z11 := zz 11 11 rfl (by omega)
  have z12 := zz 12 12 rfl (by omega)
  have yy : ∀ (k : Int32) (a : Nat), k.toInt = a → a ≤ 12 → ∀ (g' : Nat → Int32) (x : Int32), stF 520 g' s ar k x = upd g' (13 * P + a) x := fun k a hk h12 g' x => stN hs (by omega) ha (by omega) hk h12
  have y3 := yy 3 3 rfl (by omega)
  have y4 := yy 4 4 rfl (by omega)
  have ff : ∀ (k : Int32) (a : Nat), k.toInt = a → a ≤ 12 → ∀ (g' : Nat → Int32), fldF 520 g' s ar k = g' (13 * P + a) := fun k a hk h12 g' => fldN hs (by omega) ha (by omega) hk h12
  have f0 := ff 0 0 rfl (by omega)
  have f1 := ff 1 1 rfl (by omega)
  have f2 := ff 2 2 rfl (by omega)
  have f3 := ff 3 3 rfl (by omega)
  have f9 := ff 9 9 rfl (by omega)
  have f10 := ff 10 10 rfl (by omega)
  have f11 := ff 11 11 rfl (by omega)
  have f12 := ff 12 12 rfl (by omega)
  clear zz yy ff
  have nP : ∀ a b : Nat, b ≤ 12 → ¬ 13 * P + b = 13 * W + a := fun a b _ => by omega
  have nW : ∀ a b : Nat, a ≤ 12 → b ≤ 12 → ¬ 13 * W + a = 13 * P + b := fun a b _ _ => by omega
  unfold inhF
  simp only [f0, f2, f3, f9, f10]
  by_cases c3 : g (13 * P + 3) = -1
  · simp only [if_pos c3, y3, z1, z9, z10, z11, z12, f1, f11, f12]
    have e1 : ∀ a, a ≤ 12 → a ≠ 3 → ∀ x : Int32, upd g (13 * P + 3) x (13 * P + a) = g (13 * P + a) := fun a _ h x => by rw [updE, if_neg (by omega)]
    have e2 : ∀ (g' : Nat → Int32) (a b : Nat) (x : Int32), b ≤ 12 → upd g' (13 * W + a) x (13 * P + b) = g' (13 * P + b) := fun g' a b x hb => by rw [updE, if_neg (nP a b hb)]
    simp only [fun x => e1 1 (by omega) (by omega) x, fun x => e1 11 (by omega) (by omega) x, fun x => e1 12 (by omega) (by omega) x, fun g' a x => e2 g' a 11 x (by omega), fun g' a x => e2 g' a 12 x (by omega)]
    refine ⟨fun i h1 h2 h3 => ?_, ?_, ?_, fun a h1 h2 => ?_, ?_, ?_, ?_, ?_, ?_⟩
    · have hn : ∀ k, ¬ i = 13 * W + k := fun k => by omega
      simp only [updE, hn, h2, if_false]
    · simp only [updE, fun x => nP x 3 (by omega), if_false, if_true]
    · simp only [updE, fun x => nP x 4 (by omega), if_false]
      rw [if_neg (by omega)]
    · simp only [updE, Nat.add_left_cancel_iff]
      rw [if_neg (by omega), if_neg (by omega), if_neg (by omega), if_neg (by omega), if_neg h2, if_neg (nW a 3 (by omega) (by omega))]
    · simp [updE]
    · simp [updE]
    · simp [updE]
    · simp [updE]
    · simp [updE]
  · simp only [if_neg c3, y4, z1, z9, z10, z11, z12, f1, f11, f12]
    have e1 : ∀ a, a ≤ 12 → a ≠ 4 → ∀ x : Int32, upd g (13 * P + 4) x (13 * P + a) = g (13 * P + a) := fun a _ h x => by rw [updE, if_neg (by omega)]
    have e2 : ∀ (g' : Nat → Int32) (a b : Nat) (x : Int32), b ≤ 12 → upd g' (13 * W + a) x (13 * P + b) = g' (13 * P + b) := fun g' a b x hb => by rw [updE, if_neg (nP a b hb)]
    simp only [fun x => e1 1 (by omega) (by omega) x, fun x => e1 11 (by omega) (by omega) x, fun x => e1 12 (by omega) (by omega) x, fun g' a x => e2 g' a 11 x (by omega), fun g' a x => e2 g' a 12 x (by omega)]
    refine ⟨fun i h1 h2 h3 => ?_, ?_, ?_, fun a h1 h2 => ?_, ?_, ?_, ?_, ?_, ?_⟩
    · have hn : ∀ k, ¬ i = 13 * W + k := fun k => by omega
      simp only [updE, hn, h3, if_false]
    · simp only [updE, fun x => nP x 3 (by omega), if_false]
      rw [if_neg (by omega)]
    · simp only [updE, fun x => nP x 4 (by omega), if_false, if_true]
    · simp only [updE, Nat.add_left_cancel_iff]
      rw [if_neg (by omega), if_neg (by omega), if_neg (by omega), if_neg (by omega), if_neg h2, if_neg (nW a 4 (by omega) (by omega))]
    · simp [updE]
    · simp [updE]
    · simp [updE]
    · simp [updE]
    · simp [updE]
theorem nwC_at {kd dp par : Int} {W : Nat} {sec : Bool} {c : Cn} (hp : par < W) : (∀ a, a ≤ 9 → nwC kd W par sec dp c a W = (if a = 0 then kd else if a = 1 then dp else if a = 9 then par else -1)) ∧ (∀ a w, w ≠ W → ¬ ((w : Int) = par ∧ a = (if sec then 4 else 3)) → nwC kd W par sec dp c a w = c a w) ∧ (∀ P : Nat, par = P → nwC kd W par sec dp c (if sec then 4 else 3) P = W) ∧ (∀ a w, 10 ≤ a → nwC kd W par sec dp c a w = c a w) := by
  refine ⟨fun a ha => ?_, fun a w hw hn => ?_, fun P hP => ?_, fun a w ha => ?_⟩
  · unfold nwC; rw [if_pos ⟨rfl, ha⟩]
  · unfold nwC; rw [if_neg (fun z => hw z.1), if_neg hn]
  · unfold nwC; rw [if_neg (fun z => by have := z.1; omega), if_pos ⟨by omega, rfl⟩]
  · unfold nwC; rw [if_neg (fun z => by have := z.2; omega), if_neg (fun z => by have h := z.2; cases sec <;> simp at h <;> omega)]
/-- the WORD around a WORD that begins: none, or one whose first DEED (second, where sec) is still wanting -/
def dqC (c : Cn) (W O : Nat) (par : Int) (sec : Bool) : Prop := (par = -1 ∧ O = 0) ∨ ∃ P : Nat, par = P ∧ P < W ∧ c 1 P = (O : Int) - 1 ∧ (c 3 P = -1 ↔ sec = false)
theorem LCw_grow {g : Nat → Int32} {c : Cn} {s kd ar : Int32} {W O K : Nat} {par : Int} {sec : Bool} (hs : s.toInt = W) (h4 : W < 40) (hL : LCw g c W) (hO : O ≤ 11) (hk : kd.toInt = K) (har : ar.toInt = par) (hd : dqC c W O par sec) : LCw (grwF 520 g s kd ar).2.1 (nwC K W par sec O c) (W + 1) := by
  have e13 : (13 : Int32).toInt = 13 := rfl
  have e11 : (11 : Int32).toInt = 11 := rfl
  have e1 : (1 : Int32).toInt = 1 := rfl
  have e0 : (0 : Int32).toInt = 0 := rfl
  have em : (-1 : Int32).toInt = -1 := rfl
  have eN : (Int32.ofNat 520).toInt = 520 := rfl
  have hx := T_add hs e1 (by omega)
  have hy := T_mul hx e13 (by omega)
  obtain ⟨g1, g2, g3, g4, g5, g6⟩ := grw0_at (g := g) (kd := kd) hs h4
  have hpW : par < W := by rcases hd with ⟨d1, d2⟩ | ⟨P, d1, d2, d3, d4⟩ <;> omega
  obtain ⟨n1, n2, n3, n4⟩ := nwC_at (kd := K) (dp := O) (sec := sec) (c := c) hpW
  have eg : (grwF 520 g s kd ar).2.1 = (if ar < 0 then grw0 g s kd else inhF 520 (grw0 g s kd) (s + 1) s ar) := by
    unfold grwF
    rw [if_neg (show ¬ s < 0 by rw [fl_lt]; omega), if_neg (show ¬ Int32.ofNat 520 < (s + 1) * 13 by rw [fl_lt, eN, hy]; omega)]
    rcases hd with ⟨d1, d2⟩ | ⟨P, d1, d2, d3, d4⟩
    · rw [if_pos (show fldF 520 g s ar 1 < 11 by rw [fld_out (Or.inl (by omega))]; decide), if_pos (show ar < 0 by rw [fl_lt]; omega), if_pos (show ar < 0 by rw [fl_lt]; omega)]
      rfl
    · have hP := (hL P d2).1 1 (by omega)
      have hf : fldF 520 g s ar 1 = g (13 * P + 1) := fldN hs (by omega) (by omega) (by omega) rfl (by omega)
      rw [if_pos (show fldF 520 g s ar 1 < 11 by rw [hf, fl_lt]; omega), if_neg (show ¬ ar < 0 by rw [fl_lt]; omega), if_neg (show ¬ s ≤ ar by rw [fl_le]; omega), if_neg (show ¬ ar < 0 by rw [fl_lt]; omega)]
      rfl
  rw [eg]
  clear eg
  generalize grw0 g s kd = G at g1 g2 g3 g4 g5 g6 ⊢
  have n9 := n1 9 (by omega)
  rw [if_neg (by omega), if_neg (by omega), if_pos rfl] at n9
  have n0 := n1 0 (by omega)
  rw [if_pos rfl] at n0
  have n01 := n1 1 (by omega)
  rw [if_neg (by omega), if_pos rfl] at n01
  have n8 := n1 8 (by omega)
  rw [if_neg (by omega), if_neg (by omega), if_neg (by omega)] at n8
  have nx : ∀ a, 2 ≤ a → a ≤ 7 → nwC K W par sec O c a W = -1 := fun a h1 h2 => by rw [n1 a (by omega), if_neg (by omega), if_neg (by omega), if_neg (by omega)]
  rcases hd with ⟨d1, d2⟩ | ⟨P, d1, d2, d3, d4⟩
  · rw [if_pos (show ar < 0 by rw [fl_lt]; omega)]
    intro w hw
    by_cases e : w = W
    · subst e
      refine ⟨fun a ha => ?_, by rw [g6 8 (by omega) (by omega) (by omega) (by omega), n8]; decide, by rw [n9]; omega, by rw [n01]; omega, by rw [g4]; decide, by rw [g5, n01]; omega, fun _ => ⟨by rw [n01]; omega, by rw [g6 9 (by omega) (by omega) (by omega) (by omega)]; decide, by rw [g4]; decide, by rw [g6 11 (by omega) (by omega) (by omega) (by omega)]; decide, by rw [g5]; decide⟩, fun p hp => by rw [n9] at hp; omega⟩
      by_cases a0 : a = 0
      · rw [a0, g2, n0]; exact hk
      · by_cases a1 : a = 1
        · rw [a1, g3, n01, d2]; decide
        · rw [g6 a (by omega) a0 a1 (by omega), nx a (by omega) ha]; decide
    · refine LCo_cg (hL w (by omega)) (fun a ha => g1 _ (by omega)) (fun a ha => n2 a w e (by omega)) (fun p hp => ?_)
      have hpl := (hL w (by omega)).2.2.1
      exact ⟨fun a _ ha => g1 _ (by omega), n2 0 p (by omega) (by omega), n2 1 p (by omega) (by omega), n2 2 p (by omega) (by omega)⟩
  · have hLP := hL P d2
    obtain ⟨l1, l2, l3, l4, l5, l6, l7, l8⟩ := hLP
    rw [if_neg (show ¬ ar < 0 by rw [fl_lt]; omega)]
    obtain ⟨i1, i2, i3, i4, i5, i6, i7, i8, i9⟩ := inh_at (g := G) (s := s + 1) (wd := s) (ar := ar) (W := W) (P := P) hx h4 hs (by omega) d2
    have gP : ∀ a, a ≤ 12 → G (13 * P + a) = g (13 * P + a) := fun a ha => g1 _ (by omega)
    rw [gP 3 (by omega)] at i2 i3
    rw [gP 4 (by omega)] at i3
    rw [gP 1 (by omega)] at i5
    rw [gP 0 (by omega), gP 2 (by omega), gP 9 (by omega)] at i6
    rw [gP 0 (by omega), gP 10 (by omega)] at i7
    rw [gP 0 (by omega), gP 11 (by omega)] at i8
    rw [gP 0 (by omega), gP 12 (by omega)] at i9
    generalize inhF 520 G (s + 1) s ar = H at i1 i2 i3 i4 i5 i6 i7 i8 i9 ⊢
    have t0 := l1 0 (by omega)
    have t1 := l1 1 (by omega)
    have t2 := l1 2 (by omega)
    have t3 := l1 3 (by omega)
    have t4 := l1 4 (by omega)
    have s3 : ¬ (sec = true) → (3 : Nat) = (if sec then 4 else 3) := fun z => by rw [if_neg z]
    have kp : ∀ a, a ≠ (if sec then 4 else 3) → nwC K W par sec O c a P = c a P := fun a ha => n2 a P (by omega) (fun z => ha z.2)
    have sle : (if sec then 4 else 3) = 3 ∨ (if sec then 4 else 3) = 4 := by cases sec <;> simp
    have k0 := kp 0 (by omega)
    have k1 := kp 1 (by omega)
    have k2 := kp 2 (by omega)
    have b8 : ∀ (x : Int32) (z : Int), x.toInt = z → ∀ n : Int32, (x = n ↔ z = n.toInt) := fun x z hz n => by rw [fl_eq, hz]
    intro w hw
    by_cases e : w = W
    · subst e
      have q5 := T_add t1 e1 (by omega)
      rw [← i5] at q5
      refine ⟨fun a ha => ?_, by rw [i4 8 (by omega) (by omega), g6 8 (by omega) (by omega) (by omega) (by omega), n8]; decide, by rw [n9]; omega, by rw [n01]; omega, ?_, ?_, fun z => by rw [n9] at z; omega, fun p hp => ?_⟩
      · by_cases a0 : a = 0
        · rw [a0, i4 0 (by omega) (by omega), g2, n0]; exact hk
        · by_cases a1 : a = 1
          · rw [a1, n01]; omega
          · rw [i4 a (by omega) a1, g6 a (by omega) a0 a1 (by omega), nx a (by omega) ha]; decide
      · rw [i7]
        split
        · have q := T_sub e1 (rfl : (g (13 * P + 10)).toInt = _) (by omega)
          omega
        · exact l5
      · rw [i9, n01]
        have q := T_add (rfl : (g (13 * P + 12)).toInt = _) (rfl : (if g (13 * P + 0) = 8 then (1 : Int32) else 0).toInt = _) (by split <;> (simp only [Int32.reduceToInt]; omega))
        rw [q]
        split <;> (simp only [Int32.reduceToInt]; omega)
      · rw [n9] at hp
        obtain rfl : p = P := by omega
        rw [k0, k1, k2, n01]
        refine ⟨by omega, ?_, ?_, ?_, ?_⟩
        · rw [i6]
          simp only [fl_eq, fl_lt, t0, t2, Int32.reduceToInt]
          by_cases c10 : c 0 p = 10
          · rw [if_pos c10, if_pos c10, i1 (13 * p + 9) (by omega) (by omega) (by omega), gP 9 (by omega)]
            by_cases cA : (g (13 * p + 9)).toInt = -1
            · rw [if_pos cA, if_pos (Or.inl cA)]; exact t2
            · rw [if_neg cA]
              by_cases cB : c 2 p < (g (13 * p + 9)).toInt
              · rw [if_pos cB, if_pos (Or.inr cB)]; exact t2
              · rw [if_neg cB, if_neg (fun z => z.elim cA cB)]
          · rw [if_neg c10, if_neg c10, i1 (13 * p + 9) (by omega) (by omega) (by omega), gP 9 (by omega)]
        · rw [i7, i1 (13 * p + 10) (by omega) (by omega) (by omega), gP 10 (by omega)]
          simp only [fl_eq, t0, Int32.reduceToInt]
          by_cases c2 : c 0 p = 2
          · rw [if_pos c2, if_pos c2]
            exact T_sub e1 rfl (by omega)
          · rw [if_neg c2, if_neg c2]
        · rw [i8, i1 (13 * p + 11) (by omega) (by omega) (by omega), gP 11 (by omega)]
          simp only [fl_eq, t0, Int32.reduceToInt]
          by_cases c2 : c 0 p = 8
          · rw [if_pos c2, if_pos c2]; omega
          · rw [if_neg c2, if_neg c2]
        · rw [i9, i1 (13 * p + 12) (by omega) (by omega) (by omega), gP 12 (by omega)]
          simp only [fl_eq, t0, Int32.reduceToInt]
          by_cases c2 : c 0 p = 8
          · rw [if_pos c2, if_pos c2]
            exact T_add rfl e1 (by omega)
          · rw [if_neg c2, if_neg c2]
            exact T_add rfl e0 (by omega)
    · have hLw := hL w (by omega)
      have hwl := hLw.2.2.1
      by_cases eP : w = P
      · subst eP
        have hg : ∀ a, a ≤ 12 → a ≠ 3 → a ≠ 4 → H (13 * w + a) = g (13 * w + a) := fun a h1 h2 h3 => by rw [i1 _ (by omega) (by omega) (by omega), gP a h1]
        have hup : ∀ p : Nat, c 9 w = p → (∀ a, 9 ≤ a → a ≤ 12 → H (13 * p + a) = g (13 * p + a)) ∧ nwC K W par sec O c 0 p = c 0 p ∧ nwC K W par sec O c 1 p = c 1 p ∧ nwC K W par sec O c 2 p = c 2 p := fun p hp => ⟨fun a _ h => by rw [i1 _ (by omega) (by omega) (by omega), g1 _ (by omega)], n2 0 p (by omega) (by omega), n2 1 p (by omega) (by omega), n2 2 p (by omega) (by omega)⟩
        obtain ⟨h1, h2, h3, h4', h5, h6, h7, h8⟩ := hLw
        have k8 := kp 8 (by omega)
        have k9 := kp 9 (by omega)
        have n3' := n3 w d1
        refine ⟨fun a ha => ?_, by rw [hg 8 (by omega) (by omega) (by omega), k8]; exact h2, by rw [k9]; exact h3, by rw [k1]; exact h4', by rw [hg 10 (by omega) (by omega) (by omega)]; exact h5, by rw [hg 12 (by omega) (by omega) (by omega), k1]; exact h6, ?_, fun p hp => ?_⟩
        · cases sec with
          | false =>
            have c3 : c 3 w = -1 := d4.mpr rfl
            have g3' : g (13 * w + 3) = -1 := Int32.toInt_inj.mp (by rw [t3, c3]; rfl)
            rw [if_neg (show ¬ (false = true) by decide)] at n3'
            by_cases a3 : a = 3
            · rw [a3, i2, if_pos g3', n3']; exact hs
            · rw [kp a (by rw [if_neg (show ¬ (false = true) by decide)]; exact a3)]
              by_cases a4 : a = 4
              · rw [a4, i3, if_pos g3']; exact h1 4 (by omega)
              · rw [hg a (by omega) a3 a4]; exact h1 a ha
          | true =>
            have c3 : ¬ c 3 w = -1 := fun z => by have := d4.mp z; cases this
            have g3' : ¬ g (13 * w + 3) = -1 := fun z => c3 (by rw [← t3, z]; rfl)
            rw [if_pos rfl] at n3'
            by_cases a4 : a = 4
            · rw [a4, i3, if_neg g3', n3']; exact hs
            · rw [kp a (by rw [if_pos rfl]; exact a4)]
              by_cases a3 : a = 3
              · rw [a3, i2, if_neg g3']; exact h1 3 (by omega)
              · rw [hg a (by omega) a3 a4]; exact h1 a ha
        · rw [k9, k1, hg 9 (by omega) (by omega) (by omega), hg 10 (by omega) (by omega) (by omega), hg 11 (by omega) (by omega) (by omega), hg 12 (by omega) (by omega) (by omega)]
          exact h7
        · rw [k9] at hp
          obtain ⟨p1, p2, p3, p4⟩ := hup p hp
          rw [k1, hg 9 (by omega) (by omega) (by omega), hg 10 (by omega) (by omega) (by omega), hg 11 (by omega) (by omega) (by omega), hg 12 (by omega) (by omega) (by omega), p1 9 (by omega) (by omega), p1 10 (by omega) (by omega), p1 11 (by omega) (by omega), p1 12 (by omega) (by omega), p2, p3, p4]
          exact h8 p hp
      · refine LCo_cg hLw (fun a ha => by rw [i1 _ (by omega) (by omega) (by omega), g1 _ (by omega)]) (fun a ha => n2 a w e (by omega)) (fun p hp => ?_)
        refine ⟨fun a h9 ha => by rw [i1 _ (by omega) (by omega) (by omega), g1 _ (by omega)], ?_, ?_, ?_⟩
        · by_cases epP : p = P
          · rw [epP]; exact k0
          · exact n2 0 p (by omega) (by omega)
        · by_cases epP : p = P
          · rw [epP]; exact k1
          · exact n2 1 p (by omega) (by omega)
        · by_cases epP : p = P
          · rw [epP]; exact k2
          · exact n2 2 p (by omega) (by omega)
/-- fields 2, 5 .. 8 of the last WORD -/
theorem LCw_set {g g2 : Nat → Int32} {c c2 : Cn} {W : Nat} (hL : LCw g c (W + 1)) (h1 : ∀ i, i < 13 * W → g2 i = g i) (h2 : ∀ a w, a ≤ 9 → w ≠ W → c2 a w = c a w) (h3 : ∀ a, a ≤ 12 → (a = 0 ∨ a = 1 ∨ a = 3 ∨ a = 4 ∨ 9 ≤ a) → g2 (13 * W + a) = g (13 * W + a)) (h4 : ∀ a, a = 0 ∨ a = 1 ∨ a = 3 ∨ a = 4 ∨ a = 9 → c2 a W = c a W) (h5 : ∀ a, a = 2 ∨ a = 5 ∨ a = 6 ∨ a = 7 → (g2 (13 * W + a)).toInt = c2 a W) (h6 : (g2 (13 * W + 8)).toInt = cdS (c2 8 W)) : LCw g2 c2 (W + 1) := by
  intro w hw
  have hLw := hL w hw
  have hwl := hLw.2.2.1
  by_cases e : w = W
  · subst e
    obtain ⟨l1, l2, l3, l4, l5, l6, l7, l8⟩ := hLw
    refine ⟨fun a ha => ?_, h6, by rw [h4 9 (by omega)]; exact l3, by rw [h4 1 (by omega)]; exact l4, by rw [h3 10 (by omega) (by omega)]; exact l5, by rw [h3 12 (by omega) (by omega), h4 1 (by omega)]; exact l6, ?_, fun p hp => ?_⟩
    · by_cases ca : a = 2 ∨ a = 5 ∨ a = 6 ∨ a = 7
      · exact h5 a ca
      · rw [h3 a (by omega) (by omega), h4 a (by omega)]; exact l1 a ha
    · rw [h4 9 (by omega), h4 1 (by omega), h3 9 (by omega) (by omega), h3 10 (by omega) (by omega), h3 11 (by omega) (by omega), h3 12 (by omega) (by omega)]
      exact l7
    · rw [h4 9 (by omega)] at hp
      rw [h4 1 (by omega), h2 0 p (by omega) (by omega), h2 1 p (by omega) (by omega), h2 2 p (by omega) (by omega), h3 9 (by omega) (by omega), h3 10 (by omega) (by omega), h3 11 (by omega) (by omega), h3 12 (by omega) (by omega), h1 (13 * p + 9) (by omega), h1 (13 * p + 10) (by omega), h1 (13 * p + 11) (by omega), h1 (13 * p + 12) (by omega)]
      exact l8 p hp
  · exact LCo_cg hLw (fun a ha => h1 _ (by omega)) (fun a ha => h2 a w ha e) (fun p hp => ⟨fun a _ ha => h1 _ (by omega), h2 0 p (by omega) (by omega), h2 1 p (by omega) (by omega), h2 2 p (by omega) (by omega)⟩)