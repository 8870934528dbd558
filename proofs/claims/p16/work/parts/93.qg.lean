/-! the laws on the class's graph -/
theorem gkN_set {g g2 h : Nat → Int32} {s v : Int} {H : Nat → Hd} {fi se : Nat → Nat} {w0 : Nat} {a : Hd} (hG : gkN g h s v H fi se) (hw : (w0 : Int) < s) (e1 : ∀ w c, w ≠ w0 → c ≤ 12 → g2 (13 * w + c) = g (13 * w + c)) (e3 : g2 (13 * w0 + 3) = g (13 * w0 + 3) ∧ g2 (13 * w0 + 4) = g (13 * w0 + 4)) (ha : hdK g2 h v w0 a) (va : hvH a) (l1 : 1 ≤ arH a → 1 ≤ arH (H w0)) (l2 : arH a = 2 → arH (H w0) = 2) : gkN g2 h s v (fun w => if w = w0 then a else H w) fi se := by
  intro w hlt
  obtain ⟨k1, k2, k3, k4⟩ := hG w hlt
  by_cases e : w = w0
  · subst e
    dsimp only
    rw [if_pos rfl, e3.1, e3.2]
    exact ⟨ha, va, fun z => k3 (l1 z), fun z => k4 (l2 z)⟩
  · dsimp only
    rw [if_neg e, e1 w 3 e (by decide), e1 w 4 e (by decide)]
    refine ⟨?_, k2, k3, k4⟩
    unfold hdK at k1 ⊢
    rw [e1 w 0 e (by decide), e1 w 2 e (by decide), e1 w 8 e (by decide), e1 w 5 e (by decide), e1 w 6 e (by decide), e1 w 7 e (by decide)]
    exact k1
theorem stG {n1 : Nat} {g : Nat → Int32} {s wd k x : Int32} {w a : Nat} (hs : 0 ≤ s.toInt ∧ 13 * s.toInt ≤ n1 ∧ n1 ≤ 520) (hw : wd.toInt = w) (hlt : (w : Int) < s.toInt) (hk : k.toInt = a) (ha : a ≤ 12) : stF n1 g s wd k x = upd g (13 * w + a) x := by
  have e0 : (0 : Int32).toInt = 0 := rfl
  have e13 : (13 : Int32).toInt = 13 := rfl
  have en : (Int32.ofNat n1).toInt = n1 := ofN_toInt (by omega)
  have q1 := T_mul hw e13 (by omega)
  have q2 := T_add q1 hk (by omega)
  unfold stF
  rw [if_neg (by rw [fl_lt, e0]; omega), if_neg (by rw [fl_le]; omega), if_neg (by rw [fl_lt, e0]; omega), if_pos (by rw [fl_lt, e13]; omega), if_neg (by rw [fl_le, en]; omega), cl_N q2 (by omega)]
  congr 1
  omega
section AP
variable {g h : Nat → Int32} {s v : Int32} {H : Nat → Hd} {fi se : Nat → Nat} {X : Nat}
theorem tr_fu (hG : gkN g h s.toInt v.toInt H fi se) (hs : s.toInt ≤ 40) (hX : (X : Int) < s.toInt) : trG H fi se 40 X = trG H fi se 41 X := trG_cg (lo := 0) (m := s.toInt.toNat) (fun w _ hw => gkN_gO hG w hw) (fun w _ _ => ⟨rfl, fun _ => rfl, fun _ => rfl⟩) 41 40 X (by omega) (by omega) (by omega) (by omega)
theorem t41_2 (hG : gkN g h s.toInt v.toInt H fi se) (hs : s.toInt ≤ 40) (hX : (X : Int) < s.toInt) (a : arH (H X) = 2) : trG H fi se 41 X = H X :: (trG H fi se 41 (fi X) ++ trG H fi se 41 (se X)) := by
  obtain ⟨_, _, k3, k4⟩ := hG X hX
  rw [show (41 : Nat) = 40 + 1 from rfl, tr_2 a, tr_fu hG hs (k3 (by omega)).2.2, tr_fu hG hs (k4 a).2.2]
theorem t41_1 (hG : gkN g h s.toInt v.toInt H fi se) (hs : s.toInt ≤ 40) (hX : (X : Int) < s.toInt) (a : arH (H X) = 1) : trG H fi se 41 X = H X :: trG H fi se 41 (fi X) := by
  obtain ⟨_, _, k3, _⟩ := hG X hX
  rw [show (41 : Nat) = 40 + 1 from rfl, tr_1 a, tr_fu hG hs (k3 (by omega)).2.2]
theorem t41_0 (a : arH (H X) = 0) : trG H fi se 41 X = [H X] := tr_0 a
theorem t41_k : kdT (trG H fi se 41 X) = (H X).1 := rfl
/-- what apply tells: the answer R, the graph behind it -/
def apO (H : Nat → Hd) (fi se : Nat → Nat) (X : Nat) (H2 : Nat → Hd) (R : Nat) : Prop := trG H2 fi se 41 R = lwT (H X) (trG H fi se 41 (fi X)) (trG H fi se 41 (se X)) ∧ (R = X ∨ (1 ≤ arH (H X) ∧ R = fi X) ∨ (arH (H X) = 2 ∧ R = se X) ∨ (1 ≤ arH (H X) ∧ 1 ≤ arH (H (fi X)) ∧ R = fi (fi X))) ∧ (∀ w, w ≠ X → ¬ (1 ≤ arH (H X) ∧ w = fi X) → H2 w = H w) ∧ (∀ w, (1 ≤ arH (H2 w) → 1 ≤ arH (H w)) ∧ (arH (H2 w) = 2 → arH (H w) = 2))
theorem ap_0 (a : (H X).1 ≤ 1) (a0 : arH (H X) = 0) : apO H fi se X H X := ⟨by rw [t41_0 a0]; unfold lwT; rw [if_pos a], Or.inl rfl, fun _ _ _ => rfl, fun _ => ⟨id, id⟩⟩
theorem ap_fi (a : 1 ≤ arH (H X)) (e : lwT (H X) (trG H fi se 41 (fi X)) (trG H fi se 41 (se X)) = trG H fi se 41 (fi X)) : apO H fi se X H (fi X) := ⟨e.symm, Or.inr (Or.inl ⟨a, rfl⟩), fun _ _ _ => rfl, fun _ => ⟨id, id⟩⟩
theorem ap_se (a : arH (H X) = 2) (e : lwT (H X) (trG H fi se 41 (fi X)) (trG H fi se 41 (se X)) = trG H fi se 41 (se X)) : apO H fi se X H (se X) := ⟨e.symm, Or.inr (Or.inr (Or.inl ⟨a, rfl⟩)), fun _ _ _ => rfl, fun _ => ⟨id, id⟩⟩
theorem ap_x (e : lwT (H X) (trG H fi se 41 (fi X)) (trG H fi se 41 (se X)) = trG H fi se 41 X) : apO H fi se X H X := ⟨e.symm, Or.inl rfl, fun _ _ _ => rfl, fun _ => ⟨id, id⟩⟩
theorem ap_ff (hG : gkN g h s.toInt v.toInt H fi se) (hs : s.toInt ≤ 40) (hX : (X : Int) < s.toInt) (k : (H X).1 = 2) (a : 1 ≤ arH (H X)) (k2 : (H (fi X)).1 = 2) (a2 : arH (H (fi X)) = 1) : apO H fi se X H (fi (fi X)) := by
  obtain ⟨_, _, k3, _⟩ := hG X hX
  refine ⟨?_, Or.inr (Or.inr (Or.inr ⟨a, by omega, rfl⟩)), fun _ _ _ => rfl, fun _ => ⟨id, id⟩⟩
  unfold lwT
  rw [if_neg (by omega), if_pos k, if_neg (by rw [t41_k]; omega), if_pos (by rw [t41_k]; exact k2), t41_1 hG hs (k3 a).2.2 a2]
  rfl
end AP
theorem lw_k2 {h : Hd} {A B : List Hd} (k : h.1 = 2) (a : ¬ kdT A = 0) (b : ¬ kdT A = 2) : lwT h A B = h :: A := by unfold lwT; rw [if_neg (by omega), if_pos k, if_neg a, if_neg b]
theorem lw_n1 {h : Hd} {A B : List Hd} (k : h.1 = 2 ∨ h.1 = 6 ∨ h.1 = 7 ∨ h.1 = 8 ∨ h.1 = 9 ∨ h.1 = 10) (a : kdT A = 0) : lwT h A B = A := by
  unfold lwT
  (repeat' split) <;> first | rfl | (exfalso; omega)
theorem lw_k6 {h : Hd} {A B : List Hd} (k : h.1 = 6 ∨ h.1 = 7 ∨ h.1 = 8) (a : ¬ kdT A = 0) : lwT h A B = h :: A := by
  unfold lwT
  (repeat' split) <;> first | rfl | (exfalso; omega)
theorem lw_k10 {h : Hd} {A B : List Hd} (k : h.1 = 10) (a : ¬ kdT A = 0) (b : ¬ kdT A = 10) : lwT h A B = h :: A := by
  unfold lwT
  rw [if_neg (by omega), if_neg (by omega), if_neg (by omega), if_neg (by omega), if_neg (by omega), if_pos k, if_neg b, if_neg a]
theorem lw_kc {h : Hd} {A B : List Hd} (k : h.1 = 10) (b : kdT A = 10) : lwT h A B = cpT h.2.1 A := by
  unfold lwT
  rw [if_neg (by omega), if_neg (by omega), if_neg (by omega), if_neg (by omega), if_neg (by omega), if_pos k, if_pos b]
theorem lw_3a {h : Hd} {A B : List Hd} (k : h.1 = 3) (a : kdT A = 0) : lwT h A B = B := by unfold lwT; rw [if_neg (by omega), if_neg (by omega), if_pos k, if_pos a]
theorem lw_3b {h : Hd} {A B : List Hd} (k : h.1 = 3) (a : ¬ kdT A = 0) (b : kdT B = 0) : lwT h A B = A := by unfold lwT; rw [if_neg (by omega), if_neg (by omega), if_pos k, if_neg a, if_pos b]
theorem lw_3c {h : Hd} {A B : List Hd} (k : h.1 = 3) (a : ¬ kdT A = 0) (b : ¬ kdT B = 0) : lwT h A B = h :: (A ++ B) := by unfold lwT; rw [if_neg (by omega), if_neg (by omega), if_pos k, if_neg a, if_neg b]
theorem lw_4a {h : Hd} {A B : List Hd} (k : h.1 = 4 ∨ h.1 = 5) (e : A = B) : lwT h A B = A := by unfold lwT; rw [if_neg (by omega), if_neg (by omega), if_neg (by omega), if_pos k, if_pos e]
theorem lw_4b {h : Hd} {A B : List Hd} (k : h.1 = 4 ∨ h.1 = 5) (e : ¬ A = B) : lwT h A B = h :: (A ++ B) := by unfold lwT; rw [if_neg (by omega), if_neg (by omega), if_neg (by omega), if_pos k, if_neg e]
theorem lw_90 {h : Hd} {A B : List Hd} (k : h.1 = 9) (a : ¬ kdT A = 0) (e : alH h 0) : lwT h A B = [noH] := by unfold lwT; rw [if_neg (by omega), if_neg (by omega), if_neg (by omega), if_neg (by omega), if_pos k, if_neg a, if_pos e]
theorem lw_91 {h : Hd} {A B : List Hd} (k : h.1 = 9) (a : ¬ kdT A = 0) (e : alH h 1) : lwT h A B = A := by unfold lwT; rw [if_neg (by omega), if_neg (by omega), if_neg (by omega), if_neg (by omega), if_pos k, if_neg a, if_neg (fun z => absurd (z.2.2.symm.trans e.2.2) (by decide)), if_pos e]
theorem lw_92 {h : Hd} {A B : List Hd} (k : h.1 = 9) (a : ¬ kdT A = 0) (e : ¬ alH h 0) (e1 : ¬ alH h 1) : lwT h A B = h :: A := by unfold lwT; rw [if_neg (by omega), if_neg (by omega), if_neg (by omega), if_neg (by omega), if_pos k, if_neg a, if_neg e, if_neg e1]
/-- the law of a scale by a NUMBER alone -/
theorem sc_c {n1 n2 : Nat} {g h : Nat → Int32} {s v x y : Int32} {H : Nat → Hd} {fi se : Nat → Nat} {X : Nat} (hs : 0 ≤ s.toInt ∧ 13 * s.toInt ≤ n1 ∧ n1 ≤ 520) (hv : 0 ≤ v.toInt ∧ 2 * v.toInt ≤ n2 ∧ n2 ≤ 80) (hG : gkN g h s.toInt v.toInt H fi se) (hx : x.toInt = X) (hX : (X : Int) < s.toInt) (k : (H X).1 = 9) :
    (alH (H X) 0 ∧ (scLF n1 n2 g h s v x y).1 = x ∧ gkN (scLF n1 n2 g h s v x y).2 h s.toInt v.toInt (fun w => if w = X then noH else H w) fi se) ∨ (alH (H X) 1 ∧ scLF n1 n2 g h s v x y = (y, g)) ∨ (¬ alH (H X) 0 ∧ ¬ alH (H X) 1 ∧ scLF n1 n2 g h s v x y = (x, g)) := by
  obtain ⟨ga, va, gf, gs⟩ := hG X hX
  obtain ⟨a0, a2, a8, an, ay⟩ := id ga
  obtain ⟨V, A5, A6, A7, A8, A9⟩ := ay (by omega)
  have hfld : ∀ (k : Int32) (c : Nat), k.toInt = c → c ≤ 12 → fldF n1 g s x k = g (13 * X + c) := fun k c hk hc => fldG hs hx hX hk hc
  have q6 := T_sub A6 A5 (by have := hv.2.1; unfold nvH at A8; omega)
  have e1 : (1 : Int32).toInt = 1 := rfl
  have e0 : (0 : Int32).toInt = 0 := rfl
  have hl := va.2.2.2.2.2.1 (by omega)
  unfold scLF
  rw [hfld 6 6 rfl (by decide), hfld 5 5 rfl (by decide)]
  by_cases c1 : g (13 * X + 6) - g (13 * X + 5) = 1
  · rw [if_pos c1]
    rw [fl_eq, q6, e1] at c1
    have ln : (H X).2.2.2.1.length = 1 := by omega
    obtain ⟨z, ez⟩ : ∃ z, (H X).2.2.2.1 = [z] := by
      cases hq : (H X).2.2.2.1 with
      | nil => rw [hq] at ln; cases ln
      | cons z L =>
        rw [hq] at ln
        cases L with
        | nil => exact ⟨z, rfl⟩
        | cons y L => rw [List.length_cons, List.length_cons] at ln; omega
    have hz : hvV z := by rw [ez] at hl; exact hl.2.1
    have hcell : (h (2 * V + 1)).toInt = cdV z.2.1 z.2.2 := by
      unfold vsH at A9
      rw [ez] at A9
      exact A9.2.1
    obtain ⟨_, hvl⟩ := jntG (h := h) (j := V) hv (i := g (13 * X + 5)) A5 (by unfold nvH at A8; omega)
    rw [hvl]
    have dec : ∀ n : Int, 0 ≤ n → ((h (2 * V + 1)).toInt = n ↔ alH (H X) n) := fun n hn => by
      unfold alH
      rw [ez, hcell]
      obtain ⟨h1, h2, h3⟩ := hz
      have g0 : ([z].getD 0 ((0 : Int), (0 : Int), (0 : Int))) = z := rfl
      rw [g0]
      unfold cdV
      constructor
      · intro q
        by_cases d1 : z.2.1 = -1
        · rw [if_pos d1] at q; exact ⟨rfl, d1, q⟩
        · rw [if_neg d1] at q
          by_cases d6 : z.2.1 = 6
          · rw [if_pos d6] at q; omega
          · rw [if_neg d6] at q; omega
      · intro q
        rw [if_pos q.2.1]; exact q.2.2
    by_cases d0 : h (2 * V + 1) = 0
    · rw [if_pos d0]
      have hal := (dec 0 (by omega)).mp (by rw [d0]; rfl)
      refine Or.inl ⟨hal, ?_⟩
      unfold lett
      dsimp only
      rw [if_neg (show ¬ h (2 * V + 1) = 1 by rw [d0]; decide)]
      refine ⟨rfl, ?_⟩
      show gkN (mknF n1 g s x) h s.toInt v.toInt _ fi se
      unfold mknF
      rw [stG hs hx hX (show (0 : Int32).toInt = (0 : Nat) from rfl) (by decide), stG hs hx hX (show (5 : Int32).toInt = (5 : Nat) from rfl) (by decide), stG hs hx hX (show (6 : Int32).toInt = (6 : Nat) from rfl) (by decide), stG hs hx hX (show (7 : Int32).toInt = (7 : Nat) from rfl) (by decide)]
      refine gkN_set hG hX (fun w c hw hc => by rw [updE, if_neg (by omega), updE, if_neg (by omega), updE, if_neg (by omega), updE, if_neg (by omega)]) ⟨by rw [updE, if_neg (by omega), updE, if_neg (by omega), updE, if_neg (by omega), updE, if_neg (by omega)], by rw [updE, if_neg (by omega), updE, if_neg (by omega), updE, if_neg (by omega), updE, if_neg (by omega)]⟩ ⟨?_, ?_, ?_, fun _ => ⟨?_, ?_, ?_⟩, fun z => absurd z (by decide)⟩ noH_hv (fun z => absurd z (by decide)) (fun z => absurd z (by decide))
      · rw [updE, if_neg (by omega), updE, if_neg (by omega), updE, if_neg (by omega), updE, if_pos rfl]; rfl
      · rw [updE, if_neg (by omega), updE, if_neg (by omega), updE, if_neg (by omega), updE, if_neg (by omega), a2]; exact va.2.2.1 (by omega)
      · rw [updE, if_neg (by omega), updE, if_neg (by omega), updE, if_neg (by omega), updE, if_neg (by omega), a8, (va.2.2.2.2.1 (by omega)).1]; rfl
      · rw [updE, if_neg (by omega), updE, if_neg (by omega), updE, if_pos rfl]; rfl
      · rw [updE, if_neg (by omega), updE, if_pos rfl]; rfl
      · rw [updE, if_pos rfl]; rfl
    · rw [if_neg d0]
      have n0 : ¬ alH (H X) 0 := fun z => d0 (by rw [fl_eq, e0]; exact (dec 0 (by omega)).mpr z)
      by_cases d1 : h (2 * V + 1) = 1
      · rw [if_pos d1]
        exact Or.inr (Or.inl ⟨(dec 1 (by omega)).mp (by rw [d1]; rfl), rfl⟩)
      · rw [if_neg d1]
        exact Or.inr (Or.inr ⟨n0, fun z => d1 (by rw [fl_eq, e1]; exact (dec 1 (by omega)).mpr z), rfl⟩)
  · rw [if_neg c1]
    have ln : ¬ (H X).2.2.2.1.length = 1 := fun z => c1 (by rw [fl_eq, q6, e1]; omega)
    exact Or.inr (Or.inr ⟨fun z => ln z.1, fun z => ln z.1, rfl⟩)
theorem ap_no {H : Nat → Hd} {fi se : Nat → Nat} {X : Nat} (k : (H X).1 = 9) (a : ¬ kdT (trG H fi se 41 (fi X)) = 0) (e : alH (H X) 0) : apO H fi se X (fun w => if w = X then noH else H w) X := by
  refine ⟨?_, Or.inl rfl, fun w hw _ => if_neg hw, fun w => ?_⟩
  · rw [lw_90 k a e, t41_0 (show arH ((fun w => if w = X then noH else H w) X) = 0 by dsimp only; rw [if_pos rfl]; rfl)]
    try dsimp only
    rw [if_pos rfl]
  · dsimp only
    split
    · exact ⟨fun z => absurd z (by decide), fun z => absurd z (by decide)⟩
    · exact ⟨id, id⟩
/-- the law of two caps -/
theorem cp_c {n1 : Nat} {g h : Nat → Int32} {s v x y : Int32} {H : Nat → Hd} {fi se : Nat → Nat} {X Y : Nat} (hs : 0 ≤ s.toInt ∧ 13 * s.toInt ≤ n1 ∧ n1 ≤ 520) (hG : gkN g h s.toInt v.toInt H fi se) (hx : x.toInt = X) (hX : (X : Int) < s.toInt) (hy : y.toInt = Y) (hY : (Y : Int) < s.toInt) (k : (H X).1 = 10) (k2 : (H Y).1 = 10) :
    (cpLF n1 g s x y).1 = y ∧ gkN (cpLF n1 g s x y).2 h s.toInt v.toInt (fun w => if w = Y then ((H Y).1, (if (H Y).2.1 < (H X).2.1 then (H Y).2.1 else (H X).2.1), (H Y).2.2) else H w) fi se := by
  obtain ⟨ga, va, _, _⟩ := hG X hX
  obtain ⟨gb, vb, _, _⟩ := hG Y hY
  refine ⟨rfl, ?_⟩
  show gkN (stF n1 g s y 2 (if (fldF n1 g s y 2) < (fldF n1 g s x 2) then (fldF n1 g s y 2) else (fldF n1 g s x 2))) h s.toInt v.toInt _ fi se
  rw [fldG hs hx hX (show (2 : Int32).toInt = (2 : Nat) from rfl) (by decide), fldG hs hy hY (show (2 : Int32).toInt = (2 : Nat) from rfl) (by decide), stG hs hy hY (show (2 : Int32).toInt = (2 : Nat) from rfl) (by decide)]
  obtain ⟨b0, b2, b8, bn, kz⟩ := gb
  obtain ⟨p0, p1, p2, p3, p4, p5, p6⟩ := id vb
  have xa := va.2.1 (Or.inr k)
  have xb := p1 (Or.inr k2)
  refine gkN_set hG hY (fun w c hw hc => by rw [updE, if_neg (by omega)]) ⟨by rw [updE, if_neg (by omega)], by rw [updE, if_neg (by omega)]⟩ ⟨?_, ?_, ?_, fun z => ?_, fun z => ?_⟩ ⟨p0, fun _ => ?_, fun z => absurd (show (H Y).1 = 5 ∨ (H Y).1 = 10 from Or.inr k2) z, p3, p4, p5, p6⟩ (fun z => z) (fun z => z)
  · rw [updE, if_neg (by omega)]; exact b0
  · rw [updE, if_pos rfl]
    show (if g (13 * Y + 2) < g (13 * X + 2) then g (13 * Y + 2) else g (13 * X + 2)).toInt = (if (H Y).2.1 < (H X).2.1 then (H Y).2.1 else (H X).2.1)
    have hc : g (13 * Y + 2) < g (13 * X + 2) ↔ (H Y).2.1 < (H X).2.1 := by rw [fl_lt, b2, ga.2.1]
    by_cases c : (H Y).2.1 < (H X).2.1
    · rw [if_pos (hc.mpr c), if_pos c]; exact b2
    · rw [if_neg (fun z => c (hc.mp z)), if_neg c]; exact ga.2.1
  · rw [updE, if_neg (by omega)]; exact b8
  · rw [updE, if_neg (by omega), updE, if_neg (by omega), updE, if_neg (by omega)]; exact bn z
  · exfalso
    have z2 : 6 ≤ (H Y).1 ∧ (H Y).1 ≤ 9 := z
    omega
  · show 0 ≤ (if (H Y).2.1 < (H X).2.1 then (H Y).2.1 else (H X).2.1) ∧ (if (H Y).2.1 < (H X).2.1 then (H Y).2.1 else (H X).2.1) ≤ 99999
    split <;> omega
theorem ap_cp {g h : Nat → Int32} {s v : Int32} {H : Nat → Hd} {fi se : Nat → Nat} {X : Nat} (hG : gkN g h s.toInt v.toInt H fi se) (hs : s.toInt ≤ 40) (hX : (X : Int) < s.toInt) (k : (H X).1 = 10) (a : 1 ≤ arH (H X)) (k2 : (H (fi X)).1 = 10) (a2 : arH (H (fi X)) = 1) : apO H fi se X (fun w => if w = fi X then ((H (fi X)).1, (if (H (fi X)).2.1 < (H X).2.1 then (H (fi X)).2.1 else (H X).2.1), (H (fi X)).2.2) else H w) (fi X) := by
  obtain ⟨_, _, k3, _⟩ := hG X hX
  obtain ⟨e3, l3, m3⟩ := k3 a
  obtain ⟨_, _, k4, _⟩ := hG (fi X) m3
  obtain ⟨e5, l5, m5⟩ := k4 (by omega)
  refine ⟨?_, Or.inr (Or.inl ⟨a, rfl⟩), fun w _ hw => if_neg (fun z => hw ⟨a, z⟩), fun w => ?_⟩
  · rw [lw_kc k (by rw [t41_k]; exact k2), t41_1 hG hs m3 a2, show (41 : Nat) = 40 + 1 from rfl]
    have e1 : arH ((fun w => if w = fi X then ((H (fi X)).1, (if (H (fi X)).2.1 < (H X).2.1 then (H (fi X)).2.1 else (H X).2.1), (H (fi X)).2.2) else H w) (fi X)) = 1 := by dsimp only; rw [if_pos rfl]; exact a2
    rw [tr_1 e1]
    have e2 := trG_cg (H2 := fun w => if w = fi X then ((H (fi X)).1, (if (H (fi X)).2.1 < (H X).2.1 then (H (fi X)).2.1 else (H X).2.1), (H (fi X)).2.2) else H w) (fi2 := fi) (se2 := se) (lo := fi X + 1) (m := s.toInt.toNat) (fun w _ hw => gkN_gO hG w hw) (fun w hw _ => ⟨if_neg (by omega), fun _ => rfl, fun _ => rfl⟩) (40 + 1) 40 (fi (fi X)) (by omega) (by omega) (by omega) (by omega)
    rw [e2]
    try dsimp only
    rw [if_pos rfl]
    rfl
  · dsimp only
    split
    · rename_i z
      rw [z]
      exact ⟨id, id⟩
    · exact ⟨id, id⟩

set_option maxHeartbeats 4000000 in
set_option maxRecDepth 100000 in
theorem k_X3_applyE {l : Launch} {D : va_G} {cy : Nat → ClassId} {b : Nat} {f : gMem} {la p c1 c2 n1 n2 bc : Nat} {s v x : Int32} {g h : Nat → Int32} {H : Nat → Hd} {fi se : Nat → Nat} {X : Nat} (hla : f la = some (.inr (3, [.ref p, .ref bc]))) (hp : f p = some (.inr (2, [.ref c1, .ref c2, .int s, .int v]))) (h1 : f c1 = some (.inl (cy 0, n1, .inl (g)))) (h2 : f c2 = some (.inl (cy 0, n2, .inl (h)))) (hs : 0 ≤ s.toInt ∧ 13 * s.toInt ≤ n1 ∧ n1 ≤ 520) (hv : 0 ≤ v.toInt ∧ 2 * v.toInt ≤ n2 ∧ n2 ≤ 80) (hne : c1 ≠ c2) (hG : gkN g h s.toInt v.toInt H fi se) (hX : x.toInt = X ∧ (X : Int) < s.toInt) : gC l D cy b yX3_apply cX3_apply 5 (some .int) 46 0 0 [.ref la, .int x] f (pI fun r f2 => ∃ (g2 : Nat → Int32) (H2 : Nat → Hd) (R : Nat), f2 c1 = some (.inl (cy 0, n1, .inl (g2))) ∧ gkN g2 h s.toInt v.toInt H2 fi se ∧ (r.toInt = R ∧ (R : Int) < s.toInt) ∧ apO H fi se X H2 R ∧ fr [c1] f f2) := by
  refine gC_of (by decide) (Nat.le_of_ble_eq_true rfl) ?_
  show gG l _ _ _ D cy b cX3_apply 5 _ RX3 "apply" 0 0 f 0 [(0, .ref la), (1, .int x)] []
  refine gz_aload_n dX3_apply_0 rfl rfl ?_
  refine sgX3_14 hla rfl dX3_apply_1 ?_
  refine gz_iload_n dX3_apply_4 rfl rfl ?_
  refine gz_iconst (v := 3) dX3_apply_5 (by decide) ?_
  obtain ⟨ga, va, gf, gs⟩ := hG X hX.2
  have hl2 := arH_le (h := H X)
  have hak := arH_k va
  have ka := va.1
  have g0 := ga.1
  have hfa : ∀ (k : Int32) (c : Nat), k.toInt = c → c ≤ 12 → fldF n1 g s x k = g (13 * X + c) := fun k c hk hc => fldG hs hX.1 hX.2 hk hc
  refine scX3_52 (k_X2_field (w := x) (k := 3) hp h1 hs) hp ⟨(Nat.le_of_ble_eq_true rfl), (Nat.le_of_ble_eq_true rfl)⟩ ⟨(Nat.le_of_ble_eq_true rfl), (Nat.le_of_ble_eq_true rfl)⟩ rfl rfl (Nat.le_of_ble_eq_true rfl) dX3_apply_6 ?_
  intro v9 f9 z9; rw [z9.1, z9.2, hfa 3 3 rfl (by decide)]
  refine gz_istore_n (lv' := [(2, .int (g (13 * X + 3))), (0, .ref la), (1, .int x)]) dX3_apply_9 rfl (by decide) rfl ?_
  refine gz_aload_n dX3_apply_10 rfl rfl ?_
  refine sgX3_14 hla rfl dX3_apply_11 ?_
  refine gz_iload_n dX3_apply_14 rfl rfl ?_
  refine gz_iconst (v := 4) dX3_apply_15 (by decide) ?_
  refine scX3_52 (k_X2_field (w := x) (k := 4) hp h1 hs) hp ⟨(Nat.le_of_ble_eq_true rfl), (Nat.le_of_ble_eq_true rfl)⟩ ⟨(Nat.le_of_ble_eq_true rfl), (Nat.le_of_ble_eq_true rfl)⟩ rfl rfl (Nat.le_of_ble_eq_true rfl) dX3_apply_16 ?_
  intro v9 f9 z9; rw [z9.1, z9.2, hfa 4 4 rfl (by decide)]
  refine gz_istore_n (lv' := [(3, .int (g (13 * X + 4))), (2, .int (g (13 * X + 3))), (0, .ref la), (1, .int x)]) dX3_apply_19 rfl (by decide) rfl ?_
  refine gz_aload_n dX3_apply_20 rfl rfl ?_
  refine sgX3_14 hla rfl dX3_apply_21 ?_
  refine gz_iload_n dX3_apply_24 rfl rfl ?_
  refine gz_iconst (v := 0) dX3_apply_25 (by decide) ?_
  refine scX3_52 (k_X2_field (w := (g (13 * X + 3))) (k := 0) hp h1 hs) hp ⟨(Nat.le_of_ble_eq_true rfl), (Nat.le_of_ble_eq_true rfl)⟩ ⟨(Nat.le_of_ble_eq_true rfl), (Nat.le_of_ble_eq_true rfl)⟩ rfl rfl (Nat.le_of_ble_eq_true rfl) dX3_apply_26 ?_
  intro v9 f9 z9; rw [z9.1, z9.2]
  refine gz_istore (lv' := [(4, .int (fldF n1 g s (g (13 * X + 3)) 0)), (3, .int (g (13 * X + 4))), (2, .int (g (13 * X + 3))), (0, .ref la), (1, .int x)]) dX3_apply_29 (by decide) rfl ?_
  refine gz_aload_n dX3_apply_31 rfl rfl ?_
  refine sgX3_14 hla rfl dX3_apply_32 ?_
  refine gz_iload_n dX3_apply_35 rfl rfl ?_
  refine gz_iconst (v := 0) dX3_apply_36 (by decide) ?_
  refine scX3_52 (k_X2_field (w := x) (k := 0) hp h1 hs) hp ⟨(Nat.le_of_ble_eq_true rfl), (Nat.le_of_ble_eq_true rfl)⟩ ⟨(Nat.le_of_ble_eq_true rfl), (Nat.le_of_ble_eq_true rfl)⟩ rfl rfl (Nat.le_of_ble_eq_true rfl) dX3_apply_37 ?_
  intro v9 f9 z9; rw [z9.1, z9.2, hfa 0 0 rfl (by decide)]
  by_cases hw_40_0 : (g (13 * X + 0)) = 0
  ·
    refine gz_ev (w := .int 0) (congrArg Value.int hw_40_0) ?_
    refine gz_tableIn (off := 60) (tgt := 100) dX3_apply_40 (by decide) (by decide) rfl (by decide) ?_
    refine gz_iload_n dX3_apply_100 rfl rfl ?_
    exact gz_iret rfl dX3_apply_101 (Nat.le_of_ble_eq_true rfl) (Nat.le_of_ble_eq_true rfl) (⟨_, rfl, _, H, X, h1, hG, hX, (ap_0 (by have z : (H X).1 = 0 := (by rw [← g0, hw_40_0]; rfl); omega) (by have z : (H X).1 = 0 := (by rw [← g0, hw_40_0]; rfl); omega)), fr_rf⟩)
  ·
    by_cases hw_40_1 : (g (13 * X + 0)) = 1
    ·
      refine gz_ev (w := .int 1) (congrArg Value.int hw_40_1) ?_
      refine gz_tableIn (off := 60) (tgt := 100) dX3_apply_40 (by decide) (by decide) rfl (by decide) ?_
      refine gz_iload_n dX3_apply_100 rfl rfl ?_
      exact gz_iret rfl dX3_apply_101 (Nat.le_of_ble_eq_true rfl) (Nat.le_of_ble_eq_true rfl) (⟨_, rfl, _, H, X, h1, hG, hX, (ap_0 (by have z : (H X).1 = 1 := (by rw [← g0, hw_40_1]; rfl); omega) (by have z : (H X).1 = 1 := (by rw [← g0, hw_40_1]; rfl); omega)), fr_rf⟩)
    ·
      by_cases hw_40_2 : (g (13 * X + 0)) = 2
      ·
        refine gz_ev (w := .int 2) (congrArg Value.int hw_40_2) ?_
        refine gz_tableIn (off := 62) (tgt := 102) dX3_apply_40 (by decide) (by decide) rfl (by decide) ?_
        have kX : (H X).1 = 2 := by rw [← g0, hw_40_2]; rfl
        have a1 : 1 ≤ arH (H X) := by omega
        obtain ⟨e3, l3, m3⟩ := gf a1
        have ein : fldF n1 g s (g (13 * X + 3)) 0 = g (13 * (fi X) + 0) := fldG hs e3 m3 (show (0 : Int32).toInt = (0 : Nat) from rfl) (by decide)
        obtain ⟨ga2, va2, gf2, gs2⟩ := hG (fi X) m3
        have gi := ga2.1
        have hak2 := arH_k va2
        have inz : fldF n1 g s (g (13 * X + 3)) 0 = 0 ↔ kdT (trG H fi se 41 (fi X)) = 0 := by rw [ein, fl_eq, gi, t41_k]; exact Iff.rfl
        have a1e : arH (H X) = 1 := by omega
        refine gz_iload dX3_apply_102 rfl ?_
        refine gz_if_ne (tgt := 111) dX3_apply_104 (by decide) (fun c_104 => ?_) (fun c_104 => ?_)
        ·
          refine gz_iload dX3_apply_111 rfl ?_
          refine gz_iconst (v := 2) dX3_apply_113 (by decide) ?_
          refine gz_icmp_ne (tgt := 129) dX3_apply_114 (by decide) (fun c_114 => ?_) (fun c_114 => ?_)
          ·
            refine gz_iload_n dX3_apply_129 rfl rfl ?_
            exact gz_iret rfl dX3_apply_130 (Nat.le_of_ble_eq_true rfl) (Nat.le_of_ble_eq_true rfl) (⟨_, rfl, _, H, X, h1, hG, hX, (ap_x ((lw_k2 kX (fun z => c_104 (inz.mpr z)) (fun z => c_114 (Int32.toInt_inj.mp (by rw [ein, gi]; exact z)))).trans (t41_1 hG (by omega) hX.2 a1e).symm)), fr_rf⟩)
          ·
            refine gz_aload_n dX3_apply_117 rfl rfl ?_
            refine sgX3_14 hla rfl dX3_apply_118 ?_
            refine gz_iload_n dX3_apply_121 rfl rfl ?_
            refine gz_iconst (v := 3) dX3_apply_122 (by decide) ?_
            refine scX3_52 (k_X2_field (w := (g (13 * X + 3))) (k := 3) hp h1 hs) hp ⟨(Nat.le_of_ble_eq_true rfl), (Nat.le_of_ble_eq_true rfl)⟩ ⟨(Nat.le_of_ble_eq_true rfl), (Nat.le_of_ble_eq_true rfl)⟩ rfl rfl (Nat.le_of_ble_eq_true rfl) dX3_apply_123 ?_
            intro v9 f9 z9; rw [z9.1, z9.2, fldG hs e3 m3 (show (3 : Int32).toInt = (3 : Nat) from rfl) (by decide)]
            refine gz_goto (tgt := 130) dX3_apply_126 (by decide) ?_
            have k22 : (H (fi X)).1 = 2 := by rw [← gi, ← ein, c_114]; rfl
            obtain ⟨e5, l5, m5⟩ := gf2 (by omega)
            exact gz_iret rfl dX3_apply_130 (Nat.le_of_ble_eq_true rfl) (Nat.le_of_ble_eq_true rfl) (⟨_, rfl, _, H, (fi (fi X)), h1, hG, ⟨e5, m5⟩, (ap_ff hG (by omega) hX.2 kX a1 k22 (by omega)), fr_rf⟩)
        ·
          refine gz_iload_n dX3_apply_107 rfl rfl ?_
          refine gz_goto (tgt := 130) dX3_apply_108 (by decide) ?_
          exact gz_iret rfl dX3_apply_130 (Nat.le_of_ble_eq_true rfl) (Nat.le_of_ble_eq_true rfl) (⟨_, rfl, _, H, (fi X), h1, hG, ⟨e3, m3⟩, (ap_fi a1 (lw_n1 (by omega) (inz.mp c_104))), fr_rf⟩)
      ·
        by_cases hw_40_3 : (g (13 * X + 0)) = 3
        ·
          refine gz_ev (w := .int 3) (congrArg Value.int hw_40_3) ?_
          refine gz_tableIn (off := 91) (tgt := 131) dX3_apply_40 (by decide) (by decide) rfl (by decide) ?_
          have kX : (H X).1 = 3 := by rw [← g0, hw_40_3]; rfl
          have a1 : 1 ≤ arH (H X) := by omega
          obtain ⟨e3, l3, m3⟩ := gf a1
          have ein : fldF n1 g s (g (13 * X + 3)) 0 = g (13 * (fi X) + 0) := fldG hs e3 m3 (show (0 : Int32).toInt = (0 : Nat) from rfl) (by decide)
          obtain ⟨ga2, va2, gf2, gs2⟩ := hG (fi X) m3
          have gi := ga2.1
          have hak2 := arH_k va2
          have inz : fldF n1 g s (g (13 * X + 3)) 0 = 0 ↔ kdT (trG H fi se 41 (fi X)) = 0 := by rw [ein, fl_eq, gi, t41_k]; exact Iff.rfl
          have a2 : arH (H X) = 2 := by omega
          obtain ⟨e4, l4, m4⟩ := gs a2
          refine gz_iload dX3_apply_131 rfl ?_
          refine gz_if_ne (tgt := 140) dX3_apply_133 (by decide) (fun c_133 => ?_) (fun c_133 => ?_)
          ·
            refine gz_aload_n dX3_apply_140 rfl rfl ?_
            refine sgX3_14 hla rfl dX3_apply_141 ?_
            refine gz_iload_n dX3_apply_144 rfl rfl ?_
            refine gz_iconst (v := 0) dX3_apply_145 (by decide) ?_
            refine scX3_52 (k_X2_field (w := (g (13 * X + 4))) (k := 0) hp h1 hs) hp ⟨(Nat.le_of_ble_eq_true rfl), (Nat.le_of_ble_eq_true rfl)⟩ ⟨(Nat.le_of_ble_eq_true rfl), (Nat.le_of_ble_eq_true rfl)⟩ rfl rfl (Nat.le_of_ble_eq_true rfl) dX3_apply_146 ?_
            intro v9 f9 z9; rw [z9.1, z9.2, fldG hs e4 m4 (show (0 : Int32).toInt = (0 : Nat) from rfl) (by decide)]
            refine gz_if_ne (tgt := 156) dX3_apply_149 (by decide) (fun c_149 => ?_) (fun c_149 => ?_)
            ·
              refine gz_iload_n dX3_apply_156 rfl rfl ?_
              have ksz : g (13 * (se X) + 0) = 0 ↔ kdT (trG H fi se 41 (se X)) = 0 := by rw [fl_eq, (hG (se X) m4).1.1, t41_k]; exact Iff.rfl
              exact gz_iret rfl dX3_apply_157 (Nat.le_of_ble_eq_true rfl) (Nat.le_of_ble_eq_true rfl) (⟨_, rfl, _, H, X, h1, hG, hX, (ap_x ((lw_3c kX (fun z => c_133 (inz.mpr z)) (fun z => c_149 (ksz.mpr z))).trans (t41_2 hG (by omega) hX.2 a2).symm)), fr_rf⟩)
            ·
              refine gz_iload_n dX3_apply_152 rfl rfl ?_
              refine gz_goto (tgt := 157) dX3_apply_153 (by decide) ?_
              have ksz : g (13 * (se X) + 0) = 0 ↔ kdT (trG H fi se 41 (se X)) = 0 := by rw [fl_eq, (hG (se X) m4).1.1, t41_k]; exact Iff.rfl
              exact gz_iret rfl dX3_apply_157 (Nat.le_of_ble_eq_true rfl) (Nat.le_of_ble_eq_true rfl) (⟨_, rfl, _, H, (fi X), h1, hG, ⟨e3, m3⟩, (ap_fi a1 (lw_3b kX (fun z => c_133 (inz.mpr z)) (ksz.mp c_149))), fr_rf⟩)
          ·
            refine gz_iload_n dX3_apply_136 rfl rfl ?_
            refine gz_goto (tgt := 157) dX3_apply_137 (by decide) ?_
            exact gz_iret rfl dX3_apply_157 (Nat.le_of_ble_eq_true rfl) (Nat.le_of_ble_eq_true rfl) (⟨_, rfl, _, H, (se X), h1, hG, ⟨e4, m4⟩, (ap_se a2 (lw_3a kX (inz.mp c_133))), fr_rf⟩)
        ·
          by_cases hw_40_4 : (g (13 * X + 0)) = 4
          ·
            refine gz_ev (w := .int 4) (congrArg Value.int hw_40_4) ?_
            refine gz_tableIn (off := 118) (tgt := 158) dX3_apply_40 (by decide) (by decide) rfl (by decide) ?_
            have kX : (H X).1 = 4 := by rw [← g0, hw_40_4]; rfl
            have a1 : 1 ≤ arH (H X) := by omega
            obtain ⟨e3, l3, m3⟩ := gf a1
            have ein : fldF n1 g s (g (13 * X + 3)) 0 = g (13 * (fi X) + 0) := fldG hs e3 m3 (show (0 : Int32).toInt = (0 : Nat) from rfl) (by decide)
            obtain ⟨ga2, va2, gf2, gs2⟩ := hG (fi X) m3
            have gi := ga2.1
            have hak2 := arH_k va2
            have inz : fldF n1 g s (g (13 * X + 3)) 0 = 0 ↔ kdT (trG H fi se 41 (fi X)) = 0 := by rw [ein, fl_eq, gi, t41_k]; exact Iff.rfl
            have a2 : arH (H X) = 2 := by omega
            obtain ⟨e4, l4, m4⟩ := gs a2
            refine gz_aload_n dX3_apply_158 rfl rfl ?_
            refine sgX3_14 hla rfl dX3_apply_159 ?_
            refine gz_iload_n dX3_apply_162 rfl rfl ?_
            refine gz_aload_n dX3_apply_163 rfl rfl ?_
            refine sgX3_14 hla rfl dX3_apply_164 ?_
            refine gz_iload_n dX3_apply_167 rfl rfl ?_
            refine gz_iconst (v := 0) dX3_apply_168 (by decide) ?_
            refine scX3_48 (k_X3_alikeE hs hv hs hv hG hG 41 (g (13 * X + 3)) (g (13 * X + 4)) 0 (fi X) (se X) false _ hp h1 h2 hp h1 h2 ⟨e3, m3⟩ ⟨e4, m4⟩ (by omega) rfl) ⟨(Nat.le_of_ble_eq_true rfl), (Nat.le_of_ble_eq_true rfl)⟩ ⟨(Nat.le_of_ble_eq_true rfl), (Nat.le_of_ble_eq_true rfl)⟩ rfl rfl (Nat.le_of_ble_eq_true rfl) dX3_apply_169 ?_
            rintro r1 f1 ⟨hb1, hf1⟩; subst hf1
            have hew := ew_tr (gkN_gO hG) (gkN_gO hG) 41 (fi X) (se X) (by omega) (by omega) (by omega) (by omega)
            rw [hew] at hb1
            rcases hb1 with ⟨hr1, hp1⟩ | ⟨hr1, hp1⟩
            ·
              refine gz_ev (w := .int 1) (congrArg Value.int hr1) ?_
              refine gz_if_eq (tgt := 179) dX3_apply_172 (by decide) (fun c_172 => ?_) (fun c_172 => ?_)
              · exact absurd c_172 (by decide)
              ·
                refine gz_iload_n dX3_apply_175 rfl rfl ?_
                refine gz_goto (tgt := 180) dX3_apply_176 (by decide) ?_
                exact gz_iret rfl dX3_apply_180 (Nat.le_of_ble_eq_true rfl) (Nat.le_of_ble_eq_true rfl) (⟨_, rfl, _, H, (fi X), h1, hG, ⟨e3, m3⟩, (ap_fi a1 (lw_4a (by omega) hp1)), fr_rf⟩)
            ·
              refine gz_ev (w := .int 0) (congrArg Value.int hr1) ?_
              refine gz_if_eq (tgt := 179) dX3_apply_172 (by decide) (fun c_172 => ?_) (fun c_172 => ?_)
              ·
                refine gz_iload_n dX3_apply_179 rfl rfl ?_
                exact gz_iret rfl dX3_apply_180 (Nat.le_of_ble_eq_true rfl) (Nat.le_of_ble_eq_true rfl) (⟨_, rfl, _, H, X, h1, hG, hX, (ap_x ((lw_4b (by omega) hp1).trans (t41_2 hG (by omega) hX.2 a2).symm)), fr_rf⟩)
              · exact absurd c_172 (by decide)
          ·
            by_cases hw_40_5 : (g (13 * X + 0)) = 5
            ·
              refine gz_ev (w := .int 5) (congrArg Value.int hw_40_5) ?_
              refine gz_tableIn (off := 118) (tgt := 158) dX3_apply_40 (by decide) (by decide) rfl (by decide) ?_
              have kX : (H X).1 = 5 := by rw [← g0, hw_40_5]; rfl
              have a1 : 1 ≤ arH (H X) := by omega
              obtain ⟨e3, l3, m3⟩ := gf a1
              have ein : fldF n1 g s (g (13 * X + 3)) 0 = g (13 * (fi X) + 0) := fldG hs e3 m3 (show (0 : Int32).toInt = (0 : Nat) from rfl) (by decide)
              obtain ⟨ga2, va2, gf2, gs2⟩ := hG (fi X) m3
              have gi := ga2.1
              have hak2 := arH_k va2
              have inz : fldF n1 g s (g (13 * X + 3)) 0 = 0 ↔ kdT (trG H fi se 41 (fi X)) = 0 := by rw [ein, fl_eq, gi, t41_k]; exact Iff.rfl
              have a2 : arH (H X) = 2 := by omega
              obtain ⟨e4, l4, m4⟩ := gs a2
              refine gz_aload_n dX3_apply_158 rfl rfl ?_
              refine sgX3_14 hla rfl dX3_apply_159 ?_
              refine gz_iload_n dX3_apply_162 rfl rfl ?_
              refine gz_aload_n dX3_apply_163 rfl rfl ?_
              refine sgX3_14 hla rfl dX3_apply_164 ?_
              refine gz_iload_n dX3_apply_167 rfl rfl ?_
              refine gz_iconst (v := 0) dX3_apply_168 (by decide) ?_
              refine scX3_48 (k_X3_alikeE hs hv hs hv hG hG 41 (g (13 * X + 3)) (g (13 * X + 4)) 0 (fi X) (se X) false _ hp h1 h2 hp h1 h2 ⟨e3, m3⟩ ⟨e4, m4⟩ (by omega) rfl) ⟨(Nat.le_of_ble_eq_true rfl), (Nat.le_of_ble_eq_true rfl)⟩ ⟨(Nat.le_of_ble_eq_true rfl), (Nat.le_of_ble_eq_true rfl)⟩ rfl rfl (Nat.le_of_ble_eq_true rfl) dX3_apply_169 ?_
              rintro r2 f2 ⟨hb2, hf2⟩; subst hf2
              have hew := ew_tr (gkN_gO hG) (gkN_gO hG) 41 (fi X) (se X) (by omega) (by omega) (by omega) (by omega)
              rw [hew] at hb2
              rcases hb2 with ⟨hr2, hp2⟩ | ⟨hr2, hp2⟩
              ·
                refine gz_ev (w := .int 1) (congrArg Value.int hr2) ?_
                refine gz_if_eq (tgt := 179) dX3_apply_172 (by decide) (fun c_172 => ?_) (fun c_172 => ?_)
                · exact absurd c_172 (by decide)
                ·
                  refine gz_iload_n dX3_apply_175 rfl rfl ?_
                  refine gz_goto (tgt := 180) dX3_apply_176 (by decide) ?_
                  exact gz_iret rfl dX3_apply_180 (Nat.le_of_ble_eq_true rfl) (Nat.le_of_ble_eq_true rfl) (⟨_, rfl, _, H, (fi X), h1, hG, ⟨e3, m3⟩, (ap_fi a1 (lw_4a (by omega) hp2)), fr_rf⟩)
              ·
                refine gz_ev (w := .int 0) (congrArg Value.int hr2) ?_
                refine gz_if_eq (tgt := 179) dX3_apply_172 (by decide) (fun c_172 => ?_) (fun c_172 => ?_)
                ·
                  refine gz_iload_n dX3_apply_179 rfl rfl ?_
                  exact gz_iret rfl dX3_apply_180 (Nat.le_of_ble_eq_true rfl) (Nat.le_of_ble_eq_true rfl) (⟨_, rfl, _, H, X, h1, hG, hX, (ap_x ((lw_4b (by omega) hp2).trans (t41_2 hG (by omega) hX.2 a2).symm)), fr_rf⟩)
                · exact absurd c_172 (by decide)
            ·
              by_cases hw_40_6 : (g (13 * X + 0)) = 6
              ·
                refine gz_ev (w := .int 6) (congrArg Value.int hw_40_6) ?_
                refine gz_tableIn (off := 184) (tgt := 224) dX3_apply_40 (by decide) (by decide) rfl (by decide) ?_
                have kX : (H X).1 = 6 := by rw [← g0, hw_40_6]; rfl
                have a1 : 1 ≤ arH (H X) := by omega
                obtain ⟨e3, l3, m3⟩ := gf a1
                have ein : fldF n1 g s (g (13 * X + 3)) 0 = g (13 * (fi X) + 0) := fldG hs e3 m3 (show (0 : Int32).toInt = (0 : Nat) from rfl) (by decide)
                obtain ⟨ga2, va2, gf2, gs2⟩ := hG (fi X) m3
                have gi := ga2.1
                have hak2 := arH_k va2
                have inz : fldF n1 g s (g (13 * X + 3)) 0 = 0 ↔ kdT (trG H fi se 41 (fi X)) = 0 := by rw [ein, fl_eq, gi, t41_k]; exact Iff.rfl
                have a1e : arH (H X) = 1 := by omega
                refine gz_iload dX3_apply_224 rfl ?_
                refine gz_if_ne (tgt := 233) dX3_apply_226 (by decide) (fun c_226 => ?_) (fun c_226 => ?_)
                ·
                  refine gz_iload_n dX3_apply_233 rfl rfl ?_
                  exact gz_iret rfl dX3_apply_234 (Nat.le_of_ble_eq_true rfl) (Nat.le_of_ble_eq_true rfl) (⟨_, rfl, _, H, X, h1, hG, hX, (ap_x ((lw_k6 (by omega) (fun z => c_226 (inz.mpr z))).trans (t41_1 hG (by omega) hX.2 a1e).symm)), fr_rf⟩)
                ·
                  refine gz_iload_n dX3_apply_229 rfl rfl ?_
                  refine gz_goto (tgt := 234) dX3_apply_230 (by decide) ?_
                  exact gz_iret rfl dX3_apply_234 (Nat.le_of_ble_eq_true rfl) (Nat.le_of_ble_eq_true rfl) (⟨_, rfl, _, H, (fi X), h1, hG, ⟨e3, m3⟩, (ap_fi a1 (lw_n1 (by omega) (inz.mp c_226))), fr_rf⟩)
              ·
                by_cases hw_40_7 : (g (13 * X + 0)) = 7
                ·
                  refine gz_ev (w := .int 7) (congrArg Value.int hw_40_7) ?_
                  refine gz_tableIn (off := 184) (tgt := 224) dX3_apply_40 (by decide) (by decide) rfl (by decide) ?_
                  have kX : (H X).1 = 7 := by rw [← g0, hw_40_7]; rfl
                  have a1 : 1 ≤ arH (H X) := by omega
                  obtain ⟨e3, l3, m3⟩ := gf a1
                  have ein : fldF n1 g s (g (13 * X + 3)) 0 = g (13 * (fi X) + 0) := fldG hs e3 m3 (show (0 : Int32).toInt = (0 : Nat) from rfl) (by decide)
                  obtain ⟨ga2, va2, gf2, gs2⟩ := hG (fi X) m3
                  have gi := ga2.1
                  have hak2 := arH_k va2
                  have inz : fldF n1 g s (g (13 * X + 3)) 0 = 0 ↔ kdT (trG H fi se 41 (fi X)) = 0 := by rw [ein, fl_eq, gi, t41_k]; exact Iff.rfl
                  have a1e : arH (H X) = 1 := by omega
                  refine gz_iload dX3_apply_224 rfl ?_
                  refine gz_if_ne (tgt := 233) dX3_apply_226 (by decide) (fun c_226 => ?_) (fun c_226 => ?_)
                  ·
                    refine gz_iload_n dX3_apply_233 rfl rfl ?_
                    exact gz_iret rfl dX3_apply_234 (Nat.le_of_ble_eq_true rfl) (Nat.le_of_ble_eq_true rfl) (⟨_, rfl, _, H, X, h1, hG, hX, (ap_x ((lw_k6 (by omega) (fun z => c_226 (inz.mpr z))).trans (t41_1 hG (by omega) hX.2 a1e).symm)), fr_rf⟩)
                  ·
                    refine gz_iload_n dX3_apply_229 rfl rfl ?_
                    refine gz_goto (tgt := 234) dX3_apply_230 (by decide) ?_
                    exact gz_iret rfl dX3_apply_234 (Nat.le_of_ble_eq_true rfl) (Nat.le_of_ble_eq_true rfl) (⟨_, rfl, _, H, (fi X), h1, hG, ⟨e3, m3⟩, (ap_fi a1 (lw_n1 (by omega) (inz.mp c_226))), fr_rf⟩)
                ·
                  by_cases hw_40_8 : (g (13 * X + 0)) = 8
                  ·
                    refine gz_ev (w := .int 8) (congrArg Value.int hw_40_8) ?_
                    refine gz_tableIn (off := 184) (tgt := 224) dX3_apply_40 (by decide) (by decide) rfl (by decide) ?_
                    have kX : (H X).1 = 8 := by rw [← g0, hw_40_8]; rfl
                    have a1 : 1 ≤ arH (H X) := by omega
                    obtain ⟨e3, l3, m3⟩ := gf a1
                    have ein : fldF n1 g s (g (13 * X + 3)) 0 = g (13 * (fi X) + 0) := fldG hs e3 m3 (show (0 : Int32).toInt = (0 : Nat) from rfl) (by decide)
                    obtain ⟨ga2, va2, gf2, gs2⟩ := hG (fi X) m3
                    have gi := ga2.1
                    have hak2 := arH_k va2
                    have inz : fldF n1 g s (g (13 * X + 3)) 0 = 0 ↔ kdT (trG H fi se 41 (fi X)) = 0 := by rw [ein, fl_eq, gi, t41_k]; exact Iff.rfl
                    have a1e : arH (H X) = 1 := by omega
                    refine gz_iload dX3_apply_224 rfl ?_
                    refine gz_if_ne (tgt := 233) dX3_apply_226 (by decide) (fun c_226 => ?_) (fun c_226 => ?_)
                    ·
                      refine gz_iload_n dX3_apply_233 rfl rfl ?_
                      exact gz_iret rfl dX3_apply_234 (Nat.le_of_ble_eq_true rfl) (Nat.le_of_ble_eq_true rfl) (⟨_, rfl, _, H, X, h1, hG, hX, (ap_x ((lw_k6 (by omega) (fun z => c_226 (inz.mpr z))).trans (t41_1 hG (by omega) hX.2 a1e).symm)), fr_rf⟩)
                    ·
                      refine gz_iload_n dX3_apply_229 rfl rfl ?_
                      refine gz_goto (tgt := 234) dX3_apply_230 (by decide) ?_
                      exact gz_iret rfl dX3_apply_234 (Nat.le_of_ble_eq_true rfl) (Nat.le_of_ble_eq_true rfl) (⟨_, rfl, _, H, (fi X), h1, hG, ⟨e3, m3⟩, (ap_fi a1 (lw_n1 (by omega) (inz.mp c_226))), fr_rf⟩)
                  ·
                    by_cases hw_40_9 : (g (13 * X + 0)) = 9
                    ·
                      refine gz_ev (w := .int 9) (congrArg Value.int hw_40_9) ?_
                      refine gz_tableIn (off := 141) (tgt := 181) dX3_apply_40 (by decide) (by decide) rfl (by decide) ?_
                      have kX : (H X).1 = 9 := by rw [← g0, hw_40_9]; rfl
                      have a1 : 1 ≤ arH (H X) := by omega
                      obtain ⟨e3, l3, m3⟩ := gf a1
                      have ein : fldF n1 g s (g (13 * X + 3)) 0 = g (13 * (fi X) + 0) := fldG hs e3 m3 (show (0 : Int32).toInt = (0 : Nat) from rfl) (by decide)
                      obtain ⟨ga2, va2, gf2, gs2⟩ := hG (fi X) m3
                      have gi := ga2.1
                      have hak2 := arH_k va2
                      have inz : fldF n1 g s (g (13 * X + 3)) 0 = 0 ↔ kdT (trG H fi se 41 (fi X)) = 0 := by rw [ein, fl_eq, gi, t41_k]; exact Iff.rfl
                      have a1e : arH (H X) = 1 := by omega
                      refine gz_iload dX3_apply_181 rfl ?_
                      refine gz_if_ne (tgt := 190) dX3_apply_183 (by decide) (fun c_183 => ?_) (fun c_183 => ?_)
                      ·
                        refine gz_aload_n dX3_apply_190 rfl rfl ?_
                        refine gz_iload_n dX3_apply_191 rfl rfl ?_
                        refine gz_iload_n dX3_apply_192 rfl rfl ?_
                        have hna : ¬ kdT (trG H fi se 41 (fi X)) = 0 := fun z => c_183 (inz.mpr z)
                        have hsc := sc_c (n1 := n1) (n2 := n2) (y := (g (13 * X + 3))) hs hv hG hX.1 hX.2 kX
                        obtain ⟨x1, hx1⟩ : ∃ x0, (scLF n1 n2 g h s v x (g (13 * X + 3))) = x0 := ⟨_, rfl⟩
                        refine scX3_59 (k_X3_scaleLaw (x := x) (y := (g (13 * X + 3))) hla hp h1 h2 hs hv hne) hla ⟨(Nat.le_of_ble_eq_true rfl), (Nat.le_of_ble_eq_true rfl)⟩ ⟨(Nat.le_of_ble_eq_true rfl), (Nat.le_of_ble_eq_true rfl)⟩ rfl rfl (Nat.le_of_ble_eq_true rfl) dX3_apply_193 ?_
                        rintro r3 f3 ⟨z3, h1_3, hr3⟩; rw [hx1] at z3 h1_3; rw [z3]
                        have hla_3 : f3 la = some (.inr (3, [.ref p, .ref bc])) := hr3 _ _ hla (by simp only [List.mem_cons, List.not_mem_nil, or_false, not_or]; exact cne hla h1 (by simp))
                        have hp_3 : f3 p = some (.inr (2, [.ref c1, .ref c2, .int s, .int v])) := hr3 _ _ hp (by simp only [List.mem_cons, List.not_mem_nil, or_false, not_or]; exact cne hp h1 (by simp))
                        have h2_3 : f3 c2 = some (.inl (cy 0, n2, .inl (h))) := hr3 _ _ h2 (by simp only [List.mem_cons, List.not_mem_nil, or_false, not_or]; exact Ne.symm (hne))
                        rw [hx1] at hsc
                        rcases hsc with ⟨hal, hr1, hG2⟩ | ⟨hal, hr1⟩ | ⟨hn0, hn1, hr1⟩
                        ·
                          exact gz_iret rfl dX3_apply_196 (Nat.le_of_ble_eq_true rfl) (Nat.le_of_ble_eq_true rfl) (⟨_, rfl, _, _, X, h1_3, hG2, ⟨(by rw [hr1]; exact hX.1), hX.2⟩, (ap_no kX hna hal), (fr_tr fr_rf (fr_mo hr3 (by simp)))⟩)
                        ·
                          exact gz_iret rfl dX3_apply_196 (Nat.le_of_ble_eq_true rfl) (Nat.le_of_ble_eq_true rfl) (⟨_, rfl, _, H, (fi X), h1_3, (by rw [hr1]; exact hG), ⟨(by rw [hr1]; exact e3), m3⟩, (ap_fi a1 (lw_91 kX hna hal)), (fr_tr fr_rf (fr_mo hr3 (by simp)))⟩)
                        ·
                          exact gz_iret rfl dX3_apply_196 (Nat.le_of_ble_eq_true rfl) (Nat.le_of_ble_eq_true rfl) (⟨_, rfl, _, H, X, h1_3, (by rw [hr1]; exact hG), ⟨(by rw [hr1]; exact hX.1), hX.2⟩, (ap_x ((lw_92 kX hna hn0 hn1).trans (t41_1 hG (by omega) hX.2 a1e).symm)), (fr_tr fr_rf (fr_mo hr3 (by simp)))⟩)
                      ·
                        refine gz_iload_n dX3_apply_186 rfl rfl ?_
                        refine gz_goto (tgt := 196) dX3_apply_187 (by decide) ?_
                        exact gz_iret rfl dX3_apply_196 (Nat.le_of_ble_eq_true rfl) (Nat.le_of_ble_eq_true rfl) (⟨_, rfl, _, H, (fi X), h1, hG, ⟨e3, m3⟩, (ap_fi a1 (lw_n1 (by omega) (inz.mp c_183))), fr_rf⟩)
                    ·
                      by_cases hw_40_10 : (g (13 * X + 0)) = 10
                      ·
                        refine gz_ev (w := .int 10) (congrArg Value.int hw_40_10) ?_
                        refine gz_tableIn (off := 157) (tgt := 197) dX3_apply_40 (by decide) (by decide) rfl (by decide) ?_
                        have kX : (H X).1 = 10 := by rw [← g0, hw_40_10]; rfl
                        have a1 : 1 ≤ arH (H X) := by omega
                        obtain ⟨e3, l3, m3⟩ := gf a1
                        have ein : fldF n1 g s (g (13 * X + 3)) 0 = g (13 * (fi X) + 0) := fldG hs e3 m3 (show (0 : Int32).toInt = (0 : Nat) from rfl) (by decide)
                        obtain ⟨ga2, va2, gf2, gs2⟩ := hG (fi X) m3
                        have gi := ga2.1
                        have hak2 := arH_k va2
                        have inz : fldF n1 g s (g (13 * X + 3)) 0 = 0 ↔ kdT (trG H fi se 41 (fi X)) = 0 := by rw [ein, fl_eq, gi, t41_k]; exact Iff.rfl
                        have a1e : arH (H X) = 1 := by omega
                        refine gz_iload dX3_apply_197 rfl ?_
                        refine gz_bipush (v := 10) dX3_apply_199 (by decide) ?_
                        refine gz_icmp_ne (tgt := 213) dX3_apply_201 (by decide) (fun c_201 => ?_) (fun c_201 => ?_)
                        ·
                          refine gz_iload dX3_apply_213 rfl ?_
                          refine gz_if_ne (tgt := 222) dX3_apply_215 (by decide) (fun c_215 => ?_) (fun c_215 => ?_)
                          ·
                            refine gz_iload_n dX3_apply_222 rfl rfl ?_
                            exact gz_iret rfl dX3_apply_223 (Nat.le_of_ble_eq_true rfl) (Nat.le_of_ble_eq_true rfl) (⟨_, rfl, _, H, X, h1, hG, hX, (ap_x ((lw_k10 kX (fun z => c_215 (inz.mpr z)) (fun z => c_201 (Int32.toInt_inj.mp (by rw [ein, gi]; exact z)))).trans (t41_1 hG (by omega) hX.2 a1e).symm)), fr_rf⟩)
                          ·
                            refine gz_iload_n dX3_apply_218 rfl rfl ?_
                            refine gz_goto (tgt := 223) dX3_apply_219 (by decide) ?_
                            exact gz_iret rfl dX3_apply_223 (Nat.le_of_ble_eq_true rfl) (Nat.le_of_ble_eq_true rfl) (⟨_, rfl, _, H, (fi X), h1, hG, ⟨e3, m3⟩, (ap_fi a1 (lw_n1 (by omega) (inz.mp c_215))), fr_rf⟩)
                        ·
                          refine gz_aload_n dX3_apply_204 rfl rfl ?_
                          refine gz_iload_n dX3_apply_205 rfl rfl ?_
                          refine gz_iload_n dX3_apply_206 rfl rfl ?_
                          have k10 : (H (fi X)).1 = 10 := by rw [← gi, ← ein, c_201]; rfl
                          have hcp := cp_c (n1 := n1) hs hG hX.1 hX.2 e3 m3 kX k10
                          obtain ⟨x2, hx2⟩ : ∃ x0, (cpLF n1 g s x (g (13 * X + 3))) = x0 := ⟨_, rfl⟩
                          refine scX3_62 (k_X3_capLaw (x := x) (y := (g (13 * X + 3))) hla hp h1 hs) hla ⟨(Nat.le_of_ble_eq_true rfl), (Nat.le_of_ble_eq_true rfl)⟩ ⟨(Nat.le_of_ble_eq_true rfl), (Nat.le_of_ble_eq_true rfl)⟩ rfl rfl (Nat.le_of_ble_eq_true rfl) dX3_apply_207 ?_
                          rintro r4 f4 ⟨z4, h1_4, hr4⟩; rw [hx2] at z4 h1_4; rw [z4]
                          have hla_4 : f4 la = some (.inr (3, [.ref p, .ref bc])) := hr4 _ _ hla (by simp only [List.mem_cons, List.not_mem_nil, or_false, not_or]; exact cne hla h1 (by simp))
                          have hp_4 : f4 p = some (.inr (2, [.ref c1, .ref c2, .int s, .int v])) := hr4 _ _ hp (by simp only [List.mem_cons, List.not_mem_nil, or_false, not_or]; exact cne hp h1 (by simp))
                          have h2_4 : f4 c2 = some (.inl (cy 0, n2, .inl (h))) := hr4 _ _ h2 (by simp only [List.mem_cons, List.not_mem_nil, or_false, not_or]; exact Ne.symm (hne))
                          rw [hx2] at hcp
                          refine gz_goto (tgt := 223) dX3_apply_210 (by decide) ?_
                          exact gz_iret rfl dX3_apply_223 (Nat.le_of_ble_eq_true rfl) (Nat.le_of_ble_eq_true rfl) (⟨_, rfl, _, _, (fi X), h1_4, hcp.2, ⟨(by rw [hcp.1]; exact e3), m3⟩, (ap_cp hG (by omega) hX.2 kX a1 k10 (by omega)), (fr_tr fr_rf (fr_mo hr4 (by simp)))⟩)
                      ·
                        refine gz_tableOut (tgt := 224) dX3_apply_40 (by have g0 : (g (13 * X + 0)).toInt ≠ 0 := fun e => hw_40_0 (Int32.toInt_inj.mp (e.trans rfl)); have g1 : (g (13 * X + 0)).toInt ≠ 1 := fun e => hw_40_1 (Int32.toInt_inj.mp (e.trans rfl)); have g2 : (g (13 * X + 0)).toInt ≠ 2 := fun e => hw_40_2 (Int32.toInt_inj.mp (e.trans rfl)); have g3 : (g (13 * X + 0)).toInt ≠ 3 := fun e => hw_40_3 (Int32.toInt_inj.mp (e.trans rfl)); have g4 : (g (13 * X + 0)).toInt ≠ 4 := fun e => hw_40_4 (Int32.toInt_inj.mp (e.trans rfl)); have g5 : (g (13 * X + 0)).toInt ≠ 5 := fun e => hw_40_5 (Int32.toInt_inj.mp (e.trans rfl)); have g6 : (g (13 * X + 0)).toInt ≠ 6 := fun e => hw_40_6 (Int32.toInt_inj.mp (e.trans rfl)); have g7 : (g (13 * X + 0)).toInt ≠ 7 := fun e => hw_40_7 (Int32.toInt_inj.mp (e.trans rfl)); have g8 : (g (13 * X + 0)).toInt ≠ 8 := fun e => hw_40_8 (Int32.toInt_inj.mp (e.trans rfl)); have g9 : (g (13 * X + 0)).toInt ≠ 9 := fun e => hw_40_9 (Int32.toInt_inj.mp (e.trans rfl)); have g10 : (g (13 * X + 0)).toInt ≠ 10 := fun e => hw_40_10 (Int32.toInt_inj.mp (e.trans rfl)); omega) (by decide) ?_
                        exfalso; have q0 : (H X).1 ≠ 0 := fun z => hw_40_0 (Int32.toInt_inj.mp (by rw [g0, z]; rfl)); have q1 : (H X).1 ≠ 1 := fun z => hw_40_1 (Int32.toInt_inj.mp (by rw [g0, z]; rfl)); have q2 : (H X).1 ≠ 2 := fun z => hw_40_2 (Int32.toInt_inj.mp (by rw [g0, z]; rfl)); have q3 : (H X).1 ≠ 3 := fun z => hw_40_3 (Int32.toInt_inj.mp (by rw [g0, z]; rfl)); have q4 : (H X).1 ≠ 4 := fun z => hw_40_4 (Int32.toInt_inj.mp (by rw [g0, z]; rfl)); have q5 : (H X).1 ≠ 5 := fun z => hw_40_5 (Int32.toInt_inj.mp (by rw [g0, z]; rfl)); have q6 : (H X).1 ≠ 6 := fun z => hw_40_6 (Int32.toInt_inj.mp (by rw [g0, z]; rfl)); have q7 : (H X).1 ≠ 7 := fun z => hw_40_7 (Int32.toInt_inj.mp (by rw [g0, z]; rfl)); have q8 : (H X).1 ≠ 8 := fun z => hw_40_8 (Int32.toInt_inj.mp (by rw [g0, z]; rfl)); have q9 : (H X).1 ≠ 9 := fun z => hw_40_9 (Int32.toInt_inj.mp (by rw [g0, z]; rfl)); have q10 : (H X).1 ≠ 10 := fun z => hw_40_10 (Int32.toInt_inj.mp (by rw [g0, z]; rfl)); omega
