def fI (g : Nat → Int32) (m : Int) : Prop := ∀ i : Nat, (i : Int) < m → ((g (13 * i + 3)).toInt = -1 ∨ ((i : Int) < (g (13 * i + 3)).toInt ∧ (g (13 * i + 3)).toInt < m)) ∧ ((g (13 * i + 4)).toInt = -1 ∨ ((i : Int) < (g (13 * i + 4)).toInt ∧ (g (13 * i + 4)).toInt < m))
theorem oi_m1 : Int32.ofInt (-1) = (-1) := by decide
theorem cl_N {x : Int32} {a : Int} (h : x.toInt = a) (h0 : 0 ≤ a) : x.toNatClampNeg = a.toNat := by
  rw [← h]; rfl
theorem st_cases {n1 : Nat} {g : Nat → Int32} {s w k x : Int32} (hs : 0 ≤ s.toInt ∧ 13 * s.toInt ≤ n1 ∧ n1 ≤ 520) : stF n1 g s w k x = g ∨ (0 ≤ w.toInt ∧ w.toInt < s.toInt ∧ 0 ≤ k.toInt ∧ k.toInt < 13 ∧ stF n1 g s w k x = upd g (13 * w.toInt + k.toInt).toNat x) := by
  have e13 : (13 : Int32).toInt = 13 := rfl
  have e0 : (0 : Int32).toInt = 0 := rfl
  have eN : (Int32.ofNat n1).toInt = n1 := ofN_toInt (by omega)
  unfold stF
  split
  · exact Or.inl rfl
  · split
    · exact Or.inl rfl
    · split
      · exact Or.inl rfl
      · split
        · split
          · exact Or.inl rfl
          · rename_i h1 h2 h3 h4 h5
            simp only [fl_lt, fl_le] at h1 h2 h3 h4
            have hx := T_add (T_mul (rfl : w.toInt = w.toInt) e13 (by omega)) (rfl : k.toInt = k.toInt) (by omega)
            refine Or.inr ⟨by omega, by omega, by omega, by omega, ?_⟩
            rw [cl_N hx (by omega)]
            rw [show w.toInt * 13 + k.toInt = 13 * w.toInt + k.toInt by omega]
        · exact Or.inl rfl
theorem st_in {n1 : Nat} {g : Nat → Int32} {s w k x : Int32} (hs : 0 ≤ s.toInt ∧ 13 * s.toInt ≤ n1 ∧ n1 ≤ 520) (hw : 0 ≤ w.toInt ∧ w.toInt < s.toInt) (hk : 0 ≤ k.toInt ∧ k.toInt < 13) : stF n1 g s w k x = upd g (13 * w.toInt + k.toInt).toNat x := by
  have e13 : (13 : Int32).toInt = 13 := rfl
  have e0 : (0 : Int32).toInt = 0 := rfl
  have eN : (Int32.ofNat n1).toInt = n1 := ofN_toInt (by omega)
  have hx := T_add (T_mul (rfl : w.toInt = w.toInt) e13 (by omega)) (rfl : k.toInt = k.toInt) (by omega)
  unfold stF
  rw [if_neg (by rw [fl_lt]; omega), if_neg (by rw [fl_le]; omega), if_neg (by rw [fl_lt]; omega), if_pos (by rw [fl_lt]; omega), if_neg (by rw [fl_le, hx]; omega), cl_N hx (by omega)]
  rw [show w.toInt * 13 + k.toInt = 13 * w.toInt + k.toInt by omega]
theorem fld_in {n1 : Nat} {g : Nat → Int32} {s w k : Int32} (hs : 0 ≤ s.toInt ∧ 13 * s.toInt ≤ n1 ∧ n1 ≤ 520) (hw : 0 ≤ w.toInt ∧ w.toInt < s.toInt) (hk : 0 ≤ k.toInt ∧ k.toInt < 13) : fldF n1 g s w k = g (13 * w.toInt + k.toInt).toNat := by
  have e13 : (13 : Int32).toInt = 13 := rfl
  have e0 : (0 : Int32).toInt = 0 := rfl
  have eN : (Int32.ofNat n1).toInt = n1 := ofN_toInt (by omega)
  have hx := T_add (T_mul (rfl : w.toInt = w.toInt) e13 (by omega)) (rfl : k.toInt = k.toInt) (by omega)
  unfold fldF
  rw [if_neg (by rw [fl_lt]; omega), if_neg (by rw [fl_le]; omega), if_neg (by rw [fl_lt]; omega), if_pos (by rw [fl_lt]; omega), if_neg (by rw [fl_le, hx]; omega), cl_N hx (by omega)]
  rw [show w.toInt * 13 + k.toInt = 13 * w.toInt + k.toInt by omega]
theorem fld_out {n1 : Nat} {g : Nat → Int32} {s w k : Int32} (hw : w.toInt < 0 ∨ s.toInt ≤ w.toInt) : fldF n1 g s w k = -1 := by
  have e0 : (0 : Int32).toInt = 0 := rfl
  unfold fldF
  by_cases h : w < 0
  · rw [if_pos h]
  · rw [if_neg h]
    rw [fl_lt] at h
    rw [if_pos (by rw [fl_le]; omega)]
theorem fld_kind {n1 : Nat} {g : Nat → Int32} {s w k : Int32} (h : ¬ fldF n1 g s w k = -1) : 0 ≤ w.toInt ∧ w.toInt < s.toInt := by
  by_cases h2 : w.toInt < 0 ∨ s.toInt ≤ w.toInt
  · exact absurd (fld_out h2) h
  · omega
/-- where a WORD leads on, it leads to a later one -/
theorem fI_first {n1 : Nat} {g : Nat → Int32} {s w : Int32} (hs : 0 ≤ s.toInt ∧ 13 * s.toInt ≤ n1 ∧ n1 ≤ 520) (hI : fI g s.toInt) : (fldF n1 g s w 3).toInt = -1 ∨ (0 ≤ w.toInt ∧ w.toInt < s.toInt ∧ w.toInt < (fldF n1 g s w 3).toInt ∧ (fldF n1 g s w 3).toInt < s.toInt) := by
  by_cases h : 0 ≤ w.toInt ∧ w.toInt < s.toInt
  · rw [fld_in hs h (by decide)]
    have h2 := (hI w.toInt.toNat (by omega)).1
    rw [show (13 * w.toInt + (3 : Int32).toInt).toNat = 13 * w.toInt.toNat + 3 by have e3 : (3 : Int32).toInt = 3 := rfl; omega]
    omega
  · rw [fld_out (by omega)]; exact Or.inl rfl
theorem fI_second {n1 : Nat} {g : Nat → Int32} {s w : Int32} (hs : 0 ≤ s.toInt ∧ 13 * s.toInt ≤ n1 ∧ n1 ≤ 520) (hI : fI g s.toInt) : (fldF n1 g s w 4).toInt = -1 ∨ (0 ≤ w.toInt ∧ w.toInt < s.toInt ∧ w.toInt < (fldF n1 g s w 4).toInt ∧ (fldF n1 g s w 4).toInt < s.toInt) := by
  by_cases h : 0 ≤ w.toInt ∧ w.toInt < s.toInt
  · rw [fld_in hs h (by decide)]
    have h2 := (hI w.toInt.toNat (by omega)).2
    rw [show (13 * w.toInt + (4 : Int32).toInt).toNat = 13 * w.toInt.toNat + 4 by have e3 : (4 : Int32).toInt = 4 := rfl; omega]
    omega
  · rw [fld_out (by omega)]; exact Or.inl rfl
theorem fI_st {n1 : Nat} {g : Nat → Int32} {s w k x : Int32} {m : Int} (hs : 0 ≤ s.toInt ∧ 13 * s.toInt ≤ n1 ∧ n1 ≤ 520) (hI : fI g m) (hx : (k.toInt ≠ 3 ∧ k.toInt ≠ 4) ∨ x.toInt = -1 ∨ (w.toInt < x.toInt ∧ x.toInt < m)) : fI (stF n1 g s w k x) m := by
  rcases st_cases (g := g) (w := w) (k := k) (x := x) hs with h | ⟨h1, h2, h3, h4, h⟩
  · rw [h]; exact hI
  · rw [h]
    intro i hi
    have q := hI i hi
    refine ⟨?_, ?_⟩
    · show ((if 13 * i + 3 = _ then _ else _ : Int32)).toInt = -1 ∨ ((i : Int) < ((if 13 * i + 3 = _ then _ else _ : Int32)).toInt ∧ ((if 13 * i + 3 = _ then _ else _ : Int32)).toInt < m)
      by_cases e : 13 * i + 3 = (13 * w.toInt + k.toInt).toNat
      · rw [if_pos e]; omega
      · rw [if_neg e]; exact q.1
    · show ((if 13 * i + 4 = _ then _ else _ : Int32)).toInt = -1 ∨ ((i : Int) < ((if 13 * i + 4 = _ then _ else _ : Int32)).toInt ∧ ((if 13 * i + 4 = _ then _ else _ : Int32)).toInt < m)
      by_cases e : 13 * i + 4 = (13 * w.toInt + k.toInt).toNat
      · rw [if_pos e]; omega
      · rw [if_neg e]; exact q.2
theorem fI_new {n1 : Nat} {g : Nat → Int32} {s s1 : Int32} (h1 : s1.toInt = s.toInt + 1) (h0 : 0 ≤ s.toInt) (hs : 0 ≤ s1.toInt ∧ 13 * s1.toInt ≤ n1 ∧ n1 ≤ 520) (hI : fI g s.toInt) : fI (stF n1 (stF n1 g s1 s 3 (-1)) s1 s 4 (-1)) s1.toInt := by
  have e3 : (3 : Int32).toInt = 3 := rfl
  have e4 : (4 : Int32).toInt = 4 := rfl
  have em : (-1 : Int32).toInt = -1 := rfl
  intro i hi
  by_cases e : (i : Int) = s.toInt
  · rw [st_in hs (by omega) (by decide), st_in hs (by omega) (by decide)]
    refine ⟨Or.inl ?_, Or.inl ?_⟩
    · show ((if 13 * i + 3 = _ then _ else (if 13 * i + 3 = _ then _ else _) : Int32)).toInt = -1
      rw [if_neg (by omega), if_pos (by omega)]; rfl
    · show ((if 13 * i + 4 = _ then _ else (if 13 * i + 4 = _ then _ else _) : Int32)).toInt = -1
      rw [if_pos (by omega)]; rfl
  · have q := fI_st hs (fI_st hs hI (w := s) (k := 3) (x := -1) (Or.inr (Or.inl rfl))) (w := s) (k := 4) (x := -1) (Or.inr (Or.inl rfl)) i (by omega)
    omega
theorem inhF_ok {n1 : Nat} {g : Nat → Int32} {s wd ar : Int32} {m : Int} (hs : 0 ≤ s.toInt ∧ 13 * s.toInt ≤ n1 ∧ n1 ≤ 520) (hI : fI g m) (h : ar.toInt < wd.toInt ∧ wd.toInt < m) : fI (inhF n1 g s wd ar) m := by
  unfold inhF
  refine fI_st hs (fI_st hs (fI_st hs (fI_st hs (fI_st hs (fI_st hs hI (Or.inr (Or.inr h))) (Or.inl (by decide))) (Or.inl (by decide))) (Or.inl (by decide))) (Or.inl (by decide))) (Or.inl (by decide))
theorem grwF_ok {n1 : Nat} {g : Nat → Int32} {s kd ar : Int32} (hs : 0 ≤ s.toInt ∧ 13 * s.toInt ≤ n1 ∧ n1 ≤ 520) (hI : fI g s.toInt) : (0 ≤ (grwF n1 g s kd ar).2.2.toInt ∧ 13 * (grwF n1 g s kd ar).2.2.toInt ≤ n1 ∧ n1 ≤ 520) ∧ fI (grwF n1 g s kd ar).2.1 (grwF n1 g s kd ar).2.2.toInt ∧ (((grwF n1 g s kd ar).1 = -1 ∧ (grwF n1 g s kd ar).2.2 = s) ∨ ((grwF n1 g s kd ar).1 = s ∧ (grwF n1 g s kd ar).2.2.toInt = s.toInt + 1)) := by
  have e13 : (13 : Int32).toInt = 13 := rfl
  have e1 : (1 : Int32).toInt = 1 := rfl
  have e0 : (0 : Int32).toInt = 0 := rfl
  have eN : (Int32.ofNat n1).toInt = n1 := ofN_toInt (by omega)
  have hx := T_add (rfl : s.toInt = s.toInt) e1 (by omega)
  have hy := T_mul hx e13 (by omega)
  unfold grwF
  split
  · exact ⟨hs, hI, Or.inl ⟨rfl, rfl⟩⟩
  · split
    · exact ⟨hs, hI, Or.inl ⟨rfl, rfl⟩⟩
    · rename_i c1 c2
      simp only [fl_lt] at c1 c2
      rw [hy] at c2
      have hs1 : 0 ≤ (s + 1).toInt ∧ 13 * (s + 1).toInt ≤ n1 ∧ n1 ≤ 520 := ⟨by omega, by omega, by omega⟩
      have hI4 := fI_new (n1 := n1) hx (by omega) hs1 (fI_st hs1 (fI_st hs1 (fI_st hs1 hI (w := s) (k := 0) (x := -1) (Or.inl (by decide))) (w := s) (k := 1) (x := -1) (Or.inl (by decide))) (w := s) (k := 2) (x := -1) (Or.inl (by decide)))
      have step : ∀ (g' : Nat → Int32) (k x : Int32), fI g' (s + 1).toInt → (k.toInt ≠ 3 ∧ k.toInt ≠ 4) → fI (stF n1 g' (s + 1) s k x) (s + 1).toInt := fun g' k x h hk => fI_st hs1 h (Or.inl hk)
      have hIe := step _ 12 0 (step _ 10 0 (step _ 1 0 (step _ 0 kd (step _ 12 (-1) (step _ 11 (-1) (step _ 10 (-1) (step _ 9 (-1) (step _ 8 (-1) (step _ 7 (-1) (step _ 6 (-1) (step _ 5 (-1) hI4 (by decide)) (by decide)) (by decide)) (by decide)) (by decide)) (by decide)) (by decide)) (by decide)) (by decide)) (by decide)) (by decide)) (by decide)
      split
      · split
        · exact ⟨hs1, hIe, Or.inr ⟨rfl, hx⟩⟩
        · split
          · exact ⟨hs1, hIe, Or.inr ⟨rfl, hx⟩⟩
          · rename_i c3 c4
            simp only [fl_le] at c4
            exact ⟨hs1, inhF_ok hs1 hIe (by rw [hx]; omega), Or.inr ⟨rfl, hx⟩⟩
      · exact ⟨hs, hI, Or.inl ⟨rfl, rfl⟩⟩

theorem rdnF_fi {len : Int32} {n : Nat} {tg : Nat → Int32} {pl fa : Int32} {n1 : Nat} {g : Nat → Int32} {s wd : Int32} {m : Int} (hs : 0 ≤ s.toInt ∧ 13 * s.toInt ≤ n1 ∧ n1 ≤ 520) (hI : fI g m) : fI (rdnF len n tg pl fa n1 g s wd).2.2.2 m := by
  unfold rdnF; simp only [lett]; (repeat' split) <;> first | exact hI | exact fI_st hs hI (Or.inl (by decide))
theorem rrlF_fi {len : Int32} {n : Nat} {tg : Nat → Int32} {pl fa : Int32} {n1 : Nat} {g : Nat → Int32} {s wd : Int32} {m : Int} (hs : 0 ≤ s.toInt ∧ 13 * s.toInt ≤ n1 ∧ n1 ≤ 520) (hI : fI g m) : fI (rrlF len n tg pl fa n1 g s wd).2.2.2 m := by
  unfold rrlF; simp only [lett]; (repeat' split) <;> first | exact hI | exact fI_st hs hI (Or.inl (by decide))
theorem rssF_fi {len : Int32} {n : Nat} {tg : Nat → Int32} {pl fa : Int32} {n1 n2 : Nat} {g h : Nat → Int32} {s v kd wd : Int32} {m : Int} (hs : 0 ≤ s.toInt ∧ 13 * s.toInt ≤ n1 ∧ n1 ≤ 520) (hI : fI g m) : fI (rssF len n tg pl fa n1 n2 g h s v kd wd).2.2.2.2.2 m := by
  have s5 : ∀ (g' : Nat → Int32) (w x : Int32), fI g' m → fI (stF n1 g' s w 5 x) m := fun g' w x h => fI_st hs h (Or.inl (by decide))
  have s6 : ∀ (g' : Nat → Int32) (w x : Int32), fI g' m → fI (stF n1 g' s w 6 x) m := fun g' w x h => fI_st hs h (Or.inl (by decide))
  have s7 : ∀ (g' : Nat → Int32) (w x : Int32), fI g' m → fI (stF n1 g' s w 7 x) m := fun g' w x h => fI_st hs h (Or.inl (by decide))
  unfold rssF; simp only [lett]
  (repeat' split) <;> first | with_reducible exact s5 _ _ _ hI | with_reducible exact s6 _ _ _ (s5 _ _ _ hI) | with_reducible exact s7 _ _ _ (s6 _ _ _ (s5 _ _ _ hI)) | with_reducible exact rrlF_fi hs (s6 _ _ _ (s5 _ _ _ hI)) | with_reducible exact s7 _ _ _ (rrlF_fi hs (s6 _ _ _ (s5 _ _ _ hI)))
