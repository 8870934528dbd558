/-! readSum -/
theorem vaR_ok {T : Nat → Int} {L p V q V2 : Nat} (hT : tLn T L) (hp : p ≤ L) (hV : V ≤ 40) (h : vaR T p V = .inr (q, V2)) : V2 = V + 1 ∧ V2 ≤ 40 ∧ q ≤ L := by
  have hs := skR_le hT hp
  have ot : ∀ k, T k ≠ -1 → k < L := fun k hk => by
    rcases Nat.lt_or_ge k L with z | z
    · exact z
    · exact absurd (hT.2 k z) hk
  unfold vaR at h
  generalize skR T p = s at h hs
  by_cases c1 : 48 ≤ T s ∧ T s ≤ 57
  · rw [if_pos c1] at h
    cases hn : nuR T s with
    | inl c => rw [hn] at h; cases h
    | inr Q =>
      rw [hn] at h
      dsimp only at h
      by_cases cV : V = 40
      · rw [if_pos cV] at h; cases h
      · rw [if_neg cV] at h
        cases h
        have hd := dgB_le hT 401 s hs.2.1
        have hd2 : s + dgR T s ≤ L := hd
        unfold nuR at hn
        by_cases d1 : dgR T s = 0
        · rw [if_pos d1] at hn; cases hn
        · rw [if_neg d1] at hn
          by_cases d2 : 5 < dgR T s
          · rw [if_pos d2] at hn; cases hn
          · rw [if_neg d2] at hn
            cases hn
            omega
  · rw [if_neg c1] at h
    by_cases D : ltR T s = 3 ∧ T s = 100 ∧ T (s + 1) = 97 ∧ T (s + 2) = 121
    · rw [if_pos D] at h
      by_cases cV : V = 40
      · rw [if_pos cV] at h; cases h
      · rw [if_neg cV] at h
        cases h
        have := ot (s + 2) (by omega)
        omega
    · rw [if_neg D] at h
      by_cases Sx : ltR T s = 1 ∧ T s = 115
      · rw [if_pos Sx] at h
        by_cases cV : V = 40
        · rw [if_pos cV] at h; cases h
        · rw [if_neg cV] at h
          by_cases ok : 48 ≤ T (s + 1) ∧ T (s + 1) ≤ 53
          · rw [if_pos ok] at h
            cases h
            have := ot (s + 1) (by omega)
            omega
          · rw [if_neg ok] at h; cases h
      · rw [if_neg Sx] at h; cases h
theorem rsmL_su {len : Int32} {tg : Nat → Int32} (hl : 0 ≤ len.toInt ∧ len.toInt ≤ 400) : ∀ (k : Nat) (i jo pl v : Int32) (h : Nat → Int32) (p V m : Nat), pl.toInt = p → (p : Int) ≤ len.toInt → v.toInt = V → V ≤ 40 → 0 ≤ i.toInt ∧ i.toInt ≤ (V : Int) ∧ i.toInt + (k : Int) = 42 → 41 ≤ m + V →
    exV (suR (tX tg len) m p V) (rsmL len 400 tg 80 k i jo pl 0 v h).1 (rsmL len 400 tg 80 k i jo pl 0 v h).2.1 (rsmL len 400 tg 80 k i jo pl 0 v h).2.2.1 (rsmL len 400 tg 80 k i jo pl 0 v h).2.2.2.1 := by
  have e40 : (40 : Int32).toInt = 40 := rfl
  have hln := tX_ln (g := tg) hl
  intro k
  induction k with
  | zero => intro i jo pl v h p V m h1 h2 h3 h4 h5 h6; exfalso; omega
  | succ k ih =>
    intro i jo pl v h p V m h1 h2 h3 h4 h5 h6
    obtain ⟨m', rfl⟩ : ∃ m', m = m' + 1 := ⟨m - 1, by omega⟩
    have ex := rva_va (tg := tg) (h := h) (jo := jo) hl h1 h2 h3 h4
    unfold suR rsmL
    rw [if_neg (show ¬ (40 : Int32) < i by rw [fl_lt, e40]; omega)]
    unfold lett
    generalize rvaF len 400 tg pl 0 80 h v jo = w at ex ⊢
    cases hva : vaR (tX tg len) p V with
    | inl c =>
      rw [hva] at ex
      obtain ⟨r1, r2⟩ := ex
      dsimp only
      rw [if_pos r1]
      exact ⟨rfl, r2⟩
    | inr r =>
      obtain ⟨q, V2⟩ := r
      obtain ⟨o1, o2, o3⟩ := vaR_ok hln (by omega) h4 hva
      rw [hva] at ex
      obtain ⟨r1, r2, r3, r4⟩ := ex
      dsimp only
      rw [if_neg (show ¬ w.1 = 0 by rw [r1]; decide), r3]
      obtain ⟨u1, u2⟩ := upnF_sk (tg := tg) hl r2 (by omega)
      have hs := skR_le hln (p := q) o3
      generalize upnF len 400 tg w.2.1 = y at u1 u2 ⊢
      have q1 := T_add u2 (show (1 : Int32).toInt = 1 from rfl) (by omega)
      have q2 := T_add (rfl : i.toInt = i.toInt) (show (1 : Int32).toInt = 1 from rfl) (by omega)
      have hlt : tX tg len (skR (tX tg len) q) ≠ -1 → (skR (tX tg len) q : Int) < len.toInt := fun hne => by
        by_cases c : (skR (tX tg len) q : Int) < len.toInt
        · exact c
        · exact absurd (tX_out c) hne
      have go : tX tg len (skR (tX tg len) q) ≠ -1 → exV (suR (tX tg len) m' (skR (tX tg len) q + 1) V2) (rsmL len 400 tg 80 k (i + 1) y.1 (y.2 + 1) 0 w.2.2.2.1 w.2.2.2.2).1 (rsmL len 400 tg 80 k (i + 1) y.1 (y.2 + 1) 0 w.2.2.2.1 w.2.2.2.2).2.1 (rsmL len 400 tg 80 k (i + 1) y.1 (y.2 + 1) 0 w.2.2.2.1 w.2.2.2.2).2.2.1 (rsmL len 400 tg 80 k (i + 1) y.1 (y.2 + 1) 0 w.2.2.2.1 w.2.2.2.2).2.2.2.1 := fun hne => ih (i + 1) y.1 (y.2 + 1) w.2.2.2.1 w.2.2.2.2 (skR (tX tg len) q + 1) V2 m' (by omega) (by have := hlt hne; omega) r4 o2 (by omega) (by omega)
      by_cases c1 : y.1 = 43
      · rw [if_pos c1, if_pos (show tX tg len (skR (tX tg len) q) = 43 ∨ tX tg len (skR (tX tg len) q) = 45 ∨ tX tg len (skR (tX tg len) q) = 42 from Or.inl (by rw [← u1, c1]; rfl))]
        exact go (by rw [← u1, c1]; decide)
      · rw [if_neg c1]
        by_cases c2 : y.1 = 45
        · rw [if_pos c2, if_pos (show tX tg len (skR (tX tg len) q) = 43 ∨ tX tg len (skR (tX tg len) q) = 45 ∨ tX tg len (skR (tX tg len) q) = 42 from Or.inr (Or.inl (by rw [← u1, c2]; rfl)))]
          exact go (by rw [← u1, c2]; decide)
        · rw [if_neg c2]
          by_cases c3 : y.1 = 42
          · rw [if_pos c3, if_pos (show tX tg len (skR (tX tg len) q) = 43 ∨ tX tg len (skR (tX tg len) q) = 45 ∨ tX tg len (skR (tX tg len) q) = 42 from Or.inr (Or.inr (by rw [← u1, c3]; rfl)))]
            exact go (by rw [← u1, c3]; decide)
          · rw [if_neg c3, if_neg (show ¬ (tX tg len (skR (tX tg len) q) = 43 ∨ tX tg len (skR (tX tg len) q) = 45 ∨ tX tg len (skR (tX tg len) q) = 42) from fun z => by
              rcases z with z | z | z
              · exact c1 (Int32.toInt_inj.mp (by rw [u1, z]; rfl))
              · exact c2 (Int32.toInt_inj.mp (by rw [u1, z]; rfl))
              · exact c3 (Int32.toInt_inj.mp (by rw [u1, z]; rfl)))]
            exact ⟨rfl, u2, rfl, r4⟩