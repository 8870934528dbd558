/-! a SUM's end; readRelation -/
theorem suR_ok {T : Nat → Int} {L : Nat} (hT : tLn T L) : ∀ (m p V q V2 : Nat), p ≤ L → V ≤ 40 → suR T m p V = .inr (q, V2) → V + 1 ≤ V2 ∧ V2 ≤ 40 ∧ q ≤ L := by
  intro m
  induction m with
  | zero => intro p V q V2 hp hV h; cases h
  | succ m ih =>
    intro p V q V2 hp hV h
    unfold suR at h
    cases hva : vaR T p V with
    | inl c => rw [hva] at h; cases h
    | inr r =>
      obtain ⟨q1, V1⟩ := r
      obtain ⟨o1, o2, o3⟩ := vaR_ok hT hp hV hva
      have hs := skR_le hT (p := q1) o3
      rw [hva] at h
      dsimp only at h
      by_cases c : T (skR T q1) = 43 ∨ T (skR T q1) = 45 ∨ T (skR T q1) = 42
      · rw [if_pos c] at h
        have hlt : skR T q1 < L := by
          rcases Nat.lt_or_ge (skR T q1) L with z | z
          · exact z
          · rw [hT.2 _ z] at c; omega
        have r := ih (skR T q1 + 1) V1 q V2 (by omega) o2 h
        omega
      · rw [if_neg c] at h
        cases h
        omega
theorem rrl_re {len : Int32} {tg g : Nat → Int32} {pl s wd : Int32} {p n1 : Nat} (hl : 0 ≤ len.toInt ∧ len.toInt ≤ 400) (hp : pl.toInt = p) (h4 : (p : Int) ≤ len.toInt) : exS (reR (tX tg len) p) (rrlF len 400 tg pl 0 n1 g s wd).1 (rrlF len 400 tg pl 0 n1 g s wd).2.1 (rrlF len 400 tg pl 0 n1 g s wd).2.2.1 := by
  obtain ⟨u1, u2⟩ := upnF_sk (tg := tg) hl hp (by omega)
  have hs := skR_le (tX_ln (g := tg) hl) (p := p) (by omega)
  unfold reR rrlF lett
  generalize upnF len 400 tg pl = y at u1 u2 ⊢
  generalize skR (tX tg len) p = q at u1 u2 hs ⊢
  have q1 := T_add u2 (show (1 : Int32).toInt = 1 from rfl) (by omega)
  have q2 := T_add q1 (show (1 : Int32).toInt = 1 from rfl) (by omega)
  have t1 := tAt_tX (tg := tg) (k := q + 1) hl (i := y.2 + 1) (by omega)
  have f0 := fai_0 (k := 0) (c := 0) u2 (by omega) rfl (by omega)
  by_cases c60 : y.1 = 60
  · have e : tX tg len q = 60 := by rw [← u1, c60]; rfl
    simp only [c60, if_true, e]
    simp only [show ¬ ((60 : Int) = 61) by decide, if_false, true_or, if_true, show ¬ ((1 : Int32) = 0) by decide, show ¬ ((1 : Int32) = 2) by decide]
    by_cases c : tAt len 400 tg (y.2 + 1) = 61
    · rw [if_pos c, if_pos (show tX tg len (q + 1) = 61 by rw [← t1, c]; rfl)]
      exact ⟨rfl, by show (y.2 + 1 + 1).toInt = _; omega, rfl⟩
    · rw [if_neg c, if_neg (show ¬ tX tg len (q + 1) = 61 from fun z => c (Int32.toInt_inj.mp (by rw [t1, z]; rfl)))]
      exact ⟨rfl, by show (y.2 + 1).toInt = _; omega, rfl⟩
  · by_cases c62 : y.1 = 62
    · have e : tX tg len q = 62 := by rw [← u1, c62]; rfl
      simp only [c62, e]
      simp only [show ¬ ((62 : Int) = 61) by decide, show ¬ ((62 : Int32) = 60) by decide, if_false, or_true, if_true, show ¬ ((4 : Int32) = 0) by decide, show ¬ ((4 : Int32) = 2) by decide]
      by_cases c : tAt len 400 tg (y.2 + 1) = 61
      · rw [if_pos c, if_pos (show tX tg len (q + 1) = 61 by rw [← t1, c]; rfl)]
        exact ⟨rfl, by show (y.2 + 1 + 1).toInt = _; omega, rfl⟩
      · rw [if_neg c, if_neg (show ¬ tX tg len (q + 1) = 61 from fun z => c (Int32.toInt_inj.mp (by rw [t1, z]; rfl)))]
        exact ⟨rfl, by show (y.2 + 1).toInt = _; omega, rfl⟩
    · by_cases c61 : y.1 = 61
      · have e : tX tg len q = 61 := by rw [← u1, c61]; rfl
        simp only [c61, e]
        simp only [show ¬ ((61 : Int32) = 60) by decide, show ¬ ((61 : Int32) = 62) by decide, if_false, if_true, show ¬ ((2 : Int32) = 0) by decide]
        exact ⟨rfl, by show (y.2 + 1).toInt = _; omega, rfl⟩
      · have e60 : ¬ tX tg len q = 60 := fun z => c60 (Int32.toInt_inj.mp (by rw [u1, z]; rfl))
        have e62 : ¬ tX tg len q = 62 := fun z => c62 (Int32.toInt_inj.mp (by rw [u1, z]; rfl))
        have e61 : ¬ tX tg len q = 61 := fun z => c61 (Int32.toInt_inj.mp (by rw [u1, z]; rfl))
        simp only [if_neg c60, if_neg c62, if_neg c61, if_neg e61, e60, e62, or_self, if_false, if_true]
        exact ⟨rfl, by show (faiF 0 y.2 0).2.toInt = _; omega⟩