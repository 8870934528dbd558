/-! a VALUE of the class, in the words of the text -/
theorem tX_rg {g : Nat → Int32} {L : Int32} {k : Nat} : -1 ≤ tX g L k ∧ tX g L k ≤ 255 := by
  unfold tX
  split
  · obtain ⟨j, hj, e⟩ := pk_andE (g k) (m := 255) 8 (by decide)
    rw [e, nI_toInt (by omega)]
    omega
  · omega
theorem rnv_va {len : Int32} {tg : Nat → Int32} {pl lg : Int32} {q : Nat} (hl : 0 ≤ len.toInt ∧ len.toInt ≤ 400) (hq : pl.toInt = q) (h8 : q ≤ 400) (hg : lg.toInt = ltR (tX tg len) q) :
    ((ltR (tX tg len) q = 3 ∧ tX tg len q = 100 ∧ tX tg len (q + 1) = 97 ∧ tX tg len (q + 2) = 121) → (rnvF len 400 tg pl 0 lg).2.1.toInt = q + 3 ∧ (rnvF len 400 tg pl 0 lg).2.2 = 0)
    ∧ ((ltR (tX tg len) q = 1 ∧ tX tg len q = 115) → (48 ≤ tX tg len (q + 1) ∧ tX tg len (q + 1) ≤ 53) → (rnvF len 400 tg pl 0 lg).2.1.toInt = q + 2 ∧ (rnvF len 400 tg pl 0 lg).2.2 = 0)
    ∧ ((ltR (tX tg len) q = 1 ∧ tX tg len q = 115) → ¬ (48 ≤ tX tg len (q + 1) ∧ tX tg len (q + 1) ≤ 53) → (rnvF len 400 tg pl 0 lg).2.2.toInt = 1 + 8 * ((q : Int) + 1))
    ∧ (¬ (ltR (tX tg len) q = 3 ∧ tX tg len q = 100 ∧ tX tg len (q + 1) = 97 ∧ tX tg len (q + 2) = 121) → ¬ (ltR (tX tg len) q = 1 ∧ tX tg len q = 115) → (rnvF len 400 tg pl 0 lg).2.2.toInt = 1 + 8 * (q : Int)) := by
  have p1 := T_add hq (show (1 : Int32).toInt = 1 from rfl) (by omega)
  have p2 := T_add hq (show (2 : Int32).toInt = 2 from rfl) (by omega)
  have t0 := tAt_tX (tg := tg) hl hq
  have t1 := tAt_tX (tg := tg) (k := q + 1) hl (i := pl + 1) (by omega)
  have t2 := tAt_tX (tg := tg) (k := q + 2) hl (i := pl + 2) (by omega)
  have b1 := tX_rg (g := tg) (L := len) (k := q + 1)
  have s1 := T_sub t1 (show (48 : Int32).toInt = 48 from rfl) (by omega)
  have f0 := fai_0 (k := 0) (c := 0) hq (by omega) rfl (by omega)
  have f1 := fai_0 (a := pl + 1) (k := 0) (c := 0) (p := q + 1) (by omega) (by omega) rfl (by omega)
  unfold rnvF
  simp only [fl_eq, fl_lt, Int32.reduceToInt, t0, t1, t2, s1, hg]
  refine ⟨fun d => ?_, fun d e => ?_, fun d e => ?_, fun d e => ?_⟩
  · have q3 := T_add hq hg (by omega)
    rw [if_pos (by omega), if_pos (by omega), if_pos (by omega), if_pos (by omega)]
    exact ⟨by show (pl + lg).toInt = _; omega, rfl⟩
  · rw [if_neg (by omega), if_pos (by omega), if_pos (by omega), if_neg (by omega), if_pos (by omega)]
    exact ⟨by show (pl + 2).toInt = _; omega, rfl⟩
  · rw [if_neg (by omega), if_pos (by omega), if_pos (by omega)]
    repeat' split
    all_goals first | (exfalso; omega) | (show (faiF 0 (pl + 1) 0).2.toInt = _; omega)
  · repeat' split
    all_goals first | (exfalso; omega) | (show (faiF 0 pl 0).2.toInt = _; omega)