/-- how many WORDS a WORD has, itself too -/
def szF (F : Nat → Nat → Int32) (w : Int) : Nat := eN F (w / 40).toNat (F 6 (w / 40).toNat).toInt.toNat (w % 40).toNat - (w % 40).toNat
theorem vW_lt {F : Nat → Nat → Int32} {c w : Int} (hW : rW F c) (hc : 0 ≤ c ∧ c ≤ 20) (h : vW F c w) : 0 ≤ w ∧ w < 800 := by
  obtain ⟨f, k, h1, h2, h3⟩ := h
  have := (hW f h1).1
  omega
theorem vW_fk {F : Nat → Nat → Int32} {f k : Nat} (hk : k < 40) : ((40 * (f : Int) + k) / 40).toNat = f ∧ ((40 * (f : Int) + k) % 40).toNat = k := by omega
theorem szF_fk {F : Nat → Nat → Int32} {f k : Nat} (hk : k < 40) : szF F (40 * (f : Int) + k) = eN F f (F 6 f).toInt.toNat k - k := by
  unfold szF; rw [(vW_fk (F := F) hk).1, (vW_fk (F := F) hk).2]
theorem szF_pos {F : Nat → Nat → Int32} {c w : Int} (hW : rW F c) (h : vW F c w) : 1 ≤ szF F w ∧ szF F w ≤ 40 := by
  obtain ⟨f, k, h1, h2, h3⟩ := h
  have q := (hW f h1).1
  rw [h3, szF_fk (by omega)]
  have := eN_gt (F := F) (f := f) h2
  omega
theorem wAt {f k : Nat} {w : Int} (h : w = 40 * f + k) : w.toNat = 40 * f + k := by omega
/-- the WORD around a WORD -/
theorem par_ok {F : Nat → Nat → Int32} {c w : Int} (hW : rW F c) (h : vW F c w) : (F 10 w.toNat).toInt = -1 ∨ (vW F c (F 10 w.toNat).toInt ∧ (F 10 w.toNat).toInt < w) := by
  obtain ⟨f, k, h1, h2, h3⟩ := h
  have q := (hW f h1).2.1 k h2
  rw [wAt h3]
  rcases q.2.2.1 with z | ⟨p, z1, z2, z3⟩
  · exact Or.inl z.1
  · exact Or.inr ⟨⟨f, p, h1, by omega, z2⟩, by omega⟩
theorem knd_ok {F : Nat → Nat → Int32} {c w : Int} (hW : rW F c) (h : vW F c w) : 0 ≤ (F 7 w.toNat).toInt ∧ (F 7 w.toNat).toInt ≤ 10 := by
  obtain ⟨f, k, h1, h2, h3⟩ := h
  have q := (hW f h1).2.1 k h2
  rw [wAt h3]; exact q.1
theorem aro_ok {F : Nat → Nat → Int32} {c w : Int} (hW : rW F c) (h : vW F c w) : 0 ≤ (F 9 w.toNat).toInt ∧ (F 9 w.toNat).toInt ≤ 11 := by
  obtain ⟨f, k, h1, h2, h3⟩ := h
  have q := (hW f h1).2.1 k h2
  rw [wAt h3]; exact q.2.1
/-- the first DEED -/
theorem one_ok {F : Nat → Nat → Int32} {c w : Int} (hW : rW F c) (h : vW F c w) (hk : 2 ≤ (F 7 w.toNat).toInt) : vW F c (F 11 w.toNat).toInt ∧ szF F (F 11 w.toNat).toInt + 1 ≤ szF F w := by
  obtain ⟨f, k, h1, h2, h3⟩ := h
  have q := (hW f h1).2.1 k h2
  have q0 := (hW f h1).1
  rw [wAt h3] at hk ⊢
  obtain ⟨t, z1, z2, z3, -⟩ := q.2.2.2.1 hk
  have z4 := eN_gt (F := F) (f := f) h2
  have z5 := eN_lam (F := F) (f := f) h2 (Nat.le_of_lt z2) z3
  refine ⟨⟨f, t, h1, by omega, z1⟩, ?_⟩
  rw [z1, h3, szF_fk (by omega), szF_fk (by omega)]
  have z6 := eN_gt (F := F) (f := f) (k := t) (W := (F 6 f).toInt.toNat) (by omega)
  omega
/-- both DEEDS -/
theorem two_ok {F : Nat → Nat → Int32} {c w : Int} (hW : rW F c) (h : vW F c w) (hk : 3 ≤ (F 7 w.toNat).toInt ∧ (F 7 w.toNat).toInt ≤ 5) : vW F c (F 12 w.toNat).toInt ∧ szF F (F 11 w.toNat).toInt + szF F (F 12 w.toNat).toInt + 1 ≤ szF F w := by
  obtain ⟨f, k, h1, h2, h3⟩ := h
  have q := (hW f h1).2.1 k h2
  have q0 := (hW f h1).1
  rw [wAt h3] at hk ⊢
  obtain ⟨t, z1, z2, z3, zz⟩ := q.2.2.2.1 (by omega)
  obtain ⟨u, y1, y2, y3⟩ := zz hk
  have z4 := eN_gt (F := F) (f := f) h2
  have z6 := eN_gt (F := F) (f := f) (k := t) (W := (F 6 f).toInt.toNat) (by omega)
  have z5 := eN_lam (F := F) (f := f) (j := u) h2 (by omega) y3
  have z7 := eN_gt (F := F) (f := f) (k := u) (W := (F 6 f).toInt.toNat) (by omega)
  refine ⟨⟨f, u, h1, by omega, y1⟩, ?_⟩
  rw [z1, y1, h3, szF_fk (by omega), szF_fk (by omega), szF_fk (by omega)]
  omega
theorem clN {i : Int32} : Int32.toNatClampNeg i = i.toInt.toNat := rfl
/-- bounds of the VALUES' rows at a WORD -/
theorem all_ok {F : Nat → Nat → Int32} (hA : rAll F) {w : Int32} (h : 0 ≤ w.toInt ∧ w.toInt < 880) : (0 ≤ (F 13 (Int32.toNatClampNeg w)).toInt ∧ (F 13 (Int32.toNatClampNeg w)).toInt ≤ 40) ∧ (0 ≤ (F 14 (Int32.toNatClampNeg w)).toInt ∧ (F 14 (Int32.toNatClampNeg w)).toInt ≤ 40) ∧ (0 ≤ (F 15 (Int32.toNatClampNeg w)).toInt ∧ (F 15 (Int32.toNatClampNeg w)).toInt ≤ 40) ∧ (-1 ≤ (F 19 (Int32.toNatClampNeg w)).toInt ∧ (F 19 (Int32.toNatClampNeg w)).toInt ≤ 6) := hA _ (by rw [clN]; omega)
/-- the rest and the quotient by the WAYS -/
theorem div_ok {x y : Int32} (hx : 0 ≤ x.toInt) (hy : 0 < y.toInt) : 0 ≤ (x / y).toInt ∧ (x / y).toInt ≤ x.toInt ∧ (x / y).toInt * y.toInt ≤ x.toInt ∧ x.toInt < (x / y).toInt * y.toInt + y.toInt := by
  rw [T_div (rfl : x.toInt = x.toInt) (rfl : y.toInt = y.toInt) hx hy]
  have h1 := Int.ediv_nonneg hx (Int.le_of_lt hy)
  have h2 := Int.ediv_mul_le x.toInt (Int.ne_of_gt hy)
  have h3 := Int.lt_ediv_add_one_mul_self x.toInt hy
  refine ⟨h1, Int.ediv_le_self _ hx, h2, ?_⟩
  rw [Int.add_mul, Int.one_mul] at h3; exact h3
theorem rem_ok {x y : Int32} (hx : 0 ≤ x.toInt) (hy : 0 < y.toInt) : 0 ≤ (x - x / y * y).toInt ∧ (x - x / y * y).toInt < y.toInt := by
  have h := div_ok hx hy
  have b1 := i32_hi x
  have hn := Int.mul_nonneg h.1 (Int.le_of_lt hy)
  have e1 : (x / y * y).toInt = (x / y).toInt * y.toInt := mulT (by omega) (by omega)
  have e2 : (x - x / y * y).toInt = x.toInt - (x / y).toInt * y.toInt := by
    rw [subT (by rw [e1]; omega) (by rw [e1]; omega), e1]
  omega
