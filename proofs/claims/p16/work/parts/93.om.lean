theorem wb_tb (n : Nat) : (lN n).toBitVec = BitVec.ofNat 64 n := rfl
theorem wb_inj {a b : Int64} (h : a.toBitVec = b.toBitVec) : a = b := Int64.toBitVec_inj.mp h
theorem wb_c : ∀ k, k < 64 → ((nI k).toInt64 &&& 63) = lN k := by decide +kernel
theorem wb_sm : ∀ k, k < 64 → (BitVec.ofNat 64 k).smod 64 = BitVec.ofNat 64 k := by decide +kernel
theorem wb_shl (n : Nat) {k : Nat} (hk : k < 64) : lN n <<< ((nI k).toInt64 &&& 63) = lN (n * 2 ^ k) := by
  rw [wb_c k hk]
  apply wb_inj
  rw [Int64.toBitVec_shiftLeft, wb_tb, wb_tb, wb_tb, wb_sm k hk]
  apply BitVec.eq_of_toNat_eq
  rw [BitVec.shiftLeft_eq', BitVec.toNat_shiftLeft, BitVec.toNat_ofNat, BitVec.toNat_ofNat, BitVec.toNat_ofNat, Nat.mod_eq_of_lt (show k < 2 ^ 64 by omega), Nat.shiftLeft_eq, Nat.mul_mod, Nat.mod_mod, ← Nat.mul_mod]
theorem wb_or {a b : Nat} (ha : a < 2 ^ 64) (hb : b < 2 ^ 64) : lN a ||| lN b = lN (a ||| b) := by
  apply wb_inj
  rw [Int64.toBitVec_or, wb_tb, wb_tb, wb_tb]
  apply BitVec.eq_of_toNat_eq
  rw [BitVec.toNat_or, BitVec.toNat_ofNat, BitVec.toNat_ofNat, BitVec.toNat_ofNat, Nat.mod_eq_of_lt ha, Nat.mod_eq_of_lt hb, Nat.mod_eq_of_lt (Nat.or_lt_two_pow ha hb)]
/-! letters packed -/
theorem rB_cg {F F2 : Nat → Nat → Int32} (h : F2 3 = F 3) (q : rB F) : rB F2 := fun k hk => by rw [h]; exact q k hk
def pkN (T : Nat → Int) (p : Nat) : Nat → Nat
  | 0 => 0
  | m + 1 => pkN T p m * 256 + (T (p + m)).toNat
def lkR (T : Nat → Int) (p : Nat) : Int := if ltR T p ≤ 7 then (pkN T p (ltR T p) : Int) else -1
theorem ltR_at {T : Nat → Int} {p i : Nat} (h : i < ltR T p) : 97 ≤ T (p + i) ∧ T (p + i) ≤ 122 := ltB_at 401 p i h
theorem pkN_lt {T : Nat → Int} {p : Nat} : ∀ m, m ≤ ltR T p → pkN T p m < 256 ^ m := by
  intro m
  induction m with
  | zero => intro _; show 0 < 1; decide
  | succ m ih =>
    intro h
    have a := ih (by omega)
    have b := ltR_at (T := T) (p := p) (i := m) (by omega)
    show pkN T p m * 256 + (T (p + m)).toNat < 256 ^ (m + 1)
    rw [Nat.pow_succ]
    omega
theorem sh8 {v : Int64} {b : Int32} {A : Nat} (hv : v.toInt = A) (hA : A < 281474976710656) (hb : 0 ≤ b.toInt ∧ b.toInt < 256) : ((v <<< ((8 : Int32).toInt64 &&& 63)) ||| b.toInt64).toInt = ((A * 256 + b.toInt.toNat : Nat) : Int) := by
  have e1 : v = lN A := Int64.toInt_inj.mp (by rw [hv]; exact (lg_ofNat_toInt (by omega)).symm)
  have e2 : b.toInt64 = lN b.toInt.toNat := Int64.toInt_inj.mp (by rw [Int32.toInt_toInt64]; rw [show (lN b.toInt.toNat).toInt = ((b.toInt.toNat : Nat) : Int) from lg_ofNat_toInt (by omega)]; omega)
  have e3 : lN A <<< ((8 : Int32).toInt64 &&& 63) = lN (A * 2 ^ 8) := wb_shl A (k := 8) (by decide)
  rw [e1, e2, e3, wb_or (by omega) (by omega), show A * 2 ^ 8 ||| b.toInt.toNat = A * 256 + b.toInt.toNat by rw [show A * 256 = A * 2 ^ 8 by omega, ← Nat.shiftLeft_eq, Nat.shiftLeft_add_eq_or_of_lt (show b.toInt.toNat < 2 ^ 8 by omega)]]
  exact lg_ofNat_toInt (by omega)
theorem nq_0 {T : Nat → Int} {p : Nat} : lkR T p = 31084793196801639 ↔ ltR T p = 7 ∧ T (p + 0) = 110 ∧ T (p + 1) = 111 ∧ T (p + 2) = 116 ∧ T (p + 3) = 104 ∧ T (p + 4) = 105 ∧ T (p + 5) = 110 ∧ T (p + 6) = 103 := by
  have hb := fun i (h : i < ltR T p) => ltR_at h
  unfold lkR
  generalize ltR T p = L at hb ⊢
  by_cases h7 : L ≤ 7
  · rw [if_pos h7]
    have h8 : L = 0 ∨ L = 1 ∨ L = 2 ∨ L = 3 ∨ L = 4 ∨ L = 5 ∨ L = 6 ∨ L = 7 := by omega
    rcases h8 with rfl | rfl | rfl | rfl | rfl | rfl | rfl | rfl
    · simp only [pkN]; omega
    · simp only [pkN]; have q0 := hb 0 (by omega); omega
    · simp only [pkN]; have q0 := hb 0 (by omega); have q1 := hb 1 (by omega); omega
    · simp only [pkN]; have q0 := hb 0 (by omega); have q1 := hb 1 (by omega); have q2 := hb 2 (by omega); omega
    · simp only [pkN]; have q0 := hb 0 (by omega); have q1 := hb 1 (by omega); have q2 := hb 2 (by omega); have q3 := hb 3 (by omega); omega
    · simp only [pkN]; have q0 := hb 0 (by omega); have q1 := hb 1 (by omega); have q2 := hb 2 (by omega); have q3 := hb 3 (by omega); have q4 := hb 4 (by omega); omega
    · simp only [pkN]; have q0 := hb 0 (by omega); have q1 := hb 1 (by omega); have q2 := hb 2 (by omega); have q3 := hb 3 (by omega); have q4 := hb 4 (by omega); have q5 := hb 5 (by omega); omega
    · simp only [pkN]; have q0 := hb 0 (by omega); have q1 := hb 1 (by omega); have q2 := hb 2 (by omega); have q3 := hb 3 (by omega); have q4 := hb 4 (by omega); have q5 := hb 5 (by omega); have q6 := hb 6 (by omega); exact ⟨fun h => ⟨trivial, by omega, by omega, by omega, by omega, by omega, by omega, by omega⟩, fun h => by obtain ⟨-, z0, z1, z2, z3, z4, z5, z6⟩ := h; omega⟩
  · rw [if_neg h7]; omega
theorem nq_1 {T : Nat → Int} {p : Nat} : lkR T p = 7302757 ↔ ltR T p = 3 ∧ T (p + 0) = 111 ∧ T (p + 1) = 110 ∧ T (p + 2) = 101 := by
  have hb := fun i (h : i < ltR T p) => ltR_at h
  unfold lkR
  generalize ltR T p = L at hb ⊢
  by_cases h7 : L ≤ 7
  · rw [if_pos h7]
    have h8 : L = 0 ∨ L = 1 ∨ L = 2 ∨ L = 3 ∨ L = 4 ∨ L = 5 ∨ L = 6 ∨ L = 7 := by omega
    rcases h8 with rfl | rfl | rfl | rfl | rfl | rfl | rfl | rfl
    · simp only [pkN]; omega
    · simp only [pkN]; have q0 := hb 0 (by omega); omega
    · simp only [pkN]; have q0 := hb 0 (by omega); have q1 := hb 1 (by omega); omega
    · simp only [pkN]; have q0 := hb 0 (by omega); have q1 := hb 1 (by omega); have q2 := hb 2 (by omega); exact ⟨fun h => ⟨trivial, by omega, by omega, by omega⟩, fun h => by obtain ⟨-, z0, z1, z2⟩ := h; omega⟩
    · simp only [pkN]; have q0 := hb 0 (by omega); have q1 := hb 1 (by omega); have q2 := hb 2 (by omega); have q3 := hb 3 (by omega); omega
    · simp only [pkN]; have q0 := hb 0 (by omega); have q1 := hb 1 (by omega); have q2 := hb 2 (by omega); have q3 := hb 3 (by omega); have q4 := hb 4 (by omega); omega
    · simp only [pkN]; have q0 := hb 0 (by omega); have q1 := hb 1 (by omega); have q2 := hb 2 (by omega); have q3 := hb 3 (by omega); have q4 := hb 4 (by omega); have q5 := hb 5 (by omega); omega
    · simp only [pkN]; have q0 := hb 0 (by omega); have q1 := hb 1 (by omega); have q2 := hb 2 (by omega); have q3 := hb 3 (by omega); have q4 := hb 4 (by omega); have q5 := hb 5 (by omega); have q6 := hb 6 (by omega); omega
  · rw [if_neg h7]; omega
theorem nq_2 {T : Nat → Int} {p : Nat} : lkR T p = 1734964837 ↔ ltR T p = 4 ∧ T (p + 0) = 103 ∧ T (p + 1) = 105 ∧ T (p + 2) = 118 ∧ T (p + 3) = 101 := by
  have hb := fun i (h : i < ltR T p) => ltR_at h
  unfold lkR
  generalize ltR T p = L at hb ⊢
  by_cases h7 : L ≤ 7
  · rw [if_pos h7]
    have h8 : L = 0 ∨ L = 1 ∨ L = 2 ∨ L = 3 ∨ L = 4 ∨ L = 5 ∨ L = 6 ∨ L = 7 := by omega
    rcases h8 with rfl | rfl | rfl | rfl | rfl | rfl | rfl | rfl
    · simp only [pkN]; omega
    · simp only [pkN]; have q0 := hb 0 (by omega); omega
    · simp only [pkN]; have q0 := hb 0 (by omega); have q1 := hb 1 (by omega); omega
    · simp only [pkN]; have q0 := hb 0 (by omega); have q1 := hb 1 (by omega); have q2 := hb 2 (by omega); omega
    · simp only [pkN]; have q0 := hb 0 (by omega); have q1 := hb 1 (by omega); have q2 := hb 2 (by omega); have q3 := hb 3 (by omega); exact ⟨fun h => ⟨trivial, by omega, by omega, by omega, by omega⟩, fun h => by obtain ⟨-, z0, z1, z2, z3⟩ := h; omega⟩
    · simp only [pkN]; have q0 := hb 0 (by omega); have q1 := hb 1 (by omega); have q2 := hb 2 (by omega); have q3 := hb 3 (by omega); have q4 := hb 4 (by omega); omega
    · simp only [pkN]; have q0 := hb 0 (by omega); have q1 := hb 1 (by omega); have q2 := hb 2 (by omega); have q3 := hb 3 (by omega); have q4 := hb 4 (by omega); have q5 := hb 5 (by omega); omega
    · simp only [pkN]; have q0 := hb 0 (by omega); have q1 := hb 1 (by omega); have q2 := hb 2 (by omega); have q3 := hb 3 (by omega); have q4 := hb 4 (by omega); have q5 := hb 5 (by omega); have q6 := hb 6 (by omega); omega
  · rw [if_neg h7]; omega
theorem nq_3 {T : Nat → Int} {p : Nat} : lkR T p = 1651471464 ↔ ltR T p = 4 ∧ T (p + 0) = 98 ∧ T (p + 1) = 111 ∧ T (p + 2) = 116 ∧ T (p + 3) = 104 := by
  have hb := fun i (h : i < ltR T p) => ltR_at h
  unfold lkR
  generalize ltR T p = L at hb ⊢
  by_cases h7 : L ≤ 7
  · rw [if_pos h7]
    have h8 : L = 0 ∨ L = 1 ∨ L = 2 ∨ L = 3 ∨ L = 4 ∨ L = 5 ∨ L = 6 ∨ L = 7 := by omega
    rcases h8 with rfl | rfl | rfl | rfl | rfl | rfl | rfl | rfl
    · simp only [pkN]; omega
    · simp only [pkN]; have q0 := hb 0 (by omega); omega
    · simp only [pkN]; have q0 := hb 0 (by omega); have q1 := hb 1 (by omega); omega
    · simp only [pkN]; have q0 := hb 0 (by omega); have q1 := hb 1 (by omega); have q2 := hb 2 (by omega); omega
    · simp only [pkN]; have q0 := hb 0 (by omega); have q1 := hb 1 (by omega); have q2 := hb 2 (by omega); have q3 := hb 3 (by omega); exact ⟨fun h => ⟨trivial, by omega, by omega, by omega, by omega⟩, fun h => by obtain ⟨-, z0, z1, z2, z3⟩ := h; omega⟩
    · simp only [pkN]; have q0 := hb 0 (by omega); have q1 := hb 1 (by omega); have q2 := hb 2 (by omega); have q3 := hb 3 (by omega); have q4 := hb 4 (by omega); omega
    · simp only [pkN]; have q0 := hb 0 (by omega); have q1 := hb 1 (by omega); have q2 := hb 2 (by omega); have q3 := hb 3 (by omega); have q4 := hb 4 (by omega); have q5 := hb 5 (by omega); omega
    · simp only [pkN]; have q0 := hb 0 (by omega); have q1 := hb 1 (by omega); have q2 := hb 2 (by omega); have q3 := hb 3 (by omega); have q4 := hb 4 (by omega); have q5 := hb 5 (by omega); have q6 := hb 6 (by omega); omega
  · rw [if_neg h7]; omega
theorem nq_4 {T : Nat → Int} {p : Nat} : lkR T p = 28530 ↔ ltR T p = 2 ∧ T (p + 0) = 111 ∧ T (p + 1) = 114 := by
  have hb := fun i (h : i < ltR T p) => ltR_at h
  unfold lkR
  generalize ltR T p = L at hb ⊢
  by_cases h7 : L ≤ 7
  · rw [if_pos h7]
    have h8 : L = 0 ∨ L = 1 ∨ L = 2 ∨ L = 3 ∨ L = 4 ∨ L = 5 ∨ L = 6 ∨ L = 7 := by omega
    rcases h8 with rfl | rfl | rfl | rfl | rfl | rfl | rfl | rfl
    · simp only [pkN]; omega
    · simp only [pkN]; have q0 := hb 0 (by omega); omega
    · simp only [pkN]; have q0 := hb 0 (by omega); have q1 := hb 1 (by omega); exact ⟨fun h => ⟨trivial, by omega, by omega⟩, fun h => by obtain ⟨-, z0, z1⟩ := h; omega⟩
    · simp only [pkN]; have q0 := hb 0 (by omega); have q1 := hb 1 (by omega); have q2 := hb 2 (by omega); omega
    · simp only [pkN]; have q0 := hb 0 (by omega); have q1 := hb 1 (by omega); have q2 := hb 2 (by omega); have q3 := hb 3 (by omega); omega
    · simp only [pkN]; have q0 := hb 0 (by omega); have q1 := hb 1 (by omega); have q2 := hb 2 (by omega); have q3 := hb 3 (by omega); have q4 := hb 4 (by omega); omega
    · simp only [pkN]; have q0 := hb 0 (by omega); have q1 := hb 1 (by omega); have q2 := hb 2 (by omega); have q3 := hb 3 (by omega); have q4 := hb 4 (by omega); have q5 := hb 5 (by omega); omega
    · simp only [pkN]; have q0 := hb 0 (by omega); have q1 := hb 1 (by omega); have q2 := hb 2 (by omega); have q3 := hb 3 (by omega); have q4 := hb 4 (by omega); have q5 := hb 5 (by omega); have q6 := hb 6 (by omega); omega
  · rw [if_neg h7]; omega
theorem nq_5 {T : Nat → Int} {p : Nat} : lkR T p = 1952998766 ↔ ltR T p = 4 ∧ T (p + 0) = 116 ∧ T (p + 1) = 104 ∧ T (p + 2) = 101 ∧ T (p + 3) = 110 := by
  have hb := fun i (h : i < ltR T p) => ltR_at h
  unfold lkR
  generalize ltR T p = L at hb ⊢
  by_cases h7 : L ≤ 7
  · rw [if_pos h7]
    have h8 : L = 0 ∨ L = 1 ∨ L = 2 ∨ L = 3 ∨ L = 4 ∨ L = 5 ∨ L = 6 ∨ L = 7 := by omega
    rcases h8 with rfl | rfl | rfl | rfl | rfl | rfl | rfl | rfl
    · simp only [pkN]; omega
    · simp only [pkN]; have q0 := hb 0 (by omega); omega
    · simp only [pkN]; have q0 := hb 0 (by omega); have q1 := hb 1 (by omega); omega
    · simp only [pkN]; have q0 := hb 0 (by omega); have q1 := hb 1 (by omega); have q2 := hb 2 (by omega); omega
    · simp only [pkN]; have q0 := hb 0 (by omega); have q1 := hb 1 (by omega); have q2 := hb 2 (by omega); have q3 := hb 3 (by omega); exact ⟨fun h => ⟨trivial, by omega, by omega, by omega, by omega⟩, fun h => by obtain ⟨-, z0, z1, z2, z3⟩ := h; omega⟩
    · simp only [pkN]; have q0 := hb 0 (by omega); have q1 := hb 1 (by omega); have q2 := hb 2 (by omega); have q3 := hb 3 (by omega); have q4 := hb 4 (by omega); omega
    · simp only [pkN]; have q0 := hb 0 (by omega); have q1 := hb 1 (by omega); have q2 := hb 2 (by omega); have q3 := hb 3 (by omega); have q4 := hb 4 (by omega); have q5 := hb 5 (by omega); omega
    · simp only [pkN]; have q0 := hb 0 (by omega); have q1 := hb 1 (by omega); have q2 := hb 2 (by omega); have q3 := hb 3 (by omega); have q4 := hb 4 (by omega); have q5 := hb 5 (by omega); have q6 := hb 6 (by omega); omega
  · rw [if_neg h7]; omega
theorem nq_6 {T : Nat → Int} {p : Nat} : lkR T p = 2003330414 ↔ ltR T p = 4 ∧ T (p + 0) = 119 ∧ T (p + 1) = 104 ∧ T (p + 2) = 101 ∧ T (p + 3) = 110 := by
  have hb := fun i (h : i < ltR T p) => ltR_at h
  unfold lkR
  generalize ltR T p = L at hb ⊢
  by_cases h7 : L ≤ 7
  · rw [if_pos h7]
    have h8 : L = 0 ∨ L = 1 ∨ L = 2 ∨ L = 3 ∨ L = 4 ∨ L = 5 ∨ L = 6 ∨ L = 7 := by omega
    rcases h8 with rfl | rfl | rfl | rfl | rfl | rfl | rfl | rfl
    · simp only [pkN]; omega
    · simp only [pkN]; have q0 := hb 0 (by omega); omega
    · simp only [pkN]; have q0 := hb 0 (by omega); have q1 := hb 1 (by omega); omega
    · simp only [pkN]; have q0 := hb 0 (by omega); have q1 := hb 1 (by omega); have q2 := hb 2 (by omega); omega
    · simp only [pkN]; have q0 := hb 0 (by omega); have q1 := hb 1 (by omega); have q2 := hb 2 (by omega); have q3 := hb 3 (by omega); exact ⟨fun h => ⟨trivial, by omega, by omega, by omega, by omega⟩, fun h => by obtain ⟨-, z0, z1, z2, z3⟩ := h; omega⟩
    · simp only [pkN]; have q0 := hb 0 (by omega); have q1 := hb 1 (by omega); have q2 := hb 2 (by omega); have q3 := hb 3 (by omega); have q4 := hb 4 (by omega); omega
    · simp only [pkN]; have q0 := hb 0 (by omega); have q1 := hb 1 (by omega); have q2 := hb 2 (by omega); have q3 := hb 3 (by omega); have q4 := hb 4 (by omega); have q5 := hb 5 (by omega); omega
    · simp only [pkN]; have q0 := hb 0 (by omega); have q1 := hb 1 (by omega); have q2 := hb 2 (by omega); have q3 := hb 3 (by omega); have q4 := hb 4 (by omega); have q5 := hb 5 (by omega); have q6 := hb 6 (by omega); omega
  · rw [if_neg h7]; omega
theorem nq_7 {T : Nat → Int} {p : Nat} : lkR T p = 27424540664098149 ↔ ltR T p = 7 ∧ T (p + 0) = 97 ∧ T (p + 1) = 110 ∧ T (p + 2) = 121 ∧ T (p + 3) = 116 ∧ T (p + 4) = 105 ∧ T (p + 5) = 109 ∧ T (p + 6) = 101 := by
  have hb := fun i (h : i < ltR T p) => ltR_at h
  unfold lkR
  generalize ltR T p = L at hb ⊢
  by_cases h7 : L ≤ 7
  · rw [if_pos h7]
    have h8 : L = 0 ∨ L = 1 ∨ L = 2 ∨ L = 3 ∨ L = 4 ∨ L = 5 ∨ L = 6 ∨ L = 7 := by omega
    rcases h8 with rfl | rfl | rfl | rfl | rfl | rfl | rfl | rfl
    · simp only [pkN]; omega
    · simp only [pkN]; have q0 := hb 0 (by omega); omega
    · simp only [pkN]; have q0 := hb 0 (by omega); have q1 := hb 1 (by omega); omega
    · simp only [pkN]; have q0 := hb 0 (by omega); have q1 := hb 1 (by omega); have q2 := hb 2 (by omega); omega
    · simp only [pkN]; have q0 := hb 0 (by omega); have q1 := hb 1 (by omega); have q2 := hb 2 (by omega); have q3 := hb 3 (by omega); omega
    · simp only [pkN]; have q0 := hb 0 (by omega); have q1 := hb 1 (by omega); have q2 := hb 2 (by omega); have q3 := hb 3 (by omega); have q4 := hb 4 (by omega); omega
    · simp only [pkN]; have q0 := hb 0 (by omega); have q1 := hb 1 (by omega); have q2 := hb 2 (by omega); have q3 := hb 3 (by omega); have q4 := hb 4 (by omega); have q5 := hb 5 (by omega); omega
    · simp only [pkN]; have q0 := hb 0 (by omega); have q1 := hb 1 (by omega); have q2 := hb 2 (by omega); have q3 := hb 3 (by omega); have q4 := hb 4 (by omega); have q5 := hb 5 (by omega); have q6 := hb 6 (by omega); exact ⟨fun h => ⟨trivial, by omega, by omega, by omega, by omega, by omega, by omega, by omega⟩, fun h => by obtain ⟨-, z0, z1, z2, z3, z4, z5, z6⟩ := h; omega⟩
  · rw [if_neg h7]; omega
theorem nq_8 {T : Nat → Int} {p : Nat} : lkR T p = 504364296556 ↔ ltR T p = 5 ∧ T (p + 0) = 117 ∧ T (p + 1) = 110 ∧ T (p + 2) = 116 ∧ T (p + 3) = 105 ∧ T (p + 4) = 108 := by
  have hb := fun i (h : i < ltR T p) => ltR_at h
  unfold lkR
  generalize ltR T p = L at hb ⊢
  by_cases h7 : L ≤ 7
  · rw [if_pos h7]
    have h8 : L = 0 ∨ L = 1 ∨ L = 2 ∨ L = 3 ∨ L = 4 ∨ L = 5 ∨ L = 6 ∨ L = 7 := by omega
    rcases h8 with rfl | rfl | rfl | rfl | rfl | rfl | rfl | rfl
    · simp only [pkN]; omega
    · simp only [pkN]; have q0 := hb 0 (by omega); omega
    · simp only [pkN]; have q0 := hb 0 (by omega); have q1 := hb 1 (by omega); omega
    · simp only [pkN]; have q0 := hb 0 (by omega); have q1 := hb 1 (by omega); have q2 := hb 2 (by omega); omega
    · simp only [pkN]; have q0 := hb 0 (by omega); have q1 := hb 1 (by omega); have q2 := hb 2 (by omega); have q3 := hb 3 (by omega); omega
    · simp only [pkN]; have q0 := hb 0 (by omega); have q1 := hb 1 (by omega); have q2 := hb 2 (by omega); have q3 := hb 3 (by omega); have q4 := hb 4 (by omega); exact ⟨fun h => ⟨trivial, by omega, by omega, by omega, by omega, by omega⟩, fun h => by obtain ⟨-, z0, z1, z2, z3, z4⟩ := h; omega⟩
    · simp only [pkN]; have q0 := hb 0 (by omega); have q1 := hb 1 (by omega); have q2 := hb 2 (by omega); have q3 := hb 3 (by omega); have q4 := hb 4 (by omega); have q5 := hb 5 (by omega); omega
    · simp only [pkN]; have q0 := hb 0 (by omega); have q1 := hb 1 (by omega); have q2 := hb 2 (by omega); have q3 := hb 3 (by omega); have q4 := hb 4 (by omega); have q5 := hb 5 (by omega); have q6 := hb 6 (by omega); omega
  · rw [if_neg h7]; omega
theorem nq_9 {T : Nat → Int} {p : Nat} : lkR T p = 495588568165 ↔ ltR T p = 5 ∧ T (p + 0) = 115 ∧ T (p + 1) = 99 ∧ T (p + 2) = 97 ∧ T (p + 3) = 108 ∧ T (p + 4) = 101 := by
  have hb := fun i (h : i < ltR T p) => ltR_at h
  unfold lkR
  generalize ltR T p = L at hb ⊢
  by_cases h7 : L ≤ 7
  · rw [if_pos h7]
    have h8 : L = 0 ∨ L = 1 ∨ L = 2 ∨ L = 3 ∨ L = 4 ∨ L = 5 ∨ L = 6 ∨ L = 7 := by omega
    rcases h8 with rfl | rfl | rfl | rfl | rfl | rfl | rfl | rfl
    · simp only [pkN]; omega
    · simp only [pkN]; have q0 := hb 0 (by omega); omega
    · simp only [pkN]; have q0 := hb 0 (by omega); have q1 := hb 1 (by omega); omega
    · simp only [pkN]; have q0 := hb 0 (by omega); have q1 := hb 1 (by omega); have q2 := hb 2 (by omega); omega
    · simp only [pkN]; have q0 := hb 0 (by omega); have q1 := hb 1 (by omega); have q2 := hb 2 (by omega); have q3 := hb 3 (by omega); omega
    · simp only [pkN]; have q0 := hb 0 (by omega); have q1 := hb 1 (by omega); have q2 := hb 2 (by omega); have q3 := hb 3 (by omega); have q4 := hb 4 (by omega); exact ⟨fun h => ⟨trivial, by omega, by omega, by omega, by omega, by omega⟩, fun h => by obtain ⟨-, z0, z1, z2, z3, z4⟩ := h; omega⟩
    · simp only [pkN]; have q0 := hb 0 (by omega); have q1 := hb 1 (by omega); have q2 := hb 2 (by omega); have q3 := hb 3 (by omega); have q4 := hb 4 (by omega); have q5 := hb 5 (by omega); omega
    · simp only [pkN]; have q0 := hb 0 (by omega); have q1 := hb 1 (by omega); have q2 := hb 2 (by omega); have q3 := hb 3 (by omega); have q4 := hb 4 (by omega); have q5 := hb 5 (by omega); have q6 := hb 6 (by omega); omega
  · rw [if_neg h7]; omega
theorem nq_10 {T : Nat → Int} {p : Nat} : lkR T p = 6513008 ↔ ltR T p = 3 ∧ T (p + 0) = 99 ∧ T (p + 1) = 97 ∧ T (p + 2) = 112 := by
  have hb := fun i (h : i < ltR T p) => ltR_at h
  unfold lkR
  generalize ltR T p = L at hb ⊢
  by_cases h7 : L ≤ 7
  · rw [if_pos h7]
    have h8 : L = 0 ∨ L = 1 ∨ L = 2 ∨ L = 3 ∨ L = 4 ∨ L = 5 ∨ L = 6 ∨ L = 7 := by omega
    rcases h8 with rfl | rfl | rfl | rfl | rfl | rfl | rfl | rfl
    · simp only [pkN]; omega
    · simp only [pkN]; have q0 := hb 0 (by omega); omega
    · simp only [pkN]; have q0 := hb 0 (by omega); have q1 := hb 1 (by omega); omega
    · simp only [pkN]; have q0 := hb 0 (by omega); have q1 := hb 1 (by omega); have q2 := hb 2 (by omega); exact ⟨fun h => ⟨trivial, by omega, by omega, by omega⟩, fun h => by obtain ⟨-, z0, z1, z2⟩ := h; omega⟩
    · simp only [pkN]; have q0 := hb 0 (by omega); have q1 := hb 1 (by omega); have q2 := hb 2 (by omega); have q3 := hb 3 (by omega); omega
    · simp only [pkN]; have q0 := hb 0 (by omega); have q1 := hb 1 (by omega); have q2 := hb 2 (by omega); have q3 := hb 3 (by omega); have q4 := hb 4 (by omega); omega
    · simp only [pkN]; have q0 := hb 0 (by omega); have q1 := hb 1 (by omega); have q2 := hb 2 (by omega); have q3 := hb 3 (by omega); have q4 := hb 4 (by omega); have q5 := hb 5 (by omega); omega
    · simp only [pkN]; have q0 := hb 0 (by omega); have q1 := hb 1 (by omega); have q2 := hb 2 (by omega); have q3 := hb 3 (by omega); have q4 := hb 4 (by omega); have q5 := hb 5 (by omega); have q6 := hb 6 (by omega); omega
  · rw [if_neg h7]; omega
theorem nq_D {T : Nat → Int} {p : Nat} : lkR T p = 6578553 ↔ ltR T p = 3 ∧ T (p + 0) = 100 ∧ T (p + 1) = 97 ∧ T (p + 2) = 121 := by
  have hb := fun i (h : i < ltR T p) => ltR_at h
  unfold lkR
  generalize ltR T p = L at hb ⊢
  by_cases h7 : L ≤ 7
  · rw [if_pos h7]
    have h8 : L = 0 ∨ L = 1 ∨ L = 2 ∨ L = 3 ∨ L = 4 ∨ L = 5 ∨ L = 6 ∨ L = 7 := by omega
    rcases h8 with rfl | rfl | rfl | rfl | rfl | rfl | rfl | rfl
    · simp only [pkN]; omega
    · simp only [pkN]; have q0 := hb 0 (by omega); omega
    · simp only [pkN]; have q0 := hb 0 (by omega); have q1 := hb 1 (by omega); omega
    · simp only [pkN]; have q0 := hb 0 (by omega); have q1 := hb 1 (by omega); have q2 := hb 2 (by omega); exact ⟨fun h => ⟨trivial, by omega, by omega, by omega⟩, fun h => by obtain ⟨-, z0, z1, z2⟩ := h; omega⟩
    · simp only [pkN]; have q0 := hb 0 (by omega); have q1 := hb 1 (by omega); have q2 := hb 2 (by omega); have q3 := hb 3 (by omega); omega
    · simp only [pkN]; have q0 := hb 0 (by omega); have q1 := hb 1 (by omega); have q2 := hb 2 (by omega); have q3 := hb 3 (by omega); have q4 := hb 4 (by omega); omega
    · simp only [pkN]; have q0 := hb 0 (by omega); have q1 := hb 1 (by omega); have q2 := hb 2 (by omega); have q3 := hb 3 (by omega); have q4 := hb 4 (by omega); have q5 := hb 5 (by omega); omega
    · simp only [pkN]; have q0 := hb 0 (by omega); have q1 := hb 1 (by omega); have q2 := hb 2 (by omega); have q3 := hb 3 (by omega); have q4 := hb 4 (by omega); have q5 := hb 5 (by omega); have q6 := hb 6 (by omega); omega
  · rw [if_neg h7]; omega
theorem nq_S {T : Nat → Int} {p : Nat} : lkR T p = 115 ↔ ltR T p = 1 ∧ T (p + 0) = 115 := by
  have hb := fun i (h : i < ltR T p) => ltR_at h
  unfold lkR
  generalize ltR T p = L at hb ⊢
  by_cases h7 : L ≤ 7
  · rw [if_pos h7]
    have h8 : L = 0 ∨ L = 1 ∨ L = 2 ∨ L = 3 ∨ L = 4 ∨ L = 5 ∨ L = 6 ∨ L = 7 := by omega
    rcases h8 with rfl | rfl | rfl | rfl | rfl | rfl | rfl | rfl
    · simp only [pkN]; omega
    · simp only [pkN]; have q0 := hb 0 (by omega); exact ⟨fun h => ⟨trivial, by omega⟩, fun h => by obtain ⟨-, z0⟩ := h; omega⟩
    · simp only [pkN]; have q0 := hb 0 (by omega); have q1 := hb 1 (by omega); omega
    · simp only [pkN]; have q0 := hb 0 (by omega); have q1 := hb 1 (by omega); have q2 := hb 2 (by omega); omega
    · simp only [pkN]; have q0 := hb 0 (by omega); have q1 := hb 1 (by omega); have q2 := hb 2 (by omega); have q3 := hb 3 (by omega); omega
    · simp only [pkN]; have q0 := hb 0 (by omega); have q1 := hb 1 (by omega); have q2 := hb 2 (by omega); have q3 := hb 3 (by omega); have q4 := hb 4 (by omega); omega
    · simp only [pkN]; have q0 := hb 0 (by omega); have q1 := hb 1 (by omega); have q2 := hb 2 (by omega); have q3 := hb 3 (by omega); have q4 := hb 4 (by omega); have q5 := hb 5 (by omega); omega
    · simp only [pkN]; have q0 := hb 0 (by omega); have q1 := hb 1 (by omega); have q2 := hb 2 (by omega); have q3 := hb 3 (by omega); have q4 := hb 4 (by omega); have q5 := hb 5 (by omega); have q6 := hb 6 (by omega); omega
  · rw [if_neg h7]; omega
def nmC (k : Nat) : Int := ([31084793196801639, 7302757, 1734964837, 1651471464, 28530, 1952998766, 2003330414, 27424540664098149, 504364296556, 495588568165, 6513008] : List Int).getD k 0
theorem nq_nm {T : Nat → Int} {p k : Nat} (hk : k < 11) : nmC k = lkR T p ↔ isNb T p k = true := by
  rw [isNb_of hk, eq_comm]
  match k, hk with
  | 0, _ =>
    refine Iff.trans (show lkR T p = nmC 0 ↔ _ from nq_0) (and_congr Iff.rfl ⟨fun h i hi => ?_, fun h => ?_⟩)
    · have hi2 : i < 7 := hi
      have hi3 : i = 0 ∨ i = 1 ∨ i = 2 ∨ i = 3 ∨ i = 4 ∨ i = 5 ∨ i = 6 := by omega
      rcases hi3 with rfl | rfl | rfl | rfl | rfl | rfl | rfl
      · exact h.1
      · exact h.2.1
      · exact h.2.2.1
      · exact h.2.2.2.1
      · exact h.2.2.2.2.1
      · exact h.2.2.2.2.2.1
      · exact h.2.2.2.2.2.2
    · exact ⟨h 0 (by decide), h 1 (by decide), h 2 (by decide), h 3 (by decide), h 4 (by decide), h 5 (by decide), h 6 (by decide)⟩
  | 1, _ =>
    refine Iff.trans (show lkR T p = nmC 1 ↔ _ from nq_1) (and_congr Iff.rfl ⟨fun h i hi => ?_, fun h => ?_⟩)
    · have hi2 : i < 3 := hi
      have hi3 : i = 0 ∨ i = 1 ∨ i = 2 := by omega
      rcases hi3 with rfl | rfl | rfl
      · exact h.1
      · exact h.2.1
      · exact h.2.2
    · exact ⟨h 0 (by decide), h 1 (by decide), h 2 (by decide)⟩
  | 2, _ =>
    refine Iff.trans (show lkR T p = nmC 2 ↔ _ from nq_2) (and_congr Iff.rfl ⟨fun h i hi => ?_, fun h => ?_⟩)
    · have hi2 : i < 4 := hi
      have hi3 : i = 0 ∨ i = 1 ∨ i = 2 ∨ i = 3 := by omega
      rcases hi3 with rfl | rfl | rfl | rfl
      · exact h.1
      · exact h.2.1
      · exact h.2.2.1
      · exact h.2.2.2
    · exact ⟨h 0 (by decide), h 1 (by decide), h 2 (by decide), h 3 (by decide)⟩
  | 3, _ =>
    refine Iff.trans (show lkR T p = nmC 3 ↔ _ from nq_3) (and_congr Iff.rfl ⟨fun h i hi => ?_, fun h => ?_⟩)
    · have hi2 : i < 4 := hi
      have hi3 : i = 0 ∨ i = 1 ∨ i = 2 ∨ i = 3 := by omega
      rcases hi3 with rfl | rfl | rfl | rfl
      · exact h.1
      · exact h.2.1
      · exact h.2.2.1
      · exact h.2.2.2
    · exact ⟨h 0 (by decide), h 1 (by decide), h 2 (by decide), h 3 (by decide)⟩
  | 4, _ =>
    refine Iff.trans (show lkR T p = nmC 4 ↔ _ from nq_4) (and_congr Iff.rfl ⟨fun h i hi => ?_, fun h => ?_⟩)
    · have hi2 : i < 2 := hi
      have hi3 : i = 0 ∨ i = 1 := by omega
      rcases hi3 with rfl | rfl
      · exact h.1
      · exact h.2
    · exact ⟨h 0 (by decide), h 1 (by decide)⟩
  | 5, _ =>
    refine Iff.trans (show lkR T p = nmC 5 ↔ _ from nq_5) (and_congr Iff.rfl ⟨fun h i hi => ?_, fun h => ?_⟩)
    · have hi2 : i < 4 := hi
      have hi3 : i = 0 ∨ i = 1 ∨ i = 2 ∨ i = 3 := by omega
      rcases hi3 with rfl | rfl | rfl | rfl
      · exact h.1
      · exact h.2.1
      · exact h.2.2.1
      · exact h.2.2.2
    · exact ⟨h 0 (by decide), h 1 (by decide), h 2 (by decide), h 3 (by decide)⟩
  | 6, _ =>
    refine Iff.trans (show lkR T p = nmC 6 ↔ _ from nq_6) (and_congr Iff.rfl ⟨fun h i hi => ?_, fun h => ?_⟩)
    · have hi2 : i < 4 := hi
      have hi3 : i = 0 ∨ i = 1 ∨ i = 2 ∨ i = 3 := by omega
      rcases hi3 with rfl | rfl | rfl | rfl
      · exact h.1
      · exact h.2.1
      · exact h.2.2.1
      · exact h.2.2.2
    · exact ⟨h 0 (by decide), h 1 (by decide), h 2 (by decide), h 3 (by decide)⟩
  | 7, _ =>
    refine Iff.trans (show lkR T p = nmC 7 ↔ _ from nq_7) (and_congr Iff.rfl ⟨fun h i hi => ?_, fun h => ?_⟩)
    · have hi2 : i < 7 := hi
      have hi3 : i = 0 ∨ i = 1 ∨ i = 2 ∨ i = 3 ∨ i = 4 ∨ i = 5 ∨ i = 6 := by omega
      rcases hi3 with rfl | rfl | rfl | rfl | rfl | rfl | rfl
      · exact h.1
      · exact h.2.1
      · exact h.2.2.1
      · exact h.2.2.2.1
      · exact h.2.2.2.2.1
      · exact h.2.2.2.2.2.1
      · exact h.2.2.2.2.2.2
    · exact ⟨h 0 (by decide), h 1 (by decide), h 2 (by decide), h 3 (by decide), h 4 (by decide), h 5 (by decide), h 6 (by decide)⟩
  | 8, _ =>
    refine Iff.trans (show lkR T p = nmC 8 ↔ _ from nq_8) (and_congr Iff.rfl ⟨fun h i hi => ?_, fun h => ?_⟩)
    · have hi2 : i < 5 := hi
      have hi3 : i = 0 ∨ i = 1 ∨ i = 2 ∨ i = 3 ∨ i = 4 := by omega
      rcases hi3 with rfl | rfl | rfl | rfl | rfl
      · exact h.1
      · exact h.2.1
      · exact h.2.2.1
      · exact h.2.2.2.1
      · exact h.2.2.2.2
    · exact ⟨h 0 (by decide), h 1 (by decide), h 2 (by decide), h 3 (by decide), h 4 (by decide)⟩
  | 9, _ =>
    refine Iff.trans (show lkR T p = nmC 9 ↔ _ from nq_9) (and_congr Iff.rfl ⟨fun h i hi => ?_, fun h => ?_⟩)
    · have hi2 : i < 5 := hi
      have hi3 : i = 0 ∨ i = 1 ∨ i = 2 ∨ i = 3 ∨ i = 4 := by omega
      rcases hi3 with rfl | rfl | rfl | rfl | rfl
      · exact h.1
      · exact h.2.1
      · exact h.2.2.1
      · exact h.2.2.2.1
      · exact h.2.2.2.2
    · exact ⟨h 0 (by decide), h 1 (by decide), h 2 (by decide), h 3 (by decide), h 4 (by decide)⟩
  | 10, _ =>
    refine Iff.trans (show lkR T p = nmC 10 ↔ _ from nq_10) (and_congr Iff.rfl ⟨fun h i hi => ?_, fun h => ?_⟩)
    · have hi2 : i < 3 := hi
      have hi3 : i = 0 ∨ i = 1 ∨ i = 2 := by omega
      rcases hi3 with rfl | rfl | rfl
      · exact h.1
      · exact h.2.1
      · exact h.2.2
    · exact ⟨h 0 (by decide), h 1 (by decide), h 2 (by decide)⟩
  | k + 11, h => exact absurd h (by omega)
/-- what one reading of the reference comes to -/
def exM1 (t : Sum Nat Nat) (r : Int32) (n2 : Nat → Int32) : Prop := match t with
  | .inl c => r = 0 ∧ (n2 22).toInt = c
  | .inr p => r = 1 ∧ (n2 22).toInt = 0 ∧ (n2 21).toInt = p
set_option maxHeartbeats 4000000 in
set_option maxRecDepth 100000 in
theorem k_X12_failsE {l : Launch} {D : va_G} {cy : Nat → ClassId} {b : Nat} {f : gMem} {m : Nat} {a : Nat → Nat} {f0 : gMem} {n : Nat → Int32} {z : Nat → Int64} {F : Nat → Nat → Int32} {G : Nat → Nat → Int64}  {x y : Int32} (hS : mS cy m a f0 n z F G f) (h22 : (n 22).toInt = 0) (hy : 0 ≤ y.toInt ∧ y.toInt ≤ 400) (hx : 0 ≤ x.toInt ∧ x.toInt ≤ 4) : gC l D cy b yX12_fails cX12_fails 3 (some .boolean) 0 0 0 [.ref m, .int x, .int y] f (pI fun r f2 => ∃ (n2 : Nat → Int32) (z2 : Nat → Int64) (F2 : Nat → Nat → Int32) (G2 : Nat → Nat → Int64), mS cy m a f0 n2 z2 F2 G2 f2 ∧ fx [22] [] [] [] n z F G n2 z2 F2 G2 ∧ r = 0 ∧ (n2 22).toInt = 1 + 8 * y.toInt + x.toInt) := by
  refine gC_of (by decide) (Nat.le_of_ble_eq_true rfl) ?_
  show gG l _ _ _ D cy b cX12_fails 3 _ RX12 "fails" 0 0 f 0 [(0, .ref m), (1, .int x), (2, .int y)] []
  refine gz_aload_n dX12_fails_0 rfl rfl ?_
  refine mg_269 hS dX12_fails_1 ?_
  refine gz_if_ne (tgt := 19) dX12_fails_4 (by decide) (fun c_4 => ?_) (fun c_4 => ?_)
  ·
    try simp only [mIn_0, lgc_lt, lgc_gt, lgc_le, lgc_ge, lgc_eq] at c_4
    try simp only [fl_lt, fl_le, fl_eq, fL_w, fL_lt, fL_le, tm1, tm10k, tm9, tm99, Int32.reduceToInt, Int64.reduceToInt, Int.not_lt, Int.not_le] at c_4
    exfalso; omega
  ·
    try simp only [mIn_0, lgc_lt, lgc_gt, lgc_le, lgc_ge, lgc_eq] at c_4
    try simp only [fl_lt, fl_le, fl_eq, fL_w, fL_lt, fL_le, tm1, tm10k, tm9, tm99, Int32.reduceToInt, Int64.reduceToInt, Int.not_lt, Int.not_le] at c_4
    refine gz_aload_n dX12_fails_7 rfl rfl ?_
    refine gz_iconst (v := 1) dX12_fails_8 (by decide) ?_
    refine gz_bipush (v := 8) dX12_fails_9 (by decide) ?_
    refine gz_iload_n dX12_fails_11 rfl rfl ?_
    refine gz_imul dX12_fails_12 ?_
    refine gz_iadd dX12_fails_13 ?_
    refine gz_iload_n dX12_fails_14 rfl rfl ?_
    refine gz_iadd dX12_fails_15 ?_
    refine mp_269 hS dX12_fails_16 (fun f_1 hS_1 => ?_)
    refine gz_iconst (v := 0) dX12_fails_19 (by decide) ?_
    exact gz_zret rfl (by first | decide | exact nrb (by assumption) | exact nrb (Or.inl rfl) | exact nrb (Or.inr rfl)) dX12_fails_20 (Nat.le_of_ble_eq_true rfl) (Nat.le_of_ble_eq_true rfl) (⟨_, rfl, _, _, _, _, hS_1, (fx_n fx_rf (by decide)), rfl, (by (try rw [(show (va_up n 22 ((1 + (8 * y)) + x)) 22 = ((1 + (8 * y)) + x) from rfl)]); have q1_ := (T_add (T_add (show (1 : Int32).toInt = 1 from rfl) (T_mul (show (8 : Int32).toInt = 8 from rfl) (rfl : (y).toInt = (y).toInt) (by omega)) (by omega)) (rfl : (x).toInt = (x).toInt) (by omega)); omega)⟩)

set_option maxHeartbeats 4000000 in
set_option maxRecDepth 100000 in
theorem k_X12_takesE {l : Launch} {D : va_G} {cy : Nat → ClassId} {b : Nat} {f : gMem} {m : Nat} {a : Nat → Nat} {f0 : gMem} {n : Nat → Int32} {z : Nat → Int64} {F : Nat → Nat → Int32} {G : Nat → Nat → Int64}  {x : Int32} (hS : mS cy m a f0 n z F G f) (hT : (0 ≤ (n 21).toInt ∧ (n 21).toInt ≤ (n 4).toInt ∧ (n 4).toInt ≤ 400)) (hB : rB F) (h22 : (n 22).toInt = 0) (hx : x.toInt ≠ -1) : gC l D cy b yX12_takes cX12_takes 2 (some .boolean) 1 0 0 [.ref m, .int x] f (pI fun r f2 => ∃ (n2 : Nat → Int32) (z2 : Nat → Int64) (F2 : Nat → Nat → Int32) (G2 : Nat → Nat → Int64), mS cy m a f0 n2 z2 F2 G2 f2 ∧ fx [21, 22] [] [] [] n z F G n2 z2 F2 G2 ∧ (r = 0 ∨ r = 1) ∧ (0 ≤ (n2 21).toInt ∧ (n2 21).toInt ≤ (n2 4).toInt ∧ (n2 4).toInt ≤ 400) ∧ (n 21).toInt ≤ (n2 21).toInt ∧ exM1 (tkR (tX (F 3) (n 4)) (n 21).toInt.toNat x.toInt) r n2) := by
  refine gC_of (by decide) (Nat.le_of_ble_eq_true rfl) ?_
  show gG l _ _ _ D cy b cX12_takes 2 _ RX12 "takes" 0 0 f 0 [(0, .ref m), (1, .int x)] []
  refine gz_aload_n dX12_takes_0 rfl rfl ?_
  refine scX12_275 (k_X12_see_E hS (by omega) hB) hS.1 ⟨(Nat.le_of_ble_eq_true rfl), (Nat.le_of_ble_eq_true rfl)⟩ ⟨(Nat.le_of_ble_eq_true rfl), (Nat.le_of_ble_eq_true rfl)⟩ rfl rfl (Nat.le_of_ble_eq_true rfl) dX12_takes_1 ?_
  rintro r_1 f_1 ⟨n_1, z_1, F_1, G_1, hS_1, hx1, hT_1, hm_1, hq_1, hs_1, hv_1⟩
  try simp only [(show n_1 4 = (n 4) from (hx1.1 4 (by decide)))] at hT_1 hm_1 hq_1 hs_1 hv_1
  try simp only [(show F_1 3 = (F 3) from (hx1.2.2.1 3 (by decide)))] at hT_1 hm_1 hq_1 hs_1 hv_1
  refine gz_iload_n dX12_takes_4 rfl rfl ?_
  refine gz_icmp_eq (tgt := 18) dX12_takes_5 (by decide) (fun c_5 => ?_) (fun c_5 => ?_)
  ·
    try simp only [mIn_0, lgc_lt, lgc_gt, lgc_le, lgc_ge, lgc_eq] at c_5
    try simp only [fl_lt, fl_le, fl_eq, fL_w, fL_lt, fL_le, tm1, tm10k, tm9, tm99, Int32.reduceToInt, Int64.reduceToInt, Int.not_lt, Int.not_le] at c_5
    refine gz_aload_n dX12_takes_18 rfl rfl ?_
    refine gz_dup dX12_takes_19 rfl ?_
    refine mg_272 hS_1 dX12_takes_20 ?_
    refine gz_ev (w := .int (n_1 21)) rfl ?_
    refine gz_iconst (v := 1) dX12_takes_23 (by decide) ?_
    refine gz_iadd dX12_takes_24 ?_
    refine mp_272 hS_1 dX12_takes_25 (fun f_2 hS_2 => ?_)
    refine gz_iconst (v := 1) dX12_takes_28 (by decide) ?_
    exact gz_zret rfl (by first | decide | exact nrb (Or.inl (by assumption)) | exact nrb (by assumption) | (refine nrb ?_; assumption)) dX12_takes_29 (Nat.le_of_ble_eq_true rfl) (Nat.le_of_ble_eq_true rfl) (⟨_, rfl, _, _, _, _, hS_2, (fx_n (fx_tr fx_rf hx1 (by decide)) (by decide)), (by first | exact Or.inl rfl | exact Or.inr rfl | assumption | (left; assumption)), (by (try rw [(show (va_up n_1 21 ((n_1 21) + 1)) 21 = ((n_1 21) + 1) from rfl)]); (try rw [(show (va_up n_1 21 ((n_1 21) + 1)) 4 = (n 4) from (hx1.1 4 (by decide)))]); have q1_ := (T_add (rfl : ((n_1 21)).toInt = ((n_1 21)).toInt) (show (1 : Int32).toInt = 1 from rfl) (by omega)); omega), (by (try rw [(show (va_up n_1 21 ((n_1 21) + 1)) 21 = ((n_1 21) + 1) from rfl)]); have q1_ := (T_add (rfl : ((n_1 21)).toInt = ((n_1 21)).toInt) (show (1 : Int32).toInt = 1 from rfl) (by omega)); omega), (by unfold tkR; rw [if_pos (by omega)]; exact ⟨rfl, (by (try rw [(show (va_up n_1 21 ((n_1 21) + 1)) 22 = (n 22) from (hx1.1 22 (by decide)))]); omega), (by (try rw [(show (va_up n_1 21 ((n_1 21) + 1)) 21 = ((n_1 21) + 1) from rfl)]); have q1_ := (T_add (rfl : ((n_1 21)).toInt = ((n_1 21)).toInt) (show (1 : Int32).toInt = 1 from rfl) (by omega)); omega)⟩)⟩)
  ·
    try simp only [mIn_0, lgc_lt, lgc_gt, lgc_le, lgc_ge, lgc_eq] at c_5
    try simp only [fl_lt, fl_le, fl_eq, fL_w, fL_lt, fL_le, tm1, tm10k, tm9, tm99, Int32.reduceToInt, Int64.reduceToInt, Int.not_lt, Int.not_le] at c_5
    refine gz_aload_n dX12_takes_8 rfl rfl ?_
    refine gz_iconst (v := 0) dX12_takes_9 (by decide) ?_
    refine gz_aload_n dX12_takes_10 rfl rfl ?_
    refine mg_272 hS_1 dX12_takes_11 ?_
    refine gz_ev (w := .int (n_1 21)) rfl ?_
    refine scX12_279 (k_X12_failsE (x := 0) (y := (n_1 21)) hS_1 (by (try rw [(show n_1 22 = (n 22) from (hx1.1 22 (by decide)))]); omega) (by (try rw [(show n_1 21 = (n_1 21) from rfl)]); (try rw [(show n_1 4 = (n 4) from (hx1.1 4 (by decide)))]); omega) (by decide)) hS_1.1 ⟨(Nat.le_of_ble_eq_true rfl), (Nat.le_of_ble_eq_true rfl)⟩ ⟨(Nat.le_of_ble_eq_true rfl), (Nat.le_of_ble_eq_true rfl)⟩ rfl rfl (Nat.le_of_ble_eq_true rfl) dX12_takes_14 ?_
    rintro r_3 f_3 ⟨n_3, z_3, F_3, G_3, hS_3, hx3, hr_3, hf_3⟩
    try simp only [(show n_1 22 = (n 22) from (hx1.1 22 (by decide)))] at hr_3 hf_3
    simp only [Int32.reduceToInt] at hf_3
    exact gz_zret rfl (by first | decide | exact nrb (Or.inl (by assumption)) | exact nrb (by assumption) | (refine nrb ?_; assumption)) dX12_takes_17 (Nat.le_of_ble_eq_true rfl) (Nat.le_of_ble_eq_true rfl) (⟨_, rfl, _, _, _, _, hS_3, (fx_tr (fx_tr fx_rf hx1 (by decide)) hx3 (by decide)), (by first | exact Or.inl rfl | exact Or.inr rfl | assumption | (left; assumption)), (by (try rw [(show n_3 21 = (n_1 21) from (hx3.1 21 (by decide)))]); (try rw [(show n_3 4 = (n 4) from ((hx3.1 4 (by decide)).trans (hx1.1 4 (by decide))))]); omega), (by (try rw [(show n_3 21 = (n_1 21) from (hx3.1 21 (by decide)))]); omega), (by unfold tkR; rw [if_neg (by omega)]; exact ⟨hr_3, (by (try rw [(show n_3 22 = (n_3 22) from rfl)]); omega)⟩)⟩)

set_option maxHeartbeats 4000000 in
set_option maxRecDepth 100000 in
theorem l_X12_skipsE {l : Launch} {D : va_G} {cy : Nat → ClassId} {b : Nat} {m : Nat} {a : Nat → Nat} {f0 : gMem} {n0 : Nat → Int32} {z0 : Nat → Int64} {F0 : Nat → Nat → Int32} {G0 : Nat → Nat → Int64}   (hB0 : rB F0) : ∀ (k : Nat)  (n : Nat → Int32) (z : Nat → Int64) (F : Nat → Nat → Int32) (G : Nat → Nat → Int64) (fm : gMem), mS cy m a f0 n z F G fm → fx [21] [] [] [] n0 z0 F0 G0 n z F G → ((0 ≤ (n 21).toInt ∧ (n 21).toInt ≤ (n 4).toInt ∧ (n 4).toInt ≤ 400)) → ((n0 21).toInt ≤ (n 21).toInt) → ((n 21).toInt.toNat + ltR (tX (F0 3) (n0 4)) (n 21).toInt.toNat = (n0 21).toInt.toNat + ltR (tX (F0 3) (n0 4)) (n0 21).toInt.toNat) → ((n 4).toInt - (n 21).toInt < (k : Int)) → gG l (gRm 1 0 0) (gQf D b (pV fun f2 => ∃ (n2 : Nat → Int32) (z2 : Nat → Int64) (F2 : Nat → Nat → Int32) (G2 : Nat → Nat → Int64), mS cy m a f0 n2 z2 F2 G2 f2 ∧ fx [21] [] [] [] n0 z0 F0 G0 n2 z2 F2 G2 ∧ (0 ≤ (n2 21).toInt ∧ (n2 21).toInt ≤ (n2 4).toInt ∧ (n2 4).toInt ≤ 400) ∧ (n0 21).toInt ≤ (n2 21).toInt ∧ (n2 21).toInt = (((n0 21).toInt.toNat + ltR (tX (F0 3) (n0 4)) (n0 21).toInt.toNat : Nat) : Int)) 0 0) gTt D cy b cX12_skips 1 none RX12 "skips" 0 0 fm 0 [(0, .ref m)] [] := by
  intro k
  induction k with
  | zero =>
    intro n z F G fm hS hx hT hm hE hk
    exfalso; omega
  | succ k ih =>
    intro n z F G fm hS hx hT hm hE hk
    have e4 : n 4 = n0 4 := hx.1 4 (by decide)
    have e3 : F 3 = F0 3 := hx.2.2.1 3 (by decide)
    rw [e4] at hT hk
    obtain ⟨p, hp⟩ : ∃ p : Nat, (n 21).toInt = p := ⟨(n 21).toInt.toNat, by omega⟩
    have ep : (n 21).toInt.toNat = p := by omega
    rw [ep] at hE
    have hln := tX_ln (g := F0 3) (L := n0 4) (by omega)
    have hB : rB F := rB_cg e3 hB0
    refine gz_aload_n dX12_skips_0 rfl rfl ?_
    refine gz_aload_n dX12_skips_1 rfl rfl ?_
    refine mg_272 hS dX12_skips_2 ?_
    refine scX12_290 (k_X12_isLetterE (x := (n 21)) hS (by (try rw [(show n 4 = (n0 4) from (hx.1 4 (by decide)))]); omega) (by (try rw [(show n 4 = (n0 4) from (hx.1 4 (by decide)))]); omega) (rB_cg (hx.2.2.1 3 (by decide)) hB0)) hS.1 ⟨(Nat.le_of_ble_eq_true rfl), (Nat.le_of_ble_eq_true rfl)⟩ ⟨(Nat.le_of_ble_eq_true rfl), (Nat.le_of_ble_eq_true rfl)⟩ rfl rfl (Nat.le_of_ble_eq_true rfl) dX12_skips_5 ?_
    rintro r_1 f9 ⟨hb_1, y9⟩; rw [y9]
    try simp only [(show n 4 = (n0 4) from (hx.1 4 (by decide)))] at hb_1
    try simp only [(show F 3 = (F0 3) from (hx.2.2.1 3 (by decide)))] at hb_1
    have hbb_1 : r_1 = 0 ∨ r_1 = 1 := hb_1.imp And.left And.left
    simp only [fl_eq, Int32.reduceToInt] at hb_1
    refine gz_if_eq (tgt := 24) dX12_skips_8 (by decide) (fun c_8 => ?_) (fun c_8 => ?_)
    ·
      try simp only [mIn_0, lgc_lt, lgc_gt, lgc_le, lgc_ge, lgc_eq] at c_8
      try simp only [fl_lt, fl_le, fl_eq, fL_w, fL_lt, fL_le, tm1, tm10k, tm9, tm99, Int32.reduceToInt, Int64.reduceToInt, Int.not_lt, Int.not_le] at c_8
      exact gz_vret rfl dX12_skips_24 (Nat.le_of_ble_eq_true rfl) (Nat.le_of_ble_eq_true rfl) (⟨rfl, _, _, _, _, hS, hx, (by (try rw [(show n 4 = (n0 4) from (hx.1 4 (by decide)))]); omega), hm, (by rw [ep] at hb_1; rw [← hE, ltR_no (show ¬ (97 ≤ (tX (F0 3) (n0 4)) p ∧ (tX (F0 3) (n0 4)) p ≤ 122) by omega)]; omega)⟩)
    ·
      try simp only [mIn_0, lgc_lt, lgc_gt, lgc_le, lgc_ge, lgc_eq] at c_8
      try simp only [fl_lt, fl_le, fl_eq, fL_w, fL_lt, fL_le, tm1, tm10k, tm9, tm99, Int32.reduceToInt, Int64.reduceToInt, Int.not_lt, Int.not_le] at c_8
      refine gz_aload_n dX12_skips_11 rfl rfl ?_
      refine gz_dup dX12_skips_12 rfl ?_
      refine mg_272 hS dX12_skips_13 ?_
      refine gz_iconst (v := 1) dX12_skips_16 (by decide) ?_
      refine gz_iadd dX12_skips_17 ?_
      refine mp_272 hS dX12_skips_18 (fun f_2 hS_2 => ?_)
      refine gz_goto (tgt := 0) dX12_skips_21 (by decide) ?_
      refine gz_sub (lv' := [(0, .ref m)]) (by simp [List.lookup]) ?_
      have hC : 97 ≤ (tX (F0 3) (n0 4)) p ∧ (tX (F0 3) (n0 4)) p ≤ 122 := by rw [ep] at hb_1; omega
      have qn : ((n 21) + 1).toInt = (p : Int) + 1 := by have q := T_add hp (show (1 : Int32).toInt = 1 from rfl) (by rw [ep] at hb_1; omega); exact q
      have hE2 : ((n 21) + 1).toInt.toNat + ltR (tX (F0 3) (n0 4)) ((n 21) + 1).toInt.toNat = (n0 21).toInt.toNat + ltR (tX (F0 3) (n0 4)) (n0 21).toInt.toNat := by rw [show ((n 21) + 1).toInt.toNat = p + 1 by omega, ← hE, ltR_st hln hC]; omega
      exact ih  _ _ _ _ _ hS_2 (fx_n hx (by decide)) ((by (try rw [(show (va_up n 21 ((n 21) + 1)) 21 = ((n 21) + 1) from rfl)]); (try rw [(show (va_up n 21 ((n 21) + 1)) 4 = (n0 4) from (hx.1 4 (by decide)))]); have q1_ := (T_add (rfl : ((n 21)).toInt = ((n 21)).toInt) (show (1 : Int32).toInt = 1 from rfl) (by omega)); rw [ep] at hb_1; omega)) ((by (try rw [(show (va_up n 21 ((n 21) + 1)) 21 = ((n 21) + 1) from rfl)]); have q1_ := (T_add (rfl : ((n 21)).toInt = ((n 21)).toInt) (show (1 : Int32).toInt = 1 from rfl) (by omega)); rw [ep] at hb_1; omega)) (hE2) ((by (try rw [(show (va_up n 21 ((n 21) + 1)) 21 = ((n 21) + 1) from rfl)]); (try rw [(show (va_up n 21 ((n 21) + 1)) 4 = (n0 4) from (hx.1 4 (by decide)))]); have q1_ := (T_add (rfl : ((n 21)).toInt = ((n 21)).toInt) (show (1 : Int32).toInt = 1 from rfl) (by omega)); rw [ep] at hb_1; omega))

set_option maxHeartbeats 4000000 in
set_option maxRecDepth 100000 in
theorem k_X12_skipsE {l : Launch} {D : va_G} {cy : Nat → ClassId} {b : Nat} {f : gMem} {m : Nat} {a : Nat → Nat} {f0 : gMem} {n : Nat → Int32} {z : Nat → Int64} {F : Nat → Nat → Int32} {G : Nat → Nat → Int64}   (hS : mS cy m a f0 n z F G f) (hT : (0 ≤ (n 21).toInt ∧ (n 21).toInt ≤ (n 4).toInt ∧ (n 4).toInt ≤ 400)) (hB : rB F) : gC l D cy b yX12_skips cX12_skips 1 none 1 0 0 [.ref m] f (pV fun f2 => ∃ (n2 : Nat → Int32) (z2 : Nat → Int64) (F2 : Nat → Nat → Int32) (G2 : Nat → Nat → Int64), mS cy m a f0 n2 z2 F2 G2 f2 ∧ fx [21] [] [] [] n z F G n2 z2 F2 G2 ∧ (0 ≤ (n2 21).toInt ∧ (n2 21).toInt ≤ (n2 4).toInt ∧ (n2 4).toInt ≤ 400) ∧ (n 21).toInt ≤ (n2 21).toInt ∧ (n2 21).toInt = (((n 21).toInt.toNat + ltR (tX (F 3) (n 4)) (n 21).toInt.toNat : Nat) : Int)) := by
  refine gC_of (by decide) (Nat.le_of_ble_eq_true rfl) ?_
  show gG l _ _ _ D cy b cX12_skips 1 _ RX12 "skips" 0 0 f 0 [(0, .ref m)] []
  refine gz_sub (lv' := [(0, .ref m)]) (by simp [List.lookup]) ?_
  exact l_X12_skipsE hB 402  _ _ _ _ _ hS fx_rf (hT) (Int.le_refl _) (rfl) (by omega)

set_option maxHeartbeats 4000000 in
set_option maxRecDepth 100000 in
theorem l_X12_lettersE {l : Launch} {D : va_G} {cy : Nat → ClassId} {b : Nat} {m : Nat} {a : Nat → Nat} {f0 : gMem} {n0 : Nat → Int32} {z0 : Nat → Int64} {F0 : Nat → Nat → Int32} {G0 : Nat → Nat → Int64}   (hB0 : rB F0) : ∀ (k : Nat) (i : Int32) (v : Int64) (n : Nat → Int32) (z : Nat → Int64) (F : Nat → Nat → Int32) (G : Nat → Nat → Int64) (fm : gMem), mS cy m a f0 n z F G fm → fx [21] [] [] [] n0 z0 F0 G0 n z F G → ((0 ≤ (n 21).toInt ∧ (n 21).toInt ≤ (n 4).toInt ∧ (n 4).toInt ≤ 400)) → ((n0 21).toInt ≤ (n 21).toInt) → ((n 21).toInt = ((skR (tX (F0 3) (n0 4)) (n0 21).toInt.toNat) : Int)) → (ltR (tX (F0 3) (n0 4)) (skR (tX (F0 3) (n0 4)) (n0 21).toInt.toNat) = i.toInt.toNat + ltR (tX (F0 3) (n0 4)) ((skR (tX (F0 3) (n0 4)) (n0 21).toInt.toNat) + i.toInt.toNat)) → (v.toInt = (pkN (tX (F0 3) (n0 4)) (skR (tX (F0 3) (n0 4)) (n0 21).toInt.toNat) (min i.toInt.toNat 7) : Int)) → (0 ≤ i.toInt ∧ (n 21).toInt + i.toInt ≤ 400 ∧ 400 - (n 21).toInt - i.toInt < (k : Int)) → gG l (gRm 1 0 0) (gQf D b (pL fun r f2 => ∃ (n2 : Nat → Int32) (z2 : Nat → Int64) (F2 : Nat → Nat → Int32) (G2 : Nat → Nat → Int64), mS cy m a f0 n2 z2 F2 G2 f2 ∧ fx [21] [] [] [] n0 z0 F0 G0 n2 z2 F2 G2 ∧ (0 ≤ (n2 21).toInt ∧ (n2 21).toInt ≤ (n2 4).toInt ∧ (n2 4).toInt ≤ 400) ∧ (n0 21).toInt ≤ (n2 21).toInt ∧ (n2 21).toInt = (skR (tX (F0 3) (n0 4)) (n0 21).toInt.toNat : Int) ∧ r.toInt = lkR (tX (F0 3) (n0 4)) (skR (tX (F0 3) (n0 4)) (n0 21).toInt.toNat)) 0 0) gTt D cy b cX12_letters 4 (some .long) RX12 "letters" 0 0 fm 9 [(3, .int i), (1, .long v), (0, .ref m)] [] := by
  intro k
  induction k with
  | zero =>
    intro i v n z F G fm hS hx hT hm hs hi hv hk
    exfalso; omega
  | succ k ih =>
    intro i v n z F G fm hS hx hT hm hs hi hv hk
    have e4 : n 4 = n0 4 := hx.1 4 (by decide)
    have e3 : F 3 = F0 3 := hx.2.2.1 3 (by decide)
    rw [e4] at hT
    have hln := tX_ln (g := F0 3) (L := n0 4) (by omega)
    have hB : rB F := rB_cg e3 hB0
    obtain ⟨j, hj⟩ : ∃ j : Nat, i.toInt = j := ⟨i.toInt.toNat, by omega⟩
    have ej : i.toInt.toNat = j := by omega
    rw [ej] at hi hv
    have es := T_add hs hj (by have z := hi; omega)
    have es2 : ((n 21) + i).toInt.toNat = (skR (tX (F0 3) (n0 4)) (n0 21).toInt.toNat) + j := by omega
    refine gz_aload_n dX12_letters_9 rfl rfl ?_
    refine gz_aload_n dX12_letters_10 rfl rfl ?_
    refine mg_272 hS dX12_letters_11 ?_
    refine gz_iload_n dX12_letters_14 rfl rfl ?_
    refine gz_iadd dX12_letters_15 ?_
    refine scX12_290 (k_X12_isLetterE (x := ((n 21) + i)) hS (by (try rw [(show n 4 = (n0 4) from (hx.1 4 (by decide)))]); have q1_ := (T_add (rfl : ((n 21)).toInt = ((n 21)).toInt) (rfl : (i).toInt = (i).toInt) (by omega)); omega) (by (try rw [(show n 4 = (n0 4) from (hx.1 4 (by decide)))]); omega) (rB_cg (hx.2.2.1 3 (by decide)) hB0)) hS.1 ⟨(Nat.le_of_ble_eq_true rfl), (Nat.le_of_ble_eq_true rfl)⟩ ⟨(Nat.le_of_ble_eq_true rfl), (Nat.le_of_ble_eq_true rfl)⟩ rfl rfl (Nat.le_of_ble_eq_true rfl) dX12_letters_16 ?_
    rintro r_1 f9 ⟨hb_1, y9⟩; rw [y9]
    try simp only [(show n 4 = (n0 4) from (hx.1 4 (by decide)))] at hb_1
    try simp only [(show F 3 = (F0 3) from (hx.2.2.1 3 (by decide)))] at hb_1
    have hbb_1 : r_1 = 0 ∨ r_1 = 1 := hb_1.imp And.left And.left
    simp only [fl_eq, Int32.reduceToInt] at hb_1
    refine gz_if_eq (tgt := 52) dX12_letters_19 (by decide) (fun c_19 => ?_) (fun c_19 => ?_)
    ·
      try simp only [mIn_0, lgc_lt, lgc_gt, lgc_le, lgc_ge, lgc_eq] at c_19
      try simp only [fl_lt, fl_le, fl_eq, fL_w, fL_lt, fL_le, tm1, tm10k, tm9, tm99, Int32.reduceToInt, Int64.reduceToInt, Int.not_lt, Int.not_le] at c_19
      refine gz_iload_n dX12_letters_52 rfl rfl ?_
      refine gz_bipush (v := 7) dX12_letters_53 (by decide) ?_
      refine gz_icmp_le (tgt := 64) dX12_letters_55 (by decide) (fun c_55 => ?_) (fun c_55 => ?_)
      ·
        try simp only [mIn_0, lgc_lt, lgc_gt, lgc_le, lgc_ge, lgc_eq] at c_55
        try simp only [fl_lt, fl_le, fl_eq, fL_w, fL_lt, fL_le, tm1, tm10k, tm9, tm99, Int32.reduceToInt, Int64.reduceToInt, Int.not_lt, Int.not_le] at c_55
        refine gz_lload_n dX12_letters_64 rfl rfl ?_
        rw [es2] at hb_1
        have hL : ltR (tX (F0 3) (n0 4)) (skR (tX (F0 3) (n0 4)) (n0 21).toInt.toNat) = j := by rw [hi, ltR_no (show ¬ (97 ≤ (tX (F0 3) (n0 4)) ((skR (tX (F0 3) (n0 4)) (n0 21).toInt.toNat) + j) ∧ (tX (F0 3) (n0 4)) ((skR (tX (F0 3) (n0 4)) (n0 21).toInt.toNat) + j) ≤ 122) by omega)]; omega
        exact gz_lret rfl dX12_letters_65 (Nat.le_of_ble_eq_true rfl) (Nat.le_of_ble_eq_true rfl) (⟨_, rfl, _, _, _, _, hS, hx, (by (try rw [(show n 4 = (n0 4) from (hx.1 4 (by decide)))]); omega), hm, hs, (by unfold lkR; rw [if_pos (by omega), hv, show min j 7 = j by omega, hL])⟩)
      ·
        try simp only [mIn_0, lgc_lt, lgc_gt, lgc_le, lgc_ge, lgc_eq] at c_55
        try simp only [fl_lt, fl_le, fl_eq, fL_w, fL_lt, fL_le, tm1, tm10k, tm9, tm99, Int32.reduceToInt, Int64.reduceToInt, Int.not_lt, Int.not_le] at c_55
        refine gz_ldc2 (v := (-1)) wd_815 dX12_letters_58 ?_
        refine gz_goto (tgt := 65) dX12_letters_61 (by decide) ?_
        rw [es2] at hb_1
        have hL : ltR (tX (F0 3) (n0 4)) (skR (tX (F0 3) (n0 4)) (n0 21).toInt.toNat) = j := by rw [hi, ltR_no (show ¬ (97 ≤ (tX (F0 3) (n0 4)) ((skR (tX (F0 3) (n0 4)) (n0 21).toInt.toNat) + j) ∧ (tX (F0 3) (n0 4)) ((skR (tX (F0 3) (n0 4)) (n0 21).toInt.toNat) + j) ≤ 122) by omega)]; omega
        exact gz_lret rfl dX12_letters_65 (Nat.le_of_ble_eq_true rfl) (Nat.le_of_ble_eq_true rfl) (⟨_, rfl, _, _, _, _, hS, hx, (by (try rw [(show n 4 = (n0 4) from (hx.1 4 (by decide)))]); omega), hm, hs, (by unfold lkR; rw [if_neg (by omega)]; rfl)⟩)
    ·
      try simp only [mIn_0, lgc_lt, lgc_gt, lgc_le, lgc_ge, lgc_eq] at c_19
      try simp only [fl_lt, fl_le, fl_eq, fL_w, fL_lt, fL_le, tm1, tm10k, tm9, tm99, Int32.reduceToInt, Int64.reduceToInt, Int.not_lt, Int.not_le] at c_19
      refine gz_iload_n dX12_letters_22 rfl rfl ?_
      refine gz_bipush (v := 7) dX12_letters_23 (by decide) ?_
      refine gz_icmp_ge (tgt := 46) dX12_letters_25 (by decide) (fun c_25 => ?_) (fun c_25 => ?_)
      ·
        try simp only [mIn_0, lgc_lt, lgc_gt, lgc_le, lgc_ge, lgc_eq] at c_25
        try simp only [fl_lt, fl_le, fl_eq, fL_w, fL_lt, fL_le, tm1, tm10k, tm9, tm99, Int32.reduceToInt, Int64.reduceToInt, Int.not_lt, Int.not_le] at c_25
        refine gz_iinc (v := (i + 1)) (lv' := [(3, .int (i + 1)), (1, .long v), (0, .ref m)]) dX12_letters_46 rfl rfl (by decide) rfl ?_
        refine gz_goto (tgt := 9) dX12_letters_49 (by decide) ?_
        refine gz_sub (lv' := [(3, .int (i + 1)), (1, .long v), (0, .ref m)]) (by simp [List.lookup]) ?_
        rw [es2] at hb_1
        have hC : 97 ≤ (tX (F0 3) (n0 4)) ((skR (tX (F0 3) (n0 4)) (n0 21).toInt.toNat) + j) ∧ (tX (F0 3) (n0 4)) ((skR (tX (F0 3) (n0 4)) (n0 21).toInt.toNat) + j) ≤ 122 := by omega
        have hlt : ((skR (tX (F0 3) (n0 4)) (n0 21).toInt.toNat) + j : Int) < (n0 4).toInt := by omega
        have qi : (i + 1).toInt = (j : Int) + 1 := by have q := T_add hj (show (1 : Int32).toInt = 1 from rfl) (by omega); exact q
        have hi2 : ltR (tX (F0 3) (n0 4)) (skR (tX (F0 3) (n0 4)) (n0 21).toInt.toNat) = (i + 1).toInt.toNat + ltR (tX (F0 3) (n0 4)) ((skR (tX (F0 3) (n0 4)) (n0 21).toInt.toNat) + (i + 1).toInt.toNat) := by rw [show (i + 1).toInt.toNat = j + 1 by omega, hi, ltR_st hln hC, show (skR (tX (F0 3) (n0 4)) (n0 21).toInt.toNat) + j + 1 = (skR (tX (F0 3) (n0 4)) (n0 21).toInt.toNat) + (j + 1) by omega]; omega
        have hv2 : v.toInt = (pkN (tX (F0 3) (n0 4)) (skR (tX (F0 3) (n0 4)) (n0 21).toInt.toNat) (min (i + 1).toInt.toNat 7) : Int) := by rw [hv, show min j 7 = 7 by omega, show min (i + 1).toInt.toNat 7 = 7 by omega]
        exact ih (i + 1) v _ _ _ _ _ hS hx ((by (try rw [(show n 4 = (n0 4) from (hx.1 4 (by decide)))]); omega)) (hm) (hs) (hi2) (hv2) (by omega)
      ·
        try simp only [mIn_0, lgc_lt, lgc_gt, lgc_le, lgc_ge, lgc_eq] at c_25
        try simp only [fl_lt, fl_le, fl_eq, fL_w, fL_lt, fL_le, tm1, tm10k, tm9, tm99, Int32.reduceToInt, Int64.reduceToInt, Int.not_lt, Int.not_le] at c_25
        refine gz_lload_n dX12_letters_28 rfl rfl ?_
        refine gz_bipush (v := 8) dX12_letters_29 (by decide) ?_
        refine gz_lshl dX12_letters_31 ?_
        refine gz_aload_n dX12_letters_32 rfl rfl ?_
        refine mg_13 hS dX12_letters_33 ?_
        refine gz_aload_n dX12_letters_36 rfl rfl ?_
        refine mg_272 hS dX12_letters_37 ?_
        refine gz_iload_n dX12_letters_40 rfl rfl ?_
        refine gz_iadd dX12_letters_41 ?_
        refine m_bald 3 hS rfl (N := 400) rfl ((by have q9 := (T_add (rfl : ((n 21)).toInt = ((n 21)).toInt) (rfl : (i).toInt = (i).toInt) (by omega)); exact vin_T q9 (by omega) (by omega))) dX12_letters_42 ?_
        refine gz_ev (w := .int ((F0 3) (Int32.toNatClampNeg ((n 21) + i)))) (congrArg Value.int (congrFun (hx.2.2.1 3 (by decide)) _)) ?_
        refine gz_i2l dX12_letters_43 ?_
        refine gz_lor dX12_letters_44 ?_
        refine gz_lstore_n (lv' := [(1, .long ((v <<< ((8 : Int32).toInt64 &&& 63)) ||| (((F0 3) (Int32.toNatClampNeg ((n 21) + i))).toInt64))), (3, .int i), (0, .ref m)]) dX12_letters_45 rfl (by decide) rfl ?_
        refine gz_iinc (v := (i + 1)) (lv' := [(3, .int (i + 1)), (1, .long ((v <<< ((8 : Int32).toInt64 &&& 63)) ||| (((F0 3) (Int32.toNatClampNeg ((n 21) + i))).toInt64))), (0, .ref m)]) dX12_letters_46 rfl rfl (by decide) rfl ?_
        refine gz_goto (tgt := 9) dX12_letters_49 (by decide) ?_
        refine gz_sub (lv' := [(3, .int (i + 1)), (1, .long ((v <<< ((8 : Int32).toInt64 &&& 63)) ||| (((F0 3) (Int32.toNatClampNeg ((n 21) + i))).toInt64))), (0, .ref m)]) (by simp [List.lookup]) ?_
        rw [es2] at hb_1
        have hC : 97 ≤ (tX (F0 3) (n0 4)) ((skR (tX (F0 3) (n0 4)) (n0 21).toInt.toNat) + j) ∧ (tX (F0 3) (n0 4)) ((skR (tX (F0 3) (n0 4)) (n0 21).toInt.toNat) + j) ≤ 122 := by omega
        have hlt : ((skR (tX (F0 3) (n0 4)) (n0 21).toInt.toNat) + j : Int) < (n0 4).toInt := by omega
        have qi : (i + 1).toInt = (j : Int) + 1 := by have q := T_add hj (show (1 : Int32).toInt = 1 from rfl) (by omega); exact q
        have hi2 : ltR (tX (F0 3) (n0 4)) (skR (tX (F0 3) (n0 4)) (n0 21).toInt.toNat) = (i + 1).toInt.toNat + ltR (tX (F0 3) (n0 4)) ((skR (tX (F0 3) (n0 4)) (n0 21).toInt.toNat) + (i + 1).toInt.toNat) := by rw [show (i + 1).toInt.toNat = j + 1 by omega, hi, ltR_st hln hC, show (skR (tX (F0 3) (n0 4)) (n0 21).toInt.toNat) + j + 1 = (skR (tX (F0 3) (n0 4)) (n0 21).toInt.toNat) + (j + 1) by omega]; omega
        have hp7 := pkN_lt (T := (tX (F0 3) (n0 4))) (p := (skR (tX (F0 3) (n0 4)) (n0 21).toInt.toNat)) j (by omega)
        have hp8 : 256 ^ j ≤ 256 ^ 6 := Nat.pow_le_pow_right (by decide) (by omega)
        have hsh := sh8 (v := v) (b := ((F0 3) (Int32.toNatClampNeg ((n 21) + i)))) (A := pkN (tX (F0 3) (n0 4)) (skR (tX (F0 3) (n0 4)) (n0 21).toInt.toNat) j) (by rw [hv, show min j 7 = j by omega]) (by omega) (by omega)
        have hv2 : ((v <<< ((8 : Int32).toInt64 &&& 63)) ||| (((F0 3) (Int32.toNatClampNeg ((n 21) + i))).toInt64)).toInt = (pkN (tX (F0 3) (n0 4)) (skR (tX (F0 3) (n0 4)) (n0 21).toInt.toNat) (min (i + 1).toInt.toNat 7) : Int) := by rw [hsh, show min (i + 1).toInt.toNat 7 = j + 1 by omega]; show _ = ((pkN (tX (F0 3) (n0 4)) (skR (tX (F0 3) (n0 4)) (n0 21).toInt.toNat) j * 256 + ((tX (F0 3) (n0 4)) ((skR (tX (F0 3) (n0 4)) (n0 21).toInt.toNat) + j)).toNat : Nat) : Int); omega
        exact ih (i + 1) ((v <<< ((8 : Int32).toInt64 &&& 63)) ||| (((F0 3) (Int32.toNatClampNeg ((n 21) + i))).toInt64)) _ _ _ _ _ hS hx ((by (try rw [(show n 4 = (n0 4) from (hx.1 4 (by decide)))]); omega)) (hm) (hs) (hi2) (hv2) (by omega)

set_option maxHeartbeats 4000000 in
set_option maxRecDepth 100000 in
theorem k_X12_lettersE {l : Launch} {D : va_G} {cy : Nat → ClassId} {b : Nat} {f : gMem} {m : Nat} {a : Nat → Nat} {f0 : gMem} {n : Nat → Int32} {z : Nat → Int64} {F : Nat → Nat → Int32} {G : Nat → Nat → Int64}   (hS : mS cy m a f0 n z F G f) (hT : (0 ≤ (n 21).toInt ∧ (n 21).toInt ≤ (n 4).toInt ∧ (n 4).toInt ≤ 400)) (hB : rB F) : gC l D cy b yX12_letters cX12_letters 4 (some .long) 1 0 0 [.ref m] f (pL fun r f2 => ∃ (n2 : Nat → Int32) (z2 : Nat → Int64) (F2 : Nat → Nat → Int32) (G2 : Nat → Nat → Int64), mS cy m a f0 n2 z2 F2 G2 f2 ∧ fx [21] [] [] [] n z F G n2 z2 F2 G2 ∧ (0 ≤ (n2 21).toInt ∧ (n2 21).toInt ≤ (n2 4).toInt ∧ (n2 4).toInt ≤ 400) ∧ (n 21).toInt ≤ (n2 21).toInt ∧ (n2 21).toInt = (skR (tX (F 3) (n 4)) (n 21).toInt.toNat : Int) ∧ r.toInt = lkR (tX (F 3) (n 4)) (skR (tX (F 3) (n 4)) (n 21).toInt.toNat)) := by
  refine gC_of (by decide) (Nat.le_of_ble_eq_true rfl) ?_
  show gG l _ _ _ D cy b cX12_letters 4 _ RX12 "letters" 0 0 f 0 [(0, .ref m)] []
  refine gz_aload_n dX12_letters_0 rfl rfl ?_
  refine scX12_275 (k_X12_see_E hS (by omega) hB) hS.1 ⟨(Nat.le_of_ble_eq_true rfl), (Nat.le_of_ble_eq_true rfl)⟩ ⟨(Nat.le_of_ble_eq_true rfl), (Nat.le_of_ble_eq_true rfl)⟩ rfl rfl (Nat.le_of_ble_eq_true rfl) dX12_letters_1 ?_
  rintro r_1 f_1 ⟨n_1, z_1, F_1, G_1, hS_1, hx1, hT_1, hm_1, hq_1, hs_1, hv_1⟩
  try simp only [(show n_1 4 = (n 4) from (hx1.1 4 (by decide)))] at hT_1 hm_1 hq_1 hs_1 hv_1
  try simp only [(show F_1 3 = (F 3) from (hx1.2.2.1 3 (by decide)))] at hT_1 hm_1 hq_1 hs_1 hv_1
  refine gz_pop dX12_letters_4 rfl ?_
  refine gz_lconst (v := 0) dX12_letters_5 (by decide) ?_
  refine gz_lstore_n (lv' := [(1, .long 0), (0, .ref m)]) dX12_letters_6 rfl (by decide) rfl ?_
  refine gz_iconst (v := 0) dX12_letters_7 (by decide) ?_
  refine gz_istore_n (lv' := [(3, .int 0), (1, .long 0), (0, .ref m)]) dX12_letters_8 rfl (by decide) rfl ?_
  refine gz_sub (lv' := [(3, .int 0), (1, .long 0), (0, .ref m)]) (by simp [List.lookup]) ?_
  exact l_X12_lettersE hB 402 0 0 _ _ _ _ _ hS_1 (fx_tr fx_rf hx1 (by decide)) ((by (try rw [(show n_1 21 = (n_1 21) from rfl)]); (try rw [(show n_1 4 = (n 4) from (hx1.1 4 (by decide)))]); omega)) ((by (try rw [(show n_1 21 = (n_1 21) from rfl)]); omega)) (by rw [hs_1]) ((by show ltR _ _ = 0 + ltR _ (_ + 0); rw [Nat.zero_add]; rfl)) (rfl) ((by (try rw [(show n_1 21 = (n_1 21) from rfl)]); (try rw [(show n_1 4 = (n 4) from (hx1.1 4 (by decide)))]); have e0 : (0 : Int32).toInt = 0 := rfl; omega))

set_option maxHeartbeats 4000000 in
set_option maxRecDepth 100000 in
theorem l_X12_readsE {l : Launch} {D : va_G} {cy : Nat → ClassId} {b : Nat} {m : Nat} {a : Nat → Nat} {f0 : gMem} {n0 : Nat → Int32} {z0 : Nat → Int64} {F0 : Nat → Nat → Int32} {G0 : Nat → Nat → Int64}  {at_ : Int32} (hB0 : rB F0) (hd0 : 48 ≤ (tX (F0 3) (n0 4)) (skR (tX (F0 3) (n0 4)) (n0 21).toInt.toNat) ∧ (tX (F0 3) (n0 4)) (skR (tX (F0 3) (n0 4)) (n0 21).toInt.toNat) ≤ 57) : ∀ (k : Nat) (v : Int32) (n : Nat → Int32) (z : Nat → Int64) (F : Nat → Nat → Int32) (G : Nat → Nat → Int64) (fm : gMem), mS cy m a f0 n z F G fm → fx [21, 22, 23] [] [] [] n0 z0 F0 G0 n z F G → ((0 ≤ (n 21).toInt ∧ (n 21).toInt ≤ (n 4).toInt ∧ (n 4).toInt ≤ 400)) → ((n0 21).toInt ≤ (n 21).toInt) → (at_.toInt = ((skR (tX (F0 3) (n0 4)) (n0 21).toInt.toNat) : Int) ∧ at_.toInt ≤ (n 21).toInt) → ((skR (tX (F0 3) (n0 4)) (n0 21).toInt.toNat) + dgR (tX (F0 3) (n0 4)) (skR (tX (F0 3) (n0 4)) (n0 21).toInt.toNat) = (n 21).toInt.toNat + dgR (tX (F0 3) (n0 4)) (n 21).toInt.toNat) → ((n 22).toInt = 0) → ((n 4).toInt - (n 21).toInt < (k : Int)) → gG l (gRm 1 0 0) (gQf D b (pI fun r f2 => ∃ (n2 : Nat → Int32) (z2 : Nat → Int64) (F2 : Nat → Nat → Int32) (G2 : Nat → Nat → Int64), mS cy m a f0 n2 z2 F2 G2 f2 ∧ fx [21, 22, 23] [] [] [] n0 z0 F0 G0 n2 z2 F2 G2 ∧ (r = 0 ∨ r = 1) ∧ (0 ≤ (n2 21).toInt ∧ (n2 21).toInt ≤ (n2 4).toInt ∧ (n2 4).toInt ≤ 400) ∧ (n0 21).toInt ≤ (n2 21).toInt ∧ exM1 (nuR (tX (F0 3) (n0 4)) (skR (tX (F0 3) (n0 4)) (n0 21).toInt.toNat)) r n2) 0 0) gTt D cy b cX12_reads 3 (some .boolean) RX12 "reads" 0 0 fm 33 [(1, .int at_), (2, .int v), (0, .ref m)] [] := by
  intro k
  induction k with
  | zero =>
    intro v n z F G fm hS hx hT hm ha hE h22 hk
    exfalso; omega
  | succ k ih =>
    intro v n z F G fm hS hx hT hm ha hE h22 hk
    have e4 : n 4 = n0 4 := hx.1 4 (by decide)
    have e3 : F 3 = F0 3 := hx.2.2.1 3 (by decide)
    have hB : rB F := rB_cg e3 hB0
    rw [e4] at hT hk
    have hln := tX_ln (g := F0 3) (L := n0 4) (by omega)
    obtain ⟨p, hp⟩ : ∃ p : Nat, (n 21).toInt = p := ⟨(n 21).toInt.toNat, by omega⟩
    have ep : (n 21).toInt.toNat = p := by omega
    rw [ep] at hE
    have hs0 := (skR_le hln (p := (n0 21).toInt.toNat) (by omega)).2.1
    refine gz_aload_n dX12_reads_33 rfl rfl ?_
    refine gz_aload_n dX12_reads_34 rfl rfl ?_
    refine mg_272 hS dX12_reads_35 ?_
    refine scX12_283 (k_X12_isDigitE (x := (n 21)) hS (by (try rw [(show n 4 = (n0 4) from (hx.1 4 (by decide)))]); omega) (by (try rw [(show n 4 = (n0 4) from (hx.1 4 (by decide)))]); omega) (rB_cg (hx.2.2.1 3 (by decide)) hB0)) hS.1 ⟨(Nat.le_of_ble_eq_true rfl), (Nat.le_of_ble_eq_true rfl)⟩ ⟨(Nat.le_of_ble_eq_true rfl), (Nat.le_of_ble_eq_true rfl)⟩ rfl rfl (Nat.le_of_ble_eq_true rfl) dX12_reads_38 ?_
    rintro r_1 f9 ⟨hb_1, y9⟩; rw [y9]
    try simp only [(show n 4 = (n0 4) from (hx.1 4 (by decide)))] at hb_1
    try simp only [(show F 3 = (F0 3) from (hx.2.2.1 3 (by decide)))] at hb_1
    have hbb_1 : r_1 = 0 ∨ r_1 = 1 := hb_1.imp And.left And.left
    simp only [fl_eq, Int32.reduceToInt] at hb_1
    refine gz_if_eq (tgt := 85) dX12_reads_41 (by decide) (fun c_41 => ?_) (fun c_41 => ?_)
    ·
      try simp only [mIn_0, lgc_lt, lgc_gt, lgc_le, lgc_ge, lgc_eq] at c_41
      try simp only [fl_lt, fl_le, fl_eq, fL_w, fL_lt, fL_le, tm1, tm10k, tm9, tm99, Int32.reduceToInt, Int64.reduceToInt, Int.not_lt, Int.not_le] at c_41
      refine gz_aload_n dX12_reads_85 rfl rfl ?_
      refine gz_iload_n dX12_reads_86 rfl rfl ?_
      refine mp_287 hS dX12_reads_87 (fun f_2 hS_2 => ?_)
      refine gz_aload_n dX12_reads_90 rfl rfl ?_
      refine mg_272 hS_2 dX12_reads_91 ?_
      refine gz_ev (w := .int (n 21)) rfl ?_
      refine gz_iload_n dX12_reads_94 rfl rfl ?_
      refine gz_isub dX12_reads_95 ?_
      refine gz_iconst (v := 5) dX12_reads_96 (by decide) ?_
      refine gz_icmp_le (tgt := 109) dX12_reads_97 (by decide) (fun c_97 => ?_) (fun c_97 => ?_)
      ·
        try simp only [mIn_0, lgc_lt, lgc_gt, lgc_le, lgc_ge, lgc_eq] at c_97
        try simp only [fl_lt, fl_le, fl_eq, fL_w, fL_lt, fL_le, tm1, tm10k, tm9, tm99, Int32.reduceToInt, Int64.reduceToInt, Int.not_lt, Int.not_le] at c_97
        try have u_97t1 := (T_sub (rfl : ((n 21)).toInt = ((n 21)).toInt) (rfl : (at_).toInt = (at_).toInt) (by omega))
        refine gz_iconst (v := 1) dX12_reads_109 (by decide) ?_
        refine gz_goto (tgt := 114) dX12_reads_110 (by decide) ?_
        rw [ep] at hb_1
        have hD : dgR (tX (F0 3) (n0 4)) (skR (tX (F0 3) (n0 4)) (n0 21).toInt.toNat) + (skR (tX (F0 3) (n0 4)) (n0 21).toInt.toNat) = p := by rw [dgR_no (show ¬ (48 ≤ (tX (F0 3) (n0 4)) p ∧ (tX (F0 3) (n0 4)) p ≤ 57) by omega)] at hE; omega
        have hd1 : dgR (tX (F0 3) (n0 4)) (skR (tX (F0 3) (n0 4)) (n0 21).toInt.toNat) ≠ 0 := by rw [dgR_st hln hd0]; omega
        have qd : ((n 21) - at_).toInt = (p : Int) - (skR (tX (F0 3) (n0 4)) (n0 21).toInt.toNat) := by have q := T_sub hp ha.1 (by omega); exact q
        exact gz_zret rfl (by first | decide | exact nrb (Or.inl (by assumption)) | exact nrb (by assumption) | (refine nrb ?_; assumption)) dX12_reads_114 (Nat.le_of_ble_eq_true rfl) (Nat.le_of_ble_eq_true rfl) (⟨_, rfl, _, _, _, _, hS_2, (fx_n hx (by decide)), (by first | exact Or.inl rfl | exact Or.inr rfl | assumption | (left; assumption)), (by (try rw [(show (va_up n 23 v) 21 = (n 21) from rfl)]); (try rw [(show (va_up n 23 v) 4 = (n0 4) from (hx.1 4 (by decide)))]); omega), (by (try rw [(show (va_up n 23 v) 21 = (n 21) from rfl)]); omega), (by unfold nuR; rw [if_neg hd1, if_neg (by omega)]; exact ⟨rfl, (by (try rw [(show (va_up n 23 v) 22 = (n 22) from rfl)]); omega), (by (try rw [(show (va_up n 23 v) 21 = (n 21) from rfl)]); omega)⟩)⟩)
      ·
        try simp only [mIn_0, lgc_lt, lgc_gt, lgc_le, lgc_ge, lgc_eq] at c_97
        try simp only [fl_lt, fl_le, fl_eq, fL_w, fL_lt, fL_le, tm1, tm10k, tm9, tm99, Int32.reduceToInt, Int64.reduceToInt, Int.not_lt, Int.not_le] at c_97
        try have u_97t1 := (T_sub (rfl : ((n 21)).toInt = ((n 21)).toInt) (rfl : (at_).toInt = (at_).toInt) (by omega))
        refine gz_aload_n dX12_reads_100 rfl rfl ?_
        refine gz_iconst (v := 1) dX12_reads_101 (by decide) ?_
        refine gz_iload_n dX12_reads_102 rfl rfl ?_
        refine scX12_279 (k_X12_failsE (x := 1) (y := at_) hS_2 (by (try rw [(show (va_up n 23 v) 22 = (n 22) from rfl)]); omega) (by (try rw [(show (va_up n 23 v) 21 = (n 21) from rfl)]); (try rw [(show (va_up n 23 v) 4 = (n0 4) from (hx.1 4 (by decide)))]); omega) (by decide)) hS_2.1 ⟨(Nat.le_of_ble_eq_true rfl), (Nat.le_of_ble_eq_true rfl)⟩ ⟨(Nat.le_of_ble_eq_true rfl), (Nat.le_of_ble_eq_true rfl)⟩ rfl rfl (Nat.le_of_ble_eq_true rfl) dX12_reads_103 ?_
        rintro r_3 f_3 ⟨n_3, z_3, F_3, G_3, hS_3, hx3, hr_3, hf_3⟩
        try simp only [(show (va_up n 23 v) 22 = (n 22) from rfl)] at hr_3 hf_3
        simp only [Int32.reduceToInt] at hf_3
        refine gz_ev (w := .int 0) (congrArg Value.int hr_3) ?_
        refine gz_if_eq (tgt := 113) dX12_reads_106 (by decide) (fun c_106 => ?_) (fun c_106 => ?_)
        ·
          try simp only [mIn_0, lgc_lt, lgc_gt, lgc_le, lgc_ge, lgc_eq] at c_106
          try simp only [fl_lt, fl_le, fl_eq, fL_w, fL_lt, fL_le, tm1, tm10k, tm9, tm99, Int32.reduceToInt, Int64.reduceToInt, Int.not_lt, Int.not_le] at c_106
          refine gz_iconst (v := 0) dX12_reads_113 (by decide) ?_
          rw [ep] at hb_1
          have hD : dgR (tX (F0 3) (n0 4)) (skR (tX (F0 3) (n0 4)) (n0 21).toInt.toNat) + (skR (tX (F0 3) (n0 4)) (n0 21).toInt.toNat) = p := by rw [dgR_no (show ¬ (48 ≤ (tX (F0 3) (n0 4)) p ∧ (tX (F0 3) (n0 4)) p ≤ 57) by omega)] at hE; omega
          have hd1 : dgR (tX (F0 3) (n0 4)) (skR (tX (F0 3) (n0 4)) (n0 21).toInt.toNat) ≠ 0 := by rw [dgR_st hln hd0]; omega
          have qd : ((n 21) - at_).toInt = (p : Int) - (skR (tX (F0 3) (n0 4)) (n0 21).toInt.toNat) := by have q := T_sub hp ha.1 (by omega); exact q
          exact gz_zret rfl (by first | decide | exact nrb (Or.inl (by assumption)) | exact nrb (by assumption) | (refine nrb ?_; assumption)) dX12_reads_114 (Nat.le_of_ble_eq_true rfl) (Nat.le_of_ble_eq_true rfl) (⟨_, rfl, _, _, _, _, hS_3, (fx_tr (fx_n hx (by decide)) hx3 (by decide)), (by first | exact Or.inl rfl | exact Or.inr rfl | assumption | (left; assumption)), (by (try rw [(show n_3 21 = (n 21) from (hx3.1 21 (by decide)))]); (try rw [(show n_3 4 = (n0 4) from ((hx3.1 4 (by decide)).trans (hx.1 4 (by decide))))]); omega), (by (try rw [(show n_3 21 = (n 21) from (hx3.1 21 (by decide)))]); omega), (by unfold nuR; rw [if_neg hd1, if_pos (by omega)]; exact ⟨by first | rfl | assumption, (by (try rw [(show n_3 22 = (n_3 22) from rfl)]); omega)⟩)⟩)
        · exact absurd c_106 (by decide)
    ·
      try simp only [mIn_0, lgc_lt, lgc_gt, lgc_le, lgc_ge, lgc_eq] at c_41
      try simp only [fl_lt, fl_le, fl_eq, fL_w, fL_lt, fL_le, tm1, tm10k, tm9, tm99, Int32.reduceToInt, Int64.reduceToInt, Int.not_lt, Int.not_le] at c_41
      refine gz_aload_n dX12_reads_44 rfl rfl ?_
      refine mg_272 hS dX12_reads_45 ?_
      refine gz_iload_n dX12_reads_48 rfl rfl ?_
      refine gz_isub dX12_reads_49 ?_
      refine gz_iconst (v := 5) dX12_reads_50 (by decide) ?_
      refine gz_icmp_ge (tgt := 72) dX12_reads_51 (by decide) (fun c_51 => ?_) (fun c_51 => ?_)
      ·
        try simp only [mIn_0, lgc_lt, lgc_gt, lgc_le, lgc_ge, lgc_eq] at c_51
        try simp only [fl_lt, fl_le, fl_eq, fL_w, fL_lt, fL_le, tm1, tm10k, tm9, tm99, Int32.reduceToInt, Int64.reduceToInt, Int.not_lt, Int.not_le] at c_51
        try have u_51t1 := (T_sub (rfl : ((n 21)).toInt = ((n 21)).toInt) (rfl : (at_).toInt = (at_).toInt) (by omega))
        refine gz_aload_n dX12_reads_72 rfl rfl ?_
        refine gz_dup dX12_reads_73 rfl ?_
        refine mg_272 hS dX12_reads_74 ?_
        refine gz_iconst (v := 1) dX12_reads_77 (by decide) ?_
        refine gz_iadd dX12_reads_78 ?_
        refine mp_272 hS dX12_reads_79 (fun f_4 hS_4 => ?_)
        refine gz_goto (tgt := 33) dX12_reads_82 (by decide) ?_
        refine gz_sub (lv' := [(1, .int at_), (2, .int v), (0, .ref m)]) (by simp [List.lookup]) ?_
        rw [ep] at hb_1
        have hC : 48 ≤ (tX (F0 3) (n0 4)) p ∧ (tX (F0 3) (n0 4)) p ≤ 57 := by omega
        have qn : ((n 21) + 1).toInt = (p : Int) + 1 := by have q := T_add hp (show (1 : Int32).toInt = 1 from rfl) (by omega); exact q
        have hE2 : (skR (tX (F0 3) (n0 4)) (n0 21).toInt.toNat) + dgR (tX (F0 3) (n0 4)) (skR (tX (F0 3) (n0 4)) (n0 21).toInt.toNat) = ((n 21) + 1).toInt.toNat + dgR (tX (F0 3) (n0 4)) ((n 21) + 1).toInt.toNat := by rw [show ((n 21) + 1).toInt.toNat = p + 1 by omega, hE, dgR_st hln hC]; omega
        exact ih v _ _ _ _ _ hS_4 (fx_n hx (by decide)) ((by (try rw [(show (va_up n 21 ((n 21) + 1)) 21 = ((n 21) + 1) from rfl)]); (try rw [(show (va_up n 21 ((n 21) + 1)) 4 = (n0 4) from (hx.1 4 (by decide)))]); have q1_ := (T_add (rfl : ((n 21)).toInt = ((n 21)).toInt) (show (1 : Int32).toInt = 1 from rfl) (by omega)); omega)) ((by (try rw [(show (va_up n 21 ((n 21) + 1)) 21 = ((n 21) + 1) from rfl)]); have q1_ := (T_add (rfl : ((n 21)).toInt = ((n 21)).toInt) (show (1 : Int32).toInt = 1 from rfl) (by omega)); omega)) ((by (try rw [(show (va_up n 21 ((n 21) + 1)) 21 = ((n 21) + 1) from rfl)]); have q1_ := (T_add (rfl : ((n 21)).toInt = ((n 21)).toInt) (show (1 : Int32).toInt = 1 from rfl) (by omega)); omega)) (hE2) ((by (try rw [(show (va_up n 21 ((n 21) + 1)) 22 = (n 22) from rfl)]); omega)) ((by (try rw [(show (va_up n 21 ((n 21) + 1)) 21 = ((n 21) + 1) from rfl)]); (try rw [(show (va_up n 21 ((n 21) + 1)) 4 = (n0 4) from (hx.1 4 (by decide)))]); have q1_ := (T_add (rfl : ((n 21)).toInt = ((n 21)).toInt) (show (1 : Int32).toInt = 1 from rfl) (by omega)); omega))
      ·
        try simp only [mIn_0, lgc_lt, lgc_gt, lgc_le, lgc_ge, lgc_eq] at c_51
        try simp only [fl_lt, fl_le, fl_eq, fL_w, fL_lt, fL_le, tm1, tm10k, tm9, tm99, Int32.reduceToInt, Int64.reduceToInt, Int.not_lt, Int.not_le] at c_51
        try have u_51t1 := (T_sub (rfl : ((n 21)).toInt = ((n 21)).toInt) (rfl : (at_).toInt = (at_).toInt) (by omega))
        refine gz_bipush (v := 10) dX12_reads_54 (by decide) ?_
        refine gz_iload_n dX12_reads_56 rfl rfl ?_
        refine gz_imul dX12_reads_57 ?_
        refine gz_aload_n dX12_reads_58 rfl rfl ?_
        refine mg_13 hS dX12_reads_59 ?_
        refine gz_aload_n dX12_reads_62 rfl rfl ?_
        refine mg_272 hS dX12_reads_63 ?_
        refine m_bald 3 hS rfl (N := 400) rfl ((by exact vin_T (rfl : ((n 21)).toInt = ((n 21)).toInt) (by omega) (by omega))) dX12_reads_66 ?_
        refine gz_ev (w := .int ((F0 3) (Int32.toNatClampNeg (n 21)))) (congrArg Value.int (congrFun (hx.2.2.1 3 (by decide)) _)) ?_
        refine gz_iadd dX12_reads_67 ?_
        refine gz_bipush (v := 48) dX12_reads_68 (by decide) ?_
        refine gz_isub dX12_reads_70 ?_
        refine gz_istore_n (lv' := [(2, .int (((10 * v) + ((F0 3) (Int32.toNatClampNeg (n 21)))) - 48)), (1, .int at_), (0, .ref m)]) dX12_reads_71 rfl (by decide) rfl ?_
        refine gz_aload_n dX12_reads_72 rfl rfl ?_
        refine gz_dup dX12_reads_73 rfl ?_
        refine mg_272 hS dX12_reads_74 ?_
        refine gz_iconst (v := 1) dX12_reads_77 (by decide) ?_
        refine gz_iadd dX12_reads_78 ?_
        refine mp_272 hS dX12_reads_79 (fun f_5 hS_5 => ?_)
        refine gz_goto (tgt := 33) dX12_reads_82 (by decide) ?_
        refine gz_sub (lv' := [(1, .int at_), (2, .int (((10 * v) + ((F0 3) (Int32.toNatClampNeg (n 21)))) - 48)), (0, .ref m)]) (by simp [List.lookup]) ?_
        rw [ep] at hb_1
        have hC : 48 ≤ (tX (F0 3) (n0 4)) p ∧ (tX (F0 3) (n0 4)) p ≤ 57 := by omega
        have qn : ((n 21) + 1).toInt = (p : Int) + 1 := by have q := T_add hp (show (1 : Int32).toInt = 1 from rfl) (by omega); exact q
        have hE2 : (skR (tX (F0 3) (n0 4)) (n0 21).toInt.toNat) + dgR (tX (F0 3) (n0 4)) (skR (tX (F0 3) (n0 4)) (n0 21).toInt.toNat) = ((n 21) + 1).toInt.toNat + dgR (tX (F0 3) (n0 4)) ((n 21) + 1).toInt.toNat := by rw [show ((n 21) + 1).toInt.toNat = p + 1 by omega, hE, dgR_st hln hC]; omega
        exact ih (((10 * v) + ((F0 3) (Int32.toNatClampNeg (n 21)))) - 48) _ _ _ _ _ hS_5 (fx_n hx (by decide)) ((by (try rw [(show (va_up n 21 ((n 21) + 1)) 21 = ((n 21) + 1) from rfl)]); (try rw [(show (va_up n 21 ((n 21) + 1)) 4 = (n0 4) from (hx.1 4 (by decide)))]); have q1_ := (T_add (rfl : ((n 21)).toInt = ((n 21)).toInt) (show (1 : Int32).toInt = 1 from rfl) (by omega)); omega)) ((by (try rw [(show (va_up n 21 ((n 21) + 1)) 21 = ((n 21) + 1) from rfl)]); have q1_ := (T_add (rfl : ((n 21)).toInt = ((n 21)).toInt) (show (1 : Int32).toInt = 1 from rfl) (by omega)); omega)) ((by (try rw [(show (va_up n 21 ((n 21) + 1)) 21 = ((n 21) + 1) from rfl)]); have q1_ := (T_add (rfl : ((n 21)).toInt = ((n 21)).toInt) (show (1 : Int32).toInt = 1 from rfl) (by omega)); omega)) (hE2) ((by (try rw [(show (va_up n 21 ((n 21) + 1)) 22 = (n 22) from rfl)]); omega)) ((by (try rw [(show (va_up n 21 ((n 21) + 1)) 21 = ((n 21) + 1) from rfl)]); (try rw [(show (va_up n 21 ((n 21) + 1)) 4 = (n0 4) from (hx.1 4 (by decide)))]); have q1_ := (T_add (rfl : ((n 21)).toInt = ((n 21)).toInt) (show (1 : Int32).toInt = 1 from rfl) (by omega)); omega))

set_option maxHeartbeats 4000000 in
set_option maxRecDepth 100000 in
theorem k_X12_readsE {l : Launch} {D : va_G} {cy : Nat → ClassId} {b : Nat} {f : gMem} {m : Nat} {a : Nat → Nat} {f0 : gMem} {n : Nat → Int32} {z : Nat → Int64} {F : Nat → Nat → Int32} {G : Nat → Nat → Int64}   (hS : mS cy m a f0 n z F G f) (hT : (0 ≤ (n 21).toInt ∧ (n 21).toInt ≤ (n 4).toInt ∧ (n 4).toInt ≤ 400)) (hB : rB F) (h22 : (n 22).toInt = 0) : gC l D cy b yX12_reads cX12_reads 3 (some .boolean) 1 0 0 [.ref m] f (pI fun r f2 => ∃ (n2 : Nat → Int32) (z2 : Nat → Int64) (F2 : Nat → Nat → Int32) (G2 : Nat → Nat → Int64), mS cy m a f0 n2 z2 F2 G2 f2 ∧ fx [21, 22, 23] [] [] [] n z F G n2 z2 F2 G2 ∧ (r = 0 ∨ r = 1) ∧ (0 ≤ (n2 21).toInt ∧ (n2 21).toInt ≤ (n2 4).toInt ∧ (n2 4).toInt ≤ 400) ∧ (n 21).toInt ≤ (n2 21).toInt ∧ exM1 (nuR (tX (F 3) (n 4)) (skR (tX (F 3) (n 4)) (n 21).toInt.toNat)) r n2) := by
  refine gC_of (by decide) (Nat.le_of_ble_eq_true rfl) ?_
  show gG l _ _ _ D cy b cX12_reads 3 _ RX12 "reads" 0 0 f 0 [(0, .ref m)] []
  refine gz_aload_n dX12_reads_0 rfl rfl ?_
  refine scX12_275 (k_X12_see_E hS (by omega) hB) hS.1 ⟨(Nat.le_of_ble_eq_true rfl), (Nat.le_of_ble_eq_true rfl)⟩ ⟨(Nat.le_of_ble_eq_true rfl), (Nat.le_of_ble_eq_true rfl)⟩ rfl rfl (Nat.le_of_ble_eq_true rfl) dX12_reads_1 ?_
  rintro r_1 f_1 ⟨n_1, z_1, F_1, G_1, hS_1, hx1, hT_1, hm_1, hq_1, hs_1, hv_1⟩
  try simp only [(show n_1 4 = (n 4) from (hx1.1 4 (by decide)))] at hT_1 hm_1 hq_1 hs_1 hv_1
  try simp only [(show F_1 3 = (F 3) from (hx1.2.2.1 3 (by decide)))] at hT_1 hm_1 hq_1 hs_1 hv_1
  refine gz_pop dX12_reads_4 rfl ?_
  refine gz_aload_n dX12_reads_5 rfl rfl ?_
  refine gz_aload_n dX12_reads_6 rfl rfl ?_
  refine mg_272 hS_1 dX12_reads_7 ?_
  refine gz_ev (w := .int (n_1 21)) rfl ?_
  refine scX12_283 (k_X12_isDigitE (x := (n_1 21)) hS_1 (by (try rw [(show n_1 21 = (n_1 21) from rfl)]); (try rw [(show n_1 4 = (n 4) from (hx1.1 4 (by decide)))]); omega) (by (try rw [(show n_1 21 = (n_1 21) from rfl)]); (try rw [(show n_1 4 = (n 4) from (hx1.1 4 (by decide)))]); omega) (rB_cg (hx1.2.2.1 3 (by decide)) hB)) hS_1.1 ⟨(Nat.le_of_ble_eq_true rfl), (Nat.le_of_ble_eq_true rfl)⟩ ⟨(Nat.le_of_ble_eq_true rfl), (Nat.le_of_ble_eq_true rfl)⟩ rfl rfl (Nat.le_of_ble_eq_true rfl) dX12_reads_10 ?_
  rintro r_2 f9 ⟨hb_2, y9⟩; rw [y9]
  try simp only [(show n_1 4 = (n 4) from (hx1.1 4 (by decide)))] at hb_2
  try simp only [(show F_1 3 = (F 3) from (hx1.2.2.1 3 (by decide)))] at hb_2
  have hbb_2 : r_2 = 0 ∨ r_2 = 1 := hb_2.imp And.left And.left
  simp only [fl_eq, Int32.reduceToInt] at hb_2
  refine gz_if_ne (tgt := 26) dX12_reads_13 (by decide) (fun c_13 => ?_) (fun c_13 => ?_)
  ·
    try simp only [mIn_0, lgc_lt, lgc_gt, lgc_le, lgc_ge, lgc_eq] at c_13
    try simp only [fl_lt, fl_le, fl_eq, fL_w, fL_lt, fL_le, tm1, tm10k, tm9, tm99, Int32.reduceToInt, Int64.reduceToInt, Int.not_lt, Int.not_le] at c_13
    refine gz_aload_n dX12_reads_26 rfl rfl ?_
    refine mg_272 hS_1 dX12_reads_27 ?_
    refine gz_ev (w := .int (n_1 21)) rfl ?_
    refine gz_istore_n (lv' := [(1, .int (n_1 21)), (0, .ref m)]) dX12_reads_30 rfl (by decide) rfl ?_
    refine gz_iconst (v := 0) dX12_reads_31 (by decide) ?_
    refine gz_istore_n (lv' := [(2, .int 0), (1, .int (n_1 21)), (0, .ref m)]) dX12_reads_32 rfl (by decide) rfl ?_
    have es_ : ((n_1 21)).toInt.toNat = (skR (tX (F 3) (n 4)) (n 21).toInt.toNat) := by omega
    rw [es_] at hb_2
    have hd0 : 48 ≤ (tX (F 3) (n 4)) (skR (tX (F 3) (n 4)) (n 21).toInt.toNat) ∧ (tX (F 3) (n 4)) (skR (tX (F 3) (n 4)) (n 21).toInt.toNat) ≤ 57 := by omega
    refine gz_sub (lv' := [(1, .int (n_1 21)), (2, .int 0), (0, .ref m)]) (by simp [List.lookup]) ?_
    exact l_X12_readsE hB hd0 402 0 _ _ _ _ _ hS_1 (fx_tr fx_rf hx1 (by decide)) (by (try rw [(show n_1 21 = (n_1 21) from rfl)]); (try rw [(show n_1 4 = (n 4) from (hx1.1 4 (by decide)))]); omega) (by (try rw [(show n_1 21 = (n_1 21) from rfl)]); omega) ⟨(by (try rw [(show n_1 21 = (n_1 21) from rfl)]); omega), (by (try rw [(show n_1 21 = (n_1 21) from rfl)]); omega)⟩ (by rw [show (((n_1 21)).toInt.toNat) = (skR (tX (F 3) (n 4)) (n 21).toInt.toNat) from es_]) (by (try rw [(show n_1 22 = (n 22) from (hx1.1 22 (by decide)))]); omega) (by (try rw [(show n_1 21 = (n_1 21) from rfl)]); (try rw [(show n_1 4 = (n 4) from (hx1.1 4 (by decide)))]); omega)
  ·
    try simp only [mIn_0, lgc_lt, lgc_gt, lgc_le, lgc_ge, lgc_eq] at c_13
    try simp only [fl_lt, fl_le, fl_eq, fL_w, fL_lt, fL_le, tm1, tm10k, tm9, tm99, Int32.reduceToInt, Int64.reduceToInt, Int.not_lt, Int.not_le] at c_13
    refine gz_aload_n dX12_reads_16 rfl rfl ?_
    refine gz_iconst (v := 0) dX12_reads_17 (by decide) ?_
    refine gz_aload_n dX12_reads_18 rfl rfl ?_
    refine mg_272 hS_1 dX12_reads_19 ?_
    refine gz_ev (w := .int (n_1 21)) rfl ?_
    refine scX12_279 (k_X12_failsE (x := 0) (y := (n_1 21)) hS_1 (by (try rw [(show n_1 22 = (n 22) from (hx1.1 22 (by decide)))]); omega) (by (try rw [(show n_1 21 = (n_1 21) from rfl)]); (try rw [(show n_1 4 = (n 4) from (hx1.1 4 (by decide)))]); omega) (by decide)) hS_1.1 ⟨(Nat.le_of_ble_eq_true rfl), (Nat.le_of_ble_eq_true rfl)⟩ ⟨(Nat.le_of_ble_eq_true rfl), (Nat.le_of_ble_eq_true rfl)⟩ rfl rfl (Nat.le_of_ble_eq_true rfl) dX12_reads_22 ?_
    rintro r_3 f_3 ⟨n_3, z_3, F_3, G_3, hS_3, hx3, hr_3, hf_3⟩
    try simp only [(show n_1 22 = (n 22) from (hx1.1 22 (by decide)))] at hr_3 hf_3
    simp only [Int32.reduceToInt] at hf_3
    have es_ : ((n_1 21)).toInt.toNat = (skR (tX (F 3) (n 4)) (n 21).toInt.toNat) := by omega
    rw [es_] at hb_2
    exact gz_zret rfl (by first | decide | exact nrb (Or.inl (by assumption)) | exact nrb (by assumption) | (refine nrb ?_; assumption)) dX12_reads_25 (Nat.le_of_ble_eq_true rfl) (Nat.le_of_ble_eq_true rfl) (⟨_, rfl, _, _, _, _, hS_3, (fx_tr (fx_tr fx_rf hx1 (by decide)) hx3 (by decide)), (by first | exact Or.inl rfl | exact Or.inr rfl | assumption | (left; assumption)), (by (try rw [(show n_3 21 = (n_1 21) from (hx3.1 21 (by decide)))]); (try rw [(show n_3 4 = (n 4) from ((hx3.1 4 (by decide)).trans (hx1.1 4 (by decide))))]); omega), (by (try rw [(show n_3 21 = (n_1 21) from (hx3.1 21 (by decide)))]); omega), (by unfold nuR; rw [if_pos (dgR_no (show ¬ (48 ≤ (tX (F 3) (n 4)) (skR (tX (F 3) (n 4)) (n 21).toInt.toNat) ∧ (tX (F 3) (n 4)) (skR (tX (F 3) (n 4)) (n 21).toInt.toNat) ≤ 57) by omega))]; exact ⟨hr_3, (by (try rw [(show n_3 22 = (n_3 22) from rfl)]); omega)⟩)⟩)
