/-! the reference between two calls -/
/-- a WORD's end in a FORM of W WORDS, by how many stand around each -/
def enF (ar : Nat → Int) (b : Int) : Nat → Nat → Nat
  | 0, j => j
  | r + 1, j => if b < ar j then enF ar b r (j + 1) else j
def arF (F : Nat → Nat → Int32) (f : Nat) : Nat → Int := fun k => (F 9 (40 * f + k)).toInt
def eN (F : Nat → Nat → Int32) (f W k : Nat) : Nat := enF (arF F f) (arF F f k) (W - (k + 1)) (k + 1)
theorem enF_ge (ar : Nat → Int) (b : Int) : ∀ r j, j ≤ enF ar b r j ∧ enF ar b r j ≤ j + r := by
  intro r
  induction r with
  | zero => intro j; exact ⟨Nat.le_refl _, Nat.le_refl _⟩
  | succ r ih =>
    intro j
    unfold enF
    by_cases h : b < ar j
    · rw [if_pos h]; have := ih (j + 1); omega
    · rw [if_neg h]; omega
theorem enF_in (ar : Nat → Int) (b : Int) : ∀ r j i, j ≤ i → i < enF ar b r j → b < ar i := by
  intro r
  induction r with
  | zero => intro j i h1 h2; unfold enF at h2; omega
  | succ r ih =>
    intro j i h1 h2
    unfold enF at h2
    by_cases h : b < ar j
    · rw [if_pos h] at h2
      by_cases e : i = j
      · rw [e]; exact h
      · exact ih (j + 1) i (by omega) h2
    · rw [if_neg h] at h2; omega
theorem enF_end (ar : Nat → Int) (b : Int) : ∀ r j, enF ar b r j < j + r → ar (enF ar b r j) ≤ b := by
  intro r
  induction r with
  | zero => intro j h; unfold enF at h; omega
  | succ r ih =>
    intro j h
    unfold enF at h ⊢
    by_cases h2 : b < ar j
    · rw [if_pos h2] at h ⊢; exact ih (j + 1) (by omega)
    · rw [if_neg h2]; omega
theorem enF_le (ar : Nat → Int) (b : Int) : ∀ r j t, j ≤ t → ar t ≤ b → enF ar b r j ≤ t := by
  intro r
  induction r with
  | zero => intro j t h1 h2; unfold enF; exact h1
  | succ r ih =>
    intro j t h1 h2
    unfold enF
    by_cases h : b < ar j
    · rw [if_pos h]
      refine ih (j + 1) t ?_ h2
      rcases Nat.lt_or_ge j t with q | q
      · exact q
      · have e : j = t := by omega
        rw [e] at h; omega
    · rw [if_neg h]; exact h1
theorem eN_gt {F : Nat → Nat → Int32} {f W k : Nat} (hk : k < W) : k < eN F f W k ∧ eN F f W k ≤ W := by
  have := enF_ge (arF F f) (arF F f k) (W - (k + 1)) (k + 1)
  unfold eN; omega
theorem eN_in {F : Nat → Nat → Int32} {f W k j : Nat} (h1 : k < j) (h2 : j < eN F f W k) : arF F f k < arF F f j := enF_in _ _ _ _ _ h1 h2
/-- what lies within a WORD ends within it -/
theorem eN_lam {F : Nat → Nat → Int32} {f W k j : Nat} (hk : k < W) (h1 : k ≤ j) (h2 : j < eN F f W k) : eN F f W j ≤ eN F f W k := by
  have hW := eN_gt (F := F) (f := f) hk
  rcases Nat.lt_or_ge (eN F f W k) W with q | q
  · have he : arF F f (eN F f W k) ≤ arF F f k := by
      unfold eN at q ⊢
      exact enF_end _ _ _ _ (by omega)
    have hj : arF F f k ≤ arF F f j := by
      rcases Nat.lt_or_ge k j with z | z
      · exact Int.le_of_lt (eN_in z h2)
      · have e : k = j := by omega
        rw [e]; exact Int.le_refl _
    unfold eN at *
    exact enF_le _ _ _ _ _ (by omega) (by omega)
  · have := eN_gt (F := F) (f := f) (k := j) (W := W) (by omega)
    omega
/-- one WORD of a FORM: its kind, what stands around it, the WORD around it, its DEEDS -/
def wOK (F : Nat → Nat → Int32) (f W k : Nat) : Prop :=
  (0 ≤ (F 7 (40 * f + k)).toInt ∧ (F 7 (40 * f + k)).toInt ≤ 10) ∧ (0 ≤ arF F f k ∧ arF F f k ≤ 11)
  ∧ (((F 10 (40 * f + k)).toInt = -1 ∧ k = 0 ∧ arF F f k = 0) ∨ ∃ p : Nat, p < k ∧ (F 10 (40 * f + k)).toInt = 40 * f + p ∧ arF F f k = arF F f p + 1)
  ∧ (2 ≤ (F 7 (40 * f + k)).toInt → ∃ t : Nat, (F 11 (40 * f + k)).toInt = 40 * f + t ∧ k < t ∧ t < eN F f W k
      ∧ (3 ≤ (F 7 (40 * f + k)).toInt ∧ (F 7 (40 * f + k)).toInt ≤ 5 → ∃ u : Nat, (F 12 (40 * f + k)).toInt = 40 * f + u ∧ eN F f W t ≤ u ∧ u < eN F f W k))
  ∧ ((F 13 (40 * f + k)).toInt ≤ (F 14 (40 * f + k)).toInt ∧ (F 14 (40 * f + k)).toInt ≤ (F 15 (40 * f + k)).toInt)
/-- how many VALUES the WORDS from i on have, n of them -/
def vsF (F : Nat → Nat → Int32) (f : Nat) : Nat → Nat → Nat
  | _, 0 => 0
  | i, n + 1 => ((F 15 (40 * f + i)).toInt - (F 13 (40 * f + i)).toInt).toNat + vsF F f (i + 1) n
def fOK (F : Nat → Nat → Int32) (f : Nat) : Prop := (1 ≤ (F 6 f).toInt ∧ (F 6 f).toInt ≤ 40) ∧ (∀ k : Nat, k < (F 6 f).toInt.toNat → wOK F f (F 6 f).toInt.toNat k) ∧ vsF F f 0 (F 6 f).toInt.toNat ≤ 40
/-- rows whose entries keep their bounds everywhere -/
def rAll (F : Nat → Nat → Int32) : Prop := ∀ w : Nat, w < 880 → (0 ≤ (F 13 w).toInt ∧ (F 13 w).toInt ≤ 40) ∧ (0 ≤ (F 14 w).toInt ∧ (F 14 w).toInt ≤ 40) ∧ (0 ≤ (F 15 w).toInt ∧ (F 15 w).toInt ≤ 40) ∧ (-1 ≤ (F 19 w).toInt ∧ (F 19 w).toInt ≤ 6)
def rW (F : Nat → Nat → Int32) (c : Int) : Prop := ∀ f : Nat, (f : Int) < c → fOK F f
/-- w is a WORD of one of the FORMS -/
def vW (F : Nat → Nat → Int32) (c : Int) (w : Int) : Prop := ∃ f k : Nat, (f : Int) < c ∧ k < (F 6 f).toInt.toNat ∧ w = 40 * f + k
/-- the LIVES -/
def rL (F : Nat → Nat → Int32) (c lv : Int) : Prop := ∀ l : Nat, l < 40 → (0 ≤ (F 35 l).toInt ∧ (F 35 l).toInt ≤ 40) ∧ (lv ≤ (l : Int) → (F 35 l).toInt = 0) ∧ (0 ≤ (F 32 l).toInt ∧ (F 32 l).toInt ≤ 7) ∧ (0 ≤ (F 33 l).toInt ∧ (F 33 l).toInt ≤ 7) ∧ ∀ k : Nat, (k : Int) < (F 35 l).toInt → vW F c (F 36 (40 * l + k)).toInt ∧ ((F 7 (F 36 (40 * l + k)).toInt.toNat).toInt = 4 ∨ (F 7 (F 36 (40 * l + k)).toInt.toNat).toInt = 6 ∨ (F 7 (F 36 (40 * l + k)).toInt.toNat).toInt = 7)
def rPy (F : Nat → Nat → Int32) (py lv : Int) : Prop := ∀ k : Nat, (k : Int) < py → 0 ≤ (F 39 k).toInt ∧ (F 39 k).toInt < lv
def RI (n : Nat → Int32) (F : Nat → Nat → Int32) : Prop :=
  (0 ≤ (n 0).toInt ∧ (n 0).toInt ≤ 399) ∧ (0 ≤ (n 4).toInt ∧ (n 4).toInt ≤ 400) ∧ (0 ≤ (n 5).toInt ∧ (n 5).toInt ≤ 20) ∧ rAll F ∧ rW F (n 5).toInt
  ∧ (0 ≤ (n 30).toInt ∧ (n 30).toInt ≤ 40) ∧ rL F (n 5).toInt (n 30).toInt ∧ (0 ≤ (n 38).toInt ∧ (n 38).toInt ≤ 2000) ∧ rPy F (n 38).toInt (n 30).toInt
  ∧ (1 ≤ (n 53).toInt ∧ (n 53).toInt ≤ 3) ∧ (0 ≤ (n 47).toInt ∧ (n 47).toInt ≤ 8) ∧ (0 ≤ (n 88).toInt ∧ (n 88).toInt ≤ 1000)
/-- the rows that it looks at -/
def riK : List Nat := [6, 7, 9, 10, 11, 12, 13, 14, 15, 19, 32, 33, 35, 36, 39]
theorem arF_cg {F F2 : Nat → Nat → Int32} (h : F2 9 = F 9) {f : Nat} : arF F2 f = arF F f := by unfold arF; rw [h]
theorem eN_cg {F F2 : Nat → Nat → Int32} (h : F2 9 = F 9) {f W k : Nat} : eN F2 f W k = eN F f W k := by unfold eN; rw [arF_cg h]
theorem vsF_cg {F F2 : Nat → Nat → Int32} (h1 : F2 13 = F 13) (h2 : F2 15 = F 15) {f : Nat} : ∀ n i, vsF F2 f i n = vsF F f i n := by
  intro n
  induction n with
  | zero => intro i; rfl
  | succ n ih => intro i; unfold vsF; rw [h1, h2, ih]
theorem wOK_cg {F F2 : Nat → Nat → Int32} (h : ∀ k, k ∈ riK → F2 k = F k) {f W k : Nat} (q : wOK F f W k) : wOK F2 f W k := by
  unfold wOK at *
  simp only [arF_cg (h 9 (by decide)), eN_cg (h 9 (by decide)), h 7 (by decide), h 10 (by decide), h 11 (by decide), h 12 (by decide), h 13 (by decide), h 14 (by decide), h 15 (by decide)]
  exact q
theorem fOK_cg {F F2 : Nat → Nat → Int32} (h : ∀ k, k ∈ riK → F2 k = F k) {f : Nat} (q : fOK F f) : fOK F2 f := by
  obtain ⟨h1, h2, h3⟩ := q
  refine ⟨by rw [h 6 (by decide)]; exact h1, fun k hk => ?_, ?_⟩
  · rw [h 6 (by decide)] at hk ⊢
    exact wOK_cg h (h2 k hk)
  · rw [h 6 (by decide), vsF_cg (h 13 (by decide)) (h 15 (by decide))]; exact h3
theorem rAll_cg {F F2 : Nat → Nat → Int32} (h : ∀ k, k ∈ riK → F2 k = F k) (q : rAll F) : rAll F2 := by
  intro w hw
  rw [h 13 (by decide), h 14 (by decide), h 15 (by decide), h 19 (by decide)]; exact q w hw
theorem rW_cg {F F2 : Nat → Nat → Int32} (h : ∀ k, k ∈ riK → F2 k = F k) {c : Int} (q : rW F c) : rW F2 c := fun f hf => fOK_cg h (q f hf)
theorem vW_cg {F F2 : Nat → Nat → Int32} (h : F2 6 = F 6) {c w : Int} (q : vW F c w) : vW F2 c w := by
  obtain ⟨f, k, h1, h2, h3⟩ := q
  exact ⟨f, k, h1, by rw [h]; exact h2, h3⟩
theorem rL_cg {F F2 : Nat → Nat → Int32} (h : ∀ k, k ∈ riK → F2 k = F k) {c lv : Int} (q : rL F c lv) : rL F2 c lv := by
  intro l hl
  rw [h 35 (by decide), h 32 (by decide), h 33 (by decide), h 36 (by decide), h 7 (by decide)]
  obtain ⟨a1, a2, a3, a4, a5⟩ := q l hl
  exact ⟨a1, a2, a3, a4, fun k hk => ⟨vW_cg (h 6 (by decide)) (a5 k hk).1, (a5 k hk).2⟩⟩
theorem rPy_cg {F F2 : Nat → Nat → Int32} (h : ∀ k, k ∈ riK → F2 k = F k) {py lv : Int} (q : rPy F py lv) : rPy F2 py lv := by
  intro k hk; rw [h 39 (by decide)]; exact q k hk
/-- the registers may have changed within their bounds -/
theorem RI_cg {n n2 : Nat → Int32} {F F2 : Nat → Nat → Int32} (h : ∀ k, k ∈ riK → F2 k = F k) (q : RI n F) (h5 : n2 5 = n 5) (h30 : n2 30 = n 30) (h38 : n2 38 = n 38) (h0 : 0 ≤ (n2 0).toInt ∧ (n2 0).toInt ≤ 399) (h4 : 0 ≤ (n2 4).toInt ∧ (n2 4).toInt ≤ 400) (h53 : 1 ≤ (n2 53).toInt ∧ (n2 53).toInt ≤ 3) (h47 : 0 ≤ (n2 47).toInt ∧ (n2 47).toInt ≤ 8) (h88 : 0 ≤ (n2 88).toInt ∧ (n2 88).toInt ≤ 1000) : RI n2 F2 := by
  obtain ⟨a0, a4, a5, b1, b2, a30, b3, a38, b4, a53, a47, a88⟩ := q
  refine ⟨h0, h4, by rw [h5]; exact a5, rAll_cg h b1, by rw [h5]; exact rW_cg h b2, by rw [h30]; exact a30, by rw [h5, h30]; exact rL_cg h b3, by rw [h38]; exact a38, by rw [h38, h30]; exact rPy_cg h b4, h53, h47, h88⟩
theorem RI_fx {Kn Kz KF KG : List Nat} {n n2 : Nat → Int32} {z z2 : Nat → Int64} {F F2 : Nat → Nat → Int32} {G G2 : Nat → Nat → Int64} (q : RI n F) (hx : fx Kn Kz KF KG n z F G n2 z2 F2 G2) (hn : ∀ k, k ∈ [0, 4, 5, 30, 38, 47, 53, 88] → k ∉ Kn) (hF : ∀ k, k ∈ riK → k ∉ KF) : RI n2 F2 := by
  have e := fun k hk => hx.1 k (hn k hk)
  obtain ⟨a0, a4, a5, b1, b2, a30, b3, a38, b4, a53, a47, a88⟩ := id q
  exact RI_cg (fun k hk => hx.2.2.1 k (hF k hk)) q (e 5 (by decide)) (e 30 (by decide)) (e 38 (by decide)) (by rw [e 0 (by decide)]; exact a0) (by rw [e 4 (by decide)]; exact a4) (by rw [e 53 (by decide)]; exact a53) (by rw [e 47 (by decide)]; exact a47) (by rw [e 88 (by decide)]; exact a88)
