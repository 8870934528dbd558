/-! FORMS that stay, and one that is being laid -/
def agF (F F2 : Nat → Nat → Int32) (f : Nat) : Prop := F2 6 f = F 6 f ∧ ∀ r, r ∈ [7, 9, 10, 11, 12, 13, 14, 15] → ∀ k : Nat, k < 40 → F2 r (40 * f + k) = F r (40 * f + k)
theorem enF_ag (ar ar2 : Nat → Int) (b : Int) : ∀ r j, (∀ i, j ≤ i → i < j + r → ar2 i = ar i) → enF ar2 b r j = enF ar b r j := by
  intro r
  induction r with
  | zero => intro j _; rfl
  | succ r ih =>
    intro j h
    unfold enF
    rw [h j (by omega) (by omega), ih (j + 1) (fun i h1 h2 => h i (by omega) (by omega))]
theorem arF_ag {F F2 : Nat → Nat → Int32} {f : Nat} (h : agF F F2 f) {k : Nat} (hk : k < 40) : arF F2 f k = arF F f k := by
  unfold arF; rw [h.2 9 (by decide) k hk]
theorem eN_ag {F F2 : Nat → Nat → Int32} {f W k : Nat} (h : agF F F2 f) (hW : W ≤ 40) (hk : k < W) : eN F2 f W k = eN F f W k := by
  unfold eN
  rw [arF_ag h (show k < 40 by omega)]
  exact enF_ag _ _ _ _ _ (fun i h1 h2 => arF_ag h (by omega))
theorem vsF_ag {F F2 : Nat → Nat → Int32} {f : Nat} (h : agF F F2 f) : ∀ n i, i + n ≤ 40 → vsF F2 f i n = vsF F f i n := by
  intro n
  induction n with
  | zero => intro i _; rfl
  | succ n ih => intro i hi; unfold vsF; rw [h.2 13 (by decide) i (by omega), h.2 15 (by decide) i (by omega), ih (i + 1) (by omega)]
theorem wOK_ag {F F2 : Nat → Nat → Int32} {f W k : Nat} (h : agF F F2 f) (hW : W ≤ 40) (hk : k < W) (q : wOK F f W k) : wOK F2 f W k := by
  have e := fun r hr => h.2 r hr k (by omega)
  obtain ⟨q1, q2, q3, q4, q5⟩ := q
  refine ⟨by rw [e 7 (by decide)]; exact q1, by rw [arF_ag h (show k < 40 by omega)]; exact q2, ?_, ?_, by rw [e 13 (by decide), e 14 (by decide), e 15 (by decide)]; exact q5⟩
  · rw [e 10 (by decide), arF_ag h (show k < 40 by omega)]
    rcases q3 with z | ⟨p, z1, z2, z3⟩
    · exact Or.inl z
    · exact Or.inr ⟨p, z1, z2, by rw [arF_ag h (show p < 40 by omega)]; exact z3⟩
  · rw [e 7 (by decide), e 11 (by decide), e 12 (by decide), eN_ag h hW hk]
    intro z
    obtain ⟨t, t1, t2, t3, t4⟩ := q4 z
    have g := (eN_gt (F := F) (f := f) hk).2
    refine ⟨t, t1, t2, t3, fun y => ?_⟩
    obtain ⟨u, u1, u2, u3⟩ := t4 y
    exact ⟨u, u1, by rw [eN_ag h hW (by omega)]; exact u2, u3⟩
theorem fOK_ag {F F2 : Nat → Nat → Int32} {f : Nat} (h : agF F F2 f) (q : fOK F f) : fOK F2 f := by
  obtain ⟨h1, h2, h3⟩ := q
  refine ⟨by rw [h.1]; exact h1, fun k hk => ?_, ?_⟩
  · rw [h.1] at hk ⊢
    exact wOK_ag h (by omega) hk (h2 k hk)
  · rw [h.1, vsF_ag h _ 0 (by omega)]; exact h3
theorem rW_ag {F F2 : Nat → Nat → Int32} {c : Int} (h : ∀ f : Nat, (f : Int) < c → agF F F2 f) (q : rW F c) : rW F2 c := fun f hf => fOK_ag (h f hf) (q f hf)
theorem rW_one {F : Nat → Nat → Int32} {c : Nat} (q : rW F c) (h : fOK F c) : rW F ((c : Int) + 1) := by
  intro f hf
  rcases Nat.lt_or_ge f c with z | z
  · exact q f (by omega)
  · have e : f = c := by omega
    rw [e]; exact h
theorem vW_at {F : Nat → Nat → Int32} {c w : Int} (hW : rW F c) (q : vW F c w) : ∃ f k : Nat, (f : Int) < c ∧ k < (F 6 f).toInt.toNat ∧ k < 40 ∧ w = 40 * f + k := by
  obtain ⟨f, k, h1, h2, h3⟩ := q
  have := (hW f h1).1
  exact ⟨f, k, h1, h2, by omega, h3⟩
theorem vW_ag {F F2 : Nat → Nat → Int32} {c c2 w : Int} (hc : c ≤ c2) (h : ∀ f : Nat, (f : Int) < c → agF F F2 f) (q : vW F c w) : vW F2 c2 w := by
  obtain ⟨f, k, h1, h2, h3⟩ := q
  exact ⟨f, k, by omega, by rw [(h f h1).1]; exact h2, h3⟩
theorem rL_ag {F F2 : Nat → Nat → Int32} {c c2 lv : Int} (hc : c ≤ c2) (hW : rW F c) (h : ∀ f : Nat, (f : Int) < c → agF F F2 f) (h32 : F2 32 = F 32) (h33 : F2 33 = F 33) (h35 : F2 35 = F 35) (h36 : F2 36 = F 36) (q : rL F c lv) : rL F2 c2 lv := by
  intro l hl
  rw [h35, h32, h33, h36]
  obtain ⟨a1, a2, a3, a4, a5⟩ := q l hl
  refine ⟨a1, a2, a3, a4, fun k hk => ?_⟩
  obtain ⟨b1, b2⟩ := a5 k hk
  refine ⟨vW_ag hc h b1, ?_⟩
  obtain ⟨f, j, c1, c2, c3, c4⟩ := vW_at hW b1
  have e : (F 36 (40 * l + k)).toInt.toNat = 40 * f + j := by omega
  rw [e] at b2 ⊢
  rw [(h f c1).2 7 (by decide) j c3]; exact b2
theorem eN_lt {F : Nat → Nat → Int32} {f W k t : Nat} (h1 : k < t) (h2 : t < W) (h : ∀ j, k < j → j < t + 1 → arF F f k < arF F f j) : t < eN F f W k := by
  rcases Nat.lt_or_ge t (eN F f W k) with z | z
  · exact z
  · have g := eN_gt (F := F) (f := f) (k := k) (W := W) (by omega)
    have q := h (eN F f W k) g.1 (by omega)
    have q2 : arF F f (eN F f W k) ≤ arF F f k := by
      unfold eN at g z ⊢
      exact enF_end _ _ _ _ (by omega)
    omega
theorem eN_up {F : Nat → Nat → Int32} {f W t u : Nat} (h1 : t < u) (h2 : arF F f u ≤ arF F f t) : eN F f W t ≤ u := by
  unfold eN
  exact enF_le _ _ _ _ _ (by omega) h2
/-- all behind k and ahead of e lies within k -/
def inn (F : Nat → Nat → Int32) (f k e : Nat) : Prop := ∀ j, k < j → j < e → arF F f k < arF F f j
def oneA (F : Nat → Nat → Int32) (f W k t : Nat) : Prop := (F 11 (40 * f + k)).toInt = 40 * f + t ∧ k < t ∧ t < W ∧ arF F f t = arF F f k + 1 ∧ inn F f k (t + 1)
def twoA (F : Nat → Nat → Int32) (f W k t u : Nat) : Prop := (F 12 (40 * f + k)).toInt = 40 * f + u ∧ t < u ∧ u < W ∧ arF F f u ≤ arF F f t ∧ inn F f k (u + 1)
/-- one WORD of a FORM being laid: its DEEDS are there, or pending -/
def wP (F : Nat → Nat → Int32) (pd : Nat → Bool → Prop) (f W k : Nat) : Prop :=
  (0 ≤ (F 7 (40 * f + k)).toInt ∧ (F 7 (40 * f + k)).toInt ≤ 10) ∧ (0 ≤ arF F f k ∧ arF F f k ≤ 11)
  ∧ (((F 10 (40 * f + k)).toInt = -1 ∧ k = 0 ∧ arF F f k = 0) ∨ ∃ p : Nat, p < k ∧ (F 10 (40 * f + k)).toInt = 40 * f + p ∧ arF F f k = arF F f p + 1)
  ∧ (2 ≤ (F 7 (40 * f + k)).toInt → pd k false ∨ ∃ t, oneA F f W k t)
  ∧ (3 ≤ (F 7 (40 * f + k)).toInt ∧ (F 7 (40 * f + k)).toInt ≤ 5 → pd k true ∨ ∃ t u, oneA F f W k t ∧ twoA F f W k t u)
  ∧ ((F 13 (40 * f + k)).toInt ≤ (F 14 (40 * f + k)).toInt ∧ (F 14 (40 * f + k)).toInt ≤ (F 15 (40 * f + k)).toInt)
theorem wP_done {F : Nat → Nat → Int32} {pd : Nat → Bool → Prop} {f W k : Nat} (h : ∀ k b, ¬ pd k b) (q : wP F pd f W k) : wOK F f W k := by
  obtain ⟨q1, q2, q3, q4, q5, q6⟩ := q
  refine ⟨q1, q2, q3, fun z => ?_, q6⟩
  rcases q4 z with p | ⟨t, t1, t2, t3, t4, t5⟩
  · exact absurd p (h _ _)
  · refine ⟨t, t1, t2, eN_lt t2 t3 t5, fun y => ?_⟩
    rcases q5 y with p | ⟨t', u, o, u1, u2, u3, u4, u5⟩
    · exact absurd p (h _ _)
    · have e : t' = t := by have := o.1; omega
      subst e
      exact ⟨u, u1, eN_up u2 u4, eN_lt (by omega) u3 u5⟩
/-- one WORD more lies behind -/
theorem inn_up {F F2 : Nat → Nat → Int32} {f k e : Nat} (h : ∀ j, j < e → arF F2 f j = arF F f j) (hk : k < e) (q : inn F f k e) : inn F2 f k e := by
  intro j h1 h2
  rw [h k hk, h j h2]; exact q j h1 h2
theorem inn_one {F : Nat → Nat → Int32} {f k e : Nat} (q : inn F f k e) (h : arF F f k < arF F f e) : inn F f k (e + 1) := by
  intro j h1 h2
  rcases Nat.lt_or_ge j e with z | z
  · exact q j h1 z
  · have : j = e := by omega
    rw [this]; exact h
theorem oneA_up {F F2 : Nat → Nat → Int32} {f W k t : Nat} (h : ∀ j, j < W → arF F2 f j = arF F f j) (h11 : F2 11 (40 * f + k) = F 11 (40 * f + k)) (q : oneA F f W k t) : oneA F2 f (W + 1) k t := by
  obtain ⟨t1, t2, t3, t4, t5⟩ := q
  exact ⟨by rw [h11]; exact t1, t2, by omega, by rw [h t t3, h k (by omega)]; exact t4, inn_up (fun j hj => h j (by omega)) (by omega) t5⟩
theorem twoA_up {F F2 : Nat → Nat → Int32} {f W k t u : Nat} (hk : k < t) (h : ∀ j, j < W → arF F2 f j = arF F f j) (h12 : F2 12 (40 * f + k) = F 12 (40 * f + k)) (q : twoA F f W k t u) : twoA F2 f (W + 1) k t u := by
  obtain ⟨t1, t2, t3, t4, t5⟩ := q
  exact ⟨by rw [h12]; exact t1, t2, by omega, by rw [h t (by omega), h u t3]; exact t4, inn_up (fun j hj => h j (by omega)) (by omega) t5⟩
/-- WORD W is laid as the first DEED of p, or as its second; the others keep what they have -/
theorem wP_up {F F2 : Nat → Nat → Int32} {pd pd2 : Nat → Bool → Prop} {f W k p : Nat} {b : Bool} (hk : k < W)
    (h : ∀ j, j < W → arF F2 f j = arF F f j) (hp : p < W) (hw : arF F2 f W = arF F2 f p + 1) (hin : inn F f p W)
    (ho : ∀ r, r ∈ [7, 10, 13, 14, 15] → F2 r (40 * f + k) = F r (40 * f + k))
    (h11 : F2 11 (40 * f + k) = F 11 (40 * f + k) ∨ (k = p ∧ b = false ∧ (F2 11 (40 * f + k)).toInt = 40 * f + W))
    (h12 : F2 12 (40 * f + k) = F 12 (40 * f + k) ∨ (k = p ∧ b = true ∧ (F2 12 (40 * f + k)).toInt = 40 * f + W))
    (h11o : k = p → b = false → (F2 11 (40 * f + k)).toInt = 40 * f + W) (h12o : k = p → b = true → (F2 12 (40 * f + k)).toInt = 40 * f + W)
    (h11t : b = true → F2 11 (40 * f + k) = F 11 (40 * f + k)) (hfst : b = true → ∃ t, oneA F f W p t)
    (h1st : k = p → b = false → pd k true ∨ ¬ (3 ≤ (F 7 (40 * f + k)).toInt ∧ (F 7 (40 * f + k)).toInt ≤ 5))
    (hpd : ∀ k c, pd k c → pd2 k c ∨ (k = p ∧ c = b)) (q : wP F pd f W k) : wP F2 pd2 f (W + 1) k := by
  obtain ⟨q1, q2, q3, q4, q5, q6⟩ := q
  have hin2 : inn F2 f p (W + 1) := inn_one (inn_up h hp hin) (by omega)
  refine ⟨by rw [ho 7 (by decide)]; exact q1, by rw [h k hk]; exact q2, ?_, ?_, ?_, by rw [ho 13 (by decide), ho 14 (by decide), ho 15 (by decide)]; exact q6⟩
  · rw [ho 10 (by decide), h k hk]
    rcases q3 with z | ⟨r, z1, z2, z3⟩
    · exact Or.inl z
    · exact Or.inr ⟨r, z1, z2, by rw [h r (by omega)]; exact z3⟩
  · rw [ho 7 (by decide)]
    intro z
    by_cases e : k = p ∧ b = false
    · exact Or.inr ⟨W, h11o e.1 e.2, hk, by omega, by rw [e.1]; exact hw, by rw [e.1]; exact hin2⟩
    · have e11 : F2 11 (40 * f + k) = F 11 (40 * f + k) := by
        rcases h11 with y | y
        · exact y
        · exact absurd ⟨y.1, y.2.1⟩ e
      rcases q4 z with y | ⟨t, y⟩
      · rcases hpd _ _ y with x | x
        · exact Or.inl x
        · exact absurd ⟨x.1, x.2.symm⟩ e
      · exact Or.inr ⟨t, oneA_up h e11 y⟩
  · rw [ho 7 (by decide)]
    intro z
    by_cases e : k = p ∧ b = true
    · obtain ⟨t, ht⟩ := hfst e.2
      rw [← e.1] at ht hin2
      have g := ht
      obtain ⟨t1, t2, t3, t4, t5⟩ := g
      refine Or.inr ⟨t, W, oneA_up h (h11t e.2) ht, h12o e.1 e.2, t3, by omega, ?_, hin2⟩
      rw [hw, ← e.1, h t t3, h k hk, t4]; exact Int.le_refl _
    · have e12 : F2 12 (40 * f + k) = F 12 (40 * f + k) := by
        rcases h12 with y | y
        · exact y
        · exact absurd ⟨y.1, y.2.1⟩ e
      have first : pd k true → pd2 k true := by
        intro y
        rcases hpd _ _ y with x | x
        · exact x
        · exact absurd ⟨x.1, x.2.symm⟩ e
      by_cases e2 : k = p ∧ b = false
      · rcases h1st e2.1 e2.2 with y | y
        · exact Or.inl (first y)
        · exact absurd z y
      · have e11 : F2 11 (40 * f + k) = F 11 (40 * f + k) := by
          rcases h11 with y | y
          · exact y
          · exact absurd ⟨y.1, y.2.1⟩ e2
        rcases q5 z with y | ⟨t, u, y1, y2⟩
        · exact Or.inl (first y)
        · exact Or.inr ⟨t, u, oneA_up h e11 y1, twoA_up y1.2.1 h e12 y2⟩