/-! the reader's stack -/
def asB (F : Nat → Nat → Int32) (i : Nat) : Bool := decide ((F 26 i).toInt = 2)
/-- what the WORDS that stand open still owe: WORD k's first DEED (false), its second (true); q: the top one owes the DEED that comes next -/
def pdR (F : Nat → Nat → Int32) (f O : Nat) (q : Bool) (k : Nat) (b : Bool) : Prop :=
  (b = true ∧ ∃ i, i < O ∧ (F 25 i).toInt = 40 * f + k ∧ (F 26 i).toInt = 1) ∨ (q = true ∧ ∃ i, O = i + 1 ∧ (F 25 i).toInt = 40 * f + k ∧ asB F i = b)
def skOK (F : Nat → Nat → Int32) (f W O : Nat) (q : Bool) (i : Nat) : Prop := ∃ p : Nat, p < W ∧ (F 25 i).toInt = 40 * f + p ∧ 2 ≤ (F 7 (40 * f + p)).toInt ∧ inn F f p W ∧ arF F f p = i
  ∧ (0 ≤ (F 26 i).toInt ∧ (F 26 i).toInt ≤ 2) ∧ ((F 26 i).toInt = 0 → ¬ prK F f p) ∧ (1 ≤ (F 26 i).toInt → prK F f p)
  ∧ ((F 26 i).toInt = 2 → ∃ t, oneA F f W p t)
  ∧ (i + 1 < O ∨ q = false → (∃ t, oneA F f W p t) ∧ ((F 26 i).toInt = 2 → ∃ t u, oneA F f W p t ∧ twoA F f W p t u))
def RDp (F : Nat → Nat → Int32) (f W O : Nat) (q : Bool) : Prop := (∀ k, k < W → wP F (pdR F f O q) f W k) ∧ (∀ i, i < O → skOK F f W O q i) ∧ (q = true → O = 0 → W = 0)
def RDb (Fs F : Nat → Nat → Int32) (f W O : Nat) : Prop := (F 6 f).toInt = (W : Int) + 1 ∧ (∀ g, g < f → agF Fs F g) ∧ (∀ r, r ∈ [7, 9, 10, 13, 14, 15] → ∀ k, k < W → F r (40 * f + k) = Fs r (40 * f + k))
  ∧ (∀ i p : Nat, O = i + 1 → p < W → (Fs 25 i).toInt = 40 * f + p →
      (∀ k, k < W → if k = p ∧ asB Fs i = false then (F 11 (40 * f + k)).toInt = 40 * f + W else F 11 (40 * f + k) = Fs 11 (40 * f + k))
      ∧ (∀ k, k < W → if k = p ∧ asB Fs i = true then (F 12 (40 * f + k)).toInt = 40 * f + W else F 12 (40 * f + k) = Fs 12 (40 * f + k))
      ∧ (F 10 (40 * f + W)).toInt = 40 * f + p)
  ∧ (O = 0 → (F 10 (40 * f + W)).toInt = -1) ∧ arF F f W = O ∧ O ≤ 11
theorem RD_core {Fs F : Nat → Nat → Int32} {f W O O2 : Nat} {q2 : Bool} {pd2 : Nat → Bool → Prop} (q : RDp Fs f W O true) (b : RDb Fs F f W O) (h25 : ∀ r, r ∈ [25, 26] → ∀ i, i < O → F r i = Fs r i) (pdm : ∀ k c, pdR F f O false k c → pd2 k c) :
    (∀ k, k < W → wP F pd2 f (W + 1) k) ∧ (∀ i, i < O → skOK F f (W + 1) O2 q2 i) ∧ (((F 10 (40 * f + W)).toInt = -1 ∧ W = 0 ∧ arF F f W = 0) ∨ ∃ p : Nat, p < W ∧ (F 10 (40 * f + W)).toInt = 40 * f + p ∧ arF F f W = arF F f p + 1) := by
  obtain ⟨q1, q3, q4⟩ := q
  obtain ⟨b1, b2, b3, b4, b5, b6, b7⟩ := b
  rcases O with _ | i0
  · have e := q4 rfl rfl
    subst e
    exact ⟨fun k hk => by omega, fun i hi => by omega, Or.inl ⟨b5 rfl, rfl, b6⟩⟩
  · obtain ⟨p, c1, c2, c3, c4, c5, c6, c7, c8, c9, c10⟩ := q3 i0 (by omega)
    obtain ⟨o1, o2, o3⟩ := b4 i0 p rfl c1 c2
    have h : ∀ j, j < W → arF F f j = arF Fs f j := fun j hj => by unfold arF; rw [b3 9 (by decide) j hj]
    have hp := h p c1
    have hw : arF F f W = arF F f p + 1 := by omega
    have hin2 : inn F f p (W + 1) := inn_one (inn_up h c1 c4) (by omega)
    have h26 : F 26 i0 = Fs 26 i0 := h25 26 (by decide) i0 (by omega)
    have one0 : asB Fs i0 = false → oneA F f (W + 1) p W := by
      intro y
      have z := o1 p c1
      rw [if_pos ⟨rfl, y⟩] at z
      exact ⟨z, c1, by omega, hw, hin2⟩
    refine ⟨fun k hk => ?_, fun i hi => ?_, Or.inr ⟨p, c1, o3, hw⟩⟩
    · refine wP_up (p := p) (b := asB Fs i0) hk h c1 hw c4 (fun r hr => b3 r (by simp only [List.mem_cons, List.not_mem_nil, or_false] at hr ⊢; omega) k hk) ?_ ?_ ?_ ?_ ?_ ?_ ?_ ?_ (q1 k hk)
      · have z := o1 k hk
        split at z
        · rename_i y; exact Or.inr ⟨y.1, y.2, z⟩
        · exact Or.inl z
      · have z := o2 k hk
        split at z
        · rename_i y; exact Or.inr ⟨y.1, y.2, z⟩
        · exact Or.inl z
      · intro y1 y2
        have z := o1 k hk
        rw [if_pos ⟨y1, y2⟩] at z; exact z
      · intro y1 y2
        have z := o2 k hk
        rw [if_pos ⟨y1, y2⟩] at z; exact z
      · intro y
        have z := o1 k hk
        rw [if_neg (fun x => by rw [y] at x; exact absurd x.2 (by decide))] at z; exact z
      · intro y
        exact c9 (by unfold asB at y; exact of_decide_eq_true y)
      · intro y1 y2
        subst y1
        have z : (Fs 26 i0).toInt ≠ 2 := by unfold asB at y2; exact of_decide_eq_false y2
        by_cases e : (Fs 26 i0).toInt = 0
        · exact Or.inr (c7 e)
        · exact Or.inl (Or.inl ⟨rfl, i0, by omega, c2, by omega⟩)
      · intro k' c y
        rcases y with ⟨y1, i, y2, y3, y4⟩ | ⟨_, i, y2, y3, y4⟩
        · exact Or.inl (pdm k' c (Or.inl ⟨y1, i, y2, by rw [h25 25 (by decide) i y2]; exact y3, by rw [h25 26 (by decide) i y2]; exact y4⟩))
        · have e : i = i0 := by omega
          subst e
          exact Or.inr ⟨by omega, y4.symm⟩
    · obtain ⟨r, d1, d2, d3, d4, d5, d6, d7, d8, d9, d10⟩ := q3 i hi
      have e25 := h25 25 (by decide) i hi
      have e26 := h25 26 (by decide) i hi
      have e7 := b3 7 (by decide) r d1
      have hr := h r d1
      have hinr : inn F f r (W + 1) := inn_one (inn_up h d1 d4) (by omega)
      by_cases ei : i = i0
      · subst ei
        have er : r = p := by omega
        subst er
        have hall : (∃ t, oneA F f (W + 1) r t) ∧ ((F 26 i).toInt = 2 → ∃ t u, oneA F f (W + 1) r t ∧ twoA F f (W + 1) r t u) := by
          by_cases y : asB Fs i = true
          · obtain ⟨t, ht⟩ := d9 (by unfold asB at y; exact of_decide_eq_true y)
            have z := o1 r d1
            rw [if_neg (fun x => by rw [y] at x; exact absurd x.2 (by decide))] at z
            have z2 := o2 r d1
            rw [if_pos ⟨rfl, y⟩] at z2
            have ho := oneA_up h z ht
            refine ⟨⟨t, ho⟩, fun _ => ⟨t, W, ho, z2, ht.2.2.1, by omega, ?_, hin2⟩⟩
            have := ho.2.2.2.1
            omega
          · have y' : asB Fs i = false := by revert y; cases asB Fs i <;> simp
            refine ⟨⟨W, one0 y'⟩, fun x => ?_⟩
            rw [e26] at x
            unfold asB at y
            exact absurd (decide_eq_true x) y
        exact ⟨r, by omega, by rw [e25]; exact d2, by rw [e7]; exact d3, hinr, by omega, by rw [e26]; exact d6, by unfold prK at *; rw [e26, e7]; exact d7, by unfold prK at *; rw [e26, e7]; exact d8, fun _ => hall.1, fun _ => hall⟩
      · have er : r ≠ p := by
          intro e
          rw [e] at d5
          omega
        have z := o1 r d1
        rw [if_neg (fun x => er x.1)] at z
        have z2 := o2 r d1
        rw [if_neg (fun x => er x.1)] at z2
        obtain ⟨⟨t, ht⟩, d11⟩ := d10 (Or.inl (by omega))
        have hall : (∃ t, oneA F f (W + 1) r t) ∧ ((F 26 i).toInt = 2 → ∃ t u, oneA F f (W + 1) r t ∧ twoA F f (W + 1) r t u) := by
          refine ⟨⟨t, oneA_up h z ht⟩, fun x => ?_⟩
          rw [e26] at x
          obtain ⟨t1, u1, x1, x2⟩ := d11 x
          exact ⟨t1, u1, oneA_up h z x1, twoA_up x1.2.1 h z2 x2⟩
        exact ⟨r, by omega, by rw [e25]; exact d2, by rw [e7]; exact d3, hinr, by omega, by rw [e26]; exact d6, by unfold prK at *; rw [e26, e7]; exact d7, by unfold prK at *; rw [e26, e7]; exact d8, fun _ => hall.1, fun _ => hall⟩
theorem RD_leaf {Fs F : Nat → Nat → Int32} {f W O : Nat} (q : RDp Fs f W O true) (b : RDb Fs F f W O) (h25 : ∀ r, r ∈ [25, 26] → ∀ i, i < O → F r i = Fs r i)
    (e7 : 0 ≤ (F 7 (40 * f + W)).toInt ∧ (F 7 (40 * f + W)).toInt ≤ 1) (ev : (F 13 (40 * f + W)).toInt ≤ (F 14 (40 * f + W)).toInt ∧ (F 14 (40 * f + W)).toInt ≤ (F 15 (40 * f + W)).toInt) : RDp F f (W + 1) O false := by
  obtain ⟨k1, k2, k3⟩ := RD_core (O2 := O) (q2 := false) (pd2 := pdR F f O false) q b h25 (fun _ _ y => y)
  have b6 := b.2.2.2.2.2
  refine ⟨fun k hk => ?_, k2, fun y => absurd y (by decide)⟩
  rcases Nat.lt_or_ge k W with z | z
  · exact k1 k z
  · have e : k = W := by omega
    subst e
    exact ⟨by omega, by omega, k3, fun y => by omega, fun y => by omega, ev⟩
theorem RD_push {Fs F : Nat → Nat → Int32} {f W O : Nat} (q : RDp Fs f W O true) (b : RDb Fs F f W O) (h25 : ∀ r, r ∈ [25, 26] → ∀ i, i < O → F r i = Fs r i)
    (e7 : 2 ≤ (F 7 (40 * f + W)).toInt ∧ (F 7 (40 * f + W)).toInt ≤ 10) (ev : (F 13 (40 * f + W)).toInt ≤ (F 14 (40 * f + W)).toInt ∧ (F 14 (40 * f + W)).toInt ≤ (F 15 (40 * f + W)).toInt)
    (p25 : (F 25 O).toInt = 40 * f + W) (p26 : (prK F f W ∧ (F 26 O).toInt = 1) ∨ (¬ prK F f W ∧ (F 26 O).toInt = 0)) : RDp F f (W + 1) (O + 1) true := by
  obtain ⟨k1, k2, k3⟩ := RD_core (O2 := O + 1) (q2 := true) (pd2 := pdR F f (O + 1) true) q b h25 (fun k c y => by
    rcases y with ⟨y1, i, y2, y3, y4⟩ | ⟨y1, _⟩
    · exact Or.inl ⟨y1, i, by omega, y3, y4⟩
    · exact absurd y1 (by decide))
  have b6 := b.2.2.2.2.2
  refine ⟨fun k hk => ?_, fun i hi => ?_, fun _ y => by omega⟩
  · rcases Nat.lt_or_ge k W with z | z
    · exact k1 k z
    · have e : k = W := by omega
      subst e
      refine ⟨by omega, by omega, k3, fun _ => Or.inl (Or.inr ⟨rfl, O, rfl, p25, ?_⟩), fun y => Or.inl ?_, ev⟩
      · unfold asB
        rcases p26 with x | x <;> exact decide_eq_false (by omega)
      · rcases p26 with x | x
        · exact Or.inl ⟨rfl, O, by omega, p25, x.2⟩
        · exact absurd y x.1
  · rcases Nat.lt_or_ge i O with z | z
    · exact k2 i z
    · have e : i = O := by omega
      subst e
      refine ⟨W, by omega, p25, e7.1, fun j h1 h2 => by omega, b6.1, ?_, ?_, ?_, ?_, ?_⟩
      · rcases p26 with x | x <;> omega
      · intro y
        rcases p26 with x | x
        · omega
        · exact x.1
      · intro y
        rcases p26 with x | x
        · exact x.1
        · omega
      · intro y
        rcases p26 with x | x <;> omega
      · intro y
        rcases y with y | y
        · omega
        · exact absurd y (by decide)
theorem oneA_cg {F F2 : Nat → Nat → Int32} (h : ∀ r, r ∈ [7, 9, 10, 11, 12, 13, 14, 15] → F2 r = F r) {f W k t : Nat} (q : oneA F f W k t) : oneA F2 f W k t := by
  unfold oneA inn at *; rw [h 11 (by decide), arF_cg (h 9 (by decide))]; exact q
theorem twoA_cg {F F2 : Nat → Nat → Int32} (h : ∀ r, r ∈ [7, 9, 10, 11, 12, 13, 14, 15] → F2 r = F r) {f W k t u : Nat} (q : twoA F f W k t u) : twoA F2 f W k t u := by
  unfold twoA inn at *; rw [h 12 (by decide), arF_cg (h 9 (by decide))]; exact q
theorem wP_cg {F F2 : Nat → Nat → Int32} (h : ∀ r, r ∈ [7, 9, 10, 11, 12, 13, 14, 15] → F2 r = F r) {pd pd2 : Nat → Bool → Prop} (hpd : ∀ k c, pd k c → pd2 k c) {f W k : Nat} (q : wP F pd f W k) : wP F2 pd2 f W k := by
  obtain ⟨q1, q2, q3, q4, q5, q6⟩ := q
  unfold wP
  rw [arF_cg (h 9 (by decide)), h 7 (by decide), h 10 (by decide), h 13 (by decide), h 14 (by decide), h 15 (by decide)]
  refine ⟨q1, q2, q3, fun z => ?_, fun z => ?_, q6⟩
  · rcases q4 z with y | ⟨t, y⟩
    · exact Or.inl (hpd _ _ y)
    · exact Or.inr ⟨t, oneA_cg h y⟩
  · rcases q5 z with y | ⟨t, u, y1, y2⟩
    · exact Or.inl (hpd _ _ y)
    · exact Or.inr ⟨t, u, oneA_cg h y1, twoA_cg h y2⟩
/-- a pair's first DEED is through: its second is owed -/
theorem RD_next {F F2 : Nat → Nat → Int32} {f W i0 : Nat} (h : ∀ r, r ∈ [7, 9, 10, 11, 12, 13, 14, 15] → F2 r = F r) (h25 : F2 25 = F 25) (h26 : ∀ i, i ≠ i0 → F2 26 i = F 26 i) (e1 : (F 26 i0).toInt = 1) (e2 : (F2 26 i0).toInt = 2) (q : RDp F f W (i0 + 1) false) : RDp F2 f W (i0 + 1) true := by
  obtain ⟨q1, q3, q4⟩ := q
  refine ⟨fun k hk => wP_cg h (fun k c y => ?_) (q1 k hk), fun i hi => ?_, fun _ y => by omega⟩
  · rcases y with ⟨y1, i, y2, y3, y4⟩ | ⟨y1, _⟩
    · by_cases e : i = i0
      · subst e
        exact Or.inr ⟨rfl, i, rfl, by rw [h25]; exact y3, by unfold asB; rw [y1]; exact decide_eq_true e2⟩
      · exact Or.inl ⟨y1, i, y2, by rw [h25]; exact y3, by rw [h26 i e]; exact y4⟩
    · exact absurd y1 (by decide)
  · obtain ⟨p, c1, c2, c3, c4, c5, c6, c7, c8, c9, c10⟩ := q3 i hi
    obtain ⟨⟨t, ht⟩, c11⟩ := c10 (Or.inr rfl)
    refine ⟨p, c1, by rw [h25]; exact c2, by rw [h 7 (by decide)]; exact c3, by unfold inn at *; rw [arF_cg (h 9 (by decide))]; exact c4, by rw [arF_cg (h 9 (by decide))]; exact c5, ?_, ?_, ?_, fun _ => ⟨t, oneA_cg h ht⟩, ?_⟩
    · by_cases e : i = i0
      · rw [e]; omega
      · rw [h26 i e]; exact c6
    · by_cases e : i = i0
      · rw [e]; intro y; omega
      · rw [h26 i e]; unfold prK at *; rw [h 7 (by decide)]; exact c7
    · by_cases e : i = i0
      · intro _; unfold prK at *; rw [h 7 (by decide)]; exact c8 (by rw [e]; omega)
      · rw [h26 i e]; unfold prK at *; rw [h 7 (by decide)]; exact c8
    · intro y
      by_cases e : i = i0
      · rcases y with y | y
        · omega
        · exact absurd y (by decide)
      · refine ⟨⟨t, oneA_cg h ht⟩, fun x => ?_⟩
        rw [h26 i e] at x
        obtain ⟨t1, u1, x1, x2⟩ := c11 x
        exact ⟨t1, u1, oneA_cg h x1, twoA_cg h x2⟩
theorem RD_pop {F : Nat → Nat → Int32} {f W i0 : Nat} (e1 : (F 26 i0).toInt ≠ 1) (q : RDp F f W (i0 + 1) false) : RDp F f W i0 false := by
  obtain ⟨q1, q3, q4⟩ := q
  refine ⟨fun k hk => wP_cg (fun _ _ => rfl) (fun k c y => ?_) (q1 k hk), fun i hi => ?_, fun y => absurd y (by decide)⟩
  · rcases y with ⟨y1, i, y2, y3, y4⟩ | ⟨y1, _⟩
    · have e : i ≠ i0 := by
        intro e
        rw [e] at y4
        exact e1 y4
      exact Or.inl ⟨y1, i, by omega, y3, y4⟩
    · exact absurd y1 (by decide)
  · obtain ⟨p, c1, c2, c3, c4, c5, c6, c7, c8, c9, c10⟩ := q3 i (by omega)
    exact ⟨p, c1, c2, c3, c4, c5, c6, c7, c8, c9, fun _ => c10 (Or.inr rfl)⟩
theorem RD_n25 {F F2 : Nat → Nat → Int32} {f W O : Nat} {b : Bool} (h : ∀ r, r ∈ [7, 9, 10, 11, 12, 13, 14, 15, 25, 26] → F2 r = F r) (q : RDp F f W O b) : RDp F2 f W O b := by
  have h8 : ∀ r, r ∈ [7, 9, 10, 11, 12, 13, 14, 15] → F2 r = F r := fun r hr => h r (by simp only [List.mem_cons, List.not_mem_nil, or_false] at hr ⊢; omega)
  obtain ⟨q1, q3, q4⟩ := q
  refine ⟨fun k hk => wP_cg h8 (fun k c y => ?_) (q1 k hk), fun i hi => ?_, q4⟩
  · unfold pdR asB at *; rw [h 25 (by decide), h 26 (by decide)]; exact y
  · obtain ⟨p, c1, c2, c3, c4, c5, c6, c7, c8, c9, c10⟩ := q3 i hi
    unfold skOK prK inn at *
    rw [h 25 (by decide), h 26 (by decide), h 7 (by decide), arF_cg (h 9 (by decide))]
    refine ⟨p, c1, c2, c3, c4, c5, c6, c7, c8, fun y => ?_, fun y => ?_⟩
    · obtain ⟨t, ht⟩ := c9 y
      exact ⟨t, oneA_cg h8 ht⟩
    · obtain ⟨⟨t, ht⟩, c11⟩ := c10 y
      refine ⟨⟨t, oneA_cg h8 ht⟩, fun x => ?_⟩
      obtain ⟨t1, u1, x1, x2⟩ := c11 x
      exact ⟨t1, u1, oneA_cg h8 x1, twoA_cg h8 x2⟩
theorem RD_O {F : Nat → Nat → Int32} {f W O : Nat} {b : Bool} (q : RDp F f W O b) : O ≤ 12 := by
  rcases O with _ | i
  · omega
  · obtain ⟨p, c1, c2, c3, c4, c5, _⟩ := q.2.1 i (by omega)
    have := (q.1 p c1).2.1.2
    omega
theorem RD_fin {F : Nat → Nat → Int32} {f W : Nat} (hW : 1 ≤ W ∧ W ≤ 40) (e6 : (F 6 f).toInt = W) (hv : vsF F f 0 W ≤ 40) (q : RDp F f W 0 false) : fOK F f := by
  have et : (F 6 f).toInt.toNat = W := by omega
  refine ⟨by omega, fun k hk => ?_, by rw [et]; exact hv⟩
  rw [et] at hk ⊢
  exact wP_done (fun k b y => by
    rcases y with ⟨_, i, y, _⟩ | ⟨y, _⟩
    · omega
    · exact absurd y (by decide)) (q.1 k hk)
def RDJ (F0 : Nat → Nat → Int32) (n : Nat → Int32) (F : Nat → Nat → Int32) (f W O : Nat) (b : Bool) : Prop := ((F 6 f).toInt = (W : Int) ∧ W ≤ 40) ∧ (n 24).toInt = (O : Int) ∧ RDp F f W O b ∧ ((vsF F f 0 W : Int) ≤ (F 17 f).toInt ∧ (F 17 f).toInt ≤ 40) ∧ rAll F ∧ ∀ g, g < f → agF F0 F g
theorem RD_vs {Fs F : Nat → Nat → Int32} {f W O : Nat} (b : RDb Fs F f W O) : vsF F f 0 (W + 1) = vsF Fs f 0 W + owK F f W := by
  rw [vsF_one, vsF_old (F := Fs) (F2 := F) W 0 (fun r hr k hk => b.2.2.1 r (by simp only [List.mem_cons, List.not_mem_nil, or_false] at hr ⊢; omega) k (by omega))]
theorem RDb_keep {Fs F F2 : Nat → Nat → Int32} {f W O : Nat} (b : RDb Fs F f W O) (same : ∀ r, r ∈ [6, 7, 9, 10, 11, 12] → F2 r = F r) (off : ∀ r, r ∈ [13, 14, 15] → ∀ i, i ≠ 40 * f + W → F2 r i = F r i) : RDb Fs F2 f W O := by
  obtain ⟨b1, b2, b3, b4, b5, b6, b7⟩ := b
  refine ⟨by rw [same 6 (by decide)]; exact b1, fun g hg => agF_tr (b2 g hg) ⟨by rw [same 6 (by decide)], fun r hr k hk => ?_⟩, fun r hr k hk => ?_, ?_, by rw [same 10 (by decide)]; exact b5, by unfold arF; rw [same 9 (by decide)]; exact b6, b7⟩
  · have hne : 40 * g + k ≠ 40 * f + W := by omega
    simp only [List.mem_cons, List.not_mem_nil, or_false] at hr
    rcases hr with rfl | rfl | rfl | rfl | rfl | rfl | rfl | rfl <;> first | exact congrFun (same _ (by decide)) _ | exact off _ (by decide) _ hne
  · refine Eq.trans ?_ (b3 r hr k hk)
    have hne : 40 * f + k ≠ 40 * f + W := by omega
    simp only [List.mem_cons, List.not_mem_nil, or_false] at hr
    rcases hr with rfl | rfl | rfl | rfl | rfl | rfl <;> first | exact congrFun (same _ (by decide)) _ | exact off _ (by decide) _ hne
  · rw [same 11 (by decide), same 12 (by decide), same 10 (by decide)]; exact b4
theorem RI_old {n n2 : Nat → Int32} {F F2 : Nat → Nat → Int32} {c : Nat} (hR : RI n F) (hc : (n 5).toInt = c) (hag : ∀ f : Nat, f < c → agF F F2 f) (hA : rAll F2) (h4 : 0 ≤ (n2 4).toInt ∧ (n2 4).toInt ≤ 400) (hn : ∀ k, k ∈ [0, 5, 30, 38, 47, 53, 88] → n2 k = n k) (hF : ∀ k, k ∈ [32, 33, 35, 36, 39] → F2 k = F k) : RI n2 F2 := by
  obtain ⟨a0, a4, a5, b1, b2, a30, b3, a38, b4, a53, a47, a88⟩ := hR
  have ag : ∀ f : Nat, (f : Int) < (n 5).toInt → agF F F2 f := fun f hf => hag f (by omega)
  refine ⟨by rw [hn 0 (by decide)]; exact a0, h4, by rw [hn 5 (by decide)]; exact a5, hA, by rw [hn 5 (by decide)]; exact rW_ag ag b2, by rw [hn 30 (by decide)]; exact a30, ?_, by rw [hn 38 (by decide)]; exact a38, ?_, by rw [hn 53 (by decide)]; exact a53, by rw [hn 47 (by decide)]; exact a47, by rw [hn 88 (by decide)]; exact a88⟩
  · rw [hn 30 (by decide), hn 5 (by decide)]
    exact rL_ag (Int.le_refl _) b2 ag (hF 32 (by decide)) (hF 33 (by decide)) (hF 35 (by decide)) (hF 36 (by decide)) b3
  · rw [hn 38 (by decide), hn 30 (by decide)]
    intro k hk
    rw [hF 39 (by decide)]; exact b4 k hk
theorem RI_n4 {n n2 : Nat → Int32} {F : Nat → Nat → Int32} (hR : RI n F) (h4 : 0 ≤ (n2 4).toInt ∧ (n2 4).toInt ≤ 400) (hn : ∀ k, k ∈ [0, 5, 30, 38, 47, 53, 88] → n2 k = n k) : RI n2 F := by
  obtain ⟨a0, a4, a5, b1, b2, a30, b3, a38, b4, a53, a47, a88⟩ := id hR
  exact RI_cg (fun _ _ => rfl) hR (hn 5 (by decide)) (hn 30 (by decide)) (hn 38 (by decide)) (by rw [hn 0 (by decide)]; exact a0) h4 (by rw [hn 53 (by decide)]; exact a53) (by rw [hn 47 (by decide)]; exact a47) (by rw [hn 88 (by decide)]; exact a88)