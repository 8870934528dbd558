/-! alike either way -/
def ewT : Nat → List Hd → List Hd → Prop
  | 0, _, _ => False
  | k + 1, A, B => ∃ (h : Hd) (A1 A2 B1 B2 : List Hd), A = h :: (A1 ++ A2) ∧ B = h :: (B1 ++ B2) ∧ ((arH h = 0 ∧ (A1 = [] ∧ A2 = []) ∧ B1 = [] ∧ B2 = []) ∨ (arH h = 1 ∧ (A2 = [] ∧ B2 = []) ∧ (okT A1 1 ∧ okT B1 1) ∧ ewT k A1 B1)
    ∨ (arH h = 2 ∧ (okT A1 1 ∧ okT A2 1) ∧ (okT B1 1 ∧ okT B2 1) ∧ ((ewT k A1 B1 ∧ ewT k A2 B2) ∨ (h.1 = 3 ∧ ewT k A1 B2 ∧ ewT k A2 B1))))
theorem ewT_up : ∀ {k : Nat} {A B : List Hd}, ewT k A B → ewT (k + 1) A B := by
  intro k
  induction k with
  | zero => intro A B h; exact (show False from h).elim
  | succ k ih =>
    rintro A B ⟨h, A1, A2, B1, B2, e1, e2, q⟩
    refine ⟨h, A1, A2, B1, B2, e1, e2, ?_⟩
    rcases q with q | ⟨a, z, o, q⟩ | ⟨a, o, o2, ⟨q1, q2⟩ | ⟨k3, q1, q2⟩⟩
    · exact Or.inl q
    · exact Or.inr (Or.inl ⟨a, z, o, ih q⟩)
    · exact Or.inr (Or.inr ⟨a, o, o2, Or.inl ⟨ih q1, ih q2⟩⟩)
    · exact Or.inr (Or.inr ⟨a, o, o2, Or.inr ⟨k3, ih q1, ih q2⟩⟩)
theorem ewT_le {k j : Nat} (hj : k ≤ j) {A B : List Hd} (h : ewT k A B) : ewT j A B := by
  obtain ⟨d, rfl⟩ : ∃ d, j = k + d := ⟨j - k, by omega⟩
  clear hj
  induction d with
  | zero => exact h
  | succ d ih => exact ewT_up ih
theorem ewT_sy : ∀ {k : Nat} {A B : List Hd}, ewT k A B → ewT k B A := by
  intro k
  induction k with
  | zero => intro A B h; exact (show False from h).elim
  | succ k ih =>
    rintro A B ⟨h, A1, A2, B1, B2, e1, e2, q⟩
    refine ⟨h, B1, B2, A1, A2, e2, e1, ?_⟩
    rcases q with ⟨a, z, y⟩ | ⟨a, ⟨z1, z2⟩, ⟨o1, o2⟩, q⟩ | ⟨a, o, o2, ⟨q1, q2⟩ | ⟨k3, q1, q2⟩⟩
    · exact Or.inl ⟨a, y, z⟩
    · exact Or.inr (Or.inl ⟨a, ⟨z2, z1⟩, ⟨o2, o1⟩, ih q⟩)
    · exact Or.inr (Or.inr ⟨a, o2, o, Or.inl ⟨ih q1, ih q2⟩⟩)
    · exact Or.inr (Or.inr ⟨a, o2, o, Or.inr ⟨k3, ih q2, ih q1⟩⟩)
theorem ewT_rf : ∀ {k : Nat} {A : List Hd}, okT A 1 → A.length ≤ k → ewT k A A := by
  intro k
  induction k with
  | zero =>
    intro A hA hl
    obtain ⟨h, B, e⟩ := okT_ne hA
    rw [e, List.length_cons] at hl
    omega
  | succ k ih =>
    intro A hA hl
    obtain ⟨h, B, e⟩ := okT_ne hA
    subst e
    have hB := okT_1 hA
    rw [List.length_cons] at hl
    have ha := arH_le (h := h)
    by_cases a0 : arH h = 0
    · rw [a0] at hB
      have eB : B = [] := by
        cases B with
        | nil => rfl
        | cons x B => exact (show False from hB).elim
      subst eB
      exact ⟨h, [], [], [], [], rfl, rfl, Or.inl ⟨a0, ⟨rfl, rfl⟩, rfl, rfl⟩⟩
    · by_cases a1 : arH h = 1
      · rw [a1] at hB
        exact ⟨h, B, [], B, [], by rw [List.append_nil], by rw [List.append_nil], Or.inr (Or.inl ⟨a1, ⟨rfl, rfl⟩, ⟨hB, hB⟩, ih hB (by omega)⟩)⟩
      · have a2 : arH h = 2 := by omega
        rw [a2] at hB
        obtain ⟨B1, B2, e, o1, o2⟩ := okT_spl (n := 1) (m := 1) hB
        subst e
        rw [List.length_append] at hl
        exact ⟨h, B1, B2, B1, B2, rfl, rfl, Or.inr (Or.inr ⟨a2, ⟨o1, o2⟩, ⟨o1, o2⟩, Or.inl ⟨ih o1 (by omega), ih o2 (by omega)⟩⟩)⟩
theorem ewT_tr : ∀ {k : Nat} {A B C : List Hd}, ewT k A B → ewT k B C → ewT k A C := by
  intro k
  induction k with
  | zero => intro A B C h _; exact (show False from h).elim
  | succ k ih =>
    rintro A B C ⟨h, A1, A2, B1, B2, e1, e2, q⟩ ⟨g, D1, D2, C1, C2, e3, e4, r⟩
    rw [e2] at e3
    injection e3 with eh eB
    subst eh
    refine ⟨h, A1, A2, C1, C2, e1, e4, ?_⟩
    rcases q with ⟨a, z, y⟩ | ⟨a, ⟨z1, z2⟩, ⟨o1, o2⟩, q⟩ | ⟨a, o, o2, q⟩
    · rcases r with ⟨b, z2, y2⟩ | ⟨b, _⟩ | ⟨b, _⟩
      · exact Or.inl ⟨a, z, y2⟩
      · omega
      · omega
    · rcases r with ⟨b, _⟩ | ⟨b, ⟨y1, y2⟩, ⟨p1, p2⟩, r⟩ | ⟨b, _⟩
      · omega
      · rw [z2, y1, List.append_nil, List.append_nil] at eB
        rw [← eB] at r
        exact Or.inr (Or.inl ⟨a, ⟨z1, y2⟩, ⟨o1, p2⟩, ih q r⟩)
      · omega
    · rcases r with ⟨b, _⟩ | ⟨b, _⟩ | ⟨b, p, p2, r⟩
      · omega
      · omega
      · obtain ⟨E1, E2⟩ := okT_inj o2.1 p.1 eB
        subst E1 E2
        refine Or.inr (Or.inr ⟨a, o, p2, ?_⟩)
        rcases q with ⟨q1, q2⟩ | ⟨k3, q1, q2⟩
        · rcases r with ⟨r1, r2⟩ | ⟨k4, r1, r2⟩
          · exact Or.inl ⟨ih q1 r1, ih q2 r2⟩
          · exact Or.inr ⟨k4, ih q1 r1, ih q2 r2⟩
        · rcases r with ⟨r1, r2⟩ | ⟨k4, r1, r2⟩
          · exact Or.inr ⟨k3, ih q1 r2, ih q2 r1⟩
          · exact Or.inl ⟨ih q1 r2, ih q2 r1⟩
/-- two graphs' DEEDS and their lists -/
theorem ew_T {H H2 : Nat → Hd} {fi se fi2 se2 : Nat → Nat} {m n : Nat} (hg : gO H fi se m) (hg2 : gO H2 fi2 se2 n) : ∀ k x y, x < m → m ≤ x + k → y < n → n ≤ y + k → (ewG true H fi se H2 fi2 se2 k x y ↔ ewT k (trG H fi se k x) (trG H2 fi2 se2 k y)) := by
  intro k
  induction k with
  | zero => intro x y h1 h2 h3 h4; omega
  | succ k ih =>
    intro x y h1 h2 h3 h4
    have hl := arH_le (h := H x)
    by_cases hh : H x = H2 y
    · obtain ⟨a1, a2⟩ := hg x h1
      obtain ⟨b1, b2⟩ := hg2 y h3
      rw [← hh] at b1 b2
      by_cases c2 : arH (H x) = 2
      · have A := a1 (by omega)
        have A2 := a2 c2
        have C := b1 (by omega)
        have C2 := b2 c2
        have oA := trG_ok hg k (fi x) (by omega) (by omega)
        have oA2 := trG_ok hg k (se x) (by omega) (by omega)
        have oC := trG_ok hg2 k (fi2 y) (by omega) (by omega)
        have oC2 := trG_ok hg2 k (se2 y) (by omega) (by omega)
        rw [ew_a2 hh c2, tr_2 c2, tr_2 (show arH (H2 y) = 2 by rw [← hh]; exact c2), ih _ _ (by omega) (by omega) (by omega) (by omega), ih _ _ (by omega) (by omega) (by omega) (by omega), ih _ _ (by omega) (by omega) (by omega) (by omega), ih _ _ (by omega) (by omega) (by omega) (by omega), ← hh]
        constructor
        · intro z
          refine ⟨H x, _, _, _, _, rfl, rfl, Or.inr (Or.inr ⟨c2, ⟨oA, oA2⟩, ⟨oC, oC2⟩, ?_⟩)⟩
          rcases z with z | ⟨_, z⟩
          · exact Or.inl z
          · exact Or.inr z
        · rintro ⟨h, X1, X2, Y1, Y2, e1, e2, q⟩
          injection e1 with e0 e1
          injection e2 with e9 e2
          subst e0
          rcases q with ⟨b, _⟩ | ⟨b, _⟩ | ⟨b, p, p2, q⟩
          · omega
          · omega
          · obtain ⟨E1, E2⟩ := okT_inj oA p.1 e1
            obtain ⟨E3, E4⟩ := okT_inj oC p2.1 e2
            rw [E1, E2, E3, E4]
            rcases q with q | ⟨q1, q2, q3⟩
            · exact Or.inl q
            · exact Or.inr ⟨rfl, q1, q2, q3⟩
      · by_cases c1 : arH (H x) = 1
        · have A := a1 (by omega)
          have C := b1 (by omega)
          have oA := trG_ok hg k (fi x) (by omega) (by omega)
          have oC := trG_ok hg2 k (fi2 y) (by omega) (by omega)
          rw [ew_a1 hh c1, tr_1 c1, tr_1 (show arH (H2 y) = 1 by rw [← hh]; exact c1), ih _ _ (by omega) (by omega) (by omega) (by omega), ← hh]
          constructor
          · intro z
            exact ⟨H x, _, [], _, [], by rw [List.append_nil], by rw [List.append_nil], Or.inr (Or.inl ⟨c1, ⟨rfl, rfl⟩, ⟨oA, oC⟩, z⟩)⟩
          · rintro ⟨h, X1, X2, Y1, Y2, e1, e2, q⟩
            injection e1 with e0 e1
            injection e2 with e9 e2
            subst e0
            rcases q with ⟨b, _⟩ | ⟨b, ⟨z1, z2⟩, p, q⟩ | ⟨b, _⟩
            · omega
            · rw [z1, List.append_nil] at e1
              rw [z2, List.append_nil] at e2
              rw [e1, e2]
              exact q
            · omega
        · rw [tr_0 (show arH (H x) = 0 by omega), tr_0 (show arH (H2 y) = 0 by rw [← hh]; omega), ← hh]
          exact ⟨fun _ => ⟨H x, [], [], [], [], rfl, rfl, Or.inl ⟨by omega, ⟨rfl, rfl⟩, rfl, rfl⟩⟩, fun _ => ew_a0 hh (by omega)⟩
    · constructor
      · intro z; exact absurd z.1 hh
      · rintro ⟨h, X1, X2, Y1, Y2, e1, e2, q⟩
        rw [trG_at] at e1 e2
        injection e1 with z1 _
        injection e2 with z2 _
        exact absurd (z1.trans z2.symm) hh
