/-! same: the numbers of both sides' nodes -/
def ewI (A B : List Hd) : Prop := ∃ k, ewT k A B
theorem ewT_fu : ∀ {k j : Nat} {A B : List Hd}, A.length ≤ k → ewT j A B → ewT k A B := by
  intro k
  induction k with
  | zero =>
    intro j A B hl h
    cases j with
    | zero => exact (show False from h).elim
    | succ j =>
      obtain ⟨h1, A1, A2, B1, B2, e1, _⟩ := h
      rw [e1, List.length_cons] at hl
      omega
  | succ k ih =>
    intro j A B hl h
    cases j with
    | zero => exact (show False from h).elim
    | succ j =>
      obtain ⟨h1, A1, A2, B1, B2, e1, e2, q⟩ := h
      rw [e1, List.length_cons, List.length_append] at hl
      refine ⟨h1, A1, A2, B1, B2, e1, e2, ?_⟩
      rcases q with q | ⟨a, z, o, q⟩ | ⟨a, o, o2, ⟨q1, q2⟩ | ⟨k3, q1, q2⟩⟩
      · exact Or.inl q
      · exact Or.inr (Or.inl ⟨a, z, o, ih (by omega) q⟩)
      · exact Or.inr (Or.inr ⟨a, o, o2, Or.inl ⟨ih (by omega) q1, ih (by omega) q2⟩⟩)
      · exact Or.inr (Or.inr ⟨a, o, o2, Or.inr ⟨k3, ih (by omega) q1, ih (by omega) q2⟩⟩)
theorem ewI_sy {A B : List Hd} (h : ewI A B) : ewI B A := by
  obtain ⟨k, h⟩ := h
  exact ⟨k, ewT_sy h⟩
theorem ewI_rf {A : List Hd} (h : okT A 1) : ewI A A := ⟨A.length, ewT_rf h (Nat.le_refl _)⟩
theorem ewI_tr {A B C : List Hd} (h : ewI A B) (h2 : ewI B C) : ewI A C := by
  obtain ⟨k, h⟩ := h
  obtain ⟨j, h2⟩ := h2
  exact ⟨k + j, ewT_tr (ewT_le (by omega) h) (ewT_le (by omega) h2)⟩
theorem ewI_T {A B : List Hd} (hl : A.length ≤ 41) : ewI A B ↔ ewT 41 A B := ⟨fun ⟨_, h⟩ => ewT_fu hl h, fun h => ⟨41, h⟩⟩
theorem ewI_hd {h g : Hd} {A B : List Hd} (q : ewI (h :: A) (g :: B)) : h = g := by
  obtain ⟨k, q⟩ := q
  cases k with
  | zero => exact (show False from q).elim
  | succ k =>
    obtain ⟨h1, A1, A2, B1, B2, e1, e2, _⟩ := q
    injection e1 with z1 _
    injection e2 with z2 _
    exact z1.trans z2.symm
theorem ewI_0 {h : Hd} (a : arH h = 0) : ewI [h] [h] := ⟨1, h, [], [], [], [], rfl, rfl, Or.inl ⟨a, ⟨rfl, rfl⟩, rfl, rfl⟩⟩
theorem ewI_1 {h : Hd} {A B : List Hd} (a : arH h = 1) (hA : okT A 1) (hB : okT B 1) : ewI (h :: A) (h :: B) ↔ ewI A B := by
  constructor
  · rintro ⟨k, q⟩
    cases k with
    | zero => exact (show False from q).elim
    | succ k =>
      obtain ⟨h1, A1, A2, B1, B2, e1, e2, q⟩ := q
      injection e1 with z1 e1
      injection e2 with _ e2
      subst z1
      rcases q with ⟨b, _⟩ | ⟨_, ⟨y1, y2⟩, _, q⟩ | ⟨b, _⟩
      · omega
      · rw [y1, List.append_nil] at e1
        rw [y2, List.append_nil] at e2
        rw [e1, e2]
        exact ⟨k, q⟩
      · omega
  · rintro ⟨k, q⟩
    exact ⟨k + 1, h, A, [], B, [], by rw [List.append_nil], by rw [List.append_nil], Or.inr (Or.inl ⟨a, ⟨rfl, rfl⟩, ⟨hA, hB⟩, q⟩)⟩
theorem ewI_2 {h : Hd} {A A2 B B2 : List Hd} (a : arH h = 2) (hA : okT A 1) (hA2 : okT A2 1) (hB : okT B 1) (hB2 : okT B2 1) : ewI (h :: (A ++ A2)) (h :: (B ++ B2)) ↔ (ewI A B ∧ ewI A2 B2) ∨ (h.1 = 3 ∧ ewI A B2 ∧ ewI A2 B) := by
  constructor
  · rintro ⟨k, q⟩
    cases k with
    | zero => exact (show False from q).elim
    | succ k =>
      obtain ⟨h1, X1, X2, Y1, Y2, e1, e2, q⟩ := q
      injection e1 with z1 e1
      injection e2 with _ e2
      subst z1
      rcases q with ⟨b, _⟩ | ⟨b, _⟩ | ⟨_, o, o2, q⟩
      · omega
      · omega
      · obtain ⟨E1, E2⟩ := okT_inj hA o.1 e1
        obtain ⟨E3, E4⟩ := okT_inj hB o2.1 e2
        subst E1 E2 E3 E4
        rcases q with ⟨q1, q2⟩ | ⟨k3, q1, q2⟩
        · exact Or.inl ⟨⟨k, q1⟩, ⟨k, q2⟩⟩
        · exact Or.inr ⟨k3, ⟨k, q1⟩, ⟨k, q2⟩⟩
  · rintro (⟨⟨k, q1⟩, ⟨j, q2⟩⟩ | ⟨k3, ⟨k, q1⟩, ⟨j, q2⟩⟩)
    · exact ⟨k + j + 1, h, A, A2, B, B2, rfl, rfl, Or.inr (Or.inr ⟨a, ⟨hA, hA2⟩, ⟨hB, hB2⟩, Or.inl ⟨ewT_le (by omega) q1, ewT_le (by omega) q2⟩⟩)⟩
    · exact ⟨k + j + 1, h, A, A2, B, B2, rfl, rfl, Or.inr (Or.inr ⟨a, ⟨hA, hA2⟩, ⟨hB, hB2⟩, Or.inr ⟨k3, ewT_le (by omega) q1, ewT_le (by omega) q2⟩⟩)⟩
/-- a node of either side that has become itself; a node or nothing -/
def fS (F : Nat → Nat → Int32) (W0 W1 x : Nat) : Prop := fxN F x ∧ (x < W0 ∨ (41 ≤ x ∧ x < 41 + W1))
def nS (F : Nat → Nat → Int32) (W0 W1 x : Nat) : Prop := x = 40 ∨ x = 81 ∨ fS F W0 W1 x
def cS (F : Nat → Nat → Int32) (W0 W1 x y : Nat) : Prop := x < y ∧ nS F W0 W1 y ∧ (x < 41 → y < 41)
def SN (F : Nat → Nat → Int32) (fo go W0 W1 : Nat) (L : Nat → List Hd) (H : Nat → Hd) (fi se : Nat → Nat) : Prop :=
  (L 40 = [noH] ∧ L 81 = [noH]) ∧ (∀ x, nS F W0 W1 x → okT (L x) 1)
  ∧ ∀ x, fS F W0 W1 x → nD F (if x < 41 then fo else go) x (H x) ∧ (H x).1 ≠ 0 ∧ (arH (H x) = 0 → L x = [H x])
    ∧ (arH (H x) = 1 → (F 78 x).toInt = (fi x : Int) ∧ cS F W0 W1 x (fi x) ∧ L x = H x :: L (fi x))
    ∧ (arH (H x) = 2 → ((F 78 x).toInt = (fi x : Int) ∧ (F 79 x).toInt = (se x : Int)) ∧ (cS F W0 W1 x (fi x) ∧ cS F W0 W1 x (se x)) ∧ L x = H x :: (L (fi x) ++ L (se x)))
/-- nodes that have their numbers: of side sd from p on -/
def dZ (F : Nat → Nat → Int32) (W0 W1 : Nat) (sd : Int) (p x : Nat) : Prop := x = 40 ∨ x = 81 ∨ (fxN F x ∧ ((sd = 0 ∧ p ≤ x ∧ x < W0) ∨ (sd = 1 ∧ (x < W0 ∨ (41 + p ≤ x ∧ x < 41 + W1)))))
def NZ (F : Nat → Nat → Int32) (W0 W1 : Nat) (L : Nat → List Hd) (sd : Int) (p : Nat) : Prop := (∀ x y, dZ F W0 W1 sd p x → dZ F W0 W1 sd p y → ((F 81 x).toInt = (F 81 y).toInt ↔ ewI (L x) (L y))) ∧ ∀ x, dZ F W0 W1 sd p x → ∃ z, dZ F W0 W1 sd p z ∧ (F 81 x).toInt = (z : Int)
def stZ (F : Nat → Nat → Int32) (W0 W1 : Nat) (L : Nat → List Hd) (sd : Int) (p x : Nat) (y : Int) : Prop := ((F 81 x).toInt = (x : Int) ∧ ∀ z : Nat, (z : Int) < y → z ≠ 40 → z ≠ 81 → dZ F W0 W1 sd p z → ¬ ewI (L x) (L z)) ∨ ∃ z : Nat, dZ F W0 W1 sd p z ∧ ewI (L x) (L z) ∧ (F 81 x).toInt = (F 81 z).toInt
theorem stZ_mk {F : Nat → Nat → Int32} {W0 W1 p x : Nat} {L : Nat → List Hd} {sd y : Int} (h : ((F 81 x).toInt = (x : Int) ∧ ∀ z : Nat, (z : Int) < y → z ≠ 40 → z ≠ 81 → dZ F W0 W1 sd p z → ¬ ewI (L x) (L z)) ∨ ∃ z : Nat, dZ F W0 W1 sd p z ∧ ewI (L x) (L z) ∧ (F 81 x).toInt = (F 81 z).toInt) : stZ F W0 W1 L sd p x y := h
theorem stZ_un {F : Nat → Nat → Int32} {W0 W1 p x : Nat} {L : Nat → List Hd} {sd y : Int} (h : stZ F W0 W1 L sd p x y) : ((F 81 x).toInt = (x : Int) ∧ ∀ z : Nat, (z : Int) < y → z ≠ 40 → z ≠ 81 → dZ F W0 W1 sd p z → ¬ ewI (L x) (L z)) ∨ ∃ z : Nat, dZ F W0 W1 sd p z ∧ ewI (L x) (L z) ∧ (F 81 x).toInt = (F 81 z).toInt := h
theorem fS_cg {F F2 : Nat → Nat → Int32} (h : F2 82 = F 82) {W0 W1 x : Nat} : fS F2 W0 W1 x ↔ fS F W0 W1 x := by unfold fS fxN; rw [h]
theorem nS_cg {F F2 : Nat → Nat → Int32} (h : F2 82 = F 82) {W0 W1 x : Nat} : nS F2 W0 W1 x ↔ nS F W0 W1 x := by unfold nS; rw [fS_cg h]
theorem cS_cg {F F2 : Nat → Nat → Int32} (h : F2 82 = F 82) {W0 W1 x y : Nat} : cS F2 W0 W1 x y ↔ cS F W0 W1 x y := by unfold cS; rw [nS_cg h]
theorem dZ_cg {F F2 : Nat → Nat → Int32} (h : F2 82 = F 82) {W0 W1 p x : Nat} {sd : Int} : dZ F2 W0 W1 sd p x ↔ dZ F W0 W1 sd p x := by unfold dZ fxN; rw [h]
theorem SN_cg {F F2 : Nat → Nat → Int32} {fo go W0 W1 : Nat} {L : Nat → List Hd} {H : Nat → Hd} {fi se : Nat → Nat} (h : ∀ r, r ≠ 81 → F2 r = F r) (q : SN F fo go W0 W1 L H fi se) : SN F2 fo go W0 W1 L H fi se := by
  obtain ⟨q1, q2, q3⟩ := q
  have e82 := h 82 (by decide)
  refine ⟨q1, fun x hx => q2 x ((nS_cg e82).mp hx), fun x hx => ?_⟩
  obtain ⟨a, b, c, d, e⟩ := q3 x ((fS_cg e82).mp hx)
  refine ⟨nD_cg (fun r hr => h r (by rintro rfl; revert hr; decide)) (by rw [h 76 (by decide)]) (by rw [h 77 (by decide)]) (by rw [h 80 (by decide)]) a, b, c, fun z => ?_, fun z => ?_⟩
  · obtain ⟨d1, d2, d3⟩ := d z
    exact ⟨by rw [h 78 (by decide)]; exact d1, (cS_cg e82).mpr d2, d3⟩
  · obtain ⟨⟨d1, d2⟩, ⟨d3, d4⟩, d5⟩ := e z
    exact ⟨⟨by rw [h 78 (by decide)]; exact d1, by rw [h 79 (by decide)]; exact d2⟩, ⟨(cS_cg e82).mpr d3, (cS_cg e82).mpr d4⟩, d5⟩
/-- another node's number may change -/
theorem NZ_cg {F F2 : Nat → Nat → Int32} {W0 W1 p x : Nat} {L : Nat → List Hd} {sd : Int} (h : F2 82 = F 82) (ho : ∀ i, i ≠ x → F2 81 i = F 81 i) (hx : ¬ dZ F W0 W1 sd p x) (q : NZ F W0 W1 L sd p) : NZ F2 W0 W1 L sd p := by
  obtain ⟨q1, q2⟩ := q
  have ne : ∀ y, dZ F W0 W1 sd p y → y ≠ x := fun y hy e => hx (by rw [← e]; exact hy)
  refine ⟨fun y z hy hz => ?_, fun y hy => ?_⟩
  · have hy := (dZ_cg h).mp hy
    have hz := (dZ_cg h).mp hz
    rw [ho y (ne y hy), ho z (ne z hz)]
    exact q1 y z hy hz
  · have hy := (dZ_cg h).mp hy
    rw [ho y (ne y hy)]
    obtain ⟨z, z1, z2⟩ := q2 y hy
    exact ⟨z, (dZ_cg h).mpr z1, z2⟩
theorem NZ_wk {F : Nat → Nat → Int32} {W0 W1 p p2 : Nat} {L : Nat → List Hd} {sd sd2 : Int} (h : ∀ x, dZ F W0 W1 sd2 p2 x ↔ dZ F W0 W1 sd p x) (q : NZ F W0 W1 L sd p) : NZ F W0 W1 L sd2 p2 := by
  obtain ⟨q1, q2⟩ := q
  refine ⟨fun y z hy hz => q1 y z ((h y).mp hy) ((h z).mp hz), fun y hy => ?_⟩
  obtain ⟨z, z1, z2⟩ := q2 y ((h y).mp hy)
  exact ⟨z, (h z).mpr z1, z2⟩
theorem NZ_nx {F : Nat → Nat → Int32} {W0 W1 : Nat} {L : Nat → List Hd} (q : NZ F W0 W1 L 0 0) : NZ F W0 W1 L 1 W1 := NZ_wk (fun x => by
  unfold dZ
  constructor
  · rintro (z | z | ⟨z1, ⟨z2, _⟩ | ⟨_, z3 | ⟨z3, z4⟩⟩⟩)
    · exact Or.inl z
    · exact Or.inr (Or.inl z)
    · omega
    · exact Or.inr (Or.inr ⟨z1, Or.inl ⟨rfl, Nat.zero_le _, z3⟩⟩)
    · omega
  · rintro (z | z | ⟨z1, ⟨z2, z3, z4⟩ | ⟨z2, _⟩⟩)
    · exact Or.inl z
    · exact Or.inr (Or.inl z)
    · exact Or.inr (Or.inr ⟨z1, Or.inr ⟨rfl, Or.inl z4⟩⟩)
    · omega) q
theorem NZ_beg {F : Nat → Nat → Int32} {W0 W1 : Nat} {L : Nat → List Hd} (h1 : (F 81 40).toInt = 40) (h2 : (F 81 81).toInt = 40) (e1 : L 40 = [noH]) (e2 : L 81 = [noH]) : NZ F W0 W1 L 0 W0 := by
  have hd : ∀ x, dZ F W0 W1 0 W0 x → (F 81 x).toInt = 40 ∧ L x = [noH] := fun x hx => by
    rcases hx with z | z | ⟨_, z | ⟨z, _⟩⟩
    · rw [z]; exact ⟨h1, e1⟩
    · rw [z]; exact ⟨h2, e2⟩
    · omega
    · omega
  refine ⟨fun x y hx hy => ?_, fun x hx => ⟨40, Or.inl rfl, (hd x hx).1⟩⟩
  rw [(hd x hx).1, (hd y hy).1, (hd x hx).2, (hd y hy).2]
  exact ⟨fun _ => ewI_0 rfl, fun _ => rfl⟩
/-- the WORD at k of side sd -/
def ndZ (sd : Int) (k : Nat) : Nat := if sd = 0 then k else 41 + k
theorem dZ_st {F : Nat → Nat → Int32} {W0 W1 k : Nat} {sd : Int} (hs : sd = 0 ∨ sd = 1) (hW : W0 ≤ 40 ∧ W1 ≤ 40) (hk : (sd = 0 ∧ k < W0) ∨ (sd = 1 ∧ k < W1)) : (∀ x, dZ F W0 W1 sd (k + 1) x → dZ F W0 W1 sd k x) ∧ (∀ x, dZ F W0 W1 sd k x → x ≠ ndZ sd k → dZ F W0 W1 sd (k + 1) x) ∧ ¬ dZ F W0 W1 sd (k + 1) (ndZ sd k) ∧ (dZ F W0 W1 sd k (ndZ sd k) ↔ fxN F (ndZ sd k)) := by
  unfold dZ ndZ
  rcases hs with e | e
  · subst e
    rw [if_pos rfl]
    refine ⟨fun x h => ?_, fun x h h2 => ?_, fun h => ?_, ⟨fun h => ?_, fun h => ?_⟩⟩
    · rcases h with h | h | ⟨h, ⟨_, h1, h2⟩ | ⟨h1, _⟩⟩
      · exact Or.inl h
      · exact Or.inr (Or.inl h)
      · exact Or.inr (Or.inr ⟨h, Or.inl ⟨rfl, by omega, h2⟩⟩)
      · omega
    · rcases h with h | h | ⟨h, ⟨_, h1, h3⟩ | ⟨h1, _⟩⟩
      · exact Or.inl h
      · exact Or.inr (Or.inl h)
      · exact Or.inr (Or.inr ⟨h, Or.inl ⟨rfl, by omega, h3⟩⟩)
      · omega
    · rcases h with h | h | ⟨h, ⟨_, h1, h2⟩ | ⟨h1, _⟩⟩ <;> omega
    · rcases h with h | h | ⟨h, _⟩
      · omega
      · omega
      · exact h
    · exact Or.inr (Or.inr ⟨h, Or.inl ⟨rfl, by omega, by omega⟩⟩)
  · subst e
    rw [if_neg (by decide)]
    refine ⟨fun x h => ?_, fun x h h2 => ?_, fun h => ?_, ⟨fun h => ?_, fun h => ?_⟩⟩
    · rcases h with h | h | ⟨h, ⟨h1, _⟩ | ⟨_, h1 | ⟨h1, h2⟩⟩⟩
      · exact Or.inl h
      · exact Or.inr (Or.inl h)
      · omega
      · exact Or.inr (Or.inr ⟨h, Or.inr ⟨rfl, Or.inl h1⟩⟩)
      · exact Or.inr (Or.inr ⟨h, Or.inr ⟨rfl, Or.inr ⟨by omega, h2⟩⟩⟩)
    · rcases h with h | h | ⟨h, ⟨h1, _⟩ | ⟨_, h1 | ⟨h1, h3⟩⟩⟩
      · exact Or.inl h
      · exact Or.inr (Or.inl h)
      · omega
      · exact Or.inr (Or.inr ⟨h, Or.inr ⟨rfl, Or.inl h1⟩⟩)
      · exact Or.inr (Or.inr ⟨h, Or.inr ⟨rfl, Or.inr ⟨by omega, h3⟩⟩⟩)
    · rcases h with h | h | ⟨h, ⟨h1, _⟩ | ⟨_, h1 | ⟨h1, h2⟩⟩⟩ <;> omega
    · rcases h with h | h | ⟨h, _⟩
      · omega
      · omega
      · exact h
    · exact Or.inr (Or.inr ⟨h, Or.inr ⟨rfl, Or.inr ⟨by omega, by omega⟩⟩⟩)
theorem NZ_sk {F : Nat → Nat → Int32} {W0 W1 k : Nat} {L : Nat → List Hd} {sd : Int} (hs : sd = 0 ∨ sd = 1) (hW : W0 ≤ 40 ∧ W1 ≤ 40) (hk : (sd = 0 ∧ k < W0) ∨ (sd = 1 ∧ k < W1)) (hn : ¬ fxN F (ndZ sd k)) (q : NZ F W0 W1 L sd (k + 1)) : NZ F W0 W1 L sd k := by
  obtain ⟨d1, d2, d3, d4⟩ := dZ_st (F := F) hs hW hk
  exact NZ_wk (fun x => ⟨fun h => d2 x h (fun e => hn (d4.mp (by rw [← e]; exact h))), d1 x⟩) q
theorem dZ_nS {F : Nat → Nat → Int32} {W0 W1 p x : Nat} {sd : Int} (h : dZ F W0 W1 sd p x) : nS F W0 W1 x := by
  rcases h with h | h | ⟨h, ⟨_, _, h1⟩ | ⟨_, h1 | ⟨h1, h2⟩⟩⟩
  · exact Or.inl h
  · exact Or.inr (Or.inl h)
  · exact Or.inr (Or.inr ⟨h, Or.inl h1⟩)
  · exact Or.inr (Or.inr ⟨h, Or.inl h1⟩)
  · exact Or.inr (Or.inr ⟨h, Or.inr ⟨by omega, h2⟩⟩)
theorem dZ_lt {F : Nat → Nat → Int32} {W0 W1 p x : Nat} {sd : Int} (hW : W0 ≤ 40 ∧ W1 ≤ 40) (h : dZ F W0 W1 sd p x) : x < 82 := by
  rcases h with h | h | ⟨h, ⟨_, _, h1⟩ | ⟨_, h1 | ⟨h1, h2⟩⟩⟩ <;> omega
/-- the node has its number -/
theorem NZ_st {F : Nat → Nat → Int32} {fo go W0 W1 k : Nat} {L : Nat → List Hd} {H : Nat → Hd} {fi se : Nat → Nat} {sd y : Int} (hS : SN F fo go W0 W1 L H fi se) (hs : sd = 0 ∨ sd = 1) (hW : W0 ≤ 40 ∧ W1 ≤ 40) (hk : (sd = 0 ∧ k < W0) ∨ (sd = 1 ∧ k < W1)) (hf : fxN F (ndZ sd k)) (q : NZ F W0 W1 L sd (k + 1)) (hst : stZ F W0 W1 L sd (k + 1) (ndZ sd k) y) (hy : 82 ≤ y ∨ (F 81 (ndZ sd k)).toInt ≠ (ndZ sd k : Int)) : NZ F W0 W1 L sd k := by
  obtain ⟨d1, d2, d3, d4⟩ := dZ_st (F := F) hs hW hk
  obtain ⟨q1, q2⟩ := q
  obtain ⟨s1, s2, s3⟩ := hS
  have hx : dZ F W0 W1 sd k (ndZ sd k) := d4.mpr hf
  have hxn := dZ_nS hx
  have hxS : fS F W0 W1 (ndZ sd k) := by
    rcases hxn with z | z | z
    · exfalso; unfold ndZ at z; split at z <;> omega
    · exfalso; unfold ndZ at z; split at z <;> omega
    · exact z
  have hx0 := (s3 _ hxS).2.1
  have hL : ∃ B, L (ndZ sd k) = H (ndZ sd k) :: B := by
    obtain ⟨_, _, a, b, c⟩ := s3 _ hxS
    have hl := arH_le (h := H (ndZ sd k))
    by_cases c2 : arH (H (ndZ sd k)) = 2
    · exact ⟨_, (c c2).2.2⟩
    · by_cases c1 : arH (H (ndZ sd k)) = 1
      · exact ⟨_, (b c1).2.2⟩
      · exact ⟨[], a (by omega)⟩
  have hno : ∀ z, L z = [noH] → ¬ ewI (L (ndZ sd k)) (L z) := fun z ez w => by
    obtain ⟨B, eB⟩ := hL
    rw [eB, ez] at w
    have := ewI_hd w
    rw [this] at hx0
    exact hx0 rfl
  have key : ∀ z, dZ F W0 W1 sd (k + 1) z → ((F 81 (ndZ sd k)).toInt = (F 81 z).toInt ↔ ewI (L (ndZ sd k)) (L z)) := fun z hz => by
    rcases stZ_un hst with ⟨h1, h2⟩ | ⟨z0, h1, h2, h3⟩
    · constructor
      · intro w
        exfalso
        obtain ⟨z9, w1, w2⟩ := q2 z hz
        have : z9 = ndZ sd k := by omega
        rw [this] at w1
        exact d3 w1
      · intro w
        exfalso
        rcases hy with hy | hy
        · have hlt := dZ_lt hW hz
          by_cases e : z = 40
          · exact hno z (by rw [e]; exact s1.1) w
          · by_cases e2 : z = 81
            · exact hno z (by rw [e2]; exact s1.2) w
            · exact h2 z (by omega) e e2 hz w
        · exact hy h1
    · rw [h3]
      rw [q1 z0 z h1 hz]
      exact ⟨fun w => ewI_tr h2 w, fun w => ewI_tr (ewI_sy h2) w⟩
  refine ⟨fun a b ha hb => ?_, fun a ha => ?_⟩
  · by_cases ea : a = ndZ sd k
    · by_cases eb : b = ndZ sd k
      · rw [ea, eb]
        exact ⟨fun _ => ewI_rf (s2 _ hxn), fun _ => rfl⟩
      · rw [ea]
        exact key b (d2 b hb eb)
    · by_cases eb : b = ndZ sd k
      · rw [eb]
        have w := key a (d2 a ha ea)
        exact ⟨fun z => ewI_sy (w.mp z.symm), fun z => (w.mpr (ewI_sy z)).symm⟩
      · exact q1 a b (d2 a ha ea) (d2 b hb eb)
  · by_cases ea : a = ndZ sd k
    · rcases stZ_un hst with ⟨h1, h2⟩ | ⟨z0, h1, h2, h3⟩
      · exact ⟨a, ha, by rw [ea]; exact h1⟩
      · obtain ⟨z, z1, z2⟩ := q2 z0 h1
        exact ⟨z, d1 z z1, by rw [ea, h3]; exact z2⟩
    · obtain ⟨z, z1, z2⟩ := q2 a (d2 a ha ea)
      exact ⟨z, d1 z z1, z2⟩
/-- what areLike tells with either way -/
theorem al_S {F : Nat → Nat → Int32} {fo go W0 W1 k y : Nat} {L : Nat → List Hd} {H : Nat → Hd} {fi se : Nat → Nat} {sd : Int} (hS : SN F fo go W0 W1 L H fi se) (hs : sd = 0 ∨ sd = 1) (hW : W0 ≤ 40 ∧ W1 ≤ 40) (hk : (sd = 0 ∧ k < W0) ∨ (sd = 1 ∧ k < W1)) (hf : fxN F (ndZ sd k)) (q : NZ F W0 W1 L sd (k + 1)) (hy : dZ F W0 W1 sd (k + 1) y) (h40 : y ≠ 40) (h81 : y ≠ 81) : alN F 1 (ndZ sd k) y (H (ndZ sd k)) (H y) ↔ ewI (L (ndZ sd k)) (L y) := by
  obtain ⟨d1, d2, d3, d4⟩ := dZ_st (F := F) hs hW hk
  obtain ⟨s1, s2, s3⟩ := hS
  have nn : ∀ x, nS F W0 W1 x → x ≠ 40 → x ≠ 81 → fS F W0 W1 x := fun x h a b => by
    rcases h with z | z | z
    · exact absurd z a
    · exact absurd z b
    · exact z
  have hxn := dZ_nS (d4.mpr hf)
  have nx : ndZ sd k ≠ 40 ∧ ndZ sd k ≠ 81 := by
    unfold ndZ
    split <;> omega
  have hxS := nn _ hxn nx.1 nx.2
  have hyS := nn _ (dZ_nS hy) h40 h81
  obtain ⟨_, _, a0, a1, a2⟩ := s3 _ hxS
  obtain ⟨_, _, b0, b1, b2⟩ := s3 _ hyS
  -- the DEEDS of both are done
  have dx : ∀ c, cS F W0 W1 (ndZ sd k) c → dZ F W0 W1 sd (k + 1) c := fun c hc => by
    obtain ⟨c1, c2, c3⟩ := hc
    by_cases e40 : c = 40
    · exact Or.inl e40
    · by_cases e81 : c = 81
      · exact Or.inr (Or.inl e81)
      · have cf := nn c c2 e40 e81
        refine Or.inr (Or.inr ⟨cf.1, ?_⟩)
        have cr := cf.2
        unfold ndZ at c1 c3
        rcases hs with e | e
        · left
          rw [if_pos e] at c1 c3
          exact ⟨e, by omega, by omega⟩
        · right
          rw [if_neg (by omega)] at c1 c3
          exact ⟨e, by omega⟩
  have dy : ∀ c, cS F W0 W1 y c → dZ F W0 W1 sd (k + 1) c := fun c hc => by
    obtain ⟨c1, c2, c3⟩ := hc
    by_cases e40 : c = 40
    · exact Or.inl e40
    · by_cases e81 : c = 81
      · exact Or.inr (Or.inl e81)
      · have cf := nn c c2 e40 e81
        refine Or.inr (Or.inr ⟨cf.1, ?_⟩)
        have cr := cf.2
        rcases hy with z | z | ⟨_, ⟨z1, z2, z3⟩ | ⟨z1, z2 | ⟨z2, z3⟩⟩⟩
        · exact absurd z h40
        · exact absurd z h81
        · exact Or.inl ⟨z1, by omega, by omega⟩
        · exact Or.inr ⟨z1, by omega⟩
        · exact Or.inr ⟨z1, by omega⟩
  have hl := arH_le (h := H (ndZ sd k))
  unfold alN
  by_cases hh : H (ndZ sd k) = H y
  · rw [← hh] at b0 b1 b2
    by_cases c2 : arH (H (ndZ sd k)) = 2
    · obtain ⟨⟨m1, m2⟩, ⟨m3, m4⟩, m5⟩ := a2 c2
      obtain ⟨⟨n1, n2⟩, ⟨n3, n4⟩, n5⟩ := b2 c2
      rw [m1, m2, n1, n2, Int.toNat_natCast, Int.toNat_natCast, Int.toNat_natCast, Int.toNat_natCast, m5, n5, ewI_2 c2 (s2 _ (dZ_nS (dx _ m3))) (s2 _ (dZ_nS (dx _ m4))) (s2 _ (dZ_nS (dy _ n3))) (s2 _ (dZ_nS (dy _ n4)))]
      rw [q.1 _ _ (dx _ m3) (dy _ n3), q.1 _ _ (dx _ m4) (dy _ n4), q.1 _ _ (dx _ m3) (dy _ n4), q.1 _ _ (dx _ m4) (dy _ n3)]
      constructor
      · rintro ⟨_, _, z⟩
        rcases z c2 with z | ⟨_, z⟩
        · exact Or.inl z
        · exact Or.inr z
      · intro z
        refine ⟨hh, fun w => by omega, fun _ => ?_⟩
        rcases z with z | z
        · exact Or.inl z
        · exact Or.inr ⟨by decide, z⟩
    · by_cases c1 : arH (H (ndZ sd k)) = 1
      · obtain ⟨m1, m2, m3⟩ := a1 c1
        obtain ⟨n1, n2, n3⟩ := b1 c1
        rw [m1, n1, Int.toNat_natCast, Int.toNat_natCast, m3, n3, ewI_1 c1 (s2 _ (dZ_nS (dx _ m2))) (s2 _ (dZ_nS (dy _ n2))), q.1 _ _ (dx _ m2) (dy _ n2)]
        exact ⟨fun z => z.2.1 c1, fun z => ⟨hh, fun _ => z, fun w => by omega⟩⟩
      · rw [a0 (by omega), b0 (by omega)]
        exact ⟨fun _ => ewI_0 (by omega), fun _ => ⟨hh, fun w => by omega, fun w => by omega⟩⟩
  · have hL : ∀ x, fS F W0 W1 x → ∃ B, L x = H x :: B := fun x hx => by
      obtain ⟨_, _, a, b, c⟩ := s3 _ hx
      have hl := arH_le (h := H x)
      by_cases c2 : arH (H x) = 2
      · exact ⟨_, (c c2).2.2⟩
      · by_cases c1 : arH (H x) = 1
        · exact ⟨_, (b c1).2.2⟩
        · exact ⟨[], a (by omega)⟩
    constructor
    · intro z; exact absurd z.1 hh
    · intro z
      obtain ⟨B, eB⟩ := hL _ hxS
      obtain ⟨C, eC⟩ := hL _ hyS
      rw [eB, eC] at z
      exact absurd (ewI_hd z) hh
/-- one side's nodes where the rows of that side stay -/
theorem shE_sd {F F2 : Nat → Nat → Int32} {fo bn : Nat} {T : List Hd} {H : Nat → Hd} {fi se : Nat → Nat} (hT : T.length ≤ 40) (hw : ∀ r, r ∈ [7, 8, 13, 14, 15, 16, 18, 19, 20] → F2 r = F r) (ho : ∀ r, r ∈ [76, 77, 78, 79, 80, 81, 82] → ∀ i, bn ≤ i → i ≤ bn + 40 → F2 r i = F r i) (q : shE F fo bn T H fi se 0) : shE F2 fo bn T H fi se 0 := by
  obtain ⟨q0, qA, qB, qC, qD, qE⟩ := q
  have fx : ∀ x, bn ≤ x → x ≤ bn + 40 → (fxN F2 x ↔ fxN F x) := fun x hx h2 => by unfold fxN; rw [ho 82 (by decide) x hx h2]
  have dn : ∀ x, dnN F2 bn T.length 0 x → dnN F bn T.length 0 x ∧ bn ≤ x ∧ x ≤ bn + 40 := fun x hx => by
    rcases hx with z | ⟨z1, z2, z3⟩
    · exact ⟨Or.inl z, by omega, by omega⟩
    · exact ⟨Or.inr ⟨z1, z2, (fx x (by omega) (by omega)).mp z3⟩, by omega, by omega⟩
  have gn : ∀ j y, gnN F bn T.length j y → gnN F2 bn T.length j y := fun j y hy => by
    rcases hy with z | ⟨z1, z2, z3⟩
    · exact Or.inl z
    · exact Or.inr ⟨z1, z2, (fx y (by omega) (by omega)).mpr z3⟩
  refine ⟨by rw [ho 76 (by decide) _ (by omega) (by omega), ho 77 (by decide) _ (by omega) (by omega), ho 81 (by decide) _ (by omega) (by omega), ho 82 (by decide) _ (by omega) (by omega)]; exact q0, fun j h1 h2 => ?_, fun j h1 h2 h3 => ?_, fun x y hx hy => ?_, fun x hx => ?_, qE⟩
  · obtain ⟨R, r1, r2, r3⟩ := qA j h1 h2
    refine ⟨R, by rw [ho 82 (by decide) _ (by omega) (by omega)]; exact r1, ?_, r3⟩
    rcases r2 with z | ⟨z1, z2, z3⟩
    · exact Or.inl z
    · exact Or.inr ⟨z1, z2, (fx R (by omega) (by omega)).mpr z3⟩
  · obtain ⟨b1, b2, b3, b4⟩ := qB j h1 h2 ((fx _ (by omega) (by omega)).mp h3)
    refine ⟨nD_cg hw (ho 76 (by decide) _ (by omega) (by omega)) (ho 77 (by decide) _ (by omega) (by omega)) (ho 80 (by decide) _ (by omega) (by omega)) b1, fun z => ?_, fun z => ?_, b4⟩
    · obtain ⟨c1, c2, c3⟩ := b2 z
      exact ⟨by rw [ho 78 (by decide) _ (by omega) (by omega)]; exact c1, gn j _ c2, c3⟩
    · obtain ⟨c1, c2⟩ := b3 z
      exact ⟨by rw [ho 79 (by decide) _ (by omega) (by omega)]; exact c1, gn j _ c2⟩
  · obtain ⟨x1, x2, x3⟩ := dn x hx
    obtain ⟨y1, y2, y3⟩ := dn y hy
    rw [ho 81 (by decide) _ x2 x3, ho 81 (by decide) _ y2 y3]
    exact qC x y x1 y1
  · obtain ⟨x1, x2, x3⟩ := dn x hx
    rw [ho 81 (by decide) _ x2 x3]
    exact qD x x1
def sdF {α : Type} (a b : Nat → α) (x : Nat) : α := if x < 41 then a x else b x
theorem sdF_0 {α : Type} {a b : Nat → α} {x : Nat} (h : x < 41) : sdF a b x = a x := if_pos h
theorem sdF_1 {α : Type} {a b : Nat → α} {x : Nat} (h : ¬ x < 41) : sdF a b x = b x := if_neg h
/-- both sides' nodes -/
theorem SN_mk {F : Nat → Nat → Int32} {fo go : Nat} {T U : List Hd} {H H2 : Nat → Hd} {fi se fi2 se2 : Nat → Nat} (hT : T.length ≤ 40) (hU : U.length ≤ 40) (h0 : shE F fo 0 T H fi se 0) (h1 : shE F go 41 U H2 fi2 se2 0) : SN F fo go T.length U.length (sdF (trG H fi se 41) (trG H2 fi2 se2 41)) (sdF H H2) (sdF fi fi2) (sdF se se2) := by
  obtain ⟨p0, pA, pB, pC, pD, pE⟩ := h0
  obtain ⟨q0, qA, qB, qC, qD, qE⟩ := h1
  have n0 : arH noH = 0 := rfl
  refine ⟨⟨?_, ?_⟩, fun x hx => ?_, fun x hx => ?_⟩
  · rw [sdF_0 (by decide)]
    rw [show trG H fi se 41 40 = [H 40] from tr_0 (by rw [show H 40 = noH from p0.2.2.2.2]; exact n0), show H 40 = noH from p0.2.2.2.2]
  · rw [sdF_1 (by decide)]
    rw [show trG H2 fi2 se2 41 81 = [H2 81] from tr_0 (by rw [show H2 81 = noH from q0.2.2.2.2]; exact n0), show H2 81 = noH from q0.2.2.2.2]
  · have hx2 : x < 41 ∨ (41 ≤ x ∧ x < 82) := by
      rcases hx with z | z | ⟨_, z | z⟩ <;> omega
    by_cases c : x < 41
    · rw [sdF_0 c]
      exact tn_ok (bn := 0) pE 41 x (by omega) (by omega) (by omega)
    · rw [sdF_1 c]
      exact tn_ok (bn := 41) qE 41 x (by omega) (by omega) (by omega)
  · obtain ⟨x1, x2⟩ := hx
    by_cases c : x < 41
    · have hx0 : x < T.length := by omega
      have b := pB x (Nat.zero_le _) hx0 (by rw [Nat.zero_add]; exact x1)
      rw [Nat.zero_add] at b
      obtain ⟨b1, b2, b3, b4⟩ := b
      have ch : ∀ y, gnN F 0 T.length x y → cS F T.length U.length x y ∧ y < 41 := fun y hy => by
        rcases hy with z | ⟨z1, z2, z3⟩
        · exact ⟨⟨by omega, Or.inl (by omega), fun _ => by omega⟩, by omega⟩
        · exact ⟨⟨by omega, Or.inr (Or.inr ⟨z3, Or.inl (by omega)⟩), fun _ => by omega⟩, by omega⟩
      rw [sdF_0 c, sdF_0 c, sdF_0 c, sdF_0 c, if_pos c]
      refine ⟨b1, b4, fun z => t41_0 z, fun z => ?_, fun z => ?_⟩
      · obtain ⟨c1, c2, _⟩ := b2 (by omega)
        exact ⟨c1, (ch _ c2).1, by rw [sdF_0 (ch _ c2).2]; exact tn_1 (bn := 0) pE (by omega) (by omega) (by omega) z⟩
      · obtain ⟨c1, c2, _⟩ := b2 (by omega)
        obtain ⟨c3, c4⟩ := b3 z
        exact ⟨⟨c1, c3⟩, ⟨(ch _ c2).1, (ch _ c4).1⟩, by rw [sdF_0 (ch _ c2).2, sdF_0 (ch _ c4).2]; exact tn_2 (bn := 0) pE (by omega) (by omega) (by omega) z⟩
    · have hx0 : x - 41 < U.length := by omega
      have b := qB (x - 41) (Nat.zero_le _) hx0 (by rw [show 41 + (x - 41) = x by omega]; exact x1)
      rw [show 41 + (x - 41) = x by omega] at b
      obtain ⟨b1, b2, b3, b4⟩ := b
      have ch : ∀ y, gnN F 41 U.length (x - 41) y → cS F T.length U.length x y ∧ ¬ y < 41 := fun y hy => by
        rcases hy with z | ⟨z1, z2, z3⟩
        · exact ⟨⟨by omega, Or.inr (Or.inl (by omega)), fun w => absurd w c⟩, by omega⟩
        · exact ⟨⟨by omega, Or.inr (Or.inr ⟨z3, Or.inr (by omega)⟩), fun w => absurd w c⟩, by omega⟩
      rw [sdF_1 c, sdF_1 c, sdF_1 c, sdF_1 c, if_neg c]
      refine ⟨b1, b4, fun z => t41_0 z, fun z => ?_, fun z => ?_⟩
      · obtain ⟨c1, c2, _⟩ := b2 (by omega)
        exact ⟨c1, (ch _ c2).1, by rw [sdF_1 (ch _ c2).2]; exact tn_1 (bn := 41) qE (by omega) (by omega) (by omega) z⟩
      · obtain ⟨c1, c2, _⟩ := b2 (by omega)
        obtain ⟨c3, c4⟩ := b3 z
        exact ⟨⟨c1, c3⟩, ⟨(ch _ c2).1, (ch _ c4).1⟩, by rw [sdF_1 (ch _ c2).2, sdF_1 (ch _ c4).2]; exact tn_2 (bn := 41) qE (by omega) (by omega) (by omega) z⟩
