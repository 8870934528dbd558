/-- the first head of a list -/
def kdH1 : List Hd → Option Hd
  | [] => none
  | h :: _ => some h
/-! one node more -/
theorem gnN_dn {F : Nat → Nat → Int32} {bn W k y : Nat} (h : gnN F bn W k y) : dnN F bn W (k + 1) y := by
  rcases h with e | ⟨e1, e2, e3⟩
  · exact Or.inl e
  · exact Or.inr ⟨by omega, e2, e3⟩
theorem en_gn {F : Nat → Nat → Int32} {fo bn : Nat} {T : List Hd} {H : Nat → Hd} {fi se : Nat → Nat} {k u A0 B0 : Nat} {h h2 : Hd} (hE : shE F fo bn T H fi se (k + 1)) (hW : T.length ≤ 40) (en : enN F fo bn T H fi se k h h2 A0 B0 u) : arH h2 = arH h ∧ (1 ≤ arH h2 → gnN F bn T.length k A0) ∧ (arH h2 = 2 → gnN F bn T.length k B0) := by
  obtain ⟨⟨q76, q77, q81, q82, qn⟩, qA, qB, qC, qD, qE⟩ := hE
  obtain ⟨e78, e79, hn, vh, en0, en2, en1⟩ := en
  have en1' := fun (_ : Unit) => en1
  clear en1
  have hl := arH_le (h := h)
  by_cases a0 : arH h = 0
  · obtain ⟨eA, eB, e2⟩ := en0 a0
    subst e2
    exact ⟨rfl, fun z => by omega, fun z => by omega⟩
  · by_cases a2 : arH h = 2
    · obtain ⟨gA, gB, tA, tB, e2⟩ := en2 a2
      subst e2
      exact ⟨rfl, fun _ => gA, fun _ => gB⟩
    · obtain ⟨eB, en1⟩ := en1' () (by omega)
      rcases en1 with ⟨nc, gA, tA, e2⟩ | ⟨c10, A1, gA, tA, hA10, eA0, e2⟩
      · subst e2
        exact ⟨rfl, fun _ => gA, fun z => by omega⟩
      · have e1 : arH h2 = arH h := by rw [e2]; rfl
        refine ⟨e1, fun _ => ?_, fun z => by omega⟩
        have n1 : A1 ≠ bn + 40 := fun z => by rw [z, qn] at hA10; exact absurd hA10 (by decide)
        rcases gA with e | ⟨y1, y2, y3⟩
        · exact absurd e n1
        · obtain ⟨b1, b2, _, _⟩ := qB (A1 - bn) (by omega) (by omega) (by rw [show bn + (A1 - bn) = A1 by omega]; exact y3)
          rw [show bn + (A1 - bn) = A1 by omega] at b1 b2
          have aA : arH (H A1) = 1 := by have := arH_k b1.1; omega
          obtain ⟨_, cg, _⟩ := b2 (by omega)
          rw [eA0]
          rcases cg with e | ⟨e1, e2, e3⟩
          · exact Or.inl e
          · exact Or.inr ⟨by omega, e2, e3⟩
/-- what areLike tells of the new node and a node behind it -/
theorem al_ok {F : Nat → Nat → Int32} {fo bn : Nat} {T : List Hd} {H : Nat → Hd} {fi se : Nat → Nat} {k u A0 B0 y : Nat} {h h2 : Hd} (hE : shE F fo bn T H fi se (k + 1)) (hW : T.length ≤ 40) (en : enN F fo bn T H fi se k h h2 A0 B0 u)
    (hx : h2.1 ≠ 0 ∧ (arH h2 = 0 → sjT T k = [h2]) ∧ (arH h2 = 1 → A0 ≠ bn + 40 ∧ sjT T k = h2 :: trG H fi se 41 A0) ∧ (arH h2 = 2 → sjT T k = h2 :: (trG H fi se 41 A0 ++ trG H fi se 41 B0)))
    (hy : bn + k < y ∧ y < bn + T.length ∧ fxN F y) (hok : ∀ z, dnN F bn T.length (k + 1) z → okT (trG H fi se 41 z) 1) : alN F 0 (bn + k) y h2 (H y) ↔ sjT T k = trG H fi se 41 y := by
  obtain ⟨ea, gA, gB⟩ := en_gn hE hW en
  obtain ⟨⟨q76, q77, q81, q82, qn⟩, qA, qB, qC, qD, qE⟩ := hE
  obtain ⟨e78, e79, -⟩ := en
  obtain ⟨hx0, x0, x1, x2⟩ := hx
  obtain ⟨y1, y2, y3⟩ := hy
  have ej : bn + (y - bn) = y := by omega
  obtain ⟨b1, b2, b3, b4⟩ := qB (y - bn) (by omega) (by omega) (by rw [ej]; exact y3)
  rw [ej] at b1 b2 b3 b4
  have hl := arH_le (h := h2)
  have nA : (A0 : Int).toNat = A0 := Int.toNat_natCast A0
  have nB : (B0 : Int).toNat = B0 := Int.toNat_natCast B0
  have nF : (fi y : Int).toNat = fi y := Int.toNat_natCast _
  have nS : (se y : Int).toNat = se y := Int.toNat_natCast _
  have g2 : ∀ z, gnN F bn T.length (y - bn) z → dnN F bn T.length (k + 1) z := fun z hz => by
    rcases hz with e | ⟨e1, e2, e3⟩
    · exact Or.inl e
    · exact Or.inr ⟨by omega, e2, e3⟩
  unfold alN
  rw [e78, e79, nA, nB]
  by_cases hh : h2 = H y
  · rw [← hh] at b2 b3
    by_cases a2 : arH h2 = 2
    · obtain ⟨c78, cg, _⟩ := b2 (by omega)
      obtain ⟨c79, cg2⟩ := b3 a2
      rw [c78, c79, nF, nS, x2 a2, tn_2 (bn := bn) qE (show bn + (k + 1) ≤ y by omega) (by omega) (by omega) (by rw [← hh]; exact a2), ← hh]
      have d1 := qC A0 (fi y) (gnN_dn (gA (by omega))) (g2 _ cg)
      have d2 := qC B0 (se y) (gnN_dn (gB a2)) (g2 _ cg2)
      constructor
      · rintro ⟨_, _, z⟩
        rcases z a2 with ⟨z1, z2⟩ | ⟨z1, _⟩
        · rw [d1.mp z1, d2.mp z2]
        · exact absurd rfl z1
      · intro z
        injection z with _ z
        obtain ⟨z1, z2⟩ := okT_inj (hok _ (gnN_dn (gA (by omega)))) (hok _ (g2 _ cg)) z
        exact ⟨rfl, fun w => by omega, fun _ => Or.inl ⟨d1.mpr z1, d2.mpr z2⟩⟩
    · by_cases a1 : arH h2 = 1
      · obtain ⟨c78, cg, _⟩ := b2 (by omega)
        rw [c78, nF, (x1 a1).2, tn_1 (bn := bn) qE (show bn + (k + 1) ≤ y by omega) (by omega) (by omega) (by rw [← hh]; exact a1), ← hh]
        have d1 := qC A0 (fi y) (gnN_dn (gA (by omega))) (g2 _ cg)
        constructor
        · rintro ⟨_, z, _⟩
          rw [d1.mp (z a1)]
        · intro z
          injection z with _ z
          exact ⟨rfl, fun _ => d1.mpr z, fun w => by omega⟩
      · have a0 : arH h2 = 0 := by omega
        rw [x0 a0, t41_0 (show arH (H y) = 0 by rw [← hh]; exact a0), ← hh]
        exact ⟨fun _ => rfl, fun _ => ⟨rfl, fun w => by omega, fun w => by omega⟩⟩
  · constructor
    · intro z; exact absurd z.1 hh
    · intro z
      exfalso
      have e1 : kdH1 (sjT T k) = some h2 := by
        by_cases a2 : arH h2 = 2
        · rw [x2 a2]; rfl
        · by_cases a1 : arH h2 = 1
          · rw [(x1 a1).2]; rfl
          · rw [x0 (by omega)]; rfl
      rw [z] at e1
      have e2 : kdH1 (trG H fi se 41 y) = some (H y) := rfl
      rw [e2] at e1
      injection e1 with e3
      exact hh e3.symm
/-- the node is there -/
theorem shE_st {F F2 : Nat → Nat → Int32} {fo bn : Nat} {T : List Hd} {H : Nat → Hd} {fi se : Nat → Nat} {k u A0 B0 R : Nat} {h h2 : Hd} (hE : shE F fo bn T H fi se (k + 1)) (hW : T.length ≤ 40) (hk : k < T.length) (en : enN F fo bn T H fi se k h h2 A0 B0 u)
    (hw : ∀ r, r ∈ [7, 8, 13, 14, 15, 16, 18, 19, 20] → F2 r = F r) (ho : ∀ r, r ∈ [76, 77, 78, 79, 80, 81, 82] → ∀ i, bn + (k + 1) ≤ i → F2 r i = F r i) (h5 : ∀ r, r ∈ [76, 77, 78, 79, 80] → F2 r (bn + k) = F r (bn + k)) (h82 : (F2 82 (bn + k)).toInt = (R : Int))
    (hR : R = bn + 40 ∨ R = bn + k ∨ (bn + k < R ∧ R < bn + T.length ∧ fxN F R)) (hne : R ≠ bn + k → trG H fi se 41 R = sjT T k)
    (hx : R = bn + k → h2.1 ≠ 0 ∧ (arH h2 = 0 → sjT T k = [h2]) ∧ (arH h2 = 1 → A0 ≠ bn + 40 ∧ sjT T k = h2 :: trG H fi se 41 A0) ∧ (arH h2 = 2 → sjT T k = h2 :: (trG H fi se 41 A0 ++ trG H fi se 41 B0)))
    (hl : R = bn + k → ((F2 81 (bn + k)).toInt = (bn : Int) + k ∧ ∀ y, bn + k < y → y < bn + T.length → fxN F y → sjT T k ≠ trG H fi se 41 y) ∨ ∃ y, bn + k < y ∧ y < bn + T.length ∧ fxN F y ∧ sjT T k = trG H fi se 41 y ∧ (F2 81 (bn + k)).toInt = (F 81 y).toInt) :
    shE F2 fo bn T (fun w => if w = bn + k then h2 else H w) (fun w => if w = bn + k then A0 else fi w) (fun w => if w = bn + k then B0 else se w) k := by
  obtain ⟨ea, gA, gB⟩ := en_gn hE hW en
  have hE2 := shE_cg (F2 := F2) hw ho (by omega) hE
  have en2 := en
  obtain ⟨⟨q76, q77, q81, q82, qn⟩, qA, qB, qC, qD, qE⟩ := hE2
  obtain ⟨e78, e79, hn, -⟩ := en
  have hl' := fun (_ : Unit) => hl
  clear hl
  have fx : ∀ x, bn + (k + 1) ≤ x → (fxN F2 x ↔ fxN F x) := fun x hx => by unfold fxN; rw [ho 82 (by decide) x hx]
  have g2 : ∀ y, gnN F bn T.length k y → gnN F2 bn T.length k y := fun y hy => by
    rcases hy with z | ⟨z1, z2, z3⟩
    · exact Or.inl z
    · exact Or.inr ⟨z1, z2, (fx y (by omega)).mpr z3⟩
  -- the DEEDS of the nodes behind are as they were
  have tr : ∀ y, bn + k < y → y < bn + 41 → trG (fun w => if w = bn + k then h2 else H w) (fun w => if w = bn + k then A0 else fi w) (fun w => if w = bn + k then B0 else se w) 41 y = trG H fi se 41 y := fun y h1 h2 => trG_cg (lo := bn + (k + 1)) (m := bn + 41) qE (fun w w1 _ => ⟨if_neg (by omega), fun _ => if_neg (by omega), fun _ => if_neg (by omega)⟩) 41 41 y (by omega) h2 (by omega) (by omega)
  have gr : ∀ y, gnN F bn T.length k y → bn + k < y ∧ y < bn + 41 := fun y hy => by
    rcases hy with z | ⟨z1, z2, z3⟩ <;> omega
  have qE9 : ∀ w, bn + k ≤ w → w < bn + 41 → (1 ≤ arH ((fun w => if w = bn + k then h2 else H w) w) → w < (fun w => if w = bn + k then A0 else fi w) w ∧ (fun w => if w = bn + k then A0 else fi w) w < bn + 41) ∧ (arH ((fun w => if w = bn + k then h2 else H w) w) = 2 → w < (fun w => if w = bn + k then B0 else se w) w ∧ (fun w => if w = bn + k then B0 else se w) w < bn + 41) := fun w w1 w2 => by
    dsimp only
    by_cases e : w = bn + k
    · rw [if_pos e, if_pos e, if_pos e]
      exact ⟨fun z => by have := gr _ (gA z); omega, fun z => by have := gr _ (gB z); omega⟩
    · rw [if_neg e, if_neg e, if_neg e]
      exact qE w (by omega) w2
  have tx : R = bn + k → trG (fun w => if w = bn + k then h2 else H w) (fun w => if w = bn + k then A0 else fi w) (fun w => if w = bn + k then B0 else se w) 41 (bn + k) = sjT T k := fun eR => by
    obtain ⟨_, x0, x1, x2⟩ := hx eR
    have hl2 := arH_le (h := h2)
    have eH : (if bn + k = bn + k then h2 else H (bn + k)) = h2 := if_pos rfl
    have eF : (if bn + k = bn + k then A0 else fi (bn + k)) = A0 := if_pos rfl
    have eS : (if bn + k = bn + k then B0 else se (bn + k)) = B0 := if_pos rfl
    by_cases a2 : arH h2 = 2
    · rw [tn_2 (bn := bn) qE9 (Nat.le_refl _) (by omega) (by omega) (by rw [eH]; exact a2), eH, eF, eS, x2 a2, tr A0 (gr _ (gA (by omega))).1 (gr _ (gA (by omega))).2, tr B0 (gr _ (gB a2)).1 (gr _ (gB a2)).2]
    · by_cases a1 : arH h2 = 1
      · rw [tn_1 (bn := bn) qE9 (Nat.le_refl _) (by omega) (by omega) (by rw [eH]; exact a1), eH, eF, (x1 a1).2, tr A0 (gr _ (gA (by omega))).1 (gr _ (gA (by omega))).2]
      · rw [t41_0 (by rw [eH]; omega), eH, x0 (by omega)]
  have tnb : sjT T k ≠ trG H fi se 41 (bn + 40) ∨ R ≠ bn + k := by
    by_cases eR : R = bn + k
    · left
      obtain ⟨h0, x0, x1, x2⟩ := hx eR
      have hl2 := arH_le (h := h2)
      intro z
      have e2 : kdT (trG H fi se 41 (bn + 40)) = 0 := by show (H (bn + 40)).1 = 0; rw [qn]; rfl
      rw [← z] at e2
      apply h0
      by_cases a2 : arH h2 = 2
      · rw [x2 a2] at e2; exact e2
      · by_cases a1 : arH h2 = 1
        · rw [(x1 a1).2] at e2; exact e2
        · rw [x0 (by omega)] at e2; exact e2
    · exact Or.inr eR
  refine ⟨⟨q76, q77, q81, q82, by show (if bn + 40 = bn + k then h2 else H (bn + 40)) = noH; rw [if_neg (by omega)]; exact qn⟩, fun j h1 h2 => ?_, fun j h1 h2 h3 => ?_, ?_, ?_, qE9⟩
  · by_cases e : j = k
    · subst e
      refine ⟨R, h82, ?_, ?_⟩
      · rcases hR with z | z | ⟨z1, z2, z3⟩
        · exact Or.inl z
        · exact Or.inr ⟨by omega, by omega, by unfold fxN; rw [z, h82, z]⟩
        · exact Or.inr ⟨by omega, z2, (fx R (by omega)).mpr z3⟩
      · by_cases eR : R = bn + j
        · rw [eR]; exact tx eR
        · rw [tr R (by rcases hR with z | z | z <;> omega) (by rcases hR with z | z | z <;> omega)]
          exact hne eR
    · obtain ⟨R2, r1, r2, r3⟩ := qA j (by omega) h2
      exact ⟨R2, r1, r2, by rw [tr R2 (by rcases r2 with z | z <;> omega) (by rcases r2 with z | z <;> omega)]; exact r3⟩
  · by_cases e : j = k
    · subst e
      have eR : R = bn + j := by
        unfold fxN at h3
        rw [h82] at h3
        omega
      obtain ⟨h0, x0, x1, x2⟩ := hx eR
      dsimp only
      rw [if_pos rfl, if_pos rfl, if_pos rfl]
      refine ⟨nD_cg hw (h5 76 (by decide)) (h5 77 (by decide)) (h5 80 (by decide)) hn, fun z => ⟨by rw [h5 78 (by decide)]; exact e78, g2 _ (gA z), fun z2 => (x1 z2).1⟩, fun z => ⟨by rw [h5 79 (by decide)]; exact e79, g2 _ (gB z)⟩, h0⟩
    · have q := qB j (by omega) h2 h3
      dsimp only
      rw [if_neg (by omega), if_neg (by omega), if_neg (by omega)]
      exact q
  · -- alike
    have old : ∀ x, dnN F2 bn T.length k x → x ≠ bn + k → dnN F2 bn T.length (k + 1) x ∧ bn + k < x ∧ x < bn + 41 := fun x hx hne => by
      rcases hx with z | ⟨z1, z2, z3⟩
      · exact ⟨Or.inl z, by omega, by omega⟩
      · exact ⟨Or.inr ⟨by omega, z2, z3⟩, by omega, by omega⟩
    have self : ∀ x, dnN F2 bn T.length k x → x = bn + k → R = bn + k := fun x hx e => by
      rcases hx with z | ⟨z1, z2, z3⟩
      · omega
      · unfold fxN at z3
        rw [e, h82] at z3
        omega
    have key : R = bn + k → ∀ y, dnN F2 bn T.length (k + 1) y → ((F2 81 (bn + k)).toInt = (F2 81 y).toInt ↔ sjT T k = trG H fi se 41 y) := fun eR y hy => by
      have hd := qD y hy
      rcases hl' () eR with ⟨l1, l2⟩ | ⟨y0, l1, l2, l3, l4, l5⟩
      · rw [l1]
        constructor
        · intro z; omega
        · intro z
          exfalso
          rcases hy with e | ⟨e1, e2, e3⟩
          · rw [e] at z
            rcases tnb with w | w
            · exact w z
            · exact w eR
          · exact l2 y (by omega) e2 ((fx y e1).mp e3) z
      · have q := qC y0 y (Or.inr ⟨by omega, l2, (fx y0 (by omega)).mpr l3⟩) hy
        rw [l5, l4, ← ho 81 (by decide) y0 (by omega)]
        exact q
    intro x y hxd hyd
    by_cases ex : x = bn + k
    · have eR := self x hxd ex
      by_cases ey : y = bn + k
      · rw [ex, ey]
        exact ⟨fun _ => rfl, fun _ => rfl⟩
      · obtain ⟨o1, o2, o3⟩ := old y hyd ey
        rw [ex, tx eR, tr y o2 o3]
        exact key eR y o1
    · obtain ⟨o1, o2, o3⟩ := old x hxd ex
      by_cases ey : y = bn + k
      · have eR := self y hyd ey
        rw [ey, tx eR, tr x o2 o3]
        have q := key eR x o1
        exact ⟨fun z => (q.mp z.symm).symm, fun z => (q.mpr z.symm).symm⟩
      · obtain ⟨p1, p2, p3⟩ := old y hyd ey
        rw [tr x o2 o3, tr y p2 p3]
        exact qC x y o1 p1
  · intro x hxd
    by_cases ex : x = bn + k
    · have eR : R = bn + k := by
        rcases hxd with z | ⟨z1, z2, z3⟩
        · omega
        · unfold fxN at z3
          rw [ex, h82] at z3
          omega
      rw [ex]
      rcases hl' () eR with ⟨l1, l2⟩ | ⟨y0, l1, l2, l3, l4, l5⟩
      · omega
      · have q := qD y0 (Or.inr ⟨by omega, l2, (fx y0 (by omega)).mpr l3⟩)
        rw [ho 81 (by decide) y0 (by omega)] at q
        omega
    · have q := qD x (by
        rcases hxd with z | ⟨z1, z2, z3⟩
        · exact Or.inl z
        · exact Or.inr ⟨by omega, z2, z3⟩)
      omega
/-- no node yet -/
theorem shE_n {F : Nat → Nat → Int32} {fo bn : Nat} {T : List Hd} (h76 : (F 76 (bn + 40)).toInt = 0) (h77 : (F 77 (bn + 40)).toInt = -1) (h81 : (F 81 (bn + 40)).toInt = (bn : Int) + 40) (h82 : (F 82 (bn + 40)).toInt = (bn : Int) + 40) (hW : T.length ≤ 40) : shE F fo bn T (fun _ => noH) id id T.length := by
  have n0 : arH noH = 0 := rfl
  refine ⟨⟨h76, h77, h81, h82, rfl⟩, fun j h1 h2 => by omega, fun j h1 h2 => by omega, fun x y hx hy => ?_, fun x hx => ?_, fun w _ _ => ⟨fun z => by rw [n0] at z; omega, fun z => by rw [n0] at z; omega⟩⟩
  · have ex : x = bn + 40 := by rcases hx with z | z; (exact z); (omega)
    have ey : y = bn + 40 := by rcases hy with z | z; (exact z); (omega)
    rw [ex, ey]
    exact ⟨fun _ => rfl, fun _ => rfl⟩
  · have ex : x = bn + 40 := by rcases hx with z | z; (exact z); (omega)
    rw [ex, h81]
    omega
