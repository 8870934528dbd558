/-! a FORM's list in the reference -/
/-- FORM f of the reference holds the list T -/
def LX (F : Nat → Nat → Int32) (f : Nat) (T : List Hd) : Prop := (okT T 1 ∧ hvT T ∧ dkT T [0] ∧ T.length ≤ 40 ∧ nvT T ≤ 40) ∧ (F 6 f).toInt = (T.length : Int) ∧ LR F f (tcC T) T.length (nvT T) ∧ ∀ k, k < T.length → ¬ (6 ≤ (grH T k).1 ∧ (grH T k).1 ≤ 9) → F 14 (40 * f + k) = F 13 (40 * f + k) ∧ F 15 (40 * f + k) = F 13 (40 * f + k)
theorem LRv_vd {F : Nat → Nat → Int32} {f N : Nat} {c : Cn} (hL : LRv F f c N) : ∀ (L : List Vl) (V : Nat), V + L.length ≤ N → (∀ i, i < L.length → ∀ a, 10 ≤ a → a ≤ 12 → c a (V + i) = vlF a (L.getD i (0, 0, 0))) → vdM F (40 * f + V) L := by
  intro L
  induction L with
  | nil => intro V _ _; trivial
  | cons x L ih =>
    intro V hN hc
    rw [List.length_cons] at hN hc
    have h0 := hc 0 (by omega)
    obtain ⟨l1, l2, l3⟩ := hL V (by omega)
    have c10 := h0 10 (by decide) (by decide)
    have c11 := h0 11 (by decide) (by decide)
    have c12 := h0 12 (by decide) (by decide)
    rw [Nat.add_zero] at c10 c11 c12
    rw [c10] at l1
    rw [c11] at l2
    rw [c12] at l3
    refine ⟨l1, l2, l3, ?_⟩
    rw [show 40 * f + V + 1 = 40 * f + (V + 1) by omega]
    refine ih (V + 1) (by omega) (fun i hi a ha hb => ?_)
    have := hc (i + 1) (by omega) a ha hb
    rw [List.getD_cons_succ] at this
    rw [show V + 1 + i = V + (i + 1) by omega]
    exact this
/-- what the reference's rows say of a WORD of the list -/
theorem LX_at {F : Nat → Nat → Int32} {f : Nat} {T : List Hd} (hA : rAll F) (hf : f < 20) (hX : LX F f T) {k : Nat} (hk : k < T.length) : hdM F (40 * f + k) (grH T k) ∧ hvH (grH T k) ∧ (1 ≤ arH (grH T k) → (F 11 (40 * f + k)).toInt = 40 * (f : Int) + (k + 1 : Nat)) ∧ (arH (grH T k) = 2 → (F 12 (40 * f + k)).toInt = 40 * (f : Int) + grS T k) ∧ (F 9 (40 * f + k)).toInt = tcC T 1 k := by
  obtain ⟨⟨hok, hv, hd, h4, h5⟩, h6, hL, hz⟩ := hX
  obtain ⟨T1, x, R, e, l, gx⟩ := spl_at hk
  have hx := hv x (by rw [e]; exact List.mem_append.mpr (Or.inr List.mem_cons_self))
  obtain ⟨l7, l8, l9, l10, l11, l12, l13, l16⟩ := hL.1 k hk
  have hz := hz k hk
  have hok2 := hok
  rw [e] at hok2
  obtain ⟨o, o3, _, o4⟩ := tcC_at hok2
  have hle := nvT_le (T1 := T1) (h := x) (R := R)
  rw [← e] at o o3 o4 hle
  rw [l] at o o3 o4
  obtain ⟨c0, c2, c5, c6, c7, c8, cv⟩ := o
  have hAk := hA (40 * f + k) (by omega)
  rw [gx] at hz ⊢
  have hvl := LRv_vd hL.2 (vsH x) (nvT T1) (by rw [vsH_ln]; exact hle) (fun i hi a ha hb => cv i (by rw [vsH_ln] at hi; exact hi) a ha hb)
  refine ⟨⟨l7.trans c0, l8.trans c2, fun z => ?_, ?_⟩, hx, fun z => ?_, fun z => ?_, l9⟩
  · rw [← c8]
    exact l16 (by rw [c0]; exact z)
  · by_cases sm : 6 ≤ x.1 ∧ x.1 ≤ 9
    · rw [if_pos sm] at c5 c6 c7
      obtain ⟨a1, a2, a3⟩ := l13 (by rw [c0]; exact sm)
      refine ⟨nvT T1, by omega, by omega, by omega, by omega, ?_⟩
      rw [show (40 * f + k) / 40 = f by omega]
      exact hvl
    · obtain ⟨z1, z2⟩ := hz sm
      have e1 := hx.2.2.2.2.2.2 sm
      have e2 := (hx.2.2.2.2.1 (by omega)).2
      have en : nvH x = 0 := by unfold nvH; rw [e1, e2]; rfl
      have es : vsH x = [] := by unfold vsH; rw [e1, e2]; rfl
      refine ⟨(F 13 (40 * f + k)).toInt.toNat, by omega, ?_, ?_, by omega, by rw [es]; trivial⟩
      · rw [z1, e1, List.length_nil]; omega
      · rw [z2, en]; omega
  · rw [if_neg (by omega)] at o3
    rw [l11 (by omega), o3]
    omega
  · obtain ⟨m, hm⟩ := okT_r hok2
    rw [z, show m + 2 = 1 + (m + 1) by omega] at hm
    obtain ⟨A, B2, eR, hA2, hB⟩ := okT_spl hm
    have q := o4 z A B2 eR hA2
    rw [l12 (by omega)]
    unfold grS
    rw [q]
    omega
/-- the DEEDS of a WORD of the list, made shorter -/
theorem sj_at {T : List Hd} (hok : okT T 1) (hv : hvT T) {k : Nat} (hk : k < T.length) : (arH (grH T k) = 0 → sjT T k = lwT (grH T k) [] []) ∧ (arH (grH T k) = 1 → k + 1 < T.length ∧ sjT T k = lwT (grH T k) (sjT T (k + 1)) []) ∧ (arH (grH T k) = 2 → k + 1 < T.length ∧ k + 1 < grS T k ∧ grS T k < T.length ∧ sjT T k = lwT (grH T k) (sjT T (k + 1)) (sjT T (grS T k))) := by
  obtain ⟨T1, a, R, e, l, g⟩ := spl_at hk
  obtain ⟨m, hm⟩ := okT_r (T1 := T1) (h := a) (R := R) (by rw [← e]; exact hok)
  have d0 : T.drop k = a :: R := by rw [e, ← l]; exact drop_sp.1
  have d1 : T.drop (k + 1) = R := by rw [e, ← l]; exact drop_sp.2
  have hln : T.length = k + 1 + R.length := by rw [e, List.length_append, List.length_cons, l]; omega
  rw [g]
  refine ⟨fun z => sj_0 d0 z, fun z => ?_, fun z => ?_⟩
  · rw [z] at hm
    obtain ⟨r, R2, eR⟩ := okT_ne hm
    refine ⟨by rw [eR, List.length_cons] at hln; omega, sj_1 d0 d1 z hm⟩
  · rw [z, show m + 2 = 1 + (m + 1) by omega] at hm
    obtain ⟨A, B, eR, hA, hB⟩ := okT_spl hm
    obtain ⟨r, R2, eA⟩ := okT_ne (n := 0) hA
    obtain ⟨r2, R3, eB⟩ := okT_ne hB
    have q := (gr_hw hok T1 a R e).2.2 z A B eR hA
    rw [l] at q
    have d2 : T.drop (k + 1 + A.length) = B := by
      have e2 : T = (T1 ++ a :: A) ++ B := by rw [e, eR]; simp [List.append_assoc]
      have e3 : (T1 ++ a :: A).length = k + 1 + A.length := by rw [List.length_append, List.length_cons, l]; omega
      rw [e2, ← e3]
      exact drop_app
    rw [eR, List.length_append, eB, List.length_cons] at hln
    have la : 1 ≤ A.length := by rw [eA, List.length_cons]; omega
    rw [q]
    exact ⟨by omega, by omega, by omega, sj_2 (by rw [← eR]; exact d0) (by rw [← eR]; exact d1) d2 z hA hB⟩
theorem enN_cg {F F2 : Nat → Nat → Int32} {fo bn : Nat} {T : List Hd} {H : Nat → Hd} {fi se : Nat → Nat} {k u A0 B0 : Nat} {h h2 : Hd} (hw : ∀ r, r ∈ [7, 8, 13, 14, 15, 16, 18, 19, 20] → F2 r = F r) (h5 : ∀ r, r ∈ [76, 77, 78, 79, 80] → F2 r (bn + k) = F r (bn + k)) (ho : ∀ i, bn + (k + 1) ≤ i → F2 82 i = F 82 i) (hW : T.length ≤ 40) (hk : k < T.length) (en : enN F fo bn T H fi se k h h2 A0 B0 u) : enN F2 fo bn T H fi se k h h2 A0 B0 u := by
  have g2 : ∀ y, gnN F bn T.length k y → gnN F2 bn T.length k y := fun y hy => by
    rcases hy with z | ⟨z1, z2, z3⟩
    · exact Or.inl z
    · exact Or.inr ⟨z1, z2, by unfold fxN at z3 ⊢; rw [ho y (by omega)]; exact z3⟩
  obtain ⟨e78, e79, hn, vh, en0, en2, en1⟩ := en
  refine ⟨by rw [h5 78 (by decide)]; exact e78, by rw [h5 79 (by decide)]; exact e79, nD_cg hw (h5 76 (by decide)) (h5 77 (by decide)) (h5 80 (by decide)) hn, vh, en0, fun z => ?_, fun z => ?_⟩
  · obtain ⟨a, b, c⟩ := en2 z
    exact ⟨g2 _ a, g2 _ b, c⟩
  · obtain ⟨a, b⟩ := en1 z
    refine ⟨a, ?_⟩
    rcases b with ⟨b1, b2, b3⟩ | ⟨b1, A1, b2, b3⟩
    · exact Or.inl ⟨b1, g2 _ b2, b3⟩
    · exact Or.inr ⟨b1, A1, g2 _ b2, b3⟩
/-- a node's entries, as shortens makes them -/
theorem en_mk {F F2 : Nat → Nat → Int32} {fo bn : Nat} {T : List Hd} {H : Nat → Hd} {fi se : Nat → Nat} {k : Nat} (hA : rAll F) (hf : fo < 20) (hX : LX F fo T) (hk : k < T.length) (hE : shE F fo bn T H fi se (k + 1)) (hw : ∀ r, r ∈ [7, 8, 13, 14, 15, 16, 18, 19, 20] → F2 r = F r) (ho : ∀ i, bn + (k + 1) ≤ i → F2 82 i = F 82 i)
    (e80 : (F2 80 (bn + k)).toInt = 40 * (fo : Int) + k) (e76 : F2 76 (bn + k) = F 7 (40 * fo + k))
    (e0 : (F 7 (40 * fo + k)).toInt ≤ 1 → (F2 78 (bn + k)).toInt = (bn : Int) + 40 ∧ (F2 79 (bn + k)).toInt = (bn : Int) + 40 ∧ F2 77 (bn + k) = F 8 (40 * fo + k))
    (e2 : 3 ≤ (F 7 (40 * fo + k)).toInt ∧ (F 7 (40 * fo + k)).toInt ≤ 5 → ∀ u : Nat, (F 12 (40 * fo + k)).toInt = 40 * (fo : Int) + u → F2 78 (bn + k) = F 82 (bn + (k + 1)) ∧ F2 79 (bn + k) = F 82 (bn + u) ∧ F2 77 (bn + k) = F 8 (40 * fo + k))
    (e1 : (F 7 (40 * fo + k)).toInt = 2 ∨ 6 ≤ (F 7 (40 * fo + k)).toInt → (F2 79 (bn + k)).toInt = (bn : Int) + 40 ∧ ((¬ ((F 7 (40 * fo + k)).toInt = 10 ∧ (F 76 (F 82 (bn + (k + 1))).toInt.toNat).toInt = 10) ∧ F2 78 (bn + k) = F 82 (bn + (k + 1)) ∧ F2 77 (bn + k) = F 8 (40 * fo + k))
      ∨ ((F 7 (40 * fo + k)).toInt = 10 ∧ (F 76 (F 82 (bn + (k + 1))).toInt.toNat).toInt = 10 ∧ F2 78 (bn + k) = F 78 (F 82 (bn + (k + 1))).toInt.toNat ∧ (F2 77 (bn + k)).toInt = (if (F 77 (F 82 (bn + (k + 1))).toInt.toNat).toInt < (F 8 (40 * fo + k)).toInt then (F 77 (F 82 (bn + (k + 1))).toInt.toNat).toInt else (F 8 (40 * fo + k)).toInt)))) :
    ∃ (h2 : Hd) (A0 B0 : Nat), enN F2 fo bn T H fi se k (grH T k) h2 A0 B0 (grS T k) := by
  obtain ⟨hd, vh, _, h12, _⟩ := LX_at hA hf hX hk
  obtain ⟨⟨hok, hv, _, h4, _⟩, _⟩ := hX
  obtain ⟨_, s1, s2⟩ := sj_at hok hv hk
  have hk2 := arH_k vh
  have h7 := hd.1
  have h8 := hd.2.1
  have hdm := hdM_cg hw hd
  obtain ⟨⟨q76, q77, q81, q82, qn⟩, qA, qB, qC, qD, qE⟩ := hE
  have fx : ∀ x, bn + (k + 1) ≤ x → (fxN F2 x ↔ fxN F x) := fun x hx => by unfold fxN; rw [ho x hx]
  have gch : ∀ j, k + 1 ≤ j → j < T.length → ∃ R : Nat, (F 82 (bn + j)).toInt = (R : Int) ∧ gnN F2 bn T.length k R ∧ trG H fi se 41 R = sjT T j ∧ (R = bn + 40 ∨ (bn + (k + 1) ≤ R ∧ R < bn + T.length ∧ fxN F R)) := fun j h1 h2 => by
    obtain ⟨R, r1, r2, r3⟩ := qA j h1 h2
    refine ⟨R, r1, ?_, r3, ?_⟩
    · rcases r2 with z | ⟨z1, z2, z3⟩
      · exact Or.inl z
      · exact Or.inr ⟨by omega, z2, (fx R (by omega)).mpr z3⟩
    · rcases r2 with z | ⟨z1, z2, z3⟩
      · exact Or.inl z
      · exact Or.inr ⟨by omega, z2, z3⟩
  have same : F2 77 (bn + k) = F 8 (40 * fo + k) → nD F2 fo (bn + k) (grH T k) := fun e77 => ⟨vh, by rw [e76]; exact h7, by rw [e77]; exact h8, k, grH T k, by omega, e80, hdm, vh, rfl, rfl⟩
  by_cases a0 : arH (grH T k) = 0
  · obtain ⟨c1, c2, c3⟩ := e0 (by omega)
    exact ⟨grH T k, bn + 40, bn + 40, by omega, by omega, same c3, vh, fun _ => ⟨rfl, rfl, rfl⟩, fun z => by omega, fun z => by omega⟩
  · by_cases a2 : arH (grH T k) = 2
    · obtain ⟨k1, k2, k3, _⟩ := s2 a2
      obtain ⟨c1, c2, c3⟩ := e2 (by omega) (grS T k) (h12 a2)
      obtain ⟨R1, r1, r2, r3, _⟩ := gch (k + 1) (by omega) k1
      obtain ⟨R2, t1, t2, t3, _⟩ := gch (grS T k) (by omega) k3
      exact ⟨grH T k, R1, R2, by rw [c1]; exact r1, by rw [c2]; exact t1, same c3, vh, fun z => by omega, fun _ => ⟨r2, t2, r3, t3, rfl⟩, fun z => by omega⟩
    · have a1 : arH (grH T k) = 1 := by omega
      obtain ⟨k1, _⟩ := s1 a1
      obtain ⟨c1, c2⟩ := e1 (by omega)
      obtain ⟨R1, r1, r2, r3, r4⟩ := gch (k + 1) (by omega) k1
      have eR : (F 82 (bn + (k + 1))).toInt.toNat = R1 := by omega
      rw [eR] at c2
      have kR : (F 76 R1).toInt = (H R1).1 := by
        rcases r4 with z | ⟨z1, z2, z3⟩
        · rw [z, qn, q76]; rfl
        · obtain ⟨b1, _⟩ := qB (R1 - bn) (by omega) (by omega) (by rw [show bn + (R1 - bn) = R1 by omega]; exact z3)
          rw [show bn + (R1 - bn) = R1 by omega] at b1
          exact b1.2.1
      rcases c2 with ⟨d1, d2, d3⟩ | ⟨d1, d2, d3, d4⟩
      · refine ⟨grH T k, R1, bn + 40, by rw [d2]; exact r1, by omega, same d3, vh, fun z => by omega, fun z => by omega, fun _ => ⟨rfl, Or.inl ⟨fun z => d1 ⟨by omega, ?_⟩, r2, r3, rfl⟩⟩⟩
        rw [← r3] at z
        rw [kR]
        exact z.2
      · have n1 : ¬ R1 = bn + 40 := fun z => by rw [kR, z, qn] at d2; exact absurd d2 (by decide)
        rcases r4 with z | ⟨z1, z2, z3⟩
        · exact absurd z n1
        · obtain ⟨b1, b2, _, _⟩ := qB (R1 - bn) (by omega) (by omega) (by rw [show bn + (R1 - bn) = R1 by omega]; exact z3)
          rw [show bn + (R1 - bn) = R1 by omega] at b1 b2
          have b1c := b1.1
          have hkR := arH_k b1c
          obtain ⟨c78, _, _⟩ := b2 (by omega)
          have e77 := b1.2.2.1
          obtain ⟨p0, p1, p2, p3, p4, p5, p6⟩ := id vh
          have nk := p1 (by omega)
          have nR := b1c.2.1 (by omega)
          refine ⟨((grH T k).1, (if (H R1).2.1 < (grH T k).2.1 then (H R1).2.1 else (grH T k).2.1), (grH T k).2.2), fi R1, bn + 40, by rw [d3]; exact c78, by omega, ⟨⟨p0, fun _ => ?_, fun z => absurd (show (grH T k).1 = 5 ∨ (grH T k).1 = 10 by omega) z, p3, p4, p5, p6⟩, by rw [e76]; exact h7, ?_, k, grH T k, by omega, e80, hdm, vh, rfl, rfl⟩, vh, fun z => by omega, fun z => by omega, fun _ => ⟨rfl, Or.inr ⟨by omega, R1, r2, r3, by omega, rfl, rfl⟩⟩⟩
          · show 0 ≤ (if (H R1).2.1 < (grH T k).2.1 then (H R1).2.1 else (grH T k).2.1) ∧ (if (H R1).2.1 < (grH T k).2.1 then (H R1).2.1 else (grH T k).2.1) ≤ 99999
            split <;> omega
          · rw [d4, e77, h8]
