/-! the reference's nodes and the lists -/
noncomputable def sjT (T : List Hd) (j : Nat) : List Hd := shT (T.drop j)
theorem drop_app {A B : List Hd} : (A ++ B).drop A.length = B := by
  induction A with
  | nil => rfl
  | cons x A ih => exact ih
theorem sj_0 {T R : List Hd} {h : Hd} {k : Nat} (e : T.drop k = h :: R) (a : arH h = 0) : sjT T k = lwT h [] [] := by
  unfold sjT shT
  rw [e]
  show ((shS h (shF R)).headD (0, [])).2 = _
  unfold shS
  rw [if_pos a]
  rfl
theorem sj_1 {T R : List Hd} {h : Hd} {k m : Nat} (e : T.drop k = h :: R) (e1 : T.drop (k + 1) = R) (a : arH h = 1) (hR : okT R (m + 1)) : sjT T k = lwT h (sjT T (k + 1)) [] := by
  unfold sjT shT
  rw [e, e1]
  show ((shS h (shF R)).headD (0, [])).2 = _
  have l := shF_n hR
  cases hq : shF R with
  | nil => rw [hq, List.length_nil] at l; omega
  | cons x Fs =>
    obtain ⟨n, S⟩ := x
    unfold shS
    rw [if_neg (by omega), if_pos a]
    rfl
theorem sj_2 {T A B : List Hd} {h : Hd} {k m : Nat} (e : T.drop k = h :: (A ++ B)) (e1 : T.drop (k + 1) = A ++ B) (e2 : T.drop (k + 1 + A.length) = B) (a : arH h = 2) (hA : okT A 1) (hB : okT B (m + 1)) : sjT T k = lwT h (sjT T (k + 1)) (sjT T (k + 1 + A.length)) := by
  unfold sjT shT
  rw [e, e1, e2]
  show ((shS h (shF (A ++ B))).headD (0, [])).2 = _
  obtain ⟨S, eS⟩ := shF_1 (B := B) hA
  rw [eS]
  have l := shF_n hB
  cases hq : shF B with
  | nil => rw [hq, List.length_nil] at l; omega
  | cons x Fs =>
    obtain ⟨n, U⟩ := x
    unfold shS
    rw [if_neg (by omega), if_neg (by omega)]
    rfl
/-- a node that has become itself -/
def fxN (F : Nat → Nat → Int32) (x : Nat) : Prop := (F 82 x).toInt = (x : Int)
def gnN (F : Nat → Nat → Int32) (bn W k y : Nat) : Prop := y = bn + 40 ∨ (bn + k < y ∧ y < bn + W ∧ fxN F y)
def dnN (F : Nat → Nat → Int32) (bn W p x : Nat) : Prop := x = bn + 40 ∨ (bn + p ≤ x ∧ x < bn + W ∧ fxN F x)
/-- nodes from p on hold what the WORDS of the list T have become -/
def shE (F : Nat → Nat → Int32) (fo bn : Nat) (T : List Hd) (H : Nat → Hd) (fi se : Nat → Nat) (p : Nat) : Prop :=
  ((F 76 (bn + 40)).toInt = 0 ∧ (F 77 (bn + 40)).toInt = -1 ∧ (F 81 (bn + 40)).toInt = (bn : Int) + 40 ∧ (F 82 (bn + 40)).toInt = (bn : Int) + 40 ∧ H (bn + 40) = noH)
  ∧ (∀ j, p ≤ j → j < T.length → ∃ R : Nat, (F 82 (bn + j)).toInt = (R : Int) ∧ (R = bn + 40 ∨ (bn + j ≤ R ∧ R < bn + T.length ∧ fxN F R)) ∧ trG H fi se 41 R = sjT T j)
  ∧ (∀ j, p ≤ j → j < T.length → fxN F (bn + j) → nD F fo (bn + j) (H (bn + j)) ∧ (1 ≤ arH (H (bn + j)) → (F 78 (bn + j)).toInt = (fi (bn + j) : Int) ∧ gnN F bn T.length j (fi (bn + j)) ∧ (arH (H (bn + j)) = 1 → fi (bn + j) ≠ bn + 40)) ∧ (arH (H (bn + j)) = 2 → (F 79 (bn + j)).toInt = (se (bn + j) : Int) ∧ gnN F bn T.length j (se (bn + j))) ∧ (H (bn + j)).1 ≠ 0)
  ∧ (∀ x y, dnN F bn T.length p x → dnN F bn T.length p y → ((F 81 x).toInt = (F 81 y).toInt ↔ trG H fi se 41 x = trG H fi se 41 y))
  ∧ (∀ x, dnN F bn T.length p x → (bn : Int) + p ≤ (F 81 x).toInt ∧ (F 81 x).toInt ≤ (bn : Int) + 40)
  ∧ (∀ w, bn + p ≤ w → w < bn + 41 → (1 ≤ arH (H w) → w < fi w ∧ fi w < bn + 41) ∧ (arH (H w) = 2 → w < se w ∧ se w < bn + 41))
section NE
variable {F F2 : Nat → Nat → Int32} {fo bn : Nat} {T : List Hd} {H : Nat → Hd} {fi se : Nat → Nat} {p k : Nat}
/-- the rows that a WORD's head stands in -/
theorem vdM_cg {F F2 : Nat → Nat → Int32} (h : ∀ r, r ∈ [18, 19, 20] → F2 r = F r) : ∀ {L : List Vl} {V : Nat}, vdM F V L → vdM F2 V L := by
  intro L
  induction L with
  | nil => intro V _; trivial
  | cons x L ih =>
    intro V k
    exact ⟨by rw [h 18 (by decide)]; exact k.1, by rw [h 19 (by decide)]; exact k.2.1, by rw [h 20 (by decide)]; exact k.2.2.1, ih k.2.2.2⟩
theorem hdM_cg {F F2 : Nat → Nat → Int32} {w : Nat} {x : Hd} (h : ∀ r, r ∈ [7, 8, 13, 14, 15, 16, 18, 19, 20] → F2 r = F r) (k : hdM F w x) : hdM F2 w x := by
  obtain ⟨k7, k8, k16, V, k13, k14, k15, k40, kv⟩ := k
  refine ⟨by rw [h 7 (by decide)]; exact k7, by rw [h 8 (by decide)]; exact k8, fun z => by rw [h 16 (by decide)]; exact k16 z, V, by rw [h 13 (by decide)]; exact k13, by rw [h 14 (by decide)]; exact k14, by rw [h 15 (by decide)]; exact k15, k40, vdM_cg (fun r hr => h r ?_) kv⟩
  simp only [List.mem_cons, List.not_mem_nil, or_false] at hr ⊢
  omega
theorem nD_cg {x : Nat} {h : Hd} (hw : ∀ r, r ∈ [7, 8, 13, 14, 15, 16, 18, 19, 20] → F2 r = F r) (e76 : F2 76 x = F 76 x) (e77 : F2 77 x = F 77 x) (e80 : F2 80 x = F 80 x) (k : nD F fo x h) : nD F2 fo x h := by
  obtain ⟨k1, k2, k3, kk, y, l, k4, k5, k6⟩ := k
  exact ⟨k1, by rw [e76]; exact k2, by rw [e77]; exact k3, kk, y, l, by rw [e80]; exact k4, hdM_cg hw k5, k6⟩
/-- what lies ahead of p may change -/
theorem shE_cg (hw : ∀ r, r ∈ [7, 8, 13, 14, 15, 16, 18, 19, 20] → F2 r = F r) (ho : ∀ r, r ∈ [76, 77, 78, 79, 80, 81, 82] → ∀ i, bn + p ≤ i → F2 r i = F r i) (hp : p ≤ 40) (q : shE F fo bn T H fi se p) : shE F2 fo bn T H fi se p := by
  obtain ⟨q0, qA, qB, qC, qD, qE⟩ := q
  have fx : ∀ x, bn + p ≤ x → (fxN F2 x ↔ fxN F x) := fun x hx => by unfold fxN; rw [ho 82 (by decide) x hx]
  have dn : ∀ x, dnN F2 bn T.length p x → dnN F bn T.length p x := fun x hx => by
    rcases hx with z | ⟨z1, z2, z3⟩
    · exact Or.inl z
    · exact Or.inr ⟨z1, z2, (fx x z1).mp z3⟩
  have dnx : ∀ x, dnN F2 bn T.length p x → bn + p ≤ x := fun x hx => by
    rcases hx with z | ⟨z1, z2, z3⟩ <;> omega
  have gn : ∀ j y, p ≤ j → gnN F bn T.length j y → gnN F2 bn T.length j y := fun j y hj hy => by
    rcases hy with z | ⟨z1, z2, z3⟩
    · exact Or.inl z
    · exact Or.inr ⟨z1, z2, (fx y (by omega)).mpr z3⟩
  refine ⟨by rw [ho 76 (by decide) _ (by omega), ho 77 (by decide) _ (by omega), ho 81 (by decide) _ (by omega), ho 82 (by decide) _ (by omega)]; exact q0, fun j h1 h2 => ?_, fun j h1 h2 h3 => ?_, fun x y hx hy => ?_, fun x hx => ?_, qE⟩
  · obtain ⟨R, r1, r2, r3⟩ := qA j h1 h2
    refine ⟨R, by rw [ho 82 (by decide) _ (by omega)]; exact r1, ?_, r3⟩
    rcases r2 with z | ⟨z1, z2, z3⟩
    · exact Or.inl z
    · exact Or.inr ⟨z1, z2, (fx R (by omega)).mpr z3⟩
  · obtain ⟨b1, b2, b3, b4⟩ := qB j h1 h2 ((fx _ (by omega)).mp h3)
    refine ⟨nD_cg hw (ho 76 (by decide) _ (by omega)) (ho 77 (by decide) _ (by omega)) (ho 80 (by decide) _ (by omega)) b1, fun z => ?_, fun z => ?_, b4⟩
    · obtain ⟨c1, c2, c3⟩ := b2 z
      exact ⟨by rw [ho 78 (by decide) _ (by omega)]; exact c1, gn j _ h1 c2, c3⟩
    · obtain ⟨c1, c2⟩ := b3 z
      exact ⟨by rw [ho 79 (by decide) _ (by omega)]; exact c1, gn j _ h1 c2⟩
  · rw [ho 81 (by decide) _ (dnx x hx), ho 81 (by decide) _ (dnx y hy)]
    exact qC x y (dn x hx) (dn y hy)
  · rw [ho 81 (by decide) _ (dnx x hx)]
    exact qD x (dn x hx)
theorem tn_fu {lo x : Nat} (hE : ∀ w, lo ≤ w → w < bn + 41 → (1 ≤ arH (H w) → w < fi w ∧ fi w < bn + 41) ∧ (arH (H w) = 2 → w < se w ∧ se w < bn + 41)) (hlo : lo ≤ x) (h1 : bn + 1 ≤ x) (h2 : x < bn + 41) : trG H fi se 40 x = trG H fi se 41 x := trG_cg (lo := lo) (m := bn + 41) hE (fun w _ _ => ⟨rfl, fun _ => rfl, fun _ => rfl⟩) 41 40 x hlo h2 (by omega) (by omega)
theorem tn_2 {lo x : Nat} (hE : ∀ w, lo ≤ w → w < bn + 41 → (1 ≤ arH (H w) → w < fi w ∧ fi w < bn + 41) ∧ (arH (H w) = 2 → w < se w ∧ se w < bn + 41)) (hlo : lo ≤ x) (h1 : bn ≤ x) (h2 : x < bn + 41) (a : arH (H x) = 2) : trG H fi se 41 x = H x :: (trG H fi se 41 (fi x) ++ trG H fi se 41 (se x)) := by
  obtain ⟨e1, e2⟩ := hE x hlo h2
  have e3 := e1 (by omega)
  have e4 := e2 a
  rw [show (41 : Nat) = 40 + 1 from rfl, tr_2 a, tn_fu (bn := bn) hE (by omega) (by omega) e3.2, tn_fu (bn := bn) hE (by omega) (by omega) e4.2]
theorem tn_1 {lo x : Nat} (hE : ∀ w, lo ≤ w → w < bn + 41 → (1 ≤ arH (H w) → w < fi w ∧ fi w < bn + 41) ∧ (arH (H w) = 2 → w < se w ∧ se w < bn + 41)) (hlo : lo ≤ x) (h1 : bn ≤ x) (h2 : x < bn + 41) (a : arH (H x) = 1) : trG H fi se 41 x = H x :: trG H fi se 41 (fi x) := by
  obtain ⟨e1, _⟩ := hE x hlo h2
  have e3 := e1 (by omega)
  rw [show (41 : Nat) = 40 + 1 from rfl, tr_1 a, tn_fu (bn := bn) hE (by omega) (by omega) e3.2]
end NE
/-- what a node's entries are made of: its DEEDS A0, B0; two caps one within the other are one -/
def enN (F : Nat → Nat → Int32) (fo bn : Nat) (T : List Hd) (H : Nat → Hd) (fi se : Nat → Nat) (k : Nat) (h h2 : Hd) (A0 B0 u : Nat) : Prop :=
  (F 78 (bn + k)).toInt = (A0 : Int) ∧ (F 79 (bn + k)).toInt = (B0 : Int) ∧ nD F fo (bn + k) h2 ∧ hvH h
  ∧ (arH h = 0 → A0 = bn + 40 ∧ B0 = bn + 40 ∧ h2 = h)
  ∧ (arH h = 2 → gnN F bn T.length k A0 ∧ gnN F bn T.length k B0 ∧ trG H fi se 41 A0 = sjT T (k + 1) ∧ trG H fi se 41 B0 = sjT T u ∧ h2 = h)
  ∧ (arH h = 1 → B0 = bn + 40 ∧ ((¬ (h.1 = 10 ∧ kdT (sjT T (k + 1)) = 10) ∧ gnN F bn T.length k A0 ∧ trG H fi se 41 A0 = sjT T (k + 1) ∧ h2 = h)
      ∨ (h.1 = 10 ∧ ∃ A1 : Nat, gnN F bn T.length k A1 ∧ trG H fi se 41 A1 = sjT T (k + 1) ∧ (H A1).1 = 10 ∧ A0 = fi A1 ∧ h2 = (h.1, (if (H A1).2.1 < h.2.1 then (H A1).2.1 else h.2.1), h.2.2))))
def chN (F : Nat → Nat → Int32) (bn k : Nat) (T : List Hd) (y : Nat) : Prop := ∃ j, y = bn + j ∧ k + 1 ≤ j ∧ j < T.length ∧ fxN F (bn + j)
def lgN (F : Nat → Nat → Int32) (bn k : Nat) (T : List Hd) (H : Nat → Hd) (fi se : Nat → Nat) (h2 : Hd) (A0 B0 : Nat) (r : Int) : Prop := ∃ R : Nat, r = (R : Int) ∧ (R = bn + 40 ∨ R = bn + k ∨ (bn + k < R ∧ R < bn + T.length ∧ fxN F R)) ∧ (R ≠ bn + k → trG H fi se 41 R = sjT T k) ∧ (R = bn + k → h2.1 ≠ 0 ∧ (arH h2 = 0 → sjT T k = [h2]) ∧ (arH h2 = 1 → A0 ≠ bn + 40 ∧ sjT T k = h2 :: trG H fi se 41 A0) ∧ (arH h2 = 2 → sjT T k = h2 :: (trG H fi se 41 A0 ++ trG H fi se 41 B0)))
theorem ch_mk {F : Nat → Nat → Int32} {bn k : Nat} {T : List Hd} {y : Nat} (h : ∃ j, y = bn + j ∧ k + 1 ≤ j ∧ j < T.length ∧ fxN F (bn + j)) : chN F bn k T y := h
theorem lg_mk {F : Nat → Nat → Int32} {bn k : Nat} {T : List Hd} {H : Nat → Hd} {fi se : Nat → Nat} {h2 : Hd} {A0 B0 : Nat} {r : Int} (h : ∃ R : Nat, r = (R : Int) ∧ (R = bn + 40 ∨ R = bn + k ∨ (bn + k < R ∧ R < bn + T.length ∧ fxN F R)) ∧ (R ≠ bn + k → trG H fi se 41 R = sjT T k) ∧ (R = bn + k → h2.1 ≠ 0 ∧ (arH h2 = 0 → sjT T k = [h2]) ∧ (arH h2 = 1 → A0 ≠ bn + 40 ∧ sjT T k = h2 :: trG H fi se 41 A0) ∧ (arH h2 = 2 → sjT T k = h2 :: (trG H fi se 41 A0 ++ trG H fi se 41 B0)))) : lgN F bn k T H fi se h2 A0 B0 r := h
set_option maxHeartbeats 4000000 in
/-- the law of the node at k -/
theorem law_ok {F : Nat → Nat → Int32} {fo bn : Nat} {T : List Hd} {H : Nat → Hd} {fi se : Nat → Nat} {k u A0 B0 : Nat} {h h2 : Hd} {r : Int} (hE : shE F fo bn T H fi se (k + 1)) (hW : T.length ≤ 40) (hk : k < T.length) (en : enN F fo bn T H fi se k h h2 A0 B0 u)
    (hs0 : arH h = 0 → sjT T k = lwT h [] []) (hs1 : arH h = 1 → sjT T k = lwT h (sjT T (k + 1)) []) (hs2 : arH h = 2 → sjT T k = lwT h (sjT T (k + 1)) (sjT T u)) (hr : lawN F h2 (bn + k) ((bn : Int) + 40) r) :
    ∃ R : Nat, r = (R : Int) ∧ (R = bn + 40 ∨ R = bn + k ∨ (bn + k < R ∧ R < bn + T.length ∧ fxN F R))
      ∧ (R ≠ bn + k → trG H fi se 41 R = sjT T k)
      ∧ (R = bn + k → h2.1 ≠ 0 ∧ (arH h2 = 0 → sjT T k = [h2]) ∧ (arH h2 = 1 → A0 ≠ bn + 40 ∧ sjT T k = h2 :: trG H fi se 41 A0) ∧ (arH h2 = 2 → sjT T k = h2 :: (trG H fi se 41 A0 ++ trG H fi se 41 B0))) := by
  obtain ⟨⟨q76, q77, q81, q82, qn⟩, qA, qB, qC, qD, qE⟩ := hE
  obtain ⟨e78, e79, hn, vh, en0, en2, en1⟩ := en
  have en1' := fun (_ : Unit) => en1
  clear en1
  have v2 := hn.1
  have hk2 := arH_k vh
  have kk := arH_k v2
  have v2k := v2.1
  obtain ⟨r0, r1, r2, r3, r4, r9, r6⟩ := hr
  rw [e78] at r2 r3 r4 r9 r6
  rw [e79] at r3 r4
  have r0' := fun (_ : Unit) => r0
  have r1' := fun (_ : Unit) => r1
  have r2' := fun (_ : Unit) => r2
  have r3' := fun (_ : Unit) => r3
  have r4' := fun (_ : Unit) => r4
  have r9' := fun (_ : Unit) => r9
  have r6' := fun (_ : Unit) => r6
  have en0' := fun (_ : Unit) => en0
  have en2' := fun (_ : Unit) => en2
  have hs0' := fun (_ : Unit) => hs0
  have hs1' := fun (_ : Unit) => hs1
  have hs2' := fun (_ : Unit) => hs2
  clear r0 r1 r2 r3 r4 r9 r6 en0 en2 hs0 hs1 hs2
  have tnb : trG H fi se 41 (bn + 40) = [noH] := by rw [← qn]; exact tr_0 (by rw [qn]; rfl)
  -- a DEED's node: nothing or a node that has become itself
  have ch : ∀ y, gnN F bn T.length k y → (y = bn + 40 ↔ kdT (trG H fi se 41 y) = 0) ∧ (y ≠ bn + 40 → (F 76 y).toInt = (H y).1 ∧ chN F bn k T y) ∧ kdT (trG H fi se 41 y) = (H y).1 := fun y hy => by
    refine ⟨⟨fun z => by rw [z, tnb]; rfl, fun z => ?_⟩, fun z => ?_, rfl⟩
    · rcases hy with e | ⟨y1, y2, y3⟩
      · exact e
      · exfalso
        obtain ⟨_, _, _, b4⟩ := qB (y - bn) (by omega) (by omega) (by rw [show bn + (y - bn) = y by omega]; exact y3)
        rw [show bn + (y - bn) = y by omega] at b4
        exact b4 z
    · rcases hy with e | ⟨y1, y2, y3⟩
      · exact absurd e z
      · have fy : fxN F (bn + (y - bn)) := by rw [show bn + (y - bn) = y by omega]; exact y3
        obtain ⟨b1, _, _, _⟩ := qB (y - bn) (by omega) (by omega) fy
        rw [show bn + (y - bn) = y by omega] at b1
        exact ⟨b1.2.1, ch_mk ⟨y - bn, by omega, by omega, by omega, fy⟩⟩
  have fin : ∀ y, gnN F bn T.length k y → (y = bn + 40 ∨ y = bn + k ∨ (bn + k < y ∧ y < bn + T.length ∧ fxN F y)) := fun y hy => by
    rcases hy with e | e
    · exact Or.inl e
    · exact Or.inr (Or.inr e)
  have gne : ∀ y, gnN F bn T.length k y → y ≠ bn + k := fun y hy => by
    rcases hy with e | ⟨e, _, _⟩ <;> omega
  have nbk : bn + 40 ≠ bn + k := by omega
  by_cases a0 : arH h = 0
  · obtain ⟨eA, eB, e2⟩ := en0' () a0
    subst e2
    have hs := hs0' () a0
    unfold lwT at hs
    rw [if_pos (by omega)] at hs
    by_cases k0 : h2.1 = 0
    · refine ⟨bn + 40, by rw [r0' () k0]; omega, Or.inl rfl, fun _ => ?_, fun z => absurd z nbk⟩
      rw [hs, tnb, hvH_no v2 k0]
    · exact ⟨bn + k, by rw [r1' () (by have := v2.1; omega)], Or.inr (Or.inl rfl), fun z => absurd rfl z, fun _ => ⟨k0, fun _ => hs, fun z => by omega, fun z => by omega⟩⟩
  · by_cases a2 : arH h = 2
    · obtain ⟨gA, gB, tA, tB, e2⟩ := en2' () a2
      subst e2
      have hs := hs2' () a2
      rw [← tA, ← tB] at hs
      obtain ⟨zA, nA, dA⟩ := ch A0 gA
      obtain ⟨zB, nB, dB⟩ := ch B0 gB
      by_cases c3 : h2.1 = 3
      · obtain ⟨s1, s2⟩ := r3' () c3
        by_cases n1 : A0 = bn + 40
        · rw [lw_3a c3 (zA.mp n1)] at hs
          exact ⟨B0, s1 (by omega), fin B0 gB, fun _ => hs.symm, fun z => absurd z (gne B0 gB)⟩
        · obtain ⟨s3, s4⟩ := s2 (by omega)
          by_cases n2 : B0 = bn + 40
          · rw [lw_3b c3 (fun z => n1 (zA.mpr z)) (zB.mp n2)] at hs
            exact ⟨A0, s3 (by omega), fin A0 gA, fun _ => hs.symm, fun z => absurd z (gne A0 gA)⟩
          · rw [lw_3c c3 (fun z => n1 (zA.mpr z)) (fun z => n2 (zB.mpr z))] at hs
            exact ⟨bn + k, by rw [s4 (by omega)], Or.inr (Or.inl rfl), fun z => absurd rfl z, fun _ => ⟨by omega, fun z => by omega, fun z => by omega, fun _ => hs⟩⟩
      · obtain ⟨s1, s2⟩ := r4' () (by omega)
        have dnA : dnN F bn T.length (k + 1) A0 := by
          rcases gA with e | ⟨e1, e2, e3⟩
          · exact Or.inl e
          · exact Or.inr ⟨by omega, e2, e3⟩
        have dnB : dnN F bn T.length (k + 1) B0 := by
          rcases gB with e | ⟨e1, e2, e3⟩
          · exact Or.inl e
          · exact Or.inr ⟨by omega, e2, e3⟩
        have qc := qC A0 B0 dnA dnB
        have eA0 : (A0 : Int).toNat = A0 := Int.toNat_natCast A0
        have eB0 : (B0 : Int).toNat = B0 := Int.toNat_natCast B0
        rw [eA0, eB0] at s1 s2
        by_cases c : (F 81 A0).toInt = (F 81 B0).toInt
        · rw [lw_4a (by omega) (qc.mp c)] at hs
          exact ⟨A0, s1 c, fin A0 gA, fun _ => hs.symm, fun z => absurd z (gne A0 gA)⟩
        · rw [lw_4b (by omega) (fun z => c (qc.mpr z))] at hs
          exact ⟨bn + k, by rw [s2 c], Or.inr (Or.inl rfl), fun z => absurd rfl z, fun _ => ⟨by omega, fun z => by omega, fun z => by omega, fun _ => hs⟩⟩
    · have a1 : arH h = 1 := by omega
      have hs := hs1' () a1
      obtain ⟨eB, en1⟩ := en1' () a1
      rcases en1 with ⟨nc, gA, tA, e2⟩ | ⟨c10, A1, gA, tA, hA10, eA0, e2⟩
      · subst e2
        rw [← tA] at hs nc
        obtain ⟨zA, nA, dA⟩ := ch A0 gA
        have self : sjT T k = h2 :: trG H fi se 41 A0 → A0 ≠ bn + 40 → lgN F bn k T H fi se h2 A0 B0 ((bn + k : Nat) : Int) := fun e n => lg_mk ⟨bn + k, rfl, Or.inr (Or.inl rfl), fun z => absurd rfl z, fun _ => ⟨by omega, fun z => by omega, fun _ => ⟨n, e⟩, fun z => by omega⟩⟩
        have none : sjT T k = [noH] → lgN F bn k T H fi se h2 A0 B0 ((bn : Int) + 40) := fun e => lg_mk ⟨bn + 40, by omega, Or.inl rfl, fun _ => by rw [tnb, e], fun z => absurd z nbk⟩
        have child : ∀ y, gnN F bn T.length k y → trG H fi se 41 y = sjT T k → lgN F bn k T H fi se h2 A0 B0 (y : Int) := fun y gy ty => lg_mk ⟨y, rfl, fin y gy, fun _ => ty, fun z => absurd z (gne y gy)⟩
        by_cases n1 : A0 = bn + 40
        · have hn1 := zA.mp n1
          have hl : sjT T k = [noH] := by
            rw [hs]
            have e1 : lwT h2 (trG H fi se 41 A0) [] = trG H fi se 41 A0 := lw_n1 (by omega) hn1
            rw [e1, n1, tnb]
          have er : r = (bn : Int) + 40 := by
            by_cases c2 : h2.1 = 2
            · exact (r2' () c2).1 (by omega)
            · by_cases c9 : h2.1 = 9
              · exact (r9' () c9).1 (by omega)
              · exact (r6' () (by omega)).1 (by omega)
          rw [er]
          exact none hl
        · have hn1 : ¬ kdT (trG H fi se 41 A0) = 0 := fun z => n1 (zA.mpr z)
          obtain ⟨f76, hch⟩ := nA n1
          obtain ⟨j, ej, j1, j2, fj⟩ := hch
          obtain ⟨b1, b2, b3, b4⟩ := qB j j1 j2 fj
          rw [← ej] at b1 b2 b3 b4
          have eA0 : (A0 : Int).toNat = A0 := Int.toNat_natCast A0
          by_cases c2 : h2.1 = 2
          · obtain ⟨_, s2⟩ := r2' () c2
            obtain ⟨s3, s4⟩ := s2 (by omega)
            rw [eA0] at s3 s4
            by_cases d2 : (H A0).1 = 2
            · have aA : arH (H A0) = 1 := by have := arH_k b1.1; omega
              obtain ⟨c78, cg, cn⟩ := b2 (by omega)
              have er := s3 (by omega)
              rw [c78] at er
              rw [er]
              refine child (fi A0) ?_ ?_
              · rcases cg with e | ⟨e1, e2, e3⟩
                · exact Or.inl e
                · exact Or.inr ⟨by omega, e2, e3⟩
              · rw [hs]
                unfold lwT
                rw [if_neg (by omega), if_pos c2, if_neg hn1, if_pos (by rw [dA]; exact d2), tn_1 (bn := bn) qE (by omega) (by omega) (by omega) aA]
                rfl
            · rw [s4 (by omega)]
              exact self (by rw [hs]; exact lw_k2 c2 hn1 (by rw [dA]; exact d2)) n1
          · by_cases c9 : h2.1 = 9
            · obtain ⟨_, s2⟩ := r9' () c9
              obtain ⟨s3, s4⟩ := s2 (by omega)
              by_cases l0 : alH h2 0
              · rw [s3 l0]
                exact none (by rw [hs]; exact lw_90 c9 hn1 l0)
              · obtain ⟨s5, s6⟩ := s4 l0
                by_cases l1 : alH h2 1
                · rw [s5 l1]
                  exact child A0 gA (by rw [hs]; exact (lw_91 c9 hn1 l1).symm)
                · rw [s6 l1]
                  exact self (by rw [hs]; exact lw_92 c9 hn1 l0 l1) n1
            · obtain ⟨_, s2⟩ := r6' () (by omega)
              rw [s2 (by omega)]
              by_cases c10 : h2.1 = 10
              · exact self (by rw [hs]; exact lw_k10 c10 hn1 (fun z => nc ⟨c10, z⟩)) n1
              · exact self (by rw [hs]; exact lw_k6 (by omega) hn1) n1
      · rw [← tA] at hs
        obtain ⟨zA, nA, dA⟩ := ch A1 gA
        have n1 : A1 ≠ bn + 40 := fun z => by rw [z, qn] at hA10; exact absurd hA10 (by decide)
        obtain ⟨f76, hch⟩ := nA n1
        obtain ⟨j, ej, j1, j2, fj⟩ := hch
        obtain ⟨b1, b2, b3, b4⟩ := qB j j1 j2 fj
        rw [← ej] at b1 b2 b3 b4
        have aA : arH (H A1) = 1 := by have := arH_k b1.1; omega
        obtain ⟨c78, cg, cn⟩ := b2 (by omega)
        have nf := cn aA
        have k2 : h2.1 = 10 := by rw [e2]; exact c10
        have er : r = ((bn + k : Nat) : Int) := (r6' () (by omega)).2 (by omega)
        refine ⟨bn + k, er, Or.inr (Or.inl rfl), fun z => absurd rfl z, fun _ => ⟨by omega, fun z => by omega, fun _ => ⟨by rw [eA0]; exact nf, ?_⟩, fun z => by omega⟩⟩
        rw [hs, lw_kc c10 (by rw [dA]; exact hA10), tn_1 (bn := bn) qE (by omega) (by omega) (by omega) aA, e2, eA0]
        have e3 := hd_ns b1.1 vh (by omega) (by omega)
        show ((H A1).1, (if (H A1).2.1 < h.2.1 then (H A1).2.1 else h.2.1), (H A1).2.2) :: _ = (h.1, (if (H A1).2.1 < h.2.1 then (H A1).2.1 else h.2.1), h.2.2) :: _
        rw [e3, hA10, c10]
