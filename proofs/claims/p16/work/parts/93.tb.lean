/-! the class: SUMS, TESTS, what stands around a WORD -/
theorem L_of {x : Int32} {k : Int} (h : x.toInt = k) : x.toInt64 = Int64.ofInt k := by rw [← h, ← fL_w x, Int64.ofInt_toInt]
theorem L_in {k : Int} (h : -9000000000000000000 ≤ k ∧ k ≤ 9000000000000000000) : (Int64.ofInt k).toInt = k := Int64.toInt_ofInt_of_le (by omega) (by omega)
theorem N_of {x : Int32} {k : Int} (h : x.toInt = k) (h2 : -2147483647 ≤ k) : (-x).toInt = -k := by
  have := i32_hi x
  rw [Int32.toInt_neg, h]
  exact Int.bmod_eq_of_le (by omega) (by omega)
/-- a DAY as the class has it -/
def sCn (S : Sn) (da : Int32) (t : Nat → Int32) : Prop := da.toInt = S.1 ∧ ∀ i, i < 6 → (t i).toInt = S.2 i
theorem vof_S {t : Nat → Int32} {da x : Int32} {S : Sn} {v : Vl} (hS : sCn S da t) (hx : x.toInt = cdV v.2.1 v.2.2) (hv : hvV v) : (vofF t da x).toInt = vaS S v := by
  have e0 : (0 : Int32).toInt = 0 := rfl
  have e6 : (6 : Int32).toInt = 6 := rfl
  have em2 : (-2 : Int32).toInt = -2 := rfl
  obtain ⟨hd, ht⟩ := hS
  unfold hvV at hv
  unfold cdV at hx
  unfold vofF vaS
  by_cases c1 : v.2.1 = -1
  · rw [if_pos c1] at hx
    rw [if_neg (by rw [fl_lt, e0]; omega), if_pos (by omega)]
    exact hx
  · rw [if_neg c1] at hx
    rw [if_neg (show ¬ v.2.1 < 0 by omega)]
    by_cases c6 : v.2.1 = 6
    · rw [if_pos c6] at hx
      rw [if_pos c6, if_pos (show x < 0 by rw [fl_lt, e0]; omega)]
      have q := T_sub em2 hx (by omega)
      generalize (-2 : Int32) - x = y at q ⊢
      rw [if_pos (by rw [fl_lt, e0]; omega)]
      exact hd
    · rw [if_neg c6] at hx
      rw [if_neg c6, if_pos (show x < 0 by rw [fl_lt, e0]; omega)]
      have q := T_sub em2 hx (by omega)
      generalize (-2 : Int32) - x = y at q ⊢
      rw [if_neg (by rw [fl_lt, e0]; omega), if_neg (by rw [fl_le, e6]; omega), show Int32.toNatClampNeg y = v.2.1.toNat by rw [clN]; congr 1; omega]
      exact ht _ (by omega)
theorem hvL_all {L : List Vl} (h : hvL L) : ∀ y, y ∈ L → (y.1 = 0 ∨ y.1 = 43 ∨ y.1 = 45 ∨ y.1 = 42) ∧ hvV y := by
  cases L with
  | nil => exact (show False from h).elim
  | cons x L =>
    obtain ⟨h1, h2, h3⟩ := h
    intro y hy
    rcases List.mem_cons.mp hy with e | e
    · rw [e]; exact ⟨Or.inl h1, h2⟩
    · exact ⟨Or.inr (h3 y e).1, (h3 y e).2⟩
theorem sumL_S {n2 : Nat} {hh : Nat → Int32} {v da a2 : Int32} {t : Nat → Int32} {S : Sn} (hn : 0 ≤ v.toInt ∧ 2 * v.toInt ≤ n2 ∧ n2 ≤ 80) (hS : sCn S da t) : ∀ (L : List Vl) (k V : Nat) (i : Int32) (tot pr : Int64), i.toInt = (V : Int) → L.length < k → a2.toInt = (V : Int) + (L.length : Int) → (V : Int) + (L.length : Int) ≤ v.toInt → vdK hh V L → (∀ y, y ∈ L → (y.1 = 0 ∨ y.1 = 43 ∨ y.1 = 45 ∨ y.1 = 42) ∧ hvV y) → sumL n2 hh v t da a2 k i tot pr = suS S L tot pr := by
  intro L
  induction L with
  | nil =>
    intro k V i tot pr hi hk h2 _ _ _
    rw [List.length_nil] at h2
    cases k with
    | zero => exact absurd hk (Nat.not_lt_zero _)
    | succ k =>
      unfold sumL
      rw [if_pos (by rw [fl_le]; omega)]
      rfl
  | cons x L ih =>
    intro k V i tot pr hi hk h2 h3 hK hy
    rw [List.length_cons] at hk h2 h3
    cases k with
    | zero => omega
    | succ k =>
      obtain ⟨k1, k2, k3⟩ := hK
      have q1 := T_add hi (show (1 : Int32).toInt = 1 from rfl) (by omega)
      obtain ⟨ej, evl⟩ := jntG (h := hh) (v := v) (i := i) (j := V) hn hi (by omega)
      obtain ⟨xj, xv⟩ := hy x List.mem_cons_self
      have r := fun tot pr => ih k (V + 1) (i + 1) tot pr (by omega) (by omega) (by omega) (by omega) k3 (fun y hy9 => hy y (List.mem_cons_of_mem _ hy9))
      have ex : (vofF t da (hh (2 * V + 1))).toInt64 = Int64.ofInt (vaS S x) := L_of (vof_S hS k2 xv)
      have e42 : (42 : Int32).toInt = 42 := rfl
      have e45 : (45 : Int32).toInt = 45 := rfl
      unfold cdJ at k1
      show _ = (if x.1 = 42 then suS S L tot (pr * Int64.ofInt (vaS S x)) else suS S L (tot + pr) (if x.1 = 45 then -(Int64.ofInt (vaS S x)) else Int64.ofInt (vaS S x)))
      unfold sumL
      rw [if_neg (by rw [fl_le]; omega), if_neg (by rw [fl_le]; omega), ej, evl, ex, r, r, r]
      by_cases c : x.1 = 42
      · rw [if_neg (show ¬ x.1 = 0 by omega)] at k1
        rw [if_pos c, if_pos (by rw [fl_eq, k1, e42]; exact c)]
      · have n42 : ¬ hh (2 * V) = 42 := fun z => by rw [z, e42] at k1; split at k1 <;> omega
        rw [if_neg c, if_neg n42]
        by_cases d : x.1 = 45
        · rw [if_neg (show ¬ x.1 = 0 by omega)] at k1
          rw [if_pos d, if_pos (by rw [fl_eq, k1, e45]; exact d)]
        · rw [if_neg d, if_neg (fun z => by rw [z, e45] at k1; split at k1 <;> omega)]
theorem sumF_S {n2 : Nat} {hh : Nat → Int32} {v da a1 a2 : Int32} {t : Nat → Int32} {S : Sn} {L : List Vl} {V : Nat} (hn : 0 ≤ v.toInt ∧ 2 * v.toInt ≤ n2 ∧ n2 ≤ 80) (hS : sCn S da t) (h1 : a1.toInt = (V : Int)) (h2 : a2.toInt = (V : Int) + (L.length : Int)) (h3 : (V : Int) + (L.length : Int) ≤ v.toInt) (hK : vdK hh V L) (hy : ∀ y, y ∈ L → (y.1 = 0 ∨ y.1 = 43 ∨ y.1 = 45 ∨ y.1 = 42) ∧ hvV y) : sumF n2 hh v t da a1 a2 = smS S L := by
  have e0 : (0 : Int32).toInt = 0 := rfl
  unfold sumF
  rw [if_neg (by rw [fl_lt, e0]; omega)]
  exact sumL_S hn hS L 41 V a1 0 0 h1 (by omega) h2 h3 hK hy
def hlV (s a b : Int) : Bool := if s = 0 then decide (a < b) else if s = 1 then decide (a ≤ b) else if s = 2 then decide (a = b) else if s = 3 then decide (b ≤ a) else decide (b < a)
theorem hlB_V {S : Sn} {h : Hd} : hlB S h = hlV h.2.2.1 (smS S h.2.2.2.1).toInt (smS S h.2.2.2.2).toInt := rfl
theorem sgn_S {c : Int32} {s : Int} {A B : Int64} (hc : c.toInt = cdS s) (hs : 0 ≤ s ∧ s ≤ 4) : (if 0 ≤ lg_cmp A B then (if lg_cmp A B = 0 then (if c ≤ 0 then (0 : Int32) else (if c &&& 2 = 0 then 0 else 1)) else (if c ≤ 0 then 0 else (if c &&& 4 = 0 then 0 else 1))) else (if c ≤ 0 then 0 else (if c &&& 1 = 0 then 0 else 1))) = if hlV s A.toInt B.toInt = true then 1 else 0 := by
  have v0 : ∀ a b : Int, hlV 0 a b = decide (a < b) := fun a b => by unfold hlV; rw [if_pos rfl]
  have v1 : ∀ a b : Int, hlV 1 a b = decide (a ≤ b) := fun a b => by unfold hlV; rw [if_neg (by decide), if_pos rfl]
  have v2 : ∀ a b : Int, hlV 2 a b = decide (a = b) := fun a b => by unfold hlV; rw [if_neg (by decide), if_neg (by decide), if_pos rfl]
  have v3 : ∀ a b : Int, hlV 3 a b = decide (b ≤ a) := fun a b => by unfold hlV; rw [if_neg (by decide), if_neg (by decide), if_neg (by decide), if_pos rfl]
  have v4 : ∀ a b : Int, hlV 4 a b = decide (b < a) := fun a b => by unfold hlV; rw [if_neg (by decide), if_neg (by decide), if_neg (by decide), if_neg (by decide)]
  have P : ∀ {p : Prop} [Decidable p], p → (if decide p = true then (1 : Int32) else 0) = 1 := fun h => if_pos (decide_eq_true h)
  have N : ∀ {p : Prop} [Decidable p], ¬ p → (if decide p = true then (1 : Int32) else 0) = 0 := fun h => if_neg (fun z => h (of_decide_eq_true z))
  have cs : s = 0 ∨ s = 1 ∨ s = 2 ∨ s = 3 ∨ s = 4 := by omega
  by_cases c1 : B.toInt ≤ A.toInt
  · rw [if_pos (lgc_ge.mpr c1)]
    by_cases c2 : A = B
    · rw [if_pos (lgc_eq.mpr c2)]
      have c3 : A.toInt = B.toInt := congrArg Int64.toInt c2
      rcases cs with rfl | rfl | rfl | rfl | rfl
      · have e : c = 1 := Int32.toInt_inj.mp hc
        rw [e, v0, N (by omega)]; decide
      · have e : c = 3 := Int32.toInt_inj.mp hc
        rw [e, v1, P (by omega)]; decide
      · have e : c = 2 := Int32.toInt_inj.mp hc
        rw [e, v2, P (by omega)]; decide
      · have e : c = 6 := Int32.toInt_inj.mp hc
        rw [e, v3, P (by omega)]; decide
      · have e : c = 4 := Int32.toInt_inj.mp hc
        rw [e, v4, N (by omega)]; decide
    · rw [if_neg (fun z => c2 (lgc_eq.mp z))]
      have c3 : A.toInt ≠ B.toInt := fun z => c2 (Int64.toInt_inj.mp z)
      rcases cs with rfl | rfl | rfl | rfl | rfl
      · have e : c = 1 := Int32.toInt_inj.mp hc
        rw [e, v0, N (by omega)]; decide
      · have e : c = 3 := Int32.toInt_inj.mp hc
        rw [e, v1, N (by omega)]; decide
      · have e : c = 2 := Int32.toInt_inj.mp hc
        rw [e, v2, N (by omega)]; decide
      · have e : c = 6 := Int32.toInt_inj.mp hc
        rw [e, v3, P (by omega)]; decide
      · have e : c = 4 := Int32.toInt_inj.mp hc
        rw [e, v4, P (by omega)]; decide
  · rw [if_neg (fun z => c1 (lgc_ge.mp z))]
    rcases cs with rfl | rfl | rfl | rfl | rfl
    · have e : c = 1 := Int32.toInt_inj.mp hc
      rw [e, v0, P (by omega)]; decide
    · have e : c = 3 := Int32.toInt_inj.mp hc
      rw [e, v1, P (by omega)]; decide
    · have e : c = 2 := Int32.toInt_inj.mp hc
      rw [e, v2, N (by omega)]; decide
    · have e : c = 6 := Int32.toInt_inj.mp hc
      rw [e, v3, N (by omega)]; decide
    · have e : c = 4 := Int32.toInt_inj.mp hc
      rw [e, v4, N (by omega)]; decide
theorem hld_S {n1 n2 : Nat} {g hh t : Nat → Int32} {s v da wd : Int32} {S : Sn} {w : Nat} {x : Hd} (hs : 0 ≤ s.toInt ∧ 13 * s.toInt ≤ n1 ∧ n1 ≤ 520) (hn : 0 ≤ v.toInt ∧ 2 * v.toInt ≤ n2 ∧ n2 ≤ 80) (hS : sCn S da t) (hw : wd.toInt = (w : Int)) (hlt : (w : Int) < s.toInt) (hk : hdK g hh v.toInt w x) (hx : hvH x) (k6 : 6 ≤ x.1 ∧ x.1 ≤ 8) : hldF n1 n2 g hh s v t da wd = if hlB S x = true then 1 else 0 := by
  have f := fun (k : Int32) (c : Nat) (hk : k.toInt = c) (hc : c ≤ 12) => fldG (g := g) hs hw hlt hk hc
  obtain ⟨a0, a2, a8, an, ay⟩ := hk
  obtain ⟨V, b5, b6, b7, b8, b9⟩ := ay ⟨k6.1, by omega⟩
  obtain ⟨p1, p2⟩ := vdK_app.mp (show vdK hh V (x.2.2.2.1 ++ x.2.2.2.2) from b9)
  obtain ⟨s0, s4, hl2⟩ := hx.2.2.2.1 k6
  have hl1 := hx.2.2.2.2.2.1 ⟨k6.1, by omega⟩
  have en : nvH x = x.2.2.2.1.length + x.2.2.2.2.length := rfl
  have s1 := sumF_S hn hS b5 b6 (by omega) p1 (hvL_all hl1)
  have s2 := sumF_S (V := V + x.2.2.2.1.length) hn hS (a1 := g (13 * w + 6)) (a2 := g (13 * w + 7)) (by omega) (by omega) (by omega) p2 (hvL_all hl2)
  unfold hldF
  rw [f 5 5 rfl (by decide), f 6 6 rfl (by decide), f 7 7 rfl (by decide), f 8 8 rfl (by decide), s1, s2, hlB_V]
  exact sgn_S a8 ⟨s0, s4⟩
/-- a FORM's cells hold the list: what its questions are answered -/
theorem hc_lk {n1 : Nat} {g hh : Nat → Int32} {s v : Int32} {T : List Hd} (hc : hcT T s v g hh) : (okT T 1 ∧ hvT T ∧ T.length ≤ 40 ∧ upO T) ∧ s.toInt = (T.length : Int) ∧ gkN g hh s.toInt v.toInt (grH T) (fun w => w + 1) (grS T) ∧ ∀ w, w < T.length → (tcC T 0 w = (grH T w).1 ∧ tcC T 2 w = (grH T w).2.1) ∧ LCo g (tcC T) w := by
  obtain ⟨⟨h1, h2, h3, h4, h5⟩, es, evv, hL⟩ := hc
  have hG := LC_gkN h1 h2 hL es evv
  refine ⟨⟨h1, h2, h4, upO_ok h1⟩, es, hG, fun w hw => ?_⟩
  have k := (hG w (by omega)).1
  have l := hL.1 w hw
  exact ⟨⟨(l.1 0 (by decide)).symm.trans k.1, (l.1 2 (by decide)).symm.trans k.2.1⟩, l⟩
theorem cap_S {g hh : Nat → Int32} {s v : Int32} {T : List Hd} (hc : hcT T s v g hh) {w : Nat} (hw : w < T.length) : (g (13 * w + 9)).toInt = cqT T w ∧ (g (13 * w + 10)).toInt = sdT T w ∧ (g (13 * w + 12)).toInt = unT T w := by
  obtain ⟨⟨h1, h2, h4, ho⟩, es, hG, hw9⟩ := hc_lk (n1 := 0) hc
  refine ⟨upF_un ho h4 (φ := fun w => (g (13 * w + 9)).toInt) (fun w hw => ?_) (w + 1) w (by omega) hw, upF_un ho h4 (φ := fun w => (g (13 * w + 10)).toInt) (fun w hw => ?_) (w + 1) w (by omega) hw, upF_un ho h4 (φ := fun w => (g (13 * w + 12)).toInt) (fun w hw => ?_) (w + 1) w (by omega) hw⟩
  · obtain ⟨_, l1, l2, l3, l4, l5, l6, l7, l8⟩ := hw9 w hw
    refine ⟨fun e => (l7 e).2.1, fun p e hp => ?_⟩
    obtain ⟨e0, e2⟩ := (hw9 p (by omega)).1
    have q := (l8 p e).2.1
    rw [e0, e2] at q
    exact q
  · obtain ⟨_, l1, l2, l3, l4, l5, l6, l7, l8⟩ := hw9 w hw
    refine ⟨fun e => (l7 e).2.2.1, fun p e hp => ?_⟩
    obtain ⟨e0, e2⟩ := (hw9 p (by omega)).1
    have q := (l8 p e).2.2.1
    rw [e0] at q
    exact q
  · obtain ⟨_, l1, l2, l3, l4, l5, l6, l7, l8⟩ := hw9 w hw
    refine ⟨fun e => (l7 e).2.2.2.2, fun p e hp => ?_⟩
    obtain ⟨e0, e2⟩ := (hw9 p (by omega)).1
    have q := (l8 p e).2.2.2.2
    rw [e0] at q
    exact q
theorem lpsL_S {n1 n2 : Nat} {g hh t : Nat → Int32} {s v da : Int32} {S : Sn} {T : List Hd} (hs : 0 ≤ s.toInt ∧ 13 * s.toInt ≤ n1 ∧ n1 ≤ 520) (hn : 0 ≤ v.toInt ∧ 2 * v.toInt ≤ n2 ∧ n2 ≤ 80) (hS : sCn S da t) (hc : hcT T s v g hh) : ∀ n w k (i : Int32), w < n → w < T.length → w < k → 0 ≤ i.toInt → i.toInt + w ≤ 39 → lpsL n1 n2 g hh s v t da k i (g (13 * w + 11)) = if lpT T S w = true then 1 else 0 := by
  obtain ⟨⟨h1, h2, h4, ho⟩, es, hG, hw9⟩ := hc_lk (n1 := n1) hc
  have e0 : (0 : Int32).toInt = 0 := rfl
  have e40 : (40 : Int32).toInt = 40 := rfl
  intro n
  induction n with
  | zero => intro w k i h; exact absurd h (Nat.not_lt_zero _)
  | succ n ih =>
    intro w k i hn0 hw hk hi0 hi
    obtain ⟨_, l1, l2, l3, l4, l5, l6, l7, l8⟩ := hw9 w hw
    have el : lpT T S w = if tcC T 9 w = -1 then false else lpH S (grH T (tcC T 9 w).toNat) (lpT T S (tcC T 9 w).toNat) := upF_st ho h4 hw
    cases k with
    | zero => omega
    | succ k =>
      by_cases c : tcC T 9 w = -1
      · have e11 := (l7 c).2.2.2.1
        rw [el, if_pos c, if_neg (by decide)]
        unfold lpsL
        rw [if_neg (by rw [fl_le, e40]; omega), if_pos (by rw [fl_lt, e0]; omega)]
      · obtain ⟨p, ep⟩ : ∃ p : Nat, tcC T 9 w = p := ⟨(tcC T 9 w).toNat, by omega⟩
        have e11 := (l8 p ep).2.2.2.1
        obtain ⟨f0, f2⟩ := (hw9 p (by omega)).1
        rw [f0] at e11
        rw [el, if_neg c, ep, Int.toNat_natCast]
        unfold lpH
        by_cases c8 : (grH T p).1 = 8
        · rw [if_pos c8] at e11
          obtain ⟨gk, gv, _⟩ := hG p (by omega)
          have hd := hld_S (wd := g (13 * w + 11)) hs hn hS e11 (by omega) gk gv (by omega)
          have fp := fldG (g := g) (k := 11) (a := 11) hs e11 (by omega) rfl (by decide)
          have q1 := T_add (rfl : i.toInt = i.toInt) (show (1 : Int32).toInt = 1 from rfl) (by omega)
          have r := ih p k (i + 1) (by omega) (by omega) (by omega) (by omega) (by omega)
          unfold lpsL
          rw [if_neg (by rw [fl_le, e40]; omega), if_neg (by rw [fl_lt, e0]; omega), hd, fp, r, c8]
          cases hlB S (grH T p) with
          | false =>
            rw [if_pos (show ((if false = true then (1 : Int32) else 0)) = 0 from rfl)]
            cases lpT T S p <;> rfl
          | true =>
            rw [if_neg (show ¬ ((if true = true then (1 : Int32) else 0)) = 0 by decide)]
            cases lpT T S p <;> rfl
        · rw [if_neg c8] at e11
          have e2 : g (13 * w + 11) = g (13 * p + 11) := Int32.toInt_inj.mp e11
          have r := ih p (k + 1) i (by omega) (by omega) (by omega) hi0 (by omega)
          rw [e2, r, decide_eq_false c8]
          first | done | rfl
theorem lps_S {n1 n2 : Nat} {g hh t : Nat → Int32} {s v da wd : Int32} {S : Sn} {T : List Hd} {w : Nat} (hs : 0 ≤ s.toInt ∧ 13 * s.toInt ≤ n1 ∧ n1 ≤ 520) (hn : 0 ≤ v.toInt ∧ 2 * v.toInt ≤ n2 ∧ n2 ≤ 80) (hS : sCn S da t) (hc : hcT T s v g hh) (hw : wd.toInt = (w : Int)) (hlt : w < T.length) : lpsF n1 n2 g hh s v t da wd = if lpT T S w = true then 1 else 0 := by
  have h4 := hc.1.2.2.2.1
  have es := hc.2.1
  unfold lpsF
  rw [fldG (g := g) hs hw (by omega) (show (11 : Int32).toInt = (11 : Nat) from rfl) (by decide)]
  exact lpsL_S hs hn hS hc (w + 1) w 41 0 (by omega) hlt (by omega) (by decide) (by have e0 : (0 : Int32).toInt = 0 := rfl; omega)
theorem clP_L {y : Int64} : ((if (if y < 1000000 then y else 1000000) < -1000000 then (-1000000 : Int64) else (if y < 1000000 then y else 1000000)).toInt32).toInt = clP 1000000 y.toInt := by
  have e1 : (1000000 : Int64).toInt = 1000000 := rfl
  have e2 : (-1000000 : Int64).toInt = -1000000 := rfl
  have d : ∀ z : Int64, -1000000 ≤ z.toInt → z.toInt ≤ 1000000 → z.toInt32.toInt = z.toInt := fun z h1 h2 => by
    rw [Int64.toInt_toInt32]
    exact Int.bmod_eq_of_le (by omega) (by omega)
  unfold clP
  by_cases c1 : y < 1000000
  · rw [if_pos c1]
    rw [fL_lt, e1] at c1
    by_cases c2 : y < -1000000
    · rw [if_pos c2]
      rw [fL_lt, e2] at c2
      rw [if_pos (by omega)]
      rfl
    · rw [if_neg c2]
      rw [fL_lt, e2] at c2
      rw [if_neg (by omega), if_neg (by omega)]
      exact d y (by omega) (by omega)
  · rw [if_neg c1]
    rw [fL_lt, e1] at c1
    rw [if_neg (by decide), if_neg (by omega)]
    by_cases c2 : 1000000 < y.toInt
    · rw [if_pos c2]; rfl
    · rw [if_neg c2, show y.toInt = 1000000 by omega]; rfl
theorem pas_S {n1 n2 : Nat} {g hh t : Nat → Int32} {s v da wd x : Int32} {S : Sn} {T : List Hd} {w : Nat} {f : Int} (hs : 0 ≤ s.toInt ∧ 13 * s.toInt ≤ n1 ∧ n1 ≤ 520) (hn : 0 ≤ v.toInt ∧ 2 * v.toInt ≤ n2 ∧ n2 ≤ 80) (hS : sCn S da t) (hc : hcT T s v g hh) (hw : wd.toInt = (w : Int)) (hlt : w < T.length) (hx : x.toInt = f) (hf : -1000000 ≤ f ∧ f ≤ 1000000) : (pasF n1 n2 g hh s v t da wd x).toInt = psT S (grH T w) f := by
  obtain ⟨⟨h1, h2, h4, ho⟩, es, hG, hw9⟩ := hc_lk (n1 := n1) hc
  obtain ⟨gk, gv, _⟩ := hG w (by omega)
  have ff := fun (k : Int32) (c : Nat) (hk : k.toInt = c) (hc : c ≤ 12) => fldG (g := g) hs hw (by omega) hk hc
  obtain ⟨a0, a2, a8, an, ay⟩ := gk
  have e2 : (2 : Int32).toInt = 2 := rfl
  have e9 : (9 : Int32).toInt = 9 := rfl
  unfold pasF psT
  rw [ff 0 0 rfl (by decide), ff 5 5 rfl (by decide), ff 6 6 rfl (by decide)]
  by_cases c2 : (grH T w).1 = 2
  · rw [if_pos c2, if_pos (by rw [fl_eq, a0, e2]; exact c2)]
    exact N_of hx (by omega)
  · rw [if_neg c2, if_neg (show ¬ g (13 * w + 0) = 2 from fun z => c2 (by rw [← a0, z]; rfl))]
    by_cases c9 : (grH T w).1 = 9
    · rw [if_pos c9, if_pos (by rw [fl_eq, a0, e9]; exact c9)]
      obtain ⟨V, b5, b6, b7, b8, b9⟩ := ay (by omega)
      obtain ⟨p1, p2⟩ := vdK_app.mp (show vdK hh V ((grH T w).2.2.2.1 ++ (grH T w).2.2.2.2) from b9)
      have hl1 := gv.2.2.2.2.2.1 (by omega)
      have en : nvH (grH T w) = (grH T w).2.2.2.1.length + (grH T w).2.2.2.2.length := rfl
      rw [sumF_S hn hS b5 b6 (by omega) p1 (hvL_all hl1), L_of hx]
      exact clP_L
    · rw [if_neg c9, if_neg (show ¬ g (13 * w + 0) = 9 from fun z => c9 (by rw [← a0, z]; rfl))]
      exact hx
theorem hel_S {n1 : Nat} {g hh : Nat → Int32} {s v wd x : Int32} {T : List Hd} {w : Nat} {f : Int} (hs : 0 ≤ s.toInt ∧ 13 * s.toInt ≤ n1 ∧ n1 ≤ 520) (hc : hcT T s v g hh) (hw : wd.toInt = (w : Int)) (hlt : w < T.length) (hx : x.toInt = f) : (heldF n1 g s wd x).toInt = hdP (cqT T w) f := by
  obtain ⟨⟨h1, h2, h4, ho⟩, es, hG, hw9⟩ := hc_lk (n1 := n1) hc
  have c9 := (cap_S hc hlt).1
  have hn : -1 ≤ cqT T w ∧ cqT T w ≤ 99999 := cqT_n h2 ho 41 w hlt
  have em : (-1 : Int32).toInt = -1 := rfl
  unfold heldF hdP
  rw [fldG (g := g) hs hw (by omega) (show (9 : Int32).toInt = (9 : Nat) from rfl) (by decide)]
  by_cases c : cqT T w = -1
  · rw [if_pos c, if_pos (Int32.toInt_inj.mp (by rw [c9, c, em]))]
    exact hx
  · rw [if_neg c, if_neg (show ¬ g (13 * w + 9) = -1 from fun z => c (by rw [← c9, z, em]))]
    have qn := N_of c9 (by omega)
    generalize -(g (13 * w + 9)) = y at qn ⊢
    unfold clP
    by_cases c1 : x < g (13 * w + 9)
    · rw [if_pos c1]
      rw [fl_lt, c9] at c1
      by_cases c2 : y < x
      · rw [if_pos c2]
        rw [fl_lt, qn] at c2
        rw [if_neg (by omega), if_neg (by omega)]
        exact hx
      · rw [if_neg c2]
        rw [fl_lt, qn] at c2
        by_cases c3 : f < -cqT T w
        · rw [if_pos c3]; exact qn
        · rw [if_neg c3, if_neg (by omega)]; omega
    · rw [if_neg c1]
      rw [fl_lt, c9] at c1
      by_cases c2 : y < g (13 * w + 9)
      · rw [if_pos c2]
        rw [fl_lt, qn, c9] at c2
        rw [if_neg (by omega)]
        by_cases c3 : cqT T w < f
        · rw [if_pos c3]; exact c9
        · rw [if_neg c3]; omega
      · rw [if_neg c2]
        rw [fl_lt, qn, c9] at c2
        by_cases c3 : f < -cqT T w
        · rw [if_pos c3]; exact qn
        · rw [if_neg c3]
          by_cases c4 : cqT T w < f
          · rw [if_pos c4]; omega
          · rw [if_neg c4]; omega
theorem nxt_S {n1 : Nat} {g hh t : Nat → Int32} {s v da wd : Int32} {S : Sn} {T : List Hd} {w : Nat} (hs : 0 ≤ s.toInt ∧ 13 * s.toInt ≤ n1 ∧ n1 ≤ 520) (hS : sCn S da t) (hc : hcT T s v g hh) (hw : wd.toInt = (w : Int)) (hlt : w < T.length) (hk : 2 ≤ (grH T w).1) : (nxtF n1 g s da wd).toInt = (nxT T S w : Int) := by
  obtain ⟨⟨h1, h2, h4, ho⟩, es, hG, hw9⟩ := hc_lk (n1 := n1) hc
  obtain ⟨gk, gv, g3, g4⟩ := hG w (by omega)
  have ff := fun (k : Int32) (c : Nat) (hk : k.toInt = c) (hc : c ≤ 12) => fldG (g := g) hs hw (by omega) hk hc
  obtain ⟨a0, a2, _⟩ := gk
  have hak := arH_k gv
  have e5 : (5 : Int32).toInt = 5 := rfl
  have q3 := (g3 (by omega)).1
  have q3 : (g (13 * w + 3)).toInt = ((w + 1 : Nat) : Int) := q3
  unfold nxtF nxT
  rw [ff 0 0 rfl (by decide), ff 2 2 rfl (by decide), ff 3 3 rfl (by decide), ff 4 4 rfl (by decide)]
  by_cases c5 : (grH T w).1 = 5
  · rw [if_pos (by rw [fl_eq, a0, e5]; exact c5)]
    have q4 := (g4 (by omega)).1
    by_cases c : (grH T w).2.1 ≤ S.1
    · rw [if_pos (show (grH T w).1 = 5 ∧ (grH T w).2.1 ≤ S.1 from ⟨c5, c⟩), if_neg (by rw [fl_lt, hS.1, a2]; omega)]
      exact q4
    · rw [if_neg (show ¬ ((grH T w).1 = 5 ∧ (grH T w).2.1 ≤ S.1) from fun z => c z.2), if_pos (by rw [fl_lt, hS.1, a2]; omega)]
      exact q3
  · rw [if_neg (show ¬ g (13 * w + 0) = 5 from fun z => c5 (by rw [← a0, z]; rfl)), if_neg (show ¬ ((grH T w).1 = 5 ∧ (grH T w).2.1 ≤ S.1) from fun z => c5 z.1)]
    exact q3
theorem fk_S {n1 : Nat} {g hh : Nat → Int32} {s v wd : Int32} {T : List Hd} {w : Nat} (hs : 0 ≤ s.toInt ∧ 13 * s.toInt ≤ n1 ∧ n1 ≤ 520) (hc : hcT T s v g hh) (hw : wd.toInt = (w : Int)) (hlt : w < T.length) : (fldF n1 g s wd 0).toInt = (grH T w).1 ∧ (fldF n1 g s wd 9).toInt = cqT T w ∧ (fldF n1 g s wd 10).toInt = sdT T w ∧ (fldF n1 g s wd 12).toInt = unT T w ∧ (2 ≤ (grH T w).1 → (fldF n1 g s wd 3).toInt = (w : Int) + 1) ∧ (3 ≤ (grH T w).1 ∧ (grH T w).1 ≤ 5 → (fldF n1 g s wd 4).toInt = (grS T w : Int)) := by
  obtain ⟨⟨h1, h2, h4, ho⟩, es, hG, hw9⟩ := hc_lk (n1 := n1) hc
  obtain ⟨gk, gv, g3, g4⟩ := hG w (by omega)
  have ff := fun (k : Int32) (c : Nat) (hk : k.toInt = c) (hc : c ≤ 12) => fldG (g := g) hs hw (by omega) hk hc
  have hak := arH_k gv
  obtain ⟨q1, q2, q3⟩ := cap_S hc hlt
  refine ⟨by rw [ff 0 0 rfl (by decide)]; exact gk.1, by rw [ff 9 9 rfl (by decide)]; exact q1, by rw [ff 10 10 rfl (by decide)]; exact q2, by rw [ff 12 12 rfl (by decide)]; exact q3, fun z => ?_, fun z => ?_⟩
  · rw [ff 3 3 rfl (by decide)]
    have q := (g3 (by omega)).1
    have q : (g (13 * w + 3)).toInt = ((w + 1 : Nat) : Int) := q
    omega
  · rw [ff 4 4 rfl (by decide)]
    exact (g4 (by omega)).1
