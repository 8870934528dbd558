/-! the laws, on lists of heads -/
def noH : Hd := (0, -1, -1, [], [])
def kdT : List Hd → Int
  | [] => -1
  | h :: _ => h.1
/-- the SUM of a scale is the NUMBER x alone -/
abbrev alH (h : Hd) (x : Int) : Prop := h.2.2.2.1.length = 1 ∧ (h.2.2.2.1.getD 0 (0, 0, 0)).2.1 = -1 ∧ (h.2.2.2.1.getD 0 (0, 0, 0)).2.2 = x
/-- the lesser of two caps -/
def cpT (n : Int) : List Hd → List Hd
  | [] => []
  | h :: A => (h.1, (if h.2.1 < n then h.2.1 else n), h.2.2) :: A
/-- what a WORD becomes whose DEEDS are A (and B) -/
noncomputable def lwT (h : Hd) (A B : List Hd) : List Hd :=
  if h.1 ≤ 1 then [h]
  else if h.1 = 2 then (if kdT A = 0 then A else if kdT A = 2 then A.tail else h :: A)
  else if h.1 = 3 then (if kdT A = 0 then B else if kdT B = 0 then A else h :: (A ++ B))
  else if h.1 = 4 ∨ h.1 = 5 then (@ite (List Hd) (A = B) (Classical.propDecidable (A = B)) A (h :: (A ++ B)))
  else if h.1 = 9 then (if kdT A = 0 then A else if alH h 0 then [noH] else if alH h 1 then A else h :: A)
  else if h.1 = 10 then (if kdT A = 10 then cpT h.2.1 A else if kdT A = 0 then A else h :: A)
  else (if kdT A = 0 then A else h :: A)
/-- from the inner DEEDS outwards: how many WORDS each had, what it has become -/
noncomputable def shS (h : Hd) (Fs : List (Nat × List Hd)) : List (Nat × List Hd) :=
  if arH h = 0 then (1, lwT h [] []) :: Fs
  else if arH h = 1 then (match Fs with
    | (n, A) :: Gs => (n + 1, lwT h A []) :: Gs
    | [] => [])
  else (match Fs with
    | (n, A) :: (m, B) :: Gs => (n + m + 1, lwT h A B) :: Gs
    | _ => [])
noncomputable def shF : List Hd → List (Nat × List Hd)
  | [] => []
  | h :: T => shS h (shF T)
noncomputable def shT (T : List Hd) : List Hd := ((shF T).headD (0, [])).2
theorem dkT_dn : ∀ {T : List Hd} {ds : List Nat}, dkT T (ds.map (· + 1)) → dkT T ds := by
  intro T
  induction T with
  | nil => intro ds _; trivial
  | cons h T ih =>
    intro ds hd
    cases ds with
    | nil => exact hd
    | cons d ds =>
      have h1 : d + 1 ≤ 11 ∧ dkT T (psD h (d + 1) (ds.map (· + 1))) := hd
      refine ⟨by omega, ih ?_⟩
      have e : (psD h d ds).map (· + 1) = psD h (d + 1) (ds.map (· + 1)) := by
        unfold psD
        (repeat' split) <;> rfl
      rw [e]
      exact h1.2
theorem dkT_d1 {T : List Hd} {d : Nat} (h : dkT T [d + 1]) : dkT T [d] := dkT_dn (ds := [d]) h
theorem arH_k {h : Hd} (hv : hvH h) : (h.1 ≤ 1 ∧ arH h = 0) ∨ ((h.1 = 3 ∨ h.1 = 4 ∨ h.1 = 5) ∧ arH h = 2) ∨ ((h.1 = 2 ∨ 6 ≤ h.1) ∧ arH h = 1) := by
  have hk := hv.1
  unfold arH
  (repeat' split) <;> omega
theorem hvH_no {h : Hd} (hv : hvH h) (h0 : h.1 = 0) : h = noH := by
  obtain ⟨_, _, h2, _, h4, _, h6⟩ := hv
  obtain ⟨k, n, s, l, r⟩ := h
  dsimp only at h0 h2 h4 h6
  have e2 := h2 (by omega)
  have e4 := h4 (by omega)
  have e6 := h6 (by omega)
  rw [h0, e2, e4.1, e4.2, e6]
  rfl
theorem noH_hv : hvH noH := ⟨⟨by decide, by decide⟩, fun z => absurd z (by decide), fun _ => rfl, fun z => absurd z (by decide), fun _ => ⟨rfl, rfl⟩, fun z => absurd z (by decide), fun _ => rfl⟩
/-- a DEED that begins with nothing is nothing -/
theorem kdT_0 {A : List Hd} (hA : okT A 1) (hv : hvT A) (h0 : kdT A = 0) : A = [noH] := by
  obtain ⟨h, B, e⟩ := okT_ne hA
  subst e
  have h1 : h.1 = 0 := h0
  have hh := hv h List.mem_cons_self
  have e1 := hvH_no hh h1
  subst e1
  have hB := okT_1 hA
  cases B with
  | nil => rfl
  | cons x B => exact (show False from hB).elim
/-- a DEED by its head -/
theorem okT_hd {A : List Hd} (hA : okT A 1) (hv : hvT A) : ∃ h B, A = h :: B ∧ okT B (arH h) ∧ hvH h ∧ hvT B := by
  obtain ⟨h, B, e⟩ := okT_ne hA
  subst e
  exact ⟨h, B, rfl, okT_1 hA, hv h List.mem_cons_self, fun x hx => hv x (List.mem_cons_of_mem _ hx)⟩
/-- what the laws keep: a DEED, heads as they may be, no more WORDS and VALUES, no deeper -/
def gdT (S : List Hd) (n v : Nat) (d : Nat) : Prop := okT S 1 ∧ hvT S ∧ S.length ≤ n ∧ nvT S ≤ v ∧ dkT S [d]
theorem gdT_up {S : List Hd} {n v n2 v2 d : Nat} (h : gdT S n v (d + 1)) (hn : n ≤ n2) (hv : v ≤ v2) : gdT S n2 v2 d := ⟨h.1, h.2.1, Nat.le_trans h.2.2.1 hn, Nat.le_trans h.2.2.2.1 hv, dkT_d1 h.2.2.2.2⟩
theorem gdT_1 {h : Hd} {A : List Hd} {n v d : Nat} (hh : hvH h) (ha : arH h = 1) (hd : d ≤ 11) (hA : gdT A n v (d + 1)) : gdT (h :: A) (n + 1) (nvH h + v) d := by
  obtain ⟨a1, a2, a3, a4, a5⟩ := hA
  refine ⟨?_, fun x hx => ?_, by rw [List.length_cons]; omega, by show nvH h + nvT A ≤ _; omega, hd, ?_⟩
  · show okT A (0 + arH h); rw [ha]; exact a1
  · rcases List.mem_cons.mp hx with z | z
    · rw [z]; exact hh
    · exact a2 x z
  · unfold psD; rw [if_neg (by omega), if_pos ha]; exact a5
theorem gdT_2 {h : Hd} {A B : List Hd} {n v m u d : Nat} (hh : hvH h) (ha : arH h = 2) (hd : d ≤ 11) (hA : gdT A n v (d + 1)) (hB : gdT B m u (d + 1)) : gdT (h :: (A ++ B)) (n + m + 1) (nvH h + v + u) d := by
  obtain ⟨a1, a2, a3, a4, a5⟩ := hA
  obtain ⟨b1, b2, b3, b4, b5⟩ := hB
  refine ⟨?_, fun x hx => ?_, by rw [List.length_cons, List.length_append]; omega, by show nvH h + nvT (A ++ B) ≤ _; rw [nvT_app]; omega, hd, ?_⟩
  · show okT (A ++ B) (0 + arH h); rw [ha]; exact okT_app (n := 1) (m := 1) a1 b1
  · rcases List.mem_cons.mp hx with z | z
    · rw [z]; exact hh
    · rcases List.mem_append.mp z with z | z
      · exact a2 x z
      · exact b2 x z
  · unfold psD; rw [if_pos ha]; exact (dkT_app (a := [d + 1]) (b := [d + 1]) a1).mpr ⟨a5, b5⟩
theorem gdT_no {n v d : Nat} (hn : 1 ≤ n) (hd : d ≤ 11) : gdT [noH] n v d := ⟨rfl, (fun x hx => by rcases List.mem_cons.mp hx with z | z; (rw [z]; exact noH_hv); (cases z)), hn, Nat.zero_le _, hd, trivial⟩
theorem lw_0 {h : Hd} {d : Nat} (hh : hvH h) (ha : arH h = 0) (hd : d ≤ 11) : gdT (lwT h [] []) 1 (nvH h) d := by
  have hk := arH_k hh
  unfold lwT
  rw [if_pos (by omega)]
  refine ⟨?_, fun x hx => ?_, Nat.le_refl _, by show nvH h + 0 ≤ _; omega, hd, ?_⟩
  · show okT [] (0 + arH h); rw [ha]; rfl
  · rcases List.mem_cons.mp hx with z | z
    · rw [z]; exact hh
    · cases z
  · trivial
theorem lw_1 {h : Hd} {A : List Hd} {n v d : Nat} (hh : hvH h) (ha : arH h = 1) (hd : d ≤ 11) (hA : gdT A n v (d + 1)) : gdT (lwT h A []) (n + 1) (nvH h + v) d := by
  have hk := arH_k hh
  have keep := gdT_1 hh ha hd hA
  have drop : gdT A (n + 1) (nvH h + v) d := gdT_up hA (by omega) (by omega)
  unfold lwT
  rw [if_neg (by omega)]
  by_cases c2 : h.1 = 2
  · rw [if_pos c2]
    by_cases d0 : kdT A = 0
    · rw [if_pos d0]; exact drop
    · rw [if_neg d0]
      by_cases d2 : kdT A = 2
      · rw [if_pos d2]
        obtain ⟨g, B, e, o1, o2, o3⟩ := okT_hd hA.1 hA.2.1
        subst e
        have g2 : g.1 = 2 := d2
        have ag : arH g = 1 := by have := arH_k o2; omega
        obtain ⟨a1, a2, a3, a4, a5⟩ := hA
        rw [ag] at o1
        rw [List.length_cons] at a3
        have a4' : nvH g + nvT B ≤ v := a4
        have a5' : dkT B (psD g (d + 1) []) := a5.2
        unfold psD at a5'
        rw [if_neg (by omega), if_pos ag] at a5'
        exact ⟨o1, o3, by show B.length ≤ _; omega, by show nvT B ≤ _; omega, dkT_d1 (dkT_d1 a5')⟩
      · rw [if_neg d2]; exact keep
  · rw [if_neg c2, if_neg (by omega), if_neg (by omega)]
    by_cases c9 : h.1 = 9
    · rw [if_pos c9]
      by_cases d0 : kdT A = 0
      · rw [if_pos d0]; exact drop
      · rw [if_neg d0]
        by_cases e0 : alH h 0
        · rw [if_pos e0]; exact gdT_no (by omega) hd
        · rw [if_neg e0]
          by_cases e1 : alH h 1
          · rw [if_pos e1]; exact drop
          · rw [if_neg e1]; exact keep
    · rw [if_neg c9]
      by_cases c10 : h.1 = 10
      · rw [if_pos c10]
        by_cases d1 : kdT A = 10
        · rw [if_pos d1]
          obtain ⟨g, B, e, o1, o2, o3⟩ := okT_hd hA.1 hA.2.1
          subst e
          have g2 : g.1 = 10 := d1
          have ag : arH g = 1 := by have := arH_k o2; omega
          obtain ⟨a1, a2, a3, a4, a5⟩ := drop
          obtain ⟨p0, p1, p2, p3, p4, p5, p6⟩ := o2
          have hb := hh.2.1 (Or.inr c10)
          have gb := p1 (Or.inr g2)
          refine ⟨a1, fun x hx => ?_, a3, a4, a5⟩
          rcases List.mem_cons.mp hx with z | z
          · rw [z]
            refine ⟨p0, fun _ => ?_, fun z => absurd (show g.1 = 5 ∨ g.1 = 10 from Or.inr g2) z, p3, p4, p5, p6⟩
            show 0 ≤ (if g.2.1 < h.2.1 then g.2.1 else h.2.1) ∧ (if g.2.1 < h.2.1 then g.2.1 else h.2.1) ≤ 99999
            split <;> omega
          · exact o3 x z
        · rw [if_neg d1]
          by_cases d0 : kdT A = 0
          · rw [if_pos d0]; exact drop
          · rw [if_neg d0]; exact keep
      · rw [if_neg c10]
        by_cases d0 : kdT A = 0
        · rw [if_pos d0]; exact drop
        · rw [if_neg d0]; exact keep
theorem lw_2 {h : Hd} {A B : List Hd} {n v m u d : Nat} (hh : hvH h) (ha : arH h = 2) (hd : d ≤ 11) (hA : gdT A n v (d + 1)) (hB : gdT B m u (d + 1)) : gdT (lwT h A B) (n + m + 1) (nvH h + v + u) d := by
  have hk := arH_k hh
  have keep := gdT_2 hh ha hd hA hB
  have d1 : gdT A (n + m + 1) (nvH h + v + u) d := gdT_up hA (by omega) (by omega)
  have d2 : gdT B (n + m + 1) (nvH h + v + u) d := gdT_up hB (by omega) (by omega)
  unfold lwT
  rw [if_neg (by omega), if_neg (by omega)]
  by_cases c3 : h.1 = 3
  · rw [if_pos c3]
    (repeat' split) <;> assumption
  · rw [if_neg c3, if_pos (by omega)]
    (repeat' split) <;> assumption
/-- the DEEDS of a list, each made shorter -/
def foT : List (Nat × List Hd) → List Hd → List Nat → Prop
  | [], T, ds => T = [] ∧ ds = []
  | (n, S) :: Fs, T, ds => ∃ A R d es, T = A ++ R ∧ ds = d :: es ∧ A.length = n ∧ okT A 1 ∧ gdT S n (nvT A) d ∧ foT Fs R es
theorem shF_ok : ∀ {T : List Hd} {ds : List Nat}, okT T ds.length → dkT T ds → hvT T → foT (shF T) T ds := by
  intro T
  induction T with
  | nil => intro ds h1 _ _; exact ⟨rfl, List.eq_nil_of_length_eq_zero h1⟩
  | cons h T ih =>
    intro ds h1 h2 h3
    cases ds with
    | nil => exact (show False from h1).elim
    | cons d ds =>
      have hh := h3 h List.mem_cons_self
      have hd : d ≤ 11 := h2.1
      have i := ih (ds := psD h d ds) (by rw [psD_len]; exact h1) h2.2 (fun x hx => h3 x (List.mem_cons_of_mem _ hx))
      have hl := arH_le (h := h)
      show foT (shS h (shF T)) (h :: T) (d :: ds)
      generalize shF T = Fs at i ⊢
      unfold shS
      unfold psD at i
      by_cases c2 : arH h = 2
      · rw [if_pos c2] at i
        rw [if_neg (by omega), if_neg (by omega)]
        cases Fs with
        | nil => cases i.2
        | cons x Fs =>
          obtain ⟨n, A⟩ := x
          obtain ⟨A0, R, d1, es, e1, e2, e3, e4, e5, i2⟩ := i
          cases e2
          cases Fs with
          | nil => cases i2.2
          | cons y Fs =>
            obtain ⟨m, B⟩ := y
            obtain ⟨B0, R2, d2, es2, f1, f2, f3, f4, f5, i3⟩ := i2
            cases f2
            refine ⟨h :: (A0 ++ B0), R2, d, ds, ?_, rfl, by rw [List.length_cons, List.length_append]; omega, ?_, ?_, i3⟩
            · rw [e1, f1]; simp [List.append_assoc]
            · show okT (A0 ++ B0) (0 + arH h); rw [c2]; exact okT_app (n := 1) (m := 1) e4 f4
            · have q := lw_2 hh c2 hd e5 f5
              show gdT _ _ (nvH h + nvT (A0 ++ B0)) d
              rw [nvT_app, ← Nat.add_assoc]
              exact q
      · rw [if_neg c2] at i
        by_cases c1 : arH h = 1
        · rw [if_pos c1] at i
          rw [if_neg (by omega), if_pos c1]
          cases Fs with
          | nil => cases i.2
          | cons x Fs =>
            obtain ⟨n, A⟩ := x
            obtain ⟨A0, R, d1, es, e1, e2, e3, e4, e5, i2⟩ := i
            cases e2
            refine ⟨h :: A0, R, d, ds, by rw [e1]; rfl, rfl, by rw [List.length_cons]; omega, ?_, lw_1 hh c1 hd e5, i2⟩
            show okT A0 (0 + arH h); rw [c1]; exact e4
        · rw [if_neg c1] at i
          have c0 : arH h = 0 := by omega
          rw [if_pos c0]
          refine ⟨[h], T, d, ds, rfl, rfl, rfl, ?_, lw_0 hh c0 hd, i⟩
          show okT [] (0 + arH h); rw [c0]; rfl
/-- a whole FORM made shorter -/
theorem shT_ok {T : List Hd} {d : Nat} (h1 : okT T 1) (h2 : dkT T [d]) (h3 : hvT T) : shF T = [(T.length, shT T)] ∧ gdT (shT T) T.length (nvT T) d := by
  have i := shF_ok (ds := [d]) h1 h2 h3
  unfold shT
  generalize shF T = Fs at i ⊢
  cases Fs with
  | nil => cases i.2
  | cons x Fs =>
    obtain ⟨n, A⟩ := x
    obtain ⟨A0, R, d1, es, e1, e2, e3, e4, e5, i2⟩ := i
    cases e2
    cases Fs with
    | cons y Fs =>
      obtain ⟨m, B⟩ := y
      obtain ⟨B0, R2, d2, es2, f1, f2, _⟩ := i2
      cases f2
    | nil =>
      have eR := i2.1
      subst eR
      rw [List.append_nil] at e1
      subst e1
      subst e3
      exact ⟨rfl, e5⟩
