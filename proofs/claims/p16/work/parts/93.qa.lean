/-! DEEDS as lists of heads -/
/-- a VALUE: the sign ahead (0: the first of its SUM), what it is, the NUMBER -/
abbrev Vl := Int × Int × Int
/-- a WORD's head: kind, N, SIGN, the VALUES of its left SUM, of its right one -/
abbrev Hd := Int × Int × Int × List Vl × List Vl
def arH (h : Hd) : Nat := if h.1 = 3 ∨ h.1 = 4 ∨ h.1 = 5 then 2 else if 2 ≤ h.1 then 1 else 0
def vsH (h : Hd) : List Vl := h.2.2.2.1 ++ h.2.2.2.2
def nvH (h : Hd) : Nat := h.2.2.2.1.length + h.2.2.2.2.length
def nvT : List Hd → Nat
  | [] => 0
  | h :: T => nvH h + nvT T
/-- where a DEED is wanted: of which WORD, its second one, how deep -/
abbrev Sl := Int × Bool × Nat
def psS (h : Hd) (W d : Nat) (st : List Sl) : List Sl := if arH h = 2 then ((W : Int), false, d + 1) :: ((W : Int), true, d + 1) :: st else if arH h = 1 then ((W : Int), false, d + 1) :: st else st
def lkS (s : Bool) : Nat := if s then 4 else 3
def vlF (a : Nat) (x : Vl) : Int := if a = 10 then x.1 else if a = 11 then x.2.1 else x.2.2
/-- a WORD more -/
def hdA (h : Hd) (V : Nat) (par : Int) (d a : Nat) : Int := if a = 0 then h.1 else if a = 1 then (d : Int) else if a = 2 then h.2.1
      else if a = 5 then (if 6 ≤ h.1 ∧ h.1 ≤ 9 then (V : Int) else -1)
      else if a = 6 then (if 6 ≤ h.1 ∧ h.1 ≤ 9 then (V : Int) + (h.2.2.2.1.length : Int) else -1)
      else if a = 7 then (if 6 ≤ h.1 ∧ h.1 ≤ 9 then (V : Int) + (nvH h : Int) else -1)
      else if a = 8 then h.2.2.1 else if a = 9 then par else -1
def ptH (h : Hd) (W V : Nat) (par : Int) (sec : Bool) (d : Nat) (c : Cn) : Cn := fun a b =>
  if b = W ∧ a ≤ 9 then hdA h V par d a
  else if (b : Int) = par ∧ a = lkS sec then (W : Int)
  else if 10 ≤ a ∧ a ≤ 12 ∧ V ≤ b ∧ b < V + nvH h then vlF a ((vsH h).getD (b - V) (0, 0, 0))
  else c a b
/-- a list of heads laid out, WORDS from W on, VALUES from V on -/
def LY : List Hd → Nat → Nat → List Sl → Cn → Cn
  | [], _, _, _, c => c
  | _ :: _, _, _, [], c => c
  | h :: T, W, V, (p, s, d) :: st, c => LY T (W + 1) (V + nvH h) (psS h W d st) (ptH h W V p s d c)
/-- the list is n DEEDS -/
def okT : List Hd → Nat → Prop
  | [], n => n = 0
  | _ :: _, 0 => False
  | h :: T, n + 1 => okT T (n + arH h)
theorem arH_le {h : Hd} : arH h ≤ 2 := by
  unfold arH
  (repeat' split) <;> omega
theorem okT_app : ∀ {A B : List Hd} {n m : Nat}, okT A n → okT B m → okT (A ++ B) (n + m) := by
  intro A
  induction A with
  | nil => intro B n m h1 h2; have e : n = 0 := h1; subst e; rw [Nat.zero_add]; exact h2
  | cons h A ih =>
    intro B n m h1 h2
    cases n with
    | zero => exact (show False from h1).elim
    | succ n =>
      have h3 : okT A (n + arH h) := h1
      have h4 := ih h3 h2
      rw [show n + 1 + m = (n + m) + 1 by omega]
      show okT (A ++ B) (n + m + arH h)
      rw [show n + m + arH h = n + arH h + m by omega]
      exact h4
theorem okT_spl : ∀ {T : List Hd} {n m : Nat}, okT T (n + m) → ∃ A B, T = A ++ B ∧ okT A n ∧ okT B m := by
  intro T
  induction T with
  | nil => intro n m h; have e : n + m = 0 := h; exact ⟨[], [], rfl, (by show n = 0; omega), (by show m = 0; omega)⟩
  | cons h T ih =>
    intro n m hh
    cases n with
    | zero => rw [Nat.zero_add] at hh; exact ⟨[], h :: T, rfl, rfl, hh⟩
    | succ n =>
      rw [show n + 1 + m = (n + m) + 1 by omega] at hh
      have h2 : okT T (n + m + arH h) := hh
      rw [show n + m + arH h = (n + arH h) + m by omega] at h2
      obtain ⟨A, B, e, a, b⟩ := ih h2
      exact ⟨h :: A, B, by rw [e]; rfl, a, b⟩
theorem okT_inj : ∀ {A A2 B B2 : List Hd} {n : Nat}, okT A n → okT A2 n → A ++ B = A2 ++ B2 → A = A2 ∧ B = B2 := by
  intro A
  induction A with
  | nil =>
    intro A2 B B2 n h1 h2 e
    have z : n = 0 := h1
    subst z
    cases A2 with
    | nil => exact ⟨rfl, e⟩
    | cons x A2 => exact (show False from h2).elim
  | cons h A ih =>
    intro A2 B B2 n h1 h2 e
    cases n with
    | zero => exact (show False from h1).elim
    | succ n =>
      cases A2 with
      | nil => have z : n + 1 = 0 := h2; omega
      | cons x A2 =>
        have e2 : h :: (A ++ B) = x :: (A2 ++ B2) := e
        injection e2 with e3 e4
        subst e3
        obtain ⟨q1, q2⟩ := ih (show okT A (n + arH h) from h1) (show okT A2 (n + arH h) from h2) e4
        exact ⟨by rw [q1], q2⟩
theorem okT_1 {h : Hd} {A : List Hd} (hA : okT (h :: A) 1) : okT A (arH h) := by
  have h2 : okT A (0 + arH h) := hA
  rw [Nat.zero_add] at h2
  exact h2
theorem okT_ne {A : List Hd} {n : Nat} (hA : okT A (n + 1)) : ∃ h B, A = h :: B := by
  cases A with
  | nil => have z : n + 1 = 0 := hA; omega
  | cons h B => exact ⟨h, B, rfl⟩
theorem psS_app {h : Hd} {W d : Nat} {st1 st : List Sl} : psS h W d (st1 ++ st) = psS h W d st1 ++ st := by
  unfold psS
  (repeat' split) <;> rfl
theorem psS_len {h : Hd} {W d : Nat} {st : List Sl} : (psS h W d st).length = st.length + arH h := by
  have h2 := arH_le (h := h)
  unfold psS
  by_cases c2 : arH h = 2
  · rw [if_pos c2, c2]; rfl
  · rw [if_neg c2]
    by_cases c1 : arH h = 1
    · rw [if_pos c1, c1]; rfl
    · rw [if_neg c1, show arH h = 0 by omega]; rfl
theorem psS_mem {h : Hd} {W d : Nat} {st : List Sl} {p : Int} {s : Bool} {e : Nat} (hm : (p, s, e) ∈ psS h W d st) : p = (W : Int) ∨ (p, s, e) ∈ st := by
  unfold psS at hm
  by_cases c2 : arH h = 2
  · rw [if_pos c2] at hm
    rcases List.mem_cons.mp hm with q | q
    · exact Or.inl (congrArg Prod.fst q)
    · rcases List.mem_cons.mp q with q | q
      · exact Or.inl (congrArg Prod.fst q)
      · exact Or.inr q
  · rw [if_neg c2] at hm
    by_cases c1 : arH h = 1
    · rw [if_pos c1] at hm
      rcases List.mem_cons.mp hm with q | q
      · exact Or.inl (congrArg Prod.fst q)
      · exact Or.inr q
    · rw [if_neg c1] at hm
      exact Or.inr hm
theorem LY_app : ∀ {A R : List Hd} {W V : Nat} {st1 st : List Sl} {c : Cn}, okT A st1.length → LY (A ++ R) W V (st1 ++ st) c = LY R (W + A.length) (V + nvT A) st (LY A W V st1 c) := by
  intro A
  induction A with
  | nil =>
    intro R W V st1 st c h
    have e : st1.length = 0 := h
    have e2 := List.eq_nil_of_length_eq_zero e
    subst e2
    rfl
  | cons h A ih =>
    intro R W V st1 st c hh
    cases st1 with
    | nil => exact (show False from hh).elim
    | cons x st1 =>
      obtain ⟨p, s, d⟩ := x
      have h2 : okT A (psS h W d st1).length := by rw [psS_len]; exact hh
      show LY (A ++ R) (W + 1) (V + nvH h) (psS h W d (st1 ++ st)) (ptH h W V p s d c) = LY R (W + (A.length + 1)) (V + (nvH h + nvT A)) st (LY A (W + 1) (V + nvH h) (psS h W d st1) (ptH h W V p s d c))
      rw [psS_app, ih h2, show W + (A.length + 1) = W + 1 + A.length by omega, show V + (nvH h + nvT A) = V + nvH h + nvT A by omega]
theorem lkS_le {s : Bool} : 3 ≤ lkS s ∧ lkS s ≤ 4 := by cases s <;> decide
theorem ptH_fr {h : Hd} {W V : Nat} {p : Int} {s : Bool} {d : Nat} {c : Cn} {a b : Nat} (ha : a ≤ 9) (hb : b ≠ W) (hs : ¬ ((b : Int) = p ∧ a = lkS s)) : ptH h W V p s d c a b = c a b := by
  unfold ptH
  rw [if_neg (by omega), if_neg hs, if_neg (by omega)]
theorem ptH_fv {h : Hd} {W V : Nat} {p : Int} {s : Bool} {d : Nat} {c : Cn} {a b : Nat} (ha : 10 ≤ a) (hb : ¬ (V ≤ b ∧ b < V + nvH h)) : ptH h W V p s d c a b = c a b := by
  have hl := @lkS_le s
  unfold ptH
  rw [if_neg (by omega), if_neg (by omega), if_neg (by omega)]
theorem LY_fr : ∀ {T : List Hd} {W V : Nat} {st : List Sl} {c : Cn} {a b : Nat}, a ≤ 9 → b < W → (∀ p s d, (p, s, d) ∈ st → ¬ ((b : Int) = p ∧ a = lkS s)) → LY T W V st c a b = c a b := by
  intro T
  induction T with
  | nil => intro W V st c a b _ _ _; cases st <;> rfl
  | cons h T ih =>
    intro W V st c a b ha hb hs
    cases st with
    | nil => rfl
    | cons x st =>
      obtain ⟨p, s, d⟩ := x
      show LY T (W + 1) (V + nvH h) (psS h W d st) (ptH h W V p s d c) a b = c a b
      rw [ih ha (by omega) (fun p2 s2 d2 hm z => by
        rcases psS_mem hm with q | q
        · omega
        · exact hs p2 s2 d2 (List.mem_cons_of_mem _ q) z)]
      exact ptH_fr ha (by omega) (hs p s d List.mem_cons_self)
theorem LY_fv : ∀ {T : List Hd} {W V : Nat} {st : List Sl} {c : Cn} {a b : Nat}, 10 ≤ a → b < V → LY T W V st c a b = c a b := by
  intro T
  induction T with
  | nil => intro W V st c a b _ _; cases st <;> rfl
  | cons h T ih =>
    intro W V st c a b ha hb
    cases st with
    | nil => rfl
    | cons x st =>
      obtain ⟨p, s, d⟩ := x
      show LY T (W + 1) (V + nvH h) (psS h W d st) (ptH h W V p s d c) a b = c a b
      rw [ih ha (by omega)]
      exact ptH_fv ha (by omega)
theorem nvT_app : ∀ {A B : List Hd}, nvT (A ++ B) = nvT A + nvT B := by
  intro A
  induction A with
  | nil => intro B; show nvT B = 0 + nvT B; omega
  | cons h A ih => intro B; show nvH h + nvT (A ++ B) = nvH h + nvT A + nvT B; rw [ih]; omega
/-- what WORD W and its VALUES are, laid for h -/
def hdO (C : Cn) (h : Hd) (w V : Nat) : Prop := C 0 w = h.1 ∧ C 2 w = h.2.1 ∧ C 5 w = (if 6 ≤ h.1 ∧ h.1 ≤ 9 then (V : Int) else -1) ∧ C 6 w = (if 6 ≤ h.1 ∧ h.1 ≤ 9 then (V : Int) + (h.2.2.2.1.length : Int) else -1) ∧ C 7 w = (if 6 ≤ h.1 ∧ h.1 ≤ 9 then (V : Int) + (nvH h : Int) else -1) ∧ C 8 w = h.2.2.1
  ∧ ∀ i, i < nvH h → ∀ a, 10 ≤ a → a ≤ 12 → C a (V + i) = vlF a ((vsH h).getD i (0, 0, 0))
theorem hdO_cg {C C2 : Cn} {h : Hd} {w V : Nat} (hh : hdO C h w V) (e1 : ∀ a, a ≤ 9 → a ≠ 3 → a ≠ 4 → C2 a w = C a w) (e2 : ∀ i, i < nvH h → ∀ a, 10 ≤ a → a ≤ 12 → C2 a (V + i) = C a (V + i)) : hdO C2 h w V := by
  obtain ⟨h0, h2, h5, h6, h7, h8, hv⟩ := hh
  exact ⟨(e1 0 (by decide) (by decide) (by decide)).trans h0, (e1 2 (by decide) (by decide) (by decide)).trans h2, (e1 5 (by decide) (by decide) (by decide)).trans h5, (e1 6 (by decide) (by decide) (by decide)).trans h6, (e1 7 (by decide) (by decide) (by decide)).trans h7, (e1 8 (by decide) (by decide) (by decide)).trans h8, fun i hi a ha hb => (e2 i hi a ha hb).trans (hv i hi a ha hb)⟩
theorem ptH_o {h : Hd} {W V : Nat} {p : Int} {s : Bool} {d : Nat} {c : Cn} (hp : p < W) : hdO (ptH h W V p s d c) h W V ∧ ptH h W V p s d c 3 W = -1 ∧ ptH h W V p s d c 4 W = -1 ∧ ptH h W V p s d c 1 W = d ∧ ptH h W V p s d c 9 W = p := by
  have e : ∀ a, a ≤ 9 → ptH h W V p s d c a W = hdA h V p d a := fun a ha => by unfold ptH; rw [if_pos ⟨rfl, ha⟩]
  refine ⟨⟨e 0 (by decide), e 2 (by decide), e 5 (by decide), e 6 (by decide), e 7 (by decide), e 8 (by decide), fun i hi a ha hb => ?_⟩, e 3 (by decide), e 4 (by decide), e 1 (by decide), e 9 (by decide)⟩
  have hl := @lkS_le s
  unfold ptH
  rw [if_neg (by omega), if_neg (by omega), if_pos (by omega), show V + i - V = i by omega]
theorem ptH_lk {h : Hd} {W V : Nat} {p : Nat} {s : Bool} {d : Nat} {c : Cn} (hp : p < W) : ptH h W V p s d c (lkS s) p = W := by
  unfold ptH
  rw [if_neg (by omega), if_pos ⟨rfl, rfl⟩]
/-- what stands at the first WORD of a list laid out -/
theorem LY_hd {h : Hd} {R : List Hd} {W V : Nat} {p : Int} {s : Bool} {d : Nat} {st : List Sl} {c : Cn} (hok : okT (h :: R) (st.length + 1)) (hs : ∀ p2 s2 d2, (p2, s2, d2) ∈ (p, s, d) :: st → p2 < (W : Int)) :
    hdO (LY (h :: R) W V ((p, s, d) :: st) c) h W V ∧ LY (h :: R) W V ((p, s, d) :: st) c 1 W = d ∧ LY (h :: R) W V ((p, s, d) :: st) c 9 W = p
    ∧ LY (h :: R) W V ((p, s, d) :: st) c 3 W = (if arH h = 0 then -1 else (W : Int) + 1)
    ∧ (arH h ≠ 2 → LY (h :: R) W V ((p, s, d) :: st) c 4 W = -1)
    ∧ (arH h = 2 → ∀ A B, R = A ++ B → okT A 1 → LY (h :: R) W V ((p, s, d) :: st) c 4 W = (W : Int) + 1 + (A.length : Int)) := by
  have hp := hs p s d List.mem_cons_self
  obtain ⟨o, o3, o4, o1, o9⟩ := ptH_o (h := h) (V := V) (s := s) (d := d) (c := c) hp
  have hR : okT R (st.length + arH h) := hok
  have har := arH_le (h := h)
  show hdO (LY R (W + 1) (V + nvH h) (psS h W d st) (ptH h W V p s d c)) h W V ∧ LY R (W + 1) (V + nvH h) (psS h W d st) (ptH h W V p s d c) 1 W = d ∧ LY R (W + 1) (V + nvH h) (psS h W d st) (ptH h W V p s d c) 9 W = p
    ∧ LY R (W + 1) (V + nvH h) (psS h W d st) (ptH h W V p s d c) 3 W = (if arH h = 0 then -1 else (W : Int) + 1)
    ∧ (arH h ≠ 2 → LY R (W + 1) (V + nvH h) (psS h W d st) (ptH h W V p s d c) 4 W = -1)
    ∧ (arH h = 2 → ∀ A B, R = A ++ B → okT A 1 → LY R (W + 1) (V + nvH h) (psS h W d st) (ptH h W V p s d c) 4 W = (W : Int) + 1 + (A.length : Int))
  generalize ptH h W V p s d c = c1 at o o3 o4 o1 o9 ⊢
  have hst : ∀ p2 s2 d2, (p2, s2, d2) ∈ st → p2 < (W : Int) := fun p2 s2 d2 hm => hs p2 s2 d2 (List.mem_cons_of_mem _ hm)
  have fr : ∀ a, a ≤ 9 → a ≠ 3 → a ≠ 4 → LY R (W + 1) (V + nvH h) (psS h W d st) c1 a W = c1 a W := fun a ha h3 h4 => LY_fr ha (by omega) (fun p2 s2 d2 _ z => by have hl := @lkS_le s2; omega)
  refine ⟨hdO_cg o fr (fun i hi a ha hb => LY_fv ha (by omega)), (fr 1 (by decide) (by decide) (by decide)).trans o1, (fr 9 (by decide) (by decide) (by decide)).trans o9, ?_, ?_, ?_⟩
  · by_cases c0 : arH h = 0
    · rw [if_pos c0, LY_fr (by decide) (by omega) (fun p2 s2 d2 hm z => by
        unfold psS at hm
        rw [if_neg (by omega), if_neg (by omega)] at hm
        have := hst p2 s2 d2 hm
        omega)]
      exact o3
    · rw [if_neg c0]
      obtain ⟨r, R2, e⟩ := okT_ne (n := st.length + arH h - 1) (A := R) (by rw [show st.length + arH h - 1 + 1 = st.length + arH h by omega]; exact hR)
      rw [e]
      have key : ∀ (st2 : List Sl), (∀ p2 s2 d2, (p2, s2, d2) ∈ st2 → p2 = (W : Int) → s2 = true) → (∀ p2 s2 d2, (p2, s2, d2) ∈ st2 → p2 ≤ (W : Int)) → LY (r :: R2) (W + 1) (V + nvH h) (((W : Int), false, d + 1) :: st2) c1 3 W = (W : Int) + 1 := fun st2 k1 k2 => by
        show LY R2 (W + 1 + 1) (V + nvH h + nvH r) (psS r (W + 1) (d + 1) st2) (ptH r (W + 1) (V + nvH h) (W : Int) false (d + 1) c1) 3 W = (W : Int) + 1
        rw [LY_fr (by decide) (by omega) (fun p2 s2 d2 hm z => by
          rcases psS_mem hm with q | q
          · omega
          · have e1 := k1 p2 s2 d2 q z.1.symm
            rw [e1] at z
            exact absurd z.2 (by decide))]
        exact ptH_lk (s := false) (by omega)
      unfold psS
      by_cases c2 : arH h = 2
      · rw [if_pos c2]
        refine key _ (fun p2 s2 d2 hm z => ?_) (fun p2 s2 d2 hm => ?_)
        · rcases List.mem_cons.mp hm with q | q
          · exact congrArg (fun x => x.2.1) q
          · have := hst p2 s2 d2 q; omega
        · rcases List.mem_cons.mp hm with q | q
          · have : p2 = (W : Int) := congrArg Prod.fst q
            omega
          · have := hst p2 s2 d2 q; omega
      · rw [if_neg c2, if_pos (by omega)]
        exact key _ (fun p2 s2 d2 hm z => by have := hst p2 s2 d2 hm; omega) (fun p2 s2 d2 hm => by have := hst p2 s2 d2 hm; omega)
  · intro c2
    rw [LY_fr (by decide) (by omega) (fun p2 s2 d2 hm z => by
      unfold psS at hm
      rw [if_neg c2] at hm
      by_cases c1 : arH h = 1
      · rw [if_pos c1] at hm
        rcases List.mem_cons.mp hm with q | q
        · have : s2 = false := congrArg (fun x => x.2.1) q
          rw [this] at z
          exact absurd z.2 (by decide)
        · have := hst p2 s2 d2 q; omega
      · rw [if_neg c1] at hm
        have := hst p2 s2 d2 hm; omega)]
    exact o4
  · intro c2 A B e hA
    have hp2 : psS h W d st = [((W : Int), false, d + 1)] ++ (((W : Int), true, d + 1) :: st) := by unfold psS; rw [if_pos c2]; rfl
    rw [e, hp2, LY_app (show okT A [((W : Int), false, d + 1)].length from hA)]
    rw [e, c2, show st.length + 2 = 1 + (st.length + 1) by omega] at hR
    obtain ⟨A2, B2, e2, hA2, hB2⟩ := okT_spl hR
    obtain ⟨_, eB⟩ := okT_inj hA hA2 e2
    rw [← eB] at hB2
    obtain ⟨r, R2, e3⟩ := okT_ne hB2
    rw [e3]
    show LY R2 (W + 1 + A.length + 1) (V + nvH h + nvT A + nvH r) (psS r (W + 1 + A.length) (d + 1) st) (ptH r (W + 1 + A.length) (V + nvH h + nvT A) (W : Int) true (d + 1) (LY A (W + 1) (V + nvH h) [((W : Int), false, d + 1)] c1)) 4 W = (W : Int) + 1 + (A.length : Int)
    rw [LY_fr (by decide) (by omega) (fun p2 s2 d2 hm z => by
      rcases psS_mem hm with q | q
      · omega
      · have := hst p2 s2 d2 q; omega)]
    have q := ptH_lk (h := r) (W := W + 1 + A.length) (V := V + nvH h + nvT A) (p := W) (s := true) (d := d + 1) (c := LY A (W + 1) (V + nvH h) [((W : Int), false, d + 1)] c1) (by omega)
    have q2 : ptH r (W + 1 + A.length) (V + nvH h + nvT A) (W : Int) true (d + 1) (LY A (W + 1) (V + nvH h) [((W : Int), false, d + 1)] c1) 4 W = ((W + 1 + A.length : Nat) : Int) := q
    rw [q2]
    omega
/-- what stands at WORD w of a content: its head h, the rest of the list behind it -/
def wdO (C : Cn) (h : Hd) (R : List Hd) (w V : Nat) : Prop := hdO C h w V ∧ C 3 w = (if arH h = 0 then -1 else (w : Int) + 1) ∧ (arH h ≠ 2 → C 4 w = -1) ∧ (arH h = 2 → ∀ A B, R = A ++ B → okT A 1 → C 4 w = (w : Int) + 1 + (A.length : Int))
theorem LY_at : ∀ {T1 : List Hd} {h : Hd} {R : List Hd} {W V : Nat} {st : List Sl} {c : Cn}, okT (T1 ++ h :: R) st.length → (∀ p s d, (p, s, d) ∈ st → p < (W : Int)) → wdO (LY (T1 ++ h :: R) W V st c) h R (W + T1.length) (V + nvT T1) := by
  intro T1
  induction T1 with
  | nil =>
    intro h R W V st c hok hs
    cases st with
    | nil => exact (show False from hok).elim
    | cons x st =>
      obtain ⟨p, s, d⟩ := x
      obtain ⟨q1, _, _, q3, q4, q5⟩ := LY_hd (V := V) (c := c) hok hs
      exact ⟨q1, q3, q4, q5⟩
  | cons t T1 ih =>
    intro h R W V st c hok hs
    cases st with
    | nil => exact (show False from hok).elim
    | cons x st =>
      obtain ⟨p, s, d⟩ := x
      show wdO (LY (T1 ++ h :: R) (W + 1) (V + nvH t) (psS t W d st) (ptH t W V p s d c)) h R (W + (T1.length + 1)) (V + (nvH t + nvT T1))
      rw [show W + (T1.length + 1) = W + 1 + T1.length by omega, show V + (nvH t + nvT T1) = V + nvH t + nvT T1 by omega]
      refine ih (by rw [psS_len]; exact hok) (fun p2 s2 d2 hm => ?_)
      rcases psS_mem hm with q | q
      · omega
      · have := hs p2 s2 d2 (List.mem_cons_of_mem _ q)
        omega
/-- a content of a whole list -/
def blC : Cn := fun _ _ => -1
def tcC (T : List Hd) : Cn := LY T 0 0 [(-1, false, 0)] blC
theorem tcC_at {T1 : List Hd} {h : Hd} {R : List Hd} (hok : okT (T1 ++ h :: R) 1) : wdO (tcC (T1 ++ h :: R)) h R T1.length (nvT T1) := by
  have q := LY_at (T1 := T1) (h := h) (R := R) (W := 0) (V := 0) (st := [(-1, false, 0)]) (c := blC) hok (fun p s d hm => by
    rcases List.mem_cons.mp hm with q | q
    · have : p = -1 := congrArg Prod.fst q
      omega
    · cases q)
  rw [Nat.zero_add, Nat.zero_add] at q
  exact q
/-- the DEED at w of a graph of WORDS -/
def trG (H : Nat → Hd) (fi se : Nat → Nat) : Nat → Nat → List Hd
  | 0, _ => []
  | k + 1, w => H w :: (if arH (H w) = 2 then trG H fi se k (fi w) ++ trG H fi se k (se w) else if arH (H w) = 1 then trG H fi se k (fi w) else [])
/-- links go to later WORDS, below m -/
def gO (H : Nat → Hd) (fi se : Nat → Nat) (m : Nat) : Prop := ∀ w, w < m → (1 ≤ arH (H w) → w < fi w ∧ fi w < m) ∧ (arH (H w) = 2 → w < se w ∧ se w < m)
theorem trG_ok {H : Nat → Hd} {fi se : Nat → Nat} {m : Nat} (hg : gO H fi se m) : ∀ k w, w < m → m ≤ w + k → okT (trG H fi se k w) 1 := by
  intro k
  induction k with
  | zero => intro w h1 h2; omega
  | succ k ih =>
    intro w h1 h2
    have hw := hg w h1
    have hl := arH_le (h := H w)
    show okT _ (0 + arH (H w))
    rw [Nat.zero_add]
    by_cases c2 : arH (H w) = 2
    · rw [if_pos c2, c2]
      exact okT_app (ih _ (by omega) (by omega)) (ih _ (by omega) (by omega))
    · rw [if_neg c2]
      by_cases c1 : arH (H w) = 1
      · rw [if_pos c1, c1]
        exact ih _ (by omega) (by omega)
      · rw [if_neg c1, show arH (H w) = 0 by omega]
        rfl
/-- as deep as one likes; what lies below lo isn't looked at -/
theorem trG_cg {H H2 : Nat → Hd} {fi se fi2 se2 : Nat → Nat} {lo m : Nat} (hg : ∀ w, lo ≤ w → w < m → (1 ≤ arH (H w) → w < fi w ∧ fi w < m) ∧ (arH (H w) = 2 → w < se w ∧ se w < m)) (e : ∀ w, lo ≤ w → w < m → H2 w = H w ∧ (1 ≤ arH (H w) → fi2 w = fi w) ∧ (arH (H w) = 2 → se2 w = se w)) : ∀ k k2 w, lo ≤ w → w < m → m ≤ w + k → m ≤ w + k2 → trG H2 fi2 se2 k2 w = trG H fi se k w := by
  intro k
  induction k with
  | zero => intro k2 w h0 h1 h2; omega
  | succ k ih =>
    intro k2 w h0 h1 h2 h3
    cases k2 with
    | zero => omega
    | succ k2 =>
      have hw := hg w h0 h1
      obtain ⟨e1, e2, e3⟩ := e w h0 h1
      have hl := arH_le (h := H w)
      unfold trG
      rw [e1]
      by_cases c2 : arH (H w) = 2
      · rw [if_pos c2, if_pos c2, e2 (by omega), e3 c2, ih k2 (fi w) (by omega) (by omega) (by omega) (by omega), ih k2 (se w) (by omega) (by omega) (by omega) (by omega)]
      · rw [if_neg c2, if_neg c2]
        by_cases c1 : arH (H w) = 1
        · rw [if_pos c1, if_pos c1, e2 (by omega), ih k2 (fi w) (by omega) (by omega) (by omega) (by omega)]
        · rw [if_neg c1, if_neg c1]
theorem trG_at {H : Nat → Hd} {fi se : Nat → Nat} {k w : Nat} : trG H fi se (k + 1) w = H w :: (if arH (H w) = 2 then trG H fi se k (fi w) ++ trG H fi se k (se w) else if arH (H w) = 1 then trG H fi se k (fi w) else []) := rfl
/-- a graph that follows a list holds its DEEDS -/
theorem trG_T {T : List Hd} {H : Nat → Hd} {fi se : Nat → Nat} (hw : ∀ T1 h R, T = T1 ++ h :: R → H T1.length = h ∧ (1 ≤ arH h → fi T1.length = T1.length + 1) ∧ (arH h = 2 → ∀ A B, R = A ++ B → okT A 1 → se T1.length = T1.length + 1 + A.length)) : ∀ k T1 A R, A.length ≤ k → okT A 1 → T = T1 ++ (A ++ R) → trG H fi se k T1.length = A := by
  intro k
  induction k with
  | zero =>
    intro T1 A R h1 h2 h3
    obtain ⟨h, B, e⟩ := okT_ne h2
    rw [e, List.length_cons] at h1
    omega
  | succ k ih =>
    intro T1 A R h1 h2 h3
    obtain ⟨h, A1, e⟩ := okT_ne h2
    subst e
    have hA := okT_1 h2
    obtain ⟨w1, w2, w3⟩ := hw T1 h (A1 ++ R) h3
    have hl := arH_le (h := h)
    rw [List.length_cons] at h1
    rw [trG_at, w1]
    by_cases c2 : arH h = 2
    · rw [c2] at hA
      obtain ⟨A2, B2, e2, o1, o2⟩ := okT_spl (n := 1) (m := 1) hA
      subst e2
      rw [List.length_append] at h1
      have s2 := w3 c2 A2 (B2 ++ R) (List.append_assoc _ _ _) o1
      rw [if_pos c2, w2 (by omega), s2]
      have i1 := ih (T1 ++ [h]) A2 (B2 ++ R) (by omega) o1 (by rw [h3]; simp [List.append_assoc])
      have i2 := ih (T1 ++ h :: A2) B2 R (by omega) o2 (by rw [h3]; simp [List.append_assoc])
      rw [List.length_append, List.length_cons, List.length_nil] at i1
      rw [List.length_append, List.length_cons] at i2
      rw [show T1.length + 1 = T1.length + (0 + 1) by omega, i1, show T1.length + (0 + 1) + A2.length = T1.length + (A2.length + 1) by omega, i2]
    · rw [if_neg c2]
      by_cases c1 : arH h = 1
      · rw [c1] at hA
        rw [if_pos c1, w2 (by omega)]
        have i1 := ih (T1 ++ [h]) A1 R (by omega) hA (by rw [h3]; simp [List.append_assoc])
        rw [List.length_append, List.length_cons, List.length_nil] at i1
        rw [show T1.length + 1 = T1.length + (0 + 1) by omega, i1]
      · rw [show arH h = 0 by omega] at hA
        rw [if_neg c1]
        cases A1 with
        | nil => rfl
        | cons x A1 => exact (show False from hA).elim
