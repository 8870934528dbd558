/-! content of a text -/
/-- what a FORM holds, by fields. Of WORD w: 0 kind, 1 how many WORDS around it, 2 N, 3 its first DEED, 4 its second, 5 6 7 where its VALUES begin, part, end, 8 the SIGN (0 < 1 <= 2 = 3 >= 4 >), 9 the WORD around; -1 where there is none. Of VALUE i: 10 the sign ahead (0: the first of its SUM), 11 what it is (-1 a NUMBER, 0 .. 5 a THING, 6 the day), 12 the NUMBER -/
abbrev Cn := Nat → Nat → Int
def cU (c : Cn) (k w : Nat) (x : Int) : Cn := fun a b => if a = k ∧ b = w then x else c a b
def dgV (T : Nat → Int) (p : Nat) : Nat → Int
  | 0 => 0
  | m + 1 => 10 * dgV T p m + (T (p + m) - 48)
def nuV (T : Nat → Int) (p : Nat) : Int := dgV T p (dgR T p)
/-- what the VALUE at s is, its NUMBER -/
def whV (T : Nat → Int) (s : Nat) : Int := if 48 ≤ T s ∧ T s ≤ 57 then -1 else if T s = 100 then 6 else T (s + 1) - 48
def nbV (T : Nat → Int) (s : Nat) : Int := if 48 ≤ T s ∧ T s ≤ 57 then nuV T s else 0
def vaC (T : Nat → Int) (p V : Nat) (jo : Int) (c : Cn) : Cn := cU (cU (cU c 10 V jo) 11 V (whV T (skR T p))) 12 V (nbV T (skR T p))
def suC (T : Nat → Int) : Nat → Nat → Nat → Int → Cn → Cn
  | 0, _, _, _, c => c
  | k + 1, p, V, jo, c => match vaR T p V with
    | .inl _ => c
    | .inr (q, V2) => if T (skR T q) = 43 ∨ T (skR T q) = 45 ∨ T (skR T q) = 42 then suC T k (skR T q + 1) V2 (T (skR T q)) (vaC T p V jo c) else vaC T p V jo c
def reV (T : Nat → Int) (p : Nat) : Int := if T (skR T p) = 61 then 2 else if T (skR T p) = 60 then (if T (skR T p + 1) = 61 then 1 else 0) else (if T (skR T p + 1) = 61 then 3 else 4)
/-- a WORD more: the next DEED of the one around it -/
def nwC (kd : Int) (W : Nat) (par : Int) (sec : Bool) (dp : Int) (c : Cn) : Cn := fun a b => if b = W ∧ a ≤ 9 then (if a = 0 then kd else if a = 1 then dp else if a = 9 then par else -1) else if (b : Int) = par ∧ a = (if sec then 4 else 3) then (W : Int) else c a b
/-- what stands between a WORD's name and its DEEDS -/
def hdC (T : Nat → Int) (kd p V W : Nat) (c : Cn) : Cn :=
  if kd = 5 ∨ kd = 10 then cU c 2 W (nuV T (skR T p))
  else if kd = 6 ∨ kd = 7 ∨ kd = 8 then
    match suR T 41 p V with
    | .inl _ => c
    | .inr (q, V2) => match reR T q with
      | .inl _ => c
      | .inr q2 => match suR T 41 q2 V2 with
        | .inl _ => c
        | .inr (_, V3) => suC T 41 q2 V2 0 (suC T 41 p V 0 (cU (cU (cU (cU c 5 W V) 6 W V2) 8 W (reV T q)) 7 W V3))
  else if kd = 9 then
    match suR T 41 p V with
    | .inl _ => c
    | .inr (_, V2) => suC T 41 p V 0 (cU (cU (cU c 5 W V) 6 W V2) 7 W V2)
  else c
def bgC (T : Nat → Int) (p0 W V : Nat) (par : Int) (sec : Bool) (O : Nat) (c : Cn) : Cn := hdC T (kdR T (skR T p0)) (skR T p0 + ltR T (skR T p0)) V W (nwC (kdR T (skR T p0)) W par sec O c)
/-- a DEED by descent -/
def deC (T : Nat → Int) : Nat → Nat → Nat → Nat → Nat → Cn → Int → Bool → Cn
  | 0, _, _, _, _, c, _, _ => c
  | k + 1, O, p, W, V, c, par, sec => match bgR T p W V O with
    | .inl _ => c
    | .inr (kd, q, V2) => if kd ≤ 1 then bgC T p W V par sec O c
      else if kd = 3 ∨ kd = 4 ∨ kd = 5 then
        match deR T k (O + 1) q (W + 1) V2 with
        | .inl _ => c
        | .inr (q2, W2, V3) => match tkR T q2 44 with
          | .inl _ => c
          | .inr q3 => deC T k (O + 1) q3 W2 V3 (deC T k (O + 1) q (W + 1) V2 (bgC T p W V par sec O c) W false) W true
      else deC T k (O + 1) q (W + 1) V2 (bgC T p W V par sec O c) W false
/-- by a stack of (how it stands open, its WORD); the next DEED is of its top -/
def upC : List (Nat × Nat) → Int × Bool
  | [] => (-1, false)
  | (a, w) :: _ => ((w : Int), decide (a = 2))
def fsC (st : List (Nat × Nat)) : List Nat := st.map Prod.fst
/-- what is open behind a DEED -/
def clC : List (Nat × Nat) → List (Nat × Nat)
  | [] => []
  | (a, w) :: st => if a = 1 then (2, w) :: st else clC st
def moC (T : Nat → Int) : Nat → List (Nat × Nat) → Nat → Nat → Nat → Cn → Cn
  | 0, _, _, _, _, rho => rho
  | k + 1, st, p, W, V, rho => match bgR T p W V st.length with
    | .inl _ => rho
    | .inr (kd, q, V2) => if kd ≤ 1 then
        match enR T (fsC st) q with
        | .inl _ => rho
        | .inr ([], _) => bgC T p W V (upC st).1 (upC st).2 st.length rho
        | .inr (_ :: _, q2) => moC T k (clC st) q2 (W + 1) V2 (bgC T p W V (upC st).1 (upC st).2 st.length rho)
      else moC T k ((if kd = 3 ∨ kd = 4 ∨ kd = 5 then 1 else 0, W) :: st) q (W + 1) V2 (bgC T p W V (upC st).1 (upC st).2 st.length rho)
theorem fsC_ln (st : List (Nat × Nat)) : (fsC st).length = st.length := List.length_map _
theorem enR_cl {T : Nat → Int} : ∀ (st : List (Nat × Nat)) (p : Nat) (r : List Nat × Nat), enR T (fsC st) p = .inr r → r.1 = fsC (clC st) := by
  intro st
  induction st with
  | nil => intro p r h; cases h; rfl
  | cons a st ih =>
    intro p r h
    obtain ⟨a, w⟩ := a
    show r.1 = fsC (if a = 1 then (2, w) :: st else clC st)
    have h2 : enR T (a :: fsC st) p = .inr r := h
    rw [enR] at h2
    by_cases c : a = 1
    · rw [if_pos c] at h2 ⊢
      cases ht : tkR T p 44 with
      | inl d => rw [ht] at h2; cases h2
      | inr q => rw [ht] at h2; cases h2; rfl
    · rw [if_neg c] at h2 ⊢
      by_cases c2 : a = 2
      · rw [if_pos c2] at h2
        cases ht : tkR T p 41 with
        | inl d => rw [ht] at h2; cases h2
        | inr q => rw [ht] at h2; exact ih _ _ h2
      · rw [if_neg c2] at h2
        exact ih _ _ h2
/-- behind a DEED that went well -/
def afC (T : Nat → Int) (st : List (Nat × Nat)) (r : Sum Nat (Nat × Nat × Nat)) (rho : Cn) : Cn := match r with
  | .inl _ => rho
  | .inr (q, W, V) => match enR T (fsC st) q with
    | .inl _ => rho
    | .inr ([], _) => rho
    | .inr (_ :: _, q2) => moC T (41 - W) (clC st) q2 W V rho
/-- a text that is read to its end: descent and stack hold the same (fa: it went wrong somewhere, then nothing is said) -/
theorem mo_deC {T : Nat → Int} : ∀ (k O p W V : Nat) (st : List (Nat × Nat)) (rho : Cn), st.length = O → O ≤ 12 → 13 ≤ O + k → W ≤ 40 → (∃ r, moR T (41 - W) (fsC st) p W V = .inr r) → moC T (41 - W) st p W V rho = afC T st (deR T k O p W V) (deC T k O p W V rho (upC st).1 (upC st).2) := by
  intro k
  induction k with
  | zero => intro O p W V st rho h1 h2 h3; omega
  | succ k ih =>
    intro O p W V st rho h1 h2 h3 hW hok
    have hln := fsC_ln st
    rw [show 41 - W = (40 - W) + 1 by omega] at hok ⊢
    unfold moR at hok
    unfold moC deR deC
    rw [hln, h1] at hok
    rw [h1]
    cases hb : bgR T p W V O with
    | inl c => rw [hb] at hok; obtain ⟨r, hr⟩ := hok; cases hr
    | inr r =>
      obtain ⟨kd, q1, V1⟩ := r
      have hk := bgR_ok hb
      rw [hb] at hok
      dsimp only at hok ⊢
      have e40 : 40 - W = 41 - (W + 1) := by omega
      by_cases c1 : kd ≤ 1
      · rw [if_pos c1] at hok
        rw [if_pos c1, if_pos c1, if_pos c1]
        dsimp only [afC]
        cases hen : enR T (fsC st) q1 with
        | inl c => rw [hen] at hok; obtain ⟨r, hr⟩ := hok; cases hr
        | inr r =>
          obtain ⟨s2, q2⟩ := r
          cases s2 with
          | nil => rfl
          | cons a s2 => dsimp only; rw [e40]
      · rw [if_neg c1] at hok
        rw [if_neg c1, if_neg c1, if_neg c1]
        by_cases c2 : kd = 3 ∨ kd = 4 ∨ kd = 5
        · rw [if_pos c2] at hok
          rw [if_pos c2, if_pos c2, if_pos c2]
          have hok1 : ∃ r, moR T (41 - (W + 1)) (fsC ((1, W) :: st)) q1 (W + 1) V1 = .inr r := by rw [← e40]; exact hok
          have s1 := ih (O + 1) q1 (W + 1) V1 ((1, W) :: st) (bgC T p W V (upC st).1 (upC st).2 O rho) (by rw [List.length_cons, h1]) (by omega) (by omega) (by omega) hok1
          rw [e40, s1]
          have m1 := mo_de (T := T) k (O + 1) q1 (W + 1) V1 (fsC ((1, W) :: st)) (by rw [fsC_ln, List.length_cons, h1]) (by omega) (by omega) (by omega)
          rw [m1] at hok1
          show afC T ((1, W) :: st) _ (deC T k (O + 1) q1 (W + 1) V1 _ (W : Int) (decide (1 = 2))) = _
          rw [show decide ((1 : Nat) = 2) = false from rfl]
          cases hd : deR T k (O + 1) q1 (W + 1) V1 with
          | inl c => rw [hd] at hok1; obtain ⟨r, hr⟩ := hok1; cases hr
          | inr r2 =>
            obtain ⟨q2, W3, V3⟩ := r2
            have i1 := deR_W _ _ _ _ _ _ _ _ (by omega) hd
            rw [hd] at hok1
            have en1 : enR T (fsC ((1, W) :: st)) q2 = (match tkR T q2 44 with | .inl c => .inl c | .inr q => .inr (2 :: fsC st, q)) := by show enR T (1 :: fsC st) q2 = _; rw [enR, if_pos rfl]; rfl
            dsimp only [afR] at hok1
            dsimp only [afC]
            rw [en1] at hok1 ⊢
            cases ht : tkR T q2 44 with
            | inl c => rw [ht] at hok1; obtain ⟨r, hr⟩ := hok1; cases hr
            | inr q3 =>
              rw [ht] at hok1
              dsimp only at hok1 ⊢
              have cl1 : clC ((1, W) :: st) = (2, W) :: st := if_pos rfl
              rw [cl1]
              have hok2 : ∃ r, moR T (41 - W3) (fsC ((2, W) :: st)) q3 W3 V3 = .inr r := hok1
              rw [ih (O + 1) q3 W3 V3 ((2, W) :: st) _ (by rw [List.length_cons, h1]) (by omega) (by omega) (by omega) hok2]
              have m2 := mo_de (T := T) k (O + 1) q3 W3 V3 (fsC ((2, W) :: st)) (by rw [fsC_ln, List.length_cons, h1]) (by omega) (by omega) (by omega)
              rw [m2] at hok2
              show afC T ((2, W) :: st) _ (deC T k (O + 1) q3 W3 V3 _ (W : Int) (decide (2 = 2))) = _
              rw [show decide ((2 : Nat) = 2) = true from rfl]
              cases he : deR T k (O + 1) q3 W3 V3 with
              | inl c => rw [he] at hok2; obtain ⟨r, hr⟩ := hok2; cases hr
              | inr r3 =>
                obtain ⟨q4, W4, V4⟩ := r3
                rw [he] at hok2
                have en2 : enR T (fsC ((2, W) :: st)) q4 = (match tkR T q4 41 with | .inl c => .inl c | .inr q => enR T (fsC st) q) := by show enR T (2 :: fsC st) q4 = _; rw [enR, if_neg (by decide), if_pos rfl]; rfl
                dsimp only [afR] at hok2
                dsimp only [afC]
                rw [en2] at hok2 ⊢
                cases hu : tkR T q4 41 with
                | inl c => rfl
                | inr q5 =>
                  dsimp only
                  rw [show clC ((2, W) :: st) = clC st from if_neg (by decide)]
        · rw [if_neg c2] at hok
          rw [if_neg c2, if_neg c2, if_neg c2]
          have hok1 : ∃ r, moR T (41 - (W + 1)) (fsC ((0, W) :: st)) q1 (W + 1) V1 = .inr r := by rw [← e40]; exact hok
          rw [e40, ih (O + 1) q1 (W + 1) V1 ((0, W) :: st) _ (by rw [List.length_cons, h1]) (by omega) (by omega) (by omega) hok1]
          show afC T ((0, W) :: st) _ (deC T k (O + 1) q1 (W + 1) V1 _ (W : Int) (decide (0 = 2))) = _
          rw [show decide ((0 : Nat) = 2) = false from rfl]
          cases hd : deR T k (O + 1) q1 (W + 1) V1 with
          | inl c => rfl
          | inr r2 =>
            obtain ⟨q2, W3, V3⟩ := r2
            dsimp only [afC]
            rw [show enR T (fsC ((0, W) :: st)) q2 = enR T (fsC st) q2 by show enR T (0 :: fsC st) q2 = _; rw [enR, if_neg (by decide), if_neg (by decide)]]
            rw [show clC ((0, W) :: st) = clC st from if_neg (by decide)]