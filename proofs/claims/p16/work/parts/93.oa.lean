/-! the reader, purely -/
def isDb (b : Int) : Prop := 48 ≤ b ∧ b ≤ 57
def isLb (b : Int) : Prop := 97 ≤ b ∧ b ≤ 122
/-- past the blanks; how many digits, letters from here on -/
def skB (T : Nat → Int) : Nat → Nat → Nat
  | 0, p => p
  | k + 1, p => if T p = 32 then skB T k (p + 1) else p
def dgB (T : Nat → Int) : Nat → Nat → Nat
  | 0, _ => 0
  | k + 1, p => if 48 ≤ T p ∧ T p ≤ 57 then dgB T k (p + 1) + 1 else 0
def ltB (T : Nat → Int) : Nat → Nat → Nat
  | 0, _ => 0
  | k + 1, p => if 97 ≤ T p ∧ T p ≤ 122 then ltB T k (p + 1) + 1 else 0
def skR (T : Nat → Int) (p : Nat) : Nat := skB T 401 p
def dgR (T : Nat → Int) (p : Nat) : Nat := dgB T 401 p
def ltR (T : Nat → Int) (p : Nat) : Nat := ltB T 401 p
/-- a sign; a NUMBER; a VALUE, the V before it counted; a SUM; the sign of a TEST -/
def tkR (T : Nat → Int) (p : Nat) (c : Int) : Sum Nat Nat := if T (skR T p) = c then .inr (skR T p + 1) else .inl (1 + 8 * skR T p)
def nuR (T : Nat → Int) (p : Nat) : Sum Nat Nat := if dgR T p = 0 then .inl (1 + 8 * p) else if 5 < dgR T p then .inl (1 + 8 * p + 1) else .inr (p + dgR T p)
def vaR (T : Nat → Int) (p0 V : Nat) : Sum Nat (Nat × Nat) :=
  if 48 ≤ T (skR T p0) ∧ T (skR T p0) ≤ 57 then
    match nuR T (skR T p0) with
    | .inl c => .inl c
    | .inr q => if V = 40 then .inl (1 + 8 * skR T p0 + 4) else .inr (q, V + 1)
  else if ltR T (skR T p0) = 3 ∧ T (skR T p0) = 100 ∧ T (skR T p0 + 1) = 97 ∧ T (skR T p0 + 2) = 121 then
    if V = 40 then .inl (1 + 8 * skR T p0 + 4) else .inr (skR T p0 + 3, V + 1)
  else if ltR T (skR T p0) = 1 ∧ T (skR T p0) = 115 then
    if V = 40 then .inl (1 + 8 * skR T p0 + 4) else if 48 ≤ T (skR T p0 + 1) ∧ T (skR T p0 + 1) ≤ 53 then .inr (skR T p0 + 2, V + 1) else .inl (1 + 8 * (skR T p0 + 1))
  else .inl (1 + 8 * skR T p0)
def suR (T : Nat → Int) : Nat → Nat → Nat → Sum Nat (Nat × Nat)
  | 0, _, _ => .inl 0
  | k + 1, p, V => match vaR T p V with
    | .inl c => .inl c
    | .inr (q, V2) => if T (skR T q) = 43 ∨ T (skR T q) = 45 ∨ T (skR T q) = 42 then suR T k (skR T q + 1) V2 else .inr (skR T q, V2)
def reR (T : Nat → Int) (p : Nat) : Sum Nat Nat :=
  if T (skR T p) = 61 then .inr (skR T p + 1)
  else if T (skR T p) = 60 ∨ T (skR T p) = 62 then (if T (skR T p + 1) = 61 then .inr (skR T p + 2) else .inr (skR T p + 1))
  else .inl (1 + 8 * skR T p)
/-- which WORD it is: its letters -/
def nmR : List (List Int) := [[110, 111, 116, 104, 105, 110, 103], [111, 110, 101], [103, 105, 118, 101], [98, 111, 116, 104], [111, 114], [116, 104, 101, 110], [119, 104, 101, 110], [97, 110, 121, 116, 105, 109, 101], [117, 110, 116, 105, 108], [115, 99, 97, 108, 101], [99, 97, 112]]
def isNb (T : Nat → Int) (p k : Nat) : Bool := decide (ltR T p = (nmR.getD k []).length) && (List.range (nmR.getD k []).length).all (fun i => decide (T (p + i) = (nmR.getD k []).getD i 0))
def kdB (T : Nat → Int) (p : Nat) : Nat → Nat
  | 0 => 11
  | k + 1 => if isNb T p k = true then k else kdB T p k
/-- 11: none -/
def kdR (T : Nat → Int) (p : Nat) : Nat := kdB T p 11
/-- what stands between a WORD's name and its DEEDS -/
def hdR (T : Nat → Int) (kd p V : Nat) : Sum Nat (Nat × Nat) :=
  if kd = 5 ∨ kd = 10 then
    match nuR T (skR T p) with
    | .inl c => .inl c
    | .inr q => .inr (q, V)
  else if kd = 6 ∨ kd = 7 ∨ kd = 8 then
    match suR T 41 p V with
    | .inl c => .inl c
    | .inr (q, V2) => match reR T q with
      | .inl c => .inl c
      | .inr q2 => match suR T 41 q2 V2 with
        | .inl c => .inl c
        | .inr (q3, V3) => match tkR T q3 58 with
          | .inl c => .inl c
          | .inr q4 => .inr (q4, V3)
  else if kd = 9 then
    match suR T 41 p V with
    | .inl c => .inl c
    | .inr (q, V2) => match tkR T q 58 with
      | .inl c => .inl c
      | .inr q2 => .inr (q2, V2)
  else .inr (p, V)
def prR (kd : Nat) : Prop := kd = 3 ∨ kd = 4 ∨ kd = 5
/-- a WORD begins: its kind, the place behind its head, the VALUES -/
def bgR (T : Nat → Int) (p0 W V O : Nat) : Sum Nat (Nat × Nat × Nat) :=
  if kdR T (skR T p0) = 11 then .inl (1 + 8 * skR T p0)
  else if 11 < O then .inl (1 + 8 * skR T p0 + 2)
  else if W = 40 then .inl (1 + 8 * skR T p0 + 3)
  else if kdR T (skR T p0) ≤ 1 then .inr (kdR T (skR T p0), skR T p0 + ltR T (skR T p0), V)
  else match hdR T (kdR T (skR T p0)) (skR T p0 + ltR T (skR T p0)) V with
    | .inl c => .inl c
    | .inr (q, V2) => if kdR T (skR T p0) = 3 ∨ kdR T (skR T p0) = 4 ∨ kdR T (skR T p0) = 5 then
        match tkR T q 40 with
        | .inl c => .inl c
        | .inr q2 => .inr (kdR T (skR T p0), q2, V2)
      else .inr (kdR T (skR T p0), q, V2)
/-- a DEED, by descent -/
def deR (T : Nat → Int) : Nat → Nat → Nat → Nat → Nat → Sum Nat (Nat × Nat × Nat)
  | 0, _, _, _, _ => .inl 0
  | k + 1, O, p, W, V => match bgR T p W V O with
    | .inl c => .inl c
    | .inr (kd, q, V2) => if kd ≤ 1 then .inr (q, W + 1, V2)
      else if kd = 3 ∨ kd = 4 ∨ kd = 5 then
        match deR T k (O + 1) q (W + 1) V2 with
        | .inl c => .inl c
        | .inr (q2, W2, V3) => match tkR T q2 44 with
          | .inl c => .inl c
          | .inr q3 => match deR T k (O + 1) q3 W2 V3 with
            | .inl c => .inl c
            | .inr (q4, W3, V4) => match tkR T q4 41 with
              | .inl c => .inl c
              | .inr q5 => .inr (q5, W3, V4)
      else deR T k (O + 1) q (W + 1) V2
/-- what a DEED that is through closes: the stack (its top first) and the place -/
def enR (T : Nat → Int) : List Nat → Nat → Sum Nat (List Nat × Nat)
  | [], p => .inr ([], p)
  | a :: st, p => if a = 1 then
      match tkR T p 44 with
      | .inl c => .inl c
      | .inr q => .inr (2 :: st, q)
    else if a = 2 then
      match tkR T p 41 with
      | .inl c => .inl c
      | .inr q => enR T st q
    else enR T st p
/-- the same by a stack -/
def moR (T : Nat → Int) : Nat → List Nat → Nat → Nat → Nat → Sum Nat (Nat × Nat × Nat)
  | 0, _, _, _, _ => .inl 0
  | k + 1, st, p, W, V => match bgR T p W V st.length with
    | .inl c => .inl c
    | .inr (kd, q, V2) => if kd ≤ 1 then
        match enR T st q with
        | .inl c => .inl c
        | .inr ([], q2) => .inr (q2, W + 1, V2)
        | .inr (a :: s2, q2) => moR T k (a :: s2) q2 (W + 1) V2
      else moR T k ((if kd = 3 ∨ kd = 4 ∨ kd = 5 then 1 else 0) :: st) q (W + 1) V2
/-- behind a DEED -/
def afR (T : Nat → Int) (st : List Nat) (r : Sum Nat (Nat × Nat × Nat)) : Sum Nat (Nat × Nat × Nat) := match r with
  | .inl c => .inl c
  | .inr (q, W, V) => match enR T st q with
    | .inl c => .inl c
    | .inr ([], q2) => .inr (q2, W, V)
    | .inr (a :: s2, q2) => moR T (41 - W) (a :: s2) q2 W V
theorem bgR_ok {T : Nat → Int} {p W V O : Nat} {r : Nat × Nat × Nat} (h : bgR T p W V O = .inr r) : O ≤ 11 ∧ W ≠ 40 := by
  unfold bgR at h
  by_cases h1 : kdR T (skR T p) = 11
  · rw [if_pos h1] at h; cases h
  · rw [if_neg h1] at h
    by_cases h2 : 11 < O
    · rw [if_pos h2] at h; cases h
    · rw [if_neg h2] at h
      by_cases h3 : W = 40
      · rw [if_pos h3] at h; cases h
      · exact ⟨by omega, h3⟩
theorem deR_W {T : Nat → Int} : ∀ (k O p W V q W2 V2 : Nat), W ≤ 40 → deR T k O p W V = .inr (q, W2, V2) → W + 1 ≤ W2 ∧ W2 ≤ 40 := by
  intro k
  induction k with
  | zero => intro O p W V q W2 V2 _ h; cases h
  | succ k ih =>
    intro O p W V q W2 V2 hW h
    unfold deR at h
    cases hb : bgR T p W V O with
    | inl c => rw [hb] at h; cases h
    | inr r =>
      obtain ⟨kd, q1, V1⟩ := r
      have hok := bgR_ok hb
      rw [hb] at h
      dsimp only at h
      by_cases h1 : kd ≤ 1
      · rw [if_pos h1] at h
        cases h
        omega
      · rw [if_neg h1] at h
        by_cases h2 : kd = 3 ∨ kd = 4 ∨ kd = 5
        · rw [if_pos h2] at h
          cases hd : deR T k (O + 1) q1 (W + 1) V1 with
          | inl c => rw [hd] at h; cases h
          | inr r2 =>
            obtain ⟨q2, W3, V3⟩ := r2
            have i1 := ih _ _ _ _ _ _ _ (by omega) hd
            rw [hd] at h
            dsimp only at h
            cases ht : tkR T q2 44 with
            | inl c => rw [ht] at h; cases h
            | inr q3 =>
              rw [ht] at h
              dsimp only at h
              cases he : deR T k (O + 1) q3 W3 V3 with
              | inl c => rw [he] at h; cases h
              | inr r3 =>
                obtain ⟨q4, W4, V4⟩ := r3
                have i2 := ih _ _ _ _ _ _ _ (by omega) he
                rw [he] at h
                dsimp only at h
                cases hu : tkR T q4 41 with
                | inl c => rw [hu] at h; cases h
                | inr q5 =>
                  rw [hu] at h
                  cases h
                  omega
        · rw [if_neg h2] at h
          have i1 := ih _ _ _ _ _ _ _ (by omega) h
          omega
/-- the stack does as the descent -/
theorem mo_de {T : Nat → Int} : ∀ (k O p W V : Nat) (st : List Nat), st.length = O → O ≤ 12 → 13 ≤ O + k → W ≤ 40 → moR T (41 - W) st p W V = afR T st (deR T k O p W V) := by
  intro k
  induction k with
  | zero => intro O p W V st h1 h2 h3; omega
  | succ k ih =>
    intro O p W V st h1 h2 h3 hW
    rw [show 41 - W = (40 - W) + 1 by omega]
    unfold moR deR
    rw [h1]
    cases hb : bgR T p W V O with
    | inl c => rfl
    | inr r =>
      obtain ⟨kd, q1, V1⟩ := r
      have hok := bgR_ok hb
      dsimp only
      have e40 : 40 - W = 41 - (W + 1) := by omega
      by_cases c1 : kd ≤ 1
      · rw [if_pos c1, if_pos c1, e40]
        rfl
      · rw [if_neg c1, if_neg c1]
        by_cases c2 : kd = 3 ∨ kd = 4 ∨ kd = 5
        · rw [if_pos c2, if_pos c2, e40, ih (O + 1) q1 (W + 1) V1 (1 :: st) (by rw [List.length_cons, h1]) (by omega) (by omega) (by omega)]
          cases hd : deR T k (O + 1) q1 (W + 1) V1 with
          | inl c => rfl
          | inr r2 =>
            obtain ⟨q2, W3, V3⟩ := r2
            have i1 := deR_W _ _ _ _ _ _ _ _ (by omega) hd
            dsimp only [afR]
            rw [show enR T (1 :: st) q2 = (match tkR T q2 44 with | .inl c => .inl c | .inr q => .inr (2 :: st, q)) by rw [enR, if_pos rfl]]
            cases ht : tkR T q2 44 with
            | inl c => rfl
            | inr q3 =>
              dsimp only
              rw [ih (O + 1) q3 W3 V3 (2 :: st) (by rw [List.length_cons, h1]) (by omega) (by omega) (by omega)]
              cases he : deR T k (O + 1) q3 W3 V3 with
              | inl c => rfl
              | inr r3 =>
                obtain ⟨q4, W4, V4⟩ := r3
                dsimp only [afR]
                rw [show enR T (2 :: st) q4 = (match tkR T q4 41 with | .inl c => .inl c | .inr q => enR T st q) by rw [enR, if_neg (by decide), if_pos rfl]]
                cases hu : tkR T q4 41 with
                | inl c => rfl
                | inr q5 => rfl
        · rw [if_neg c2, if_neg c2, e40, ih (O + 1) q1 (W + 1) V1 (0 :: st) (by rw [List.length_cons, h1]) (by omega) (by omega) (by omega)]
          cases hd : deR T k (O + 1) q1 (W + 1) V1 with
          | inl c => rfl
          | inr r2 =>
            obtain ⟨q2, W3, V3⟩ := r2
            dsimp only [afR]
            rw [show enR T (0 :: st) q2 = enR T st q2 by rw [enR, if_neg (by decide), if_neg (by decide)]]
/-- the whole text: its FAULT, 0 without one -/
def foR (T : Nat → Int) : Nat := match deR T 13 0 0 0 0 with
  | .inl c => c
  | .inr (q, _, _) => if T (skR T q) = -1 then 0 else 1 + 8 * skR T q
theorem foR_mo {T : Nat → Int} : foR T = match moR T 41 [] 0 0 0 with
    | .inl c => c
    | .inr (q, _, _) => if T (skR T q) = -1 then 0 else 1 + 8 * skR T q := by
  rw [show (41 : Nat) = 41 - 0 by omega, mo_de 13 0 0 0 0 [] rfl (by omega) (by omega) (by omega)]
  unfold foR
  cases hd : deR T 13 0 0 0 0 with
  | inl c => rfl
  | inr r => obtain ⟨q, W, V⟩ := r; rfl