/-! a text read, as a list of heads -/
/-- VALUES put from V on -/
def putV (L : List Vl) (V : Nat) (c : Cn) : Cn := fun a b => if 10 ≤ a ∧ a ≤ 12 ∧ V ≤ b ∧ b < V + L.length then vlF a (L.getD (b - V) (0, 0, 0)) else c a b
theorem putV_at {L : List Vl} {V a b : Nat} {c : Cn} : putV L V c a b = if 10 ≤ a ∧ a ≤ 12 ∧ V ≤ b ∧ b < V + L.length then vlF a (L.getD (b - V) (0, 0, 0)) else c a b := rfl
theorem putV_nil {V : Nat} {c : Cn} : putV [] V c = c := by
  funext a b
  rw [putV_at, List.length_nil, if_neg (by omega)]
theorem putV_cons {x : Vl} {L : List Vl} {V : Nat} {c : Cn} : putV (x :: L) V c = putV L (V + 1) (cU (cU (cU c 10 V x.1) 11 V x.2.1) 12 V x.2.2) := by
  funext a b
  rw [putV_at, putV_at, List.length_cons]
  by_cases h1 : 10 ≤ a ∧ a ≤ 12 ∧ V + 1 ≤ b ∧ b < V + 1 + L.length
  · rw [if_pos (by omega), if_pos h1, show b - V = (b - (V + 1)) + 1 by omega, List.getD_cons_succ]
  · rw [if_neg h1]
    by_cases h2 : b = V ∧ 10 ≤ a ∧ a ≤ 12
    · rw [if_pos (by omega)]
      obtain ⟨e, h3, h4⟩ := h2
      subst e
      rw [Nat.sub_self]
      have e3 : a = 10 ∨ a = 11 ∨ a = 12 := by omega
      rcases e3 with e | e | e <;> (subst e; simp [vlF, cU])
    · rw [if_neg (by omega)]
      rw [cU_at, cU_at, cU_at, if_neg (by omega), if_neg (by omega), if_neg (by omega)]
theorem gtD_l {L1 L2 : List Vl} {i : Nat} (h : i < L1.length) : (L1 ++ L2).getD i (0, 0, 0) = L1.getD i (0, 0, 0) := by
  rw [List.getD_eq_getElem?_getD, List.getD_eq_getElem?_getD, List.getElem?_append_left h]
theorem gtD_r {L1 L2 : List Vl} {i : Nat} (h : L1.length ≤ i) : (L1 ++ L2).getD i (0, 0, 0) = L2.getD (i - L1.length) (0, 0, 0) := by
  rw [List.getD_eq_getElem?_getD, List.getD_eq_getElem?_getD, List.getElem?_append_right h]
theorem putV_app {L1 L2 : List Vl} {V : Nat} {c : Cn} : putV L2 (V + L1.length) (putV L1 V c) = putV (L1 ++ L2) V c := by
  funext a b
  rw [putV_at, putV_at, putV_at, List.length_append]
  by_cases h1 : 10 ≤ a ∧ a ≤ 12 ∧ V + L1.length ≤ b ∧ b < V + L1.length + L2.length
  · rw [if_pos h1, if_pos (by omega), gtD_r (by omega), show b - V - L1.length = b - (V + L1.length) by omega]
  · rw [if_neg h1]
    by_cases h2 : 10 ≤ a ∧ a ≤ 12 ∧ V ≤ b ∧ b < V + L1.length
    · rw [if_pos h2, if_pos (by omega), gtD_l (by omega)]
    · rw [if_neg h2, if_neg (by omega)]
theorem vsH_ln {h : Hd} : (vsH h).length = nvH h := List.length_append
theorem ptH_of {h : Hd} {W V : Nat} {par : Int} {sec : Bool} {d : Nat} {c X : Cn} (e : ∀ a b, X a b = if b = W ∧ a ≤ 9 then hdA h V par d a else if (b : Int) = par ∧ a = lkS sec then (W : Int) else c a b) : putV (vsH h) V X = ptH h W V par sec d c := by
  funext a b
  have hl := @lkS_le sec
  rw [putV_at, e a b, vsH_ln]
  unfold ptH
  by_cases c1 : b = W ∧ a ≤ 9
  · rw [if_pos c1, if_pos c1, if_neg (by omega)]
  · rw [if_neg c1, if_neg c1]
    by_cases c2 : (b : Int) = par ∧ a = lkS sec
    · rw [if_pos c2, if_pos c2, if_neg (by omega)]
    · rw [if_neg c2, if_neg c2]
theorem nwC_W {kd dp par : Int} {W a : Nat} {sec : Bool} {c : Cn} (ha : a ≤ 9) : nwC kd W par sec dp c a W = (if a = 0 then kd else if a = 1 then dp else if a = 9 then par else -1) := if_pos ⟨rfl, ha⟩
theorem ptH_o2 {h : Hd} {W V : Nat} {kd par : Int} {sec : Bool} {d : Nat} {c X : Cn} (e1 : ∀ a, a ≤ 9 → X a W = hdA h V par d a) (e2 : ∀ a b, ¬ (b = W ∧ a ≤ 9) → X a b = nwC kd W par sec d c a b) : putV (vsH h) V X = ptH h W V par sec d c := ptH_of (fun a b => by
  by_cases c1 : b = W ∧ a ≤ 9
  · rw [if_pos c1, c1.1]; exact e1 a c1.2
  · rw [if_neg c1, e2 a b c1]
    unfold nwC lkS
    rw [if_neg c1])
/-- VALUES and heads as a text has them -/
def hvV (x : Vl) : Prop := (-1 ≤ x.2.1 ∧ x.2.1 ≤ 6) ∧ (x.2.1 = -1 → 0 ≤ x.2.2 ∧ x.2.2 ≤ 99999) ∧ (x.2.1 ≠ -1 → x.2.2 = 0)
def hvL : List Vl → Prop
  | [] => False
  | x :: L => x.1 = 0 ∧ hvV x ∧ ∀ y, y ∈ L → (y.1 = 43 ∨ y.1 = 45 ∨ y.1 = 42) ∧ hvV y
def hvH (h : Hd) : Prop := (0 ≤ h.1 ∧ h.1 ≤ 10) ∧ ((h.1 = 5 ∨ h.1 = 10) → 0 ≤ h.2.1 ∧ h.2.1 ≤ 99999) ∧ (¬ (h.1 = 5 ∨ h.1 = 10) → h.2.1 = -1)
  ∧ (6 ≤ h.1 ∧ h.1 ≤ 8 → 0 ≤ h.2.2.1 ∧ h.2.2.1 ≤ 4 ∧ hvL h.2.2.2.2) ∧ (¬ (6 ≤ h.1 ∧ h.1 ≤ 8) → h.2.2.1 = -1 ∧ h.2.2.2.2 = []) ∧ (6 ≤ h.1 ∧ h.1 ≤ 9 → hvL h.2.2.2.1) ∧ (¬ (6 ≤ h.1 ∧ h.1 ≤ 9) → h.2.2.2.1 = [])
def hvT (T : List Hd) : Prop := ∀ h, h ∈ T → hvH h
theorem dgV_b {T : Nat → Int} {p : Nat} : ∀ m, (∀ i, i < m → 48 ≤ T (p + i) ∧ T (p + i) ≤ 57) → 0 ≤ dgV T p m ∧ dgV T p m + 1 ≤ ((10 ^ m : Nat) : Int) := by
  intro m
  induction m with
  | zero => intro _; exact ⟨(by show (0 : Int) ≤ 0; omega), (by show (0 : Int) + 1 ≤ ((1 : Nat) : Int); omega)⟩
  | succ m ih =>
    intro h
    obtain ⟨i1, i2⟩ := ih (fun i hi => h i (by omega))
    have hm := h m (by omega)
    rw [Nat.pow_succ]
    generalize 10 ^ m = x at i2 ⊢
    show 0 ≤ 10 * dgV T p m + (T (p + m) - 48) ∧ 10 * dgV T p m + (T (p + m) - 48) + 1 ≤ ((x * 10 : Nat) : Int)
    omega
theorem nuV_b {T : Nat → Int} {p q : Nat} (h : nuR T p = .inr q) : 0 ≤ nuV T p ∧ nuV T p ≤ 99999 := by
  unfold nuR at h
  by_cases d1 : dgR T p = 0
  · rw [if_pos d1] at h; cases h
  · rw [if_neg d1] at h
    by_cases d2 : 5 < dgR T p
    · rw [if_pos d2] at h; cases h
    · obtain ⟨b1, b2⟩ := dgV_b (T := T) (p := p) (dgR T p) (fun i hi => dgB_at 401 p i hi)
      have e : 10 ^ dgR T p ≤ 10 ^ 5 := Nat.pow_le_pow_right (by decide) (by omega)
      have e5 : 10 ^ 5 = 100000 := by decide
      rw [e5] at e
      unfold nuV
      generalize 10 ^ dgR T p = x at b2 e
      omega
theorem vaR_hv {T : Nat → Int} {p V q V2 : Nat} (h : vaR T p V = .inr (q, V2)) : V2 = V + 1 ∧ hvV (0, whV T (skR T p), nbV T (skR T p)) := by
  unfold vaR at h
  unfold hvV whV nbV
  dsimp only
  by_cases c1 : 48 ≤ T (skR T p) ∧ T (skR T p) ≤ 57
  · rw [if_pos c1] at h
    rw [if_pos c1, if_pos c1]
    cases hn : nuR T (skR T p) with
    | inl d => rw [hn] at h; cases h
    | inr r =>
      rw [hn] at h
      dsimp only at h
      have hb := nuV_b hn
      by_cases cV : V = 40
      · rw [if_pos cV] at h; cases h
      · rw [if_neg cV] at h; cases h; exact ⟨rfl, ⟨by decide, by decide⟩, fun _ => hb, fun z => absurd rfl z⟩
  · rw [if_neg c1] at h
    rw [if_neg c1, if_neg c1]
    by_cases D : ltR T (skR T p) = 3 ∧ T (skR T p) = 100 ∧ T (skR T p + 1) = 97 ∧ T (skR T p + 2) = 121
    · rw [if_pos D] at h
      rw [if_pos D.2.1]
      by_cases cV : V = 40
      · rw [if_pos cV] at h; cases h
      · rw [if_neg cV] at h; cases h; exact ⟨rfl, ⟨by decide, by decide⟩, fun z => absurd z (by decide), fun _ => rfl⟩
    · rw [if_neg D] at h
      by_cases E : ltR T (skR T p) = 1 ∧ T (skR T p) = 115
      · rw [if_pos E] at h
        rw [if_neg (show ¬ T (skR T p) = 100 by omega)]
        by_cases cV : V = 40
        · rw [if_pos cV] at h; cases h
        · rw [if_neg cV] at h
          by_cases ok : 48 ≤ T (skR T p + 1) ∧ T (skR T p + 1) ≤ 53
          · rw [if_pos ok] at h; cases h; exact ⟨rfl, ⟨by omega, by omega⟩, fun z => by omega, fun _ => rfl⟩
          · rw [if_neg ok] at h; cases h
      · rw [if_neg E] at h; cases h
def suL (T : Nat → Int) : Nat → Nat → Nat → Int → List Vl
  | 0, _, _, _ => []
  | k + 1, p, V, jo => match vaR T p V with
    | .inl _ => []
    | .inr (q, V2) => (jo, whV T (skR T p), nbV T (skR T p)) :: (if T (skR T q) = 43 ∨ T (skR T q) = 45 ∨ T (skR T q) = 42 then suL T k (skR T q + 1) V2 (T (skR T q)) else [])
theorem suL_ok {T : Nat → Int} : ∀ (m p V : Nat) (jo : Int) (q V2 : Nat), suR T m p V = .inr (q, V2) → V2 = V + (suL T m p V jo).length ∧ (∀ c, suC T m p V jo c = putV (suL T m p V jo) V c) ∧ (∃ x L, suL T m p V jo = x :: L ∧ x.1 = jo ∧ hvV x ∧ ∀ y, y ∈ L → (y.1 = 43 ∨ y.1 = 45 ∨ y.1 = 42) ∧ hvV y) := by
  intro m
  induction m with
  | zero => intro p V jo q V2 h; cases h
  | succ m ih =>
    intro p V jo q V2 h
    unfold suR at h
    unfold suC suL
    cases hv : vaR T p V with
    | inl d => rw [hv] at h; cases h
    | inr r =>
      obtain ⟨q1, V1⟩ := r
      rw [hv] at h
      obtain ⟨e1, hx⟩ := vaR_hv hv
      subst e1
      have hx2 : hvV (jo, whV T (skR T p), nbV T (skR T p)) := hx
      dsimp only at h ⊢
      by_cases cc : T (skR T q1) = 43 ∨ T (skR T q1) = 45 ∨ T (skR T q1) = 42
      · rw [if_pos cc] at h
        simp only [if_pos cc]
        obtain ⟨i1, i2, x, L, i3, i4, i5, i6⟩ := ih _ _ (T (skR T q1)) _ _ h
        refine ⟨by rw [List.length_cons]; omega, fun c => ?_, _, _, rfl, rfl, hx2, fun y hy => ?_⟩
        · rw [i2, putV_cons]
          rfl
        · rw [i3] at hy
          rcases List.mem_cons.mp hy with z | z
          · rw [z, i4]
            exact ⟨cc, i5⟩
          · exact i6 y z
      · rw [if_neg cc] at h
        simp only [if_neg cc]
        cases h
        refine ⟨rfl, fun c => ?_, _, _, rfl, rfl, hx2, fun y hy => by cases hy⟩
        rw [putV_cons, putV_nil]
        rfl
theorem suL_hv {T : Nat → Int} {p V q V2 : Nat} (h : suR T 41 p V = .inr (q, V2)) : hvL (suL T 41 p V 0) := by
  obtain ⟨_, _, x, L, e, a, b, d⟩ := suL_ok 41 p V 0 q V2 h
  rw [e]
  exact ⟨a, b, d⟩
def hdL (T : Nat → Int) (kd p V : Nat) : Hd :=
  if kd = 5 ∨ kd = 10 then ((kd : Int), nuV T (skR T p), -1, [], [])
  else if kd = 6 ∨ kd = 7 ∨ kd = 8 then
    match suR T 41 p V with
    | .inl _ => ((kd : Int), -1, -1, [], [])
    | .inr (q, V2) => match reR T q with
      | .inl _ => ((kd : Int), -1, -1, [], [])
      | .inr q2 => ((kd : Int), -1, reV T q, suL T 41 p V 0, suL T 41 q2 V2 0)
  else if kd = 9 then ((kd : Int), -1, -1, suL T 41 p V 0, [])
  else ((kd : Int), -1, -1, [], [])
theorem reV_b {T : Nat → Int} {q : Nat} : 0 ≤ reV T q ∧ reV T q ≤ 4 := by
  unfold reV
  (repeat' split) <;> exact ⟨by decide, by decide⟩
theorem hdL_ok {T : Nat → Int} {kd p V q V2 : Nat} (hk : kd ≤ 10) (h : hdR T kd p V = .inr (q, V2)) : V2 = V + nvH (hdL T kd p V) ∧ (hdL T kd p V).1 = kd ∧ hvH (hdL T kd p V) ∧ ∀ (W : Nat) (par : Int) (sec : Bool) (d : Nat) (c : Cn), hdC T kd p V W (nwC kd W par sec d c) = ptH (hdL T kd p V) W V par sec d c := by
  unfold hdR at h
  unfold hdL hdC
  by_cases c1 : kd = 5 ∨ kd = 10
  · rw [if_pos c1] at h
    simp only [if_pos c1]
    cases hn : nuR T (skR T p) with
    | inl d => rw [hn] at h; cases h
    | inr r =>
      rw [hn] at h
      cases h
      have hb := nuV_b hn
      refine ⟨rfl, (by first | rfl | trivial), ⟨⟨by show (0 : Int) ≤ (kd : Int); omega, by show (kd : Int) ≤ 10; omega⟩, fun _ => hb, fun z => absurd (show (kd : Int) = 5 ∨ (kd : Int) = 10 by omega) z, fun z => ?_, fun _ => ⟨rfl, rfl⟩, fun z => ?_, fun _ => rfl⟩, fun W par sec d c => ?_⟩
      · exfalso; have z2 : 6 ≤ (kd : Int) ∧ (kd : Int) ≤ 8 := z; omega
      · exfalso; have z2 : 6 ≤ (kd : Int) ∧ (kd : Int) ≤ 9 := z; omega
      · have sm : ¬ (6 ≤ (kd : Int) ∧ (kd : Int) ≤ 9) := by omega
        refine Eq.trans putV_nil.symm (ptH_o2 (h := ((kd : Int), nuV T (skR T p), -1, [], [])) (V := V) (kd := (kd : Int)) ?_ (fun a b c9 => by rw [cU_at, if_neg (fun z => c9 ⟨z.2, by omega⟩)]))
        intro a ha
        have e : a = 0 ∨ a = 1 ∨ a = 2 ∨ a = 3 ∨ a = 4 ∨ a = 5 ∨ a = 6 ∨ a = 7 ∨ a = 8 ∨ a = 9 := by omega
        rcases e with e | e | e | e | e | e | e | e | e | e <;> subst e
        · rw [cU_at, if_neg (by omega), nwC_W (by decide)]
          rfl
        · rw [cU_at, if_neg (by omega), nwC_W (by decide)]
          rfl
        · rw [cU_at, if_pos ⟨rfl, rfl⟩]
          rfl
        · rw [cU_at, if_neg (by omega), nwC_W (by decide)]
          rfl
        · rw [cU_at, if_neg (by omega), nwC_W (by decide)]
          rfl
        · rw [cU_at, if_neg (by omega), nwC_W (by decide)]
          exact (if_neg sm).symm
        · rw [cU_at, if_neg (by omega), nwC_W (by decide)]
          exact (if_neg sm).symm
        · rw [cU_at, if_neg (by omega), nwC_W (by decide)]
          exact (if_neg sm).symm
        · rw [cU_at, if_neg (by omega), nwC_W (by decide)]
          rfl
        · rw [cU_at, if_neg (by omega), nwC_W (by decide)]
          rfl

  · rw [if_neg c1] at h
    simp only [if_neg c1]
    by_cases c2 : kd = 6 ∨ kd = 7 ∨ kd = 8
    · rw [if_pos c2] at h
      simp only [if_pos c2]
      cases hs : suR T 41 p V with
      | inl d => rw [hs] at h; cases h
      | inr r =>
        obtain ⟨q1, V1⟩ := r
        rw [hs] at h
        dsimp only at h ⊢
        cases hr : reR T q1 with
        | inl d => rw [hr] at h; cases h
        | inr q2 =>
          rw [hr] at h
          dsimp only at h ⊢
          cases hs2 : suR T 41 q2 V1 with
          | inl d => rw [hs2] at h; cases h
          | inr r3 =>
            obtain ⟨q3, V3⟩ := r3
            rw [hs2] at h
            dsimp only at h ⊢
            cases ht : tkR T q3 58 with
            | inl d => rw [ht] at h; cases h
            | inr q4 =>
              rw [ht] at h
              cases h
              obtain ⟨l1, p1, _⟩ := suL_ok 41 p V 0 _ _ hs
              obtain ⟨l2, p2, _⟩ := suL_ok 41 q2 V1 0 _ _ hs2
              have v1 := suL_hv hs
              have v2 := suL_hv hs2
              have hb := @reV_b T q1
              refine ⟨?_, (by first | rfl | trivial), ⟨⟨by show (0 : Int) ≤ (kd : Int); omega, by show (kd : Int) ≤ 10; omega⟩, fun z => ?_, fun _ => rfl, fun _ => ⟨hb.1, hb.2, v2⟩, fun z => ?_, fun _ => v1, fun z => ?_⟩, fun W par sec d c => ?_⟩
              · show V2 = V + ((suL T 41 p V 0).length + (suL T 41 q2 V1 0).length); omega
              · exfalso; have z2 : (kd : Int) = 5 ∨ (kd : Int) = 10 := z; omega
              · exfalso; exact z (show 6 ≤ (kd : Int) ∧ (kd : Int) ≤ 8 by omega)
              · exfalso; exact z (show 6 ≤ (kd : Int) ∧ (kd : Int) ≤ 9 by omega)
              · have e2 : ∀ (L2 : List Vl) (X : Cn), putV L2 V1 (putV (suL T 41 p V 0) V X) = putV (suL T 41 p V 0 ++ L2) V X := fun L2 X => by rw [l1]; exact putV_app
                rw [p2, p1, e2]
                have sm : 6 ≤ (kd : Int) ∧ (kd : Int) ≤ 9 := by omega
                refine ptH_o2 (h := ((kd : Int), -1, reV T q1, suL T 41 p V 0, suL T 41 q2 V1 0)) (kd := (kd : Int)) ?_ (fun a b c9 => by rw [cU_at, if_neg (fun z => c9 ⟨z.2, by omega⟩), cU_at, if_neg (fun z => c9 ⟨z.2, by omega⟩), cU_at, if_neg (fun z => c9 ⟨z.2, by omega⟩), cU_at, if_neg (fun z => c9 ⟨z.2, by omega⟩)])
                intro a ha
                have e : a = 0 ∨ a = 1 ∨ a = 2 ∨ a = 3 ∨ a = 4 ∨ a = 5 ∨ a = 6 ∨ a = 7 ∨ a = 8 ∨ a = 9 := by omega
                rcases e with e | e | e | e | e | e | e | e | e | e <;> subst e
                · rw [cU_at, if_neg (by omega), cU_at, if_neg (by omega), cU_at, if_neg (by omega), cU_at, if_neg (by omega), nwC_W (by decide)]
                  rfl
                · rw [cU_at, if_neg (by omega), cU_at, if_neg (by omega), cU_at, if_neg (by omega), cU_at, if_neg (by omega), nwC_W (by decide)]
                  rfl
                · rw [cU_at, if_neg (by omega), cU_at, if_neg (by omega), cU_at, if_neg (by omega), cU_at, if_neg (by omega), nwC_W (by decide)]
                  rfl
                · rw [cU_at, if_neg (by omega), cU_at, if_neg (by omega), cU_at, if_neg (by omega), cU_at, if_neg (by omega), nwC_W (by decide)]
                  rfl
                · rw [cU_at, if_neg (by omega), cU_at, if_neg (by omega), cU_at, if_neg (by omega), cU_at, if_neg (by omega), nwC_W (by decide)]
                  rfl
                · rw [cU_at, if_neg (by omega), cU_at, if_neg (by omega), cU_at, if_neg (by omega), cU_at, if_pos ⟨rfl, rfl⟩]
                  exact (if_pos sm).symm
                · rw [cU_at, if_neg (by omega), cU_at, if_neg (by omega), cU_at, if_pos ⟨rfl, rfl⟩]
                  exact Eq.trans (by show (V1 : Int) = (V : Int) + ((suL T 41 p V 0).length : Int); omega) (if_pos sm).symm
                · rw [cU_at, if_pos ⟨rfl, rfl⟩]
                  exact Eq.trans (by show (V2 : Int) = (V : Int) + (((suL T 41 p V 0).length + (suL T 41 q2 V1 0).length : Nat) : Int); omega) (if_pos sm).symm
                · rw [cU_at, if_neg (by omega), cU_at, if_pos ⟨rfl, rfl⟩]
                  rfl
                · rw [cU_at, if_neg (by omega), cU_at, if_neg (by omega), cU_at, if_neg (by omega), cU_at, if_neg (by omega), nwC_W (by decide)]
                  rfl

    · rw [if_neg c2] at h
      simp only [if_neg c2]
      by_cases c3 : kd = 9
      · rw [if_pos c3] at h
        simp only [if_pos c3]
        cases hs : suR T 41 p V with
        | inl d => rw [hs] at h; cases h
        | inr r =>
          obtain ⟨q1, V1⟩ := r
          rw [hs] at h
          dsimp only at h ⊢
          cases ht : tkR T q1 58 with
          | inl d => rw [ht] at h; cases h
          | inr q4 =>
            rw [ht] at h
            cases h
            obtain ⟨l1, p1, _⟩ := suL_ok 41 p V 0 _ _ hs
            have v1 := suL_hv hs
            refine ⟨?_, (by first | rfl | trivial), ⟨⟨by show (0 : Int) ≤ (kd : Int); omega, by show (kd : Int) ≤ 10; omega⟩, fun z => ?_, fun _ => rfl, fun z => ?_, fun _ => ⟨rfl, rfl⟩, fun _ => v1, fun z => ?_⟩, fun W par sec d c => ?_⟩
            · show V2 = V + ((suL T 41 p V 0).length + 0); omega
            · exfalso; have z2 : (kd : Int) = 5 ∨ (kd : Int) = 10 := z; omega
            · exfalso; have z2 : 6 ≤ (kd : Int) ∧ (kd : Int) ≤ 8 := z; omega
            · exfalso; exact z (show 6 ≤ (kd : Int) ∧ (kd : Int) ≤ 9 by omega)
            · rw [p1]
              refine Eq.trans (congrArg (fun L => putV L V _) (List.append_nil (suL T 41 p V 0)).symm) (ptH_o2 (h := ((kd : Int), -1, -1, suL T 41 p V 0, [])) (kd := (kd : Int)) ?_ (fun a b c9 => by rw [cU_at, if_neg (fun z => c9 ⟨z.2, by omega⟩), cU_at, if_neg (fun z => c9 ⟨z.2, by omega⟩), cU_at, if_neg (fun z => c9 ⟨z.2, by omega⟩)]))
              have sm : 6 ≤ (kd : Int) ∧ (kd : Int) ≤ 9 := by omega
              intro a ha
              have e : a = 0 ∨ a = 1 ∨ a = 2 ∨ a = 3 ∨ a = 4 ∨ a = 5 ∨ a = 6 ∨ a = 7 ∨ a = 8 ∨ a = 9 := by omega
              rcases e with e | e | e | e | e | e | e | e | e | e <;> subst e
              · rw [cU_at, if_neg (by omega), cU_at, if_neg (by omega), cU_at, if_neg (by omega), nwC_W (by decide)]
                rfl
              · rw [cU_at, if_neg (by omega), cU_at, if_neg (by omega), cU_at, if_neg (by omega), nwC_W (by decide)]
                rfl
              · rw [cU_at, if_neg (by omega), cU_at, if_neg (by omega), cU_at, if_neg (by omega), nwC_W (by decide)]
                rfl
              · rw [cU_at, if_neg (by omega), cU_at, if_neg (by omega), cU_at, if_neg (by omega), nwC_W (by decide)]
                rfl
              · rw [cU_at, if_neg (by omega), cU_at, if_neg (by omega), cU_at, if_neg (by omega), nwC_W (by decide)]
                rfl
              · rw [cU_at, if_neg (by omega), cU_at, if_neg (by omega), cU_at, if_pos ⟨rfl, rfl⟩]
                exact (if_pos sm).symm
              · rw [cU_at, if_neg (by omega), cU_at, if_pos ⟨rfl, rfl⟩]
                exact Eq.trans (by show (V2 : Int) = (V : Int) + ((suL T 41 p V 0).length : Int); omega) (if_pos sm).symm
              · rw [cU_at, if_pos ⟨rfl, rfl⟩]
                exact Eq.trans (by show (V2 : Int) = (V : Int) + (((suL T 41 p V 0).length + 0 : Nat) : Int); omega) (if_pos sm).symm
              · rw [cU_at, if_neg (by omega), cU_at, if_neg (by omega), cU_at, if_neg (by omega), nwC_W (by decide)]
                rfl
              · rw [cU_at, if_neg (by omega), cU_at, if_neg (by omega), cU_at, if_neg (by omega), nwC_W (by decide)]
                rfl

      · rw [if_neg c3] at h
        simp only [if_neg c3]
        cases h
        refine ⟨rfl, (by first | rfl | trivial), ⟨⟨by show (0 : Int) ≤ (kd : Int); omega, by show (kd : Int) ≤ 10; omega⟩, fun z => ?_, fun _ => rfl, fun z => ?_, fun _ => ⟨rfl, rfl⟩, fun z => ?_, fun _ => rfl⟩, fun W par sec d c => ?_⟩
        · exfalso; have z2 : (kd : Int) = 5 ∨ (kd : Int) = 10 := z; omega
        · exfalso; have z2 : 6 ≤ (kd : Int) ∧ (kd : Int) ≤ 8 := z; omega
        · exfalso; have z2 : 6 ≤ (kd : Int) ∧ (kd : Int) ≤ 9 := z; omega
        · have sm : ¬ (6 ≤ (kd : Int) ∧ (kd : Int) ≤ 9) := by omega
          refine Eq.trans putV_nil.symm (ptH_o2 (h := ((kd : Int), -1, -1, [], [])) (V := V) (kd := (kd : Int)) ?_ (fun a b c9 => rfl))
          intro a ha
          have e : a = 0 ∨ a = 1 ∨ a = 2 ∨ a = 3 ∨ a = 4 ∨ a = 5 ∨ a = 6 ∨ a = 7 ∨ a = 8 ∨ a = 9 := by omega
          rcases e with e | e | e | e | e | e | e | e | e | e <;> subst e
          · rw [nwC_W (by decide)]
            rfl
          · rw [nwC_W (by decide)]
            rfl
          · rw [nwC_W (by decide)]
            rfl
          · rw [nwC_W (by decide)]
            rfl
          · rw [nwC_W (by decide)]
            rfl
          · rw [nwC_W (by decide)]
            exact (if_neg sm).symm
          · rw [nwC_W (by decide)]
            exact (if_neg sm).symm
          · rw [nwC_W (by decide)]
            exact (if_neg sm).symm
          · rw [nwC_W (by decide)]
            rfl
          · rw [nwC_W (by decide)]
            rfl

def bgL (T : Nat → Int) (p V : Nat) : Hd := hdL T (kdR T (skR T p)) (skR T p + ltR T (skR T p)) V
theorem bgR_L {T : Nat → Int} {p W V O kd q V2 : Nat} (h : bgR T p W V O = .inr (kd, q, V2)) : O ≤ 11 ∧ W ≠ 40 ∧ kd ≤ 10 ∧ V2 = V + nvH (bgL T p V) ∧ (bgL T p V).1 = kd ∧ hvH (bgL T p V) ∧ ∀ (par : Int) (sec : Bool) (c : Cn), bgC T p W V par sec O c = ptH (bgL T p V) W V par sec O c := by
  obtain ⟨b1, b2⟩ := bgR_ok h
  have hle := @kdR_le T (skR T p)
  unfold bgR at h
  by_cases k11 : kdR T (skR T p) = 11
  · rw [if_pos k11] at h; cases h
  · rw [if_neg k11, if_neg (by omega), if_neg b2] at h
    have fin : ∀ q1 V1, hdR T (kdR T (skR T p)) (skR T p + ltR T (skR T p)) V = .inr (q1, V1) → kd = kdR T (skR T p) → V2 = V1 → O ≤ 11 ∧ W ≠ 40 ∧ kd ≤ 10 ∧ V2 = V + nvH (bgL T p V) ∧ (bgL T p V).1 = kd ∧ hvH (bgL T p V) ∧ ∀ (par : Int) (sec : Bool) (c : Cn), bgC T p W V par sec O c = ptH (bgL T p V) W V par sec O c := fun q1 V1 hd ek ev => by
      obtain ⟨o1, o2, o3, o4⟩ := hdL_ok (by omega) hd
      subst ek ev
      exact ⟨b1, b2, by omega, o1, o2, o3, fun par sec c => o4 W par sec O c⟩
    by_cases k1 : kdR T (skR T p) ≤ 1
    · rw [if_pos k1] at h
      cases h
      refine fin (skR T p + ltR T (skR T p)) V ?_ rfl rfl
      unfold hdR
      rw [if_neg (by omega), if_neg (by omega), if_neg (by omega)]
    · rw [if_neg k1] at h
      cases hh : hdR T (kdR T (skR T p)) (skR T p + ltR T (skR T p)) V with
      | inl d => rw [hh] at h; cases h
      | inr r =>
        obtain ⟨q1, V1⟩ := r
        rw [hh] at h
        dsimp only at h
        by_cases k3 : kdR T (skR T p) = 3 ∨ kdR T (skR T p) = 4 ∨ kdR T (skR T p) = 5
        · rw [if_pos k3] at h
          cases ht : tkR T q1 40 with
          | inl d => rw [ht] at h; cases h
          | inr q2 => rw [ht] at h; cases h; exact fin _ _ hh rfl rfl
        · rw [if_neg k3] at h
          cases h
          exact fin _ _ hh rfl rfl
/-- how deep: none within more than 11 -/
def psD (h : Hd) (d : Nat) (ds : List Nat) : List Nat := if arH h = 2 then (d + 1) :: (d + 1) :: ds else if arH h = 1 then (d + 1) :: ds else ds
def dkT : List Hd → List Nat → Prop
  | [], _ => True
  | _ :: _, [] => False
  | h :: T, d :: ds => d ≤ 11 ∧ dkT T (psD h d ds)
theorem psD_app {h : Hd} {d : Nat} {a b : List Nat} : psD h d (a ++ b) = psD h d a ++ b := by
  unfold psD
  (repeat' split) <;> rfl
theorem psD_len {h : Hd} {d : Nat} {ds : List Nat} : (psD h d ds).length = ds.length + arH h := by
  have h2 := arH_le (h := h)
  unfold psD
  by_cases c2 : arH h = 2
  · rw [if_pos c2, c2]; rfl
  · rw [if_neg c2]
    by_cases c1 : arH h = 1
    · rw [if_pos c1, c1]; rfl
    · rw [if_neg c1, show arH h = 0 by omega]; rfl
theorem dkT_app : ∀ {A B : List Hd} {a b : List Nat}, okT A a.length → (dkT (A ++ B) (a ++ b) ↔ dkT A a ∧ dkT B b) := by
  intro A
  induction A with
  | nil =>
    intro B a b h
    have e := List.eq_nil_of_length_eq_zero (show a.length = 0 from h)
    subst e
    exact ⟨fun z => ⟨trivial, z⟩, fun z => z.2⟩
  | cons h A ih =>
    intro B a b hh
    cases a with
    | nil => exact (show False from hh).elim
    | cons d a =>
      have h2 : okT A (psD h d a).length := by rw [psD_len]; exact hh
      have q := ih (B := B) (b := b) h2
      show (d ≤ 11 ∧ dkT (A ++ B) (psD h d (a ++ b))) ↔ (d ≤ 11 ∧ dkT A (psD h d a)) ∧ dkT B b
      rw [psD_app]
      exact ⟨fun z => ⟨⟨z.1, (q.mp z.2).1⟩, (q.mp z.2).2⟩, fun z => ⟨z.1.1, q.mpr ⟨z.1.2, z.2⟩⟩⟩
def deL (T : Nat → Int) : Nat → Nat → Nat → Nat → Nat → List Hd
  | 0, _, _, _, _ => []
  | k + 1, O, p, W, V => match bgR T p W V O with
    | .inl _ => []
    | .inr (kd, q, V2) => bgL T p V :: (if kd ≤ 1 then []
      else if kd = 3 ∨ kd = 4 ∨ kd = 5 then
        match deR T k (O + 1) q (W + 1) V2 with
        | .inl _ => []
        | .inr (q2, W2, V3) => match tkR T q2 44 with
          | .inl _ => []
          | .inr q3 => deL T k (O + 1) q (W + 1) V2 ++ deL T k (O + 1) q3 W2 V3
      else deL T k (O + 1) q (W + 1) V2)
theorem deL_ok {T : Nat → Int} : ∀ (k O p W V q W2 V2 : Nat), W ≤ 40 → deR T k O p W V = .inr (q, W2, V2) → okT (deL T k O p W V) 1 ∧ W2 = W + (deL T k O p W V).length ∧ V2 = V + nvT (deL T k O p W V) ∧ dkT (deL T k O p W V) [O] ∧ hvT (deL T k O p W V) ∧ ∀ c par sec, deC T k O p W V c par sec = LY (deL T k O p W V) W V [(par, sec, O)] c := by
  intro k
  induction k with
  | zero => intro O p W V q W2 V2 hW h; cases h
  | succ k ih =>
    intro O p W V q W2 V2 hW h
    unfold deR at h
    unfold deL deC
    cases hb : bgR T p W V O with
    | inl d => rw [hb] at h; cases h
    | inr r =>
      obtain ⟨kd, q1, V1⟩ := r
      rw [hb] at h
      obtain ⟨b1, b2, b3, b4, b5, b6, b7⟩ := bgR_L hb
      subst b4
      generalize bgL T p V = hd at b5 b6 b7 h ⊢
      dsimp only at h ⊢
      have key : ∀ R : List Hd, okT R (arH hd) → dkT R (psD hd O []) → hvT R → okT (hd :: R) 1 ∧ dkT (hd :: R) [O] ∧ hvT (hd :: R) := fun R r1 r2 r3 => by
        refine ⟨?_, ⟨b1, r2⟩, fun x hx => ?_⟩
        · show okT R (0 + arH hd)
          rw [Nat.zero_add]
          exact r1
        · rcases List.mem_cons.mp hx with z | z
          · rw [z]; exact b6
          · exact r3 x z
      by_cases c1 : kd ≤ 1
      · rw [if_pos c1] at h
        simp only [if_pos c1]
        cases h
        have ar : arH hd = 0 := by unfold arH; rw [b5, if_neg (by omega), if_neg (by omega)]
        obtain ⟨k1, k2, k3⟩ := key [] (by rw [ar]; rfl) trivial (fun x hx => by cases hx)
        refine ⟨k1, rfl, ?_, k2, k3, fun c par sec => b7 par sec c⟩
        show V + nvH hd = V + (nvH hd + 0)
        omega
      · rw [if_neg c1] at h
        simp only [if_neg c1]
        by_cases c3 : kd = 3 ∨ kd = 4 ∨ kd = 5
        · rw [if_pos c3] at h
          simp only [if_pos c3]
          have ar : arH hd = 2 := by unfold arH; rw [b5, if_pos (by omega)]
          cases hd1 : deR T k (O + 1) q1 (W + 1) (V + nvH hd) with
          | inl d => rw [hd1] at h; cases h
          | inr r2 =>
            obtain ⟨q2, W3, V3⟩ := r2
            rw [hd1] at h
            dsimp only at h ⊢
            obtain ⟨i1, i2, i3, i4, i5, i6⟩ := ih _ _ _ _ _ _ _ (by omega) hd1
            have w3 := deR_W _ _ _ _ _ _ _ _ (by omega) hd1
            cases ht : tkR T q2 44 with
            | inl d => rw [ht] at h; cases h
            | inr q3 =>
              rw [ht] at h
              dsimp only at h ⊢
              cases hd2 : deR T k (O + 1) q3 W3 V3 with
              | inl d => rw [hd2] at h; cases h
              | inr r4 =>
                obtain ⟨q4, W4, V4⟩ := r4
                rw [hd2] at h
                dsimp only at h
                obtain ⟨j1, j2, j3, j4, j5, j6⟩ := ih _ _ _ _ _ _ _ (by omega) hd2
                cases hu : tkR T q4 41 with
                | inl d => rw [hu] at h; cases h
                | inr q5 =>
                  rw [hu] at h
                  cases h
                  generalize deL T k (O + 1) q1 (W + 1) (V + nvH hd) = A at i1 i2 i3 i4 i5 i6 ⊢
                  generalize deL T k (O + 1) q3 W3 V3 = B at j1 j2 j3 j4 j5 j6 ⊢
                  obtain ⟨k1, k2, k3⟩ := key (A ++ B) (by rw [ar]; exact okT_app i1 j1) (by unfold psD; rw [if_pos ar]; exact (dkT_app (a := [O + 1]) (b := [O + 1]) i1).mpr ⟨i4, j4⟩) (fun x hx => by rcases List.mem_append.mp hx with z | z; exact i5 x z; exact j5 x z)
                  refine ⟨k1, by rw [List.length_cons, List.length_append]; omega, ?_, k2, k3, fun c par sec => ?_⟩
                  · show V2 = V + (nvH hd + nvT (A ++ B))
                    rw [nvT_app]
                    omega
                  · rw [b7, i6, j6]
                    show _ = LY (A ++ B) (W + 1) (V + nvH hd) (psS hd W O []) (ptH hd W V par sec O c)
                    have hp2 : psS hd W O [] = [((W : Int), false, O + 1)] ++ [((W : Int), true, O + 1)] := by unfold psS; rw [if_pos ar]; rfl
                    rw [hp2, LY_app (show okT A [((W : Int), false, O + 1)].length from i1), i2, i3]
        · rw [if_neg c3] at h
          simp only [if_neg c3]
          have ar : arH hd = 1 := by unfold arH; rw [b5, if_neg (by omega), if_pos (by omega)]
          obtain ⟨i1, i2, i3, i4, i5, i6⟩ := ih _ _ _ _ _ _ _ (by omega) h
          generalize deL T k (O + 1) q1 (W + 1) (V + nvH hd) = A at i1 i2 i3 i4 i5 i6 ⊢
          obtain ⟨k1, k2, k3⟩ := key A (by rw [ar]; exact i1) (by unfold psD; rw [if_neg (by omega), if_pos ar]; exact i4) i5
          refine ⟨k1, by rw [List.length_cons]; omega, ?_, k2, k3, fun c par sec => ?_⟩
          · show V2 = V + (nvH hd + nvT A)
            omega
          · rw [b7, i6]
            show _ = LY A (W + 1) (V + nvH hd) (psS hd W O []) (ptH hd W V par sec O c)
            have hp2 : psS hd W O [] = [((W : Int), false, O + 1)] := by unfold psS; rw [if_neg (by omega), if_pos ar]
            rw [hp2]
