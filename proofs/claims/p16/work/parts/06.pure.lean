/-! small facts: cells apart, what a method leaves alone, ints by their values -/
theorem cne {f : gMem} {a x : Nat} {e e' : va_E} (ha : f a = some e) (hx : f x = some e') (h : ¬ e = e') : a ≠ x := fun q => h (by subst q; exact Option.some.inj (ha.symm.trans hx))
theorem cnn {f : gMem} {a x : Nat} {e : va_E} (ha : f a = some e) (hx : f x = none) : a ≠ x := fun q => by subst q; rw [ha] at hx; cases hx
/-- every cell but those in S is as it was -/
def fr (S : List Nat) (f f' : gMem) : Prop := ∀ (x : Nat) (e : va_E), f x = some e → x ∉ S → f' x = some e
theorem fr_rf {S : List Nat} {f : gMem} : fr S f f := fun _ _ h _ => h
theorem fr_tr {S : List Nat} {f g h : gMem} (h1 : fr S f g) (h2 : fr S g h) : fr S f h := fun x e hx hn => h2 x e (h1 x e hx hn) hn
theorem fr_up {S : List Nat} {f g : gMem} {a : Nat} {e : Option va_E} (h : fr S f g) (ha : a ∈ S) : fr S f (va_up g a e) := fun x e' hx hn => by
  rw [va_up_ne _ _ (fun q => hn (by rw [q]; exact ha))]
  exact h x e' hx hn
theorem fr_new {S : List Nat} {f g : gMem} {a : Nat} {e : Option va_E} (h : fr S f g) (ha : g a = none) : fr S f (va_up g a e) := fun x e' hx hn => by
  have h1 := h x e' hx hn
  rw [va_up_ne _ _ (fun q => by subst q; rw [ha] at h1; cases h1)]
  exact h1
theorem fr_mo {S S' : List Nat} {f g : gMem} (h : fr S f g) (hs : ∀ x, x ∈ S → x ∈ S') : fr S' f g := fun x e hx hn => h x e hx (fun q => hn (hs x q))
/-- a smaller frame: what S names beyond S' was not there -/
theorem fr_le {S S' : List Nat} {f g : gMem} (h : fr S f g) (hs : ∀ x, x ∈ S → x ∈ S' ∨ f x = none) : fr S' f g := fun x e hx hn => h x e hx (fun q => by
  rcases hs x q with h1 | h1
  · exact hn h1
  · rw [h1] at hx; cases hx)
theorem fl_lt (a b : Int32) : a < b ↔ a.toInt < b.toInt := Int32.lt_iff_toInt_lt
theorem fl_le (a b : Int32) : a ≤ b ↔ a.toInt ≤ b.toInt := Int32.le_iff_toInt_le
theorem fl_eq (a b : Int32) : a = b ↔ a.toInt = b.toInt := Int32.toInt_inj.symm
theorem vin {i m : Int32} {n : Nat} (h0 : ¬ i < 0) (h1 : ¬ m ≤ i) (hm : m.toInt = n) : vp_in i n := by
  rw [vp_in_iff]
  rw [fl_lt] at h0
  rw [fl_le] at h1
  have e0 : (0 : Int32).toInt = 0 := rfl
  omega
theorem ofN_toInt {n : Nat} (h : n < 2 ^ 31) : (Int32.ofNat n).toInt = n := nI_toInt h
theorem clampI {i : Int32} (h : ¬ i < 0) : (i.toNatClampNeg : Int) = i.toInt := by
  rw [fl_lt] at h
  have e0 : (0 : Int32).toInt = 0 := rfl
  have : i.toNatClampNeg = i.toInt.toNat := rfl
  omega
theorem i32_lo (i : Int32) : -2147483648 ≤ i.toInt := Int32.le_toInt i
theorem i32_hi (i : Int32) : i.toInt < 2147483648 := Int32.toInt_lt i
theorem addT {x y : Int32} (h1 : -2147483648 ≤ x.toInt + y.toInt) (h2 : x.toInt + y.toInt < 2147483648) : (x + y).toInt = x.toInt + y.toInt := by
  rw [Int32.toInt_add]
  exact Int.bmod_eq_of_le (by omega) (by omega)
theorem subT {x y : Int32} (h1 : -2147483648 ≤ x.toInt - y.toInt) (h2 : x.toInt - y.toInt < 2147483648) : (x - y).toInt = x.toInt - y.toInt := by
  rw [Int32.toInt_sub]
  exact Int.bmod_eq_of_le (by omega) (by omega)
theorem mulT {x y : Int32} (h1 : -2147483648 ≤ x.toInt * y.toInt) (h2 : x.toInt * y.toInt < 2147483648) : (x * y).toInt = x.toInt * y.toInt := by
  rw [Int32.toInt_mul]
  exact Int.bmod_eq_of_le (by omega) (by omega)
theorem fL_lt (a b : Int64) : a < b ↔ a.toInt < b.toInt := Int64.lt_iff_toInt_lt
theorem fL_le (a b : Int64) : a ≤ b ↔ a.toInt ≤ b.toInt := Int64.le_iff_toInt_le
theorem fL_w (x : Int32) : x.toInt64.toInt = x.toInt := Int32.toInt_toInt64 x
theorem lgc_lt {x y : Int64} : lg_cmp x y < 0 ↔ x.toInt < y.toInt := by
  unfold lg_cmp
  by_cases h1 : y < x
  · rw [if_pos h1]; rw [fL_lt] at h1; constructor
    · intro h; exact absurd h (by decide)
    · intro h; omega
  · rw [if_neg h1]
    by_cases h2 : x = y
    · rw [if_pos h2]; subst h2; constructor
      · intro h; exact absurd h (by decide)
      · intro h; omega
    · rw [if_neg h2]; rw [fL_lt] at h1
      have : x.toInt ≠ y.toInt := fun q => h2 (Int64.toInt_inj.mp q)
      constructor
      · intro _; omega
      · intro _; decide
theorem lgc_gt {x y : Int64} : 0 < lg_cmp x y ↔ y.toInt < x.toInt := by
  unfold lg_cmp
  by_cases h1 : y < x
  · rw [if_pos h1]; rw [fL_lt] at h1; constructor
    · intro _; exact h1
    · intro _; decide
  · rw [if_neg h1]
    rw [fL_lt] at h1
    by_cases h2 : x = y
    · rw [if_pos h2]; constructor
      · intro h; exact absurd h (by decide)
      · intro h; omega
    · rw [if_neg h2]; constructor
      · intro h; exact absurd h (by decide)
      · intro h; omega
theorem lgc_eq {x y : Int64} : lg_cmp x y = 0 ↔ x = y := by
  unfold lg_cmp
  by_cases h1 : y < x
  · rw [if_pos h1]; constructor
    · intro h; exact absurd h (by decide)
    · intro h; subst h; rw [fL_lt] at h1; omega
  · rw [if_neg h1]
    by_cases h2 : x = y
    · rw [if_pos h2]; exact ⟨fun _ => h2, fun _ => rfl⟩
    · rw [if_neg h2]; exact ⟨fun h => absurd h (by decide), fun h => absurd h h2⟩
theorem lgc_le {x y : Int64} : lg_cmp x y ≤ 0 ↔ x.toInt ≤ y.toInt := by
  have h := lgc_gt (x := x) (y := y)
  rw [fl_lt] at h
  rw [fl_le]
  have e0 : (0 : Int32).toInt = 0 := rfl
  omega
theorem lgc_ge {x y : Int64} : 0 ≤ lg_cmp x y ↔ y.toInt ≤ x.toInt := by
  have h := lgc_lt (x := x) (y := y)
  rw [fl_lt] at h
  rw [fl_le]
  have e0 : (0 : Int32).toInt = 0 := rfl
  omega
/-- the reference's 'in' -/
def mIn (x y w : Int64) : Int32 := if x.toInt < y.toInt then 0 else if w.toInt < x.toInt then 0 else 1
theorem mIn_0 {x y w : Int64} : mIn x y w = 0 ↔ (x.toInt < y.toInt ∨ w.toInt < x.toInt) := by
  unfold mIn
  by_cases h1 : x.toInt < y.toInt
  · simp [h1]
  · by_cases h2 : w.toInt < x.toInt
    · simp [h1, h2]
    · simp [h1, h2]
theorem idx1 {t x : Int32} (h : 0 ≤ t.toInt ∧ t.toInt ≤ 5) (hx : 0 ≤ x.toInt ∧ x.toInt < 400) : (400 * t + x).toInt = 400 * t.toInt + x.toInt := by
  have e : (400 : Int32).toInt = 400 := rfl
  have h1 : (400 * t).toInt = 400 * t.toInt := by rw [mulT (by rw [e]; omega) (by rw [e]; omega), e]
  rw [addT (by rw [h1]; omega) (by rw [h1]; omega), h1]
theorem idx2 {t x : Int32} (h : 0 ≤ t.toInt ∧ t.toInt ≤ 5) (hx : 0 ≤ x.toInt ∧ x.toInt < 400) : (t * 400 + x).toInt = 400 * t.toInt + x.toInt := by
  rw [Int32.mul_comm]
  exact idx1 h hx
theorem vin_T {i : Int32} {n : Nat} {v : Int} (h : i.toInt = v) (h0 : 0 ≤ v) (h1 : v < n) : vp_in i n := by
  rw [vp_in_iff]
  omega
theorem vin_lt {i : Int32} {n : Nat} (h : vp_in i n) : i.toNatClampNeg < n := Nat.not_le.mp fun q => h (Or.inr q)
theorem T_add {x y : Int32} {a b : Int} (hx : x.toInt = a) (hy : y.toInt = b) (h : -2147483648 ≤ a + b ∧ a + b < 2147483648) : (x + y).toInt = a + b := by
  subst hx; subst hy; exact addT h.1 h.2
theorem T_sub {x y : Int32} {a b : Int} (hx : x.toInt = a) (hy : y.toInt = b) (h : -2147483648 ≤ a - b ∧ a - b < 2147483648) : (x - y).toInt = a - b := by
  subst hx; subst hy; exact subT h.1 h.2
theorem T_mul {x y : Int32} {a b : Int} (hx : x.toInt = a) (hy : y.toInt = b) (h : -2147483648 ≤ a * b ∧ a * b < 2147483648) : (x * y).toInt = a * b := by
  subst hx; subst hy; exact mulT h.1 h.2
/-! what is made: a list of cells, the first the object itself, the rest new -/
def aW (W : List (Nat × va_E)) (f : gMem) : Prop := (∀ (k : Nat) (q : Nat × va_E), W[k]? = some q → f q.1 = some q.2) ∧ ∀ (i j : Nat) (p q : Nat × va_E), W[i]? = some p → W[j]? = some q → p.1 = q.1 → i = j
theorem aW_set {W : List (Nat × va_E)} {f : gMem} {k x : Nat} {e e' : va_E} (h : aW W f) (hk : W[k]? = some (x, e)) : aW (W.set k (x, e')) (va_up f x (some e')) := by
  have hl := (List.getElem?_eq_some_iff.mp hk).1
  have key : ∀ (i : Nat) (q : Nat × va_E), (W.set k (x, e'))[i]? = some q → ∃ q0, W[i]? = some q0 ∧ q0.1 = q.1 ∧ (i = k → q = (x, e')) ∧ (i ≠ k → q0 = q) := by
    intro i q hq
    by_cases hi : i = k
    · subst hi
      rw [List.getElem?_set_self hl] at hq
      cases hq
      exact ⟨_, hk, rfl, fun _ => rfl, fun h => absurd rfl h⟩
    · rw [List.getElem?_set_ne (Ne.symm hi)] at hq
      exact ⟨q, hq, rfl, fun h => absurd h hi, fun _ => rfl⟩
  refine ⟨fun i q hq => ?_, fun i j p q hp hq e1 => ?_⟩
  · obtain ⟨q0, h1, h2, h3, h4⟩ := key i q hq
    by_cases hi : i = k
    · rw [h3 hi]
      exact va_up_self _ _ _
    · have e0 := h4 hi
      subst e0
      rw [va_up_ne _ _ (fun z => hi (h.2 i k _ _ h1 hk z))]
      exact h.1 i _ h1
  · obtain ⟨p0, a1, a2, -, -⟩ := key i p hp
    obtain ⟨q0, b1, b2, -, -⟩ := key j q hq
    exact h.2 i j _ _ a1 b1 (a2.trans (e1.trans b2.symm))
theorem aW_app {W N : List (Nat × va_E)} {f : gMem} (h : aW W f) (hN : aW N f) (hd : ∀ (i j : Nat) (p q : Nat × va_E), W[i]? = some p → N[j]? = some q → p.1 ≠ q.1) : aW (W ++ N) f := by
  have key : ∀ (k : Nat) (q : Nat × va_E), (W ++ N)[k]? = some q → (k < W.length ∧ W[k]? = some q) ∨ (W.length ≤ k ∧ N[k - W.length]? = some q) := by
    intro k q hk
    by_cases hl : k < W.length
    · rw [List.getElem?_append_left hl] at hk
      exact Or.inl ⟨hl, hk⟩
    · rw [List.getElem?_append_right (by omega)] at hk
      exact Or.inr ⟨by omega, hk⟩
  refine ⟨fun k q hk => ?_, fun i j p q hp hq e1 => ?_⟩
  · rcases key k q hk with ⟨-, h1⟩ | ⟨-, h1⟩
    · exact h.1 k q h1
    · exact hN.1 _ q h1
  · rcases key i p hp with ⟨l1, h1⟩ | ⟨l1, h1⟩ <;> rcases key j q hq with ⟨l2, h2⟩ | ⟨l2, h2⟩
    · exact h.2 i j p q h1 h2 e1
    · exact absurd e1 (hd _ _ p q h1 h2)
    · exact absurd e1.symm (hd _ _ q p h2 h1)
    · have := hN.2 _ _ p q h1 h2 e1
      omega
theorem aW_fr {W : List (Nat × va_E)} {S : List Nat} {f f2 : gMem} (h : aW W f) (hf : fr S f f2) (hs : ∀ (k : Nat) (q : Nat × va_E), W[k]? = some q → q.1 ∉ S) : aW W f2 := ⟨fun k q hk => hf _ _ (h.1 k q hk) (hs k q hk), h.2⟩
def cW (f0 : gMem) (x : Nat) (W : List (Nat × va_E)) (f : gMem) : Prop := aW W f ∧ fr [x] f0 f ∧ (∀ (k : Nat) (q : Nat × va_E), W[k]? = some q → q.1 = x ∨ f0 q.1 = none) ∧ ∃ e, W[0]? = some (x, e)
theorem cW_0 {f : gMem} {x : Nat} {e : va_E} (h : f x = some e) : cW f x [(x, e)] f := by
  refine ⟨⟨fun k q hk => ?_, fun i j p q hi hj _ => ?_⟩, fr_rf, fun k q hk => ?_, e, rfl⟩
  · have : k < 1 := (List.getElem?_eq_some_iff.mp hk).1
    have : k = 0 := by omega
    subst this
    cases hk
    exact h
  · have h1 : i < 1 := (List.getElem?_eq_some_iff.mp hi).1
    have h2 : j < 1 := (List.getElem?_eq_some_iff.mp hj).1
    omega
  · have : k < 1 := (List.getElem?_eq_some_iff.mp hk).1
    have : k = 0 := by omega
    subst this
    cases hk
    exact Or.inl rfl
theorem fr_skip {S : List Nat} {f g : gMem} {y : Nat} {e : Option va_E} (h : fr S f g) (hy : f y = none) : fr S f (va_up g y e) := fun x e' hx hn => by
  rw [va_up_ne _ _ (fun q => by subst q; rw [hy] at hx; cases hx)]
  exact h x e' hx hn
theorem cW_put {f0 f : gMem} {x y : Nat} {W : List (Nat × va_E)} {e e' : va_E} (h : cW f0 x W f) (k : Nat) (hk : W[k]? = some (y, e)) : cW f0 x (W.set k (y, e')) (va_up f y (some e')) := by
  obtain ⟨h1, h2, h3, e0, h4⟩ := h
  have hl := (List.getElem?_eq_some_iff.mp hk).1
  refine ⟨aW_set h1 hk, ?_, fun i q hq => ?_, ?_⟩
  · rcases h3 k _ hk with hy | hy
    · subst hy; exact fr_up h2 (by simp)
    · exact fr_skip h2 hy
  · by_cases hi : i = k
    · subst hi
      rw [List.getElem?_set_self hl] at hq
      cases hq
      exact h3 i (y, e) hk
    · rw [List.getElem?_set_ne (Ne.symm hi)] at hq
      exact h3 i q hq
  · by_cases hi : 0 = k
    · subst hi
      rw [hk] at h4
      cases h4
      exact ⟨e', List.getElem?_set_self hl⟩
    · exact ⟨e0, by rw [List.getElem?_set_ne (Ne.symm hi)]; exact h4⟩
theorem cW_none {f0 f : gMem} {x q : Nat} {W : List (Nat × va_E)} (h : cW f0 x W f) (hq : f q = none) : f0 q = none := by
  obtain ⟨h1, h2, h3, e0, h4⟩ := h
  cases h0 : f0 q with
  | none => rfl
  | some e =>
    have hx : q ≠ x := fun z => by subst z; rw [h1.1 0 _ h4] at hq; cases hq
    have := h2 q e h0 (by simp [hx])
    rw [hq] at this
    cases this
theorem cW_new {f0 f : gMem} {x q : Nat} {W : List (Nat × va_E)} {e : va_E} (h : cW f0 x W f) (hq : f q = none) : cW f0 x (W ++ [(q, e)]) (va_up f q (some e)) := by
  have h0 := cW_none h hq
  obtain ⟨h1, h2, h3, e0, h4⟩ := h
  have hl : 0 < W.length := (List.getElem?_eq_some_iff.mp h4).1
  have hw : aW W (va_up f q (some e)) := ⟨fun k p hp => by rw [va_up_ne _ _ (cnn (h1.1 k p hp) hq)]; exact h1.1 k p hp, h1.2⟩
  have hs : ∀ (k : Nat) (p : Nat × va_E), [(q, e)][k]? = some p → p = (q, e) := by
    intro k p hp
    have : k < 1 := (List.getElem?_eq_some_iff.mp hp).1
    have : k = 0 := by omega
    subst this
    cases hp
    rfl
  refine ⟨aW_app hw ⟨fun k p hp => by rw [hs k p hp]; exact va_up_self _ _ _, fun i j p r hi hj _ => ?_⟩ (fun i j p r hi hj => ?_), fr_skip h2 h0, fun k p hp => ?_, e0, by rw [List.getElem?_append_left hl]; exact h4⟩
  · have h1 : i < 1 := (List.getElem?_eq_some_iff.mp hi).1
    have h2 : j < 1 := (List.getElem?_eq_some_iff.mp hj).1
    omega
  · rw [hs j r hj]
    exact cnn (h1.1 i p hi) hq
  · by_cases hk : k < W.length
    · rw [List.getElem?_append_left hk] at hp
      exact h3 k p hp
    · rw [List.getElem?_append_right (by omega)] at hp
      rw [hs _ p hp]
      exact Or.inr h0
theorem cW_call {f0 f f2 : gMem} {x y : Nat} {W N : List (Nat × va_E)} {e e' : va_E} (h : cW f0 x W f) (k : Nat) (hk0 : k ≠ 0) (hk : W[k]? = some (y, e)) (hc : cW f y ((y, e') :: N) f2) : cW f0 x (W.set k (y, e') ++ N) f2 := by
  have hnn : ∀ q, f q = none → f0 q = none := fun q hq => cW_none h hq
  obtain ⟨h1, h2, h3, e0, h4⟩ := h
  obtain ⟨c1, c2, c3, c4⟩ := hc
  have hl := (List.getElem?_eq_some_iff.mp hk).1
  have hyx : y ≠ x := fun z => hk0 (h1.2 k 0 _ _ hk h4 z)
  have hy0 : f0 y = none := (h3 k _ hk).resolve_left hyx
  have hN : ∀ (j : Nat) (q : Nat × va_E), N[j]? = some q → f q.1 = none := by
    intro j q hq
    rcases c3 (j + 1) q (by rw [List.getElem?_cons_succ]; exact hq) with z | z
    · have := c1.2 (j + 1) 0 q (y, e') (by rw [List.getElem?_cons_succ]; exact hq) rfl z
      omega
    · exact z
  have hset : ∀ (i : Nat) (q : Nat × va_E), (W.set k (y, e'))[i]? = some q → (i = k ∧ q = (y, e')) ∨ (i ≠ k ∧ W[i]? = some q) := by
    intro i q hq
    by_cases hi : i = k
    · subst hi
      rw [List.getElem?_set_self hl] at hq
      cases hq
      exact Or.inl ⟨rfl, rfl⟩
    · rw [List.getElem?_set_ne (Ne.symm hi)] at hq
      exact Or.inr ⟨hi, hq⟩
  have hw : aW (W.set k (y, e')) f2 := by
    refine ⟨fun i q hq => ?_, fun i j p q hp hq e1 => ?_⟩
    · rcases hset i q hq with ⟨-, rfl⟩ | ⟨hi, hq⟩
      · exact c1.1 0 _ rfl
      · exact c2 _ _ (h1.1 i q hq) (by simp; exact fun z => hi (h1.2 i k _ _ hq hk z))
    · have g : ∀ (i : Nat) (q : Nat × va_E), (W.set k (y, e'))[i]? = some q → ∃ q0, W[i]? = some q0 ∧ q0.1 = q.1 := by
        intro i q hq
        rcases hset i q hq with ⟨rfl, rfl⟩ | ⟨hi, hq⟩
        · exact ⟨_, hk, rfl⟩
        · exact ⟨q, hq, rfl⟩
      obtain ⟨p0, a1, a2⟩ := g i p hp
      obtain ⟨q0, b1, b2⟩ := g j q hq
      exact h1.2 i j _ _ a1 b1 (a2.trans (e1.trans b2.symm))
  refine ⟨aW_app hw ⟨fun j q hq => c1.1 (j + 1) q (by rw [List.getElem?_cons_succ]; exact hq), fun i j p q hp hq e1 => ?_⟩ (fun i j p q hp hq z => ?_), ?_, fun i q hq => ?_, ?_⟩
  · have := c1.2 (i + 1) (j + 1) p q (by rw [List.getElem?_cons_succ]; exact hp) (by rw [List.getElem?_cons_succ]; exact hq) e1
    omega
  · have hf := hN j q hq
    rw [← z] at hf
    rcases hset i p hp with ⟨-, rfl⟩ | ⟨-, hp⟩
    · rw [h1.1 k _ hk] at hf; cases hf
    · rw [h1.1 i p hp] at hf; cases hf
  · intro a ea ha hax
    exact c2 a ea (h2 a ea ha hax) (by simp; exact fun z => by subst z; rw [hy0] at ha; cases ha)
  · by_cases hi : i < (W.set k (y, e')).length
    · rw [List.getElem?_append_left hi] at hq
      rcases hset i q hq with ⟨-, rfl⟩ | ⟨-, hq⟩
      · exact Or.inr hy0
      · exact h3 i q hq
    · rw [List.getElem?_append_right (by omega)] at hq
      exact Or.inr (hnn _ (hN _ q hq))
  · refine ⟨e0, ?_⟩
    rw [List.getElem?_append_left (by rw [List.length_set]; omega), List.getElem?_set_ne hk0]
    exact h4
section GN
variable {l : Launch} {R : Room} {Qf : List Frame → Array Value → State → State → Prop} {Ex : State → Prop} {D : va_G} {cy : Nat → ClassId} {b : Nat} {cc : ByteArray} {nL : Nat} {ret : Option FieldType} {own nm : String} {cells slots : Nat} {f : gMem} {pc : Nat} {lv : List (Nat × Value)} {st : List Value}
theorem gz_gen (k : ∀ f1 : gMem, f1 = f → gG l R Qf Ex D cy b cc nL ret own nm cells slots f1 pc lv st) : gG l R Qf Ex D cy b cc nL ret own nm cells slots f pc lv st := k f rfl
theorem gz_mrg {f2 : gMem} {pc2 : Nat} {lv2 : List (Nat × Value)} {st2 : List Value} (k : gG l R Qf Ex D cy b cc nL ret own nm cells slots f2 pc2 lv2 st2) (h : gG l R Qf Ex D cy b cc nL ret own nm cells slots f2 pc2 lv2 st2 → gG l R Qf Ex D cy b cc nL ret own nm cells slots f pc lv st) : gG l R Qf Ex D cy b cc nL ret own nm cells slots f pc lv st := h k
end GN
def lett {α β : Type} (v : α) (k : α → β) : β := k v
theorem lett_eq {α β : Type} {v x : α} {k : α → β} (h : v = x) : lett v k = k x := by subst h; rfl
theorem nrb {x : Int32} (h : x = 0 ∨ x = 1) : narrow .boolean (.int x) = .int x := by
  rcases h with h | h <;> subst h <;> decide
theorem sw2 {x : Int32} (h : ¬ (x.toInt < 0 ∨ 2 < x.toInt)) : x = 0 ∨ x = 1 ∨ x = 2 := by
  have key : x.toInt = 0 ∨ x.toInt = 1 ∨ x.toInt = 2 := by omega
  rcases key with h | h | h
  · exact Or.inl (Int32.toInt_inj.mp h)
  · exact Or.inr (Or.inl (Int32.toInt_inj.mp h))
  · exact Or.inr (Or.inr ((Int32.toInt_inj.mp h)))
theorem sw3 {x : Int32} (h : ¬ (x.toInt < 0 ∨ 3 < x.toInt)) : x = 0 ∨ x = 1 ∨ x = 2 ∨ x = 3 := by
  have key : x.toInt = 0 ∨ x.toInt = 1 ∨ x.toInt = 2 ∨ x.toInt = 3 := by omega
  rcases key with h | h | h | h
  · exact Or.inl (Int32.toInt_inj.mp h)
  · exact Or.inr (Or.inl (Int32.toInt_inj.mp h))
  · exact Or.inr (Or.inr (Or.inl (Int32.toInt_inj.mp h)))
  · exact Or.inr (Or.inr (Or.inr ((Int32.toInt_inj.mp h))))
theorem sw7 {x : Int32} (h : ¬ (x.toInt < 0 ∨ 7 < x.toInt)) : x = 0 ∨ x = 1 ∨ x = 2 ∨ x = 3 ∨ x = 4 ∨ x = 5 ∨ x = 6 ∨ x = 7 := by
  have key : x.toInt = 0 ∨ x.toInt = 1 ∨ x.toInt = 2 ∨ x.toInt = 3 ∨ x.toInt = 4 ∨ x.toInt = 5 ∨ x.toInt = 6 ∨ x.toInt = 7 := by omega
  rcases key with h | h | h | h | h | h | h | h
  · exact Or.inl (Int32.toInt_inj.mp h)
  · exact Or.inr (Or.inl (Int32.toInt_inj.mp h))
  · exact Or.inr (Or.inr (Or.inl (Int32.toInt_inj.mp h)))
  · exact Or.inr (Or.inr (Or.inr (Or.inl (Int32.toInt_inj.mp h))))
  · exact Or.inr (Or.inr (Or.inr (Or.inr (Or.inl (Int32.toInt_inj.mp h)))))
  · exact Or.inr (Or.inr (Or.inr (Or.inr (Or.inr (Or.inl (Int32.toInt_inj.mp h))))))
  · exact Or.inr (Or.inr (Or.inr (Or.inr (Or.inr (Or.inr (Or.inl (Int32.toInt_inj.mp h)))))))
  · exact Or.inr (Or.inr (Or.inr (Or.inr (Or.inr (Or.inr (Or.inr ((Int32.toInt_inj.mp h))))))))
