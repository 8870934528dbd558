/-! small facts: cells apart, what a method leaves alone, ints by their values -/
theorem cne {f : gMem} {a x : Nat} {e e' : va_E} (ha : f a = some e) (hx : f x = some e') (h : ¬ e = e') : a ≠ x := fun q => h (by subst q; exact Option.some.inj (ha.symm.trans hx))
theorem cnn {f : gMem} {a x : Nat} {e : va_E} (ha : f a = some e) (hx : f x = none) : a ≠ x := fun q => by subst q; rw [ha] at hx; cases hx
/-- every cell but those in S is as it was -/
def fr (S : List Nat) (f f' : gMem) : Prop := ∀ (x : Nat) (e : va_E), f x = some e → x ∉ S → f' x = some e
theorem fr_rf {S : List Nat} {f : gMem} : fr S f f := fun _ _ h _ => h
theorem fr_tr {S : List Nat} {f g h : gMem} (h1 : fr S f g) (h2 : fr S g h) : fr S f h := fun x e hx hn => h2 x e (h1 x e hx hn) hn
theorem fr_up {S : List Nat} {f g : gMem} {a : Nat} {e : Option va_E} (h : fr S f g) (ha : a ∈ S) : fr S f (va_up g a e) := fun x e' hx hn => by
  rw [va_up_ne _ _ (fun q => hn (by rw [q]; exact ha))]
  exact h x e' hx hn
theorem fr_new {S : List Nat} {f g : gMem} {a : Nat} {e : Option va_E} (h : fr S f g) (ha : g a = none) : fr S f (va_up g a e) := fun x e' hx hn => by
  have h1 := h x e' hx hn
  rw [va_up_ne _ _ (fun q => by subst q; rw [ha] at h1; cases h1)]
  exact h1
theorem fr_mo {S S' : List Nat} {f g : gMem} (h : fr S f g) (hs : ∀ x, x ∈ S → x ∈ S') : fr S' f g := fun x e hx hn => h x e hx (fun q => hn (hs x q))
/-- a smaller frame: what S names beyond S' was not there -/
theorem fr_le {S S' : List Nat} {f g : gMem} (h : fr S f g) (hs : ∀ x, x ∈ S → x ∈ S' ∨ f x = none) : fr S' f g := fun x e hx hn => h x e hx (fun q => by
  rcases hs x q with h1 | h1
  · exact hn h1
  · rw [h1] at hx; cases hx)
theorem fl_lt (a b : Int32) : a < b ↔ a.toInt < b.toInt := Int32.lt_iff_toInt_lt
theorem fl_le (a b : Int32) : a ≤ b ↔ a.toInt ≤ b.toInt := Int32.le_iff_toInt_le
theorem fl_eq (a b : Int32) : a = b ↔ a.toInt = b.toInt := Int32.toInt_inj.symm
theorem vin {i m : Int32} {n : Nat} (h0 : ¬ i < 0) (h1 : ¬ m ≤ i) (hm : m.toInt = n) : vp_in i n := by
  rw [vp_in_iff]
  rw [fl_lt] at h0
  rw [fl_le] at h1
  have e0 : (0 : Int32).toInt = 0 := rfl
  omega
theorem ofN_toInt {n : Nat} (h : n < 2 ^ 31) : (Int32.ofNat n).toInt = n := nI_toInt h
theorem clampI {i : Int32} (h : ¬ i < 0) : (i.toNatClampNeg : Int) = i.toInt := by
  rw [fl_lt] at h
  have e0 : (0 : Int32).toInt = 0 := rfl
  have : i.toNatClampNeg = i.toInt.toNat := rfl
  omega
theorem i32_lo (i : Int32) : -2147483648 ≤ i.toInt := Int32.le_toInt i
theorem i32_hi (i : Int32) : i.toInt < 2147483648 := Int32.toInt_lt i
theorem addT {x y : Int32} (h1 : -2147483648 ≤ x.toInt + y.toInt) (h2 : x.toInt + y.toInt < 2147483648) : (x + y).toInt = x.toInt + y.toInt := by
  rw [Int32.toInt_add]
  exact Int.bmod_eq_of_le (by omega) (by omega)
theorem subT {x y : Int32} (h1 : -2147483648 ≤ x.toInt - y.toInt) (h2 : x.toInt - y.toInt < 2147483648) : (x - y).toInt = x.toInt - y.toInt := by
  rw [Int32.toInt_sub]
  exact Int.bmod_eq_of_le (by omega) (by omega)
theorem mulT {x y : Int32} (h1 : -2147483648 ≤ x.toInt * y.toInt) (h2 : x.toInt * y.toInt < 2147483648) : (x * y).toInt = x.toInt * y.toInt := by
  rw [Int32.toInt_mul]
  exact Int.bmod_eq_of_le (by omega) (by omega)
theorem fL_lt (a b : Int64) : a < b ↔ a.toInt < b.toInt := Int64.lt_iff_toInt_lt
theorem fL_le (a b : Int64) : a ≤ b ↔ a.toInt ≤ b.toInt := Int64.le_iff_toInt_le
theorem fL_w (x : Int32) : x.toInt64.toInt = x.toInt := Int32.toInt_toInt64 x
theorem lgc_lt {x y : Int64} : lg_cmp x y < 0 ↔ x.toInt < y.toInt := by
  unfold lg_cmp
  by_cases h1 : y < x
  · rw [if_pos h1]; rw [fL_lt] at h1; constructor
    · intro h; exact absurd h (by decide)
    · intro h; omega
  · rw [if_neg h1]
    by_cases h2 : x = y
    · rw [if_pos h2]; subst h2; constructor
      · intro h; exact absurd h (by decide)
      · intro h; omega
    · rw [if_neg h2]; rw [fL_lt] at h1
      have : x.toInt ≠ y.toInt := fun q => h2 (Int64.toInt_inj.mp q)
      constructor
      · intro _; omega
      · intro _; decide
theorem lgc_gt {x y : Int64} : 0 < lg_cmp x y ↔ y.toInt < x.toInt := by
  unfold lg_cmp
  by_cases h1 : y < x
  · rw [if_pos h1]; rw [fL_lt] at h1; constructor
    · intro _; exact h1
    · intro _; decide
  · rw [if_neg h1]
    rw [fL_lt] at h1
    by_cases h2 : x = y
    · rw [if_pos h2]; constructor
      · intro h; exact absurd h (by decide)
      · intro h; omega
    · rw [if_neg h2]; constructor
      · intro h; exact absurd h (by decide)
      · intro h; omega
theorem lgc_eq {x y : Int64} : lg_cmp x y = 0 ↔ x = y := by
  unfold lg_cmp
  by_cases h1 : y < x
  · rw [if_pos h1]; constructor
    · intro h; exact absurd h (by decide)
    · intro h; subst h; rw [fL_lt] at h1; omega
  · rw [if_neg h1]
    by_cases h2 : x = y
    · rw [if_pos h2]; exact ⟨fun _ => h2, fun _ => rfl⟩
    · rw [if_neg h2]; exact ⟨fun h => absurd h (by decide), fun h => absurd h h2⟩
theorem lgc_le {x y : Int64} : lg_cmp x y ≤ 0 ↔ x.toInt ≤ y.toInt := by
  have h := lgc_gt (x := x) (y := y)
  rw [fl_lt] at h
  rw [fl_le]
  have e0 : (0 : Int32).toInt = 0 := rfl
  omega
theorem lgc_ge {x y : Int64} : 0 ≤ lg_cmp x y ↔ y.toInt ≤ x.toInt := by
  have h := lgc_lt (x := x) (y := y)
  rw [fl_lt] at h
  rw [fl_le]
  have e0 : (0 : Int32).toInt = 0 := rfl
  omega
/-- the reference's 'in' -/
def mIn (x y w : Int64) : Int32 := if x.toInt < y.toInt then 0 else if w.toInt < x.toInt then 0 else 1
theorem mIn_0 {x y w : Int64} : mIn x y w = 0 ↔ (x.toInt < y.toInt ∨ w.toInt < x.toInt) := by
  unfold mIn
  by_cases h1 : x.toInt < y.toInt
  · simp [h1]
  · by_cases h2 : w.toInt < x.toInt
    · simp [h1, h2]
    · simp [h1, h2]
theorem idx1 {t x : Int32} (h : 0 ≤ t.toInt ∧ t.toInt ≤ 5) (hx : 0 ≤ x.toInt ∧ x.toInt < 400) : (400 * t + x).toInt = 400 * t.toInt + x.toInt := by
  have e : (400 : Int32).toInt = 400 := rfl
  have h1 : (400 * t).toInt = 400 * t.toInt := by rw [mulT (by rw [e]; omega) (by rw [e]; omega), e]
  rw [addT (by rw [h1]; omega) (by rw [h1]; omega), h1]
theorem idx2 {t x : Int32} (h : 0 ≤ t.toInt ∧ t.toInt ≤ 5) (hx : 0 ≤ x.toInt ∧ x.toInt < 400) : (t * 400 + x).toInt = 400 * t.toInt + x.toInt := by
  rw [Int32.mul_comm]
  exact idx1 h hx
theorem vin_T {i : Int32} {n : Nat} {v : Int} (h : i.toInt = v) (h0 : 0 ≤ v) (h1 : v < n) : vp_in i n := by
  rw [vp_in_iff]
  omega
theorem vin_lt {i : Int32} {n : Nat} (h : vp_in i n) : i.toNatClampNeg < n := Nat.not_le.mp fun q => h (Or.inr q)
