/-! small facts: cells apart, what a method leaves alone, ints by their values -/
theorem cne {f : gMem} {a x : Nat} {e e' : va_E} (ha : f a = some e) (hx : f x = some e') (h : ¬ e = e') : a ≠ x := fun q => h (by subst q; exact Option.some.inj (ha.symm.trans hx))
theorem cnn {f : gMem} {a x : Nat} {e : va_E} (ha : f a = some e) (hx : f x = none) : a ≠ x := fun q => by subst q; rw [ha] at hx; cases hx
/-- every cell but those in S is as it was -/
def fr (S : List Nat) (f f' : gMem) : Prop := ∀ (x : Nat) (e : va_E), f x = some e → x ∉ S → f' x = some e
theorem fr_rf {S : List Nat} {f : gMem} : fr S f f := fun _ _ h _ => h
theorem fr_tr {S : List Nat} {f g h : gMem} (h1 : fr S f g) (h2 : fr S g h) : fr S f h := fun x e hx hn => h2 x e (h1 x e hx hn) hn
theorem fr_up {S : List Nat} {f g : gMem} {a : Nat} {e : Option va_E} (h : fr S f g) (ha : a ∈ S) : fr S f (va_up g a e) := fun x e' hx hn => by
  rw [va_up_ne _ _ (fun q => hn (by rw [q]; exact ha))]
  exact h x e' hx hn
theorem fr_new {S : List Nat} {f g : gMem} {a : Nat} {e : Option va_E} (h : fr S f g) (ha : g a = none) : fr S f (va_up g a e) := fun x e' hx hn => by
  have h1 := h x e' hx hn
  rw [va_up_ne _ _ (fun q => by subst q; rw [ha] at h1; cases h1)]
  exact h1
theorem fr_mo {S S' : List Nat} {f g : gMem} (h : fr S f g) (hs : ∀ x, x ∈ S → x ∈ S') : fr S' f g := fun x e hx hn => h x e hx (fun q => hn (hs x q))
/-- a smaller frame: what S names beyond S' was not there -/
theorem fr_le {S S' : List Nat} {f g : gMem} (h : fr S f g) (hs : ∀ x, x ∈ S → x ∈ S' ∨ f x = none) : fr S' f g := fun x e hx hn => h x e hx (fun q => by
  rcases hs x q with h1 | h1
  · exact hn h1
  · rw [h1] at hx; cases hx)
theorem fl_lt (a b : Int32) : a < b ↔ a.toInt < b.toInt := Int32.lt_iff_toInt_lt
theorem fl_le (a b : Int32) : a ≤ b ↔ a.toInt ≤ b.toInt := Int32.le_iff_toInt_le
theorem fl_eq (a b : Int32) : a = b ↔ a.toInt = b.toInt := Int32.toInt_inj.symm
theorem vin {i m : Int32} {n : Nat} (h0 : ¬ i < 0) (h1 : ¬ m ≤ i) (hm : m.toInt = n) : vp_in i n := by
  rw [vp_in_iff]
  rw [fl_lt] at h0
  rw [fl_le] at h1
  have e0 : (0 : Int32).toInt = 0 := rfl
  omega
theorem ofN_toInt {n : Nat} (h : n < 2 ^ 31) : (Int32.ofNat n).toInt = n := nI_toInt h
theorem clampI {i : Int32} (h : ¬ i < 0) : (i.toNatClampNeg : Int) = i.toInt := by
  rw [fl_lt] at h
  have e0 : (0 : Int32).toInt = 0 := rfl
  have : i.toNatClampNeg = i.toInt.toNat := rfl
  omega
theorem i32_lo (i : Int32) : -2147483648 ≤ i.toInt := Int32.le_toInt i
theorem i32_hi (i : Int32) : i.toInt < 2147483648 := Int32.toInt_lt i
theorem addT {x y : Int32} (h1 : -2147483648 ≤ x.toInt + y.toInt) (h2 : x.toInt + y.toInt < 2147483648) : (x + y).toInt = x.toInt + y.toInt := by
  rw [Int32.toInt_add]
  exact Int.bmod_eq_of_le (by omega) (by omega)
theorem subT {x y : Int32} (h1 : -2147483648 ≤ x.toInt - y.toInt) (h2 : x.toInt - y.toInt < 2147483648) : (x - y).toInt = x.toInt - y.toInt := by
  rw [Int32.toInt_sub]
  exact Int.bmod_eq_of_le (by omega) (by omega)
theorem mulT {x y : Int32} (h1 : -2147483648 ≤ x.toInt * y.toInt) (h2 : x.toInt * y.toInt < 2147483648) : (x * y).toInt = x.toInt * y.toInt := by
  rw [Int32.toInt_mul]
  exact Int.bmod_eq_of_le (by omega) (by omega)
