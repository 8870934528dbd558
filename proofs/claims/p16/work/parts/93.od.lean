/-! the class's reader, in the words of the text -/
theorem tAt_tX {len : Int32} {tg : Nat → Int32} {i : Int32} {k : Nat} (hl : 0 ≤ len.toInt ∧ len.toInt ≤ 400) (hi : i.toInt = k) : (tAt len 400 tg i).toInt = tX tg len k := by
  have e0 : (0 : Int32).toInt = 0 := rfl
  have e4 : (Int32.ofNat 400).toInt = 400 := rfl
  unfold tAt
  rw [if_neg (by rw [fl_lt, e0]; omega)]
  by_cases c : (k : Int) < len.toInt
  · rw [if_neg (by rw [fl_le]; omega), if_neg (by rw [fl_le, e4]; omega), tX_in c, show Int32.toNatClampNeg i = k by rw [clN]; omega]
  · rw [if_pos (by rw [fl_le]; omega), tX_out c]; rfl
theorem upnL_sk {len : Int32} {tg : Nat → Int32} (hl : 0 ≤ len.toInt ∧ len.toInt ≤ 400) : ∀ (k : Nat) (i pl : Int32) (p : Nat), pl.toInt = p → p ≤ 800 → i.toInt + (k : Int) = 401 → 0 ≤ i.toInt ∧ i.toInt ≤ 400 ∧ i.toInt ≤ (p : Int) → (upnL len 400 tg k i pl).1.toInt = tX tg len (skR (tX tg len) p) ∧ (upnL len 400 tg k i pl).2.toInt = (skR (tX tg len) p : Int) := by
  have e4 : (400 : Int32).toInt = 400 := rfl
  have e32 : (32 : Int32).toInt = 32 := rfl
  have hln := tX_ln (g := tg) hl
  intro k
  induction k with
  | zero => intro i pl p h1 h2 h3 h4; exfalso; omega
  | succ k ih =>
    intro i pl p h1 h2 h3 h4
    have ht := tAt_tX (tg := tg) hl h1
    unfold upnL
    by_cases c1 : 400 ≤ i
    · rw [if_pos c1]
      rw [fl_le, e4] at c1
      rw [skR_no (by rw [tX_out (by omega)]; decide)]
      exact ⟨ht, h1⟩
    · rw [if_neg c1]
      rw [fl_le, e4] at c1
      by_cases c2 : tAt len 400 tg pl = 32
      · rw [if_pos c2]
        rw [c2, e32] at ht
        have hp : (p : Int) < len.toInt := by
          by_cases c : (p : Int) < len.toInt
          · exact c
          · rw [tX_out c] at ht; omega
        rw [skR_st hln ht.symm]
        have q1 := T_add h1 (show (1 : Int32).toInt = 1 from rfl) (by omega)
        have q2 := T_add (rfl : i.toInt = i.toInt) (show (1 : Int32).toInt = 1 from rfl) (by omega)
        exact ih (i + 1) (pl + 1) (p + 1) (by omega) (by omega) (by omega) (by omega)
      · rw [if_neg c2]
        have c3 : tX tg len p ≠ 32 := by
          rw [← ht]
          intro e
          exact c2 (Int32.toInt_inj.mp (by rw [e, e32]))
        rw [skR_no c3]
        exact ⟨ht, h1⟩
theorem upnF_sk {len : Int32} {tg : Nat → Int32} {pl : Int32} {p : Nat} (hl : 0 ≤ len.toInt ∧ len.toInt ≤ 400) (hp : pl.toInt = p) (h8 : p ≤ 800) : (upnF len 400 tg pl).1.toInt = tX tg len (skR (tX tg len) p) ∧ (upnF len 400 tg pl).2.toInt = (skR (tX tg len) p : Int) :=
  upnL_sk hl 401 0 pl p hp h8 (by decide) ⟨by decide, by decide, by show (0 : Int) ≤ _; omega⟩
/-- what one reading comes to: r the answer, q the place, fa the FAULT -/
def exS (t : Sum Nat Nat) (r q fa : Int32) : Prop := match t with
  | .inl c => r = 0 ∧ fa.toInt = c
  | .inr p => r = 1 ∧ q.toInt = p ∧ fa = 0
theorem fai_0 {a k : Int32} {p : Nat} {c : Int} (ha : a.toInt = p) (hp : p ≤ 800) (hk : k.toInt = c) (hc : 0 ≤ c ∧ c ≤ 4) : (faiF 0 a k).2.toInt = 1 + 8 * (p : Int) + c := by
  unfold faiF
  rw [if_pos rfl]
  have q1 := T_mul (show (8 : Int32).toInt = 8 from rfl) ha (by omega)
  have q2 := T_add (show (1 : Int32).toInt = 1 from rfl) q1 (by omega)
  have q3 := T_add q2 hk (by omega)
  exact q3
theorem rsg_tk {len : Int32} {tg : Nat → Int32} {pl sg : Int32} {p : Nat} (hl : 0 ≤ len.toInt ∧ len.toInt ≤ 400) (hp : pl.toInt = p) (h4 : (p : Int) ≤ len.toInt) : exS (tkR (tX tg len) p sg.toInt) (rsgF len 400 tg pl 0 sg).1 (rsgF len 400 tg pl 0 sg).2.1 (rsgF len 400 tg pl 0 sg).2.2 := by
  obtain ⟨u1, u2⟩ := upnF_sk (tg := tg) hl hp (by omega)
  have hs := skR_le (tX_ln (g := tg) hl) (p := p) (by omega)
  show exS _ (if (upnF len 400 tg pl).1 = sg then _ else _ : Int32 × Int32 × Int32).1 (if (upnF len 400 tg pl).1 = sg then _ else _ : Int32 × Int32 × Int32).2.1 (if (upnF len 400 tg pl).1 = sg then _ else _ : Int32 × Int32 × Int32).2.2
  unfold tkR
  by_cases c : (upnF len 400 tg pl).1 = sg
  · rw [if_pos c, if_pos (by rw [← u1, c])]
    exact ⟨rfl, T_add u2 (show (1 : Int32).toInt = 1 from rfl) (by omega), rfl⟩
  · rw [if_neg c, if_neg (by rw [← u1]; intro e; exact c (Int32.toInt_inj.mp e))]
    refine ⟨rfl, ?_⟩
    have q := fai_0 (k := 0) (c := 0) u2 (by omega) rfl (by omega)
    rw [show (lett (faiF 0 (upnF len 400 tg pl).2 0) fun x2 => (x2.1, (upnF len 400 tg pl).2, x2.2)).2.2 = (faiF 0 (upnF len 400 tg pl).2 0).2 from rfl, q]
    omega