/-! the WAYS: class and reference -/
def woC (wz : Int32) (weg stg : Nat → Int32) (n : Nat → Int32) (F : Nat → Nat → Int32) : Prop := wz = n 53 ∧ (∀ y : Nat, (y : Int) < wz.toInt → F 54 y = weg y) ∧ (∀ k, k < 18 → F 55 k = stg k) ∧ (∀ y, y < 3 → 0 ≤ (F 54 y).toInt ∧ (F 54 y).toInt ≤ 4) ∧ ∀ k, k < 18 → -99 ≤ (stg k).toInt ∧ (stg k).toInt ≤ 99
theorem woC_cg {wz : Int32} {weg stg : Nat → Int32} {n n2 : Nat → Int32} {F F2 : Nat → Nat → Int32} (h : woC wz weg stg n F) (h1 : n2 53 = n 53) (h2 : F2 54 = F 54) (h3 : F2 55 = F 55) : woC wz weg stg n2 F2 := by
  unfold woC at *
  rw [h1, h2, h3]; exact h
def mkE (wz : Int32) (weg stg : Nat → Int32) (y u : Int32) : We := (fun q i => stg (6 * q + i), fun q => (weg q).toInt64, wz.toInt.toNat, fun k => Int64.ofInt (awI weg wz.toInt.toNat ^ k), u.toInt, y.toInt.toNat)
theorem awI_cg {g g2 : Nat → Int32} : ∀ {k : Nat}, (∀ y, y < k → g2 y = g y) → awI g2 k = awI g k := by
  intro k
  induction k with
  | zero => intro _; rfl
  | succ k ih =>
    intro h
    show awI g2 k + (g2 k).toInt = awI g k + (g k).toInt
    rw [ih (fun y hy => h y (by omega)), h k (by omega)]
theorem pw2_eq {x : Int32} {al : Int64} {a : Int} (hal : al = Int64.ofInt a) (hx : 0 ≤ x.toInt ∧ x.toInt ≤ 4) : ∀ (k : Nat) (i : Int32) (pw : Int64), 0 ≤ i.toInt ∧ i.toInt ≤ x.toInt → x.toInt - i.toInt < (k : Int) → pw = Int64.ofInt (a ^ i.toInt.toNat) → pwr2L x al k i pw = Int64.ofInt (a ^ x.toInt.toNat) := by
  have e4 : (4 : Int32).toInt = 4 := rfl
  intro k
  induction k with
  | zero => intro i pw h1 h2; omega
  | succ k ih =>
    intro i pw h1 h2 h3
    unfold pwr2L
    by_cases c : x ≤ i
    · rw [if_pos c]
      rw [fl_le] at c
      rw [h3, show i.toInt.toNat = x.toInt.toNat by omega]
    · rw [if_neg c]
      rw [fl_le] at c
      rw [if_neg (by rw [fl_le, e4]; omega)]
      have hi := T_add (rfl : i.toInt = i.toInt) (show (1 : Int32).toInt = 1 from rfl) (by omega)
      exact ih (i + 1) (pw * al) (by omega) (by omega) (by rw [h3, hal, show (i + 1).toInt.toNat = i.toInt.toNat + 1 by omega, Int.pow_succ, Int64.ofInt_mul])
theorem wgo_at {weg : Nat → Int32} {x : Int32} (h : 0 ≤ x.toInt ∧ x.toInt ≤ 2) : wgoF weg x = (weg x.toInt.toNat).toInt64 := by
  have e0 : (0 : Int32).toInt = 0 := rfl
  have e3 : (3 : Int32).toInt = 3 := rfl
  unfold wgoF
  rw [if_neg (by rw [fl_lt, e0]; omega), if_neg (by rw [fl_le, e3]; omega), clN]
theorem pw1_eq {weg : Nat → Int32} {sz x : Int32} (hz : 1 ≤ sz.toInt ∧ sz.toInt ≤ 3) (hx : 0 ≤ x.toInt ∧ x.toInt ≤ 4) : ∀ (k : Nat) (i : Int32) (al : Int64), 0 ≤ i.toInt ∧ i.toInt ≤ sz.toInt → sz.toInt - i.toInt < (k : Int) → al = Int64.ofInt (awI weg i.toInt.toNat) → pwr1L weg sz x k i al = Int64.ofInt (awI weg sz.toInt.toNat ^ x.toInt.toNat) := by
  intro k
  induction k with
  | zero => intro i al h1 h2; omega
  | succ k ih =>
    intro i al h1 h2 h3
    unfold pwr1L
    by_cases c : sz ≤ i
    · rw [if_pos c]
      rw [fl_le] at c
      have e : i.toInt.toNat = sz.toInt.toNat := by omega
      rw [e] at h3
      exact pw2_eq h3 hx 5 0 1 ⟨by decide, by have e0 : (0 : Int32).toInt = 0 := rfl; omega⟩ (by have e0 : (0 : Int32).toInt = 0 := rfl; omega) (by rw [show (0 : Int32).toInt.toNat = 0 from rfl, Int.pow_zero]; rfl)
    · rw [if_neg c]
      rw [fl_le] at c
      have hi := T_add (rfl : i.toInt = i.toInt) (show (1 : Int32).toInt = 1 from rfl) (by omega)
      refine ih (i + 1) (al + wgoF weg i) (by omega) (by omega) ?_
      rw [h3, wgo_at ⟨h1.1, by omega⟩, show (i + 1).toInt.toNat = i.toInt.toNat + 1 by omega, L_of (rfl : (weg i.toInt.toNat).toInt = _), ← Int64.ofInt_add]
      rfl
theorem mk_eB {wz : Int32} {weg stg : Nat → Int32} {y u : Int32} {n : Nat → Int32} {F : Nat → Nat → Int32} (h : woC wz weg stg n F) : eB (mkE wz weg stg y u) := fun q i hq hi => h.2.2.2.2 (6 * q + i) (by omega)
theorem mk_pw {wz : Int32} {weg stg : Nat → Int32} {y u x : Int32} (hz : 1 ≤ wz.toInt ∧ wz.toInt ≤ 3) (hx : 0 ≤ x.toInt ∧ x.toInt ≤ 4) : pwrF weg wz x = (mkE wz weg stg y u).2.2.2.1 x.toInt.toNat := pw1_eq hz hx 4 0 0 ⟨by decide, by have e0 : (0 : Int32).toInt = 0 := rfl; omega⟩ (by have e0 : (0 : Int32).toInt = 0 := rfl; omega) rfl
theorem mk_eE {wz : Int32} {weg stg : Nat → Int32} {y u : Int32} {n : Nat → Int32} {F : Nat → Nat → Int32} (h : woC wz weg stg n F) (hz : 1 ≤ wz.toInt ∧ wz.toInt ≤ 3) (hy : 1 ≤ y.toInt ∧ y.toInt ≤ 4) : eE wz y u weg stg (mkE wz weg stg y u) :=
  ⟨⟨by show wz.toInt = ((wz.toInt.toNat : Nat) : Int); omega, by show 1 ≤ wz.toInt.toNat; omega, by show wz.toInt.toNat ≤ 3; omega⟩, ⟨by show y.toInt = ((y.toInt.toNat : Nat) : Int); omega, by show y.toInt.toNat ≤ 4; omega⟩, rfl, ⟨fun _ _ _ _ => rfl, mk_eB h⟩, fun x hx => wgo_at hx, fun x hx => mk_pw hz hx⟩
theorem mk_eR {wz : Int32} {weg stg : Nat → Int32} {y u : Int32} {n : Nat → Int32} {F : Nat → Nat → Int32} (h : woC wz weg stg n F) (hz : 1 ≤ wz.toInt ∧ wz.toInt ≤ 3) : eR (mkE wz weg stg y u) n F :=
  ⟨⟨by rw [← h.1]; show wz.toInt = ((wz.toInt.toNat : Nat) : Int); omega, by show 1 ≤ wz.toInt.toNat; omega, by show wz.toInt.toNat ≤ 3; omega⟩, fun q i hq hi => h.2.2.1 (6 * q + i) (by omega), h.2.2.2.1, fun q hq => by have hq : q < wz.toInt.toNat := hq; rw [h.2.1 q (by omega)]; rfl, fun k hk => by
    show Int64.ofInt (awI weg wz.toInt.toNat ^ k) = Int64.ofInt (awI (F 54) wz.toInt.toNat ^ k)
    rw [awI_cg (g := weg) (g2 := F 54) (k := wz.toInt.toNat) (fun q hq => h.2.1 q (by omega))]⟩
/-- what was told is at most 9999 -/
def tdU (g : Nat → Int32) : Prop := ∀ i d : Nat, i < 6 → d < 400 → (g (400 * i + d)).toInt ≤ 9999
theorem thN_b {g : Nat → Int32} {i : Nat} (h : tdU g) (hi : i < 6) : ∀ {d : Nat}, d ≤ 400 → -9999 ≤ (thN g i d).toInt ∧ (thN g i d).toInt ≤ 9999 := by
  intro d
  induction d with
  | zero => intro _; show -9999 ≤ (0 : Int32).toInt ∧ (0 : Int32).toInt ≤ 9999; decide
  | succ d ih =>
    intro hd
    have q := h i d hi (by omega)
    show -9999 ≤ (if -10000 < (g (400 * i + d)).toInt then g (400 * i + d) else thN g i d).toInt ∧ _
    by_cases c : -10000 < (g (400 * i + d)).toInt
    · rw [if_pos c]; exact ⟨by omega, by show (if -10000 < (g (400 * i + d)).toInt then g (400 * i + d) else thN g i d).toInt ≤ 9999; rw [if_pos c]; omega⟩
    · rw [if_neg c]; have p := ih (by omega); exact ⟨p.1, by show (if -10000 < (g (400 * i + d)).toInt then g (400 * i + d) else thN g i d).toInt ≤ 9999; rw [if_neg c]; exact p.2⟩
theorem sNow_ok {g : Nat → Int32} {da : Int32} (h : tdU g) (hd : 0 ≤ da.toInt ∧ da.toInt ≤ 399) : sOk 0 (sNow da g) := by
  refine ⟨by show 0 ≤ da.toInt ∧ da.toInt ≤ 399 + ((0 : Nat) : Int); omega, fun i hi => ?_⟩
  have q := thN_b (d := (da.toInt + 1).toNat) h hi (by omega)
  show -9999 - 99 * ((0 : Nat) : Int) ≤ (thN g i (da.toInt + 1).toNat).toInt ∧ (thN g i (da.toInt + 1).toNat).toInt ≤ 9999 + 99 * ((0 : Nat) : Int)
  omega
theorem see_U {g : Nat → Int32} {da x y u : Int32} (hd : da.toInt ≤ 399) (h : tdU g) : tdU (if ((0 ≤ x.toInt ∧ x.toInt ≤ 5) ∧ (0 ≤ y.toInt ∧ y.toInt ≤ da.toInt) ∧ (-9999 ≤ u.toInt ∧ u.toInt ≤ 9999)) then upd g (Int32.toNatClampNeg ((400 * x) + y)) u else g) := by
  by_cases V : ((0 ≤ x.toInt ∧ x.toInt ≤ 5) ∧ (0 ≤ y.toInt ∧ y.toInt ≤ da.toInt) ∧ (-9999 ≤ u.toInt ∧ u.toInt ≤ 9999))
  · rw [if_pos V]
    intro i d hi hd2
    rw [updE]
    by_cases c : 400 * i + d = Int32.toNatClampNeg ((400 * x) + y)
    · rw [if_pos c]; exact V.2.2.2
    · rw [if_neg c]; exact h i d hi hd2
  · rw [if_neg V]; exact h
/-- the class's weight, adds, ways -/
theorem wgt_wo {wz x y : Int32} {weg stg : Nat → Int32} {n n2 : Nat → Int32} {F F2 : Nat → Nat → Int32} (h : woC wz weg stg n F) (hw : 1 ≤ wz.toInt ∧ wz.toInt ≤ 3) (h1 : n2 53 = n 53) (h2 : F2 54 = if (0 ≤ x.toInt ∧ x.toInt < (n 53).toInt) ∧ (1 ≤ y.toInt ∧ y.toInt ≤ 4) then upd (F 54) (Int32.toNatClampNeg x) y else F 54) (h3 : F2 55 = F 55) : woC wz (xwgtF weg wz x y).2 stg n2 F2 := by
  have e0 : (0 : Int32).toInt = 0 := rfl
  have e1 : (1 : Int32).toInt = 1 := rfl
  have e3 : (3 : Int32).toInt = 3 := rfl
  have e4 : (4 : Int32).toInt = 4 := rfl
  have e : (xwgtF weg wz x y).2 = if (0 ≤ x.toInt ∧ x.toInt < (n 53).toInt) ∧ (1 ≤ y.toInt ∧ y.toInt ≤ 4) then upd weg (Int32.toNatClampNeg x) y else weg := by
    rw [← h.1]
    show (wghF weg wz x y).2 = _
    unfold wghF
    simp only [fl_lt, fl_le, e0, e1, e3, e4]
    repeat' split
    all_goals first | rfl | (exfalso; omega)
  rw [e]
  obtain ⟨a1, a2, a3, a4, a5⟩ := h
  refine ⟨by rw [h1]; exact a1, fun q hq => ?_, fun k hk => by rw [h3]; exact a3 k hk, fun q hq => ?_, a5⟩
  · rw [h2]
    split
    · rw [updE, updE, a2 q hq]
    · exact a2 q hq
  · rw [h2]
    split
    · rw [updE]
      split
      · omega
      · exact a4 q hq
    · exact a4 q hq
theorem add_wo {wz x y u : Int32} {weg stg : Nat → Int32} {n n2 : Nat → Int32} {F F2 : Nat → Nat → Int32} (h : woC wz weg stg n F) (hw : 1 ≤ wz.toInt ∧ wz.toInt ≤ 3) (h1 : n2 53 = n 53) (h2 : F2 55 = if (0 ≤ x.toInt ∧ x.toInt < (n 53).toInt) ∧ (0 ≤ y.toInt ∧ y.toInt ≤ 5) ∧ (-99 ≤ u.toInt ∧ u.toInt ≤ 99) then upd (F 55) (Int32.toNatClampNeg ((6 * x) + y)) u else F 55) (h3 : F2 54 = F 54) : woC wz weg (xaddF stg wz x y u).2 n2 F2 := by
  have e0 : (0 : Int32).toInt = 0 := rfl
  have e3 : (3 : Int32).toInt = 3 := rfl
  have e6 : (6 : Int32).toInt = 6 := rfl
  have e9 : (99 : Int32).toInt = 99 := rfl
  have em : (-99 : Int32).toInt = -99 := rfl
  have e : (xaddF stg wz x y u).2 = if (0 ≤ x.toInt ∧ x.toInt < (n 53).toInt) ∧ (0 ≤ y.toInt ∧ y.toInt ≤ 5) ∧ (-99 ≤ u.toInt ∧ u.toInt ≤ 99) then upd stg (Int32.toNatClampNeg ((6 * x) + y)) u else stg := by
    rw [← h.1]
    show (shfF stg wz x y u).2 = _
    unfold shfF
    rw [Int32.mul_comm x 6]
    simp only [fl_lt, fl_le, e0, e3, e6, e9, em]
    repeat' split
    all_goals first | rfl | (exfalso; omega)
  rw [e]
  obtain ⟨a1, a2, a3, a4, a5⟩ := h
  refine ⟨by rw [h1]; exact a1, fun q hq => by rw [h3]; exact a2 q hq, fun k hk => ?_, fun q hq => by rw [h3]; exact a4 q hq, fun k hk => ?_⟩
  · rw [h2]
    split
    · rw [updE, updE, a3 k hk]
    · exact a3 k hk
  · split
    · rw [updE]
      split
      · omega
      · exact a5 k hk
    · exact a5 k hk
theorem rnw2_at : ∀ (k : Nat) (i : Int32) (g : Nat → Int32), 0 ≤ i.toInt ∧ i.toInt ≤ 18 → 18 - i.toInt < (k : Int) → ∀ j, rnw2L k i g j = if i.toInt ≤ (j : Int) ∧ j < 18 then 0 else g j := by
  have e8 : (18 : Int32).toInt = 18 := rfl
  intro k
  induction k with
  | zero => intro i g h1 h2; omega
  | succ k ih =>
    intro i g h1 h2 j
    unfold rnw2L
    by_cases c : 18 ≤ i
    · rw [if_pos c]
      rw [fl_le, e8] at c
      rw [if_neg (by omega)]
    · rw [if_neg c]
      rw [fl_le, e8] at c
      have hx := T_add (rfl : i.toInt = i.toInt) (show (1 : Int32).toInt = 1 from rfl) (by omega)
      rw [ih (i + 1) _ (by omega) (by omega), updE, clN]
      by_cases cj : j = i.toInt.toNat
      · rw [if_neg (by omega), if_pos cj, if_pos (by omega)]
      · rw [if_neg cj]
        by_cases c2 : i.toInt ≤ (j : Int) ∧ j < 18
        · rw [if_pos c2, if_pos (by omega)]
        · rw [if_neg c2, if_neg (by omega)]
theorem rnw1_at : ∀ (k : Nat) (i : Int32) (w g : Nat → Int32), 0 ≤ i.toInt ∧ i.toInt ≤ 3 → 3 - i.toInt < (k : Int) → (∀ j, (rnw1L k i w g).1 j = if i.toInt ≤ (j : Int) ∧ j < 3 then 1 else w j) ∧ (rnw1L k i w g).2 = rnw2L 19 0 g := by
  have e3 : (3 : Int32).toInt = 3 := rfl
  intro k
  induction k with
  | zero => intro i w g h1 h2; omega
  | succ k ih =>
    intro i w g h1 h2
    unfold rnw1L
    by_cases c : 3 ≤ i
    · rw [if_pos c]
      rw [fl_le, e3] at c
      exact ⟨fun j => by rw [if_neg (by omega)], rfl⟩
    · rw [if_neg c]
      rw [fl_le, e3] at c
      have hx := T_add (rfl : i.toInt = i.toInt) (show (1 : Int32).toInt = 1 from rfl) (by omega)
      obtain ⟨q1, q2⟩ := ih (i + 1) (upd w (Int32.toNatClampNeg i) 1) g (by omega) (by omega)
      refine ⟨fun j => ?_, q2⟩
      rw [q1, updE, clN]
      by_cases cj : j = i.toInt.toNat
      · rw [if_neg (by omega), if_pos cj, if_pos (by omega)]
      · rw [if_neg cj]
        by_cases c2 : i.toInt ≤ (j : Int) ∧ j < 3
        · rw [if_pos c2, if_pos (by omega)]
        · rw [if_neg c2, if_neg (by omega)]
theorem way_wo {wz wz2 x : Int32} {weg stg weg2 stg2 : Nat → Int32} {n n2 : Nat → Int32} {F F2 : Nat → Nat → Int32} (h : woC wz weg stg n F) (hc : wz2 = if 1 ≤ x.toInt ∧ x.toInt ≤ 3 then x else wz) (hr : n2 53 = if 1 ≤ x.toInt ∧ x.toInt ≤ 3 then x else n 53) (hw : (1 ≤ x.toInt ∧ x.toInt ≤ 3 → weg2 = (rnw1L 4 0 weg stg).1 ∧ stg2 = (rnw1L 4 0 weg stg).2) ∧ (¬ (1 ≤ x.toInt ∧ x.toInt ≤ 3) → weg2 = weg ∧ stg2 = stg)) (hF : (1 ≤ x.toInt ∧ x.toInt ≤ 3 → (∀ y, y < 3 → F2 54 y = 1) ∧ ∀ k, k < 18 → F2 55 k = 0) ∧ (¬ (1 ≤ x.toInt ∧ x.toInt ≤ 3) → F2 54 = F 54 ∧ F2 55 = F 55)) : woC wz2 weg2 stg2 n2 F2 := by
  have e0 : (0 : Int32).toInt = 0 := rfl
  by_cases c : 1 ≤ x.toInt ∧ x.toInt ≤ 3
  · rw [if_pos c] at hc hr
    obtain ⟨w1, w2⟩ := hw.1 c
    obtain ⟨f1, f2⟩ := hF.1 c
    obtain ⟨q1, q2⟩ := rnw1_at 4 0 weg stg ⟨by decide, by decide⟩ (by decide)
    have q3 := rnw2_at 19 0 stg ⟨by decide, by decide⟩ (by decide)
    have g1 : ∀ y, y < 3 → weg2 y = 1 := fun y hy => by rw [w1, q1, if_pos (by omega)]
    have g2 : ∀ k, k < 18 → stg2 k = 0 := fun k hk => by rw [w2, q2, q3, if_pos (by omega)]
    exact ⟨by rw [hc, hr], fun y hy => by rw [hc] at hy; rw [f1 y (by omega), g1 y (by omega)], fun k hk => by rw [f2 k hk, g2 k hk], fun y hy => by rw [f1 y hy]; decide, fun k hk => by rw [g2 k hk]; decide⟩
  · rw [if_neg c] at hc hr
    obtain ⟨w1, w2⟩ := hw.2 c
    obtain ⟨f1, f2⟩ := hF.2 c
    rw [w1, w2, hc]
    exact woC_cg h hr f1 f2

set_option maxHeartbeats 4000000 in
set_option maxRecDepth 100000 in
theorem i_X11_weightE {l : Launch} {D : va_G} {cy : Nat → ClassId} {b : Nat} {f : gMem} {own : Nat → Nat} {xo : Nat} {da : Int32} {fcn : Int32} {csz : Int32} {sz : Int32} {len : Int32} {ln : Int32} {wz : Int32} {lo : Int32} {tg : Nat → Int32} {weg : Nat → Int32} {stg : Nat → Int32} {tpg : Nat → Int32} {CN : Nat → Int32 → Int32 → (Nat → Int32) → (Nat → Int32) → Prop} {eg : Nat → Int32} {thg : Nat → Int32} {LN : Nat → Nat → Int32 → Int32 → Int32 → Int32 → Int64 → (Nat → Int32) → (Nat → Int32) → Prop} {ne : Nat} {x y : Int32} (hI : xI cy own xo da fcn csz sz len ln wz lo tg weg stg tpg CN eg thg LN ne f)  : gC l D cy b yX11_weight cX11_weight 3 (some .boolean) 1 0 0 [.ref xo, .int x, .int y] f (pI fun r f2 => r = (xwgtF weg wz x y).1 ∧ ∃ (weg2 : Nat → Int32) , weg2 = (xwgtF weg wz x y).2 ∧ xI cy own xo da fcn csz sz len ln wz lo tg weg2 stg tpg CN eg thg LN ne f2 ∧ kp0 own own f f2) := by
  obtain ⟨ch, sc, tp, ou, fm, dr, dt_, rd, te, la, lg, co, wo, fmg, lvg, HcXo, HcCh, HcTp, HcOu, HcFa, HcFm, HcDr, HcOt, HcRt, HcLa, HcLg, HcCo, HcLv, HcWo, HcFn, HcLn⟩ := id hI
  obtain ⟨og_xo, hxo, mcXo⟩ := id HcXo
  obtain ⟨we, stp, pa, ba, po, ah, gl, bag, pg, P, Q, ⟨⟨og_wo, og_we, og_stp, og_pa, og_ba⟩, hwo, hwe, hstp, hpa, hba, mcWo⟩, HcPa⟩ := id HcWo
  refine gC_mono (k_X11_weight hxo hwo hwe) ?_
  rintro r f2 ⟨v9, rfl, hr, hwe2, hfr⟩
  have hK : kp own own (fun k => k = 11001) f f2 := by
    refine kp_fr (S := [we]) (hfr) (fun _ _ _ => rfl) ?_
    intro x0 hx0
    simp only [List.mem_cons, List.not_mem_nil, or_false] at hx0
    have e0 := hx0
    rw [e0]; exact og_we
  exact ⟨v9, rfl, hr, _, rfl, ⟨_, _, _, _, _, _, _, _, _, _, _, _, _, _, _, (cXo_kp HcXo hK nt_48), (kCh_kp HcCh hK nt_49), (kTp_kp HcTp hK nt_50), (kOu_kp HcOu hK nt_51), (cFa_kp HcFa hK nt_52), (cFm_kp HcFm hK nt_53), (kDr_kp HcDr hK nt_54), (kOt_kp HcOt hK nt_55), (kRt_kp HcRt hK nt_56), (kLa_kp HcLa hK nt_57), (kLg_kp HcLg hK nt_58), (kCo_kp HcCo hK nt_59), (cLv_kp HcLv hK nt_60), ⟨_, _, _, _, _, _, _, _, _, _, _, ⟨⟨og_wo, og_we, og_stp, og_pa, og_ba⟩, (hK.2 _ _ hwo (by show ¬ ((own wo) = 11001); rw [og_wo]; exact nt_61 _ ⟨Nat.le_refl _, Nat.lt_succ_self _⟩)), hwe2, (hK.2 _ _ hstp (by show ¬ ((own stp) = 11001); rw [og_stp]; exact nt_62 _ ⟨Nat.le_refl _, Nat.lt_succ_self _⟩)), (hK.2 _ _ hpa (by show ¬ ((own pa) = 11001); rw [og_pa]; exact nt_63 _ ⟨Nat.le_refl _, Nat.lt_succ_self _⟩)), (hK.2 _ _ hba (by show ¬ ((own ba) = 11001); rw [og_ba]; exact nt_64 _ ⟨Nat.le_refl _, Nat.lt_succ_self _⟩)), mcWo⟩, (cPa_kp HcPa hK nt_65)⟩, HcFn, HcLn⟩, (kp_0 hK (nt_66 0 ⟨Nat.le_refl _, Nat.lt_succ_self _⟩))⟩

set_option maxHeartbeats 4000000 in
set_option maxRecDepth 100000 in
theorem i_X11_addsE {l : Launch} {D : va_G} {cy : Nat → ClassId} {b : Nat} {f : gMem} {own : Nat → Nat} {xo : Nat} {da : Int32} {fcn : Int32} {csz : Int32} {sz : Int32} {len : Int32} {ln : Int32} {wz : Int32} {lo : Int32} {tg : Nat → Int32} {weg : Nat → Int32} {stg : Nat → Int32} {tpg : Nat → Int32} {CN : Nat → Int32 → Int32 → (Nat → Int32) → (Nat → Int32) → Prop} {eg : Nat → Int32} {thg : Nat → Int32} {LN : Nat → Nat → Int32 → Int32 → Int32 → Int32 → Int64 → (Nat → Int32) → (Nat → Int32) → Prop} {ne : Nat} {x y u : Int32} (hI : xI cy own xo da fcn csz sz len ln wz lo tg weg stg tpg CN eg thg LN ne f)  : gC l D cy b yX11_adds cX11_adds 4 (some .boolean) 1 0 0 [.ref xo, .int x, .int y, .int u] f (pI fun r f2 => r = (xaddF stg wz x y u).1 ∧ ∃ (stg2 : Nat → Int32) , stg2 = (xaddF stg wz x y u).2 ∧ xI cy own xo da fcn csz sz len ln wz lo tg weg stg2 tpg CN eg thg LN ne f2 ∧ kp0 own own f f2) := by
  obtain ⟨ch, sc, tp, ou, fm, dr, dt_, rd, te, la, lg, co, wo, fmg, lvg, HcXo, HcCh, HcTp, HcOu, HcFa, HcFm, HcDr, HcOt, HcRt, HcLa, HcLg, HcCo, HcLv, HcWo, HcFn, HcLn⟩ := id hI
  obtain ⟨og_xo, hxo, mcXo⟩ := id HcXo
  obtain ⟨we, stp, pa, ba, po, ah, gl, bag, pg, P, Q, ⟨⟨og_wo, og_we, og_stp, og_pa, og_ba⟩, hwo, hwe, hstp, hpa, hba, mcWo⟩, HcPa⟩ := id HcWo
  refine gC_mono (k_X11_adds hxo hwo hstp) ?_
  rintro r f2 ⟨v9, rfl, hr, hst2, hfr⟩
  have hK : kp own own (fun k => k = 11002) f f2 := by
    refine kp_fr (S := [stp]) (hfr) (fun _ _ _ => rfl) ?_
    intro x0 hx0
    simp only [List.mem_cons, List.not_mem_nil, or_false] at hx0
    have e0 := hx0
    rw [e0]; exact og_stp
  exact ⟨v9, rfl, hr, _, rfl, ⟨_, _, _, _, _, _, _, _, _, _, _, _, _, _, _, (cXo_kp HcXo hK nt_67), (kCh_kp HcCh hK nt_68), (kTp_kp HcTp hK nt_69), (kOu_kp HcOu hK nt_70), (cFa_kp HcFa hK nt_71), (cFm_kp HcFm hK nt_72), (kDr_kp HcDr hK nt_73), (kOt_kp HcOt hK nt_74), (kRt_kp HcRt hK nt_75), (kLa_kp HcLa hK nt_76), (kLg_kp HcLg hK nt_77), (kCo_kp HcCo hK nt_78), (cLv_kp HcLv hK nt_79), ⟨_, _, _, _, _, _, _, _, _, _, _, ⟨⟨og_wo, og_we, og_stp, og_pa, og_ba⟩, (hK.2 _ _ hwo (by show ¬ ((own wo) = 11002); rw [og_wo]; exact nt_80 _ ⟨Nat.le_refl _, Nat.lt_succ_self _⟩)), (hK.2 _ _ hwe (by show ¬ ((own we) = 11002); rw [og_we]; exact nt_81 _ ⟨Nat.le_refl _, Nat.lt_succ_self _⟩)), hst2, (hK.2 _ _ hpa (by show ¬ ((own pa) = 11002); rw [og_pa]; exact nt_82 _ ⟨Nat.le_refl _, Nat.lt_succ_self _⟩)), (hK.2 _ _ hba (by show ¬ ((own ba) = 11002); rw [og_ba]; exact nt_83 _ ⟨Nat.le_refl _, Nat.lt_succ_self _⟩)), mcWo⟩, (cPa_kp HcPa hK nt_84)⟩, HcFn, HcLn⟩, (kp_0 hK (nt_85 0 ⟨Nat.le_refl _, Nat.lt_succ_self _⟩))⟩

set_option maxHeartbeats 4000000 in
set_option maxRecDepth 100000 in
theorem i_X11_waysE {l : Launch} {D : va_G} {cy : Nat → ClassId} {b : Nat} {f : gMem} {own : Nat → Nat} {xo : Nat} {da : Int32} {fcn : Int32} {csz : Int32} {sz : Int32} {len : Int32} {ln : Int32} {wz : Int32} {lo : Int32} {tg : Nat → Int32} {weg : Nat → Int32} {stg : Nat → Int32} {tpg : Nat → Int32} {CN : Nat → Int32 → Int32 → (Nat → Int32) → (Nat → Int32) → Prop} {eg : Nat → Int32} {thg : Nat → Int32} {LN : Nat → Nat → Int32 → Int32 → Int32 → Int32 → Int64 → (Nat → Int32) → (Nat → Int32) → Prop} {ne : Nat} {x : Int32} (hI : xI cy own xo da fcn csz sz len ln wz lo tg weg stg tpg CN eg thg LN ne f)  : gC l D cy b yX11_ways cX11_ways 2 (some .boolean) 1 0 0 [.ref xo, .int x] f (pI fun r f2 => (r = if 1 ≤ x.toInt ∧ x.toInt ≤ 3 then 1 else 0) ∧ ∃ (wz2 : Int32) (weg2 : Nat → Int32) (stg2 : Nat → Int32) , (wz2 = if 1 ≤ x.toInt ∧ x.toInt ≤ 3 then x else wz) ∧ ((1 ≤ x.toInt ∧ x.toInt ≤ 3 → weg2 = (rnw1L 4 0 weg stg).1 ∧ stg2 = (rnw1L 4 0 weg stg).2) ∧ (¬ (1 ≤ x.toInt ∧ x.toInt ≤ 3) → weg2 = weg ∧ stg2 = stg)) ∧ xI cy own xo da fcn csz sz len ln wz2 lo tg weg2 stg2 tpg CN eg thg LN ne f2 ∧ kp0 own own f f2) := by
  obtain ⟨ch, sc, tp, ou, fm, dr, dt_, rd, te, la, lg, co, wo, fmg, lvg, HcXo, HcCh, HcTp, HcOu, HcFa, HcFm, HcDr, HcOt, HcRt, HcLa, HcLg, HcCo, HcLv, HcWo, HcFn, HcLn⟩ := id hI
  obtain ⟨og_xo, hxo, mcXo⟩ := id HcXo
  obtain ⟨we, stp, pa, ba, po, ah, gl, bag, pg, P, Q, ⟨⟨og_wo, og_we, og_stp, og_pa, og_ba⟩, hwo, hwe, hstp, hpa, hba, mcWo⟩, HcPa⟩ := id HcWo
  by_cases hx : 1 ≤ x.toInt ∧ x.toInt ≤ 3
  · refine gC_mono (k_X11_waysY hxo hwo hwe hstp (tgn og_we og_stp (by decide)) hx) ?_
    rintro r f2 ⟨v9, rfl, hr, hwo2, hwe2, hst2, hfr⟩
    have hK : kp own own (fun k => k = 11000 ∨ k = 11001 ∨ k = 11002) f f2 := by
      refine kp_fr (S := [wo, we, stp]) (hfr) (fun _ _ _ => rfl) ?_
      intro x0 hx0
      simp only [List.mem_cons, List.not_mem_nil, or_false] at hx0
      rcases hx0 with e0 | e0 | e0
      · rw [e0]; show (own wo) = 11000 ∨ (own wo) = 11001 ∨ (own wo) = 11002; rw [og_wo]; decide
      · rw [e0]; show (own we) = 11000 ∨ (own we) = 11001 ∨ (own we) = 11002; rw [og_we]; decide
      · rw [e0]; show (own stp) = 11000 ∨ (own stp) = 11001 ∨ (own stp) = 11002; rw [og_stp]; decide
    exact ⟨v9, rfl, (by rw [if_pos hx]; exact hr), _, _, _, (by rw [if_pos hx]), ⟨fun _ => ⟨rfl, rfl⟩, fun z => absurd hx z⟩, ⟨_, _, _, _, _, _, _, _, _, _, _, _, _, _, _, (cXo_kp HcXo hK nt_102), (kCh_kp HcCh hK nt_103), (kTp_kp HcTp hK nt_104), (kOu_kp HcOu hK nt_105), (cFa_kp HcFa hK nt_106), (cFm_kp HcFm hK nt_107), (kDr_kp HcDr hK nt_108), (kOt_kp HcOt hK nt_109), (kRt_kp HcRt hK nt_110), (kLa_kp HcLa hK nt_111), (kLg_kp HcLg hK nt_112), (kCo_kp HcCo hK nt_113), (cLv_kp HcLv hK nt_114), ⟨_, _, _, _, _, _, _, _, _, _, _, ⟨⟨og_wo, og_we, og_stp, og_pa, og_ba⟩, hwo2, hwe2, hst2, (hK.2 _ _ hpa (by show ¬ ((own pa) = 11000 ∨ (own pa) = 11001 ∨ (own pa) = 11002); rw [og_pa]; exact nt_115 _ ⟨Nat.le_refl _, Nat.lt_succ_self _⟩)), (hK.2 _ _ hba (by show ¬ ((own ba) = 11000 ∨ (own ba) = 11001 ∨ (own ba) = 11002); rw [og_ba]; exact nt_116 _ ⟨Nat.le_refl _, Nat.lt_succ_self _⟩)), hx⟩, (cPa_kp HcPa hK nt_117)⟩, HcFn, HcLn⟩, (kp_0 hK (nt_118 0 ⟨Nat.le_refl _, Nat.lt_succ_self _⟩))⟩
  · refine gC_mono (k_X11_waysN hxo (by omega)) ?_
    rintro r f2 ⟨v9, rfl, hr, rfl⟩
    exact ⟨v9, rfl, (by rw [if_neg hx]; exact hr), _, _, _, (by rw [if_neg hx]), ⟨fun z => absurd z hx, fun _ => ⟨rfl, rfl⟩⟩, hI, kp0_rf⟩

set_option maxHeartbeats 4000000 in
set_option maxRecDepth 100000 in
theorem k_X12_weightE {l : Launch} {D : va_G} {cy : Nat → ClassId} {b : Nat} {f : gMem} {m : Nat} {a : Nat → Nat} {f0 : gMem} {n : Nat → Int32} {z : Nat → Int64} {F : Nat → Nat → Int32} {G : Nat → Nat → Int64}  {x1 x2 : Int32} (hS : mS cy m a f0 n z F G f) (hR : RI n F) : gC l D cy b yX12_weight cX12_weight 3 (some .boolean) 1 0 0 [.ref m, .int x1, .int x2] f (pI fun r f2 => ∃ (n2 : Nat → Int32) (z2 : Nat → Int64) (F2 : Nat → Nat → Int32) (G2 : Nat → Nat → Int64), mS cy m a f0 n2 z2 F2 G2 f2 ∧ fx [] [] [54] [] n z F G n2 z2 F2 G2 ∧ r = (if (0 ≤ x1.toInt ∧ x1.toInt < (n 53).toInt) ∧ (1 ≤ x2.toInt ∧ x2.toInt ≤ 4) then 1 else 0) ∧ F2 54 = (if (0 ≤ x1.toInt ∧ x1.toInt < (n 53).toInt) ∧ (1 ≤ x2.toInt ∧ x2.toInt ≤ 4) then upd (F 54) (Int32.toNatClampNeg x1) x2 else F 54) ∧ RI n2 F2) := by
  obtain ⟨a0, a4, a5, bA, bW, a30, bL, a38, bP, a53, a47, a88⟩ := id hR
  refine gC_of (by decide) (Nat.le_of_ble_eq_true rfl) ?_
  show gG l _ _ _ D cy b cX12_weight 3 _ RX12 "weight" 0 0 f 0 [(0, .ref m), (1, .int x1), (2, .int x2)] []
  refine gz_iload_n dX12_weight_0 rfl rfl ?_
  refine gz_i2l dX12_weight_1 ?_
  refine gz_lconst (v := 0) dX12_weight_2 (by decide) ?_
  refine gz_aload_n dX12_weight_3 rfl rfl ?_
  refine mg_151 hS dX12_weight_4 ?_
  refine gz_iconst (v := 1) dX12_weight_7 (by decide) ?_
  refine gz_isub dX12_weight_8 ?_
  refine gz_i2l dX12_weight_9 ?_
  have qs : ((n 53) - 1).toInt = (n 53).toInt - 1 := T_sub rfl (show (1 : Int32).toInt = 1 from rfl) (by omega)
  refine scX12_245 (k_X12_in (x := x1.toInt64) (y := 0) (w := ((n 53) - 1).toInt64)) ⟨(Nat.le_of_ble_eq_true rfl), (Nat.le_of_ble_eq_true rfl)⟩ ⟨(Nat.le_of_ble_eq_true rfl), (Nat.le_of_ble_eq_true rfl)⟩ rfl rfl (Nat.le_of_ble_eq_true rfl) dX12_weight_10 ?_
  intro v9 f9 z9; rw [z9.1, z9.2]
  refine gz_if_eq (tgt := 28) dX12_weight_13 (by decide) (fun c_13 => ?_) (fun c_13 => ?_)
  ·
    try simp only [mIn_0, lgc_lt, lgc_gt, lgc_le, lgc_ge, lgc_eq] at c_13
    try simp only [fl_lt, fl_le, fl_eq, fL_w, fL_lt, fL_le, tm1, tm10k, tm9, tm99, Int32.reduceToInt, Int64.reduceToInt, Int.not_lt, Int.not_le] at c_13
    refine gz_iconst (v := 0) dX12_weight_28 (by decide) ?_
    have hxx : fx [] [] [54] [] n z F G n z F G := fx_rf
    exact gz_zret rfl (by first | decide | exact nrb (by assumption) | exact nrb (Or.inl rfl) | exact nrb (Or.inr rfl)) dX12_weight_29 (Nat.le_of_ble_eq_true rfl) (Nat.le_of_ble_eq_true rfl) (⟨_, rfl, _, _, _, _, hS, hxx, by rw [if_neg (by omega)], by rw [if_neg (by omega)], RI_fx hR hxx (by decide) (by decide)⟩)
  ·
    try simp only [mIn_0, lgc_lt, lgc_gt, lgc_le, lgc_ge, lgc_eq] at c_13
    try simp only [fl_lt, fl_le, fl_eq, fL_w, fL_lt, fL_le, tm1, tm10k, tm9, tm99, Int32.reduceToInt, Int64.reduceToInt, Int.not_lt, Int.not_le] at c_13
    refine gz_iload_n dX12_weight_16 rfl rfl ?_
    refine gz_i2l dX12_weight_17 ?_
    refine gz_lconst (v := 1) dX12_weight_18 (by decide) ?_
    refine gz_ldc2 (v := (4)) wd_956 dX12_weight_19 ?_
    refine scX12_245 (k_X12_in (x := x2.toInt64) (y := 1) (w := (4))) ⟨(Nat.le_of_ble_eq_true rfl), (Nat.le_of_ble_eq_true rfl)⟩ ⟨(Nat.le_of_ble_eq_true rfl), (Nat.le_of_ble_eq_true rfl)⟩ rfl rfl (Nat.le_of_ble_eq_true rfl) dX12_weight_22 ?_
    intro v9 f9 z9; rw [z9.1, z9.2]
    refine gz_if_ne (tgt := 30) dX12_weight_25 (by decide) (fun c_25 => ?_) (fun c_25 => ?_)
    ·
      try simp only [mIn_0, lgc_lt, lgc_gt, lgc_le, lgc_ge, lgc_eq] at c_25
      try simp only [fl_lt, fl_le, fl_eq, fL_w, fL_lt, fL_le, tm1, tm10k, tm9, tm99, Int32.reduceToInt, Int64.reduceToInt, Int.not_lt, Int.not_le] at c_25
      refine gz_aload_n dX12_weight_30 rfl rfl ?_
      refine mg_155 hS dX12_weight_31 ?_
      refine gz_iload_n dX12_weight_34 rfl rfl ?_
      refine gz_iload_n dX12_weight_35 rfl rfl ?_
      refine m_iast 54 hS rfl (N := 3) rfl ((by exact vin_T (rfl : (x1).toInt = (x1).toInt) (by omega) (by omega))) dX12_weight_36 (fun f_1 hS_1q => ?_)
      have hS_1 : mS cy m a f0 n z (va_up F 54 (upd (F 54) (Int32.toNatClampNeg x1) x2)) G f_1 := hS_1q
      refine gz_iconst (v := 1) dX12_weight_37 (by decide) ?_
      have hxx : fx [] [] [54] [] n z F G n z (va_up F 54 (upd (F 54) (Int32.toNatClampNeg x1) x2)) G := (fx_F fx_rf (by decide))
      exact gz_zret rfl (by first | decide | exact nrb (by assumption) | exact nrb (Or.inl rfl) | exact nrb (Or.inr rfl)) dX12_weight_38 (Nat.le_of_ble_eq_true rfl) (Nat.le_of_ble_eq_true rfl) (⟨_, rfl, _, _, _, _, hS_1, hxx, by rw [if_pos (by omega)], by rw [if_pos (by omega)]; rfl, RI_fx hR hxx (by decide) (by decide)⟩)
    ·
      try simp only [mIn_0, lgc_lt, lgc_gt, lgc_le, lgc_ge, lgc_eq] at c_25
      try simp only [fl_lt, fl_le, fl_eq, fL_w, fL_lt, fL_le, tm1, tm10k, tm9, tm99, Int32.reduceToInt, Int64.reduceToInt, Int.not_lt, Int.not_le] at c_25
      refine gz_iconst (v := 0) dX12_weight_28 (by decide) ?_
      have hxx : fx [] [] [54] [] n z F G n z F G := fx_rf
      exact gz_zret rfl (by first | decide | exact nrb (by assumption) | exact nrb (Or.inl rfl) | exact nrb (Or.inr rfl)) dX12_weight_29 (Nat.le_of_ble_eq_true rfl) (Nat.le_of_ble_eq_true rfl) (⟨_, rfl, _, _, _, _, hS, hxx, by rw [if_neg (by omega)], by rw [if_neg (by omega)], RI_fx hR hxx (by decide) (by decide)⟩)

set_option maxHeartbeats 4000000 in
set_option maxRecDepth 100000 in
theorem k_X12_addsE {l : Launch} {D : va_G} {cy : Nat → ClassId} {b : Nat} {f : gMem} {m : Nat} {a : Nat → Nat} {f0 : gMem} {n : Nat → Int32} {z : Nat → Int64} {F : Nat → Nat → Int32} {G : Nat → Nat → Int64}  {x1 x2 x3 : Int32} (hS : mS cy m a f0 n z F G f) (hR : RI n F) : gC l D cy b yX12_adds cX12_adds 4 (some .boolean) 1 0 0 [.ref m, .int x1, .int x2, .int x3] f (pI fun r f2 => ∃ (n2 : Nat → Int32) (z2 : Nat → Int64) (F2 : Nat → Nat → Int32) (G2 : Nat → Nat → Int64), mS cy m a f0 n2 z2 F2 G2 f2 ∧ fx [] [] [55] [] n z F G n2 z2 F2 G2 ∧ r = (if (0 ≤ x1.toInt ∧ x1.toInt < (n 53).toInt) ∧ (0 ≤ x2.toInt ∧ x2.toInt ≤ 5) ∧ (-99 ≤ x3.toInt ∧ x3.toInt ≤ 99) then 1 else 0) ∧ F2 55 = (if (0 ≤ x1.toInt ∧ x1.toInt < (n 53).toInt) ∧ (0 ≤ x2.toInt ∧ x2.toInt ≤ 5) ∧ (-99 ≤ x3.toInt ∧ x3.toInt ≤ 99) then upd (F 55) (Int32.toNatClampNeg ((6 * x1) + x2)) x3 else F 55) ∧ RI n2 F2) := by
  obtain ⟨a0, a4, a5, bA, bW, a30, bL, a38, bP, a53, a47, a88⟩ := id hR
  refine gC_of (by decide) (Nat.le_of_ble_eq_true rfl) ?_
  show gG l _ _ _ D cy b cX12_adds 4 _ RX12 "adds" 0 0 f 0 [(0, .ref m), (1, .int x1), (2, .int x2), (3, .int x3)] []
  refine gz_iload_n dX12_adds_0 rfl rfl ?_
  refine gz_i2l dX12_adds_1 ?_
  refine gz_lconst (v := 0) dX12_adds_2 (by decide) ?_
  refine gz_aload_n dX12_adds_3 rfl rfl ?_
  refine mg_151 hS dX12_adds_4 ?_
  refine gz_iconst (v := 1) dX12_adds_7 (by decide) ?_
  refine gz_isub dX12_adds_8 ?_
  refine gz_i2l dX12_adds_9 ?_
  have qs : ((n 53) - 1).toInt = (n 53).toInt - 1 := T_sub rfl (show (1 : Int32).toInt = 1 from rfl) (by omega)
  refine scX12_245 (k_X12_in (x := x1.toInt64) (y := 0) (w := ((n 53) - 1).toInt64)) ⟨(Nat.le_of_ble_eq_true rfl), (Nat.le_of_ble_eq_true rfl)⟩ ⟨(Nat.le_of_ble_eq_true rfl), (Nat.le_of_ble_eq_true rfl)⟩ rfl rfl (Nat.le_of_ble_eq_true rfl) dX12_adds_10 ?_
  intro v9 f9 z9; rw [z9.1, z9.2]
  refine gz_if_eq (tgt := 42) dX12_adds_13 (by decide) (fun c_13 => ?_) (fun c_13 => ?_)
  ·
    try simp only [mIn_0, lgc_lt, lgc_gt, lgc_le, lgc_ge, lgc_eq] at c_13
    try simp only [fl_lt, fl_le, fl_eq, fL_w, fL_lt, fL_le, tm1, tm10k, tm9, tm99, Int32.reduceToInt, Int64.reduceToInt, Int.not_lt, Int.not_le] at c_13
    refine gz_iconst (v := 0) dX12_adds_42 (by decide) ?_
    have hxx : fx [] [] [55] [] n z F G n z F G := fx_rf
    exact gz_zret rfl (by first | decide | exact nrb (by assumption) | exact nrb (Or.inl rfl) | exact nrb (Or.inr rfl)) dX12_adds_43 (Nat.le_of_ble_eq_true rfl) (Nat.le_of_ble_eq_true rfl) (⟨_, rfl, _, _, _, _, hS, hxx, by rw [if_neg (by omega)], by rw [if_neg (by omega)], RI_fx hR hxx (by decide) (by decide)⟩)
  ·
    try simp only [mIn_0, lgc_lt, lgc_gt, lgc_le, lgc_ge, lgc_eq] at c_13
    try simp only [fl_lt, fl_le, fl_eq, fL_w, fL_lt, fL_le, tm1, tm10k, tm9, tm99, Int32.reduceToInt, Int64.reduceToInt, Int.not_lt, Int.not_le] at c_13
    refine gz_iload_n dX12_adds_16 rfl rfl ?_
    refine gz_i2l dX12_adds_17 ?_
    refine gz_lconst (v := 0) dX12_adds_18 (by decide) ?_
    refine gz_ldc2 (v := (5)) wd_778 dX12_adds_19 ?_
    refine scX12_245 (k_X12_in (x := x2.toInt64) (y := 0) (w := (5))) ⟨(Nat.le_of_ble_eq_true rfl), (Nat.le_of_ble_eq_true rfl)⟩ ⟨(Nat.le_of_ble_eq_true rfl), (Nat.le_of_ble_eq_true rfl)⟩ rfl rfl (Nat.le_of_ble_eq_true rfl) dX12_adds_22 ?_
    intro v9 f9 z9; rw [z9.1, z9.2]
    refine gz_if_eq (tgt := 42) dX12_adds_25 (by decide) (fun c_25 => ?_) (fun c_25 => ?_)
    ·
      try simp only [mIn_0, lgc_lt, lgc_gt, lgc_le, lgc_ge, lgc_eq] at c_25
      try simp only [fl_lt, fl_le, fl_eq, fL_w, fL_lt, fL_le, tm1, tm10k, tm9, tm99, Int32.reduceToInt, Int64.reduceToInt, Int.not_lt, Int.not_le] at c_25
      refine gz_iconst (v := 0) dX12_adds_42 (by decide) ?_
      have hxx : fx [] [] [55] [] n z F G n z F G := fx_rf
      exact gz_zret rfl (by first | decide | exact nrb (by assumption) | exact nrb (Or.inl rfl) | exact nrb (Or.inr rfl)) dX12_adds_43 (Nat.le_of_ble_eq_true rfl) (Nat.le_of_ble_eq_true rfl) (⟨_, rfl, _, _, _, _, hS, hxx, by rw [if_neg (by omega)], by rw [if_neg (by omega)], RI_fx hR hxx (by decide) (by decide)⟩)
    ·
      try simp only [mIn_0, lgc_lt, lgc_gt, lgc_le, lgc_ge, lgc_eq] at c_25
      try simp only [fl_lt, fl_le, fl_eq, fL_w, fL_lt, fL_le, tm1, tm10k, tm9, tm99, Int32.reduceToInt, Int64.reduceToInt, Int.not_lt, Int.not_le] at c_25
      refine gz_iload_n dX12_adds_28 rfl rfl ?_
      refine gz_i2l dX12_adds_29 ?_
      refine gz_ldc2 (v := (-99)) wd_957 dX12_adds_30 ?_
      refine gz_ldc2 (v := (99)) wd_958 dX12_adds_33 ?_
      refine scX12_245 (k_X12_in (x := x3.toInt64) (y := (-99)) (w := (99))) ⟨(Nat.le_of_ble_eq_true rfl), (Nat.le_of_ble_eq_true rfl)⟩ ⟨(Nat.le_of_ble_eq_true rfl), (Nat.le_of_ble_eq_true rfl)⟩ rfl rfl (Nat.le_of_ble_eq_true rfl) dX12_adds_36 ?_
      intro v9 f9 z9; rw [z9.1, z9.2]
      refine gz_if_ne (tgt := 44) dX12_adds_39 (by decide) (fun c_39 => ?_) (fun c_39 => ?_)
      ·
        try simp only [mIn_0, lgc_lt, lgc_gt, lgc_le, lgc_ge, lgc_eq] at c_39
        try simp only [fl_lt, fl_le, fl_eq, fL_w, fL_lt, fL_le, tm1, tm10k, tm9, tm99, Int32.reduceToInt, Int64.reduceToInt, Int.not_lt, Int.not_le] at c_39
        refine gz_aload_n dX12_adds_44 rfl rfl ?_
        refine mg_158 hS dX12_adds_45 ?_
        refine gz_bipush (v := 6) dX12_adds_48 (by decide) ?_
        refine gz_iload_n dX12_adds_50 rfl rfl ?_
        refine gz_imul dX12_adds_51 ?_
        refine gz_iload_n dX12_adds_52 rfl rfl ?_
        refine gz_iadd dX12_adds_53 ?_
        refine gz_iload_n dX12_adds_54 rfl rfl ?_
        refine m_iast 55 hS rfl (N := 18) rfl ((by have q9 := (T_add (T_mul (show (6 : Int32).toInt = 6 from rfl) (rfl : (x1).toInt = (x1).toInt) (by omega)) (rfl : (x2).toInt = (x2).toInt) (by omega)); exact vin_T q9 (by omega) (by omega))) dX12_adds_55 (fun f_1 hS_1q => ?_)
        have hS_1 : mS cy m a f0 n z (va_up F 55 (upd (F 55) (Int32.toNatClampNeg ((6 * x1) + x2)) x3)) G f_1 := hS_1q
        refine gz_iconst (v := 1) dX12_adds_56 (by decide) ?_
        have hxx : fx [] [] [55] [] n z F G n z (va_up F 55 (upd (F 55) (Int32.toNatClampNeg ((6 * x1) + x2)) x3)) G := (fx_F fx_rf (by decide))
        exact gz_zret rfl (by first | decide | exact nrb (by assumption) | exact nrb (Or.inl rfl) | exact nrb (Or.inr rfl)) dX12_adds_57 (Nat.le_of_ble_eq_true rfl) (Nat.le_of_ble_eq_true rfl) (⟨_, rfl, _, _, _, _, hS_1, hxx, by rw [if_pos (by omega)], by rw [if_pos (by omega)]; rfl, RI_fx hR hxx (by decide) (by decide)⟩)
      ·
        try simp only [mIn_0, lgc_lt, lgc_gt, lgc_le, lgc_ge, lgc_eq] at c_39
        try simp only [fl_lt, fl_le, fl_eq, fL_w, fL_lt, fL_le, tm1, tm10k, tm9, tm99, Int32.reduceToInt, Int64.reduceToInt, Int.not_lt, Int.not_le] at c_39
        refine gz_iconst (v := 0) dX12_adds_42 (by decide) ?_
        have hxx : fx [] [] [55] [] n z F G n z F G := fx_rf
        exact gz_zret rfl (by first | decide | exact nrb (by assumption) | exact nrb (Or.inl rfl) | exact nrb (Or.inr rfl)) dX12_adds_43 (Nat.le_of_ble_eq_true rfl) (Nat.le_of_ble_eq_true rfl) (⟨_, rfl, _, _, _, _, hS, hxx, by rw [if_neg (by omega)], by rw [if_neg (by omega)], RI_fx hR hxx (by decide) (by decide)⟩)

set_option maxHeartbeats 4000000 in
set_option maxRecDepth 100000 in
theorem k_X12_waysE {l : Launch} {D : va_G} {cy : Nat → ClassId} {b : Nat} {f : gMem} {m : Nat} {a : Nat → Nat} {f0 : gMem} {n : Nat → Int32} {z : Nat → Int64} {F : Nat → Nat → Int32} {G : Nat → Nat → Int64}  {x1 : Int32} (hS : mS cy m a f0 n z F G f) (hR : RI n F) : gC l D cy b yX12_ways cX12_ways 3 (some .boolean) 1 0 0 [.ref m, .int x1] f (pI fun r f2 => ∃ (n2 : Nat → Int32) (z2 : Nat → Int64) (F2 : Nat → Nat → Int32) (G2 : Nat → Nat → Int64), mS cy m a f0 n2 z2 F2 G2 f2 ∧ fx [53] [] [54, 55] [] n z F G n2 z2 F2 G2 ∧ r = (if 1 ≤ x1.toInt ∧ x1.toInt ≤ 3 then 1 else 0) ∧ n2 53 = (if 1 ≤ x1.toInt ∧ x1.toInt ≤ 3 then x1 else n 53) ∧ ((1 ≤ x1.toInt ∧ x1.toInt ≤ 3 → (∀ y, y < 3 → F2 54 y = 1) ∧ ∀ k, k < 18 → F2 55 k = 0) ∧ (¬ (1 ≤ x1.toInt ∧ x1.toInt ≤ 3) → F2 54 = F 54 ∧ F2 55 = F 55)) ∧ RI n2 F2) := by
  obtain ⟨a0, a4, a5, bA, bW, a30, bL, a38, bP, a53, a47, a88⟩ := id hR
  refine gC_of (by decide) (Nat.le_of_ble_eq_true rfl) ?_
  show gG l _ _ _ D cy b cX12_ways 3 _ RX12 "ways" 0 0 f 0 [(0, .ref m), (1, .int x1)] []
  refine gz_iload_n dX12_ways_0 rfl rfl ?_
  refine gz_i2l dX12_ways_1 ?_
  refine gz_lconst (v := 1) dX12_ways_2 (by decide) ?_
  refine gz_ldc2 (v := (3)) wd_955 dX12_ways_3 ?_
  refine scX12_245 (k_X12_in (x := x1.toInt64) (y := 1) (w := (3))) ⟨(Nat.le_of_ble_eq_true rfl), (Nat.le_of_ble_eq_true rfl)⟩ ⟨(Nat.le_of_ble_eq_true rfl), (Nat.le_of_ble_eq_true rfl)⟩ rfl rfl (Nat.le_of_ble_eq_true rfl) dX12_ways_6 ?_
  intro v9 f9 z9; rw [z9.1, z9.2]
  refine gz_if_ne (tgt := 14) dX12_ways_9 (by decide) (fun c_9 => ?_) (fun c_9 => ?_)
  ·
    try simp only [mIn_0, lgc_lt, lgc_gt, lgc_le, lgc_ge, lgc_eq] at c_9
    try simp only [fl_lt, fl_le, fl_eq, fL_w, fL_lt, fL_le, tm1, tm10k, tm9, tm99, Int32.reduceToInt, Int64.reduceToInt, Int.not_lt, Int.not_le] at c_9
    refine gz_aload_n dX12_ways_14 rfl rfl ?_
    refine gz_iload_n dX12_ways_15 rfl rfl ?_
    refine mp_151 hS dX12_ways_16 (fun f_1 hS_1 => ?_)
    refine gz_iconst (v := 0) dX12_ways_19 (by decide) ?_
    refine gz_istore_n (lv' := [(2, .int 0), (0, .ref m), (1, .int x1)]) dX12_ways_20 rfl (by decide) rfl ?_
    refine gz_iload_n dX12_ways_21 rfl rfl ?_
    refine gz_iconst (v := 3) dX12_ways_22 (by decide) ?_
    refine gz_icmp_ge (tgt := 39) dX12_ways_23 (by decide) (fun c_23 => ?_) (fun c_23 => ?_)
    · exact absurd c_23 (by decide)
    ·
      try simp only [mIn_0, lgc_lt, lgc_gt, lgc_le, lgc_ge, lgc_eq] at c_23
      try simp only [fl_lt, fl_le, fl_eq, fL_w, fL_lt, fL_le, tm1, tm10k, tm9, tm99, Int32.reduceToInt, Int64.reduceToInt, Int.not_lt, Int.not_le] at c_23
      refine gz_aload_n dX12_ways_26 rfl rfl ?_
      refine mg_155 hS_1 dX12_ways_27 ?_
      refine gz_iload_n dX12_ways_30 rfl rfl ?_
      refine gz_iconst (v := 1) dX12_ways_31 (by decide) ?_
      refine m_iast 54 hS_1 rfl (N := 3) rfl (vin_T (v := 0) rfl (by decide) (by decide)) dX12_ways_32 (fun f_2 hS_2q => ?_)
      have hS_2 : mS cy m a f0 (va_up n 53 x1) z (va_up F 54 (upd (F 54) (Int32.toNatClampNeg 0) 1)) G f_2 := hS_2q
      refine gz_iinc (v := 1) (lv' := [(2, .int 1), (0, .ref m), (1, .int x1)]) dX12_ways_33 rfl (by decide) (by decide) rfl ?_
      refine gz_goto (tgt := 21) dX12_ways_36 (by decide) ?_
      refine gz_iload_n dX12_ways_21 rfl rfl ?_
      refine gz_iconst (v := 3) dX12_ways_22 (by decide) ?_
      refine gz_icmp_ge (tgt := 39) dX12_ways_23 (by decide) (fun c_23_1 => ?_) (fun c_23_1 => ?_)
      · exact absurd c_23_1 (by decide)
      ·
        try simp only [mIn_0, lgc_lt, lgc_gt, lgc_le, lgc_ge, lgc_eq] at c_23_1
        try simp only [fl_lt, fl_le, fl_eq, fL_w, fL_lt, fL_le, tm1, tm10k, tm9, tm99, Int32.reduceToInt, Int64.reduceToInt, Int.not_lt, Int.not_le] at c_23_1
        refine gz_aload_n dX12_ways_26 rfl rfl ?_
        refine mg_155 hS_2 dX12_ways_27 ?_
        refine gz_iload_n dX12_ways_30 rfl rfl ?_
        refine gz_iconst (v := 1) dX12_ways_31 (by decide) ?_
        refine m_iast 54 hS_2 rfl (N := 3) rfl (vin_T (v := 1) rfl (by decide) (by decide)) dX12_ways_32 (fun f_3 hS_3q => ?_)
        have hS_3 : mS cy m a f0 (va_up n 53 x1) z (va_up (va_up F 54 (upd (F 54) (Int32.toNatClampNeg 0) 1)) 54 (upd (upd (F 54) (Int32.toNatClampNeg 0) 1) (Int32.toNatClampNeg 1) 1)) G f_3 := hS_3q
        refine gz_iinc (v := 2) (lv' := [(2, .int 2), (0, .ref m), (1, .int x1)]) dX12_ways_33 rfl (by decide) (by decide) rfl ?_
        refine gz_goto (tgt := 21) dX12_ways_36 (by decide) ?_
        refine gz_iload_n dX12_ways_21 rfl rfl ?_
        refine gz_iconst (v := 3) dX12_ways_22 (by decide) ?_
        refine gz_icmp_ge (tgt := 39) dX12_ways_23 (by decide) (fun c_23_2 => ?_) (fun c_23_2 => ?_)
        · exact absurd c_23_2 (by decide)
        ·
          try simp only [mIn_0, lgc_lt, lgc_gt, lgc_le, lgc_ge, lgc_eq] at c_23_2
          try simp only [fl_lt, fl_le, fl_eq, fL_w, fL_lt, fL_le, tm1, tm10k, tm9, tm99, Int32.reduceToInt, Int64.reduceToInt, Int.not_lt, Int.not_le] at c_23_2
          refine gz_aload_n dX12_ways_26 rfl rfl ?_
          refine mg_155 hS_3 dX12_ways_27 ?_
          refine gz_iload_n dX12_ways_30 rfl rfl ?_
          refine gz_iconst (v := 1) dX12_ways_31 (by decide) ?_
          refine m_iast 54 hS_3 rfl (N := 3) rfl (vin_T (v := 2) rfl (by decide) (by decide)) dX12_ways_32 (fun f_4 hS_4q => ?_)
          have hS_4 : mS cy m a f0 (va_up n 53 x1) z (va_up (va_up (va_up F 54 (upd (F 54) (Int32.toNatClampNeg 0) 1)) 54 (upd (upd (F 54) (Int32.toNatClampNeg 0) 1) (Int32.toNatClampNeg 1) 1)) 54 (upd (upd (upd (F 54) (Int32.toNatClampNeg 0) 1) (Int32.toNatClampNeg 1) 1) (Int32.toNatClampNeg 2) 1)) G f_4 := hS_4q
          refine gz_iinc (v := 3) (lv' := [(2, .int 3), (0, .ref m), (1, .int x1)]) dX12_ways_33 rfl (by decide) (by decide) rfl ?_
          refine gz_goto (tgt := 21) dX12_ways_36 (by decide) ?_
          refine gz_iload_n dX12_ways_21 rfl rfl ?_
          refine gz_iconst (v := 3) dX12_ways_22 (by decide) ?_
          refine gz_icmp_ge (tgt := 39) dX12_ways_23 (by decide) (fun c_23_3 => ?_) (fun c_23_3 => ?_)
          ·
            try simp only [mIn_0, lgc_lt, lgc_gt, lgc_le, lgc_ge, lgc_eq] at c_23_3
            try simp only [fl_lt, fl_le, fl_eq, fL_w, fL_lt, fL_le, tm1, tm10k, tm9, tm99, Int32.reduceToInt, Int64.reduceToInt, Int.not_lt, Int.not_le] at c_23_3
            refine gz_iconst (v := 0) dX12_ways_39 (by decide) ?_
            refine gz_istore_n (lv' := [(2, .int 0), (0, .ref m), (1, .int x1)]) dX12_ways_40 rfl (by decide) rfl ?_
            refine gz_iload_n dX12_ways_41 rfl rfl ?_
            refine gz_bipush (v := 18) dX12_ways_42 (by decide) ?_
            refine gz_icmp_ge (tgt := 60) dX12_ways_44 (by decide) (fun c_44 => ?_) (fun c_44 => ?_)
            · exact absurd c_44 (by decide)
            ·
              try simp only [mIn_0, lgc_lt, lgc_gt, lgc_le, lgc_ge, lgc_eq] at c_44
              try simp only [fl_lt, fl_le, fl_eq, fL_w, fL_lt, fL_le, tm1, tm10k, tm9, tm99, Int32.reduceToInt, Int64.reduceToInt, Int.not_lt, Int.not_le] at c_44
              refine gz_aload_n dX12_ways_47 rfl rfl ?_
              refine mg_158 hS_4 dX12_ways_48 ?_
              refine gz_iload_n dX12_ways_51 rfl rfl ?_
              refine gz_iconst (v := 0) dX12_ways_52 (by decide) ?_
              refine m_iast 55 hS_4 rfl (N := 18) rfl (vin_T (v := 0) rfl (by decide) (by decide)) dX12_ways_53 (fun f_5 hS_5q => ?_)
              have hS_5 : mS cy m a f0 (va_up n 53 x1) z (va_up (va_up (va_up (va_up F 54 (upd (F 54) (Int32.toNatClampNeg 0) 1)) 54 (upd (upd (F 54) (Int32.toNatClampNeg 0) 1) (Int32.toNatClampNeg 1) 1)) 54 (upd (upd (upd (F 54) (Int32.toNatClampNeg 0) 1) (Int32.toNatClampNeg 1) 1) (Int32.toNatClampNeg 2) 1)) 55 (upd (F 55) (Int32.toNatClampNeg 0) 0)) G f_5 := hS_5q
              refine gz_iinc (v := 1) (lv' := [(2, .int 1), (0, .ref m), (1, .int x1)]) dX12_ways_54 rfl (by decide) (by decide) rfl ?_
              refine gz_goto (tgt := 41) dX12_ways_57 (by decide) ?_
              refine gz_iload_n dX12_ways_41 rfl rfl ?_
              refine gz_bipush (v := 18) dX12_ways_42 (by decide) ?_
              refine gz_icmp_ge (tgt := 60) dX12_ways_44 (by decide) (fun c_44_4 => ?_) (fun c_44_4 => ?_)
              · exact absurd c_44_4 (by decide)
              ·
                try simp only [mIn_0, lgc_lt, lgc_gt, lgc_le, lgc_ge, lgc_eq] at c_44_4
                try simp only [fl_lt, fl_le, fl_eq, fL_w, fL_lt, fL_le, tm1, tm10k, tm9, tm99, Int32.reduceToInt, Int64.reduceToInt, Int.not_lt, Int.not_le] at c_44_4
                refine gz_aload_n dX12_ways_47 rfl rfl ?_
                refine mg_158 hS_5 dX12_ways_48 ?_
                refine gz_iload_n dX12_ways_51 rfl rfl ?_
                refine gz_iconst (v := 0) dX12_ways_52 (by decide) ?_
                refine m_iast 55 hS_5 rfl (N := 18) rfl (vin_T (v := 1) rfl (by decide) (by decide)) dX12_ways_53 (fun f_6 hS_6q => ?_)
                have hS_6 : mS cy m a f0 (va_up n 53 x1) z (va_up (va_up (va_up (va_up (va_up F 54 (upd (F 54) (Int32.toNatClampNeg 0) 1)) 54 (upd (upd (F 54) (Int32.toNatClampNeg 0) 1) (Int32.toNatClampNeg 1) 1)) 54 (upd (upd (upd (F 54) (Int32.toNatClampNeg 0) 1) (Int32.toNatClampNeg 1) 1) (Int32.toNatClampNeg 2) 1)) 55 (upd (F 55) (Int32.toNatClampNeg 0) 0)) 55 (upd (upd (F 55) (Int32.toNatClampNeg 0) 0) (Int32.toNatClampNeg 1) 0)) G f_6 := hS_6q
                refine gz_iinc (v := 2) (lv' := [(2, .int 2), (0, .ref m), (1, .int x1)]) dX12_ways_54 rfl (by decide) (by decide) rfl ?_
                refine gz_goto (tgt := 41) dX12_ways_57 (by decide) ?_
                refine gz_iload_n dX12_ways_41 rfl rfl ?_
                refine gz_bipush (v := 18) dX12_ways_42 (by decide) ?_
                refine gz_icmp_ge (tgt := 60) dX12_ways_44 (by decide) (fun c_44_5 => ?_) (fun c_44_5 => ?_)
                · exact absurd c_44_5 (by decide)
                ·
                  try simp only [mIn_0, lgc_lt, lgc_gt, lgc_le, lgc_ge, lgc_eq] at c_44_5
                  try simp only [fl_lt, fl_le, fl_eq, fL_w, fL_lt, fL_le, tm1, tm10k, tm9, tm99, Int32.reduceToInt, Int64.reduceToInt, Int.not_lt, Int.not_le] at c_44_5
                  refine gz_aload_n dX12_ways_47 rfl rfl ?_
                  refine mg_158 hS_6 dX12_ways_48 ?_
                  refine gz_iload_n dX12_ways_51 rfl rfl ?_
                  refine gz_iconst (v := 0) dX12_ways_52 (by decide) ?_
                  refine m_iast 55 hS_6 rfl (N := 18) rfl (vin_T (v := 2) rfl (by decide) (by decide)) dX12_ways_53 (fun f_7 hS_7q => ?_)
                  have hS_7 : mS cy m a f0 (va_up n 53 x1) z (va_up (va_up (va_up (va_up (va_up (va_up F 54 (upd (F 54) (Int32.toNatClampNeg 0) 1)) 54 (upd (upd (F 54) (Int32.toNatClampNeg 0) 1) (Int32.toNatClampNeg 1) 1)) 54 (upd (upd (upd (F 54) (Int32.toNatClampNeg 0) 1) (Int32.toNatClampNeg 1) 1) (Int32.toNatClampNeg 2) 1)) 55 (upd (F 55) (Int32.toNatClampNeg 0) 0)) 55 (upd (upd (F 55) (Int32.toNatClampNeg 0) 0) (Int32.toNatClampNeg 1) 0)) 55 (upd (upd (upd (F 55) (Int32.toNatClampNeg 0) 0) (Int32.toNatClampNeg 1) 0) (Int32.toNatClampNeg 2) 0)) G f_7 := hS_7q
                  refine gz_iinc (v := 3) (lv' := [(2, .int 3), (0, .ref m), (1, .int x1)]) dX12_ways_54 rfl (by decide) (by decide) rfl ?_
                  refine gz_goto (tgt := 41) dX12_ways_57 (by decide) ?_
                  refine gz_iload_n dX12_ways_41 rfl rfl ?_
                  refine gz_bipush (v := 18) dX12_ways_42 (by decide) ?_
                  refine gz_icmp_ge (tgt := 60) dX12_ways_44 (by decide) (fun c_44_6 => ?_) (fun c_44_6 => ?_)
                  · exact absurd c_44_6 (by decide)
                  ·
                    try simp only [mIn_0, lgc_lt, lgc_gt, lgc_le, lgc_ge, lgc_eq] at c_44_6
                    try simp only [fl_lt, fl_le, fl_eq, fL_w, fL_lt, fL_le, tm1, tm10k, tm9, tm99, Int32.reduceToInt, Int64.reduceToInt, Int.not_lt, Int.not_le] at c_44_6
                    refine gz_aload_n dX12_ways_47 rfl rfl ?_
                    refine mg_158 hS_7 dX12_ways_48 ?_
                    refine gz_iload_n dX12_ways_51 rfl rfl ?_
                    refine gz_iconst (v := 0) dX12_ways_52 (by decide) ?_
                    refine m_iast 55 hS_7 rfl (N := 18) rfl (vin_T (v := 3) rfl (by decide) (by decide)) dX12_ways_53 (fun f_8 hS_8q => ?_)
                    have hS_8 : mS cy m a f0 (va_up n 53 x1) z (va_up (va_up (va_up (va_up (va_up (va_up (va_up F 54 (upd (F 54) (Int32.toNatClampNeg 0) 1)) 54 (upd (upd (F 54) (Int32.toNatClampNeg 0) 1) (Int32.toNatClampNeg 1) 1)) 54 (upd (upd (upd (F 54) (Int32.toNatClampNeg 0) 1) (Int32.toNatClampNeg 1) 1) (Int32.toNatClampNeg 2) 1)) 55 (upd (F 55) (Int32.toNatClampNeg 0) 0)) 55 (upd (upd (F 55) (Int32.toNatClampNeg 0) 0) (Int32.toNatClampNeg 1) 0)) 55 (upd (upd (upd (F 55) (Int32.toNatClampNeg 0) 0) (Int32.toNatClampNeg 1) 0) (Int32.toNatClampNeg 2) 0)) 55 (upd (upd (upd (upd (F 55) (Int32.toNatClampNeg 0) 0) (Int32.toNatClampNeg 1) 0) (Int32.toNatClampNeg 2) 0) (Int32.toNatClampNeg 3) 0)) G f_8 := hS_8q
                    refine gz_iinc (v := 4) (lv' := [(2, .int 4), (0, .ref m), (1, .int x1)]) dX12_ways_54 rfl (by decide) (by decide) rfl ?_
                    refine gz_goto (tgt := 41) dX12_ways_57 (by decide) ?_
                    refine gz_iload_n dX12_ways_41 rfl rfl ?_
                    refine gz_bipush (v := 18) dX12_ways_42 (by decide) ?_
                    refine gz_icmp_ge (tgt := 60) dX12_ways_44 (by decide) (fun c_44_7 => ?_) (fun c_44_7 => ?_)
                    · exact absurd c_44_7 (by decide)
                    ·
                      try simp only [mIn_0, lgc_lt, lgc_gt, lgc_le, lgc_ge, lgc_eq] at c_44_7
                      try simp only [fl_lt, fl_le, fl_eq, fL_w, fL_lt, fL_le, tm1, tm10k, tm9, tm99, Int32.reduceToInt, Int64.reduceToInt, Int.not_lt, Int.not_le] at c_44_7
                      refine gz_aload_n dX12_ways_47 rfl rfl ?_
                      refine mg_158 hS_8 dX12_ways_48 ?_
                      refine gz_iload_n dX12_ways_51 rfl rfl ?_
                      refine gz_iconst (v := 0) dX12_ways_52 (by decide) ?_
                      refine m_iast 55 hS_8 rfl (N := 18) rfl (vin_T (v := 4) rfl (by decide) (by decide)) dX12_ways_53 (fun f_9 hS_9q => ?_)
                      have hS_9 : mS cy m a f0 (va_up n 53 x1) z (va_up (va_up (va_up (va_up (va_up (va_up (va_up (va_up F 54 (upd (F 54) (Int32.toNatClampNeg 0) 1)) 54 (upd (upd (F 54) (Int32.toNatClampNeg 0) 1) (Int32.toNatClampNeg 1) 1)) 54 (upd (upd (upd (F 54) (Int32.toNatClampNeg 0) 1) (Int32.toNatClampNeg 1) 1) (Int32.toNatClampNeg 2) 1)) 55 (upd (F 55) (Int32.toNatClampNeg 0) 0)) 55 (upd (upd (F 55) (Int32.toNatClampNeg 0) 0) (Int32.toNatClampNeg 1) 0)) 55 (upd (upd (upd (F 55) (Int32.toNatClampNeg 0) 0) (Int32.toNatClampNeg 1) 0) (Int32.toNatClampNeg 2) 0)) 55 (upd (upd (upd (upd (F 55) (Int32.toNatClampNeg 0) 0) (Int32.toNatClampNeg 1) 0) (Int32.toNatClampNeg 2) 0) (Int32.toNatClampNeg 3) 0)) 55 (upd (upd (upd (upd (upd (F 55) (Int32.toNatClampNeg 0) 0) (Int32.toNatClampNeg 1) 0) (Int32.toNatClampNeg 2) 0) (Int32.toNatClampNeg 3) 0) (Int32.toNatClampNeg 4) 0)) G f_9 := hS_9q
                      refine gz_iinc (v := 5) (lv' := [(2, .int 5), (0, .ref m), (1, .int x1)]) dX12_ways_54 rfl (by decide) (by decide) rfl ?_
                      refine gz_goto (tgt := 41) dX12_ways_57 (by decide) ?_
                      refine gz_iload_n dX12_ways_41 rfl rfl ?_
                      refine gz_bipush (v := 18) dX12_ways_42 (by decide) ?_
                      refine gz_icmp_ge (tgt := 60) dX12_ways_44 (by decide) (fun c_44_8 => ?_) (fun c_44_8 => ?_)
                      · exact absurd c_44_8 (by decide)
                      ·
                        try simp only [mIn_0, lgc_lt, lgc_gt, lgc_le, lgc_ge, lgc_eq] at c_44_8
                        try simp only [fl_lt, fl_le, fl_eq, fL_w, fL_lt, fL_le, tm1, tm10k, tm9, tm99, Int32.reduceToInt, Int64.reduceToInt, Int.not_lt, Int.not_le] at c_44_8
                        refine gz_aload_n dX12_ways_47 rfl rfl ?_
                        refine mg_158 hS_9 dX12_ways_48 ?_
                        refine gz_iload_n dX12_ways_51 rfl rfl ?_
                        refine gz_iconst (v := 0) dX12_ways_52 (by decide) ?_
                        refine m_iast 55 hS_9 rfl (N := 18) rfl (vin_T (v := 5) rfl (by decide) (by decide)) dX12_ways_53 (fun f_10 hS_10q => ?_)
                        have hS_10 : mS cy m a f0 (va_up n 53 x1) z (va_up (va_up (va_up (va_up (va_up (va_up (va_up (va_up (va_up F 54 (upd (F 54) (Int32.toNatClampNeg 0) 1)) 54 (upd (upd (F 54) (Int32.toNatClampNeg 0) 1) (Int32.toNatClampNeg 1) 1)) 54 (upd (upd (upd (F 54) (Int32.toNatClampNeg 0) 1) (Int32.toNatClampNeg 1) 1) (Int32.toNatClampNeg 2) 1)) 55 (upd (F 55) (Int32.toNatClampNeg 0) 0)) 55 (upd (upd (F 55) (Int32.toNatClampNeg 0) 0) (Int32.toNatClampNeg 1) 0)) 55 (upd (upd (upd (F 55) (Int32.toNatClampNeg 0) 0) (Int32.toNatClampNeg 1) 0) (Int32.toNatClampNeg 2) 0)) 55 (upd (upd (upd (upd (F 55) (Int32.toNatClampNeg 0) 0) (Int32.toNatClampNeg 1) 0) (Int32.toNatClampNeg 2) 0) (Int32.toNatClampNeg 3) 0)) 55 (upd (upd (upd (upd (upd (F 55) (Int32.toNatClampNeg 0) 0) (Int32.toNatClampNeg 1) 0) (Int32.toNatClampNeg 2) 0) (Int32.toNatClampNeg 3) 0) (Int32.toNatClampNeg 4) 0)) 55 (upd (upd (upd (upd (upd (upd (F 55) (Int32.toNatClampNeg 0) 0) (Int32.toNatClampNeg 1) 0) (Int32.toNatClampNeg 2) 0) (Int32.toNatClampNeg 3) 0) (Int32.toNatClampNeg 4) 0) (Int32.toNatClampNeg 5) 0)) G f_10 := hS_10q
                        refine gz_iinc (v := 6) (lv' := [(2, .int 6), (0, .ref m), (1, .int x1)]) dX12_ways_54 rfl (by decide) (by decide) rfl ?_
                        refine gz_goto (tgt := 41) dX12_ways_57 (by decide) ?_
                        refine gz_iload_n dX12_ways_41 rfl rfl ?_
                        refine gz_bipush (v := 18) dX12_ways_42 (by decide) ?_
                        refine gz_icmp_ge (tgt := 60) dX12_ways_44 (by decide) (fun c_44_9 => ?_) (fun c_44_9 => ?_)
                        · exact absurd c_44_9 (by decide)
                        ·
                          try simp only [mIn_0, lgc_lt, lgc_gt, lgc_le, lgc_ge, lgc_eq] at c_44_9
                          try simp only [fl_lt, fl_le, fl_eq, fL_w, fL_lt, fL_le, tm1, tm10k, tm9, tm99, Int32.reduceToInt, Int64.reduceToInt, Int.not_lt, Int.not_le] at c_44_9
                          refine gz_aload_n dX12_ways_47 rfl rfl ?_
                          refine mg_158 hS_10 dX12_ways_48 ?_
                          refine gz_iload_n dX12_ways_51 rfl rfl ?_
                          refine gz_iconst (v := 0) dX12_ways_52 (by decide) ?_
                          refine m_iast 55 hS_10 rfl (N := 18) rfl (vin_T (v := 6) rfl (by decide) (by decide)) dX12_ways_53 (fun f_11 hS_11q => ?_)
                          have hS_11 : mS cy m a f0 (va_up n 53 x1) z (va_up (va_up (va_up (va_up (va_up (va_up (va_up (va_up (va_up (va_up F 54 (upd (F 54) (Int32.toNatClampNeg 0) 1)) 54 (upd (upd (F 54) (Int32.toNatClampNeg 0) 1) (Int32.toNatClampNeg 1) 1)) 54 (upd (upd (upd (F 54) (Int32.toNatClampNeg 0) 1) (Int32.toNatClampNeg 1) 1) (Int32.toNatClampNeg 2) 1)) 55 (upd (F 55) (Int32.toNatClampNeg 0) 0)) 55 (upd (upd (F 55) (Int32.toNatClampNeg 0) 0) (Int32.toNatClampNeg 1) 0)) 55 (upd (upd (upd (F 55) (Int32.toNatClampNeg 0) 0) (Int32.toNatClampNeg 1) 0) (Int32.toNatClampNeg 2) 0)) 55 (upd (upd (upd (upd (F 55) (Int32.toNatClampNeg 0) 0) (Int32.toNatClampNeg 1) 0) (Int32.toNatClampNeg 2) 0) (Int32.toNatClampNeg 3) 0)) 55 (upd (upd (upd (upd (upd (F 55) (Int32.toNatClampNeg 0) 0) (Int32.toNatClampNeg 1) 0) (Int32.toNatClampNeg 2) 0) (Int32.toNatClampNeg 3) 0) (Int32.toNatClampNeg 4) 0)) 55 (upd (upd (upd (upd (upd (upd (F 55) (Int32.toNatClampNeg 0) 0) (Int32.toNatClampNeg 1) 0) (Int32.toNatClampNeg 2) 0) (Int32.toNatClampNeg 3) 0) (Int32.toNatClampNeg 4) 0) (Int32.toNatClampNeg 5) 0)) 55 (upd (upd (upd (upd (upd (upd (upd (F 55) (Int32.toNatClampNeg 0) 0) (Int32.toNatClampNeg 1) 0) (Int32.toNatClampNeg 2) 0) (Int32.toNatClampNeg 3) 0) (Int32.toNatClampNeg 4) 0) (Int32.toNatClampNeg 5) 0) (Int32.toNatClampNeg 6) 0)) G f_11 := hS_11q
                          refine gz_iinc (v := 7) (lv' := [(2, .int 7), (0, .ref m), (1, .int x1)]) dX12_ways_54 rfl (by decide) (by decide) rfl ?_
                          refine gz_goto (tgt := 41) dX12_ways_57 (by decide) ?_
                          refine gz_iload_n dX12_ways_41 rfl rfl ?_
                          refine gz_bipush (v := 18) dX12_ways_42 (by decide) ?_
                          refine gz_icmp_ge (tgt := 60) dX12_ways_44 (by decide) (fun c_44_10 => ?_) (fun c_44_10 => ?_)
                          · exact absurd c_44_10 (by decide)
                          ·
                            try simp only [mIn_0, lgc_lt, lgc_gt, lgc_le, lgc_ge, lgc_eq] at c_44_10
                            try simp only [fl_lt, fl_le, fl_eq, fL_w, fL_lt, fL_le, tm1, tm10k, tm9, tm99, Int32.reduceToInt, Int64.reduceToInt, Int.not_lt, Int.not_le] at c_44_10
                            refine gz_aload_n dX12_ways_47 rfl rfl ?_
                            refine mg_158 hS_11 dX12_ways_48 ?_
                            refine gz_iload_n dX12_ways_51 rfl rfl ?_
                            refine gz_iconst (v := 0) dX12_ways_52 (by decide) ?_
                            refine m_iast 55 hS_11 rfl (N := 18) rfl (vin_T (v := 7) rfl (by decide) (by decide)) dX12_ways_53 (fun f_12 hS_12q => ?_)
                            have hS_12 : mS cy m a f0 (va_up n 53 x1) z (va_up (va_up (va_up (va_up (va_up (va_up (va_up (va_up (va_up (va_up (va_up F 54 (upd (F 54) (Int32.toNatClampNeg 0) 1)) 54 (upd (upd (F 54) (Int32.toNatClampNeg 0) 1) (Int32.toNatClampNeg 1) 1)) 54 (upd (upd (upd (F 54) (Int32.toNatClampNeg 0) 1) (Int32.toNatClampNeg 1) 1) (Int32.toNatClampNeg 2) 1)) 55 (upd (F 55) (Int32.toNatClampNeg 0) 0)) 55 (upd (upd (F 55) (Int32.toNatClampNeg 0) 0) (Int32.toNatClampNeg 1) 0)) 55 (upd (upd (upd (F 55) (Int32.toNatClampNeg 0) 0) (Int32.toNatClampNeg 1) 0) (Int32.toNatClampNeg 2) 0)) 55 (upd (upd (upd (upd (F 55) (Int32.toNatClampNeg 0) 0) (Int32.toNatClampNeg 1) 0) (Int32.toNatClampNeg 2) 0) (Int32.toNatClampNeg 3) 0)) 55 (upd (upd (upd (upd (upd (F 55) (Int32.toNatClampNeg 0) 0) (Int32.toNatClampNeg 1) 0) (Int32.toNatClampNeg 2) 0) (Int32.toNatClampNeg 3) 0) (Int32.toNatClampNeg 4) 0)) 55 (upd (upd (upd (upd (upd (upd (F 55) (Int32.toNatClampNeg 0) 0) (Int32.toNatClampNeg 1) 0) (Int32.toNatClampNeg 2) 0) (Int32.toNatClampNeg 3) 0) (Int32.toNatClampNeg 4) 0) (Int32.toNatClampNeg 5) 0)) 55 (upd (upd (upd (upd (upd (upd (upd (F 55) (Int32.toNatClampNeg 0) 0) (Int32.toNatClampNeg 1) 0) (Int32.toNatClampNeg 2) 0) (Int32.toNatClampNeg 3) 0) (Int32.toNatClampNeg 4) 0) (Int32.toNatClampNeg 5) 0) (Int32.toNatClampNeg 6) 0)) 55 (upd (upd (upd (upd (upd (upd (upd (upd (F 55) (Int32.toNatClampNeg 0) 0) (Int32.toNatClampNeg 1) 0) (Int32.toNatClampNeg 2) 0) (Int32.toNatClampNeg 3) 0) (Int32.toNatClampNeg 4) 0) (Int32.toNatClampNeg 5) 0) (Int32.toNatClampNeg 6) 0) (Int32.toNatClampNeg 7) 0)) G f_12 := hS_12q
                            refine gz_iinc (v := 8) (lv' := [(2, .int 8), (0, .ref m), (1, .int x1)]) dX12_ways_54 rfl (by decide) (by decide) rfl ?_
                            refine gz_goto (tgt := 41) dX12_ways_57 (by decide) ?_
                            refine gz_iload_n dX12_ways_41 rfl rfl ?_
                            refine gz_bipush (v := 18) dX12_ways_42 (by decide) ?_
                            refine gz_icmp_ge (tgt := 60) dX12_ways_44 (by decide) (fun c_44_11 => ?_) (fun c_44_11 => ?_)
                            · exact absurd c_44_11 (by decide)
                            ·
                              try simp only [mIn_0, lgc_lt, lgc_gt, lgc_le, lgc_ge, lgc_eq] at c_44_11
                              try simp only [fl_lt, fl_le, fl_eq, fL_w, fL_lt, fL_le, tm1, tm10k, tm9, tm99, Int32.reduceToInt, Int64.reduceToInt, Int.not_lt, Int.not_le] at c_44_11
                              refine gz_aload_n dX12_ways_47 rfl rfl ?_
                              refine mg_158 hS_12 dX12_ways_48 ?_
                              refine gz_iload_n dX12_ways_51 rfl rfl ?_
                              refine gz_iconst (v := 0) dX12_ways_52 (by decide) ?_
                              refine m_iast 55 hS_12 rfl (N := 18) rfl (vin_T (v := 8) rfl (by decide) (by decide)) dX12_ways_53 (fun f_13 hS_13q => ?_)
                              have hS_13 : mS cy m a f0 (va_up n 53 x1) z (va_up (va_up (va_up (va_up (va_up (va_up (va_up (va_up (va_up (va_up (va_up (va_up F 54 (upd (F 54) (Int32.toNatClampNeg 0) 1)) 54 (upd (upd (F 54) (Int32.toNatClampNeg 0) 1) (Int32.toNatClampNeg 1) 1)) 54 (upd (upd (upd (F 54) (Int32.toNatClampNeg 0) 1) (Int32.toNatClampNeg 1) 1) (Int32.toNatClampNeg 2) 1)) 55 (upd (F 55) (Int32.toNatClampNeg 0) 0)) 55 (upd (upd (F 55) (Int32.toNatClampNeg 0) 0) (Int32.toNatClampNeg 1) 0)) 55 (upd (upd (upd (F 55) (Int32.toNatClampNeg 0) 0) (Int32.toNatClampNeg 1) 0) (Int32.toNatClampNeg 2) 0)) 55 (upd (upd (upd (upd (F 55) (Int32.toNatClampNeg 0) 0) (Int32.toNatClampNeg 1) 0) (Int32.toNatClampNeg 2) 0) (Int32.toNatClampNeg 3) 0)) 55 (upd (upd (upd (upd (upd (F 55) (Int32.toNatClampNeg 0) 0) (Int32.toNatClampNeg 1) 0) (Int32.toNatClampNeg 2) 0) (Int32.toNatClampNeg 3) 0) (Int32.toNatClampNeg 4) 0)) 55 (upd (upd (upd (upd (upd (upd (F 55) (Int32.toNatClampNeg 0) 0) (Int32.toNatClampNeg 1) 0) (Int32.toNatClampNeg 2) 0) (Int32.toNatClampNeg 3) 0) (Int32.toNatClampNeg 4) 0) (Int32.toNatClampNeg 5) 0)) 55 (upd (upd (upd (upd (upd (upd (upd (F 55) (Int32.toNatClampNeg 0) 0) (Int32.toNatClampNeg 1) 0) (Int32.toNatClampNeg 2) 0) (Int32.toNatClampNeg 3) 0) (Int32.toNatClampNeg 4) 0) (Int32.toNatClampNeg 5) 0) (Int32.toNatClampNeg 6) 0)) 55 (upd (upd (upd (upd (upd (upd (upd (upd (F 55) (Int32.toNatClampNeg 0) 0) (Int32.toNatClampNeg 1) 0) (Int32.toNatClampNeg 2) 0) (Int32.toNatClampNeg 3) 0) (Int32.toNatClampNeg 4) 0) (Int32.toNatClampNeg 5) 0) (Int32.toNatClampNeg 6) 0) (Int32.toNatClampNeg 7) 0)) 55 (upd (upd (upd (upd (upd (upd (upd (upd (upd (F 55) (Int32.toNatClampNeg 0) 0) (Int32.toNatClampNeg 1) 0) (Int32.toNatClampNeg 2) 0) (Int32.toNatClampNeg 3) 0) (Int32.toNatClampNeg 4) 0) (Int32.toNatClampNeg 5) 0) (Int32.toNatClampNeg 6) 0) (Int32.toNatClampNeg 7) 0) (Int32.toNatClampNeg 8) 0)) G f_13 := hS_13q
                              refine gz_iinc (v := 9) (lv' := [(2, .int 9), (0, .ref m), (1, .int x1)]) dX12_ways_54 rfl (by decide) (by decide) rfl ?_
                              refine gz_goto (tgt := 41) dX12_ways_57 (by decide) ?_
                              refine gz_iload_n dX12_ways_41 rfl rfl ?_
                              refine gz_bipush (v := 18) dX12_ways_42 (by decide) ?_
                              refine gz_icmp_ge (tgt := 60) dX12_ways_44 (by decide) (fun c_44_12 => ?_) (fun c_44_12 => ?_)
                              · exact absurd c_44_12 (by decide)
                              ·
                                try simp only [mIn_0, lgc_lt, lgc_gt, lgc_le, lgc_ge, lgc_eq] at c_44_12
                                try simp only [fl_lt, fl_le, fl_eq, fL_w, fL_lt, fL_le, tm1, tm10k, tm9, tm99, Int32.reduceToInt, Int64.reduceToInt, Int.not_lt, Int.not_le] at c_44_12
                                refine gz_aload_n dX12_ways_47 rfl rfl ?_
                                refine mg_158 hS_13 dX12_ways_48 ?_
                                refine gz_iload_n dX12_ways_51 rfl rfl ?_
                                refine gz_iconst (v := 0) dX12_ways_52 (by decide) ?_
                                refine m_iast 55 hS_13 rfl (N := 18) rfl (vin_T (v := 9) rfl (by decide) (by decide)) dX12_ways_53 (fun f_14 hS_14q => ?_)
                                have hS_14 : mS cy m a f0 (va_up n 53 x1) z (va_up (va_up (va_up (va_up (va_up (va_up (va_up (va_up (va_up (va_up (va_up (va_up (va_up F 54 (upd (F 54) (Int32.toNatClampNeg 0) 1)) 54 (upd (upd (F 54) (Int32.toNatClampNeg 0) 1) (Int32.toNatClampNeg 1) 1)) 54 (upd (upd (upd (F 54) (Int32.toNatClampNeg 0) 1) (Int32.toNatClampNeg 1) 1) (Int32.toNatClampNeg 2) 1)) 55 (upd (F 55) (Int32.toNatClampNeg 0) 0)) 55 (upd (upd (F 55) (Int32.toNatClampNeg 0) 0) (Int32.toNatClampNeg 1) 0)) 55 (upd (upd (upd (F 55) (Int32.toNatClampNeg 0) 0) (Int32.toNatClampNeg 1) 0) (Int32.toNatClampNeg 2) 0)) 55 (upd (upd (upd (upd (F 55) (Int32.toNatClampNeg 0) 0) (Int32.toNatClampNeg 1) 0) (Int32.toNatClampNeg 2) 0) (Int32.toNatClampNeg 3) 0)) 55 (upd (upd (upd (upd (upd (F 55) (Int32.toNatClampNeg 0) 0) (Int32.toNatClampNeg 1) 0) (Int32.toNatClampNeg 2) 0) (Int32.toNatClampNeg 3) 0) (Int32.toNatClampNeg 4) 0)) 55 (upd (upd (upd (upd (upd (upd (F 55) (Int32.toNatClampNeg 0) 0) (Int32.toNatClampNeg 1) 0) (Int32.toNatClampNeg 2) 0) (Int32.toNatClampNeg 3) 0) (Int32.toNatClampNeg 4) 0) (Int32.toNatClampNeg 5) 0)) 55 (upd (upd (upd (upd (upd (upd (upd (F 55) (Int32.toNatClampNeg 0) 0) (Int32.toNatClampNeg 1) 0) (Int32.toNatClampNeg 2) 0) (Int32.toNatClampNeg 3) 0) (Int32.toNatClampNeg 4) 0) (Int32.toNatClampNeg 5) 0) (Int32.toNatClampNeg 6) 0)) 55 (upd (upd (upd (upd (upd (upd (upd (upd (F 55) (Int32.toNatClampNeg 0) 0) (Int32.toNatClampNeg 1) 0) (Int32.toNatClampNeg 2) 0) (Int32.toNatClampNeg 3) 0) (Int32.toNatClampNeg 4) 0) (Int32.toNatClampNeg 5) 0) (Int32.toNatClampNeg 6) 0) (Int32.toNatClampNeg 7) 0)) 55 (upd (upd (upd (upd (upd (upd (upd (upd (upd (F 55) (Int32.toNatClampNeg 0) 0) (Int32.toNatClampNeg 1) 0) (Int32.toNatClampNeg 2) 0) (Int32.toNatClampNeg 3) 0) (Int32.toNatClampNeg 4) 0) (Int32.toNatClampNeg 5) 0) (Int32.toNatClampNeg 6) 0) (Int32.toNatClampNeg 7) 0) (Int32.toNatClampNeg 8) 0)) 55 (upd (upd (upd (upd (upd (upd (upd (upd (upd (upd (F 55) (Int32.toNatClampNeg 0) 0) (Int32.toNatClampNeg 1) 0) (Int32.toNatClampNeg 2) 0) (Int32.toNatClampNeg 3) 0) (Int32.toNatClampNeg 4) 0) (Int32.toNatClampNeg 5) 0) (Int32.toNatClampNeg 6) 0) (Int32.toNatClampNeg 7) 0) (Int32.toNatClampNeg 8) 0) (Int32.toNatClampNeg 9) 0)) G f_14 := hS_14q
                                refine gz_iinc (v := 10) (lv' := [(2, .int 10), (0, .ref m), (1, .int x1)]) dX12_ways_54 rfl (by decide) (by decide) rfl ?_
                                refine gz_goto (tgt := 41) dX12_ways_57 (by decide) ?_
                                refine gz_iload_n dX12_ways_41 rfl rfl ?_
                                refine gz_bipush (v := 18) dX12_ways_42 (by decide) ?_
                                refine gz_icmp_ge (tgt := 60) dX12_ways_44 (by decide) (fun c_44_13 => ?_) (fun c_44_13 => ?_)
                                · exact absurd c_44_13 (by decide)
                                ·
                                  try simp only [mIn_0, lgc_lt, lgc_gt, lgc_le, lgc_ge, lgc_eq] at c_44_13
                                  try simp only [fl_lt, fl_le, fl_eq, fL_w, fL_lt, fL_le, tm1, tm10k, tm9, tm99, Int32.reduceToInt, Int64.reduceToInt, Int.not_lt, Int.not_le] at c_44_13
                                  refine gz_aload_n dX12_ways_47 rfl rfl ?_
                                  refine mg_158 hS_14 dX12_ways_48 ?_
                                  refine gz_iload_n dX12_ways_51 rfl rfl ?_
                                  refine gz_iconst (v := 0) dX12_ways_52 (by decide) ?_
                                  refine m_iast 55 hS_14 rfl (N := 18) rfl (vin_T (v := 10) rfl (by decide) (by decide)) dX12_ways_53 (fun f_15 hS_15q => ?_)
                                  have hS_15 : mS cy m a f0 (va_up n 53 x1) z (va_up (va_up (va_up (va_up (va_up (va_up (va_up (va_up (va_up (va_up (va_up (va_up (va_up (va_up F 54 (upd (F 54) (Int32.toNatClampNeg 0) 1)) 54 (upd (upd (F 54) (Int32.toNatClampNeg 0) 1) (Int32.toNatClampNeg 1) 1)) 54 (upd (upd (upd (F 54) (Int32.toNatClampNeg 0) 1) (Int32.toNatClampNeg 1) 1) (Int32.toNatClampNeg 2) 1)) 55 (upd (F 55) (Int32.toNatClampNeg 0) 0)) 55 (upd (upd (F 55) (Int32.toNatClampNeg 0) 0) (Int32.toNatClampNeg 1) 0)) 55 (upd (upd (upd (F 55) (Int32.toNatClampNeg 0) 0) (Int32.toNatClampNeg 1) 0) (Int32.toNatClampNeg 2) 0)) 55 (upd (upd (upd (upd (F 55) (Int32.toNatClampNeg 0) 0) (Int32.toNatClampNeg 1) 0) (Int32.toNatClampNeg 2) 0) (Int32.toNatClampNeg 3) 0)) 55 (upd (upd (upd (upd (upd (F 55) (Int32.toNatClampNeg 0) 0) (Int32.toNatClampNeg 1) 0) (Int32.toNatClampNeg 2) 0) (Int32.toNatClampNeg 3) 0) (Int32.toNatClampNeg 4) 0)) 55 (upd (upd (upd (upd (upd (upd (F 55) (Int32.toNatClampNeg 0) 0) (Int32.toNatClampNeg 1) 0) (Int32.toNatClampNeg 2) 0) (Int32.toNatClampNeg 3) 0) (Int32.toNatClampNeg 4) 0) (Int32.toNatClampNeg 5) 0)) 55 (upd (upd (upd (upd (upd (upd (upd (F 55) (Int32.toNatClampNeg 0) 0) (Int32.toNatClampNeg 1) 0) (Int32.toNatClampNeg 2) 0) (Int32.toNatClampNeg 3) 0) (Int32.toNatClampNeg 4) 0) (Int32.toNatClampNeg 5) 0) (Int32.toNatClampNeg 6) 0)) 55 (upd (upd (upd (upd (upd (upd (upd (upd (F 55) (Int32.toNatClampNeg 0) 0) (Int32.toNatClampNeg 1) 0) (Int32.toNatClampNeg 2) 0) (Int32.toNatClampNeg 3) 0) (Int32.toNatClampNeg 4) 0) (Int32.toNatClampNeg 5) 0) (Int32.toNatClampNeg 6) 0) (Int32.toNatClampNeg 7) 0)) 55 (upd (upd (upd (upd (upd (upd (upd (upd (upd (F 55) (Int32.toNatClampNeg 0) 0) (Int32.toNatClampNeg 1) 0) (Int32.toNatClampNeg 2) 0) (Int32.toNatClampNeg 3) 0) (Int32.toNatClampNeg 4) 0) (Int32.toNatClampNeg 5) 0) (Int32.toNatClampNeg 6) 0) (Int32.toNatClampNeg 7) 0) (Int32.toNatClampNeg 8) 0)) 55 (upd (upd (upd (upd (upd (upd (upd (upd (upd (upd (F 55) (Int32.toNatClampNeg 0) 0) (Int32.toNatClampNeg 1) 0) (Int32.toNatClampNeg 2) 0) (Int32.toNatClampNeg 3) 0) (Int32.toNatClampNeg 4) 0) (Int32.toNatClampNeg 5) 0) (Int32.toNatClampNeg 6) 0) (Int32.toNatClampNeg 7) 0) (Int32.toNatClampNeg 8) 0) (Int32.toNatClampNeg 9) 0)) 55 (upd (upd (upd (upd (upd (upd (upd (upd (upd (upd (upd (F 55) (Int32.toNatClampNeg 0) 0) (Int32.toNatClampNeg 1) 0) (Int32.toNatClampNeg 2) 0) (Int32.toNatClampNeg 3) 0) (Int32.toNatClampNeg 4) 0) (Int32.toNatClampNeg 5) 0) (Int32.toNatClampNeg 6) 0) (Int32.toNatClampNeg 7) 0) (Int32.toNatClampNeg 8) 0) (Int32.toNatClampNeg 9) 0) (Int32.toNatClampNeg 10) 0)) G f_15 := hS_15q
                                  refine gz_iinc (v := 11) (lv' := [(2, .int 11), (0, .ref m), (1, .int x1)]) dX12_ways_54 rfl (by decide) (by decide) rfl ?_
                                  refine gz_goto (tgt := 41) dX12_ways_57 (by decide) ?_
                                  refine gz_iload_n dX12_ways_41 rfl rfl ?_
                                  refine gz_bipush (v := 18) dX12_ways_42 (by decide) ?_
                                  refine gz_icmp_ge (tgt := 60) dX12_ways_44 (by decide) (fun c_44_14 => ?_) (fun c_44_14 => ?_)
                                  · exact absurd c_44_14 (by decide)
                                  ·
                                    try simp only [mIn_0, lgc_lt, lgc_gt, lgc_le, lgc_ge, lgc_eq] at c_44_14
                                    try simp only [fl_lt, fl_le, fl_eq, fL_w, fL_lt, fL_le, tm1, tm10k, tm9, tm99, Int32.reduceToInt, Int64.reduceToInt, Int.not_lt, Int.not_le] at c_44_14
                                    refine gz_aload_n dX12_ways_47 rfl rfl ?_
                                    refine mg_158 hS_15 dX12_ways_48 ?_
                                    refine gz_iload_n dX12_ways_51 rfl rfl ?_
                                    refine gz_iconst (v := 0) dX12_ways_52 (by decide) ?_
                                    refine m_iast 55 hS_15 rfl (N := 18) rfl (vin_T (v := 11) rfl (by decide) (by decide)) dX12_ways_53 (fun f_16 hS_16q => ?_)
                                    have hS_16 : mS cy m a f0 (va_up n 53 x1) z (va_up (va_up (va_up (va_up (va_up (va_up (va_up (va_up (va_up (va_up (va_up (va_up (va_up (va_up (va_up F 54 (upd (F 54) (Int32.toNatClampNeg 0) 1)) 54 (upd (upd (F 54) (Int32.toNatClampNeg 0) 1) (Int32.toNatClampNeg 1) 1)) 54 (upd (upd (upd (F 54) (Int32.toNatClampNeg 0) 1) (Int32.toNatClampNeg 1) 1) (Int32.toNatClampNeg 2) 1)) 55 (upd (F 55) (Int32.toNatClampNeg 0) 0)) 55 (upd (upd (F 55) (Int32.toNatClampNeg 0) 0) (Int32.toNatClampNeg 1) 0)) 55 (upd (upd (upd (F 55) (Int32.toNatClampNeg 0) 0) (Int32.toNatClampNeg 1) 0) (Int32.toNatClampNeg 2) 0)) 55 (upd (upd (upd (upd (F 55) (Int32.toNatClampNeg 0) 0) (Int32.toNatClampNeg 1) 0) (Int32.toNatClampNeg 2) 0) (Int32.toNatClampNeg 3) 0)) 55 (upd (upd (upd (upd (upd (F 55) (Int32.toNatClampNeg 0) 0) (Int32.toNatClampNeg 1) 0) (Int32.toNatClampNeg 2) 0) (Int32.toNatClampNeg 3) 0) (Int32.toNatClampNeg 4) 0)) 55 (upd (upd (upd (upd (upd (upd (F 55) (Int32.toNatClampNeg 0) 0) (Int32.toNatClampNeg 1) 0) (Int32.toNatClampNeg 2) 0) (Int32.toNatClampNeg 3) 0) (Int32.toNatClampNeg 4) 0) (Int32.toNatClampNeg 5) 0)) 55 (upd (upd (upd (upd (upd (upd (upd (F 55) (Int32.toNatClampNeg 0) 0) (Int32.toNatClampNeg 1) 0) (Int32.toNatClampNeg 2) 0) (Int32.toNatClampNeg 3) 0) (Int32.toNatClampNeg 4) 0) (Int32.toNatClampNeg 5) 0) (Int32.toNatClampNeg 6) 0)) 55 (upd (upd (upd (upd (upd (upd (upd (upd (F 55) (Int32.toNatClampNeg 0) 0) (Int32.toNatClampNeg 1) 0) (Int32.toNatClampNeg 2) 0) (Int32.toNatClampNeg 3) 0) (Int32.toNatClampNeg 4) 0) (Int32.toNatClampNeg 5) 0) (Int32.toNatClampNeg 6) 0) (Int32.toNatClampNeg 7) 0)) 55 (upd (upd (upd (upd (upd (upd (upd (upd (upd (F 55) (Int32.toNatClampNeg 0) 0) (Int32.toNatClampNeg 1) 0) (Int32.toNatClampNeg 2) 0) (Int32.toNatClampNeg 3) 0) (Int32.toNatClampNeg 4) 0) (Int32.toNatClampNeg 5) 0) (Int32.toNatClampNeg 6) 0) (Int32.toNatClampNeg 7) 0) (Int32.toNatClampNeg 8) 0)) 55 (upd (upd (upd (upd (upd (upd (upd (upd (upd (upd (F 55) (Int32.toNatClampNeg 0) 0) (Int32.toNatClampNeg 1) 0) (Int32.toNatClampNeg 2) 0) (Int32.toNatClampNeg 3) 0) (Int32.toNatClampNeg 4) 0) (Int32.toNatClampNeg 5) 0) (Int32.toNatClampNeg 6) 0) (Int32.toNatClampNeg 7) 0) (Int32.toNatClampNeg 8) 0) (Int32.toNatClampNeg 9) 0)) 55 (upd (upd (upd (upd (upd (upd (upd (upd (upd (upd (upd (F 55) (Int32.toNatClampNeg 0) 0) (Int32.toNatClampNeg 1) 0) (Int32.toNatClampNeg 2) 0) (Int32.toNatClampNeg 3) 0) (Int32.toNatClampNeg 4) 0) (Int32.toNatClampNeg 5) 0) (Int32.toNatClampNeg 6) 0) (Int32.toNatClampNeg 7) 0) (Int32.toNatClampNeg 8) 0) (Int32.toNatClampNeg 9) 0) (Int32.toNatClampNeg 10) 0)) 55 (upd (upd (upd (upd (upd (upd (upd (upd (upd (upd (upd (upd (F 55) (Int32.toNatClampNeg 0) 0) (Int32.toNatClampNeg 1) 0) (Int32.toNatClampNeg 2) 0) (Int32.toNatClampNeg 3) 0) (Int32.toNatClampNeg 4) 0) (Int32.toNatClampNeg 5) 0) (Int32.toNatClampNeg 6) 0) (Int32.toNatClampNeg 7) 0) (Int32.toNatClampNeg 8) 0) (Int32.toNatClampNeg 9) 0) (Int32.toNatClampNeg 10) 0) (Int32.toNatClampNeg 11) 0)) G f_16 := hS_16q
                                    refine gz_iinc (v := 12) (lv' := [(2, .int 12), (0, .ref m), (1, .int x1)]) dX12_ways_54 rfl (by decide) (by decide) rfl ?_
                                    refine gz_goto (tgt := 41) dX12_ways_57 (by decide) ?_
                                    refine gz_iload_n dX12_ways_41 rfl rfl ?_
                                    refine gz_bipush (v := 18) dX12_ways_42 (by decide) ?_
                                    refine gz_icmp_ge (tgt := 60) dX12_ways_44 (by decide) (fun c_44_15 => ?_) (fun c_44_15 => ?_)
                                    · exact absurd c_44_15 (by decide)
                                    ·
                                      try simp only [mIn_0, lgc_lt, lgc_gt, lgc_le, lgc_ge, lgc_eq] at c_44_15
                                      try simp only [fl_lt, fl_le, fl_eq, fL_w, fL_lt, fL_le, tm1, tm10k, tm9, tm99, Int32.reduceToInt, Int64.reduceToInt, Int.not_lt, Int.not_le] at c_44_15
                                      refine gz_aload_n dX12_ways_47 rfl rfl ?_
                                      refine mg_158 hS_16 dX12_ways_48 ?_
                                      refine gz_iload_n dX12_ways_51 rfl rfl ?_
                                      refine gz_iconst (v := 0) dX12_ways_52 (by decide) ?_
                                      refine m_iast 55 hS_16 rfl (N := 18) rfl (vin_T (v := 12) rfl (by decide) (by decide)) dX12_ways_53 (fun f_17 hS_17q => ?_)
                                      have hS_17 : mS cy m a f0 (va_up n 53 x1) z (va_up (va_up (va_up (va_up (va_up (va_up (va_up (va_up (va_up (va_up (va_up (va_up (va_up (va_up (va_up (va_up F 54 (upd (F 54) (Int32.toNatClampNeg 0) 1)) 54 (upd (upd (F 54) (Int32.toNatClampNeg 0) 1) (Int32.toNatClampNeg 1) 1)) 54 (upd (upd (upd (F 54) (Int32.toNatClampNeg 0) 1) (Int32.toNatClampNeg 1) 1) (Int32.toNatClampNeg 2) 1)) 55 (upd (F 55) (Int32.toNatClampNeg 0) 0)) 55 (upd (upd (F 55) (Int32.toNatClampNeg 0) 0) (Int32.toNatClampNeg 1) 0)) 55 (upd (upd (upd (F 55) (Int32.toNatClampNeg 0) 0) (Int32.toNatClampNeg 1) 0) (Int32.toNatClampNeg 2) 0)) 55 (upd (upd (upd (upd (F 55) (Int32.toNatClampNeg 0) 0) (Int32.toNatClampNeg 1) 0) (Int32.toNatClampNeg 2) 0) (Int32.toNatClampNeg 3) 0)) 55 (upd (upd (upd (upd (upd (F 55) (Int32.toNatClampNeg 0) 0) (Int32.toNatClampNeg 1) 0) (Int32.toNatClampNeg 2) 0) (Int32.toNatClampNeg 3) 0) (Int32.toNatClampNeg 4) 0)) 55 (upd (upd (upd (upd (upd (upd (F 55) (Int32.toNatClampNeg 0) 0) (Int32.toNatClampNeg 1) 0) (Int32.toNatClampNeg 2) 0) (Int32.toNatClampNeg 3) 0) (Int32.toNatClampNeg 4) 0) (Int32.toNatClampNeg 5) 0)) 55 (upd (upd (upd (upd (upd (upd (upd (F 55) (Int32.toNatClampNeg 0) 0) (Int32.toNatClampNeg 1) 0) (Int32.toNatClampNeg 2) 0) (Int32.toNatClampNeg 3) 0) (Int32.toNatClampNeg 4) 0) (Int32.toNatClampNeg 5) 0) (Int32.toNatClampNeg 6) 0)) 55 (upd (upd (upd (upd (upd (upd (upd (upd (F 55) (Int32.toNatClampNeg 0) 0) (Int32.toNatClampNeg 1) 0) (Int32.toNatClampNeg 2) 0) (Int32.toNatClampNeg 3) 0) (Int32.toNatClampNeg 4) 0) (Int32.toNatClampNeg 5) 0) (Int32.toNatClampNeg 6) 0) (Int32.toNatClampNeg 7) 0)) 55 (upd (upd (upd (upd (upd (upd (upd (upd (upd (F 55) (Int32.toNatClampNeg 0) 0) (Int32.toNatClampNeg 1) 0) (Int32.toNatClampNeg 2) 0) (Int32.toNatClampNeg 3) 0) (Int32.toNatClampNeg 4) 0) (Int32.toNatClampNeg 5) 0) (Int32.toNatClampNeg 6) 0) (Int32.toNatClampNeg 7) 0) (Int32.toNatClampNeg 8) 0)) 55 (upd (upd (upd (upd (upd (upd (upd (upd (upd (upd (F 55) (Int32.toNatClampNeg 0) 0) (Int32.toNatClampNeg 1) 0) (Int32.toNatClampNeg 2) 0) (Int32.toNatClampNeg 3) 0) (Int32.toNatClampNeg 4) 0) (Int32.toNatClampNeg 5) 0) (Int32.toNatClampNeg 6) 0) (Int32.toNatClampNeg 7) 0) (Int32.toNatClampNeg 8) 0) (Int32.toNatClampNeg 9) 0)) 55 (upd (upd (upd (upd (upd (upd (upd (upd (upd (upd (upd (F 55) (Int32.toNatClampNeg 0) 0) (Int32.toNatClampNeg 1) 0) (Int32.toNatClampNeg 2) 0) (Int32.toNatClampNeg 3) 0) (Int32.toNatClampNeg 4) 0) (Int32.toNatClampNeg 5) 0) (Int32.toNatClampNeg 6) 0) (Int32.toNatClampNeg 7) 0) (Int32.toNatClampNeg 8) 0) (Int32.toNatClampNeg 9) 0) (Int32.toNatClampNeg 10) 0)) 55 (upd (upd (upd (upd (upd (upd (upd (upd (upd (upd (upd (upd (F 55) (Int32.toNatClampNeg 0) 0) (Int32.toNatClampNeg 1) 0) (Int32.toNatClampNeg 2) 0) (Int32.toNatClampNeg 3) 0) (Int32.toNatClampNeg 4) 0) (Int32.toNatClampNeg 5) 0) (Int32.toNatClampNeg 6) 0) (Int32.toNatClampNeg 7) 0) (Int32.toNatClampNeg 8) 0) (Int32.toNatClampNeg 9) 0) (Int32.toNatClampNeg 10) 0) (Int32.toNatClampNeg 11) 0)) 55 (upd (upd (upd (upd (upd (upd (upd (upd (upd (upd (upd (upd (upd (F 55) (Int32.toNatClampNeg 0) 0) (Int32.toNatClampNeg 1) 0) (Int32.toNatClampNeg 2) 0) (Int32.toNatClampNeg 3) 0) (Int32.toNatClampNeg 4) 0) (Int32.toNatClampNeg 5) 0) (Int32.toNatClampNeg 6) 0) (Int32.toNatClampNeg 7) 0) (Int32.toNatClampNeg 8) 0) (Int32.toNatClampNeg 9) 0) (Int32.toNatClampNeg 10) 0) (Int32.toNatClampNeg 11) 0) (Int32.toNatClampNeg 12) 0)) G f_17 := hS_17q
                                      refine gz_iinc (v := 13) (lv' := [(2, .int 13), (0, .ref m), (1, .int x1)]) dX12_ways_54 rfl (by decide) (by decide) rfl ?_
                                      refine gz_goto (tgt := 41) dX12_ways_57 (by decide) ?_
                                      refine gz_iload_n dX12_ways_41 rfl rfl ?_
                                      refine gz_bipush (v := 18) dX12_ways_42 (by decide) ?_
                                      refine gz_icmp_ge (tgt := 60) dX12_ways_44 (by decide) (fun c_44_16 => ?_) (fun c_44_16 => ?_)
                                      · exact absurd c_44_16 (by decide)
                                      ·
                                        try simp only [mIn_0, lgc_lt, lgc_gt, lgc_le, lgc_ge, lgc_eq] at c_44_16
                                        try simp only [fl_lt, fl_le, fl_eq, fL_w, fL_lt, fL_le, tm1, tm10k, tm9, tm99, Int32.reduceToInt, Int64.reduceToInt, Int.not_lt, Int.not_le] at c_44_16
                                        refine gz_aload_n dX12_ways_47 rfl rfl ?_
                                        refine mg_158 hS_17 dX12_ways_48 ?_
                                        refine gz_iload_n dX12_ways_51 rfl rfl ?_
                                        refine gz_iconst (v := 0) dX12_ways_52 (by decide) ?_
                                        refine m_iast 55 hS_17 rfl (N := 18) rfl (vin_T (v := 13) rfl (by decide) (by decide)) dX12_ways_53 (fun f_18 hS_18q => ?_)
                                        have hS_18 : mS cy m a f0 (va_up n 53 x1) z (va_up (va_up (va_up (va_up (va_up (va_up (va_up (va_up (va_up (va_up (va_up (va_up (va_up (va_up (va_up (va_up (va_up F 54 (upd (F 54) (Int32.toNatClampNeg 0) 1)) 54 (upd (upd (F 54) (Int32.toNatClampNeg 0) 1) (Int32.toNatClampNeg 1) 1)) 54 (upd (upd (upd (F 54) (Int32.toNatClampNeg 0) 1) (Int32.toNatClampNeg 1) 1) (Int32.toNatClampNeg 2) 1)) 55 (upd (F 55) (Int32.toNatClampNeg 0) 0)) 55 (upd (upd (F 55) (Int32.toNatClampNeg 0) 0) (Int32.toNatClampNeg 1) 0)) 55 (upd (upd (upd (F 55) (Int32.toNatClampNeg 0) 0) (Int32.toNatClampNeg 1) 0) (Int32.toNatClampNeg 2) 0)) 55 (upd (upd (upd (upd (F 55) (Int32.toNatClampNeg 0) 0) (Int32.toNatClampNeg 1) 0) (Int32.toNatClampNeg 2) 0) (Int32.toNatClampNeg 3) 0)) 55 (upd (upd (upd (upd (upd (F 55) (Int32.toNatClampNeg 0) 0) (Int32.toNatClampNeg 1) 0) (Int32.toNatClampNeg 2) 0) (Int32.toNatClampNeg 3) 0) (Int32.toNatClampNeg 4) 0)) 55 (upd (upd (upd (upd (upd (upd (F 55) (Int32.toNatClampNeg 0) 0) (Int32.toNatClampNeg 1) 0) (Int32.toNatClampNeg 2) 0) (Int32.toNatClampNeg 3) 0) (Int32.toNatClampNeg 4) 0) (Int32.toNatClampNeg 5) 0)) 55 (upd (upd (upd (upd (upd (upd (upd (F 55) (Int32.toNatClampNeg 0) 0) (Int32.toNatClampNeg 1) 0) (Int32.toNatClampNeg 2) 0) (Int32.toNatClampNeg 3) 0) (Int32.toNatClampNeg 4) 0) (Int32.toNatClampNeg 5) 0) (Int32.toNatClampNeg 6) 0)) 55 (upd (upd (upd (upd (upd (upd (upd (upd (F 55) (Int32.toNatClampNeg 0) 0) (Int32.toNatClampNeg 1) 0) (Int32.toNatClampNeg 2) 0) (Int32.toNatClampNeg 3) 0) (Int32.toNatClampNeg 4) 0) (Int32.toNatClampNeg 5) 0) (Int32.toNatClampNeg 6) 0) (Int32.toNatClampNeg 7) 0)) 55 (upd (upd (upd (upd (upd (upd (upd (upd (upd (F 55) (Int32.toNatClampNeg 0) 0) (Int32.toNatClampNeg 1) 0) (Int32.toNatClampNeg 2) 0) (Int32.toNatClampNeg 3) 0) (Int32.toNatClampNeg 4) 0) (Int32.toNatClampNeg 5) 0) (Int32.toNatClampNeg 6) 0) (Int32.toNatClampNeg 7) 0) (Int32.toNatClampNeg 8) 0)) 55 (upd (upd (upd (upd (upd (upd (upd (upd (upd (upd (F 55) (Int32.toNatClampNeg 0) 0) (Int32.toNatClampNeg 1) 0) (Int32.toNatClampNeg 2) 0) (Int32.toNatClampNeg 3) 0) (Int32.toNatClampNeg 4) 0) (Int32.toNatClampNeg 5) 0) (Int32.toNatClampNeg 6) 0) (Int32.toNatClampNeg 7) 0) (Int32.toNatClampNeg 8) 0) (Int32.toNatClampNeg 9) 0)) 55 (upd (upd (upd (upd (upd (upd (upd (upd (upd (upd (upd (F 55) (Int32.toNatClampNeg 0) 0) (Int32.toNatClampNeg 1) 0) (Int32.toNatClampNeg 2) 0) (Int32.toNatClampNeg 3) 0) (Int32.toNatClampNeg 4) 0) (Int32.toNatClampNeg 5) 0) (Int32.toNatClampNeg 6) 0) (Int32.toNatClampNeg 7) 0) (Int32.toNatClampNeg 8) 0) (Int32.toNatClampNeg 9) 0) (Int32.toNatClampNeg 10) 0)) 55 (upd (upd (upd (upd (upd (upd (upd (upd (upd (upd (upd (upd (F 55) (Int32.toNatClampNeg 0) 0) (Int32.toNatClampNeg 1) 0) (Int32.toNatClampNeg 2) 0) (Int32.toNatClampNeg 3) 0) (Int32.toNatClampNeg 4) 0) (Int32.toNatClampNeg 5) 0) (Int32.toNatClampNeg 6) 0) (Int32.toNatClampNeg 7) 0) (Int32.toNatClampNeg 8) 0) (Int32.toNatClampNeg 9) 0) (Int32.toNatClampNeg 10) 0) (Int32.toNatClampNeg 11) 0)) 55 (upd (upd (upd (upd (upd (upd (upd (upd (upd (upd (upd (upd (upd (F 55) (Int32.toNatClampNeg 0) 0) (Int32.toNatClampNeg 1) 0) (Int32.toNatClampNeg 2) 0) (Int32.toNatClampNeg 3) 0) (Int32.toNatClampNeg 4) 0) (Int32.toNatClampNeg 5) 0) (Int32.toNatClampNeg 6) 0) (Int32.toNatClampNeg 7) 0) (Int32.toNatClampNeg 8) 0) (Int32.toNatClampNeg 9) 0) (Int32.toNatClampNeg 10) 0) (Int32.toNatClampNeg 11) 0) (Int32.toNatClampNeg 12) 0)) 55 (upd (upd (upd (upd (upd (upd (upd (upd (upd (upd (upd (upd (upd (upd (F 55) (Int32.toNatClampNeg 0) 0) (Int32.toNatClampNeg 1) 0) (Int32.toNatClampNeg 2) 0) (Int32.toNatClampNeg 3) 0) (Int32.toNatClampNeg 4) 0) (Int32.toNatClampNeg 5) 0) (Int32.toNatClampNeg 6) 0) (Int32.toNatClampNeg 7) 0) (Int32.toNatClampNeg 8) 0) (Int32.toNatClampNeg 9) 0) (Int32.toNatClampNeg 10) 0) (Int32.toNatClampNeg 11) 0) (Int32.toNatClampNeg 12) 0) (Int32.toNatClampNeg 13) 0)) G f_18 := hS_18q
                                        refine gz_iinc (v := 14) (lv' := [(2, .int 14), (0, .ref m), (1, .int x1)]) dX12_ways_54 rfl (by decide) (by decide) rfl ?_
                                        refine gz_goto (tgt := 41) dX12_ways_57 (by decide) ?_
                                        refine gz_iload_n dX12_ways_41 rfl rfl ?_
                                        refine gz_bipush (v := 18) dX12_ways_42 (by decide) ?_
                                        refine gz_icmp_ge (tgt := 60) dX12_ways_44 (by decide) (fun c_44_17 => ?_) (fun c_44_17 => ?_)
                                        · exact absurd c_44_17 (by decide)
                                        ·
                                          try simp only [mIn_0, lgc_lt, lgc_gt, lgc_le, lgc_ge, lgc_eq] at c_44_17
                                          try simp only [fl_lt, fl_le, fl_eq, fL_w, fL_lt, fL_le, tm1, tm10k, tm9, tm99, Int32.reduceToInt, Int64.reduceToInt, Int.not_lt, Int.not_le] at c_44_17
                                          refine gz_aload_n dX12_ways_47 rfl rfl ?_
                                          refine mg_158 hS_18 dX12_ways_48 ?_
                                          refine gz_iload_n dX12_ways_51 rfl rfl ?_
                                          refine gz_iconst (v := 0) dX12_ways_52 (by decide) ?_
                                          refine m_iast 55 hS_18 rfl (N := 18) rfl (vin_T (v := 14) rfl (by decide) (by decide)) dX12_ways_53 (fun f_19 hS_19q => ?_)
                                          have hS_19 : mS cy m a f0 (va_up n 53 x1) z (va_up (va_up (va_up (va_up (va_up (va_up (va_up (va_up (va_up (va_up (va_up (va_up (va_up (va_up (va_up (va_up (va_up (va_up F 54 (upd (F 54) (Int32.toNatClampNeg 0) 1)) 54 (upd (upd (F 54) (Int32.toNatClampNeg 0) 1) (Int32.toNatClampNeg 1) 1)) 54 (upd (upd (upd (F 54) (Int32.toNatClampNeg 0) 1) (Int32.toNatClampNeg 1) 1) (Int32.toNatClampNeg 2) 1)) 55 (upd (F 55) (Int32.toNatClampNeg 0) 0)) 55 (upd (upd (F 55) (Int32.toNatClampNeg 0) 0) (Int32.toNatClampNeg 1) 0)) 55 (upd (upd (upd (F 55) (Int32.toNatClampNeg 0) 0) (Int32.toNatClampNeg 1) 0) (Int32.toNatClampNeg 2) 0)) 55 (upd (upd (upd (upd (F 55) (Int32.toNatClampNeg 0) 0) (Int32.toNatClampNeg 1) 0) (Int32.toNatClampNeg 2) 0) (Int32.toNatClampNeg 3) 0)) 55 (upd (upd (upd (upd (upd (F 55) (Int32.toNatClampNeg 0) 0) (Int32.toNatClampNeg 1) 0) (Int32.toNatClampNeg 2) 0) (Int32.toNatClampNeg 3) 0) (Int32.toNatClampNeg 4) 0)) 55 (upd (upd (upd (upd (upd (upd (F 55) (Int32.toNatClampNeg 0) 0) (Int32.toNatClampNeg 1) 0) (Int32.toNatClampNeg 2) 0) (Int32.toNatClampNeg 3) 0) (Int32.toNatClampNeg 4) 0) (Int32.toNatClampNeg 5) 0)) 55 (upd (upd (upd (upd (upd (upd (upd (F 55) (Int32.toNatClampNeg 0) 0) (Int32.toNatClampNeg 1) 0) (Int32.toNatClampNeg 2) 0) (Int32.toNatClampNeg 3) 0) (Int32.toNatClampNeg 4) 0) (Int32.toNatClampNeg 5) 0) (Int32.toNatClampNeg 6) 0)) 55 (upd (upd (upd (upd (upd (upd (upd (upd (F 55) (Int32.toNatClampNeg 0) 0) (Int32.toNatClampNeg 1) 0) (Int32.toNatClampNeg 2) 0) (Int32.toNatClampNeg 3) 0) (Int32.toNatClampNeg 4) 0) (Int32.toNatClampNeg 5) 0) (Int32.toNatClampNeg 6) 0) (Int32.toNatClampNeg 7) 0)) 55 (upd (upd (upd (upd (upd (upd (upd (upd (upd (F 55) (Int32.toNatClampNeg 0) 0) (Int32.toNatClampNeg 1) 0) (Int32.toNatClampNeg 2) 0) (Int32.toNatClampNeg 3) 0) (Int32.toNatClampNeg 4) 0) (Int32.toNatClampNeg 5) 0) (Int32.toNatClampNeg 6) 0) (Int32.toNatClampNeg 7) 0) (Int32.toNatClampNeg 8) 0)) 55 (upd (upd (upd (upd (upd (upd (upd (upd (upd (upd (F 55) (Int32.toNatClampNeg 0) 0) (Int32.toNatClampNeg 1) 0) (Int32.toNatClampNeg 2) 0) (Int32.toNatClampNeg 3) 0) (Int32.toNatClampNeg 4) 0) (Int32.toNatClampNeg 5) 0) (Int32.toNatClampNeg 6) 0) (Int32.toNatClampNeg 7) 0) (Int32.toNatClampNeg 8) 0) (Int32.toNatClampNeg 9) 0)) 55 (upd (upd (upd (upd (upd (upd (upd (upd (upd (upd (upd (F 55) (Int32.toNatClampNeg 0) 0) (Int32.toNatClampNeg 1) 0) (Int32.toNatClampNeg 2) 0) (Int32.toNatClampNeg 3) 0) (Int32.toNatClampNeg 4) 0) (Int32.toNatClampNeg 5) 0) (Int32.toNatClampNeg 6) 0) (Int32.toNatClampNeg 7) 0) (Int32.toNatClampNeg 8) 0) (Int32.toNatClampNeg 9) 0) (Int32.toNatClampNeg 10) 0)) 55 (upd (upd (upd (upd (upd (upd (upd (upd (upd (upd (upd (upd (F 55) (Int32.toNatClampNeg 0) 0) (Int32.toNatClampNeg 1) 0) (Int32.toNatClampNeg 2) 0) (Int32.toNatClampNeg 3) 0) (Int32.toNatClampNeg 4) 0) (Int32.toNatClampNeg 5) 0) (Int32.toNatClampNeg 6) 0) (Int32.toNatClampNeg 7) 0) (Int32.toNatClampNeg 8) 0) (Int32.toNatClampNeg 9) 0) (Int32.toNatClampNeg 10) 0) (Int32.toNatClampNeg 11) 0)) 55 (upd (upd (upd (upd (upd (upd (upd (upd (upd (upd (upd (upd (upd (F 55) (Int32.toNatClampNeg 0) 0) (Int32.toNatClampNeg 1) 0) (Int32.toNatClampNeg 2) 0) (Int32.toNatClampNeg 3) 0) (Int32.toNatClampNeg 4) 0) (Int32.toNatClampNeg 5) 0) (Int32.toNatClampNeg 6) 0) (Int32.toNatClampNeg 7) 0) (Int32.toNatClampNeg 8) 0) (Int32.toNatClampNeg 9) 0) (Int32.toNatClampNeg 10) 0) (Int32.toNatClampNeg 11) 0) (Int32.toNatClampNeg 12) 0)) 55 (upd (upd (upd (upd (upd (upd (upd (upd (upd (upd (upd (upd (upd (upd (F 55) (Int32.toNatClampNeg 0) 0) (Int32.toNatClampNeg 1) 0) (Int32.toNatClampNeg 2) 0) (Int32.toNatClampNeg 3) 0) (Int32.toNatClampNeg 4) 0) (Int32.toNatClampNeg 5) 0) (Int32.toNatClampNeg 6) 0) (Int32.toNatClampNeg 7) 0) (Int32.toNatClampNeg 8) 0) (Int32.toNatClampNeg 9) 0) (Int32.toNatClampNeg 10) 0) (Int32.toNatClampNeg 11) 0) (Int32.toNatClampNeg 12) 0) (Int32.toNatClampNeg 13) 0)) 55 (upd (upd (upd (upd (upd (upd (upd (upd (upd (upd (upd (upd (upd (upd (upd (F 55) (Int32.toNatClampNeg 0) 0) (Int32.toNatClampNeg 1) 0) (Int32.toNatClampNeg 2) 0) (Int32.toNatClampNeg 3) 0) (Int32.toNatClampNeg 4) 0) (Int32.toNatClampNeg 5) 0) (Int32.toNatClampNeg 6) 0) (Int32.toNatClampNeg 7) 0) (Int32.toNatClampNeg 8) 0) (Int32.toNatClampNeg 9) 0) (Int32.toNatClampNeg 10) 0) (Int32.toNatClampNeg 11) 0) (Int32.toNatClampNeg 12) 0) (Int32.toNatClampNeg 13) 0) (Int32.toNatClampNeg 14) 0)) G f_19 := hS_19q
                                          refine gz_iinc (v := 15) (lv' := [(2, .int 15), (0, .ref m), (1, .int x1)]) dX12_ways_54 rfl (by decide) (by decide) rfl ?_
                                          refine gz_goto (tgt := 41) dX12_ways_57 (by decide) ?_
                                          refine gz_iload_n dX12_ways_41 rfl rfl ?_
                                          refine gz_bipush (v := 18) dX12_ways_42 (by decide) ?_
                                          refine gz_icmp_ge (tgt := 60) dX12_ways_44 (by decide) (fun c_44_18 => ?_) (fun c_44_18 => ?_)
                                          · exact absurd c_44_18 (by decide)
                                          ·
                                            try simp only [mIn_0, lgc_lt, lgc_gt, lgc_le, lgc_ge, lgc_eq] at c_44_18
                                            try simp only [fl_lt, fl_le, fl_eq, fL_w, fL_lt, fL_le, tm1, tm10k, tm9, tm99, Int32.reduceToInt, Int64.reduceToInt, Int.not_lt, Int.not_le] at c_44_18
                                            refine gz_aload_n dX12_ways_47 rfl rfl ?_
                                            refine mg_158 hS_19 dX12_ways_48 ?_
                                            refine gz_iload_n dX12_ways_51 rfl rfl ?_
                                            refine gz_iconst (v := 0) dX12_ways_52 (by decide) ?_
                                            refine m_iast 55 hS_19 rfl (N := 18) rfl (vin_T (v := 15) rfl (by decide) (by decide)) dX12_ways_53 (fun f_20 hS_20q => ?_)
                                            have hS_20 : mS cy m a f0 (va_up n 53 x1) z (va_up (va_up (va_up (va_up (va_up (va_up (va_up (va_up (va_up (va_up (va_up (va_up (va_up (va_up (va_up (va_up (va_up (va_up (va_up F 54 (upd (F 54) (Int32.toNatClampNeg 0) 1)) 54 (upd (upd (F 54) (Int32.toNatClampNeg 0) 1) (Int32.toNatClampNeg 1) 1)) 54 (upd (upd (upd (F 54) (Int32.toNatClampNeg 0) 1) (Int32.toNatClampNeg 1) 1) (Int32.toNatClampNeg 2) 1)) 55 (upd (F 55) (Int32.toNatClampNeg 0) 0)) 55 (upd (upd (F 55) (Int32.toNatClampNeg 0) 0) (Int32.toNatClampNeg 1) 0)) 55 (upd (upd (upd (F 55) (Int32.toNatClampNeg 0) 0) (Int32.toNatClampNeg 1) 0) (Int32.toNatClampNeg 2) 0)) 55 (upd (upd (upd (upd (F 55) (Int32.toNatClampNeg 0) 0) (Int32.toNatClampNeg 1) 0) (Int32.toNatClampNeg 2) 0) (Int32.toNatClampNeg 3) 0)) 55 (upd (upd (upd (upd (upd (F 55) (Int32.toNatClampNeg 0) 0) (Int32.toNatClampNeg 1) 0) (Int32.toNatClampNeg 2) 0) (Int32.toNatClampNeg 3) 0) (Int32.toNatClampNeg 4) 0)) 55 (upd (upd (upd (upd (upd (upd (F 55) (Int32.toNatClampNeg 0) 0) (Int32.toNatClampNeg 1) 0) (Int32.toNatClampNeg 2) 0) (Int32.toNatClampNeg 3) 0) (Int32.toNatClampNeg 4) 0) (Int32.toNatClampNeg 5) 0)) 55 (upd (upd (upd (upd (upd (upd (upd (F 55) (Int32.toNatClampNeg 0) 0) (Int32.toNatClampNeg 1) 0) (Int32.toNatClampNeg 2) 0) (Int32.toNatClampNeg 3) 0) (Int32.toNatClampNeg 4) 0) (Int32.toNatClampNeg 5) 0) (Int32.toNatClampNeg 6) 0)) 55 (upd (upd (upd (upd (upd (upd (upd (upd (F 55) (Int32.toNatClampNeg 0) 0) (Int32.toNatClampNeg 1) 0) (Int32.toNatClampNeg 2) 0) (Int32.toNatClampNeg 3) 0) (Int32.toNatClampNeg 4) 0) (Int32.toNatClampNeg 5) 0) (Int32.toNatClampNeg 6) 0) (Int32.toNatClampNeg 7) 0)) 55 (upd (upd (upd (upd (upd (upd (upd (upd (upd (F 55) (Int32.toNatClampNeg 0) 0) (Int32.toNatClampNeg 1) 0) (Int32.toNatClampNeg 2) 0) (Int32.toNatClampNeg 3) 0) (Int32.toNatClampNeg 4) 0) (Int32.toNatClampNeg 5) 0) (Int32.toNatClampNeg 6) 0) (Int32.toNatClampNeg 7) 0) (Int32.toNatClampNeg 8) 0)) 55 (upd (upd (upd (upd (upd (upd (upd (upd (upd (upd (F 55) (Int32.toNatClampNeg 0) 0) (Int32.toNatClampNeg 1) 0) (Int32.toNatClampNeg 2) 0) (Int32.toNatClampNeg 3) 0) (Int32.toNatClampNeg 4) 0) (Int32.toNatClampNeg 5) 0) (Int32.toNatClampNeg 6) 0) (Int32.toNatClampNeg 7) 0) (Int32.toNatClampNeg 8) 0) (Int32.toNatClampNeg 9) 0)) 55 (upd (upd (upd (upd (upd (upd (upd (upd (upd (upd (upd (F 55) (Int32.toNatClampNeg 0) 0) (Int32.toNatClampNeg 1) 0) (Int32.toNatClampNeg 2) 0) (Int32.toNatClampNeg 3) 0) (Int32.toNatClampNeg 4) 0) (Int32.toNatClampNeg 5) 0) (Int32.toNatClampNeg 6) 0) (Int32.toNatClampNeg 7) 0) (Int32.toNatClampNeg 8) 0) (Int32.toNatClampNeg 9) 0) (Int32.toNatClampNeg 10) 0)) 55 (upd (upd (upd (upd (upd (upd (upd (upd (upd (upd (upd (upd (F 55) (Int32.toNatClampNeg 0) 0) (Int32.toNatClampNeg 1) 0) (Int32.toNatClampNeg 2) 0) (Int32.toNatClampNeg 3) 0) (Int32.toNatClampNeg 4) 0) (Int32.toNatClampNeg 5) 0) (Int32.toNatClampNeg 6) 0) (Int32.toNatClampNeg 7) 0) (Int32.toNatClampNeg 8) 0) (Int32.toNatClampNeg 9) 0) (Int32.toNatClampNeg 10) 0) (Int32.toNatClampNeg 11) 0)) 55 (upd (upd (upd (upd (upd (upd (upd (upd (upd (upd (upd (upd (upd (F 55) (Int32.toNatClampNeg 0) 0) (Int32.toNatClampNeg 1) 0) (Int32.toNatClampNeg 2) 0) (Int32.toNatClampNeg 3) 0) (Int32.toNatClampNeg 4) 0) (Int32.toNatClampNeg 5) 0) (Int32.toNatClampNeg 6) 0) (Int32.toNatClampNeg 7) 0) (Int32.toNatClampNeg 8) 0) (Int32.toNatClampNeg 9) 0) (Int32.toNatClampNeg 10) 0) (Int32.toNatClampNeg 11) 0) (Int32.toNatClampNeg 12) 0)) 55 (upd (upd (upd (upd (upd (upd (upd (upd (upd (upd (upd (upd (upd (upd (F 55) (Int32.toNatClampNeg 0) 0) (Int32.toNatClampNeg 1) 0) (Int32.toNatClampNeg 2) 0) (Int32.toNatClampNeg 3) 0) (Int32.toNatClampNeg 4) 0) (Int32.toNatClampNeg 5) 0) (Int32.toNatClampNeg 6) 0) (Int32.toNatClampNeg 7) 0) (Int32.toNatClampNeg 8) 0) (Int32.toNatClampNeg 9) 0) (Int32.toNatClampNeg 10) 0) (Int32.toNatClampNeg 11) 0) (Int32.toNatClampNeg 12) 0) (Int32.toNatClampNeg 13) 0)) 55 (upd (upd (upd (upd (upd (upd (upd (upd (upd (upd (upd (upd (upd (upd (upd (F 55) (Int32.toNatClampNeg 0) 0) (Int32.toNatClampNeg 1) 0) (Int32.toNatClampNeg 2) 0) (Int32.toNatClampNeg 3) 0) (Int32.toNatClampNeg 4) 0) (Int32.toNatClampNeg 5) 0) (Int32.toNatClampNeg 6) 0) (Int32.toNatClampNeg 7) 0) (Int32.toNatClampNeg 8) 0) (Int32.toNatClampNeg 9) 0) (Int32.toNatClampNeg 10) 0) (Int32.toNatClampNeg 11) 0) (Int32.toNatClampNeg 12) 0) (Int32.toNatClampNeg 13) 0) (Int32.toNatClampNeg 14) 0)) 55 (upd (upd (upd (upd (upd (upd (upd (upd (upd (upd (upd (upd (upd (upd (upd (upd (F 55) (Int32.toNatClampNeg 0) 0) (Int32.toNatClampNeg 1) 0) (Int32.toNatClampNeg 2) 0) (Int32.toNatClampNeg 3) 0) (Int32.toNatClampNeg 4) 0) (Int32.toNatClampNeg 5) 0) (Int32.toNatClampNeg 6) 0) (Int32.toNatClampNeg 7) 0) (Int32.toNatClampNeg 8) 0) (Int32.toNatClampNeg 9) 0) (Int32.toNatClampNeg 10) 0) (Int32.toNatClampNeg 11) 0) (Int32.toNatClampNeg 12) 0) (Int32.toNatClampNeg 13) 0) (Int32.toNatClampNeg 14) 0) (Int32.toNatClampNeg 15) 0)) G f_20 := hS_20q
                                            refine gz_iinc (v := 16) (lv' := [(2, .int 16), (0, .ref m), (1, .int x1)]) dX12_ways_54 rfl (by decide) (by decide) rfl ?_
                                            refine gz_goto (tgt := 41) dX12_ways_57 (by decide) ?_
                                            refine gz_iload_n dX12_ways_41 rfl rfl ?_
                                            refine gz_bipush (v := 18) dX12_ways_42 (by decide) ?_
                                            refine gz_icmp_ge (tgt := 60) dX12_ways_44 (by decide) (fun c_44_19 => ?_) (fun c_44_19 => ?_)
                                            · exact absurd c_44_19 (by decide)
                                            ·
                                              try simp only [mIn_0, lgc_lt, lgc_gt, lgc_le, lgc_ge, lgc_eq] at c_44_19
                                              try simp only [fl_lt, fl_le, fl_eq, fL_w, fL_lt, fL_le, tm1, tm10k, tm9, tm99, Int32.reduceToInt, Int64.reduceToInt, Int.not_lt, Int.not_le] at c_44_19
                                              refine gz_aload_n dX12_ways_47 rfl rfl ?_
                                              refine mg_158 hS_20 dX12_ways_48 ?_
                                              refine gz_iload_n dX12_ways_51 rfl rfl ?_
                                              refine gz_iconst (v := 0) dX12_ways_52 (by decide) ?_
                                              refine m_iast 55 hS_20 rfl (N := 18) rfl (vin_T (v := 16) rfl (by decide) (by decide)) dX12_ways_53 (fun f_21 hS_21q => ?_)
                                              have hS_21 : mS cy m a f0 (va_up n 53 x1) z (va_up (va_up (va_up (va_up (va_up (va_up (va_up (va_up (va_up (va_up (va_up (va_up (va_up (va_up (va_up (va_up (va_up (va_up (va_up (va_up F 54 (upd (F 54) (Int32.toNatClampNeg 0) 1)) 54 (upd (upd (F 54) (Int32.toNatClampNeg 0) 1) (Int32.toNatClampNeg 1) 1)) 54 (upd (upd (upd (F 54) (Int32.toNatClampNeg 0) 1) (Int32.toNatClampNeg 1) 1) (Int32.toNatClampNeg 2) 1)) 55 (upd (F 55) (Int32.toNatClampNeg 0) 0)) 55 (upd (upd (F 55) (Int32.toNatClampNeg 0) 0) (Int32.toNatClampNeg 1) 0)) 55 (upd (upd (upd (F 55) (Int32.toNatClampNeg 0) 0) (Int32.toNatClampNeg 1) 0) (Int32.toNatClampNeg 2) 0)) 55 (upd (upd (upd (upd (F 55) (Int32.toNatClampNeg 0) 0) (Int32.toNatClampNeg 1) 0) (Int32.toNatClampNeg 2) 0) (Int32.toNatClampNeg 3) 0)) 55 (upd (upd (upd (upd (upd (F 55) (Int32.toNatClampNeg 0) 0) (Int32.toNatClampNeg 1) 0) (Int32.toNatClampNeg 2) 0) (Int32.toNatClampNeg 3) 0) (Int32.toNatClampNeg 4) 0)) 55 (upd (upd (upd (upd (upd (upd (F 55) (Int32.toNatClampNeg 0) 0) (Int32.toNatClampNeg 1) 0) (Int32.toNatClampNeg 2) 0) (Int32.toNatClampNeg 3) 0) (Int32.toNatClampNeg 4) 0) (Int32.toNatClampNeg 5) 0)) 55 (upd (upd (upd (upd (upd (upd (upd (F 55) (Int32.toNatClampNeg 0) 0) (Int32.toNatClampNeg 1) 0) (Int32.toNatClampNeg 2) 0) (Int32.toNatClampNeg 3) 0) (Int32.toNatClampNeg 4) 0) (Int32.toNatClampNeg 5) 0) (Int32.toNatClampNeg 6) 0)) 55 (upd (upd (upd (upd (upd (upd (upd (upd (F 55) (Int32.toNatClampNeg 0) 0) (Int32.toNatClampNeg 1) 0) (Int32.toNatClampNeg 2) 0) (Int32.toNatClampNeg 3) 0) (Int32.toNatClampNeg 4) 0) (Int32.toNatClampNeg 5) 0) (Int32.toNatClampNeg 6) 0) (Int32.toNatClampNeg 7) 0)) 55 (upd (upd (upd (upd (upd (upd (upd (upd (upd (F 55) (Int32.toNatClampNeg 0) 0) (Int32.toNatClampNeg 1) 0) (Int32.toNatClampNeg 2) 0) (Int32.toNatClampNeg 3) 0) (Int32.toNatClampNeg 4) 0) (Int32.toNatClampNeg 5) 0) (Int32.toNatClampNeg 6) 0) (Int32.toNatClampNeg 7) 0) (Int32.toNatClampNeg 8) 0)) 55 (upd (upd (upd (upd (upd (upd (upd (upd (upd (upd (F 55) (Int32.toNatClampNeg 0) 0) (Int32.toNatClampNeg 1) 0) (Int32.toNatClampNeg 2) 0) (Int32.toNatClampNeg 3) 0) (Int32.toNatClampNeg 4) 0) (Int32.toNatClampNeg 5) 0) (Int32.toNatClampNeg 6) 0) (Int32.toNatClampNeg 7) 0) (Int32.toNatClampNeg 8) 0) (Int32.toNatClampNeg 9) 0)) 55 (upd (upd (upd (upd (upd (upd (upd (upd (upd (upd (upd (F 55) (Int32.toNatClampNeg 0) 0) (Int32.toNatClampNeg 1) 0) (Int32.toNatClampNeg 2) 0) (Int32.toNatClampNeg 3) 0) (Int32.toNatClampNeg 4) 0) (Int32.toNatClampNeg 5) 0) (Int32.toNatClampNeg 6) 0) (Int32.toNatClampNeg 7) 0) (Int32.toNatClampNeg 8) 0) (Int32.toNatClampNeg 9) 0) (Int32.toNatClampNeg 10) 0)) 55 (upd (upd (upd (upd (upd (upd (upd (upd (upd (upd (upd (upd (F 55) (Int32.toNatClampNeg 0) 0) (Int32.toNatClampNeg 1) 0) (Int32.toNatClampNeg 2) 0) (Int32.toNatClampNeg 3) 0) (Int32.toNatClampNeg 4) 0) (Int32.toNatClampNeg 5) 0) (Int32.toNatClampNeg 6) 0) (Int32.toNatClampNeg 7) 0) (Int32.toNatClampNeg 8) 0) (Int32.toNatClampNeg 9) 0) (Int32.toNatClampNeg 10) 0) (Int32.toNatClampNeg 11) 0)) 55 (upd (upd (upd (upd (upd (upd (upd (upd (upd (upd (upd (upd (upd (F 55) (Int32.toNatClampNeg 0) 0) (Int32.toNatClampNeg 1) 0) (Int32.toNatClampNeg 2) 0) (Int32.toNatClampNeg 3) 0) (Int32.toNatClampNeg 4) 0) (Int32.toNatClampNeg 5) 0) (Int32.toNatClampNeg 6) 0) (Int32.toNatClampNeg 7) 0) (Int32.toNatClampNeg 8) 0) (Int32.toNatClampNeg 9) 0) (Int32.toNatClampNeg 10) 0) (Int32.toNatClampNeg 11) 0) (Int32.toNatClampNeg 12) 0)) 55 (upd (upd (upd (upd (upd (upd (upd (upd (upd (upd (upd (upd (upd (upd (F 55) (Int32.toNatClampNeg 0) 0) (Int32.toNatClampNeg 1) 0) (Int32.toNatClampNeg 2) 0) (Int32.toNatClampNeg 3) 0) (Int32.toNatClampNeg 4) 0) (Int32.toNatClampNeg 5) 0) (Int32.toNatClampNeg 6) 0) (Int32.toNatClampNeg 7) 0) (Int32.toNatClampNeg 8) 0) (Int32.toNatClampNeg 9) 0) (Int32.toNatClampNeg 10) 0) (Int32.toNatClampNeg 11) 0) (Int32.toNatClampNeg 12) 0) (Int32.toNatClampNeg 13) 0)) 55 (upd (upd (upd (upd (upd (upd (upd (upd (upd (upd (upd (upd (upd (upd (upd (F 55) (Int32.toNatClampNeg 0) 0) (Int32.toNatClampNeg 1) 0) (Int32.toNatClampNeg 2) 0) (Int32.toNatClampNeg 3) 0) (Int32.toNatClampNeg 4) 0) (Int32.toNatClampNeg 5) 0) (Int32.toNatClampNeg 6) 0) (Int32.toNatClampNeg 7) 0) (Int32.toNatClampNeg 8) 0) (Int32.toNatClampNeg 9) 0) (Int32.toNatClampNeg 10) 0) (Int32.toNatClampNeg 11) 0) (Int32.toNatClampNeg 12) 0) (Int32.toNatClampNeg 13) 0) (Int32.toNatClampNeg 14) 0)) 55 (upd (upd (upd (upd (upd (upd (upd (upd (upd (upd (upd (upd (upd (upd (upd (upd (F 55) (Int32.toNatClampNeg 0) 0) (Int32.toNatClampNeg 1) 0) (Int32.toNatClampNeg 2) 0) (Int32.toNatClampNeg 3) 0) (Int32.toNatClampNeg 4) 0) (Int32.toNatClampNeg 5) 0) (Int32.toNatClampNeg 6) 0) (Int32.toNatClampNeg 7) 0) (Int32.toNatClampNeg 8) 0) (Int32.toNatClampNeg 9) 0) (Int32.toNatClampNeg 10) 0) (Int32.toNatClampNeg 11) 0) (Int32.toNatClampNeg 12) 0) (Int32.toNatClampNeg 13) 0) (Int32.toNatClampNeg 14) 0) (Int32.toNatClampNeg 15) 0)) 55 (upd (upd (upd (upd (upd (upd (upd (upd (upd (upd (upd (upd (upd (upd (upd (upd (upd (F 55) (Int32.toNatClampNeg 0) 0) (Int32.toNatClampNeg 1) 0) (Int32.toNatClampNeg 2) 0) (Int32.toNatClampNeg 3) 0) (Int32.toNatClampNeg 4) 0) (Int32.toNatClampNeg 5) 0) (Int32.toNatClampNeg 6) 0) (Int32.toNatClampNeg 7) 0) (Int32.toNatClampNeg 8) 0) (Int32.toNatClampNeg 9) 0) (Int32.toNatClampNeg 10) 0) (Int32.toNatClampNeg 11) 0) (Int32.toNatClampNeg 12) 0) (Int32.toNatClampNeg 13) 0) (Int32.toNatClampNeg 14) 0) (Int32.toNatClampNeg 15) 0) (Int32.toNatClampNeg 16) 0)) G f_21 := hS_21q
                                              refine gz_iinc (v := 17) (lv' := [(2, .int 17), (0, .ref m), (1, .int x1)]) dX12_ways_54 rfl (by decide) (by decide) rfl ?_
                                              refine gz_goto (tgt := 41) dX12_ways_57 (by decide) ?_
                                              refine gz_iload_n dX12_ways_41 rfl rfl ?_
                                              refine gz_bipush (v := 18) dX12_ways_42 (by decide) ?_
                                              refine gz_icmp_ge (tgt := 60) dX12_ways_44 (by decide) (fun c_44_20 => ?_) (fun c_44_20 => ?_)
                                              · exact absurd c_44_20 (by decide)
                                              ·
                                                try simp only [mIn_0, lgc_lt, lgc_gt, lgc_le, lgc_ge, lgc_eq] at c_44_20
                                                try simp only [fl_lt, fl_le, fl_eq, fL_w, fL_lt, fL_le, tm1, tm10k, tm9, tm99, Int32.reduceToInt, Int64.reduceToInt, Int.not_lt, Int.not_le] at c_44_20
                                                refine gz_aload_n dX12_ways_47 rfl rfl ?_
                                                refine mg_158 hS_21 dX12_ways_48 ?_
                                                refine gz_iload_n dX12_ways_51 rfl rfl ?_
                                                refine gz_iconst (v := 0) dX12_ways_52 (by decide) ?_
                                                refine m_iast 55 hS_21 rfl (N := 18) rfl (vin_T (v := 17) rfl (by decide) (by decide)) dX12_ways_53 (fun f_22 hS_22q => ?_)
                                                have hS_22 : mS cy m a f0 (va_up n 53 x1) z (va_up (va_up (va_up (va_up (va_up (va_up (va_up (va_up (va_up (va_up (va_up (va_up (va_up (va_up (va_up (va_up (va_up (va_up (va_up (va_up (va_up F 54 (upd (F 54) (Int32.toNatClampNeg 0) 1)) 54 (upd (upd (F 54) (Int32.toNatClampNeg 0) 1) (Int32.toNatClampNeg 1) 1)) 54 (upd (upd (upd (F 54) (Int32.toNatClampNeg 0) 1) (Int32.toNatClampNeg 1) 1) (Int32.toNatClampNeg 2) 1)) 55 (upd (F 55) (Int32.toNatClampNeg 0) 0)) 55 (upd (upd (F 55) (Int32.toNatClampNeg 0) 0) (Int32.toNatClampNeg 1) 0)) 55 (upd (upd (upd (F 55) (Int32.toNatClampNeg 0) 0) (Int32.toNatClampNeg 1) 0) (Int32.toNatClampNeg 2) 0)) 55 (upd (upd (upd (upd (F 55) (Int32.toNatClampNeg 0) 0) (Int32.toNatClampNeg 1) 0) (Int32.toNatClampNeg 2) 0) (Int32.toNatClampNeg 3) 0)) 55 (upd (upd (upd (upd (upd (F 55) (Int32.toNatClampNeg 0) 0) (Int32.toNatClampNeg 1) 0) (Int32.toNatClampNeg 2) 0) (Int32.toNatClampNeg 3) 0) (Int32.toNatClampNeg 4) 0)) 55 (upd (upd (upd (upd (upd (upd (F 55) (Int32.toNatClampNeg 0) 0) (Int32.toNatClampNeg 1) 0) (Int32.toNatClampNeg 2) 0) (Int32.toNatClampNeg 3) 0) (Int32.toNatClampNeg 4) 0) (Int32.toNatClampNeg 5) 0)) 55 (upd (upd (upd (upd (upd (upd (upd (F 55) (Int32.toNatClampNeg 0) 0) (Int32.toNatClampNeg 1) 0) (Int32.toNatClampNeg 2) 0) (Int32.toNatClampNeg 3) 0) (Int32.toNatClampNeg 4) 0) (Int32.toNatClampNeg 5) 0) (Int32.toNatClampNeg 6) 0)) 55 (upd (upd (upd (upd (upd (upd (upd (upd (F 55) (Int32.toNatClampNeg 0) 0) (Int32.toNatClampNeg 1) 0) (Int32.toNatClampNeg 2) 0) (Int32.toNatClampNeg 3) 0) (Int32.toNatClampNeg 4) 0) (Int32.toNatClampNeg 5) 0) (Int32.toNatClampNeg 6) 0) (Int32.toNatClampNeg 7) 0)) 55 (upd (upd (upd (upd (upd (upd (upd (upd (upd (F 55) (Int32.toNatClampNeg 0) 0) (Int32.toNatClampNeg 1) 0) (Int32.toNatClampNeg 2) 0) (Int32.toNatClampNeg 3) 0) (Int32.toNatClampNeg 4) 0) (Int32.toNatClampNeg 5) 0) (Int32.toNatClampNeg 6) 0) (Int32.toNatClampNeg 7) 0) (Int32.toNatClampNeg 8) 0)) 55 (upd (upd (upd (upd (upd (upd (upd (upd (upd (upd (F 55) (Int32.toNatClampNeg 0) 0) (Int32.toNatClampNeg 1) 0) (Int32.toNatClampNeg 2) 0) (Int32.toNatClampNeg 3) 0) (Int32.toNatClampNeg 4) 0) (Int32.toNatClampNeg 5) 0) (Int32.toNatClampNeg 6) 0) (Int32.toNatClampNeg 7) 0) (Int32.toNatClampNeg 8) 0) (Int32.toNatClampNeg 9) 0)) 55 (upd (upd (upd (upd (upd (upd (upd (upd (upd (upd (upd (F 55) (Int32.toNatClampNeg 0) 0) (Int32.toNatClampNeg 1) 0) (Int32.toNatClampNeg 2) 0) (Int32.toNatClampNeg 3) 0) (Int32.toNatClampNeg 4) 0) (Int32.toNatClampNeg 5) 0) (Int32.toNatClampNeg 6) 0) (Int32.toNatClampNeg 7) 0) (Int32.toNatClampNeg 8) 0) (Int32.toNatClampNeg 9) 0) (Int32.toNatClampNeg 10) 0)) 55 (upd (upd (upd (upd (upd (upd (upd (upd (upd (upd (upd (upd (F 55) (Int32.toNatClampNeg 0) 0) (Int32.toNatClampNeg 1) 0) (Int32.toNatClampNeg 2) 0) (Int32.toNatClampNeg 3) 0) (Int32.toNatClampNeg 4) 0) (Int32.toNatClampNeg 5) 0) (Int32.toNatClampNeg 6) 0) (Int32.toNatClampNeg 7) 0) (Int32.toNatClampNeg 8) 0) (Int32.toNatClampNeg 9) 0) (Int32.toNatClampNeg 10) 0) (Int32.toNatClampNeg 11) 0)) 55 (upd (upd (upd (upd (upd (upd (upd (upd (upd (upd (upd (upd (upd (F 55) (Int32.toNatClampNeg 0) 0) (Int32.toNatClampNeg 1) 0) (Int32.toNatClampNeg 2) 0) (Int32.toNatClampNeg 3) 0) (Int32.toNatClampNeg 4) 0) (Int32.toNatClampNeg 5) 0) (Int32.toNatClampNeg 6) 0) (Int32.toNatClampNeg 7) 0) (Int32.toNatClampNeg 8) 0) (Int32.toNatClampNeg 9) 0) (Int32.toNatClampNeg 10) 0) (Int32.toNatClampNeg 11) 0) (Int32.toNatClampNeg 12) 0)) 55 (upd (upd (upd (upd (upd (upd (upd (upd (upd (upd (upd (upd (upd (upd (F 55) (Int32.toNatClampNeg 0) 0) (Int32.toNatClampNeg 1) 0) (Int32.toNatClampNeg 2) 0) (Int32.toNatClampNeg 3) 0) (Int32.toNatClampNeg 4) 0) (Int32.toNatClampNeg 5) 0) (Int32.toNatClampNeg 6) 0) (Int32.toNatClampNeg 7) 0) (Int32.toNatClampNeg 8) 0) (Int32.toNatClampNeg 9) 0) (Int32.toNatClampNeg 10) 0) (Int32.toNatClampNeg 11) 0) (Int32.toNatClampNeg 12) 0) (Int32.toNatClampNeg 13) 0)) 55 (upd (upd (upd (upd (upd (upd (upd (upd (upd (upd (upd (upd (upd (upd (upd (F 55) (Int32.toNatClampNeg 0) 0) (Int32.toNatClampNeg 1) 0) (Int32.toNatClampNeg 2) 0) (Int32.toNatClampNeg 3) 0) (Int32.toNatClampNeg 4) 0) (Int32.toNatClampNeg 5) 0) (Int32.toNatClampNeg 6) 0) (Int32.toNatClampNeg 7) 0) (Int32.toNatClampNeg 8) 0) (Int32.toNatClampNeg 9) 0) (Int32.toNatClampNeg 10) 0) (Int32.toNatClampNeg 11) 0) (Int32.toNatClampNeg 12) 0) (Int32.toNatClampNeg 13) 0) (Int32.toNatClampNeg 14) 0)) 55 (upd (upd (upd (upd (upd (upd (upd (upd (upd (upd (upd (upd (upd (upd (upd (upd (F 55) (Int32.toNatClampNeg 0) 0) (Int32.toNatClampNeg 1) 0) (Int32.toNatClampNeg 2) 0) (Int32.toNatClampNeg 3) 0) (Int32.toNatClampNeg 4) 0) (Int32.toNatClampNeg 5) 0) (Int32.toNatClampNeg 6) 0) (Int32.toNatClampNeg 7) 0) (Int32.toNatClampNeg 8) 0) (Int32.toNatClampNeg 9) 0) (Int32.toNatClampNeg 10) 0) (Int32.toNatClampNeg 11) 0) (Int32.toNatClampNeg 12) 0) (Int32.toNatClampNeg 13) 0) (Int32.toNatClampNeg 14) 0) (Int32.toNatClampNeg 15) 0)) 55 (upd (upd (upd (upd (upd (upd (upd (upd (upd (upd (upd (upd (upd (upd (upd (upd (upd (F 55) (Int32.toNatClampNeg 0) 0) (Int32.toNatClampNeg 1) 0) (Int32.toNatClampNeg 2) 0) (Int32.toNatClampNeg 3) 0) (Int32.toNatClampNeg 4) 0) (Int32.toNatClampNeg 5) 0) (Int32.toNatClampNeg 6) 0) (Int32.toNatClampNeg 7) 0) (Int32.toNatClampNeg 8) 0) (Int32.toNatClampNeg 9) 0) (Int32.toNatClampNeg 10) 0) (Int32.toNatClampNeg 11) 0) (Int32.toNatClampNeg 12) 0) (Int32.toNatClampNeg 13) 0) (Int32.toNatClampNeg 14) 0) (Int32.toNatClampNeg 15) 0) (Int32.toNatClampNeg 16) 0)) 55 (upd (upd (upd (upd (upd (upd (upd (upd (upd (upd (upd (upd (upd (upd (upd (upd (upd (upd (F 55) (Int32.toNatClampNeg 0) 0) (Int32.toNatClampNeg 1) 0) (Int32.toNatClampNeg 2) 0) (Int32.toNatClampNeg 3) 0) (Int32.toNatClampNeg 4) 0) (Int32.toNatClampNeg 5) 0) (Int32.toNatClampNeg 6) 0) (Int32.toNatClampNeg 7) 0) (Int32.toNatClampNeg 8) 0) (Int32.toNatClampNeg 9) 0) (Int32.toNatClampNeg 10) 0) (Int32.toNatClampNeg 11) 0) (Int32.toNatClampNeg 12) 0) (Int32.toNatClampNeg 13) 0) (Int32.toNatClampNeg 14) 0) (Int32.toNatClampNeg 15) 0) (Int32.toNatClampNeg 16) 0) (Int32.toNatClampNeg 17) 0)) G f_22 := hS_22q
                                                refine gz_iinc (v := 18) (lv' := [(2, .int 18), (0, .ref m), (1, .int x1)]) dX12_ways_54 rfl (by decide) (by decide) rfl ?_
                                                refine gz_goto (tgt := 41) dX12_ways_57 (by decide) ?_
                                                refine gz_iload_n dX12_ways_41 rfl rfl ?_
                                                refine gz_bipush (v := 18) dX12_ways_42 (by decide) ?_
                                                refine gz_icmp_ge (tgt := 60) dX12_ways_44 (by decide) (fun c_44_21 => ?_) (fun c_44_21 => ?_)
                                                ·
                                                  try simp only [mIn_0, lgc_lt, lgc_gt, lgc_le, lgc_ge, lgc_eq] at c_44_21
                                                  try simp only [fl_lt, fl_le, fl_eq, fL_w, fL_lt, fL_le, tm1, tm10k, tm9, tm99, Int32.reduceToInt, Int64.reduceToInt, Int.not_lt, Int.not_le] at c_44_21
                                                  refine gz_iconst (v := 1) dX12_ways_60 (by decide) ?_
                                                  have hxx : fx [53] [] [54, 55] [] n z F G (va_up n 53 x1) z (va_up (va_up (va_up (va_up (va_up (va_up (va_up (va_up (va_up (va_up (va_up (va_up (va_up (va_up (va_up (va_up (va_up (va_up (va_up (va_up (va_up F 54 (upd (F 54) (Int32.toNatClampNeg 0) 1)) 54 (upd (upd (F 54) (Int32.toNatClampNeg 0) 1) (Int32.toNatClampNeg 1) 1)) 54 (upd (upd (upd (F 54) (Int32.toNatClampNeg 0) 1) (Int32.toNatClampNeg 1) 1) (Int32.toNatClampNeg 2) 1)) 55 (upd (F 55) (Int32.toNatClampNeg 0) 0)) 55 (upd (upd (F 55) (Int32.toNatClampNeg 0) 0) (Int32.toNatClampNeg 1) 0)) 55 (upd (upd (upd (F 55) (Int32.toNatClampNeg 0) 0) (Int32.toNatClampNeg 1) 0) (Int32.toNatClampNeg 2) 0)) 55 (upd (upd (upd (upd (F 55) (Int32.toNatClampNeg 0) 0) (Int32.toNatClampNeg 1) 0) (Int32.toNatClampNeg 2) 0) (Int32.toNatClampNeg 3) 0)) 55 (upd (upd (upd (upd (upd (F 55) (Int32.toNatClampNeg 0) 0) (Int32.toNatClampNeg 1) 0) (Int32.toNatClampNeg 2) 0) (Int32.toNatClampNeg 3) 0) (Int32.toNatClampNeg 4) 0)) 55 (upd (upd (upd (upd (upd (upd (F 55) (Int32.toNatClampNeg 0) 0) (Int32.toNatClampNeg 1) 0) (Int32.toNatClampNeg 2) 0) (Int32.toNatClampNeg 3) 0) (Int32.toNatClampNeg 4) 0) (Int32.toNatClampNeg 5) 0)) 55 (upd (upd (upd (upd (upd (upd (upd (F 55) (Int32.toNatClampNeg 0) 0) (Int32.toNatClampNeg 1) 0) (Int32.toNatClampNeg 2) 0) (Int32.toNatClampNeg 3) 0) (Int32.toNatClampNeg 4) 0) (Int32.toNatClampNeg 5) 0) (Int32.toNatClampNeg 6) 0)) 55 (upd (upd (upd (upd (upd (upd (upd (upd (F 55) (Int32.toNatClampNeg 0) 0) (Int32.toNatClampNeg 1) 0) (Int32.toNatClampNeg 2) 0) (Int32.toNatClampNeg 3) 0) (Int32.toNatClampNeg 4) 0) (Int32.toNatClampNeg 5) 0) (Int32.toNatClampNeg 6) 0) (Int32.toNatClampNeg 7) 0)) 55 (upd (upd (upd (upd (upd (upd (upd (upd (upd (F 55) (Int32.toNatClampNeg 0) 0) (Int32.toNatClampNeg 1) 0) (Int32.toNatClampNeg 2) 0) (Int32.toNatClampNeg 3) 0) (Int32.toNatClampNeg 4) 0) (Int32.toNatClampNeg 5) 0) (Int32.toNatClampNeg 6) 0) (Int32.toNatClampNeg 7) 0) (Int32.toNatClampNeg 8) 0)) 55 (upd (upd (upd (upd (upd (upd (upd (upd (upd (upd (F 55) (Int32.toNatClampNeg 0) 0) (Int32.toNatClampNeg 1) 0) (Int32.toNatClampNeg 2) 0) (Int32.toNatClampNeg 3) 0) (Int32.toNatClampNeg 4) 0) (Int32.toNatClampNeg 5) 0) (Int32.toNatClampNeg 6) 0) (Int32.toNatClampNeg 7) 0) (Int32.toNatClampNeg 8) 0) (Int32.toNatClampNeg 9) 0)) 55 (upd (upd (upd (upd (upd (upd (upd (upd (upd (upd (upd (F 55) (Int32.toNatClampNeg 0) 0) (Int32.toNatClampNeg 1) 0) (Int32.toNatClampNeg 2) 0) (Int32.toNatClampNeg 3) 0) (Int32.toNatClampNeg 4) 0) (Int32.toNatClampNeg 5) 0) (Int32.toNatClampNeg 6) 0) (Int32.toNatClampNeg 7) 0) (Int32.toNatClampNeg 8) 0) (Int32.toNatClampNeg 9) 0) (Int32.toNatClampNeg 10) 0)) 55 (upd (upd (upd (upd (upd (upd (upd (upd (upd (upd (upd (upd (F 55) (Int32.toNatClampNeg 0) 0) (Int32.toNatClampNeg 1) 0) (Int32.toNatClampNeg 2) 0) (Int32.toNatClampNeg 3) 0) (Int32.toNatClampNeg 4) 0) (Int32.toNatClampNeg 5) 0) (Int32.toNatClampNeg 6) 0) (Int32.toNatClampNeg 7) 0) (Int32.toNatClampNeg 8) 0) (Int32.toNatClampNeg 9) 0) (Int32.toNatClampNeg 10) 0) (Int32.toNatClampNeg 11) 0)) 55 (upd (upd (upd (upd (upd (upd (upd (upd (upd (upd (upd (upd (upd (F 55) (Int32.toNatClampNeg 0) 0) (Int32.toNatClampNeg 1) 0) (Int32.toNatClampNeg 2) 0) (Int32.toNatClampNeg 3) 0) (Int32.toNatClampNeg 4) 0) (Int32.toNatClampNeg 5) 0) (Int32.toNatClampNeg 6) 0) (Int32.toNatClampNeg 7) 0) (Int32.toNatClampNeg 8) 0) (Int32.toNatClampNeg 9) 0) (Int32.toNatClampNeg 10) 0) (Int32.toNatClampNeg 11) 0) (Int32.toNatClampNeg 12) 0)) 55 (upd (upd (upd (upd (upd (upd (upd (upd (upd (upd (upd (upd (upd (upd (F 55) (Int32.toNatClampNeg 0) 0) (Int32.toNatClampNeg 1) 0) (Int32.toNatClampNeg 2) 0) (Int32.toNatClampNeg 3) 0) (Int32.toNatClampNeg 4) 0) (Int32.toNatClampNeg 5) 0) (Int32.toNatClampNeg 6) 0) (Int32.toNatClampNeg 7) 0) (Int32.toNatClampNeg 8) 0) (Int32.toNatClampNeg 9) 0) (Int32.toNatClampNeg 10) 0) (Int32.toNatClampNeg 11) 0) (Int32.toNatClampNeg 12) 0) (Int32.toNatClampNeg 13) 0)) 55 (upd (upd (upd (upd (upd (upd (upd (upd (upd (upd (upd (upd (upd (upd (upd (F 55) (Int32.toNatClampNeg 0) 0) (Int32.toNatClampNeg 1) 0) (Int32.toNatClampNeg 2) 0) (Int32.toNatClampNeg 3) 0) (Int32.toNatClampNeg 4) 0) (Int32.toNatClampNeg 5) 0) (Int32.toNatClampNeg 6) 0) (Int32.toNatClampNeg 7) 0) (Int32.toNatClampNeg 8) 0) (Int32.toNatClampNeg 9) 0) (Int32.toNatClampNeg 10) 0) (Int32.toNatClampNeg 11) 0) (Int32.toNatClampNeg 12) 0) (Int32.toNatClampNeg 13) 0) (Int32.toNatClampNeg 14) 0)) 55 (upd (upd (upd (upd (upd (upd (upd (upd (upd (upd (upd (upd (upd (upd (upd (upd (F 55) (Int32.toNatClampNeg 0) 0) (Int32.toNatClampNeg 1) 0) (Int32.toNatClampNeg 2) 0) (Int32.toNatClampNeg 3) 0) (Int32.toNatClampNeg 4) 0) (Int32.toNatClampNeg 5) 0) (Int32.toNatClampNeg 6) 0) (Int32.toNatClampNeg 7) 0) (Int32.toNatClampNeg 8) 0) (Int32.toNatClampNeg 9) 0) (Int32.toNatClampNeg 10) 0) (Int32.toNatClampNeg 11) 0) (Int32.toNatClampNeg 12) 0) (Int32.toNatClampNeg 13) 0) (Int32.toNatClampNeg 14) 0) (Int32.toNatClampNeg 15) 0)) 55 (upd (upd (upd (upd (upd (upd (upd (upd (upd (upd (upd (upd (upd (upd (upd (upd (upd (F 55) (Int32.toNatClampNeg 0) 0) (Int32.toNatClampNeg 1) 0) (Int32.toNatClampNeg 2) 0) (Int32.toNatClampNeg 3) 0) (Int32.toNatClampNeg 4) 0) (Int32.toNatClampNeg 5) 0) (Int32.toNatClampNeg 6) 0) (Int32.toNatClampNeg 7) 0) (Int32.toNatClampNeg 8) 0) (Int32.toNatClampNeg 9) 0) (Int32.toNatClampNeg 10) 0) (Int32.toNatClampNeg 11) 0) (Int32.toNatClampNeg 12) 0) (Int32.toNatClampNeg 13) 0) (Int32.toNatClampNeg 14) 0) (Int32.toNatClampNeg 15) 0) (Int32.toNatClampNeg 16) 0)) 55 (upd (upd (upd (upd (upd (upd (upd (upd (upd (upd (upd (upd (upd (upd (upd (upd (upd (upd (F 55) (Int32.toNatClampNeg 0) 0) (Int32.toNatClampNeg 1) 0) (Int32.toNatClampNeg 2) 0) (Int32.toNatClampNeg 3) 0) (Int32.toNatClampNeg 4) 0) (Int32.toNatClampNeg 5) 0) (Int32.toNatClampNeg 6) 0) (Int32.toNatClampNeg 7) 0) (Int32.toNatClampNeg 8) 0) (Int32.toNatClampNeg 9) 0) (Int32.toNatClampNeg 10) 0) (Int32.toNatClampNeg 11) 0) (Int32.toNatClampNeg 12) 0) (Int32.toNatClampNeg 13) 0) (Int32.toNatClampNeg 14) 0) (Int32.toNatClampNeg 15) 0) (Int32.toNatClampNeg 16) 0) (Int32.toNatClampNeg 17) 0)) G := (fx_F (fx_F (fx_F (fx_F (fx_F (fx_F (fx_F (fx_F (fx_F (fx_F (fx_F (fx_F (fx_F (fx_F (fx_F (fx_F (fx_F (fx_F (fx_F (fx_F (fx_F (fx_n fx_rf (by decide)) (by decide)) (by decide)) (by decide)) (by decide)) (by decide)) (by decide)) (by decide)) (by decide)) (by decide)) (by decide)) (by decide)) (by decide)) (by decide)) (by decide)) (by decide)) (by decide)) (by decide)) (by decide)) (by decide)) (by decide)) (by decide))
                                                  have hv1 : (∀ y, y < 3 → (upd (upd (upd (F 54) (Int32.toNatClampNeg 0) 1) (Int32.toNatClampNeg 1) 1) (Int32.toNatClampNeg 2) 1) y = 1) ∧ ∀ k, k < 18 → (upd (upd (upd (upd (upd (upd (upd (upd (upd (upd (upd (upd (upd (upd (upd (upd (upd (upd (F 55) (Int32.toNatClampNeg 0) 0) (Int32.toNatClampNeg 1) 0) (Int32.toNatClampNeg 2) 0) (Int32.toNatClampNeg 3) 0) (Int32.toNatClampNeg 4) 0) (Int32.toNatClampNeg 5) 0) (Int32.toNatClampNeg 6) 0) (Int32.toNatClampNeg 7) 0) (Int32.toNatClampNeg 8) 0) (Int32.toNatClampNeg 9) 0) (Int32.toNatClampNeg 10) 0) (Int32.toNatClampNeg 11) 0) (Int32.toNatClampNeg 12) 0) (Int32.toNatClampNeg 13) 0) (Int32.toNatClampNeg 14) 0) (Int32.toNatClampNeg 15) 0) (Int32.toNatClampNeg 16) 0) (Int32.toNatClampNeg 17) 0) k = 0 := by
                                                    refine ⟨fun y hy => ?_, fun k hk => ?_⟩
                                                    · have hc : y = 0 ∨ y = 1 ∨ y = 2 := by omega
                                                      rcases hc with rfl | rfl | rfl <;> rfl
                                                    · have hc : k = 0 ∨ k = 1 ∨ k = 2 ∨ k = 3 ∨ k = 4 ∨ k = 5 ∨ k = 6 ∨ k = 7 ∨ k = 8 ∨ k = 9 ∨ k = 10 ∨ k = 11 ∨ k = 12 ∨ k = 13 ∨ k = 14 ∨ k = 15 ∨ k = 16 ∨ k = 17 := by omega
                                                      rcases hc with rfl | rfl | rfl | rfl | rfl | rfl | rfl | rfl | rfl | rfl | rfl | rfl | rfl | rfl | rfl | rfl | rfl | rfl <;> rfl
                                                  exact gz_zret rfl (by first | decide | exact nrb (by assumption) | exact nrb (Or.inl rfl) | exact nrb (Or.inr rfl)) dX12_ways_61 (Nat.le_of_ble_eq_true rfl) (Nat.le_of_ble_eq_true rfl) (⟨_, rfl, _, _, _, _, hS_22, hxx, (by rw [if_pos (by omega)]), (by rw [if_pos (by omega)]; rfl), ⟨fun _ => hv1, fun z => by exfalso; omega⟩, RI_cg (fun k hk => hxx.2.2.1 k (fun q => absurd hk (by revert k; decide))) hR rfl rfl rfl a0 a4 (by show 1 ≤ x1.toInt ∧ x1.toInt ≤ 3; omega) a47 a88⟩)
                                                · exact absurd c_44_21 (by decide)
          · exact absurd c_23_3 (by decide)
  ·
    try simp only [mIn_0, lgc_lt, lgc_gt, lgc_le, lgc_ge, lgc_eq] at c_9
    try simp only [fl_lt, fl_le, fl_eq, fL_w, fL_lt, fL_le, tm1, tm10k, tm9, tm99, Int32.reduceToInt, Int64.reduceToInt, Int.not_lt, Int.not_le] at c_9
    refine gz_iconst (v := 0) dX12_ways_12 (by decide) ?_
    have hxx : fx [53] [] [54, 55] [] n z F G n z F G := fx_rf
    exact gz_zret rfl (by first | decide | exact nrb (by assumption) | exact nrb (Or.inl rfl) | exact nrb (Or.inr rfl)) dX12_ways_13 (Nat.le_of_ble_eq_true rfl) (Nat.le_of_ble_eq_true rfl) (⟨_, rfl, _, _, _, _, hS, hxx, by rw [if_neg (by omega)], by rw [if_neg (by omega)], ⟨fun z => by exfalso; omega, fun _ => ⟨rfl, rfl⟩⟩, hR⟩)

set_option maxHeartbeats 4000000 in
set_option maxRecDepth 100000 in
theorem l_X12_toldW {l : Launch} {D : va_G} {cy : Nat → ClassId} {b m : Nat} {a : Nat → Nat} {f0 : gMem} {n : Nat → Int32} {z : Nat → Int64} (ha : ∀ k, mTy k ≠ 0 → f0 (a k) = none) (hn : (∀ k, k ≠ 53 → n k = 0) ∧ n 53 = 1) : ∀ (k : Nat) (x1 : Int32) (F : Nat → Nat → Int32) (f : gMem), mS cy m a f0 n z F mG0 f → x1.toInt = 2400 - (k : Int) → k ≤ 2400 → (∀ i, i < 2400 - k → F 2 i = -10000) → (∀ k, k ≠ 2 → F k = fun _ => 0) → gG l (gRm 1 68 39306) (gQf D b (pV fun f2 => ∃ a n z F G, mS cy m a f0 n z F G f2 ∧ (∀ k, mTy k ≠ 0 → f0 (a k) = none) ∧ (∀ i, i < 2400 → F 2 i = -10000) ∧ (∀ k, k ≠ 2 → k ≠ 54 → F k = fun _ => 0) ∧ (∀ k, k ≠ 53 → n k = 0) ∧ n 53 = 1 ∧ ∀ i, i < 11 → (((G 27 i).toInt = nmC i ∧ ∀ j, G 34 j = 0) ∧ ((∀ y, y < 3 → F 54 y = 1) ∧ ∀ k, F 55 k = 0))) 68 39306) gTt D cy b cX12_init 2 none RX12 "<init>" 68 39306 f 648 [(1, .int x1), (0, .ref m)] [] := by
  intro k
  induction k with
  | zero =>
    intro x1 F f hS hx hk hF hZ
    refine gz_iload_n dX12_init_648 rfl rfl ?_
    refine gz_sipush (v := 2400) dX12_init_649 (by decide) ?_
    refine gz_icmp_ge (tgt := 670) dX12_init_652 (by decide) (fun c_652 => ?_) (fun c_652 => ?_)
    ·
      refine gz_iconst (v := 0) dX12_init_670 (by decide) ?_
      refine gz_istore_n (lv' := [(1, .int 0), (0, .ref m)]) dX12_init_671 rfl (by decide) rfl ?_
      refine gz_iload_n dX12_init_672 rfl rfl ?_
      refine gz_iconst (v := 3) dX12_init_673 (by decide) ?_
      refine gz_icmp_ge (tgt := 690) dX12_init_674 (by decide) (fun c_674 => ?_) (fun c_674 => ?_)
      · exact absurd c_674 (by decide)
      ·
        refine gz_aload_n dX12_init_677 rfl rfl ?_
        refine mg_155 hS dX12_init_678 ?_
        refine gz_iload_n dX12_init_681 rfl rfl ?_
        refine gz_iconst (v := 1) dX12_init_682 (by decide) ?_
        refine m_iast 54 hS rfl (N := 3) rfl (vin_T (v := 0) rfl (by decide) (by decide)) dX12_init_683 (fun f_1 hS_1 => ?_)
        refine gz_iinc (v := 1) (lv' := [(1, .int 1), (0, .ref m)]) dX12_init_684 rfl (by decide) (by decide) rfl ?_
        refine gz_goto (tgt := 672) dX12_init_687 (by decide) ?_
        refine gz_iload_n dX12_init_672 rfl rfl ?_
        refine gz_iconst (v := 3) dX12_init_673 (by decide) ?_
        refine gz_icmp_ge (tgt := 690) dX12_init_674 (by decide) (fun c_674_1 => ?_) (fun c_674_1 => ?_)
        · exact absurd c_674_1 (by decide)
        ·
          refine gz_aload_n dX12_init_677 rfl rfl ?_
          refine mg_155 hS_1 dX12_init_678 ?_
          refine gz_iload_n dX12_init_681 rfl rfl ?_
          refine gz_iconst (v := 1) dX12_init_682 (by decide) ?_
          refine m_iast 54 hS_1 rfl (N := 3) rfl (vin_T (v := 1) rfl (by decide) (by decide)) dX12_init_683 (fun f_2 hS_2 => ?_)
          refine gz_iinc (v := 2) (lv' := [(1, .int 2), (0, .ref m)]) dX12_init_684 rfl (by decide) (by decide) rfl ?_
          refine gz_goto (tgt := 672) dX12_init_687 (by decide) ?_
          refine gz_iload_n dX12_init_672 rfl rfl ?_
          refine gz_iconst (v := 3) dX12_init_673 (by decide) ?_
          refine gz_icmp_ge (tgt := 690) dX12_init_674 (by decide) (fun c_674_2 => ?_) (fun c_674_2 => ?_)
          · exact absurd c_674_2 (by decide)
          ·
            refine gz_aload_n dX12_init_677 rfl rfl ?_
            refine mg_155 hS_2 dX12_init_678 ?_
            refine gz_iload_n dX12_init_681 rfl rfl ?_
            refine gz_iconst (v := 1) dX12_init_682 (by decide) ?_
            refine m_iast 54 hS_2 rfl (N := 3) rfl (vin_T (v := 2) rfl (by decide) (by decide)) dX12_init_683 (fun f_3 hS_3 => ?_)
            refine gz_iinc (v := 3) (lv' := [(1, .int 3), (0, .ref m)]) dX12_init_684 rfl (by decide) (by decide) rfl ?_
            refine gz_goto (tgt := 672) dX12_init_687 (by decide) ?_
            refine gz_iload_n dX12_init_672 rfl rfl ?_
            refine gz_iconst (v := 3) dX12_init_673 (by decide) ?_
            refine gz_icmp_ge (tgt := 690) dX12_init_674 (by decide) (fun c_674_3 => ?_) (fun c_674_3 => ?_)
            ·
              exact gz_vret rfl dX12_init_690 (Nat.le_of_ble_eq_true rfl) (Nat.le_of_ble_eq_true rfl) (⟨rfl, _, _, _, _, _, hS_3, ha, hF, (fun k h2 h54 => (va_up_ne _ _ h54).trans ((va_up_ne _ _ h54).trans ((va_up_ne _ _ h54).trans (hZ k h2)))), hn.1, hn.2, (fun i hi => ⟨⟨mNames_C i hi, fun _ => rfl⟩, ⟨fun y hy => (by have hc : y = 0 ∨ y = 1 ∨ y = 2 := (by omega); rcases hc with rfl | rfl | rfl <;> rfl), fun k => (congrFun (hZ 55 (by decide)) k)⟩⟩)⟩)
            · exact absurd c_674_3 (by decide)
    · exfalso; rw [fl_le] at c_652; have e24 : (2400 : Int32).toInt = 2400 := rfl; omega
  | succ k ih =>
    intro x1 F f hS hx hk hF hZ
    have hi : vp_in x1 2400 := vin_T hx (by omega) (by omega)
    have hc : x1.toNatClampNeg = 2400 - (k + 1) := by have : x1.toNatClampNeg = x1.toInt.toNat := rfl; omega
    refine gz_iload_n dX12_init_648 rfl rfl ?_
    refine gz_sipush (v := 2400) dX12_init_649 (by decide) ?_
    refine gz_icmp_ge (tgt := 670) dX12_init_652 (by decide) (fun c_652 => ?_) (fun c_652 => ?_)
    · exfalso; rw [fl_le] at c_652; have e24 : (2400 : Int32).toInt = 2400 := rfl; omega
    ·
      refine gz_aload_n dX12_init_655 rfl rfl ?_
      refine mg_7 hS dX12_init_656 ?_
      refine gz_iload_n dX12_init_659 rfl rfl ?_
      refine gz_sipush (v := (-10000)) dX12_init_660 (by decide) ?_
      refine m_iast 2 hS rfl (N := 2400) rfl (hi) dX12_init_663 (fun f_4 hS_4 => ?_)
      refine gz_iinc (v := (x1 + 1)) (lv' := [(1, .int (x1 + 1)), (0, .ref m)]) dX12_init_664 rfl rfl (by decide) rfl ?_
      refine gz_goto (tgt := 648) dX12_init_667 (by decide) ?_
      exact ih (x1 + 1) _ _ hS_4 (by have e1 : (1 : Int32).toInt = 1 := rfl; rw [addT (by omega) (by omega)]; omega) (by omega) (by
        intro i hi
        show upd (F 2) x1.toNatClampNeg (-10000) i = -10000
        by_cases h : i = x1.toNatClampNeg
        · simp [upd, h]
        · simp [upd, h]; exact hF i (by omega)) (fun k hk => (va_up_ne _ _ hk).trans (hZ k hk))

set_option maxHeartbeats 4000000 in
set_option maxRecDepth 100000 in
theorem k_X12_initW {l : Launch} {D : va_G} {cy : Nat → ClassId} {b : Nat} {f : gMem} {m : Nat}  (hm : f m = some (.inr (12, mFo (fun _ => none) (fun _ => 0) (fun _ => 0)))) : gC l D cy b yX12_init cX12_init 2 none 1 68 39306 [.ref m] f (pV fun f2 => ∃ a n z F G, mS cy m a f n z F G f2 ∧ (∀ k, mTy k ≠ 0 → f (a k) = none) ∧ (∀ i, i < 2400 → F 2 i = -10000) ∧ (∀ k, k ≠ 2 → k ≠ 54 → F k = fun _ => 0) ∧ (∀ k, k ≠ 53 → n k = 0) ∧ n 53 = 1 ∧ ∀ i, i < 11 → (((G 27 i).toInt = nmC i ∧ ∀ j, G 34 j = 0) ∧ ((∀ y, y < 3 → F 54 y = 1) ∧ ∀ k, F 55 k = 0))) := by
  refine gC_of (by decide) (Nat.le_of_ble_eq_true rfl) ?_
  show gG l _ _ _ D cy b cX12_init 2 _ RX12 "<init>" 0 0 f 0 [(0, .ref m)] []
  have hB0 : mB cy m f 0 (fun _ => none) (fun _ => 0) (fun _ => 0) (fun _ _ => 0) mG0 f := mB_0 hm
  refine gz_aload_n dX12_init_0 rfl rfl ?_
  refine scX12_1 (Nat.le_of_ble_eq_true rfl) (Nat.le_of_ble_eq_true rfl) (Nat.le_of_ble_eq_true rfl) dX12_init_1 ?_
  refine gz_aload_n dX12_init_4 rfl rfl ?_
  refine gz_sipush (v := 2400) dX12_init_5 (by decide) ?_
  refine gz_newa0 (N' := 2400) (by decide) (by decide) (by decide) (Nat.le_of_ble_eq_true rfl) (Nat.le_of_ble_eq_true rfl) wd_3 dX12_init_8 (fun q1 hq1 => ?_)
  refine spX12_7 (mB_h hB0 hq1) rfl (Nat.le_of_ble_eq_true rfl) dX12_init_10 ?_
  refine gz_eq (f2 := va_up (va_up f q1 (some (.inl (cy 0, 2400, .inl (fun _ => 0))))) m (some (.inr (12, mFo (va_up (fun _ => none) 2 (some q1)) (fun _ => 0) (fun _ => 0))))) rfl rfl rfl rfl ?_
  have hB1 := mB_alloc (q := q1) (e := .inl (cy 0, 2400, .inl (fun _ => 0))) 2 hB0 hq1 rfl (by decide) (by intro i _ h2 h3; rcases (show i = 0 ∨ i = 1 by omega) with rfl | rfl <;> rfl)
  refine gz_gen (fun g1 hg1 => ?_)
  obtain ⟨a1, ha1⟩ : ∃ aZ : Nat → Option Nat, aZ = va_up (fun _ => none) 2 (some q1) := ⟨_, rfl⟩
  rw [← hg1, ← ha1] at hB1
  refine gz_aload_n dX12_init_13 rfl rfl ?_
  refine gz_sipush (v := 400) dX12_init_14 (by decide) ?_
  refine gz_newa1 (N' := 400) (by decide) (by decide) (by decide) (Nat.le_of_ble_eq_true rfl) (Nat.le_of_ble_eq_true rfl) wd_433 dX12_init_17 (fun q2 hq2 => ?_)
  refine spX12_13 (mB_h hB1 hq2) rfl (Nat.le_of_ble_eq_true rfl) dX12_init_19 ?_
  refine gz_eq (f2 := va_up (va_up g1 q2 (some (.inl (cy 1, 400, .inl (fun _ => 0))))) m (some (.inr (12, mFo (va_up a1 3 (some q2)) (fun _ => 0) (fun _ => 0))))) rfl rfl rfl rfl ?_
  have hB2 := mB_alloc (q := q2) (e := .inl (cy 1, 400, .inl (fun _ => 0))) 3 hB1 hq2 rfl (by decide) (by intro i _ h2 h3; omega)
  refine gz_gen (fun g2 hg2 => ?_)
  obtain ⟨a2, ha2⟩ : ∃ aZ : Nat → Option Nat, aZ = va_up a1 3 (some q2) := ⟨_, rfl⟩
  rw [← hg2, ← ha2] at hB2
  refine gz_aload_n dX12_init_22 rfl rfl ?_
  refine gz_bipush (v := 22) dX12_init_23 (by decide) ?_
  refine gz_newa0 (N' := 22) (by decide) (by decide) (by decide) (Nat.le_of_ble_eq_true rfl) (Nat.le_of_ble_eq_true rfl) wd_3 dX12_init_25 (fun q3 hq3 => ?_)
  refine spX12_17 (mB_h hB2 hq3) rfl (Nat.le_of_ble_eq_true rfl) dX12_init_27 ?_
  refine gz_eq (f2 := va_up (va_up g2 q3 (some (.inl (cy 0, 22, .inl (fun _ => 0))))) m (some (.inr (12, mFo (va_up a2 6 (some q3)) (fun _ => 0) (fun _ => 0))))) rfl rfl rfl rfl ?_
  have hB3 := mB_alloc (q := q3) (e := .inl (cy 0, 22, .inl (fun _ => 0))) 6 hB2 hq3 rfl (by decide) (by intro i _ h2 h3; rcases (show i = 4 ∨ i = 5 by omega) with rfl | rfl <;> rfl)
  refine gz_gen (fun g3 hg3 => ?_)
  obtain ⟨a3, ha3⟩ : ∃ aZ : Nat → Option Nat, aZ = va_up a2 6 (some q3) := ⟨_, rfl⟩
  rw [← hg3, ← ha3] at hB3
  refine gz_aload_n dX12_init_30 rfl rfl ?_
  refine gz_sipush (v := 880) dX12_init_31 (by decide) ?_
  refine gz_newa0 (N' := 880) (by decide) (by decide) (by decide) (Nat.le_of_ble_eq_true rfl) (Nat.le_of_ble_eq_true rfl) wd_3 dX12_init_34 (fun q4 hq4 => ?_)
  refine spX12_20 (mB_h hB3 hq4) rfl (Nat.le_of_ble_eq_true rfl) dX12_init_36 ?_
  refine gz_eq (f2 := va_up (va_up g3 q4 (some (.inl (cy 0, 880, .inl (fun _ => 0))))) m (some (.inr (12, mFo (va_up a3 7 (some q4)) (fun _ => 0) (fun _ => 0))))) rfl rfl rfl rfl ?_
  have hB4 := mB_alloc (q := q4) (e := .inl (cy 0, 880, .inl (fun _ => 0))) 7 hB3 hq4 rfl (by decide) (by intro i _ h2 h3; omega)
  refine gz_gen (fun g4 hg4 => ?_)
  obtain ⟨a4, ha4⟩ : ∃ aZ : Nat → Option Nat, aZ = va_up a3 7 (some q4) := ⟨_, rfl⟩
  rw [← hg4, ← ha4] at hB4
  refine gz_aload_n dX12_init_39 rfl rfl ?_
  refine gz_sipush (v := 880) dX12_init_40 (by decide) ?_
  refine gz_newa0 (N' := 880) (by decide) (by decide) (by decide) (Nat.le_of_ble_eq_true rfl) (Nat.le_of_ble_eq_true rfl) wd_3 dX12_init_43 (fun q5 hq5 => ?_)
  refine spX12_23 (mB_h hB4 hq5) rfl (Nat.le_of_ble_eq_true rfl) dX12_init_45 ?_
  refine gz_eq (f2 := va_up (va_up g4 q5 (some (.inl (cy 0, 880, .inl (fun _ => 0))))) m (some (.inr (12, mFo (va_up a4 8 (some q5)) (fun _ => 0) (fun _ => 0))))) rfl rfl rfl rfl ?_
  have hB5 := mB_alloc (q := q5) (e := .inl (cy 0, 880, .inl (fun _ => 0))) 8 hB4 hq5 rfl (by decide) (by intro i _ h2 h3; omega)
  refine gz_gen (fun g5 hg5 => ?_)
  obtain ⟨a5, ha5⟩ : ∃ aZ : Nat → Option Nat, aZ = va_up a4 8 (some q5) := ⟨_, rfl⟩
  rw [← hg5, ← ha5] at hB5
  refine gz_aload_n dX12_init_48 rfl rfl ?_
  refine gz_sipush (v := 880) dX12_init_49 (by decide) ?_
  refine gz_newa0 (N' := 880) (by decide) (by decide) (by decide) (Nat.le_of_ble_eq_true rfl) (Nat.le_of_ble_eq_true rfl) wd_3 dX12_init_52 (fun q6 hq6 => ?_)
  refine spX12_26 (mB_h hB5 hq6) rfl (Nat.le_of_ble_eq_true rfl) dX12_init_54 ?_
  refine gz_eq (f2 := va_up (va_up g5 q6 (some (.inl (cy 0, 880, .inl (fun _ => 0))))) m (some (.inr (12, mFo (va_up a5 9 (some q6)) (fun _ => 0) (fun _ => 0))))) rfl rfl rfl rfl ?_
  have hB6 := mB_alloc (q := q6) (e := .inl (cy 0, 880, .inl (fun _ => 0))) 9 hB5 hq6 rfl (by decide) (by intro i _ h2 h3; omega)
  refine gz_gen (fun g6 hg6 => ?_)
  obtain ⟨a6, ha6⟩ : ∃ aZ : Nat → Option Nat, aZ = va_up a5 9 (some q6) := ⟨_, rfl⟩
  rw [← hg6, ← ha6] at hB6
  refine gz_aload_n dX12_init_57 rfl rfl ?_
  refine gz_sipush (v := 880) dX12_init_58 (by decide) ?_
  refine gz_newa0 (N' := 880) (by decide) (by decide) (by decide) (Nat.le_of_ble_eq_true rfl) (Nat.le_of_ble_eq_true rfl) wd_3 dX12_init_61 (fun q7 hq7 => ?_)
  refine spX12_29 (mB_h hB6 hq7) rfl (Nat.le_of_ble_eq_true rfl) dX12_init_63 ?_
  refine gz_eq (f2 := va_up (va_up g6 q7 (some (.inl (cy 0, 880, .inl (fun _ => 0))))) m (some (.inr (12, mFo (va_up a6 10 (some q7)) (fun _ => 0) (fun _ => 0))))) rfl rfl rfl rfl ?_
  have hB7 := mB_alloc (q := q7) (e := .inl (cy 0, 880, .inl (fun _ => 0))) 10 hB6 hq7 rfl (by decide) (by intro i _ h2 h3; omega)
  refine gz_gen (fun g7 hg7 => ?_)
  obtain ⟨a7, ha7⟩ : ∃ aZ : Nat → Option Nat, aZ = va_up a6 10 (some q7) := ⟨_, rfl⟩
  rw [← hg7, ← ha7] at hB7
  refine gz_aload_n dX12_init_66 rfl rfl ?_
  refine gz_sipush (v := 880) dX12_init_67 (by decide) ?_
  refine gz_newa0 (N' := 880) (by decide) (by decide) (by decide) (Nat.le_of_ble_eq_true rfl) (Nat.le_of_ble_eq_true rfl) wd_3 dX12_init_70 (fun q8 hq8 => ?_)
  refine spX12_32 (mB_h hB7 hq8) rfl (Nat.le_of_ble_eq_true rfl) dX12_init_72 ?_
  refine gz_eq (f2 := va_up (va_up g7 q8 (some (.inl (cy 0, 880, .inl (fun _ => 0))))) m (some (.inr (12, mFo (va_up a7 11 (some q8)) (fun _ => 0) (fun _ => 0))))) rfl rfl rfl rfl ?_
  have hB8 := mB_alloc (q := q8) (e := .inl (cy 0, 880, .inl (fun _ => 0))) 11 hB7 hq8 rfl (by decide) (by intro i _ h2 h3; omega)
  refine gz_gen (fun g8 hg8 => ?_)
  obtain ⟨a8, ha8⟩ : ∃ aZ : Nat → Option Nat, aZ = va_up a7 11 (some q8) := ⟨_, rfl⟩
  rw [← hg8, ← ha8] at hB8
  refine gz_aload_n dX12_init_75 rfl rfl ?_
  refine gz_sipush (v := 880) dX12_init_76 (by decide) ?_
  refine gz_newa0 (N' := 880) (by decide) (by decide) (by decide) (Nat.le_of_ble_eq_true rfl) (Nat.le_of_ble_eq_true rfl) wd_3 dX12_init_79 (fun q9 hq9 => ?_)
  refine spX12_35 (mB_h hB8 hq9) rfl (Nat.le_of_ble_eq_true rfl) dX12_init_81 ?_
  refine gz_eq (f2 := va_up (va_up g8 q9 (some (.inl (cy 0, 880, .inl (fun _ => 0))))) m (some (.inr (12, mFo (va_up a8 12 (some q9)) (fun _ => 0) (fun _ => 0))))) rfl rfl rfl rfl ?_
  have hB9 := mB_alloc (q := q9) (e := .inl (cy 0, 880, .inl (fun _ => 0))) 12 hB8 hq9 rfl (by decide) (by intro i _ h2 h3; omega)
  refine gz_gen (fun g9 hg9 => ?_)
  obtain ⟨a9, ha9⟩ : ∃ aZ : Nat → Option Nat, aZ = va_up a8 12 (some q9) := ⟨_, rfl⟩
  rw [← hg9, ← ha9] at hB9
  refine gz_aload_n dX12_init_84 rfl rfl ?_
  refine gz_sipush (v := 880) dX12_init_85 (by decide) ?_
  refine gz_newa0 (N' := 880) (by decide) (by decide) (by decide) (Nat.le_of_ble_eq_true rfl) (Nat.le_of_ble_eq_true rfl) wd_3 dX12_init_88 (fun q10 hq10 => ?_)
  refine spX12_38 (mB_h hB9 hq10) rfl (Nat.le_of_ble_eq_true rfl) dX12_init_90 ?_
  refine gz_eq (f2 := va_up (va_up g9 q10 (some (.inl (cy 0, 880, .inl (fun _ => 0))))) m (some (.inr (12, mFo (va_up a9 13 (some q10)) (fun _ => 0) (fun _ => 0))))) rfl rfl rfl rfl ?_
  have hB10 := mB_alloc (q := q10) (e := .inl (cy 0, 880, .inl (fun _ => 0))) 13 hB9 hq10 rfl (by decide) (by intro i _ h2 h3; omega)
  refine gz_gen (fun g10 hg10 => ?_)
  obtain ⟨a10, ha10⟩ : ∃ aZ : Nat → Option Nat, aZ = va_up a9 13 (some q10) := ⟨_, rfl⟩
  rw [← hg10, ← ha10] at hB10
  refine gz_aload_n dX12_init_93 rfl rfl ?_
  refine gz_sipush (v := 880) dX12_init_94 (by decide) ?_
  refine gz_newa0 (N' := 880) (by decide) (by decide) (by decide) (Nat.le_of_ble_eq_true rfl) (Nat.le_of_ble_eq_true rfl) wd_3 dX12_init_97 (fun q11 hq11 => ?_)
  refine spX12_41 (mB_h hB10 hq11) rfl (Nat.le_of_ble_eq_true rfl) dX12_init_99 ?_
  refine gz_eq (f2 := va_up (va_up g10 q11 (some (.inl (cy 0, 880, .inl (fun _ => 0))))) m (some (.inr (12, mFo (va_up a10 14 (some q11)) (fun _ => 0) (fun _ => 0))))) rfl rfl rfl rfl ?_
  have hB11 := mB_alloc (q := q11) (e := .inl (cy 0, 880, .inl (fun _ => 0))) 14 hB10 hq11 rfl (by decide) (by intro i _ h2 h3; omega)
  refine gz_gen (fun g11 hg11 => ?_)
  obtain ⟨a11, ha11⟩ : ∃ aZ : Nat → Option Nat, aZ = va_up a10 14 (some q11) := ⟨_, rfl⟩
  rw [← hg11, ← ha11] at hB11
  refine gz_aload_n dX12_init_102 rfl rfl ?_
  refine gz_sipush (v := 880) dX12_init_103 (by decide) ?_
  refine gz_newa0 (N' := 880) (by decide) (by decide) (by decide) (Nat.le_of_ble_eq_true rfl) (Nat.le_of_ble_eq_true rfl) wd_3 dX12_init_106 (fun q12 hq12 => ?_)
  refine spX12_44 (mB_h hB11 hq12) rfl (Nat.le_of_ble_eq_true rfl) dX12_init_108 ?_
  refine gz_eq (f2 := va_up (va_up g11 q12 (some (.inl (cy 0, 880, .inl (fun _ => 0))))) m (some (.inr (12, mFo (va_up a11 15 (some q12)) (fun _ => 0) (fun _ => 0))))) rfl rfl rfl rfl ?_
  have hB12 := mB_alloc (q := q12) (e := .inl (cy 0, 880, .inl (fun _ => 0))) 15 hB11 hq12 rfl (by decide) (by intro i _ h2 h3; omega)
  refine gz_gen (fun g12 hg12 => ?_)
  obtain ⟨a12, ha12⟩ : ∃ aZ : Nat → Option Nat, aZ = va_up a11 15 (some q12) := ⟨_, rfl⟩
  rw [← hg12, ← ha12] at hB12
  refine gz_aload_n dX12_init_111 rfl rfl ?_
  refine gz_sipush (v := 880) dX12_init_112 (by decide) ?_
  refine gz_newa0 (N' := 880) (by decide) (by decide) (by decide) (Nat.le_of_ble_eq_true rfl) (Nat.le_of_ble_eq_true rfl) wd_3 dX12_init_115 (fun q13 hq13 => ?_)
  refine spX12_47 (mB_h hB12 hq13) rfl (Nat.le_of_ble_eq_true rfl) dX12_init_117 ?_
  refine gz_eq (f2 := va_up (va_up g12 q13 (some (.inl (cy 0, 880, .inl (fun _ => 0))))) m (some (.inr (12, mFo (va_up a12 16 (some q13)) (fun _ => 0) (fun _ => 0))))) rfl rfl rfl rfl ?_
  have hB13 := mB_alloc (q := q13) (e := .inl (cy 0, 880, .inl (fun _ => 0))) 16 hB12 hq13 rfl (by decide) (by intro i _ h2 h3; omega)
  refine gz_gen (fun g13 hg13 => ?_)
  obtain ⟨a13, ha13⟩ : ∃ aZ : Nat → Option Nat, aZ = va_up a12 16 (some q13) := ⟨_, rfl⟩
  rw [← hg13, ← ha13] at hB13
  refine gz_aload_n dX12_init_120 rfl rfl ?_
  refine gz_bipush (v := 22) dX12_init_121 (by decide) ?_
  refine gz_newa0 (N' := 22) (by decide) (by decide) (by decide) (Nat.le_of_ble_eq_true rfl) (Nat.le_of_ble_eq_true rfl) wd_3 dX12_init_123 (fun q14 hq14 => ?_)
  refine spX12_50 (mB_h hB13 hq14) rfl (Nat.le_of_ble_eq_true rfl) dX12_init_125 ?_
  refine gz_eq (f2 := va_up (va_up g13 q14 (some (.inl (cy 0, 22, .inl (fun _ => 0))))) m (some (.inr (12, mFo (va_up a13 17 (some q14)) (fun _ => 0) (fun _ => 0))))) rfl rfl rfl rfl ?_
  have hB14 := mB_alloc (q := q14) (e := .inl (cy 0, 22, .inl (fun _ => 0))) 17 hB13 hq14 rfl (by decide) (by intro i _ h2 h3; omega)
  refine gz_gen (fun g14 hg14 => ?_)
  obtain ⟨a14, ha14⟩ : ∃ aZ : Nat → Option Nat, aZ = va_up a13 17 (some q14) := ⟨_, rfl⟩
  rw [← hg14, ← ha14] at hB14
  refine gz_aload_n dX12_init_128 rfl rfl ?_
  refine gz_sipush (v := 880) dX12_init_129 (by decide) ?_
  refine gz_newa0 (N' := 880) (by decide) (by decide) (by decide) (Nat.le_of_ble_eq_true rfl) (Nat.le_of_ble_eq_true rfl) wd_3 dX12_init_132 (fun q15 hq15 => ?_)
  refine spX12_53 (mB_h hB14 hq15) rfl (Nat.le_of_ble_eq_true rfl) dX12_init_134 ?_
  refine gz_eq (f2 := va_up (va_up g14 q15 (some (.inl (cy 0, 880, .inl (fun _ => 0))))) m (some (.inr (12, mFo (va_up a14 18 (some q15)) (fun _ => 0) (fun _ => 0))))) rfl rfl rfl rfl ?_
  have hB15 := mB_alloc (q := q15) (e := .inl (cy 0, 880, .inl (fun _ => 0))) 18 hB14 hq15 rfl (by decide) (by intro i _ h2 h3; omega)
  refine gz_gen (fun g15 hg15 => ?_)
  obtain ⟨a15, ha15⟩ : ∃ aZ : Nat → Option Nat, aZ = va_up a14 18 (some q15) := ⟨_, rfl⟩
  rw [← hg15, ← ha15] at hB15
  refine gz_aload_n dX12_init_137 rfl rfl ?_
  refine gz_sipush (v := 880) dX12_init_138 (by decide) ?_
  refine gz_newa0 (N' := 880) (by decide) (by decide) (by decide) (Nat.le_of_ble_eq_true rfl) (Nat.le_of_ble_eq_true rfl) wd_3 dX12_init_141 (fun q16 hq16 => ?_)
  refine spX12_56 (mB_h hB15 hq16) rfl (Nat.le_of_ble_eq_true rfl) dX12_init_143 ?_
  refine gz_eq (f2 := va_up (va_up g15 q16 (some (.inl (cy 0, 880, .inl (fun _ => 0))))) m (some (.inr (12, mFo (va_up a15 19 (some q16)) (fun _ => 0) (fun _ => 0))))) rfl rfl rfl rfl ?_
  have hB16 := mB_alloc (q := q16) (e := .inl (cy 0, 880, .inl (fun _ => 0))) 19 hB15 hq16 rfl (by decide) (by intro i _ h2 h3; omega)
  refine gz_gen (fun g16 hg16 => ?_)
  obtain ⟨a16, ha16⟩ : ∃ aZ : Nat → Option Nat, aZ = va_up a15 19 (some q16) := ⟨_, rfl⟩
  rw [← hg16, ← ha16] at hB16
  refine gz_aload_n dX12_init_146 rfl rfl ?_
  refine gz_sipush (v := 880) dX12_init_147 (by decide) ?_
  refine gz_newa0 (N' := 880) (by decide) (by decide) (by decide) (Nat.le_of_ble_eq_true rfl) (Nat.le_of_ble_eq_true rfl) wd_3 dX12_init_150 (fun q17 hq17 => ?_)
  refine spX12_59 (mB_h hB16 hq17) rfl (Nat.le_of_ble_eq_true rfl) dX12_init_152 ?_
  refine gz_eq (f2 := va_up (va_up g16 q17 (some (.inl (cy 0, 880, .inl (fun _ => 0))))) m (some (.inr (12, mFo (va_up a16 20 (some q17)) (fun _ => 0) (fun _ => 0))))) rfl rfl rfl rfl ?_
  have hB17 := mB_alloc (q := q17) (e := .inl (cy 0, 880, .inl (fun _ => 0))) 20 hB16 hq17 rfl (by decide) (by intro i _ h2 h3; omega)
  refine gz_gen (fun g17 hg17 => ?_)
  obtain ⟨a17, ha17⟩ : ∃ aZ : Nat → Option Nat, aZ = va_up a16 20 (some q17) := ⟨_, rfl⟩
  rw [← hg17, ← ha17] at hB17
  refine gz_aload_n dX12_init_155 rfl rfl ?_
  refine gz_bipush (v := 40) dX12_init_156 (by decide) ?_
  refine gz_newa0 (N' := 40) (by decide) (by decide) (by decide) (Nat.le_of_ble_eq_true rfl) (Nat.le_of_ble_eq_true rfl) wd_3 dX12_init_158 (fun q18 hq18 => ?_)
  refine spX12_62 (mB_h hB17 hq18) rfl (Nat.le_of_ble_eq_true rfl) dX12_init_160 ?_
  refine gz_eq (f2 := va_up (va_up g17 q18 (some (.inl (cy 0, 40, .inl (fun _ => 0))))) m (some (.inr (12, mFo (va_up a17 25 (some q18)) (fun _ => 0) (fun _ => 0))))) rfl rfl rfl rfl ?_
  have hB18 := mB_alloc (q := q18) (e := .inl (cy 0, 40, .inl (fun _ => 0))) 25 hB17 hq18 rfl (by decide) (by intro i _ h2 h3; rcases (show i = 21 ∨ i = 22 ∨ i = 23 ∨ i = 24 by omega) with rfl | rfl | rfl | rfl <;> rfl)
  refine gz_gen (fun g18 hg18 => ?_)
  obtain ⟨a18, ha18⟩ : ∃ aZ : Nat → Option Nat, aZ = va_up a17 25 (some q18) := ⟨_, rfl⟩
  rw [← hg18, ← ha18] at hB18
  refine gz_aload_n dX12_init_163 rfl rfl ?_
  refine gz_bipush (v := 40) dX12_init_164 (by decide) ?_
  refine gz_newa0 (N' := 40) (by decide) (by decide) (by decide) (Nat.le_of_ble_eq_true rfl) (Nat.le_of_ble_eq_true rfl) wd_3 dX12_init_166 (fun q19 hq19 => ?_)
  refine spX12_65 (mB_h hB18 hq19) rfl (Nat.le_of_ble_eq_true rfl) dX12_init_168 ?_
  refine gz_eq (f2 := va_up (va_up g18 q19 (some (.inl (cy 0, 40, .inl (fun _ => 0))))) m (some (.inr (12, mFo (va_up a18 26 (some q19)) (fun _ => 0) (fun _ => 0))))) rfl rfl rfl rfl ?_
  have hB19 := mB_alloc (q := q19) (e := .inl (cy 0, 40, .inl (fun _ => 0))) 26 hB18 hq19 rfl (by decide) (by intro i _ h2 h3; omega)
  refine gz_gen (fun g19 hg19 => ?_)
  obtain ⟨a19, ha19⟩ : ∃ aZ : Nat → Option Nat, aZ = va_up a18 26 (some q19) := ⟨_, rfl⟩
  rw [← hg19, ← ha19] at hB19
  refine gz_aload_n dX12_init_171 rfl rfl ?_
  refine gz_bipush (v := 11) dX12_init_172 (by decide) ?_
  refine gz_newa2 (N' := 11) (by decide) (by decide) (by decide) (Nat.le_of_ble_eq_true rfl) (Nat.le_of_ble_eq_true rfl) wd_236 dX12_init_174 (fun q20 hq20 => ?_)
  refine gz_dup dX12_init_176 rfl ?_
  refine gz_iconst (v := 0) dX12_init_177 (by decide) ?_
  refine gz_ldc2 (v := (31084793196801639)) wd_716 dX12_init_178 ?_
  refine gz_last (g0 := (fun _ => 0)) (n := 11) (va_up_self _ _ _) (vin_T (v := 0) rfl (by decide) (by decide)) dX12_init_181 ?_
  refine gz_eq (f2 := va_up g19 q20 (some (.inl (cy 2, 11, .inr (.inl (vp_updL (fun _ => 0) (Int32.toNatClampNeg 0) (31084793196801639))))))) (bx_uu _ _ _ _) rfl rfl rfl ?_
  refine gz_dup dX12_init_182 rfl ?_
  refine gz_iconst (v := 1) dX12_init_183 (by decide) ?_
  refine gz_ldc2 (v := (7302757)) wd_717 dX12_init_184 ?_
  refine gz_last (g0 := (vp_updL (fun _ => 0) (Int32.toNatClampNeg 0) (31084793196801639))) (n := 11) (va_up_self _ _ _) (vin_T (v := 1) rfl (by decide) (by decide)) dX12_init_187 ?_
  refine gz_eq (f2 := va_up g19 q20 (some (.inl (cy 2, 11, .inr (.inl (vp_updL (vp_updL (fun _ => 0) (Int32.toNatClampNeg 0) (31084793196801639)) (Int32.toNatClampNeg 1) (7302757))))))) (bx_uu _ _ _ _) rfl rfl rfl ?_
  refine gz_dup dX12_init_188 rfl ?_
  refine gz_iconst (v := 2) dX12_init_189 (by decide) ?_
  refine gz_ldc2 (v := (1734964837)) wd_718 dX12_init_190 ?_
  refine gz_last (g0 := (vp_updL (vp_updL (fun _ => 0) (Int32.toNatClampNeg 0) (31084793196801639)) (Int32.toNatClampNeg 1) (7302757))) (n := 11) (va_up_self _ _ _) (vin_T (v := 2) rfl (by decide) (by decide)) dX12_init_193 ?_
  refine gz_eq (f2 := va_up g19 q20 (some (.inl (cy 2, 11, .inr (.inl (vp_updL (vp_updL (vp_updL (fun _ => 0) (Int32.toNatClampNeg 0) (31084793196801639)) (Int32.toNatClampNeg 1) (7302757)) (Int32.toNatClampNeg 2) (1734964837))))))) (bx_uu _ _ _ _) rfl rfl rfl ?_
  refine gz_dup dX12_init_194 rfl ?_
  refine gz_iconst (v := 3) dX12_init_195 (by decide) ?_
  refine gz_ldc2 (v := (1651471464)) wd_719 dX12_init_196 ?_
  refine gz_last (g0 := (vp_updL (vp_updL (vp_updL (fun _ => 0) (Int32.toNatClampNeg 0) (31084793196801639)) (Int32.toNatClampNeg 1) (7302757)) (Int32.toNatClampNeg 2) (1734964837))) (n := 11) (va_up_self _ _ _) (vin_T (v := 3) rfl (by decide) (by decide)) dX12_init_199 ?_
  refine gz_eq (f2 := va_up g19 q20 (some (.inl (cy 2, 11, .inr (.inl (vp_updL (vp_updL (vp_updL (vp_updL (fun _ => 0) (Int32.toNatClampNeg 0) (31084793196801639)) (Int32.toNatClampNeg 1) (7302757)) (Int32.toNatClampNeg 2) (1734964837)) (Int32.toNatClampNeg 3) (1651471464))))))) (bx_uu _ _ _ _) rfl rfl rfl ?_
  refine gz_dup dX12_init_200 rfl ?_
  refine gz_iconst (v := 4) dX12_init_201 (by decide) ?_
  refine gz_ldc2 (v := (28530)) wd_720 dX12_init_202 ?_
  refine gz_last (g0 := (vp_updL (vp_updL (vp_updL (vp_updL (fun _ => 0) (Int32.toNatClampNeg 0) (31084793196801639)) (Int32.toNatClampNeg 1) (7302757)) (Int32.toNatClampNeg 2) (1734964837)) (Int32.toNatClampNeg 3) (1651471464))) (n := 11) (va_up_self _ _ _) (vin_T (v := 4) rfl (by decide) (by decide)) dX12_init_205 ?_
  refine gz_eq (f2 := va_up g19 q20 (some (.inl (cy 2, 11, .inr (.inl (vp_updL (vp_updL (vp_updL (vp_updL (vp_updL (fun _ => 0) (Int32.toNatClampNeg 0) (31084793196801639)) (Int32.toNatClampNeg 1) (7302757)) (Int32.toNatClampNeg 2) (1734964837)) (Int32.toNatClampNeg 3) (1651471464)) (Int32.toNatClampNeg 4) (28530))))))) (bx_uu _ _ _ _) rfl rfl rfl ?_
  refine gz_dup dX12_init_206 rfl ?_
  refine gz_iconst (v := 5) dX12_init_207 (by decide) ?_
  refine gz_ldc2 (v := (1952998766)) wd_721 dX12_init_208 ?_
  refine gz_last (g0 := (vp_updL (vp_updL (vp_updL (vp_updL (vp_updL (fun _ => 0) (Int32.toNatClampNeg 0) (31084793196801639)) (Int32.toNatClampNeg 1) (7302757)) (Int32.toNatClampNeg 2) (1734964837)) (Int32.toNatClampNeg 3) (1651471464)) (Int32.toNatClampNeg 4) (28530))) (n := 11) (va_up_self _ _ _) (vin_T (v := 5) rfl (by decide) (by decide)) dX12_init_211 ?_
  refine gz_eq (f2 := va_up g19 q20 (some (.inl (cy 2, 11, .inr (.inl (vp_updL (vp_updL (vp_updL (vp_updL (vp_updL (vp_updL (fun _ => 0) (Int32.toNatClampNeg 0) (31084793196801639)) (Int32.toNatClampNeg 1) (7302757)) (Int32.toNatClampNeg 2) (1734964837)) (Int32.toNatClampNeg 3) (1651471464)) (Int32.toNatClampNeg 4) (28530)) (Int32.toNatClampNeg 5) (1952998766))))))) (bx_uu _ _ _ _) rfl rfl rfl ?_
  refine gz_dup dX12_init_212 rfl ?_
  refine gz_bipush (v := 6) dX12_init_213 (by decide) ?_
  refine gz_ldc2 (v := (2003330414)) wd_722 dX12_init_215 ?_
  refine gz_last (g0 := (vp_updL (vp_updL (vp_updL (vp_updL (vp_updL (vp_updL (fun _ => 0) (Int32.toNatClampNeg 0) (31084793196801639)) (Int32.toNatClampNeg 1) (7302757)) (Int32.toNatClampNeg 2) (1734964837)) (Int32.toNatClampNeg 3) (1651471464)) (Int32.toNatClampNeg 4) (28530)) (Int32.toNatClampNeg 5) (1952998766))) (n := 11) (va_up_self _ _ _) (vin_T (v := 6) rfl (by decide) (by decide)) dX12_init_218 ?_
  refine gz_eq (f2 := va_up g19 q20 (some (.inl (cy 2, 11, .inr (.inl (vp_updL (vp_updL (vp_updL (vp_updL (vp_updL (vp_updL (vp_updL (fun _ => 0) (Int32.toNatClampNeg 0) (31084793196801639)) (Int32.toNatClampNeg 1) (7302757)) (Int32.toNatClampNeg 2) (1734964837)) (Int32.toNatClampNeg 3) (1651471464)) (Int32.toNatClampNeg 4) (28530)) (Int32.toNatClampNeg 5) (1952998766)) (Int32.toNatClampNeg 6) (2003330414))))))) (bx_uu _ _ _ _) rfl rfl rfl ?_
  refine gz_dup dX12_init_219 rfl ?_
  refine gz_bipush (v := 7) dX12_init_220 (by decide) ?_
  refine gz_ldc2 (v := (27424540664098149)) wd_723 dX12_init_222 ?_
  refine gz_last (g0 := (vp_updL (vp_updL (vp_updL (vp_updL (vp_updL (vp_updL (vp_updL (fun _ => 0) (Int32.toNatClampNeg 0) (31084793196801639)) (Int32.toNatClampNeg 1) (7302757)) (Int32.toNatClampNeg 2) (1734964837)) (Int32.toNatClampNeg 3) (1651471464)) (Int32.toNatClampNeg 4) (28530)) (Int32.toNatClampNeg 5) (1952998766)) (Int32.toNatClampNeg 6) (2003330414))) (n := 11) (va_up_self _ _ _) (vin_T (v := 7) rfl (by decide) (by decide)) dX12_init_225 ?_
  refine gz_eq (f2 := va_up g19 q20 (some (.inl (cy 2, 11, .inr (.inl (vp_updL (vp_updL (vp_updL (vp_updL (vp_updL (vp_updL (vp_updL (vp_updL (fun _ => 0) (Int32.toNatClampNeg 0) (31084793196801639)) (Int32.toNatClampNeg 1) (7302757)) (Int32.toNatClampNeg 2) (1734964837)) (Int32.toNatClampNeg 3) (1651471464)) (Int32.toNatClampNeg 4) (28530)) (Int32.toNatClampNeg 5) (1952998766)) (Int32.toNatClampNeg 6) (2003330414)) (Int32.toNatClampNeg 7) (27424540664098149))))))) (bx_uu _ _ _ _) rfl rfl rfl ?_
  refine gz_dup dX12_init_226 rfl ?_
  refine gz_bipush (v := 8) dX12_init_227 (by decide) ?_
  refine gz_ldc2 (v := (504364296556)) wd_724 dX12_init_229 ?_
  refine gz_last (g0 := (vp_updL (vp_updL (vp_updL (vp_updL (vp_updL (vp_updL (vp_updL (vp_updL (fun _ => 0) (Int32.toNatClampNeg 0) (31084793196801639)) (Int32.toNatClampNeg 1) (7302757)) (Int32.toNatClampNeg 2) (1734964837)) (Int32.toNatClampNeg 3) (1651471464)) (Int32.toNatClampNeg 4) (28530)) (Int32.toNatClampNeg 5) (1952998766)) (Int32.toNatClampNeg 6) (2003330414)) (Int32.toNatClampNeg 7) (27424540664098149))) (n := 11) (va_up_self _ _ _) (vin_T (v := 8) rfl (by decide) (by decide)) dX12_init_232 ?_
  refine gz_eq (f2 := va_up g19 q20 (some (.inl (cy 2, 11, .inr (.inl (vp_updL (vp_updL (vp_updL (vp_updL (vp_updL (vp_updL (vp_updL (vp_updL (vp_updL (fun _ => 0) (Int32.toNatClampNeg 0) (31084793196801639)) (Int32.toNatClampNeg 1) (7302757)) (Int32.toNatClampNeg 2) (1734964837)) (Int32.toNatClampNeg 3) (1651471464)) (Int32.toNatClampNeg 4) (28530)) (Int32.toNatClampNeg 5) (1952998766)) (Int32.toNatClampNeg 6) (2003330414)) (Int32.toNatClampNeg 7) (27424540664098149)) (Int32.toNatClampNeg 8) (504364296556))))))) (bx_uu _ _ _ _) rfl rfl rfl ?_
  refine gz_dup dX12_init_233 rfl ?_
  refine gz_bipush (v := 9) dX12_init_234 (by decide) ?_
  refine gz_ldc2 (v := (495588568165)) wd_725 dX12_init_236 ?_
  refine gz_last (g0 := (vp_updL (vp_updL (vp_updL (vp_updL (vp_updL (vp_updL (vp_updL (vp_updL (vp_updL (fun _ => 0) (Int32.toNatClampNeg 0) (31084793196801639)) (Int32.toNatClampNeg 1) (7302757)) (Int32.toNatClampNeg 2) (1734964837)) (Int32.toNatClampNeg 3) (1651471464)) (Int32.toNatClampNeg 4) (28530)) (Int32.toNatClampNeg 5) (1952998766)) (Int32.toNatClampNeg 6) (2003330414)) (Int32.toNatClampNeg 7) (27424540664098149)) (Int32.toNatClampNeg 8) (504364296556))) (n := 11) (va_up_self _ _ _) (vin_T (v := 9) rfl (by decide) (by decide)) dX12_init_239 ?_
  refine gz_eq (f2 := va_up g19 q20 (some (.inl (cy 2, 11, .inr (.inl (vp_updL (vp_updL (vp_updL (vp_updL (vp_updL (vp_updL (vp_updL (vp_updL (vp_updL (vp_updL (fun _ => 0) (Int32.toNatClampNeg 0) (31084793196801639)) (Int32.toNatClampNeg 1) (7302757)) (Int32.toNatClampNeg 2) (1734964837)) (Int32.toNatClampNeg 3) (1651471464)) (Int32.toNatClampNeg 4) (28530)) (Int32.toNatClampNeg 5) (1952998766)) (Int32.toNatClampNeg 6) (2003330414)) (Int32.toNatClampNeg 7) (27424540664098149)) (Int32.toNatClampNeg 8) (504364296556)) (Int32.toNatClampNeg 9) (495588568165))))))) (bx_uu _ _ _ _) rfl rfl rfl ?_
  refine gz_dup dX12_init_240 rfl ?_
  refine gz_bipush (v := 10) dX12_init_241 (by decide) ?_
  refine gz_ldc2 (v := (6513008)) wd_726 dX12_init_243 ?_
  refine gz_last (g0 := (vp_updL (vp_updL (vp_updL (vp_updL (vp_updL (vp_updL (vp_updL (vp_updL (vp_updL (vp_updL (fun _ => 0) (Int32.toNatClampNeg 0) (31084793196801639)) (Int32.toNatClampNeg 1) (7302757)) (Int32.toNatClampNeg 2) (1734964837)) (Int32.toNatClampNeg 3) (1651471464)) (Int32.toNatClampNeg 4) (28530)) (Int32.toNatClampNeg 5) (1952998766)) (Int32.toNatClampNeg 6) (2003330414)) (Int32.toNatClampNeg 7) (27424540664098149)) (Int32.toNatClampNeg 8) (504364296556)) (Int32.toNatClampNeg 9) (495588568165))) (n := 11) (va_up_self _ _ _) (vin_T (v := 10) rfl (by decide) (by decide)) dX12_init_246 ?_
  refine gz_eq (f2 := va_up g19 q20 (some (.inl (cy 2, 11, .inr (.inl (vp_updL (vp_updL (vp_updL (vp_updL (vp_updL (vp_updL (vp_updL (vp_updL (vp_updL (vp_updL (vp_updL (fun _ => 0) (Int32.toNatClampNeg 0) (31084793196801639)) (Int32.toNatClampNeg 1) (7302757)) (Int32.toNatClampNeg 2) (1734964837)) (Int32.toNatClampNeg 3) (1651471464)) (Int32.toNatClampNeg 4) (28530)) (Int32.toNatClampNeg 5) (1952998766)) (Int32.toNatClampNeg 6) (2003330414)) (Int32.toNatClampNeg 7) (27424540664098149)) (Int32.toNatClampNeg 8) (504364296556)) (Int32.toNatClampNeg 9) (495588568165)) (Int32.toNatClampNeg 10) (6513008))))))) (bx_uu _ _ _ _) rfl rfl rfl ?_
  refine spX12_90 (mB_h hB19 hq20) rfl (Nat.le_of_ble_eq_true rfl) dX12_init_247 ?_
  refine gz_eq (f2 := va_up (va_up g19 q20 (some (.inl (cy 2, 11, .inr (.inl (vp_updL (vp_updL (vp_updL (vp_updL (vp_updL (vp_updL (vp_updL (vp_updL (vp_updL (vp_updL (vp_updL (fun _ => 0) (Int32.toNatClampNeg 0) (31084793196801639)) (Int32.toNatClampNeg 1) (7302757)) (Int32.toNatClampNeg 2) (1734964837)) (Int32.toNatClampNeg 3) (1651471464)) (Int32.toNatClampNeg 4) (28530)) (Int32.toNatClampNeg 5) (1952998766)) (Int32.toNatClampNeg 6) (2003330414)) (Int32.toNatClampNeg 7) (27424540664098149)) (Int32.toNatClampNeg 8) (504364296556)) (Int32.toNatClampNeg 9) (495588568165)) (Int32.toNatClampNeg 10) (6513008))))))) m (some (.inr (12, mFo (va_up a19 27 (some q20)) (fun _ => 0) (fun _ => 0))))) rfl rfl rfl rfl ?_
  have hB20 := mB_alloc (q := q20) (e := .inl (cy 2, 11, .inr (.inl (vp_updL (vp_updL (vp_updL (vp_updL (vp_updL (vp_updL (vp_updL (vp_updL (vp_updL (vp_updL (vp_updL (fun _ => 0) (Int32.toNatClampNeg 0) (31084793196801639)) (Int32.toNatClampNeg 1) (7302757)) (Int32.toNatClampNeg 2) (1734964837)) (Int32.toNatClampNeg 3) (1651471464)) (Int32.toNatClampNeg 4) (28530)) (Int32.toNatClampNeg 5) (1952998766)) (Int32.toNatClampNeg 6) (2003330414)) (Int32.toNatClampNeg 7) (27424540664098149)) (Int32.toNatClampNeg 8) (504364296556)) (Int32.toNatClampNeg 9) (495588568165)) (Int32.toNatClampNeg 10) (6513008))))) 27 hB19 hq20 rfl (by decide) (by intro i _ h2 h3; omega)
  refine gz_gen (fun g20 hg20 => ?_)
  obtain ⟨a20, ha20⟩ : ∃ aZ : Nat → Option Nat, aZ = va_up a19 27 (some q20) := ⟨_, rfl⟩
  rw [← hg20, ← ha20] at hB20
  refine gz_aload_n dX12_init_250 rfl rfl ?_
  refine gz_bipush (v := 6) dX12_init_251 (by decide) ?_
  refine gz_newa2 (N' := 6) (by decide) (by decide) (by decide) (Nat.le_of_ble_eq_true rfl) (Nat.le_of_ble_eq_true rfl) wd_236 dX12_init_253 (fun q21 hq21 => ?_)
  refine spX12_94 (mB_h hB20 hq21) rfl (Nat.le_of_ble_eq_true rfl) dX12_init_255 ?_
  refine gz_eq (f2 := va_up (va_up g20 q21 (some (.inl (cy 2, 6, .inr (.inl (fun _ => 0)))))) m (some (.inr (12, mFo (va_up a20 28 (some q21)) (fun _ => 0) (fun _ => 0))))) rfl rfl rfl rfl ?_
  have hB21 := mB_alloc (q := q21) (e := .inl (cy 2, 6, .inr (.inl (fun _ => 0)))) 28 hB20 hq21 rfl (by decide) (by intro i _ h2 h3; omega)
  refine gz_gen (fun g21 hg21 => ?_)
  obtain ⟨a21, ha21⟩ : ∃ aZ : Nat → Option Nat, aZ = va_up a20 28 (some q21) := ⟨_, rfl⟩
  rw [← hg21, ← ha21] at hB21
  refine gz_aload_n dX12_init_258 rfl rfl ?_
  refine gz_bipush (v := 40) dX12_init_259 (by decide) ?_
  refine gz_newa0 (N' := 40) (by decide) (by decide) (by decide) (Nat.le_of_ble_eq_true rfl) (Nat.le_of_ble_eq_true rfl) wd_3 dX12_init_261 (fun q22 hq22 => ?_)
  refine spX12_97 (mB_h hB21 hq22) rfl (Nat.le_of_ble_eq_true rfl) dX12_init_263 ?_
  refine gz_eq (f2 := va_up (va_up g21 q22 (some (.inl (cy 0, 40, .inl (fun _ => 0))))) m (some (.inr (12, mFo (va_up a21 31 (some q22)) (fun _ => 0) (fun _ => 0))))) rfl rfl rfl rfl ?_
  have hB22 := mB_alloc (q := q22) (e := .inl (cy 0, 40, .inl (fun _ => 0))) 31 hB21 hq22 rfl (by decide) (by intro i _ h2 h3; rcases (show i = 29 ∨ i = 30 by omega) with rfl | rfl <;> rfl)
  refine gz_gen (fun g22 hg22 => ?_)
  obtain ⟨a22, ha22⟩ : ∃ aZ : Nat → Option Nat, aZ = va_up a21 31 (some q22) := ⟨_, rfl⟩
  rw [← hg22, ← ha22] at hB22
  refine gz_aload_n dX12_init_266 rfl rfl ?_
  refine gz_bipush (v := 40) dX12_init_267 (by decide) ?_
  refine gz_newa0 (N' := 40) (by decide) (by decide) (by decide) (Nat.le_of_ble_eq_true rfl) (Nat.le_of_ble_eq_true rfl) wd_3 dX12_init_269 (fun q23 hq23 => ?_)
  refine spX12_100 (mB_h hB22 hq23) rfl (Nat.le_of_ble_eq_true rfl) dX12_init_271 ?_
  refine gz_eq (f2 := va_up (va_up g22 q23 (some (.inl (cy 0, 40, .inl (fun _ => 0))))) m (some (.inr (12, mFo (va_up a22 32 (some q23)) (fun _ => 0) (fun _ => 0))))) rfl rfl rfl rfl ?_
  have hB23 := mB_alloc (q := q23) (e := .inl (cy 0, 40, .inl (fun _ => 0))) 32 hB22 hq23 rfl (by decide) (by intro i _ h2 h3; omega)
  refine gz_gen (fun g23 hg23 => ?_)
  obtain ⟨a23, ha23⟩ : ∃ aZ : Nat → Option Nat, aZ = va_up a22 32 (some q23) := ⟨_, rfl⟩
  rw [← hg23, ← ha23] at hB23
  refine gz_aload_n dX12_init_274 rfl rfl ?_
  refine gz_bipush (v := 40) dX12_init_275 (by decide) ?_
  refine gz_newa0 (N' := 40) (by decide) (by decide) (by decide) (Nat.le_of_ble_eq_true rfl) (Nat.le_of_ble_eq_true rfl) wd_3 dX12_init_277 (fun q24 hq24 => ?_)
  refine spX12_103 (mB_h hB23 hq24) rfl (Nat.le_of_ble_eq_true rfl) dX12_init_279 ?_
  refine gz_eq (f2 := va_up (va_up g23 q24 (some (.inl (cy 0, 40, .inl (fun _ => 0))))) m (some (.inr (12, mFo (va_up a23 33 (some q24)) (fun _ => 0) (fun _ => 0))))) rfl rfl rfl rfl ?_
  have hB24 := mB_alloc (q := q24) (e := .inl (cy 0, 40, .inl (fun _ => 0))) 33 hB23 hq24 rfl (by decide) (by intro i _ h2 h3; omega)
  refine gz_gen (fun g24 hg24 => ?_)
  obtain ⟨a24, ha24⟩ : ∃ aZ : Nat → Option Nat, aZ = va_up a23 33 (some q24) := ⟨_, rfl⟩
  rw [← hg24, ← ha24] at hB24
  refine gz_aload_n dX12_init_282 rfl rfl ?_
  refine gz_bipush (v := 40) dX12_init_283 (by decide) ?_
  refine gz_newa2 (N' := 40) (by decide) (by decide) (by decide) (Nat.le_of_ble_eq_true rfl) (Nat.le_of_ble_eq_true rfl) wd_236 dX12_init_285 (fun q25 hq25 => ?_)
  refine spX12_106 (mB_h hB24 hq25) rfl (Nat.le_of_ble_eq_true rfl) dX12_init_287 ?_
  refine gz_eq (f2 := va_up (va_up g24 q25 (some (.inl (cy 2, 40, .inr (.inl (fun _ => 0)))))) m (some (.inr (12, mFo (va_up a24 34 (some q25)) (fun _ => 0) (fun _ => 0))))) rfl rfl rfl rfl ?_
  have hB25 := mB_alloc (q := q25) (e := .inl (cy 2, 40, .inr (.inl (fun _ => 0)))) 34 hB24 hq25 rfl (by decide) (by intro i _ h2 h3; omega)
  refine gz_gen (fun g25 hg25 => ?_)
  obtain ⟨a25, ha25⟩ : ∃ aZ : Nat → Option Nat, aZ = va_up a24 34 (some q25) := ⟨_, rfl⟩
  rw [← hg25, ← ha25] at hB25
  refine gz_aload_n dX12_init_290 rfl rfl ?_
  refine gz_bipush (v := 40) dX12_init_291 (by decide) ?_
  refine gz_newa0 (N' := 40) (by decide) (by decide) (by decide) (Nat.le_of_ble_eq_true rfl) (Nat.le_of_ble_eq_true rfl) wd_3 dX12_init_293 (fun q26 hq26 => ?_)
  refine spX12_109 (mB_h hB25 hq26) rfl (Nat.le_of_ble_eq_true rfl) dX12_init_295 ?_
  refine gz_eq (f2 := va_up (va_up g25 q26 (some (.inl (cy 0, 40, .inl (fun _ => 0))))) m (some (.inr (12, mFo (va_up a25 35 (some q26)) (fun _ => 0) (fun _ => 0))))) rfl rfl rfl rfl ?_
  have hB26 := mB_alloc (q := q26) (e := .inl (cy 0, 40, .inl (fun _ => 0))) 35 hB25 hq26 rfl (by decide) (by intro i _ h2 h3; omega)
  refine gz_gen (fun g26 hg26 => ?_)
  obtain ⟨a26, ha26⟩ : ∃ aZ : Nat → Option Nat, aZ = va_up a25 35 (some q26) := ⟨_, rfl⟩
  rw [← hg26, ← ha26] at hB26
  refine gz_aload_n dX12_init_298 rfl rfl ?_
  refine gz_sipush (v := 1600) dX12_init_299 (by decide) ?_
  refine gz_newa0 (N' := 1600) (by decide) (by decide) (by decide) (Nat.le_of_ble_eq_true rfl) (Nat.le_of_ble_eq_true rfl) wd_3 dX12_init_302 (fun q27 hq27 => ?_)
  refine spX12_112 (mB_h hB26 hq27) rfl (Nat.le_of_ble_eq_true rfl) dX12_init_304 ?_
  refine gz_eq (f2 := va_up (va_up g26 q27 (some (.inl (cy 0, 1600, .inl (fun _ => 0))))) m (some (.inr (12, mFo (va_up a26 36 (some q27)) (fun _ => 0) (fun _ => 0))))) rfl rfl rfl rfl ?_
  have hB27 := mB_alloc (q := q27) (e := .inl (cy 0, 1600, .inl (fun _ => 0))) 36 hB26 hq27 rfl (by decide) (by intro i _ h2 h3; omega)
  refine gz_gen (fun g27 hg27 => ?_)
  obtain ⟨a27, ha27⟩ : ∃ aZ : Nat → Option Nat, aZ = va_up a26 36 (some q27) := ⟨_, rfl⟩
  rw [← hg27, ← ha27] at hB27
  refine gz_aload_n dX12_init_307 rfl rfl ?_
  refine gz_sipush (v := 1600) dX12_init_308 (by decide) ?_
  refine gz_newa2 (N' := 1600) (by decide) (by decide) (by decide) (Nat.le_of_ble_eq_true rfl) (Nat.le_of_ble_eq_true rfl) wd_236 dX12_init_311 (fun q28 hq28 => ?_)
  refine spX12_115 (mB_h hB27 hq28) rfl (Nat.le_of_ble_eq_true rfl) dX12_init_313 ?_
  refine gz_eq (f2 := va_up (va_up g27 q28 (some (.inl (cy 2, 1600, .inr (.inl (fun _ => 0)))))) m (some (.inr (12, mFo (va_up a27 37 (some q28)) (fun _ => 0) (fun _ => 0))))) rfl rfl rfl rfl ?_
  have hB28 := mB_alloc (q := q28) (e := .inl (cy 2, 1600, .inr (.inl (fun _ => 0)))) 37 hB27 hq28 rfl (by decide) (by intro i _ h2 h3; omega)
  refine gz_gen (fun g28 hg28 => ?_)
  obtain ⟨a28, ha28⟩ : ∃ aZ : Nat → Option Nat, aZ = va_up a27 37 (some q28) := ⟨_, rfl⟩
  rw [← hg28, ← ha28] at hB28
  refine gz_aload_n dX12_init_316 rfl rfl ?_
  refine gz_sipush (v := 2000) dX12_init_317 (by decide) ?_
  refine gz_newa0 (N' := 2000) (by decide) (by decide) (by decide) (Nat.le_of_ble_eq_true rfl) (Nat.le_of_ble_eq_true rfl) wd_3 dX12_init_320 (fun q29 hq29 => ?_)
  refine spX12_118 (mB_h hB28 hq29) rfl (Nat.le_of_ble_eq_true rfl) dX12_init_322 ?_
  refine gz_eq (f2 := va_up (va_up g28 q29 (some (.inl (cy 0, 2000, .inl (fun _ => 0))))) m (some (.inr (12, mFo (va_up a28 39 (some q29)) (fun _ => 0) (fun _ => 0))))) rfl rfl rfl rfl ?_
  have hB29 := mB_alloc (q := q29) (e := .inl (cy 0, 2000, .inl (fun _ => 0))) 39 hB28 hq29 rfl (by decide) (by intro i _ h2 h3; rcases (show i = 38 by omega) with rfl <;> rfl)
  refine gz_gen (fun g29 hg29 => ?_)
  obtain ⟨a29, ha29⟩ : ∃ aZ : Nat → Option Nat, aZ = va_up a28 39 (some q29) := ⟨_, rfl⟩
  rw [← hg29, ← ha29] at hB29
  refine gz_aload_n dX12_init_325 rfl rfl ?_
  refine gz_sipush (v := 2000) dX12_init_326 (by decide) ?_
  refine gz_newa0 (N' := 2000) (by decide) (by decide) (by decide) (Nat.le_of_ble_eq_true rfl) (Nat.le_of_ble_eq_true rfl) wd_3 dX12_init_329 (fun q30 hq30 => ?_)
  refine spX12_121 (mB_h hB29 hq30) rfl (Nat.le_of_ble_eq_true rfl) dX12_init_331 ?_
  refine gz_eq (f2 := va_up (va_up g29 q30 (some (.inl (cy 0, 2000, .inl (fun _ => 0))))) m (some (.inr (12, mFo (va_up a29 40 (some q30)) (fun _ => 0) (fun _ => 0))))) rfl rfl rfl rfl ?_
  have hB30 := mB_alloc (q := q30) (e := .inl (cy 0, 2000, .inl (fun _ => 0))) 40 hB29 hq30 rfl (by decide) (by intro i _ h2 h3; omega)
  refine gz_gen (fun g30 hg30 => ?_)
  obtain ⟨a30, ha30⟩ : ∃ aZ : Nat → Option Nat, aZ = va_up a29 40 (some q30) := ⟨_, rfl⟩
  rw [← hg30, ← ha30] at hB30
  refine gz_aload_n dX12_init_334 rfl rfl ?_
  refine gz_sipush (v := 2000) dX12_init_335 (by decide) ?_
  refine gz_newa0 (N' := 2000) (by decide) (by decide) (by decide) (Nat.le_of_ble_eq_true rfl) (Nat.le_of_ble_eq_true rfl) wd_3 dX12_init_338 (fun q31 hq31 => ?_)
  refine spX12_124 (mB_h hB30 hq31) rfl (Nat.le_of_ble_eq_true rfl) dX12_init_340 ?_
  refine gz_eq (f2 := va_up (va_up g30 q31 (some (.inl (cy 0, 2000, .inl (fun _ => 0))))) m (some (.inr (12, mFo (va_up a30 41 (some q31)) (fun _ => 0) (fun _ => 0))))) rfl rfl rfl rfl ?_
  have hB31 := mB_alloc (q := q31) (e := .inl (cy 0, 2000, .inl (fun _ => 0))) 41 hB30 hq31 rfl (by decide) (by intro i _ h2 h3; omega)
  refine gz_gen (fun g31 hg31 => ?_)
  obtain ⟨a31, ha31⟩ : ∃ aZ : Nat → Option Nat, aZ = va_up a30 41 (some q31) := ⟨_, rfl⟩
  rw [← hg31, ← ha31] at hB31
  refine gz_aload_n dX12_init_343 rfl rfl ?_
  refine gz_sipush (v := 2000) dX12_init_344 (by decide) ?_
  refine gz_newa0 (N' := 2000) (by decide) (by decide) (by decide) (Nat.le_of_ble_eq_true rfl) (Nat.le_of_ble_eq_true rfl) wd_3 dX12_init_347 (fun q32 hq32 => ?_)
  refine spX12_127 (mB_h hB31 hq32) rfl (Nat.le_of_ble_eq_true rfl) dX12_init_349 ?_
  refine gz_eq (f2 := va_up (va_up g31 q32 (some (.inl (cy 0, 2000, .inl (fun _ => 0))))) m (some (.inr (12, mFo (va_up a31 42 (some q32)) (fun _ => 0) (fun _ => 0))))) rfl rfl rfl rfl ?_
  have hB32 := mB_alloc (q := q32) (e := .inl (cy 0, 2000, .inl (fun _ => 0))) 42 hB31 hq32 rfl (by decide) (by intro i _ h2 h3; omega)
  refine gz_gen (fun g32 hg32 => ?_)
  obtain ⟨a32, ha32⟩ : ∃ aZ : Nat → Option Nat, aZ = va_up a31 42 (some q32) := ⟨_, rfl⟩
  rw [← hg32, ← ha32] at hB32
  refine gz_aload_n dX12_init_352 rfl rfl ?_
  refine gz_bipush (v := 64) dX12_init_353 (by decide) ?_
  refine gz_newa0 (N' := 64) (by decide) (by decide) (by decide) (Nat.le_of_ble_eq_true rfl) (Nat.le_of_ble_eq_true rfl) wd_3 dX12_init_355 (fun q33 hq33 => ?_)
  refine spX12_130 (mB_h hB32 hq33) rfl (Nat.le_of_ble_eq_true rfl) dX12_init_357 ?_
  refine gz_eq (f2 := va_up (va_up g32 q33 (some (.inl (cy 0, 64, .inl (fun _ => 0))))) m (some (.inr (12, mFo (va_up a32 44 (some q33)) (fun _ => 0) (fun _ => 0))))) rfl rfl rfl rfl ?_
  have hB33 := mB_alloc (q := q33) (e := .inl (cy 0, 64, .inl (fun _ => 0))) 44 hB32 hq33 rfl (by decide) (by intro i _ h2 h3; rcases (show i = 43 by omega) with rfl <;> rfl)
  refine gz_gen (fun g33 hg33 => ?_)
  obtain ⟨a33, ha33⟩ : ∃ aZ : Nat → Option Nat, aZ = va_up a32 44 (some q33) := ⟨_, rfl⟩
  rw [← hg33, ← ha33] at hB33
  refine gz_aload_n dX12_init_360 rfl rfl ?_
  refine gz_bipush (v := 64) dX12_init_361 (by decide) ?_
  refine gz_newa2 (N' := 64) (by decide) (by decide) (by decide) (Nat.le_of_ble_eq_true rfl) (Nat.le_of_ble_eq_true rfl) wd_236 dX12_init_363 (fun q34 hq34 => ?_)
  refine spX12_133 (mB_h hB33 hq34) rfl (Nat.le_of_ble_eq_true rfl) dX12_init_365 ?_
  refine gz_eq (f2 := va_up (va_up g33 q34 (some (.inl (cy 2, 64, .inr (.inl (fun _ => 0)))))) m (some (.inr (12, mFo (va_up a33 45 (some q34)) (fun _ => 0) (fun _ => 0))))) rfl rfl rfl rfl ?_
  have hB34 := mB_alloc (q := q34) (e := .inl (cy 2, 64, .inr (.inl (fun _ => 0)))) 45 hB33 hq34 rfl (by decide) (by intro i _ h2 h3; omega)
  refine gz_gen (fun g34 hg34 => ?_)
  obtain ⟨a34, ha34⟩ : ∃ aZ : Nat → Option Nat, aZ = va_up a33 45 (some q34) := ⟨_, rfl⟩
  rw [← hg34, ← ha34] at hB34
  refine gz_aload_n dX12_init_368 rfl rfl ?_
  refine gz_bipush (v := 8) dX12_init_369 (by decide) ?_
  refine gz_newa0 (N' := 8) (by decide) (by decide) (by decide) (Nat.le_of_ble_eq_true rfl) (Nat.le_of_ble_eq_true rfl) wd_3 dX12_init_371 (fun q35 hq35 => ?_)
  refine spX12_136 (mB_h hB34 hq35) rfl (Nat.le_of_ble_eq_true rfl) dX12_init_373 ?_
  refine gz_eq (f2 := va_up (va_up g34 q35 (some (.inl (cy 0, 8, .inl (fun _ => 0))))) m (some (.inr (12, mFo (va_up a34 48 (some q35)) (fun _ => 0) (fun _ => 0))))) rfl rfl rfl rfl ?_
  have hB35 := mB_alloc (q := q35) (e := .inl (cy 0, 8, .inl (fun _ => 0))) 48 hB34 hq35 rfl (by decide) (by intro i _ h2 h3; rcases (show i = 46 ∨ i = 47 by omega) with rfl | rfl <;> rfl)
  refine gz_gen (fun g35 hg35 => ?_)
  obtain ⟨a35, ha35⟩ : ∃ aZ : Nat → Option Nat, aZ = va_up a34 48 (some q35) := ⟨_, rfl⟩
  rw [← hg35, ← ha35] at hB35
  refine gz_aload_n dX12_init_376 rfl rfl ?_
  refine gz_bipush (v := 8) dX12_init_377 (by decide) ?_
  refine gz_newa0 (N' := 8) (by decide) (by decide) (by decide) (Nat.le_of_ble_eq_true rfl) (Nat.le_of_ble_eq_true rfl) wd_3 dX12_init_379 (fun q36 hq36 => ?_)
  refine spX12_139 (mB_h hB35 hq36) rfl (Nat.le_of_ble_eq_true rfl) dX12_init_381 ?_
  refine gz_eq (f2 := va_up (va_up g35 q36 (some (.inl (cy 0, 8, .inl (fun _ => 0))))) m (some (.inr (12, mFo (va_up a35 49 (some q36)) (fun _ => 0) (fun _ => 0))))) rfl rfl rfl rfl ?_
  have hB36 := mB_alloc (q := q36) (e := .inl (cy 0, 8, .inl (fun _ => 0))) 49 hB35 hq36 rfl (by decide) (by intro i _ h2 h3; omega)
  refine gz_gen (fun g36 hg36 => ?_)
  obtain ⟨a36, ha36⟩ : ∃ aZ : Nat → Option Nat, aZ = va_up a35 49 (some q36) := ⟨_, rfl⟩
  rw [← hg36, ← ha36] at hB36
  refine gz_aload_n dX12_init_384 rfl rfl ?_
  refine gz_bipush (v := 8) dX12_init_385 (by decide) ?_
  refine gz_newa2 (N' := 8) (by decide) (by decide) (by decide) (Nat.le_of_ble_eq_true rfl) (Nat.le_of_ble_eq_true rfl) wd_236 dX12_init_387 (fun q37 hq37 => ?_)
  refine spX12_142 (mB_h hB36 hq37) rfl (Nat.le_of_ble_eq_true rfl) dX12_init_389 ?_
  refine gz_eq (f2 := va_up (va_up g36 q37 (some (.inl (cy 2, 8, .inr (.inl (fun _ => 0)))))) m (some (.inr (12, mFo (va_up a36 50 (some q37)) (fun _ => 0) (fun _ => 0))))) rfl rfl rfl rfl ?_
  have hB37 := mB_alloc (q := q37) (e := .inl (cy 2, 8, .inr (.inl (fun _ => 0)))) 50 hB36 hq37 rfl (by decide) (by intro i _ h2 h3; omega)
  refine gz_gen (fun g37 hg37 => ?_)
  obtain ⟨a37, ha37⟩ : ∃ aZ : Nat → Option Nat, aZ = va_up a36 50 (some q37) := ⟨_, rfl⟩
  rw [← hg37, ← ha37] at hB37
  refine gz_aload_n dX12_init_392 rfl rfl ?_
  refine gz_bipush (v := 8) dX12_init_393 (by decide) ?_
  refine gz_newa2 (N' := 8) (by decide) (by decide) (by decide) (Nat.le_of_ble_eq_true rfl) (Nat.le_of_ble_eq_true rfl) wd_236 dX12_init_395 (fun q38 hq38 => ?_)
  refine spX12_145 (mB_h hB37 hq38) rfl (Nat.le_of_ble_eq_true rfl) dX12_init_397 ?_
  refine gz_eq (f2 := va_up (va_up g37 q38 (some (.inl (cy 2, 8, .inr (.inl (fun _ => 0)))))) m (some (.inr (12, mFo (va_up a37 51 (some q38)) (fun _ => 0) (fun _ => 0))))) rfl rfl rfl rfl ?_
  have hB38 := mB_alloc (q := q38) (e := .inl (cy 2, 8, .inr (.inl (fun _ => 0)))) 51 hB37 hq38 rfl (by decide) (by intro i _ h2 h3; omega)
  refine gz_gen (fun g38 hg38 => ?_)
  obtain ⟨a38, ha38⟩ : ∃ aZ : Nat → Option Nat, aZ = va_up a37 51 (some q38) := ⟨_, rfl⟩
  rw [← hg38, ← ha38] at hB38
  refine gz_aload_n dX12_init_400 rfl rfl ?_
  refine gz_bipush (v := 8) dX12_init_401 (by decide) ?_
  refine gz_newa2 (N' := 8) (by decide) (by decide) (by decide) (Nat.le_of_ble_eq_true rfl) (Nat.le_of_ble_eq_true rfl) wd_236 dX12_init_403 (fun q39 hq39 => ?_)
  refine spX12_148 (mB_h hB38 hq39) rfl (Nat.le_of_ble_eq_true rfl) dX12_init_405 ?_
  refine gz_eq (f2 := va_up (va_up g38 q39 (some (.inl (cy 2, 8, .inr (.inl (fun _ => 0)))))) m (some (.inr (12, mFo (va_up a38 52 (some q39)) (fun _ => 0) (fun _ => 0))))) rfl rfl rfl rfl ?_
  have hB39 := mB_alloc (q := q39) (e := .inl (cy 2, 8, .inr (.inl (fun _ => 0)))) 52 hB38 hq39 rfl (by decide) (by intro i _ h2 h3; omega)
  refine gz_gen (fun g39 hg39 => ?_)
  obtain ⟨a39, ha39⟩ : ∃ aZ : Nat → Option Nat, aZ = va_up a38 52 (some q39) := ⟨_, rfl⟩
  rw [← hg39, ← ha39] at hB39
  refine gz_aload_n dX12_init_408 rfl rfl ?_
  refine gz_iconst (v := 1) dX12_init_409 (by decide) ?_
  refine spX12_151 hB39.1 (Nat.le_of_ble_eq_true rfl) dX12_init_410 ?_
  refine gz_eq (f2 := va_up g39 m (some (.inr (12, mFo a39 (va_up (fun _ => 0) 53 1) (fun _ => 0))))) rfl rfl rfl rfl ?_
  have hB40 := mB_n (n2 := (va_up (fun _ => 0) 53 1)) hB39
  refine gz_gen (fun g40 hg40 => ?_)
  rw [← hg40] at hB40
  refine gz_aload_n dX12_init_413 rfl rfl ?_
  refine gz_iconst (v := 3) dX12_init_414 (by decide) ?_
  refine gz_newa0 (N' := 3) (by decide) (by decide) (by decide) (Nat.le_of_ble_eq_true rfl) (Nat.le_of_ble_eq_true rfl) wd_3 dX12_init_415 (fun q40 hq40 => ?_)
  refine spX12_155 (mB_h hB40 hq40) rfl (Nat.le_of_ble_eq_true rfl) dX12_init_417 ?_
  refine gz_eq (f2 := va_up (va_up g40 q40 (some (.inl (cy 0, 3, .inl (fun _ => 0))))) m (some (.inr (12, mFo (va_up a39 54 (some q40)) (va_up (fun _ => 0) 53 1) (fun _ => 0))))) rfl rfl rfl rfl ?_
  have hB41 := mB_alloc (q := q40) (e := .inl (cy 0, 3, .inl (fun _ => 0))) 54 hB40 hq40 rfl (by decide) (by intro i _ h2 h3; rcases (show i = 53 by omega) with rfl <;> rfl)
  refine gz_gen (fun g41 hg41 => ?_)
  obtain ⟨a41, ha41⟩ : ∃ aZ : Nat → Option Nat, aZ = va_up a39 54 (some q40) := ⟨_, rfl⟩
  rw [← hg41, ← ha41] at hB41
  refine gz_aload_n dX12_init_420 rfl rfl ?_
  refine gz_bipush (v := 18) dX12_init_421 (by decide) ?_
  refine gz_newa0 (N' := 18) (by decide) (by decide) (by decide) (Nat.le_of_ble_eq_true rfl) (Nat.le_of_ble_eq_true rfl) wd_3 dX12_init_423 (fun q41 hq41 => ?_)
  refine spX12_158 (mB_h hB41 hq41) rfl (Nat.le_of_ble_eq_true rfl) dX12_init_425 ?_
  refine gz_eq (f2 := va_up (va_up g41 q41 (some (.inl (cy 0, 18, .inl (fun _ => 0))))) m (some (.inr (12, mFo (va_up a41 55 (some q41)) (va_up (fun _ => 0) 53 1) (fun _ => 0))))) rfl rfl rfl rfl ?_
  have hB42 := mB_alloc (q := q41) (e := .inl (cy 0, 18, .inl (fun _ => 0))) 55 hB41 hq41 rfl (by decide) (by intro i _ h2 h3; omega)
  refine gz_gen (fun g42 hg42 => ?_)
  obtain ⟨a42, ha42⟩ : ∃ aZ : Nat → Option Nat, aZ = va_up a41 55 (some q41) := ⟨_, rfl⟩
  rw [← hg42, ← ha42] at hB42
  refine gz_aload_n dX12_init_428 rfl rfl ?_
  refine gz_bipush (v := 6) dX12_init_429 (by decide) ?_
  refine gz_newa0 (N' := 6) (by decide) (by decide) (by decide) (Nat.le_of_ble_eq_true rfl) (Nat.le_of_ble_eq_true rfl) wd_3 dX12_init_431 (fun q42 hq42 => ?_)
  refine spX12_161 (mB_h hB42 hq42) rfl (Nat.le_of_ble_eq_true rfl) dX12_init_433 ?_
  refine gz_eq (f2 := va_up (va_up g42 q42 (some (.inl (cy 0, 6, .inl (fun _ => 0))))) m (some (.inr (12, mFo (va_up a42 56 (some q42)) (va_up (fun _ => 0) 53 1) (fun _ => 0))))) rfl rfl rfl rfl ?_
  have hB43 := mB_alloc (q := q42) (e := .inl (cy 0, 6, .inl (fun _ => 0))) 56 hB42 hq42 rfl (by decide) (by intro i _ h2 h3; omega)
  refine gz_gen (fun g43 hg43 => ?_)
  obtain ⟨a43, ha43⟩ : ∃ aZ : Nat → Option Nat, aZ = va_up a42 56 (some q42) := ⟨_, rfl⟩
  rw [← hg43, ← ha43] at hB43
  refine gz_aload_n dX12_init_436 rfl rfl ?_
  refine gz_bipush (v := 80) dX12_init_437 (by decide) ?_
  refine gz_newa0 (N' := 80) (by decide) (by decide) (by decide) (Nat.le_of_ble_eq_true rfl) (Nat.le_of_ble_eq_true rfl) wd_3 dX12_init_439 (fun q43 hq43 => ?_)
  refine spX12_164 (mB_h hB43 hq43) rfl (Nat.le_of_ble_eq_true rfl) dX12_init_441 ?_
  refine gz_eq (f2 := va_up (va_up g43 q43 (some (.inl (cy 0, 80, .inl (fun _ => 0))))) m (some (.inr (12, mFo (va_up a43 58 (some q43)) (va_up (fun _ => 0) 53 1) (fun _ => 0))))) rfl rfl rfl rfl ?_
  have hB44 := mB_alloc (q := q43) (e := .inl (cy 0, 80, .inl (fun _ => 0))) 58 hB43 hq43 rfl (by decide) (by intro i _ h2 h3; rcases (show i = 57 by omega) with rfl <;> rfl)
  refine gz_gen (fun g44 hg44 => ?_)
  obtain ⟨a44, ha44⟩ : ∃ aZ : Nat → Option Nat, aZ = va_up a43 58 (some q43) := ⟨_, rfl⟩
  rw [← hg44, ← ha44] at hB44
  refine gz_aload_n dX12_init_444 rfl rfl ?_
  refine gz_bipush (v := 80) dX12_init_445 (by decide) ?_
  refine gz_newa0 (N' := 80) (by decide) (by decide) (by decide) (Nat.le_of_ble_eq_true rfl) (Nat.le_of_ble_eq_true rfl) wd_3 dX12_init_447 (fun q44 hq44 => ?_)
  refine spX12_167 (mB_h hB44 hq44) rfl (Nat.le_of_ble_eq_true rfl) dX12_init_449 ?_
  refine gz_eq (f2 := va_up (va_up g44 q44 (some (.inl (cy 0, 80, .inl (fun _ => 0))))) m (some (.inr (12, mFo (va_up a44 59 (some q44)) (va_up (fun _ => 0) 53 1) (fun _ => 0))))) rfl rfl rfl rfl ?_
  have hB45 := mB_alloc (q := q44) (e := .inl (cy 0, 80, .inl (fun _ => 0))) 59 hB44 hq44 rfl (by decide) (by intro i _ h2 h3; omega)
  refine gz_gen (fun g45 hg45 => ?_)
  obtain ⟨a45, ha45⟩ : ∃ aZ : Nat → Option Nat, aZ = va_up a44 59 (some q44) := ⟨_, rfl⟩
  rw [← hg45, ← ha45] at hB45
  refine gz_aload_n dX12_init_452 rfl rfl ?_
  refine gz_bipush (v := 80) dX12_init_453 (by decide) ?_
  refine gz_newa0 (N' := 80) (by decide) (by decide) (by decide) (Nat.le_of_ble_eq_true rfl) (Nat.le_of_ble_eq_true rfl) wd_3 dX12_init_455 (fun q45 hq45 => ?_)
  refine spX12_170 (mB_h hB45 hq45) rfl (Nat.le_of_ble_eq_true rfl) dX12_init_457 ?_
  refine gz_eq (f2 := va_up (va_up g45 q45 (some (.inl (cy 0, 80, .inl (fun _ => 0))))) m (some (.inr (12, mFo (va_up a45 60 (some q45)) (va_up (fun _ => 0) 53 1) (fun _ => 0))))) rfl rfl rfl rfl ?_
  have hB46 := mB_alloc (q := q45) (e := .inl (cy 0, 80, .inl (fun _ => 0))) 60 hB45 hq45 rfl (by decide) (by intro i _ h2 h3; omega)
  refine gz_gen (fun g46 hg46 => ?_)
  obtain ⟨a46, ha46⟩ : ∃ aZ : Nat → Option Nat, aZ = va_up a45 60 (some q45) := ⟨_, rfl⟩
  rw [← hg46, ← ha46] at hB46
  refine gz_aload_n dX12_init_460 rfl rfl ?_
  refine gz_bipush (v := 80) dX12_init_461 (by decide) ?_
  refine gz_newa2 (N' := 80) (by decide) (by decide) (by decide) (Nat.le_of_ble_eq_true rfl) (Nat.le_of_ble_eq_true rfl) wd_236 dX12_init_463 (fun q46 hq46 => ?_)
  refine spX12_173 (mB_h hB46 hq46) rfl (Nat.le_of_ble_eq_true rfl) dX12_init_465 ?_
  refine gz_eq (f2 := va_up (va_up g46 q46 (some (.inl (cy 2, 80, .inr (.inl (fun _ => 0)))))) m (some (.inr (12, mFo (va_up a46 61 (some q46)) (va_up (fun _ => 0) 53 1) (fun _ => 0))))) rfl rfl rfl rfl ?_
  have hB47 := mB_alloc (q := q46) (e := .inl (cy 2, 80, .inr (.inl (fun _ => 0)))) 61 hB46 hq46 rfl (by decide) (by intro i _ h2 h3; omega)
  refine gz_gen (fun g47 hg47 => ?_)
  obtain ⟨a47, ha47⟩ : ∃ aZ : Nat → Option Nat, aZ = va_up a46 61 (some q46) := ⟨_, rfl⟩
  rw [← hg47, ← ha47] at hB47
  refine gz_aload_n dX12_init_468 rfl rfl ?_
  refine gz_bipush (v := 80) dX12_init_469 (by decide) ?_
  refine gz_newa0 (N' := 80) (by decide) (by decide) (by decide) (Nat.le_of_ble_eq_true rfl) (Nat.le_of_ble_eq_true rfl) wd_3 dX12_init_471 (fun q47 hq47 => ?_)
  refine spX12_176 (mB_h hB47 hq47) rfl (Nat.le_of_ble_eq_true rfl) dX12_init_473 ?_
  refine gz_eq (f2 := va_up (va_up g47 q47 (some (.inl (cy 0, 80, .inl (fun _ => 0))))) m (some (.inr (12, mFo (va_up a47 62 (some q47)) (va_up (fun _ => 0) 53 1) (fun _ => 0))))) rfl rfl rfl rfl ?_
  have hB48 := mB_alloc (q := q47) (e := .inl (cy 0, 80, .inl (fun _ => 0))) 62 hB47 hq47 rfl (by decide) (by intro i _ h2 h3; omega)
  refine gz_gen (fun g48 hg48 => ?_)
  obtain ⟨a48, ha48⟩ : ∃ aZ : Nat → Option Nat, aZ = va_up a47 62 (some q47) := ⟨_, rfl⟩
  rw [← hg48, ← ha48] at hB48
  refine gz_aload_n dX12_init_476 rfl rfl ?_
  refine gz_bipush (v := 80) dX12_init_477 (by decide) ?_
  refine gz_newa2 (N' := 80) (by decide) (by decide) (by decide) (Nat.le_of_ble_eq_true rfl) (Nat.le_of_ble_eq_true rfl) wd_236 dX12_init_479 (fun q48 hq48 => ?_)
  refine spX12_179 (mB_h hB48 hq48) rfl (Nat.le_of_ble_eq_true rfl) dX12_init_481 ?_
  refine gz_eq (f2 := va_up (va_up g48 q48 (some (.inl (cy 2, 80, .inr (.inl (fun _ => 0)))))) m (some (.inr (12, mFo (va_up a48 63 (some q48)) (va_up (fun _ => 0) 53 1) (fun _ => 0))))) rfl rfl rfl rfl ?_
  have hB49 := mB_alloc (q := q48) (e := .inl (cy 2, 80, .inr (.inl (fun _ => 0)))) 63 hB48 hq48 rfl (by decide) (by intro i _ h2 h3; omega)
  refine gz_gen (fun g49 hg49 => ?_)
  obtain ⟨a49, ha49⟩ : ∃ aZ : Nat → Option Nat, aZ = va_up a48 63 (some q48) := ⟨_, rfl⟩
  rw [← hg49, ← ha49] at hB49
  refine gz_aload_n dX12_init_484 rfl rfl ?_
  refine gz_bipush (v := 80) dX12_init_485 (by decide) ?_
  refine gz_newa3 (N' := 80) (by decide) (by decide) (by decide) (Nat.le_of_ble_eq_true rfl) (Nat.le_of_ble_eq_true rfl) wd_757 dX12_init_487 (fun q49 hq49 => ?_)
  refine spX12_182 (mB_h hB49 hq49) rfl (Nat.le_of_ble_eq_true rfl) dX12_init_489 ?_
  refine gz_eq (f2 := va_up (va_up g49 q49 (some (.inl (cy 3, 80, .inl (fun _ => 0))))) m (some (.inr (12, mFo (va_up a49 64 (some q49)) (va_up (fun _ => 0) 53 1) (fun _ => 0))))) rfl rfl rfl rfl ?_
  have hB50 := mB_alloc (q := q49) (e := .inl (cy 3, 80, .inl (fun _ => 0))) 64 hB49 hq49 rfl (by decide) (by intro i _ h2 h3; omega)
  refine gz_gen (fun g50 hg50 => ?_)
  obtain ⟨a50, ha50⟩ : ∃ aZ : Nat → Option Nat, aZ = va_up a49 64 (some q49) := ⟨_, rfl⟩
  rw [← hg50, ← ha50] at hB50
  refine gz_aload_n dX12_init_492 rfl rfl ?_
  refine gz_bipush (v := 80) dX12_init_493 (by decide) ?_
  refine gz_newa2 (N' := 80) (by decide) (by decide) (by decide) (Nat.le_of_ble_eq_true rfl) (Nat.le_of_ble_eq_true rfl) wd_236 dX12_init_495 (fun q50 hq50 => ?_)
  refine spX12_186 (mB_h hB50 hq50) rfl (Nat.le_of_ble_eq_true rfl) dX12_init_497 ?_
  refine gz_eq (f2 := va_up (va_up g50 q50 (some (.inl (cy 2, 80, .inr (.inl (fun _ => 0)))))) m (some (.inr (12, mFo (va_up a50 65 (some q50)) (va_up (fun _ => 0) 53 1) (fun _ => 0))))) rfl rfl rfl rfl ?_
  have hB51 := mB_alloc (q := q50) (e := .inl (cy 2, 80, .inr (.inl (fun _ => 0)))) 65 hB50 hq50 rfl (by decide) (by intro i _ h2 h3; omega)
  refine gz_gen (fun g51 hg51 => ?_)
  obtain ⟨a51, ha51⟩ : ∃ aZ : Nat → Option Nat, aZ = va_up a50 65 (some q50) := ⟨_, rfl⟩
  rw [← hg51, ← ha51] at hB51
  refine gz_aload_n dX12_init_500 rfl rfl ?_
  refine gz_bipush (v := 80) dX12_init_501 (by decide) ?_
  refine gz_newa0 (N' := 80) (by decide) (by decide) (by decide) (Nat.le_of_ble_eq_true rfl) (Nat.le_of_ble_eq_true rfl) wd_3 dX12_init_503 (fun q51 hq51 => ?_)
  refine spX12_189 (mB_h hB51 hq51) rfl (Nat.le_of_ble_eq_true rfl) dX12_init_505 ?_
  refine gz_eq (f2 := va_up (va_up g51 q51 (some (.inl (cy 0, 80, .inl (fun _ => 0))))) m (some (.inr (12, mFo (va_up a51 66 (some q51)) (va_up (fun _ => 0) 53 1) (fun _ => 0))))) rfl rfl rfl rfl ?_
  have hB52 := mB_alloc (q := q51) (e := .inl (cy 0, 80, .inl (fun _ => 0))) 66 hB51 hq51 rfl (by decide) (by intro i _ h2 h3; omega)
  refine gz_gen (fun g52 hg52 => ?_)
  obtain ⟨a52, ha52⟩ : ∃ aZ : Nat → Option Nat, aZ = va_up a51 66 (some q51) := ⟨_, rfl⟩
  rw [← hg52, ← ha52] at hB52
  refine gz_aload_n dX12_init_508 rfl rfl ?_
  refine gz_bipush (v := 13) dX12_init_509 (by decide) ?_
  refine gz_newa0 (N' := 13) (by decide) (by decide) (by decide) (Nat.le_of_ble_eq_true rfl) (Nat.le_of_ble_eq_true rfl) wd_3 dX12_init_511 (fun q52 hq52 => ?_)
  refine spX12_192 (mB_h hB52 hq52) rfl (Nat.le_of_ble_eq_true rfl) dX12_init_513 ?_
  refine gz_eq (f2 := va_up (va_up g52 q52 (some (.inl (cy 0, 13, .inl (fun _ => 0))))) m (some (.inr (12, mFo (va_up a52 68 (some q52)) (va_up (fun _ => 0) 53 1) (fun _ => 0))))) rfl rfl rfl rfl ?_
  have hB53 := mB_alloc (q := q52) (e := .inl (cy 0, 13, .inl (fun _ => 0))) 68 hB52 hq52 rfl (by decide) (by intro i _ h2 h3; rcases (show i = 67 by omega) with rfl <;> rfl)
  refine gz_gen (fun g53 hg53 => ?_)
  obtain ⟨a53, ha53⟩ : ∃ aZ : Nat → Option Nat, aZ = va_up a52 68 (some q52) := ⟨_, rfl⟩
  rw [← hg53, ← ha53] at hB53
  refine gz_aload_n dX12_init_516 rfl rfl ?_
  refine gz_sipush (v := 5265) dX12_init_517 (by decide) ?_
  refine gz_newa3 (N' := 5265) (by decide) (by decide) (by decide) (Nat.le_of_ble_eq_true rfl) (Nat.le_of_ble_eq_true rfl) wd_757 dX12_init_520 (fun q53 hq53 => ?_)
  refine spX12_195 (mB_h hB53 hq53) rfl (Nat.le_of_ble_eq_true rfl) dX12_init_522 ?_
  refine gz_eq (f2 := va_up (va_up g53 q53 (some (.inl (cy 3, 5265, .inl (fun _ => 0))))) m (some (.inr (12, mFo (va_up a53 69 (some q53)) (va_up (fun _ => 0) 53 1) (fun _ => 0))))) rfl rfl rfl rfl ?_
  have hB54 := mB_alloc (q := q53) (e := .inl (cy 3, 5265, .inl (fun _ => 0))) 69 hB53 hq53 rfl (by decide) (by intro i _ h2 h3; omega)
  refine gz_gen (fun g54 hg54 => ?_)
  obtain ⟨a54, ha54⟩ : ∃ aZ : Nat → Option Nat, aZ = va_up a53 69 (some q53) := ⟨_, rfl⟩
  rw [← hg54, ← ha54] at hB54
  refine gz_aload_n dX12_init_525 rfl rfl ?_
  refine gz_sipush (v := 5265) dX12_init_526 (by decide) ?_
  refine gz_newa0 (N' := 5265) (by decide) (by decide) (by decide) (Nat.le_of_ble_eq_true rfl) (Nat.le_of_ble_eq_true rfl) wd_3 dX12_init_529 (fun q54 hq54 => ?_)
  refine spX12_198 (mB_h hB54 hq54) rfl (Nat.le_of_ble_eq_true rfl) dX12_init_531 ?_
  refine gz_eq (f2 := va_up (va_up g54 q54 (some (.inl (cy 0, 5265, .inl (fun _ => 0))))) m (some (.inr (12, mFo (va_up a54 71 (some q54)) (va_up (fun _ => 0) 53 1) (fun _ => 0))))) rfl rfl rfl rfl ?_
  have hB55 := mB_alloc (q := q54) (e := .inl (cy 0, 5265, .inl (fun _ => 0))) 71 hB54 hq54 rfl (by decide) (by intro i _ h2 h3; rcases (show i = 70 by omega) with rfl <;> rfl)
  refine gz_gen (fun g55 hg55 => ?_)
  obtain ⟨a55, ha55⟩ : ∃ aZ : Nat → Option Nat, aZ = va_up a54 71 (some q54) := ⟨_, rfl⟩
  rw [← hg55, ← ha55] at hB55
  refine gz_aload_n dX12_init_534 rfl rfl ?_
  refine gz_bipush (v := 64) dX12_init_535 (by decide) ?_
  refine gz_newa0 (N' := 64) (by decide) (by decide) (by decide) (Nat.le_of_ble_eq_true rfl) (Nat.le_of_ble_eq_true rfl) wd_3 dX12_init_537 (fun q55 hq55 => ?_)
  refine spX12_201 (mB_h hB55 hq55) rfl (Nat.le_of_ble_eq_true rfl) dX12_init_539 ?_
  refine gz_eq (f2 := va_up (va_up g55 q55 (some (.inl (cy 0, 64, .inl (fun _ => 0))))) m (some (.inr (12, mFo (va_up a55 73 (some q55)) (va_up (fun _ => 0) 53 1) (fun _ => 0))))) rfl rfl rfl rfl ?_
  have hB56 := mB_alloc (q := q55) (e := .inl (cy 0, 64, .inl (fun _ => 0))) 73 hB55 hq55 rfl (by decide) (by intro i _ h2 h3; rcases (show i = 72 by omega) with rfl <;> rfl)
  refine gz_gen (fun g56 hg56 => ?_)
  obtain ⟨a56, ha56⟩ : ∃ aZ : Nat → Option Nat, aZ = va_up a55 73 (some q55) := ⟨_, rfl⟩
  rw [← hg56, ← ha56] at hB56
  refine gz_aload_n dX12_init_542 rfl rfl ?_
  refine gz_bipush (v := 64) dX12_init_543 (by decide) ?_
  refine gz_newa2 (N' := 64) (by decide) (by decide) (by decide) (Nat.le_of_ble_eq_true rfl) (Nat.le_of_ble_eq_true rfl) wd_236 dX12_init_545 (fun q56 hq56 => ?_)
  refine spX12_204 (mB_h hB56 hq56) rfl (Nat.le_of_ble_eq_true rfl) dX12_init_547 ?_
  refine gz_eq (f2 := va_up (va_up g56 q56 (some (.inl (cy 2, 64, .inr (.inl (fun _ => 0)))))) m (some (.inr (12, mFo (va_up a56 74 (some q56)) (va_up (fun _ => 0) 53 1) (fun _ => 0))))) rfl rfl rfl rfl ?_
  have hB57 := mB_alloc (q := q56) (e := .inl (cy 2, 64, .inr (.inl (fun _ => 0)))) 74 hB56 hq56 rfl (by decide) (by intro i _ h2 h3; omega)
  refine gz_gen (fun g57 hg57 => ?_)
  obtain ⟨a57, ha57⟩ : ∃ aZ : Nat → Option Nat, aZ = va_up a56 74 (some q56) := ⟨_, rfl⟩
  rw [← hg57, ← ha57] at hB57
  refine gz_aload_n dX12_init_550 rfl rfl ?_
  refine gz_iconst (v := 5) dX12_init_551 (by decide) ?_
  refine gz_newa2 (N' := 5) (by decide) (by decide) (by decide) (Nat.le_of_ble_eq_true rfl) (Nat.le_of_ble_eq_true rfl) wd_236 dX12_init_552 (fun q57 hq57 => ?_)
  refine spX12_207 (mB_h hB57 hq57) rfl (Nat.le_of_ble_eq_true rfl) dX12_init_554 ?_
  refine gz_eq (f2 := va_up (va_up g57 q57 (some (.inl (cy 2, 5, .inr (.inl (fun _ => 0)))))) m (some (.inr (12, mFo (va_up a57 75 (some q57)) (va_up (fun _ => 0) 53 1) (fun _ => 0))))) rfl rfl rfl rfl ?_
  have hB58 := mB_alloc (q := q57) (e := .inl (cy 2, 5, .inr (.inl (fun _ => 0)))) 75 hB57 hq57 rfl (by decide) (by intro i _ h2 h3; omega)
  refine gz_gen (fun g58 hg58 => ?_)
  obtain ⟨a58, ha58⟩ : ∃ aZ : Nat → Option Nat, aZ = va_up a57 75 (some q57) := ⟨_, rfl⟩
  rw [← hg58, ← ha58] at hB58
  refine gz_aload_n dX12_init_557 rfl rfl ?_
  refine gz_bipush (v := 82) dX12_init_558 (by decide) ?_
  refine gz_newa0 (N' := 82) (by decide) (by decide) (by decide) (Nat.le_of_ble_eq_true rfl) (Nat.le_of_ble_eq_true rfl) wd_3 dX12_init_560 (fun q58 hq58 => ?_)
  refine spX12_210 (mB_h hB58 hq58) rfl (Nat.le_of_ble_eq_true rfl) dX12_init_562 ?_
  refine gz_eq (f2 := va_up (va_up g58 q58 (some (.inl (cy 0, 82, .inl (fun _ => 0))))) m (some (.inr (12, mFo (va_up a58 76 (some q58)) (va_up (fun _ => 0) 53 1) (fun _ => 0))))) rfl rfl rfl rfl ?_
  have hB59 := mB_alloc (q := q58) (e := .inl (cy 0, 82, .inl (fun _ => 0))) 76 hB58 hq58 rfl (by decide) (by intro i _ h2 h3; omega)
  refine gz_gen (fun g59 hg59 => ?_)
  obtain ⟨a59, ha59⟩ : ∃ aZ : Nat → Option Nat, aZ = va_up a58 76 (some q58) := ⟨_, rfl⟩
  rw [← hg59, ← ha59] at hB59
  refine gz_aload_n dX12_init_565 rfl rfl ?_
  refine gz_bipush (v := 82) dX12_init_566 (by decide) ?_
  refine gz_newa0 (N' := 82) (by decide) (by decide) (by decide) (Nat.le_of_ble_eq_true rfl) (Nat.le_of_ble_eq_true rfl) wd_3 dX12_init_568 (fun q59 hq59 => ?_)
  refine spX12_213 (mB_h hB59 hq59) rfl (Nat.le_of_ble_eq_true rfl) dX12_init_570 ?_
  refine gz_eq (f2 := va_up (va_up g59 q59 (some (.inl (cy 0, 82, .inl (fun _ => 0))))) m (some (.inr (12, mFo (va_up a59 77 (some q59)) (va_up (fun _ => 0) 53 1) (fun _ => 0))))) rfl rfl rfl rfl ?_
  have hB60 := mB_alloc (q := q59) (e := .inl (cy 0, 82, .inl (fun _ => 0))) 77 hB59 hq59 rfl (by decide) (by intro i _ h2 h3; omega)
  refine gz_gen (fun g60 hg60 => ?_)
  obtain ⟨a60, ha60⟩ : ∃ aZ : Nat → Option Nat, aZ = va_up a59 77 (some q59) := ⟨_, rfl⟩
  rw [← hg60, ← ha60] at hB60
  refine gz_aload_n dX12_init_573 rfl rfl ?_
  refine gz_bipush (v := 82) dX12_init_574 (by decide) ?_
  refine gz_newa0 (N' := 82) (by decide) (by decide) (by decide) (Nat.le_of_ble_eq_true rfl) (Nat.le_of_ble_eq_true rfl) wd_3 dX12_init_576 (fun q60 hq60 => ?_)
  refine spX12_216 (mB_h hB60 hq60) rfl (Nat.le_of_ble_eq_true rfl) dX12_init_578 ?_
  refine gz_eq (f2 := va_up (va_up g60 q60 (some (.inl (cy 0, 82, .inl (fun _ => 0))))) m (some (.inr (12, mFo (va_up a60 78 (some q60)) (va_up (fun _ => 0) 53 1) (fun _ => 0))))) rfl rfl rfl rfl ?_
  have hB61 := mB_alloc (q := q60) (e := .inl (cy 0, 82, .inl (fun _ => 0))) 78 hB60 hq60 rfl (by decide) (by intro i _ h2 h3; omega)
  refine gz_gen (fun g61 hg61 => ?_)
  obtain ⟨a61, ha61⟩ : ∃ aZ : Nat → Option Nat, aZ = va_up a60 78 (some q60) := ⟨_, rfl⟩
  rw [← hg61, ← ha61] at hB61
  refine gz_aload_n dX12_init_581 rfl rfl ?_
  refine gz_bipush (v := 82) dX12_init_582 (by decide) ?_
  refine gz_newa0 (N' := 82) (by decide) (by decide) (by decide) (Nat.le_of_ble_eq_true rfl) (Nat.le_of_ble_eq_true rfl) wd_3 dX12_init_584 (fun q61 hq61 => ?_)
  refine spX12_219 (mB_h hB61 hq61) rfl (Nat.le_of_ble_eq_true rfl) dX12_init_586 ?_
  refine gz_eq (f2 := va_up (va_up g61 q61 (some (.inl (cy 0, 82, .inl (fun _ => 0))))) m (some (.inr (12, mFo (va_up a61 79 (some q61)) (va_up (fun _ => 0) 53 1) (fun _ => 0))))) rfl rfl rfl rfl ?_
  have hB62 := mB_alloc (q := q61) (e := .inl (cy 0, 82, .inl (fun _ => 0))) 79 hB61 hq61 rfl (by decide) (by intro i _ h2 h3; omega)
  refine gz_gen (fun g62 hg62 => ?_)
  obtain ⟨a62, ha62⟩ : ∃ aZ : Nat → Option Nat, aZ = va_up a61 79 (some q61) := ⟨_, rfl⟩
  rw [← hg62, ← ha62] at hB62
  refine gz_aload_n dX12_init_589 rfl rfl ?_
  refine gz_bipush (v := 82) dX12_init_590 (by decide) ?_
  refine gz_newa0 (N' := 82) (by decide) (by decide) (by decide) (Nat.le_of_ble_eq_true rfl) (Nat.le_of_ble_eq_true rfl) wd_3 dX12_init_592 (fun q62 hq62 => ?_)
  refine spX12_222 (mB_h hB62 hq62) rfl (Nat.le_of_ble_eq_true rfl) dX12_init_594 ?_
  refine gz_eq (f2 := va_up (va_up g62 q62 (some (.inl (cy 0, 82, .inl (fun _ => 0))))) m (some (.inr (12, mFo (va_up a62 80 (some q62)) (va_up (fun _ => 0) 53 1) (fun _ => 0))))) rfl rfl rfl rfl ?_
  have hB63 := mB_alloc (q := q62) (e := .inl (cy 0, 82, .inl (fun _ => 0))) 80 hB62 hq62 rfl (by decide) (by intro i _ h2 h3; omega)
  refine gz_gen (fun g63 hg63 => ?_)
  obtain ⟨a63, ha63⟩ : ∃ aZ : Nat → Option Nat, aZ = va_up a62 80 (some q62) := ⟨_, rfl⟩
  rw [← hg63, ← ha63] at hB63
  refine gz_aload_n dX12_init_597 rfl rfl ?_
  refine gz_bipush (v := 82) dX12_init_598 (by decide) ?_
  refine gz_newa0 (N' := 82) (by decide) (by decide) (by decide) (Nat.le_of_ble_eq_true rfl) (Nat.le_of_ble_eq_true rfl) wd_3 dX12_init_600 (fun q63 hq63 => ?_)
  refine spX12_225 (mB_h hB63 hq63) rfl (Nat.le_of_ble_eq_true rfl) dX12_init_602 ?_
  refine gz_eq (f2 := va_up (va_up g63 q63 (some (.inl (cy 0, 82, .inl (fun _ => 0))))) m (some (.inr (12, mFo (va_up a63 81 (some q63)) (va_up (fun _ => 0) 53 1) (fun _ => 0))))) rfl rfl rfl rfl ?_
  have hB64 := mB_alloc (q := q63) (e := .inl (cy 0, 82, .inl (fun _ => 0))) 81 hB63 hq63 rfl (by decide) (by intro i _ h2 h3; omega)
  refine gz_gen (fun g64 hg64 => ?_)
  obtain ⟨a64, ha64⟩ : ∃ aZ : Nat → Option Nat, aZ = va_up a63 81 (some q63) := ⟨_, rfl⟩
  rw [← hg64, ← ha64] at hB64
  refine gz_aload_n dX12_init_605 rfl rfl ?_
  refine gz_bipush (v := 82) dX12_init_606 (by decide) ?_
  refine gz_newa0 (N' := 82) (by decide) (by decide) (by decide) (Nat.le_of_ble_eq_true rfl) (Nat.le_of_ble_eq_true rfl) wd_3 dX12_init_608 (fun q64 hq64 => ?_)
  refine spX12_228 (mB_h hB64 hq64) rfl (Nat.le_of_ble_eq_true rfl) dX12_init_610 ?_
  refine gz_eq (f2 := va_up (va_up g64 q64 (some (.inl (cy 0, 82, .inl (fun _ => 0))))) m (some (.inr (12, mFo (va_up a64 82 (some q64)) (va_up (fun _ => 0) 53 1) (fun _ => 0))))) rfl rfl rfl rfl ?_
  have hB65 := mB_alloc (q := q64) (e := .inl (cy 0, 82, .inl (fun _ => 0))) 82 hB64 hq64 rfl (by decide) (by intro i _ h2 h3; omega)
  refine gz_gen (fun g65 hg65 => ?_)
  obtain ⟨a65, ha65⟩ : ∃ aZ : Nat → Option Nat, aZ = va_up a64 82 (some q64) := ⟨_, rfl⟩
  rw [← hg65, ← ha65] at hB65
  refine gz_aload_n dX12_init_613 rfl rfl ?_
  refine gz_bipush (v := 120) dX12_init_614 (by decide) ?_
  refine gz_newa0 (N' := 120) (by decide) (by decide) (by decide) (Nat.le_of_ble_eq_true rfl) (Nat.le_of_ble_eq_true rfl) wd_3 dX12_init_616 (fun q65 hq65 => ?_)
  refine spX12_231 (mB_h hB65 hq65) rfl (Nat.le_of_ble_eq_true rfl) dX12_init_618 ?_
  refine gz_eq (f2 := va_up (va_up g65 q65 (some (.inl (cy 0, 120, .inl (fun _ => 0))))) m (some (.inr (12, mFo (va_up a65 84 (some q65)) (va_up (fun _ => 0) 53 1) (fun _ => 0))))) rfl rfl rfl rfl ?_
  have hB66 := mB_alloc (q := q65) (e := .inl (cy 0, 120, .inl (fun _ => 0))) 84 hB65 hq65 rfl (by decide) (by intro i _ h2 h3; rcases (show i = 83 by omega) with rfl <;> rfl)
  refine gz_gen (fun g66 hg66 => ?_)
  obtain ⟨a66, ha66⟩ : ∃ aZ : Nat → Option Nat, aZ = va_up a65 84 (some q65) := ⟨_, rfl⟩
  rw [← hg66, ← ha66] at hB66
  refine gz_aload_n dX12_init_621 rfl rfl ?_
  refine gz_bipush (v := 120) dX12_init_622 (by decide) ?_
  refine gz_newa0 (N' := 120) (by decide) (by decide) (by decide) (Nat.le_of_ble_eq_true rfl) (Nat.le_of_ble_eq_true rfl) wd_3 dX12_init_624 (fun q66 hq66 => ?_)
  refine spX12_234 (mB_h hB66 hq66) rfl (Nat.le_of_ble_eq_true rfl) dX12_init_626 ?_
  refine gz_eq (f2 := va_up (va_up g66 q66 (some (.inl (cy 0, 120, .inl (fun _ => 0))))) m (some (.inr (12, mFo (va_up a66 85 (some q66)) (va_up (fun _ => 0) 53 1) (fun _ => 0))))) rfl rfl rfl rfl ?_
  have hB67 := mB_alloc (q := q66) (e := .inl (cy 0, 120, .inl (fun _ => 0))) 85 hB66 hq66 rfl (by decide) (by intro i _ h2 h3; omega)
  refine gz_gen (fun g67 hg67 => ?_)
  obtain ⟨a67, ha67⟩ : ∃ aZ : Nat → Option Nat, aZ = va_up a66 85 (some q66) := ⟨_, rfl⟩
  rw [← hg67, ← ha67] at hB67
  refine gz_aload_n dX12_init_629 rfl rfl ?_
  refine gz_bipush (v := 120) dX12_init_630 (by decide) ?_
  refine gz_newa3 (N' := 120) (by decide) (by decide) (by decide) (Nat.le_of_ble_eq_true rfl) (Nat.le_of_ble_eq_true rfl) wd_757 dX12_init_632 (fun q67 hq67 => ?_)
  refine spX12_237 (mB_h hB67 hq67) rfl (Nat.le_of_ble_eq_true rfl) dX12_init_634 ?_
  refine gz_eq (f2 := va_up (va_up g67 q67 (some (.inl (cy 3, 120, .inl (fun _ => 0))))) m (some (.inr (12, mFo (va_up a67 86 (some q67)) (va_up (fun _ => 0) 53 1) (fun _ => 0))))) rfl rfl rfl rfl ?_
  have hB68 := mB_alloc (q := q67) (e := .inl (cy 3, 120, .inl (fun _ => 0))) 86 hB67 hq67 rfl (by decide) (by intro i _ h2 h3; omega)
  refine gz_gen (fun g68 hg68 => ?_)
  obtain ⟨a68, ha68⟩ : ∃ aZ : Nat → Option Nat, aZ = va_up a67 86 (some q67) := ⟨_, rfl⟩
  rw [← hg68, ← ha68] at hB68
  refine gz_aload_n dX12_init_637 rfl rfl ?_
  refine gz_sipush (v := 1000) dX12_init_638 (by decide) ?_
  refine gz_newa1 (N' := 1000) (by decide) (by decide) (by decide) (Nat.le_of_ble_eq_true rfl) (Nat.le_of_ble_eq_true rfl) wd_433 dX12_init_641 (fun q68 hq68 => ?_)
  refine spX12_240 (mB_h hB68 hq68) rfl (Nat.le_of_ble_eq_true rfl) dX12_init_643 ?_
  refine gz_eq (f2 := va_up (va_up g68 q68 (some (.inl (cy 1, 1000, .inl (fun _ => 0))))) m (some (.inr (12, mFo (va_up a68 87 (some q68)) (va_up (fun _ => 0) 53 1) (fun _ => 0))))) rfl rfl rfl rfl ?_
  have hB69 := mB_alloc (q := q68) (e := .inl (cy 1, 1000, .inl (fun _ => 0))) 87 hB68 hq68 rfl (by decide) (by intro i _ h2 h3; omega)
  refine gz_gen (fun g69 hg69 => ?_)
  obtain ⟨a69, ha69⟩ : ∃ aZ : Nat → Option Nat, aZ = va_up a68 87 (some q68) := ⟨_, rfl⟩
  rw [← hg69, ← ha69] at hB69
  refine gz_iconst (v := 0) dX12_init_646 (by decide) ?_
  refine gz_istore_n (lv' := [(1, .int 0), (0, .ref m)]) dX12_init_647 rfl (by decide) rfl ?_
  obtain ⟨aa, hS, hz⟩ := mB_S (mB_90 hB69)
  exact l_X12_toldW hz ⟨fun k hk => va_up_ne _ _ hk, rfl⟩ 2400 0 _ _ hS (by decide) (by decide) (fun i hi => absurd hi (by omega)) (fun _ _ => rfl)
