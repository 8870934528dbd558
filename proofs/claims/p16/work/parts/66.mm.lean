/-- how many of the first t are not 0 -/
def cnt (g : Nat → Int32) : Nat → Nat
  | 0 => 0
  | i + 1 => (if g i = 0 then 0 else 1) + cnt g i
theorem cnt_le {g : Nat → Int32} : ∀ t, cnt g t ≤ t := by
  intro t
  induction t with
  | zero => exact Nat.le_refl _
  | succ t ih => unfold cnt; split <;> omega
theorem cnt_lt {g : Nat → Int32} {i : Nat} (h : g i = 0) : ∀ t, i < t → cnt g t < t := by
  intro t
  induction t with
  | zero => intro q; omega
  | succ t ih =>
    intro q
    unfold cnt
    by_cases e : i = t
    · rw [← e, if_pos h]; have := cnt_le (g := g) i; omega
    · have := ih (by omega); split <;> omega
theorem cnt_up {g : Nat → Int32} {i : Nat} {v : Int32} (h : g i = 0) (hv : v ≠ 0) : ∀ t, (i < t → cnt (upd g i v) t = cnt g t + 1) ∧ (t ≤ i → cnt (upd g i v) t = cnt g t) := by
  intro t
  induction t with
  | zero => exact ⟨fun q => by omega, fun _ => rfl⟩
  | succ t ih =>
    unfold cnt
    rw [updE]
    by_cases e : t = i
    · rw [if_pos e, if_neg hv, e, if_pos h]
      rw [e] at ih
      refine ⟨fun _ => ?_, fun q => by omega⟩
      rw [ih.2 (Nat.le_refl _)]; omega
    · rw [if_neg e]
      refine ⟨fun q => ?_, fun q => ?_⟩
      · rw [ih.1 (by omega)]; omega
      · rw [ih.2 (by omega)]
theorem cnt_0 {g : Nat → Int32} : ∀ t, (∀ i, i < t → g i = 0) → cnt g t = 0 := by
  intro t
  induction t with
  | zero => intro _; rfl
  | succ t ih => intro h; unfold cnt; rw [if_pos (h t (by omega)), ih (fun i hi => h i (by omega))]
theorem par_ar {F : Nat → Nat → Int32} {c w : Int} (hW : rW F c) (h : vW F c w) : ((F 10 w.toNat).toInt = -1 ∧ (F 9 w.toNat).toInt = 0) ∨ (vW F c (F 10 w.toNat).toInt ∧ (F 9 w.toNat).toInt = (F 9 (F 10 w.toNat).toInt.toNat).toInt + 1) := by
  obtain ⟨f, k, h1, h2, h3⟩ := h
  have q := (hW f h1).2.1 k h2
  rw [wAt h3]
  rcases q.2.2.1 with z | ⟨p, z1, z2, z3⟩
  · exact Or.inl ⟨z.1, z.2.2⟩
  · refine Or.inr ⟨⟨f, p, h1, by omega, z2⟩, ?_⟩
    rw [wAt z2]; exact z3
theorem wld {b wd x : Int} {d : Nat} (hb : 1 ≤ b) (hw : 0 ≤ wd ∧ wd < b ^ d) (hx : 0 ≤ x ∧ x < b) : 0 ≤ wd * b + x ∧ wd * b + x < b ^ (d + 1) := by
  have h1 : 0 ≤ wd * b := Int.mul_nonneg hw.1 (by omega)
  have h2 : (wd + 1) * b ≤ b ^ d * b := Int.mul_le_mul_of_nonneg_right (by omega) (by omega)
  rw [Int.add_mul, Int.one_mul] at h2
  rw [Int.pow_succ]; omega
theorem mul_sm {x y : Int32} (hx : 0 ≤ x.toInt ∧ x.toInt ≤ 80) (hy : 1 ≤ y.toInt ∧ y.toInt ≤ 3) : (x * y).toInt = x.toInt * y.toInt ∧ 0 ≤ x.toInt * y.toInt ∧ x.toInt * y.toInt ≤ 240 := by
  have h1 : 0 ≤ x.toInt * y.toInt := Int.mul_nonneg hx.1 (by omega)
  have h2 : x.toInt * y.toInt ≤ 80 * 3 := Int.mul_le_mul hx.2 hy.2 (by omega) (by omega)
  exact ⟨mulT (by omega) (by omega), h1, by omega⟩
/-- a state that was come to: its place, DAY and WORLD -/
def stE (la dy wy : Int) (e : Int) : Prop := 0 ≤ e ∧ e / 405 ≤ la ∧ e / 81 % 5 ≤ dy ∧ e % 81 < wy ^ (e / 81 % 5).toNat
theorem stE_mk {la dy wy p d w : Int} (hp : 0 ≤ p ∧ p ≤ la) (hd : 0 ≤ d ∧ d ≤ dy ∧ dy ≤ 4) (hw : 0 ≤ w ∧ w < wy ^ d.toNat) (h81 : w ≤ 80) : stE la dy wy (81 * (5 * p + d) + w) := by
  have e1 : (81 * (5 * p + d) + w) / 405 = p := by omega
  have e2 : (81 * (5 * p + d) + w) / 81 % 5 = d := by omega
  have e3 : (81 * (5 * p + d) + w) % 81 = w := by omega
  refine ⟨by omega, by omega, by omega, ?_⟩
  rw [e2, e3]; exact hw.2

set_option maxHeartbeats 4000000 in
set_option maxRecDepth 100000 in
theorem k_X12_reaches {l : Launch} {D : va_G} {cy : Nat → ClassId} {b : Nat} {f : gMem} {m : Nat} {a : Nat → Nat} {f0 : gMem} {n : Nat → Int32} {z : Nat → Int64} {F : Nat → Nat → Int32} {G : Nat → Nat → Int64}  {x1 x2 x3 : Int32} {P : Int → Prop} (hS : mS cy m a f0 n z F G f) (hp : 0 ≤ x1.toInt ∧ x1.toInt ≤ 12) (hd : 0 ≤ x2.toInt ∧ x2.toInt ≤ 4) (hw : 0 ≤ x3.toInt ∧ x3.toInt ≤ 80) (h70 : ((n 70).toInt : Int) = cnt (F 69) 5265) (hP : ∀ i : Nat, (i : Int) < (n 70).toInt → P (F 71 i).toInt) (hq : P (81 * (5 * x1.toInt + x2.toInt) + x3.toInt)) : gC l D cy b yX12_reaches cX12_reaches 5 none 0 0 0 [.ref m, .int x1, .int x2, .int x3] f (pV fun f2 => ∃ (n2 : Nat → Int32) (z2 : Nat → Int64) (F2 : Nat → Nat → Int32) (G2 : Nat → Nat → Int64), mS cy m a f0 n2 z2 F2 G2 f2 ∧ fx [70] [] [69, 71] [] n z F G n2 z2 F2 G2 ∧ ((n2 70).toInt : Int) = cnt (F2 69) 5265 ∧ (∀ i : Nat, (i : Int) < (n2 70).toInt → P (F2 71 i).toInt) ∧ (n 70).toInt ≤ (n2 70).toInt) := by
  have qs : (81 * ((5 * x1) + x2) + x3).toInt = 81 * (5 * x1.toInt + x2.toInt) + x3.toInt := (T_add (T_mul (show (81 : Int32).toInt = 81 from rfl) (T_add (T_mul (show (5 : Int32).toInt = 5 from rfl) (rfl : (x1).toInt = (x1).toInt) (by omega)) (rfl : (x2).toInt = (x2).toInt) (by omega)) (by omega)) (rfl : (x3).toInt = (x3).toInt) (by omega))
  have qcc := cnt_le (g := F 69) 5265
  refine gC_of (by decide) (Nat.le_of_ble_eq_true rfl) ?_
  show gG l _ _ _ D cy b cX12_reaches 5 _ RX12 "reaches" 0 0 f 0 [(0, .ref m), (1, .int x1), (2, .int x2), (3, .int x3)] []
  refine gz_bipush (v := 81) dX12_reaches_0 (by decide) ?_
  refine gz_iconst (v := 5) dX12_reaches_2 (by decide) ?_
  refine gz_iload_n dX12_reaches_3 rfl rfl ?_
  refine gz_imul dX12_reaches_4 ?_
  refine gz_iload_n dX12_reaches_5 rfl rfl ?_
  refine gz_iadd dX12_reaches_6 ?_
  refine gz_imul dX12_reaches_7 ?_
  refine gz_iload_n dX12_reaches_8 rfl rfl ?_
  refine gz_iadd dX12_reaches_9 ?_
  refine gz_istore (lv' := [(4, .int ((81 * ((5 * x1) + x2)) + x3)), (0, .ref m), (1, .int x1), (2, .int x2), (3, .int x3)]) dX12_reaches_10 (by decide) rfl ?_
  refine gz_aload_n dX12_reaches_12 rfl rfl ?_
  refine mg_195 hS dX12_reaches_13 ?_
  refine gz_iload dX12_reaches_16 rfl ?_
  refine m_zald 69 hS rfl (N := 5265) rfl ((by have q9 := (T_add (T_mul (show (81 : Int32).toInt = 81 from rfl) (T_add (T_mul (show (5 : Int32).toInt = 5 from rfl) (rfl : (x1).toInt = (x1).toInt) (by omega)) (rfl : (x2).toInt = (x2).toInt) (by omega)) (by omega)) (rfl : (x3).toInt = (x3).toInt) (by omega)); exact vin_T q9 (by omega) (by omega))) dX12_reaches_18 ?_
  refine gz_if_eq (tgt := 23) dX12_reaches_19 (by decide) (fun c_19 => ?_) (fun c_19 => ?_)
  ·
    try simp only [mIn_0, lgc_lt, lgc_gt, lgc_le, lgc_ge, lgc_eq] at c_19
    try simp only [fl_lt, fl_le, fl_eq, fL_w, fL_lt, fL_le, tm1, tm10k, tm9, tm99, Int32.reduceToInt, Int64.reduceToInt, Int.not_lt, Int.not_le] at c_19
    have c_19e : (F 69) (Int32.toNatClampNeg (81 * ((5 * x1) + x2) + x3)) = 0 := Int32.toInt_inj.mp (by rw [show (0 : Int32).toInt = 0 from rfl]; omega)
    have qcl := clI (i := (81 * ((5 * x1) + x2) + x3)) (by omega)
    have qlt := cnt_lt c_19e 5265 (by omega)
    have qc70 := clI (i := n 70) (by omega)
    refine gz_aload_n dX12_reaches_23 rfl rfl ?_
    refine mg_195 hS dX12_reaches_24 ?_
    refine gz_iload dX12_reaches_27 rfl ?_
    refine gz_iconst (v := 1) dX12_reaches_29 (by decide) ?_
    refine m_zast 69 hS rfl (N := 5265) rfl ((by have q9 := (T_add (T_mul (show (81 : Int32).toInt = 81 from rfl) (T_add (T_mul (show (5 : Int32).toInt = 5 from rfl) (rfl : (x1).toInt = (x1).toInt) (by omega)) (rfl : (x2).toInt = (x2).toInt) (by omega)) (by omega)) (rfl : (x3).toInt = (x3).toInt) (by omega)); exact vin_T q9 (by omega) (by omega))) dX12_reaches_30 (fun f_1 hS_1q => ?_)
    have hS_1 : mS cy m a f0 n z (va_up F 69 (upd (F 69) (Int32.toNatClampNeg ((81 * ((5 * x1) + x2)) + x3)) (vp_nar .boolean 1))) G f_1 := hS_1q
    refine gz_aload_n dX12_reaches_31 rfl rfl ?_
    refine mg_198 hS_1 dX12_reaches_32 ?_
    refine gz_aload_n dX12_reaches_35 rfl rfl ?_
    refine mg_489 hS_1 dX12_reaches_36 ?_
    refine gz_ev (w := .int (n 70)) rfl ?_
    refine gz_iload dX12_reaches_39 rfl ?_
    refine m_iast 71 hS_1 rfl (N := 5265) rfl ((by exact vin_T (rfl : ((n 70)).toInt = ((n 70)).toInt) (by omega) (by omega))) dX12_reaches_41 (fun f_2 hS_2q => ?_)
    have hS_2 : mS cy m a f0 n z (va_up (va_up F 69 (upd (F 69) (Int32.toNatClampNeg ((81 * ((5 * x1) + x2)) + x3)) (vp_nar .boolean 1))) 71 (upd (F 71) (Int32.toNatClampNeg (n 70)) ((81 * ((5 * x1) + x2)) + x3))) G f_2 := hS_2q
    refine gz_aload_n dX12_reaches_42 rfl rfl ?_
    refine gz_dup dX12_reaches_43 rfl ?_
    refine mg_489 hS_2 dX12_reaches_44 ?_
    refine gz_ev (w := .int (n 70)) rfl ?_
    refine gz_iconst (v := 1) dX12_reaches_47 (by decide) ?_
    refine gz_iadd dX12_reaches_48 ?_
    refine mp_489 hS_2 dX12_reaches_49 (fun f_3 hS_3 => ?_)
    have hxx : fx [70] [] [69, 71] [] n z F G (va_up n 70 ((n 70) + 1)) z (va_up (va_up F 69 (upd (F 69) (Int32.toNatClampNeg ((81 * ((5 * x1) + x2)) + x3)) (vp_nar .boolean 1))) 71 (upd (F 71) (Int32.toNatClampNeg (n 70)) ((81 * ((5 * x1) + x2)) + x3))) G := (fx_n (fx_F (fx_F fx_rf (by decide)) (by decide)) (by decide))
    have e70 : ((va_up n 70 ((n 70) + 1)) 70).toInt = (n 70).toInt + 1 := (by (try rw [(show (va_up n 70 ((n 70) + 1)) 70 = ((n 70) + 1) from rfl)]); have q1_ := (T_add (rfl : ((n 70)).toInt = ((n 70)).toInt) (show (1 : Int32).toInt = 1 from rfl) (by omega)); omega)
    exact gz_vret rfl dX12_reaches_52 (Nat.le_of_ble_eq_true rfl) (Nat.le_of_ble_eq_true rfl) (⟨rfl, _, _, _, _, hS_3, hxx, (by rw [e70]; show _ = ((cnt (upd (F 69) (Int32.toNatClampNeg (81 * ((5 * x1) + x2) + x3)) (vp_nar .boolean 1)) 5265 : Nat) : Int); rw [(cnt_up (v := vp_nar .boolean 1) c_19e (by decide) 5265).1 (by omega)]; omega), (fun i hi => by rw [e70] at hi; show P (upd (F 71) (Int32.toNatClampNeg (n 70)) (81 * ((5 * x1) + x2) + x3) i).toInt; rw [updE]; by_cases e : i = Int32.toNatClampNeg (n 70); (rw [if_pos e, qs]; exact hq); (rw [if_neg e]; exact hP i (by omega))), (by rw [e70]; omega)⟩)
  ·
    try simp only [mIn_0, lgc_lt, lgc_gt, lgc_le, lgc_ge, lgc_eq] at c_19
    try simp only [fl_lt, fl_le, fl_eq, fL_w, fL_lt, fL_le, tm1, tm10k, tm9, tm99, Int32.reduceToInt, Int64.reduceToInt, Int.not_lt, Int.not_le] at c_19
    exact gz_vret rfl dX12_reaches_22 (Nat.le_of_ble_eq_true rfl) (Nat.le_of_ble_eq_true rfl) (⟨rfl, _, _, _, _, hS, fx_rf, h70, hP, Int.le_refl _⟩)
