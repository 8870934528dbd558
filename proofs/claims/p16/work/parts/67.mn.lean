set_option maxHeartbeats 4000000 in
set_option maxRecDepth 100000 in
theorem l_X12_comeTo1 {l : Launch} {D : va_G} {cy : Nat → ClassId} {b : Nat} {m : Nat} {a : Nat → Nat} {f0 : gMem} {n0 : Nat → Int32} {z0 : Nat → Int64} {F0 : Nat → Nat → Int32} {G0 : Nat → Nat → Int64}  {x1 x2 x3 x5 : Int32} (h5 : 0 ≤ x5.toInt ∧ x5.toInt ≤ 11) (h2 : 1 ≤ x2.toInt ∧ x2.toInt ≤ 4) (hq : ∀ (wv : Int32) (n : Nat → Int32) (z : Nat → Int64) (F : Nat → Nat → Int32) (G : Nat → Nat → Int64) (fm : gMem), mS cy m a f0 n z F G fm → fx [70] [29] [56, 68, 69, 71] [28] n0 z0 F0 G0 n z F G → (RI n F) → (∀ q : Nat, (q : Int) ≤ x5.toInt → vW F (n 5).toInt (F 68 q).toInt) → gG l (gRm 3 0 0) (gQf D b (pI fun r f2 => ∃ (n2 : Nat → Int32) (z2 : Nat → Int64) (F2 : Nat → Nat → Int32) (G2 : Nat → Nat → Int64), mS cy m a f0 n2 z2 F2 G2 f2 ∧ fx [70] [29] [56, 68, 69, 71] [28] n0 z0 F0 G0 n2 z2 F2 G2 ∧ RI n2 F2) 0 0) gTt D cy b cX12_comeTo 13 (some .int) RX12 "comeTo" 0 0 fm 90 [(4, .int wv), (5, .int x5), (0, .ref m), (1, .int x1), (2, .int x2), (3, .int x3)] []) : ∀ (k : Nat) (i wv : Int32) (n : Nat → Int32) (z : Nat → Int64) (F : Nat → Nat → Int32) (G : Nat → Nat → Int64) (fm : gMem), mS cy m a f0 n z F G fm → fx [70] [29] [56, 68, 69, 71] [28] n0 z0 F0 G0 n z F G → (RI n F) → (-1 ≤ i.toInt ∧ i.toInt ≤ x5.toInt ∧ i.toInt + 2 ≤ (k : Int)) → (0 ≤ i.toInt → vW F (n 5).toInt wv.toInt ∧ (F 9 (Int32.toNatClampNeg wv)).toInt = i.toInt) → (∀ q : Nat, i.toInt < (q : Int) → (q : Int) ≤ x5.toInt → vW F (n 5).toInt (F 68 q).toInt) → gG l (gRm 3 0 0) (gQf D b (pI fun r f2 => ∃ (n2 : Nat → Int32) (z2 : Nat → Int64) (F2 : Nat → Nat → Int32) (G2 : Nat → Nat → Int64), mS cy m a f0 n2 z2 F2 G2 f2 ∧ fx [70] [29] [56, 68, 69, 71] [28] n0 z0 F0 G0 n2 z2 F2 G2 ∧ RI n2 F2) 0 0) gTt D cy b cX12_comeTo 13 (some .int) RX12 "comeTo" 0 0 fm 61 [(6, .int i), (4, .int wv), (5, .int x5), (0, .ref m), (1, .int x1), (2, .int x2), (3, .int x3)] [] := by
  intro k
  induction k with
  | zero =>
    intro i wv n z F G fm hS hx hR hi hw hp
    exfalso; omega
  | succ k ih =>
    intro i wv n z F G fm hS hx hR hi hw hp
    obtain ⟨a0, a4, a5, bA, bW, a30, bL, a38, bP, a53, a47, a88⟩ := id hR
    refine gz_iload dX12_comeTo_61 rfl ?_
    refine gz_if_lt (tgt := 90) dX12_comeTo_63 (by decide) (fun c_63 => ?_) (fun c_63 => ?_)
    ·
      try simp only [mIn_0, lgc_lt, lgc_gt, lgc_le, lgc_ge, lgc_eq] at c_63
      try simp only [fl_lt, fl_le, fl_eq, fL_w, fL_lt, fL_le, tm1, tm10k, tm9, tm99, Int32.reduceToInt, Int64.reduceToInt, Int.not_lt, Int.not_le] at c_63
      refine gz_sub (lv' := [(4, .int wv), (5, .int x5), (0, .ref m), (1, .int x1), (2, .int x2), (3, .int x3)]) (by simp [List.lookup]) ?_
      exact hq wv _ _ _ _ _ hS hx (hR) (fun q hq => hp q (by omega) hq)
    ·
      try simp only [mIn_0, lgc_lt, lgc_gt, lgc_le, lgc_ge, lgc_eq] at c_63
      try simp only [fl_lt, fl_le, fl_eq, fL_w, fL_lt, fL_le, tm1, tm10k, tm9, tm99, Int32.reduceToInt, Int64.reduceToInt, Int.not_lt, Int.not_le] at c_63
      have hv := hw (by omega)
      have qv := vW_lt bW a5 hv.1
      have qp : ((F 10 (Int32.toNatClampNeg wv)).toInt = -1 ∧ (F 9 (Int32.toNatClampNeg wv)).toInt = 0) ∨ (vW F (n 5).toInt (F 10 (Int32.toNatClampNeg wv)).toInt ∧ (F 9 (Int32.toNatClampNeg wv)).toInt = (F 9 (Int32.toNatClampNeg (F 10 (Int32.toNatClampNeg wv)))).toInt + 1) := par_ar bW hv.1
      refine gz_aload_n dX12_comeTo_66 rfl rfl ?_
      refine mg_192 hS dX12_comeTo_67 ?_
      refine gz_iload dX12_comeTo_70 rfl ?_
      refine gz_iload dX12_comeTo_72 rfl ?_
      refine m_iast 68 hS rfl (N := 13) rfl ((by exact vin_T (rfl : (i).toInt = (i).toInt) (by omega) (by omega))) dX12_comeTo_74 (fun f_1 hS_1q => ?_)
      have hS_1 : mS cy m a f0 n z (va_up F 68 (upd (F 68) (Int32.toNatClampNeg i) wv)) G f_1 := hS_1q
      refine gz_aload_n dX12_comeTo_75 rfl rfl ?_
      refine mg_29 hS_1 dX12_comeTo_76 ?_
      refine gz_iload dX12_comeTo_79 rfl ?_
      refine m_iald 10 hS_1 rfl (N := 880) rfl ((by exact vin_T (rfl : (wv).toInt = (wv).toInt) (by omega) (by omega))) dX12_comeTo_81 ?_
      refine gz_ev (w := .int ((F 10) (Int32.toNatClampNeg wv))) rfl ?_
      refine gz_istore (lv' := [(4, .int ((F 10) (Int32.toNatClampNeg wv))), (6, .int i), (5, .int x5), (0, .ref m), (1, .int x1), (2, .int x2), (3, .int x3)]) dX12_comeTo_82 (by decide) rfl ?_
      refine gz_iinc (v := (i + (-1))) (lv' := [(6, .int (i + (-1))), (4, .int ((F 10) (Int32.toNatClampNeg wv))), (5, .int x5), (0, .ref m), (1, .int x1), (2, .int x2), (3, .int x3)]) dX12_comeTo_84 rfl (congrArg (fun z => i + z) oi_m1) (by decide) rfl ?_
      refine gz_goto (tgt := 61) dX12_comeTo_87 (by decide) ?_
      refine gz_sub (lv' := [(6, .int (i + (-1))), (4, .int ((F 10) (Int32.toNatClampNeg wv))), (5, .int x5), (0, .ref m), (1, .int x1), (2, .int x2), (3, .int x3)]) (by simp [List.lookup]) ?_
      have hxx : fx [] [] [68] [] n z F G n z (va_up F 68 (upd (F 68) (Int32.toNatClampNeg i) wv)) G := (fx_F fx_rf (by decide))
      have hdc : (i + (-1)).toInt = i.toInt - 1 := T_dec (by omega) (by omega)
      generalize i + (-1) = i2 at hdc ⊢
      have hp9 : ∀ q : Nat, i2.toInt < (q : Int) → (q : Int) ≤ x5.toInt → vW F (n 5).toInt ((va_up F 68 (upd (F 68) (Int32.toNatClampNeg i) wv)) 68 q).toInt := by
        intro q q1 q2
        show vW F (n 5).toInt (upd (F 68) (Int32.toNatClampNeg i) wv q).toInt
        rw [updE]
        by_cases e : q = Int32.toNatClampNeg i
        · rw [if_pos e]; exact hv.1
        · rw [if_neg e]; exact hp q (by have := clI (i := i) (by omega); omega) q2
      have hR9 : RI n (va_up F 68 (upd (F 68) (Int32.toNatClampNeg i) wv)) := RI_fx hR hxx (by decide) (by decide)
      exact ih i2 ((F 10) (Int32.toNatClampNeg wv)) _ _ _ _ _ hS_1 (fx_F hx (by decide)) (hR9) (by omega) (fun q => by rcases qp with z | z; (exfalso; omega); exact ⟨z.1, by show (F 9 (Int32.toNatClampNeg (F 10 (Int32.toNatClampNeg wv)))).toInt = _; omega⟩) (hp9)

set_option maxHeartbeats 4000000 in
set_option maxRecDepth 100000 in
theorem l_X12_comeTo2 {l : Launch} {D : va_G} {cy : Nat → ClassId} {b : Nat} {m : Nat} {a : Nat → Nat} {f0 : gMem} {n0 : Nat → Int32} {z0 : Nat → Int64} {F0 : Nat → Nat → Int32} {G0 : Nat → Nat → Int64}  {x1 x2 x3 x5 : Int32} {wv : Int32} (h5 : 0 ≤ x5.toInt ∧ x5.toInt ≤ 11) (h2 : 1 ≤ x2.toInt ∧ x2.toInt ≤ 4) (hq : ∀  (n : Nat → Int32) (z : Nat → Int64) (F : Nat → Nat → Int32) (G : Nat → Nat → Int64) (fm : gMem), mS cy m a f0 n z F G fm → fx [70] [29] [56, 68, 69, 71] [28] n0 z0 F0 G0 n z F G → (RI n F) → (∀ q : Nat, (q : Int) ≤ x5.toInt → vW F (n 5).toInt (F 68 q).toInt) → (∀ q : Nat, q < 5265 → F 69 q = 0) → gG l (gRm 3 0 0) (gQf D b (pI fun r f2 => ∃ (n2 : Nat → Int32) (z2 : Nat → Int64) (F2 : Nat → Nat → Int32) (G2 : Nat → Nat → Int64), mS cy m a f0 n2 z2 F2 G2 f2 ∧ fx [70] [29] [56, 68, 69, 71] [28] n0 z0 F0 G0 n2 z2 F2 G2 ∧ RI n2 F2) 0 0) gTt D cy b cX12_comeTo 13 (some .int) RX12 "comeTo" 0 0 fm 115 [(4, .int wv), (5, .int x5), (0, .ref m), (1, .int x1), (2, .int x2), (3, .int x3)] []) : ∀ (k : Nat) (i : Int32) (n : Nat → Int32) (z : Nat → Int64) (F : Nat → Nat → Int32) (G : Nat → Nat → Int64) (fm : gMem), mS cy m a f0 n z F G fm → fx [70] [29] [56, 68, 69, 71] [28] n0 z0 F0 G0 n z F G → (RI n F) → (∀ q : Nat, (q : Int) ≤ x5.toInt → vW F (n 5).toInt (F 68 q).toInt) → (∀ q : Nat, (q : Int) < i.toInt → F 69 q = 0) → (0 ≤ i.toInt ∧ i.toInt ≤ 5265 ∧ i.toInt + (k : Int) = 5266) → gG l (gRm 3 0 0) (gQf D b (pI fun r f2 => ∃ (n2 : Nat → Int32) (z2 : Nat → Int64) (F2 : Nat → Nat → Int32) (G2 : Nat → Nat → Int64), mS cy m a f0 n2 z2 F2 G2 f2 ∧ fx [70] [29] [56, 68, 69, 71] [28] n0 z0 F0 G0 n2 z2 F2 G2 ∧ RI n2 F2) 0 0) gTt D cy b cX12_comeTo 13 (some .int) RX12 "comeTo" 0 0 fm 93 [(6, .int i), (4, .int wv), (5, .int x5), (0, .ref m), (1, .int x1), (2, .int x2), (3, .int x3)] [] := by
  intro k
  induction k with
  | zero =>
    intro i n z F G fm hS hx hR hp hz hi
    exfalso; omega
  | succ k ih =>
    intro i n z F G fm hS hx hR hp hz hi
    refine gz_iload dX12_comeTo_93 rfl ?_
    refine gz_sipush (v := 5265) dX12_comeTo_95 (by decide) ?_
    refine gz_icmp_ge (tgt := 115) dX12_comeTo_98 (by decide) (fun c_98 => ?_) (fun c_98 => ?_)
    ·
      try simp only [mIn_0, lgc_lt, lgc_gt, lgc_le, lgc_ge, lgc_eq] at c_98
      try simp only [fl_lt, fl_le, fl_eq, fL_w, fL_lt, fL_le, tm1, tm10k, tm9, tm99, Int32.reduceToInt, Int64.reduceToInt, Int.not_lt, Int.not_le] at c_98
      refine gz_sub (lv' := [(4, .int wv), (5, .int x5), (0, .ref m), (1, .int x1), (2, .int x2), (3, .int x3)]) (by simp [List.lookup]) ?_
      exact hq  _ _ _ _ _ hS hx (hR) (hp) (fun q hq => hz q (by omega))
    ·
      try simp only [mIn_0, lgc_lt, lgc_gt, lgc_le, lgc_ge, lgc_eq] at c_98
      try simp only [fl_lt, fl_le, fl_eq, fL_w, fL_lt, fL_le, tm1, tm10k, tm9, tm99, Int32.reduceToInt, Int64.reduceToInt, Int.not_lt, Int.not_le] at c_98
      refine gz_aload_n dX12_comeTo_101 rfl rfl ?_
      refine mg_195 hS dX12_comeTo_102 ?_
      refine gz_iload dX12_comeTo_105 rfl ?_
      refine gz_iconst (v := 0) dX12_comeTo_107 (by decide) ?_
      refine m_zast 69 hS rfl (N := 5265) rfl ((by exact vin_T (rfl : (i).toInt = (i).toInt) (by omega) (by omega))) dX12_comeTo_108 (fun f_1 hS_1q => ?_)
      have hS_1 : mS cy m a f0 n z (va_up F 69 (upd (F 69) (Int32.toNatClampNeg i) (vp_nar .boolean 0))) G f_1 := hS_1q
      refine gz_iinc (v := (i + 1)) (lv' := [(6, .int (i + 1)), (4, .int wv), (5, .int x5), (0, .ref m), (1, .int x1), (2, .int x2), (3, .int x3)]) dX12_comeTo_109 rfl rfl (by decide) rfl ?_
      refine gz_goto (tgt := 93) dX12_comeTo_112 (by decide) ?_
      refine gz_sub (lv' := [(6, .int (i + 1)), (4, .int wv), (5, .int x5), (0, .ref m), (1, .int x1), (2, .int x2), (3, .int x3)]) (by simp [List.lookup]) ?_
      have hxx : fx [] [] [69] [] n z F G n z (va_up F 69 (upd (F 69) (Int32.toNatClampNeg i) (vp_nar .boolean 0))) G := (fx_F fx_rf (by decide))
      have hR9 : RI n (va_up F 69 (upd (F 69) (Int32.toNatClampNeg i) (vp_nar .boolean 0))) := RI_fx hR hxx (by decide) (by decide)
      have qi : (i + 1).toInt = i.toInt + 1 := T_add rfl (show (1 : Int32).toInt = 1 from rfl) (by omega)
      have hz9 : ∀ q : Nat, (q : Int) < (i + 1).toInt → (va_up F 69 (upd (F 69) (Int32.toNatClampNeg i) (vp_nar .boolean 0))) 69 q = 0 := by
        intro q q1
        show upd (F 69) (Int32.toNatClampNeg i) (vp_nar .boolean 0) q = 0
        rw [updE]
        by_cases e : q = Int32.toNatClampNeg i
        · rw [if_pos e]; decide
        · rw [if_neg e]; exact hz q (by have := clI (i := i) (by omega); omega)
      exact ih (i + 1) _ _ _ _ _ hS_1 (fx_F hx (by decide)) (hR9) (hp) (hz9) (by omega)

set_option maxHeartbeats 4000000 in
set_option maxRecDepth 100000 in
theorem l_X12_comeTo3 {l : Launch} {D : va_G} {cy : Nat → ClassId} {b : Nat} {m : Nat} {a : Nat → Nat} {f0 : gMem} {n0 : Nat → Int32} {z0 : Nat → Int64} {F0 : Nat → Nat → Int32} {G0 : Nat → Nat → Int64}  {x1 x2 x3 x5 : Int32} {wd dy pl i : Int32} (h5 : 0 ≤ x5.toInt ∧ x5.toInt ≤ 11) (h2 : 1 ≤ x2.toInt ∧ x2.toInt ≤ 4) (hd : 0 ≤ dy.toInt ∧ dy.toInt < x2.toInt) (hpl : 0 ≤ pl.toInt ∧ pl.toInt ≤ x5.toInt) (hw80 : wd.toInt ≤ 80) (hq : ∀  (n : Nat → Int32) (z : Nat → Int64) (F : Nat → Nat → Int32) (G : Nat → Nat → Int64) (fm : gMem), mS cy m a f0 n z F G fm → fx [70] [29] [56, 68, 69, 71] [28] n0 z0 F0 G0 n z F G → (RI n F) → (∀ q : Nat, (q : Int) ≤ x5.toInt → vW F (n 5).toInt (F 68 q).toInt) → (((n 70).toInt : Int) = cnt (F 69) 5265) → (∀ q : Nat, (q : Int) < (n 70).toInt → stE x5.toInt x2.toInt (n 53).toInt (F 71 q).toInt) → gG l (gRm 3 0 0) (gQf D b (pI fun r f2 => ∃ (n2 : Nat → Int32) (z2 : Nat → Int64) (F2 : Nat → Nat → Int32) (G2 : Nat → Nat → Int64), mS cy m a f0 n2 z2 F2 G2 f2 ∧ fx [70] [29] [56, 68, 69, 71] [28] n0 z0 F0 G0 n2 z2 F2 G2 ∧ RI n2 F2) 0 0) gTt D cy b cX12_comeTo 13 (some .int) RX12 "comeTo" 0 0 fm 387 [(6, .int i), (5, .int x5), (0, .ref m), (1, .int x1), (2, .int x2), (3, .int x3)] []) : ∀ (k : Nat) (x : Int32) (n : Nat → Int32) (z : Nat → Int64) (F : Nat → Nat → Int32) (G : Nat → Nat → Int64) (fm : gMem), mS cy m a f0 n z F G fm → fx [70] [29] [56, 68, 69, 71] [28] n0 z0 F0 G0 n z F G → (RI n F) → (∀ q : Nat, (q : Int) ≤ x5.toInt → vW F (n 5).toInt (F 68 q).toInt) → (((n 70).toInt : Int) = cnt (F 69) 5265) → (∀ q : Nat, (q : Int) < (n 70).toInt → stE x5.toInt x2.toInt (n 53).toInt (F 71 q).toInt) → (0 ≤ x.toInt ∧ x.toInt ≤ (n 53).toInt) → (0 ≤ wd.toInt ∧ wd.toInt < (n 53).toInt ^ dy.toInt.toNat) → (x.toInt + (k : Int) = 4 ∧ x.toInt ≤ 3) → gG l (gRm 3 0 0) (gQf D b (pI fun r f2 => ∃ (n2 : Nat → Int32) (z2 : Nat → Int64) (F2 : Nat → Nat → Int32) (G2 : Nat → Nat → Int64), mS cy m a f0 n2 z2 F2 G2 f2 ∧ fx [70] [29] [56, 68, 69, 71] [28] n0 z0 F0 G0 n2 z2 F2 G2 ∧ RI n2 F2) 0 0) gTt D cy b cX12_comeTo 13 (some .int) RX12 "comeTo" 0 0 fm 352 [(12, .int x), (7, .int wd), (8, .int dy), (9, .int pl), (6, .int i), (5, .int x5), (0, .ref m), (1, .int x1), (2, .int x2), (3, .int x3)] [] := by
  intro k
  induction k with
  | zero =>
    intro x n z F G fm hS hx hR hp h70 hST hxx_ hwd hk
    exfalso; omega
  | succ k ih =>
    intro x n z F G fm hS hx hR hp h70 hST hxx_ hwd hk
    obtain ⟨a0, a4, a5, bA, bW, a30, bL, a38, bP, a53, a47, a88⟩ := id hR
    refine gz_iload dX12_comeTo_352 rfl ?_
    refine gz_aload_n dX12_comeTo_354 rfl rfl ?_
    refine mg_151 hS dX12_comeTo_355 ?_
    refine gz_icmp_ge (tgt := 387) dX12_comeTo_358 (by decide) (fun c_358 => ?_) (fun c_358 => ?_)
    ·
      try simp only [mIn_0, lgc_lt, lgc_gt, lgc_le, lgc_ge, lgc_eq] at c_358
      try simp only [fl_lt, fl_le, fl_eq, fL_w, fL_lt, fL_le, tm1, tm10k, tm9, tm99, Int32.reduceToInt, Int64.reduceToInt, Int.not_lt, Int.not_le] at c_358
      refine gz_sub (lv' := [(6, .int i), (5, .int x5), (0, .ref m), (1, .int x1), (2, .int x2), (3, .int x3)]) (by simp [List.lookup]) ?_
      exact hq  _ _ _ _ _ hS hx (hR) (hp) (h70) (hST)
    ·
      try simp only [mIn_0, lgc_lt, lgc_gt, lgc_le, lgc_ge, lgc_eq] at c_358
      try simp only [fl_lt, fl_le, fl_eq, fL_w, fL_lt, fL_le, tm1, tm10k, tm9, tm99, Int32.reduceToInt, Int64.reduceToInt, Int.not_lt, Int.not_le] at c_358
      refine gz_aload_n dX12_comeTo_361 rfl rfl ?_
      refine gz_iload dX12_comeTo_362 rfl ?_
      refine gz_iload dX12_comeTo_364 rfl ?_
      refine gz_iconst (v := 1) dX12_comeTo_366 (by decide) ?_
      refine gz_iadd dX12_comeTo_367 ?_
      refine gz_iload dX12_comeTo_368 rfl ?_
      refine gz_aload_n dX12_comeTo_370 rfl rfl ?_
      refine mg_151 hS dX12_comeTo_371 ?_
      refine gz_imul dX12_comeTo_374 ?_
      refine gz_iload dX12_comeTo_375 rfl ?_
      refine gz_iadd dX12_comeTo_377 ?_
      have qd : (dy + 1).toInt = dy.toInt + 1 := T_add rfl (show (1 : Int32).toInt = 1 from rfl) (by omega)
      have qm := mul_sm (x := wd) (y := n 53) (by omega) a53
      have qx : (wd * (n 53) + x).toInt = wd.toInt * (n 53).toInt + x.toInt := T_add qm.1 rfl (by omega)
      have ql := wld (b := (n 53).toInt) (wd := wd.toInt) (x := x.toInt) (d := dy.toInt.toNat) (by omega) (by omega) (by omega)
      have qe := pw_le (b := (n 53).toInt) a53 (dy.toInt.toNat + 1) (by omega)
      have qn : (dy + 1).toInt.toNat = dy.toInt.toNat + 1 := by omega
      refine scX12_492 (k_X12_reaches (x1 := pl) (x2 := (dy + 1)) (x3 := ((wd * (n 53)) + x)) (P := stE x5.toInt x2.toInt (n 53).toInt) hS (by omega) (by omega) (by omega) h70 hST (stE_mk (by omega) (by omega) (by rw [qn, qx]; exact ql) (by omega))) hS.1 ⟨(Nat.le_of_ble_eq_true rfl), (Nat.le_of_ble_eq_true rfl)⟩ ⟨(Nat.le_of_ble_eq_true rfl), (Nat.le_of_ble_eq_true rfl)⟩ rfl rfl (Nat.le_of_ble_eq_true rfl) dX12_comeTo_378 ?_
      rintro f_1 ⟨n_1, z_1, F_1, G_1, hS_1, hx1, h70_1, hST_1, hm_1⟩
      refine gz_iinc (v := (x + 1)) (lv' := [(12, .int (x + 1)), (7, .int wd), (8, .int dy), (9, .int pl), (6, .int i), (5, .int x5), (0, .ref m), (1, .int x1), (2, .int x2), (3, .int x3)]) dX12_comeTo_381 rfl rfl (by decide) rfl ?_
      refine gz_goto (tgt := 352) dX12_comeTo_384 (by decide) ?_
      refine gz_sub (lv' := [(12, .int (x + 1)), (7, .int wd), (8, .int dy), (9, .int pl), (6, .int i), (5, .int x5), (0, .ref m), (1, .int x1), (2, .int x2), (3, .int x3)]) (by simp [List.lookup]) ?_
      have e5 : n_1 5 = n 5 := hx1.1 5 (by decide)
      have e53 : n_1 53 = n 53 := hx1.1 53 (by decide)
      have qi : (x + 1).toInt = x.toInt + 1 := T_add rfl (show (1 : Int32).toInt = 1 from rfl) (by omega)
      exact ih (x + 1) _ _ _ _ _ hS_1 (fx_tr hx hx1 (by decide)) (RI_fx hR hx1 (by decide) (by decide)) (fun q hq => by rw [e5, hx1.2.2.1 68 (by decide)]; exact vW_cg (hx1.2.2.1 6 (by decide)) (hp q hq)) (h70_1) (fun q hq => by rw [e53]; exact hST_1 q hq) (by rw [e53]; omega) (by rw [e53]; exact hwd) (by omega)

set_option maxHeartbeats 4000000 in
set_option maxRecDepth 100000 in
theorem l_X12_comeTo {l : Launch} {D : va_G} {cy : Nat → ClassId} {b : Nat} {m : Nat} {a : Nat → Nat} {f0 : gMem} {n0 : Nat → Int32} {z0 : Nat → Int64} {F0 : Nat → Nat → Int32} {G0 : Nat → Nat → Int64}  {x1 x2 x3 x5 : Int32} (h5 : 0 ≤ x5.toInt ∧ x5.toInt ≤ 11) (h2 : 1 ≤ x2.toInt ∧ x2.toInt ≤ 4) : ∀ (k : Nat) (i : Int32) (n : Nat → Int32) (z : Nat → Int64) (F : Nat → Nat → Int32) (G : Nat → Nat → Int64) (fm : gMem), mS cy m a f0 n z F G fm → fx [70] [29] [56, 68, 69, 71] [28] n0 z0 F0 G0 n z F G → (RI n F) → (∀ q : Nat, (q : Int) ≤ x5.toInt → vW F (n 5).toInt (F 68 q).toInt) → (((n 70).toInt : Int) = cnt (F 69) 5265) → (∀ q : Nat, (q : Int) < (n 70).toInt → stE x5.toInt x2.toInt (n 53).toInt (F 71 q).toInt) → (0 ≤ i.toInt ∧ i.toInt ≤ 5265 ∧ i.toInt + (k : Int) = 5266) → gG l (gRm 3 0 0) (gQf D b (pI fun r f2 => ∃ (n2 : Nat → Int32) (z2 : Nat → Int64) (F2 : Nat → Nat → Int32) (G2 : Nat → Nat → Int64), mS cy m a f0 n2 z2 F2 G2 f2 ∧ fx [70] [29] [56, 68, 69, 71] [28] n0 z0 F0 G0 n2 z2 F2 G2 ∧ RI n2 F2) 0 0) gTt D cy b cX12_comeTo 13 (some .int) RX12 "comeTo" 0 0 fm 134 [(6, .int i), (5, .int x5), (0, .ref m), (1, .int x1), (2, .int x2), (3, .int x3)] [] := by
  intro k
  induction k with
  | zero =>
    intro i n z F G fm hS hx hR hp h70 hST hi
    exfalso; omega
  | succ k ih =>
    intro i n z F G fm hS hx hR hp h70 hST hi
    obtain ⟨a0, a4, a5, bA, bW, a30, bL, a38, bP, a53, a47, a88⟩ := id hR
    have qcc0 := cnt_le (g := F 69) 5265
    refine gz_iload dX12_comeTo_134 rfl ?_
    refine gz_aload_n dX12_comeTo_136 rfl rfl ?_
    refine mg_489 hS dX12_comeTo_137 ?_
    refine gz_icmp_ge (tgt := 393) dX12_comeTo_140 (by decide) (fun c_140 => ?_) (fun c_140 => ?_)
    ·
      try simp only [mIn_0, lgc_lt, lgc_gt, lgc_le, lgc_ge, lgc_eq] at c_140
      try simp only [fl_lt, fl_le, fl_eq, fL_w, fL_lt, fL_le, tm1, tm10k, tm9, tm99, Int32.reduceToInt, Int64.reduceToInt, Int.not_lt, Int.not_le] at c_140
      refine gz_iconst (v := 0) dX12_comeTo_393 (by decide) ?_
      have hxf : fx [70] [29] [69, 71] [28] n z F G n z F G := fx_rf
      have hRf : RI n F := RI_fx hR hxf (by decide) (by decide)
      have e5f : n 5 = n 5 := hxf.1 5 (by decide)
      have e53f : n 53 = n 53 := hxf.1 53 (by decide)
      have hpf : ∀ q : Nat, (q : Int) ≤ x5.toInt → vW F (n 5).toInt (F 68 q).toInt := fun q hq => by rw [e5f, hxf.2.2.1 68 (by decide)]; exact vW_cg (hxf.2.2.1 6 (by decide)) (hp q hq)
      have h70f := h70
      have hSTf := hST
      exact gz_iret rfl dX12_comeTo_394 (Nat.le_of_ble_eq_true rfl) (Nat.le_of_ble_eq_true rfl) (⟨_, rfl, _, _, _, _, hS, hx, hRf⟩)
    ·
      try simp only [mIn_0, lgc_lt, lgc_gt, lgc_le, lgc_ge, lgc_eq] at c_140
      try simp only [fl_lt, fl_le, fl_eq, fL_w, fL_lt, fL_le, tm1, tm10k, tm9, tm99, Int32.reduceToInt, Int64.reduceToInt, Int.not_lt, Int.not_le] at c_140
      have qcl := clI (i := i) (by omega)
      have qst : stE x5.toInt x2.toInt (n 53).toInt ((F 71) (Int32.toNatClampNeg i)).toInt := hST _ (by omega)
      obtain ⟨s1, s2, s3, s4⟩ := qst
      have qcc := cnt_le (g := F 69) 5265
      have s5 := pw_le (b := (n 53).toInt) a53 (((F 71) (Int32.toNatClampNeg i)).toInt / 81 % 5).toNat (by omega)
      refine gz_aload_n dX12_comeTo_143 rfl rfl ?_
      refine mg_198 hS dX12_comeTo_144 ?_
      refine gz_iload dX12_comeTo_147 rfl ?_
      refine m_iald 71 hS rfl (N := 5265) rfl ((by exact vin_T (rfl : (i).toInt = (i).toInt) (by omega) (by omega))) dX12_comeTo_149 ?_
      refine gz_bipush (v := 81) dX12_comeTo_150 (by decide) ?_
      refine gz_irem dX12_comeTo_152 (by decide) ?_
      obtain ⟨wd, hwd⟩ : ∃ v_, v_ = (((F 71) (Int32.toNatClampNeg i)) - ((F 71) (Int32.toNatClampNeg i)) / 81 * 81) := ⟨_, rfl⟩
      refine gz_ev (w := .int wd) (congrArg Value.int hwd.symm) ?_
      have q7 : wd.toInt = ((F 71) (Int32.toNatClampNeg i)).toInt % 81 := by rw [hwd]; have q := T_sub (rfl : ((F 71) (Int32.toNatClampNeg i)).toInt = ((F 71) (Int32.toNatClampNeg i)).toInt) (T_mul (T_div (rfl : ((F 71) (Int32.toNatClampNeg i)).toInt = ((F 71) (Int32.toNatClampNeg i)).toInt) (show (81 : Int32).toInt = 81 from rfl) s1 (by decide)) (show (81 : Int32).toInt = 81 from rfl) (by omega)) (by omega); omega
      refine gz_istore (lv' := [(7, .int wd), (6, .int i), (5, .int x5), (0, .ref m), (1, .int x1), (2, .int x2), (3, .int x3)]) dX12_comeTo_153 (by decide) rfl ?_
      refine gz_aload_n dX12_comeTo_155 rfl rfl ?_
      refine mg_198 hS dX12_comeTo_156 ?_
      refine gz_iload dX12_comeTo_159 rfl ?_
      refine m_iald 71 hS rfl (N := 5265) rfl ((by exact vin_T (rfl : (i).toInt = (i).toInt) (by omega) (by omega))) dX12_comeTo_161 ?_
      refine gz_bipush (v := 81) dX12_comeTo_162 (by decide) ?_
      refine gz_idiv dX12_comeTo_164 (by decide) ?_
      refine gz_iconst (v := 5) dX12_comeTo_165 (by decide) ?_
      refine gz_irem dX12_comeTo_166 (by decide) ?_
      obtain ⟨dy, hdy⟩ : ∃ v_, v_ = ((((F 71) (Int32.toNatClampNeg i)) / 81) - (((F 71) (Int32.toNatClampNeg i)) / 81) / 5 * 5) := ⟨_, rfl⟩
      refine gz_ev (w := .int dy) (congrArg Value.int hdy.symm) ?_
      have q8 : dy.toInt = ((F 71) (Int32.toNatClampNeg i)).toInt / 81 % 5 := by rw [hdy]; have q0 := T_div (rfl : ((F 71) (Int32.toNatClampNeg i)).toInt = ((F 71) (Int32.toNatClampNeg i)).toInt) (show (81 : Int32).toInt = 81 from rfl) s1 (by decide); have q := T_sub q0 (T_mul (T_div q0 (show (5 : Int32).toInt = 5 from rfl) (by omega) (by decide)) (show (5 : Int32).toInt = 5 from rfl) (by omega)) (by omega); omega
      refine gz_istore (lv' := [(8, .int dy), (7, .int wd), (6, .int i), (5, .int x5), (0, .ref m), (1, .int x1), (2, .int x2), (3, .int x3)]) dX12_comeTo_167 (by decide) rfl ?_
      refine gz_aload_n dX12_comeTo_169 rfl rfl ?_
      refine mg_198 hS dX12_comeTo_170 ?_
      refine gz_iload dX12_comeTo_173 rfl ?_
      refine m_iald 71 hS rfl (N := 5265) rfl ((by exact vin_T (rfl : (i).toInt = (i).toInt) (by omega) (by omega))) dX12_comeTo_175 ?_
      refine gz_sipush (v := 405) dX12_comeTo_176 (by decide) ?_
      refine gz_idiv dX12_comeTo_179 (by decide) ?_
      obtain ⟨pl, hpl⟩ : ∃ v_, v_ = (((F 71) (Int32.toNatClampNeg i)) / 405) := ⟨_, rfl⟩
      refine gz_ev (w := .int pl) (congrArg Value.int hpl.symm) ?_
      have q9 : pl.toInt = ((F 71) (Int32.toNatClampNeg i)).toInt / 405 := by rw [hpl]; exact T_div (rfl : ((F 71) (Int32.toNatClampNeg i)).toInt = ((F 71) (Int32.toNatClampNeg i)).toInt) (show (405 : Int32).toInt = 405 from rfl) s1 (by decide)
      refine gz_istore (lv' := [(9, .int pl), (8, .int dy), (7, .int wd), (6, .int i), (5, .int x5), (0, .ref m), (1, .int x1), (2, .int x2), (3, .int x3)]) dX12_comeTo_180 (by decide) rfl ?_
      refine gz_aload_n dX12_comeTo_182 rfl rfl ?_
      refine gz_iload dX12_comeTo_183 rfl ?_
      refine gz_iload dX12_comeTo_185 rfl ?_
      have q8b : dy.toInt ≤ x2.toInt ∧ 0 ≤ dy.toInt := by omega
      have q9b : 0 ≤ pl.toInt ∧ pl.toInt ≤ x5.toInt := by omega
      have q7b : 0 ≤ wd.toInt ∧ wd.toInt < (n 53).toInt ^ dy.toInt.toNat := by rw [q7, q8]; exact ⟨by omega, s4⟩
      have q7c : wd.toInt ≤ 80 := by omega
      refine scX12_453 (k_X12_asIn (x1 := dy) (x2 := wd) hS a53 (by omega) (by omega)) hS.1 ⟨(Nat.le_of_ble_eq_true rfl), (Nat.le_of_ble_eq_true rfl)⟩ ⟨(Nat.le_of_ble_eq_true rfl), (Nat.le_of_ble_eq_true rfl)⟩ rfl rfl (Nat.le_of_ble_eq_true rfl) dX12_comeTo_187 ?_
      rintro f_1 ⟨n_1, z_1, F_1, G_1, hS_1, hx1⟩
      have hxa := hx1
      have e5 : n_1 5 = n 5 := hxa.1 5 (by decide)
      have e53 : n_1 53 = n 53 := hxa.1 53 (by decide)
      refine gz_aload_n dX12_comeTo_190 rfl rfl ?_
      refine mg_192 hS_1 dX12_comeTo_191 ?_
      refine gz_iload dX12_comeTo_194 rfl ?_
      refine m_iald 68 hS_1 rfl (N := 13) rfl ((by exact vin_T (rfl : (pl).toInt = (pl).toInt) (by omega) (by omega))) dX12_comeTo_196 ?_
      refine gz_ev (w := .int ((F 68) (Int32.toNatClampNeg pl))) (congrArg Value.int (congrFun (hx1.2.2.1 68 (by decide)) _)) ?_
      obtain ⟨wv, hwv⟩ : ∃ v_, v_ = ((F 68) (Int32.toNatClampNeg pl)) := ⟨_, rfl⟩
      refine gz_ev (w := .int wv) (congrArg Value.int hwv.symm) ?_
      have hv : vW F (n 5).toInt wv.toInt := by rw [hwv]; exact hp _ (by have := clI (i := pl) (by omega); omega)
      have qv := vW_lt bW a5 hv
      refine gz_istore (lv' := [(4, .int wv), (9, .int pl), (8, .int dy), (7, .int wd), (6, .int i), (5, .int x5), (0, .ref m), (1, .int x1), (2, .int x2), (3, .int x3)]) dX12_comeTo_197 (by decide) rfl ?_
      refine gz_aload_n dX12_comeTo_199 rfl rfl ?_
      refine gz_iload dX12_comeTo_200 rfl ?_
      refine scX12_374 (k_X12_isLapsed (x1 := wv) hS_1 (by rw [e5]; exact a5) (rAll_w (fun k hk => hxa.2.2.1 k ((by decide : ∀ k : Nat, k ∈ wK → k ∉ ([] : List Nat)) k hk)) bA) (by rw [e5]; exact rW_w (fun k hk => hxa.2.2.1 k ((by decide : ∀ k : Nat, k ∈ wK → k ∉ ([] : List Nat)) k hk)) bW) (by rw [e5]; exact vW_cg (hxa.2.2.1 6 (by decide)) hv)) hS_1.1 ⟨(Nat.le_of_ble_eq_true rfl), (Nat.le_of_ble_eq_true rfl)⟩ ⟨(Nat.le_of_ble_eq_true rfl), (Nat.le_of_ble_eq_true rfl)⟩ rfl rfl (Nat.le_of_ble_eq_true rfl) dX12_comeTo_202 ?_
      rintro r_2 f9 ⟨hb_2, y9⟩; rw [y9]
      refine gz_if_eq (tgt := 211) dX12_comeTo_205 (by decide) (fun c_205 => ?_) (fun c_205 => ?_)
      ·
        try simp only [mIn_0, lgc_lt, lgc_gt, lgc_le, lgc_ge, lgc_eq] at c_205
        try simp only [fl_lt, fl_le, fl_eq, fL_w, fL_lt, fL_le, tm1, tm10k, tm9, tm99, Int32.reduceToInt, Int64.reduceToInt, Int.not_lt, Int.not_le] at c_205
        refine gz_iload dX12_comeTo_211 rfl ?_
        refine gz_iload dX12_comeTo_213 rfl ?_
        refine gz_icmp_ne (tgt := 220) dX12_comeTo_215 (by decide) (fun c_215 => ?_) (fun c_215 => ?_)
        ·
          try simp only [mIn_0, lgc_lt, lgc_gt, lgc_le, lgc_ge, lgc_eq] at c_215
          try simp only [fl_lt, fl_le, fl_eq, fL_w, fL_lt, fL_le, tm1, tm10k, tm9, tm99, Int32.reduceToInt, Int64.reduceToInt, Int.not_lt, Int.not_le] at c_215
          refine gz_aload_n dX12_comeTo_220 rfl rfl ?_
          refine mg_20 hS_1 dX12_comeTo_221 ?_
          refine gz_iload dX12_comeTo_224 rfl ?_
          refine m_iald 7 hS_1 rfl (N := 880) rfl ((by exact vin_T (rfl : (wv).toInt = (wv).toInt) (by omega) (by omega))) dX12_comeTo_226 ?_
          refine gz_ev (w := .int ((F 7) (Int32.toNatClampNeg wv))) (congrArg Value.int (congrFun (hx1.2.2.1 7 (by decide)) _)) ?_
          refine gz_bipush (v := 6) dX12_comeTo_227 (by decide) ?_
          refine gz_icmp_eq (tgt := 244) dX12_comeTo_229 (by decide) (fun c_229 => ?_) (fun c_229 => ?_)
          ·
            try simp only [mIn_0, lgc_lt, lgc_gt, lgc_le, lgc_ge, lgc_eq] at c_229
            try simp only [fl_lt, fl_le, fl_eq, fL_w, fL_lt, fL_le, tm1, tm10k, tm9, tm99, Int32.reduceToInt, Int64.reduceToInt, Int.not_lt, Int.not_le] at c_229
            refine gz_iconst (v := 1) dX12_comeTo_244 (by decide) ?_
            refine gz_goto (tgt := 249) dX12_comeTo_245 (by decide) ?_
            refine gz_istore (lv' := [(10, .int 1), (4, .int wv), (9, .int pl), (8, .int dy), (7, .int wd), (6, .int i), (5, .int x5), (0, .ref m), (1, .int x1), (2, .int x2), (3, .int x3)]) dX12_comeTo_249 (by decide) rfl ?_
            refine gz_iload dX12_comeTo_251 rfl ?_
            refine gz_if_eq (tgt := 265) dX12_comeTo_253 (by decide) (fun c_253 => ?_) (fun c_253 => ?_)
            · exact absurd c_253 (by decide)
            ·
              try simp only [mIn_0, lgc_lt, lgc_gt, lgc_le, lgc_ge, lgc_eq] at c_253
              try simp only [fl_lt, fl_le, fl_eq, fL_w, fL_lt, fL_le, tm1, tm10k, tm9, tm99, Int32.reduceToInt, Int64.reduceToInt, Int.not_lt, Int.not_le] at c_253
              refine gz_aload_n dX12_comeTo_256 rfl rfl ?_
              refine gz_iload dX12_comeTo_257 rfl ?_
              refine scX12_348 (k_X12_holds (x1 := wv) hS_1 (rAll_w (fun k hk => hxa.2.2.1 k ((by decide : ∀ k : Nat, k ∈ wK → k ∉ ([] : List Nat)) k hk)) bA) (by omega)) hS_1.1 ⟨(Nat.le_of_ble_eq_true rfl), (Nat.le_of_ble_eq_true rfl)⟩ ⟨(Nat.le_of_ble_eq_true rfl), (Nat.le_of_ble_eq_true rfl)⟩ rfl rfl (Nat.le_of_ble_eq_true rfl) dX12_comeTo_259 ?_
              rintro r_3 f9 ⟨hb_3, y9⟩; rw [y9]
              refine gz_goto (tgt := 299) dX12_comeTo_262 (by decide) ?_
              refine gz_istore (lv' := [(11, .int r_3), (10, .int 1), (4, .int wv), (9, .int pl), (8, .int dy), (7, .int wd), (6, .int i), (5, .int x5), (0, .ref m), (1, .int x1), (2, .int x2), (3, .int x3)]) dX12_comeTo_299 (by decide) rfl ?_
              refine gz_iload dX12_comeTo_301 rfl ?_
              refine gz_if_eq (tgt := 318) dX12_comeTo_303 (by decide) (fun c_303 => ?_) (fun c_303 => ?_)
              ·
                try simp only [mIn_0, lgc_lt, lgc_gt, lgc_le, lgc_ge, lgc_eq] at c_303
                try simp only [fl_lt, fl_le, fl_eq, fL_w, fL_lt, fL_le, tm1, tm10k, tm9, tm99, Int32.reduceToInt, Int64.reduceToInt, Int.not_lt, Int.not_le] at c_303
                refine gz_iload dX12_comeTo_318 rfl ?_
                refine gz_if_eq (tgt := 387) dX12_comeTo_320 (by decide) (fun c_320 => ?_) (fun c_320 => ?_)
                · exact absurd c_320 (by decide)
                ·
                  try simp only [mIn_0, lgc_lt, lgc_gt, lgc_le, lgc_ge, lgc_eq] at c_320
                  try simp only [fl_lt, fl_le, fl_eq, fL_w, fL_lt, fL_le, tm1, tm10k, tm9, tm99, Int32.reduceToInt, Int64.reduceToInt, Int.not_lt, Int.not_le] at c_320
                  refine gz_iload dX12_comeTo_323 rfl ?_
                  refine gz_iload_n dX12_comeTo_325 rfl rfl ?_
                  refine gz_icmp_eq (tgt := 387) dX12_comeTo_326 (by decide) (fun c_326 => ?_) (fun c_326 => ?_)
                  ·
                    try simp only [mIn_0, lgc_lt, lgc_gt, lgc_le, lgc_ge, lgc_eq] at c_326
                    try simp only [fl_lt, fl_le, fl_eq, fL_w, fL_lt, fL_le, tm1, tm10k, tm9, tm99, Int32.reduceToInt, Int64.reduceToInt, Int.not_lt, Int.not_le] at c_326
                    refine gz_iinc (v := (i + 1)) (lv' := [(6, .int (i + 1)), (11, .int r_3), (10, .int 1), (4, .int wv), (9, .int pl), (8, .int dy), (7, .int wd), (5, .int x5), (0, .ref m), (1, .int x1), (2, .int x2), (3, .int x3)]) dX12_comeTo_387 rfl rfl (by decide) rfl ?_
                    refine gz_goto (tgt := 134) dX12_comeTo_390 (by decide) ?_
                    refine gz_sub (lv' := [(6, .int (i + 1)), (5, .int x5), (0, .ref m), (1, .int x1), (2, .int x2), (3, .int x3)]) (by simp [List.lookup]) ?_
                    have hxf : fx [70] [29] [69, 71] [28] n z F G n_1 z_1 F_1 G_1 := (fx_tr fx_rf hx1 (by decide))
                    have hRf : RI n_1 F_1 := RI_fx hR hxf (by decide) (by decide)
                    have e5f : n_1 5 = n 5 := hxf.1 5 (by decide)
                    have e53f : n_1 53 = n 53 := hxf.1 53 (by decide)
                    have hpf : ∀ q : Nat, (q : Int) ≤ x5.toInt → vW F_1 (n_1 5).toInt (F_1 68 q).toInt := fun q hq => by rw [e5f, hxf.2.2.1 68 (by decide)]; exact vW_cg (hxf.2.2.1 6 (by decide)) (hp q hq)
                    have h70f : ((n_1 70).toInt : Int) = cnt (F_1 69) 5265 := by rw [hxa.1 70 (by decide), hxa.2.2.1 69 (by decide)]; exact h70
                    have hSTf : ∀ q : Nat, (q : Int) < (n_1 70).toInt → stE x5.toInt x2.toInt (n_1 53).toInt (F_1 71 q).toInt := fun q hq => by rw [e53f, hxa.2.2.1 71 (by decide)]; exact hST q (by rw [hxa.1 70 (by decide)] at hq; exact hq)
                    exact ih (i + 1) _ _ _ _ _ hS_1 (fx_tr hx hx1 (by decide)) (hRf) (hpf) (h70f) (hSTf) ((by have q1_ := (T_add (rfl : (i).toInt = (i).toInt) (show (1 : Int32).toInt = 1 from rfl) (by omega)); omega))
                  ·
                    try simp only [mIn_0, lgc_lt, lgc_gt, lgc_le, lgc_ge, lgc_eq] at c_326
                    try simp only [fl_lt, fl_le, fl_eq, fL_w, fL_lt, fL_le, tm1, tm10k, tm9, tm99, Int32.reduceToInt, Int64.reduceToInt, Int.not_lt, Int.not_le] at c_326
                    refine gz_iload dX12_comeTo_329 rfl ?_
                    refine gz_if_eq (tgt := 349) dX12_comeTo_331 (by decide) (fun c_331 => ?_) (fun c_331 => ?_)
                    ·
                      try simp only [mIn_0, lgc_lt, lgc_gt, lgc_le, lgc_ge, lgc_eq] at c_331
                      try simp only [fl_lt, fl_le, fl_eq, fL_w, fL_lt, fL_le, tm1, tm10k, tm9, tm99, Int32.reduceToInt, Int64.reduceToInt, Int.not_lt, Int.not_le] at c_331
                      refine gz_iconst (v := 0) dX12_comeTo_349 (by decide) ?_
                      refine gz_istore (lv' := [(12, .int 0), (11, .int r_3), (10, .int 1), (4, .int wv), (9, .int pl), (8, .int dy), (7, .int wd), (6, .int i), (5, .int x5), (0, .ref m), (1, .int x1), (2, .int x2), (3, .int x3)]) dX12_comeTo_350 (by decide) rfl ?_
                      have hi3 : i.toInt < 5265 := by omega
                      have hxf : fx [70] [29] [69, 71] [28] n z F G n_1 z_1 F_1 G_1 := (fx_tr fx_rf hx1 (by decide))
                      have hRf : RI n_1 F_1 := RI_fx hR hxf (by decide) (by decide)
                      have e5f : n_1 5 = n 5 := hxf.1 5 (by decide)
                      have e53f : n_1 53 = n 53 := hxf.1 53 (by decide)
                      have hpf : ∀ q : Nat, (q : Int) ≤ x5.toInt → vW F_1 (n_1 5).toInt (F_1 68 q).toInt := fun q hq => by rw [e5f, hxf.2.2.1 68 (by decide)]; exact vW_cg (hxf.2.2.1 6 (by decide)) (hp q hq)
                      have h70f : ((n_1 70).toInt : Int) = cnt (F_1 69) 5265 := by rw [hxa.1 70 (by decide), hxa.2.2.1 69 (by decide)]; exact h70
                      have hSTf : ∀ q : Nat, (q : Int) < (n_1 70).toInt → stE x5.toInt x2.toInt (n_1 53).toInt (F_1 71 q).toInt := fun q hq => by rw [e53f, hxa.2.2.1 71 (by decide)]; exact hST q (by rw [hxa.1 70 (by decide)] at hq; exact hq)
                      refine gz_sub (lv' := [(12, .int 0), (7, .int wd), (8, .int dy), (9, .int pl), (6, .int i), (5, .int x5), (0, .ref m), (1, .int x1), (2, .int x2), (3, .int x3)]) (by simp [List.lookup]) ?_
                      refine l_X12_comeTo3 (i := i) h5 h2 (by omega) q9b q7c ?_ 4 0 _ _ _ _ _ hS_1 (fx_tr hx hx1 (by decide)) hRf hpf h70f hSTf (by rw [e53f]; have e0 : (0 : Int32).toInt = 0 := rfl; omega) (by rw [e53f]; exact q7b) (by decide)
                      clear hR hp h70 hST
                      intro n z F G fm hS hx hR hp h70 hST
                      have hi := hi
                      refine gz_iinc (v := (i + 1)) (lv' := [(6, .int (i + 1)), (5, .int x5), (0, .ref m), (1, .int x1), (2, .int x2), (3, .int x3)]) dX12_comeTo_387 rfl rfl (by decide) rfl ?_
                      refine gz_goto (tgt := 134) dX12_comeTo_390 (by decide) ?_
                      refine gz_sub (lv' := [(6, .int (i + 1)), (5, .int x5), (0, .ref m), (1, .int x1), (2, .int x2), (3, .int x3)]) (by simp [List.lookup]) ?_
                      exact ih (i + 1) _ _ _ _ _ hS hx (hR) (hp) (h70) (hST) ((by have q1_ := (T_add (rfl : (i).toInt = (i).toInt) (show (1 : Int32).toInt = 1 from rfl) (by omega)); omega))
                    ·
                      try simp only [mIn_0, lgc_lt, lgc_gt, lgc_le, lgc_ge, lgc_eq] at c_331
                      try simp only [fl_lt, fl_le, fl_eq, fL_w, fL_lt, fL_le, tm1, tm10k, tm9, tm99, Int32.reduceToInt, Int64.reduceToInt, Int.not_lt, Int.not_le] at c_331
                      refine gz_aload_n dX12_comeTo_334 rfl rfl ?_
                      refine mg_20 hS_1 dX12_comeTo_335 ?_
                      refine gz_iload dX12_comeTo_338 rfl ?_
                      refine m_iald 7 hS_1 rfl (N := 880) rfl ((by exact vin_T (rfl : (wv).toInt = (wv).toInt) (by omega) (by omega))) dX12_comeTo_340 ?_
                      refine gz_ev (w := .int ((F 7) (Int32.toNatClampNeg wv))) (congrArg Value.int (congrFun (hx1.2.2.1 7 (by decide)) _)) ?_
                      refine gz_bipush (v := 6) dX12_comeTo_341 (by decide) ?_
                      refine gz_icmp_ne (tgt := 349) dX12_comeTo_343 (by decide) (fun c_343 => ?_) (fun c_343 => ?_)
                      ·
                        try simp only [mIn_0, lgc_lt, lgc_gt, lgc_le, lgc_ge, lgc_eq] at c_343
                        try simp only [fl_lt, fl_le, fl_eq, fL_w, fL_lt, fL_le, tm1, tm10k, tm9, tm99, Int32.reduceToInt, Int64.reduceToInt, Int.not_lt, Int.not_le] at c_343
                        refine gz_iconst (v := 0) dX12_comeTo_349 (by decide) ?_
                        refine gz_istore (lv' := [(12, .int 0), (11, .int r_3), (10, .int 1), (4, .int wv), (9, .int pl), (8, .int dy), (7, .int wd), (6, .int i), (5, .int x5), (0, .ref m), (1, .int x1), (2, .int x2), (3, .int x3)]) dX12_comeTo_350 (by decide) rfl ?_
                        have hi3 : i.toInt < 5265 := by omega
                        have hxf : fx [70] [29] [69, 71] [28] n z F G n_1 z_1 F_1 G_1 := (fx_tr fx_rf hx1 (by decide))
                        have hRf : RI n_1 F_1 := RI_fx hR hxf (by decide) (by decide)
                        have e5f : n_1 5 = n 5 := hxf.1 5 (by decide)
                        have e53f : n_1 53 = n 53 := hxf.1 53 (by decide)
                        have hpf : ∀ q : Nat, (q : Int) ≤ x5.toInt → vW F_1 (n_1 5).toInt (F_1 68 q).toInt := fun q hq => by rw [e5f, hxf.2.2.1 68 (by decide)]; exact vW_cg (hxf.2.2.1 6 (by decide)) (hp q hq)
                        have h70f : ((n_1 70).toInt : Int) = cnt (F_1 69) 5265 := by rw [hxa.1 70 (by decide), hxa.2.2.1 69 (by decide)]; exact h70
                        have hSTf : ∀ q : Nat, (q : Int) < (n_1 70).toInt → stE x5.toInt x2.toInt (n_1 53).toInt (F_1 71 q).toInt := fun q hq => by rw [e53f, hxa.2.2.1 71 (by decide)]; exact hST q (by rw [hxa.1 70 (by decide)] at hq; exact hq)
                        refine gz_sub (lv' := [(12, .int 0), (7, .int wd), (8, .int dy), (9, .int pl), (6, .int i), (5, .int x5), (0, .ref m), (1, .int x1), (2, .int x2), (3, .int x3)]) (by simp [List.lookup]) ?_
                        refine l_X12_comeTo3 (i := i) h5 h2 (by omega) q9b q7c ?_ 4 0 _ _ _ _ _ hS_1 (fx_tr hx hx1 (by decide)) hRf hpf h70f hSTf (by rw [e53f]; have e0 : (0 : Int32).toInt = 0 := rfl; omega) (by rw [e53f]; exact q7b) (by decide)
                        clear hR hp h70 hST
                        intro n z F G fm hS hx hR hp h70 hST
                        have hi := hi
                        refine gz_iinc (v := (i + 1)) (lv' := [(6, .int (i + 1)), (5, .int x5), (0, .ref m), (1, .int x1), (2, .int x2), (3, .int x3)]) dX12_comeTo_387 rfl rfl (by decide) rfl ?_
                        refine gz_goto (tgt := 134) dX12_comeTo_390 (by decide) ?_
                        refine gz_sub (lv' := [(6, .int (i + 1)), (5, .int x5), (0, .ref m), (1, .int x1), (2, .int x2), (3, .int x3)]) (by simp [List.lookup]) ?_
                        exact ih (i + 1) _ _ _ _ _ hS hx (hR) (hp) (h70) (hST) ((by have q1_ := (T_add (rfl : (i).toInt = (i).toInt) (show (1 : Int32).toInt = 1 from rfl) (by omega)); omega))
                      ·
                        try simp only [mIn_0, lgc_lt, lgc_gt, lgc_le, lgc_ge, lgc_eq] at c_343
                        try simp only [fl_lt, fl_le, fl_eq, fL_w, fL_lt, fL_le, tm1, tm10k, tm9, tm99, Int32.reduceToInt, Int64.reduceToInt, Int.not_lt, Int.not_le] at c_343
                        refine gz_goto (tgt := 387) dX12_comeTo_346 (by decide) ?_
                        refine gz_iinc (v := (i + 1)) (lv' := [(6, .int (i + 1)), (11, .int r_3), (10, .int 1), (4, .int wv), (9, .int pl), (8, .int dy), (7, .int wd), (5, .int x5), (0, .ref m), (1, .int x1), (2, .int x2), (3, .int x3)]) dX12_comeTo_387 rfl rfl (by decide) rfl ?_
                        refine gz_goto (tgt := 134) dX12_comeTo_390 (by decide) ?_
                        refine gz_sub (lv' := [(6, .int (i + 1)), (5, .int x5), (0, .ref m), (1, .int x1), (2, .int x2), (3, .int x3)]) (by simp [List.lookup]) ?_
                        have hxf : fx [70] [29] [69, 71] [28] n z F G n_1 z_1 F_1 G_1 := (fx_tr fx_rf hx1 (by decide))
                        have hRf : RI n_1 F_1 := RI_fx hR hxf (by decide) (by decide)
                        have e5f : n_1 5 = n 5 := hxf.1 5 (by decide)
                        have e53f : n_1 53 = n 53 := hxf.1 53 (by decide)
                        have hpf : ∀ q : Nat, (q : Int) ≤ x5.toInt → vW F_1 (n_1 5).toInt (F_1 68 q).toInt := fun q hq => by rw [e5f, hxf.2.2.1 68 (by decide)]; exact vW_cg (hxf.2.2.1 6 (by decide)) (hp q hq)
                        have h70f : ((n_1 70).toInt : Int) = cnt (F_1 69) 5265 := by rw [hxa.1 70 (by decide), hxa.2.2.1 69 (by decide)]; exact h70
                        have hSTf : ∀ q : Nat, (q : Int) < (n_1 70).toInt → stE x5.toInt x2.toInt (n_1 53).toInt (F_1 71 q).toInt := fun q hq => by rw [e53f, hxa.2.2.1 71 (by decide)]; exact hST q (by rw [hxa.1 70 (by decide)] at hq; exact hq)
                        exact ih (i + 1) _ _ _ _ _ hS_1 (fx_tr hx hx1 (by decide)) (hRf) (hpf) (h70f) (hSTf) ((by have q1_ := (T_add (rfl : (i).toInt = (i).toInt) (show (1 : Int32).toInt = 1 from rfl) (by omega)); omega))
              ·
                try simp only [mIn_0, lgc_lt, lgc_gt, lgc_le, lgc_ge, lgc_eq] at c_303
                try simp only [fl_lt, fl_le, fl_eq, fL_w, fL_lt, fL_le, tm1, tm10k, tm9, tm99, Int32.reduceToInt, Int64.reduceToInt, Int.not_lt, Int.not_le] at c_303
                refine gz_aload_n dX12_comeTo_306 rfl rfl ?_
                refine gz_iload dX12_comeTo_307 rfl ?_
                refine gz_iconst (v := 1) dX12_comeTo_309 (by decide) ?_
                refine gz_iadd dX12_comeTo_310 ?_
                refine gz_iload dX12_comeTo_311 rfl ?_
                refine gz_iload dX12_comeTo_313 rfl ?_
                have qp1 : (pl + 1).toInt = pl.toInt + 1 := T_add rfl (show (1 : Int32).toInt = 1 from rfl) (by omega)
                have hne : pl.toInt ≠ x5.toInt := by omega
                refine scX12_492 (k_X12_reaches (x1 := (pl + 1)) (x2 := dy) (x3 := wd) (P := stE x5.toInt x2.toInt (n 53).toInt) hS_1 (by omega) (by omega) (by omega) (by rw [hxa.1 70 (by decide), hxa.2.2.1 69 (by decide)]; exact h70) (fun q hq => by rw [hxa.2.2.1 71 (by decide)]; exact hST q (by rw [hxa.1 70 (by decide)] at hq; exact hq)) (stE_mk (by omega) (by omega) q7b (by omega))) hS_1.1 ⟨(Nat.le_of_ble_eq_true rfl), (Nat.le_of_ble_eq_true rfl)⟩ ⟨(Nat.le_of_ble_eq_true rfl), (Nat.le_of_ble_eq_true rfl)⟩ rfl rfl (Nat.le_of_ble_eq_true rfl) dX12_comeTo_315 ?_
                rintro f_4 ⟨n_4, z_4, F_4, G_4, hS_4, hx4, h70_4, hST_4, hm_4⟩
                try simp only [(show n_1 70 = (n 70) from (hx1.1 70 (by decide)))] at h70_4 hST_4 hm_4
                refine gz_iload dX12_comeTo_318 rfl ?_
                refine gz_if_eq (tgt := 387) dX12_comeTo_320 (by decide) (fun c_320 => ?_) (fun c_320 => ?_)
                · exact absurd c_320 (by decide)
                ·
                  try simp only [mIn_0, lgc_lt, lgc_gt, lgc_le, lgc_ge, lgc_eq] at c_320
                  try simp only [fl_lt, fl_le, fl_eq, fL_w, fL_lt, fL_le, tm1, tm10k, tm9, tm99, Int32.reduceToInt, Int64.reduceToInt, Int.not_lt, Int.not_le] at c_320
                  refine gz_iload dX12_comeTo_323 rfl ?_
                  refine gz_iload_n dX12_comeTo_325 rfl rfl ?_
                  refine gz_icmp_eq (tgt := 387) dX12_comeTo_326 (by decide) (fun c_326 => ?_) (fun c_326 => ?_)
                  ·
                    try simp only [mIn_0, lgc_lt, lgc_gt, lgc_le, lgc_ge, lgc_eq] at c_326
                    try simp only [fl_lt, fl_le, fl_eq, fL_w, fL_lt, fL_le, tm1, tm10k, tm9, tm99, Int32.reduceToInt, Int64.reduceToInt, Int.not_lt, Int.not_le] at c_326
                    refine gz_iinc (v := (i + 1)) (lv' := [(6, .int (i + 1)), (11, .int r_3), (10, .int 1), (4, .int wv), (9, .int pl), (8, .int dy), (7, .int wd), (5, .int x5), (0, .ref m), (1, .int x1), (2, .int x2), (3, .int x3)]) dX12_comeTo_387 rfl rfl (by decide) rfl ?_
                    refine gz_goto (tgt := 134) dX12_comeTo_390 (by decide) ?_
                    refine gz_sub (lv' := [(6, .int (i + 1)), (5, .int x5), (0, .ref m), (1, .int x1), (2, .int x2), (3, .int x3)]) (by simp [List.lookup]) ?_
                    have hxf : fx [70] [29] [69, 71] [28] n z F G n_4 z_4 F_4 G_4 := (fx_tr (fx_tr fx_rf hx1 (by decide)) hx4 (by decide))
                    have hRf : RI n_4 F_4 := RI_fx hR hxf (by decide) (by decide)
                    have e5f : n_4 5 = n 5 := hxf.1 5 (by decide)
                    have e53f : n_4 53 = n 53 := hxf.1 53 (by decide)
                    have hpf : ∀ q : Nat, (q : Int) ≤ x5.toInt → vW F_4 (n_4 5).toInt (F_4 68 q).toInt := fun q hq => by rw [e5f, hxf.2.2.1 68 (by decide)]; exact vW_cg (hxf.2.2.1 6 (by decide)) (hp q hq)
                    have h70f := h70_4
                    have hSTf : ∀ q : Nat, (q : Int) < (n_4 70).toInt → stE x5.toInt x2.toInt (n_4 53).toInt (F_4 71 q).toInt := fun q hq => by rw [e53f]; exact hST_4 q hq
                    exact ih (i + 1) _ _ _ _ _ hS_4 (fx_tr (fx_tr hx hx1 (by decide)) hx4 (by decide)) (hRf) (hpf) (h70f) (hSTf) ((by have q1_ := (T_add (rfl : (i).toInt = (i).toInt) (show (1 : Int32).toInt = 1 from rfl) (by omega)); omega))
                  ·
                    try simp only [mIn_0, lgc_lt, lgc_gt, lgc_le, lgc_ge, lgc_eq] at c_326
                    try simp only [fl_lt, fl_le, fl_eq, fL_w, fL_lt, fL_le, tm1, tm10k, tm9, tm99, Int32.reduceToInt, Int64.reduceToInt, Int.not_lt, Int.not_le] at c_326
                    refine gz_iload dX12_comeTo_329 rfl ?_
                    refine gz_if_eq (tgt := 349) dX12_comeTo_331 (by decide) (fun c_331 => ?_) (fun c_331 => ?_)
                    ·
                      try simp only [mIn_0, lgc_lt, lgc_gt, lgc_le, lgc_ge, lgc_eq] at c_331
                      try simp only [fl_lt, fl_le, fl_eq, fL_w, fL_lt, fL_le, tm1, tm10k, tm9, tm99, Int32.reduceToInt, Int64.reduceToInt, Int.not_lt, Int.not_le] at c_331
                      refine gz_iconst (v := 0) dX12_comeTo_349 (by decide) ?_
                      refine gz_istore (lv' := [(12, .int 0), (11, .int r_3), (10, .int 1), (4, .int wv), (9, .int pl), (8, .int dy), (7, .int wd), (6, .int i), (5, .int x5), (0, .ref m), (1, .int x1), (2, .int x2), (3, .int x3)]) dX12_comeTo_350 (by decide) rfl ?_
                      have hi3 : i.toInt < 5265 := by omega
                      have hxf : fx [70] [29] [69, 71] [28] n z F G n_4 z_4 F_4 G_4 := (fx_tr (fx_tr fx_rf hx1 (by decide)) hx4 (by decide))
                      have hRf : RI n_4 F_4 := RI_fx hR hxf (by decide) (by decide)
                      have e5f : n_4 5 = n 5 := hxf.1 5 (by decide)
                      have e53f : n_4 53 = n 53 := hxf.1 53 (by decide)
                      have hpf : ∀ q : Nat, (q : Int) ≤ x5.toInt → vW F_4 (n_4 5).toInt (F_4 68 q).toInt := fun q hq => by rw [e5f, hxf.2.2.1 68 (by decide)]; exact vW_cg (hxf.2.2.1 6 (by decide)) (hp q hq)
                      have h70f := h70_4
                      have hSTf : ∀ q : Nat, (q : Int) < (n_4 70).toInt → stE x5.toInt x2.toInt (n_4 53).toInt (F_4 71 q).toInt := fun q hq => by rw [e53f]; exact hST_4 q hq
                      refine gz_sub (lv' := [(12, .int 0), (7, .int wd), (8, .int dy), (9, .int pl), (6, .int i), (5, .int x5), (0, .ref m), (1, .int x1), (2, .int x2), (3, .int x3)]) (by simp [List.lookup]) ?_
                      refine l_X12_comeTo3 (i := i) h5 h2 (by omega) q9b q7c ?_ 4 0 _ _ _ _ _ hS_4 (fx_tr (fx_tr hx hx1 (by decide)) hx4 (by decide)) hRf hpf h70f hSTf (by rw [e53f]; have e0 : (0 : Int32).toInt = 0 := rfl; omega) (by rw [e53f]; exact q7b) (by decide)
                      clear hR hp h70 hST
                      intro n z F G fm hS hx hR hp h70 hST
                      have hi := hi
                      refine gz_iinc (v := (i + 1)) (lv' := [(6, .int (i + 1)), (5, .int x5), (0, .ref m), (1, .int x1), (2, .int x2), (3, .int x3)]) dX12_comeTo_387 rfl rfl (by decide) rfl ?_
                      refine gz_goto (tgt := 134) dX12_comeTo_390 (by decide) ?_
                      refine gz_sub (lv' := [(6, .int (i + 1)), (5, .int x5), (0, .ref m), (1, .int x1), (2, .int x2), (3, .int x3)]) (by simp [List.lookup]) ?_
                      exact ih (i + 1) _ _ _ _ _ hS hx (hR) (hp) (h70) (hST) ((by have q1_ := (T_add (rfl : (i).toInt = (i).toInt) (show (1 : Int32).toInt = 1 from rfl) (by omega)); omega))
                    ·
                      try simp only [mIn_0, lgc_lt, lgc_gt, lgc_le, lgc_ge, lgc_eq] at c_331
                      try simp only [fl_lt, fl_le, fl_eq, fL_w, fL_lt, fL_le, tm1, tm10k, tm9, tm99, Int32.reduceToInt, Int64.reduceToInt, Int.not_lt, Int.not_le] at c_331
                      refine gz_aload_n dX12_comeTo_334 rfl rfl ?_
                      refine mg_20 hS_4 dX12_comeTo_335 ?_
                      refine gz_iload dX12_comeTo_338 rfl ?_
                      refine m_iald 7 hS_4 rfl (N := 880) rfl ((by exact vin_T (rfl : (wv).toInt = (wv).toInt) (by omega) (by omega))) dX12_comeTo_340 ?_
                      refine gz_ev (w := .int ((F 7) (Int32.toNatClampNeg wv))) (congrArg Value.int (congrFun ((hx4.2.2.1 7 (by decide)).trans (hx1.2.2.1 7 (by decide))) _)) ?_
                      refine gz_bipush (v := 6) dX12_comeTo_341 (by decide) ?_
                      refine gz_icmp_ne (tgt := 349) dX12_comeTo_343 (by decide) (fun c_343 => ?_) (fun c_343 => ?_)
                      ·
                        try simp only [mIn_0, lgc_lt, lgc_gt, lgc_le, lgc_ge, lgc_eq] at c_343
                        try simp only [fl_lt, fl_le, fl_eq, fL_w, fL_lt, fL_le, tm1, tm10k, tm9, tm99, Int32.reduceToInt, Int64.reduceToInt, Int.not_lt, Int.not_le] at c_343
                        refine gz_iconst (v := 0) dX12_comeTo_349 (by decide) ?_
                        refine gz_istore (lv' := [(12, .int 0), (11, .int r_3), (10, .int 1), (4, .int wv), (9, .int pl), (8, .int dy), (7, .int wd), (6, .int i), (5, .int x5), (0, .ref m), (1, .int x1), (2, .int x2), (3, .int x3)]) dX12_comeTo_350 (by decide) rfl ?_
                        have hi3 : i.toInt < 5265 := by omega
                        have hxf : fx [70] [29] [69, 71] [28] n z F G n_4 z_4 F_4 G_4 := (fx_tr (fx_tr fx_rf hx1 (by decide)) hx4 (by decide))
                        have hRf : RI n_4 F_4 := RI_fx hR hxf (by decide) (by decide)
                        have e5f : n_4 5 = n 5 := hxf.1 5 (by decide)
                        have e53f : n_4 53 = n 53 := hxf.1 53 (by decide)
                        have hpf : ∀ q : Nat, (q : Int) ≤ x5.toInt → vW F_4 (n_4 5).toInt (F_4 68 q).toInt := fun q hq => by rw [e5f, hxf.2.2.1 68 (by decide)]; exact vW_cg (hxf.2.2.1 6 (by decide)) (hp q hq)
                        have h70f := h70_4
                        have hSTf : ∀ q : Nat, (q : Int) < (n_4 70).toInt → stE x5.toInt x2.toInt (n_4 53).toInt (F_4 71 q).toInt := fun q hq => by rw [e53f]; exact hST_4 q hq
                        refine gz_sub (lv' := [(12, .int 0), (7, .int wd), (8, .int dy), (9, .int pl), (6, .int i), (5, .int x5), (0, .ref m), (1, .int x1), (2, .int x2), (3, .int x3)]) (by simp [List.lookup]) ?_
                        refine l_X12_comeTo3 (i := i) h5 h2 (by omega) q9b q7c ?_ 4 0 _ _ _ _ _ hS_4 (fx_tr (fx_tr hx hx1 (by decide)) hx4 (by decide)) hRf hpf h70f hSTf (by rw [e53f]; have e0 : (0 : Int32).toInt = 0 := rfl; omega) (by rw [e53f]; exact q7b) (by decide)
                        clear hR hp h70 hST
                        intro n z F G fm hS hx hR hp h70 hST
                        have hi := hi
                        refine gz_iinc (v := (i + 1)) (lv' := [(6, .int (i + 1)), (5, .int x5), (0, .ref m), (1, .int x1), (2, .int x2), (3, .int x3)]) dX12_comeTo_387 rfl rfl (by decide) rfl ?_
                        refine gz_goto (tgt := 134) dX12_comeTo_390 (by decide) ?_
                        refine gz_sub (lv' := [(6, .int (i + 1)), (5, .int x5), (0, .ref m), (1, .int x1), (2, .int x2), (3, .int x3)]) (by simp [List.lookup]) ?_
                        exact ih (i + 1) _ _ _ _ _ hS hx (hR) (hp) (h70) (hST) ((by have q1_ := (T_add (rfl : (i).toInt = (i).toInt) (show (1 : Int32).toInt = 1 from rfl) (by omega)); omega))
                      ·
                        try simp only [mIn_0, lgc_lt, lgc_gt, lgc_le, lgc_ge, lgc_eq] at c_343
                        try simp only [fl_lt, fl_le, fl_eq, fL_w, fL_lt, fL_le, tm1, tm10k, tm9, tm99, Int32.reduceToInt, Int64.reduceToInt, Int.not_lt, Int.not_le] at c_343
                        refine gz_goto (tgt := 387) dX12_comeTo_346 (by decide) ?_
                        refine gz_iinc (v := (i + 1)) (lv' := [(6, .int (i + 1)), (11, .int r_3), (10, .int 1), (4, .int wv), (9, .int pl), (8, .int dy), (7, .int wd), (5, .int x5), (0, .ref m), (1, .int x1), (2, .int x2), (3, .int x3)]) dX12_comeTo_387 rfl rfl (by decide) rfl ?_
                        refine gz_goto (tgt := 134) dX12_comeTo_390 (by decide) ?_
                        refine gz_sub (lv' := [(6, .int (i + 1)), (5, .int x5), (0, .ref m), (1, .int x1), (2, .int x2), (3, .int x3)]) (by simp [List.lookup]) ?_
                        have hxf : fx [70] [29] [69, 71] [28] n z F G n_4 z_4 F_4 G_4 := (fx_tr (fx_tr fx_rf hx1 (by decide)) hx4 (by decide))
                        have hRf : RI n_4 F_4 := RI_fx hR hxf (by decide) (by decide)
                        have e5f : n_4 5 = n 5 := hxf.1 5 (by decide)
                        have e53f : n_4 53 = n 53 := hxf.1 53 (by decide)
                        have hpf : ∀ q : Nat, (q : Int) ≤ x5.toInt → vW F_4 (n_4 5).toInt (F_4 68 q).toInt := fun q hq => by rw [e5f, hxf.2.2.1 68 (by decide)]; exact vW_cg (hxf.2.2.1 6 (by decide)) (hp q hq)
                        have h70f := h70_4
                        have hSTf : ∀ q : Nat, (q : Int) < (n_4 70).toInt → stE x5.toInt x2.toInt (n_4 53).toInt (F_4 71 q).toInt := fun q hq => by rw [e53f]; exact hST_4 q hq
                        exact ih (i + 1) _ _ _ _ _ hS_4 (fx_tr (fx_tr hx hx1 (by decide)) hx4 (by decide)) (hRf) (hpf) (h70f) (hSTf) ((by have q1_ := (T_add (rfl : (i).toInt = (i).toInt) (show (1 : Int32).toInt = 1 from rfl) (by omega)); omega))
          ·
            try simp only [mIn_0, lgc_lt, lgc_gt, lgc_le, lgc_ge, lgc_eq] at c_229
            try simp only [fl_lt, fl_le, fl_eq, fL_w, fL_lt, fL_le, tm1, tm10k, tm9, tm99, Int32.reduceToInt, Int64.reduceToInt, Int.not_lt, Int.not_le] at c_229
            refine gz_aload_n dX12_comeTo_232 rfl rfl ?_
            refine mg_20 hS_1 dX12_comeTo_233 ?_
            refine gz_iload dX12_comeTo_236 rfl ?_
            refine m_iald 7 hS_1 rfl (N := 880) rfl ((by exact vin_T (rfl : (wv).toInt = (wv).toInt) (by omega) (by omega))) dX12_comeTo_238 ?_
            refine gz_ev (w := .int ((F 7) (Int32.toNatClampNeg wv))) (congrArg Value.int (congrFun (hx1.2.2.1 7 (by decide)) _)) ?_
            refine gz_bipush (v := 7) dX12_comeTo_239 (by decide) ?_
            refine gz_icmp_ne (tgt := 248) dX12_comeTo_241 (by decide) (fun c_241 => ?_) (fun c_241 => ?_)
            ·
              try simp only [mIn_0, lgc_lt, lgc_gt, lgc_le, lgc_ge, lgc_eq] at c_241
              try simp only [fl_lt, fl_le, fl_eq, fL_w, fL_lt, fL_le, tm1, tm10k, tm9, tm99, Int32.reduceToInt, Int64.reduceToInt, Int.not_lt, Int.not_le] at c_241
              refine gz_iconst (v := 0) dX12_comeTo_248 (by decide) ?_
              refine gz_istore (lv' := [(10, .int 0), (4, .int wv), (9, .int pl), (8, .int dy), (7, .int wd), (6, .int i), (5, .int x5), (0, .ref m), (1, .int x1), (2, .int x2), (3, .int x3)]) dX12_comeTo_249 (by decide) rfl ?_
              refine gz_iload dX12_comeTo_251 rfl ?_
              refine gz_if_eq (tgt := 265) dX12_comeTo_253 (by decide) (fun c_253 => ?_) (fun c_253 => ?_)
              ·
                try simp only [mIn_0, lgc_lt, lgc_gt, lgc_le, lgc_ge, lgc_eq] at c_253
                try simp only [fl_lt, fl_le, fl_eq, fL_w, fL_lt, fL_le, tm1, tm10k, tm9, tm99, Int32.reduceToInt, Int64.reduceToInt, Int.not_lt, Int.not_le] at c_253
                refine gz_aload_n dX12_comeTo_265 rfl rfl ?_
                refine mg_20 hS_1 dX12_comeTo_266 ?_
                refine gz_iload dX12_comeTo_269 rfl ?_
                refine m_iald 7 hS_1 rfl (N := 880) rfl ((by exact vin_T (rfl : (wv).toInt = (wv).toInt) (by omega) (by omega))) dX12_comeTo_271 ?_
                refine gz_ev (w := .int ((F 7) (Int32.toNatClampNeg wv))) (congrArg Value.int (congrFun (hx1.2.2.1 7 (by decide)) _)) ?_
                refine gz_iconst (v := 5) dX12_comeTo_272 (by decide) ?_
                refine gz_icmp_ne (tgt := 294) dX12_comeTo_273 (by decide) (fun c_273 => ?_) (fun c_273 => ?_)
                ·
                  try simp only [mIn_0, lgc_lt, lgc_gt, lgc_le, lgc_ge, lgc_eq] at c_273
                  try simp only [fl_lt, fl_le, fl_eq, fL_w, fL_lt, fL_le, tm1, tm10k, tm9, tm99, Int32.reduceToInt, Int64.reduceToInt, Int.not_lt, Int.not_le] at c_273
                  refine gz_iconst (v := 1) dX12_comeTo_294 (by decide) ?_
                  refine gz_goto (tgt := 299) dX12_comeTo_295 (by decide) ?_
                  refine gz_istore (lv' := [(11, .int 1), (10, .int 0), (4, .int wv), (9, .int pl), (8, .int dy), (7, .int wd), (6, .int i), (5, .int x5), (0, .ref m), (1, .int x1), (2, .int x2), (3, .int x3)]) dX12_comeTo_299 (by decide) rfl ?_
                  refine gz_iload dX12_comeTo_301 rfl ?_
                  refine gz_if_eq (tgt := 318) dX12_comeTo_303 (by decide) (fun c_303 => ?_) (fun c_303 => ?_)
                  · exact absurd c_303 (by decide)
                  ·
                    try simp only [mIn_0, lgc_lt, lgc_gt, lgc_le, lgc_ge, lgc_eq] at c_303
                    try simp only [fl_lt, fl_le, fl_eq, fL_w, fL_lt, fL_le, tm1, tm10k, tm9, tm99, Int32.reduceToInt, Int64.reduceToInt, Int.not_lt, Int.not_le] at c_303
                    refine gz_aload_n dX12_comeTo_306 rfl rfl ?_
                    refine gz_iload dX12_comeTo_307 rfl ?_
                    refine gz_iconst (v := 1) dX12_comeTo_309 (by decide) ?_
                    refine gz_iadd dX12_comeTo_310 ?_
                    refine gz_iload dX12_comeTo_311 rfl ?_
                    refine gz_iload dX12_comeTo_313 rfl ?_
                    have qp1 : (pl + 1).toInt = pl.toInt + 1 := T_add rfl (show (1 : Int32).toInt = 1 from rfl) (by omega)
                    have hne : pl.toInt ≠ x5.toInt := by omega
                    refine scX12_492 (k_X12_reaches (x1 := (pl + 1)) (x2 := dy) (x3 := wd) (P := stE x5.toInt x2.toInt (n 53).toInt) hS_1 (by omega) (by omega) (by omega) (by rw [hxa.1 70 (by decide), hxa.2.2.1 69 (by decide)]; exact h70) (fun q hq => by rw [hxa.2.2.1 71 (by decide)]; exact hST q (by rw [hxa.1 70 (by decide)] at hq; exact hq)) (stE_mk (by omega) (by omega) q7b (by omega))) hS_1.1 ⟨(Nat.le_of_ble_eq_true rfl), (Nat.le_of_ble_eq_true rfl)⟩ ⟨(Nat.le_of_ble_eq_true rfl), (Nat.le_of_ble_eq_true rfl)⟩ rfl rfl (Nat.le_of_ble_eq_true rfl) dX12_comeTo_315 ?_
                    rintro f_5 ⟨n_5, z_5, F_5, G_5, hS_5, hx5, h70_5, hST_5, hm_5⟩
                    try simp only [(show n_1 70 = (n 70) from (hx1.1 70 (by decide)))] at h70_5 hST_5 hm_5
                    refine gz_iload dX12_comeTo_318 rfl ?_
                    refine gz_if_eq (tgt := 387) dX12_comeTo_320 (by decide) (fun c_320 => ?_) (fun c_320 => ?_)
                    ·
                      try simp only [mIn_0, lgc_lt, lgc_gt, lgc_le, lgc_ge, lgc_eq] at c_320
                      try simp only [fl_lt, fl_le, fl_eq, fL_w, fL_lt, fL_le, tm1, tm10k, tm9, tm99, Int32.reduceToInt, Int64.reduceToInt, Int.not_lt, Int.not_le] at c_320
                      refine gz_iinc (v := (i + 1)) (lv' := [(6, .int (i + 1)), (11, .int 1), (10, .int 0), (4, .int wv), (9, .int pl), (8, .int dy), (7, .int wd), (5, .int x5), (0, .ref m), (1, .int x1), (2, .int x2), (3, .int x3)]) dX12_comeTo_387 rfl rfl (by decide) rfl ?_
                      refine gz_goto (tgt := 134) dX12_comeTo_390 (by decide) ?_
                      refine gz_sub (lv' := [(6, .int (i + 1)), (5, .int x5), (0, .ref m), (1, .int x1), (2, .int x2), (3, .int x3)]) (by simp [List.lookup]) ?_
                      have hxf : fx [70] [29] [69, 71] [28] n z F G n_5 z_5 F_5 G_5 := (fx_tr (fx_tr fx_rf hx1 (by decide)) hx5 (by decide))
                      have hRf : RI n_5 F_5 := RI_fx hR hxf (by decide) (by decide)
                      have e5f : n_5 5 = n 5 := hxf.1 5 (by decide)
                      have e53f : n_5 53 = n 53 := hxf.1 53 (by decide)
                      have hpf : ∀ q : Nat, (q : Int) ≤ x5.toInt → vW F_5 (n_5 5).toInt (F_5 68 q).toInt := fun q hq => by rw [e5f, hxf.2.2.1 68 (by decide)]; exact vW_cg (hxf.2.2.1 6 (by decide)) (hp q hq)
                      have h70f := h70_5
                      have hSTf : ∀ q : Nat, (q : Int) < (n_5 70).toInt → stE x5.toInt x2.toInt (n_5 53).toInt (F_5 71 q).toInt := fun q hq => by rw [e53f]; exact hST_5 q hq
                      exact ih (i + 1) _ _ _ _ _ hS_5 (fx_tr (fx_tr hx hx1 (by decide)) hx5 (by decide)) (hRf) (hpf) (h70f) (hSTf) ((by have q1_ := (T_add (rfl : (i).toInt = (i).toInt) (show (1 : Int32).toInt = 1 from rfl) (by omega)); omega))
                    · exact absurd c_320 (by decide)
                ·
                  try simp only [mIn_0, lgc_lt, lgc_gt, lgc_le, lgc_ge, lgc_eq] at c_273
                  try simp only [fl_lt, fl_le, fl_eq, fL_w, fL_lt, fL_le, tm1, tm10k, tm9, tm99, Int32.reduceToInt, Int64.reduceToInt, Int.not_lt, Int.not_le] at c_273
                  refine gz_aload_n dX12_comeTo_276 rfl rfl ?_
                  refine gz_iload dX12_comeTo_277 rfl ?_
                  refine scX12_377 (k_X12_leadsTo (x1 := wv) hS_1 (by rw [e5]; exact a5) (rAll_w (fun k hk => hxa.2.2.1 k ((by decide : ∀ k : Nat, k ∈ wK → k ∉ ([] : List Nat)) k hk)) bA) (by rw [e5]; exact rW_w (fun k hk => hxa.2.2.1 k ((by decide : ∀ k : Nat, k ∈ wK → k ∉ ([] : List Nat)) k hk)) bW) (by rw [e5]; exact vW_cg (hxa.2.2.1 6 (by decide)) hv)) hS_1.1 ⟨(Nat.le_of_ble_eq_true rfl), (Nat.le_of_ble_eq_true rfl)⟩ ⟨(Nat.le_of_ble_eq_true rfl), (Nat.le_of_ble_eq_true rfl)⟩ rfl rfl (Nat.le_of_ble_eq_true rfl) dX12_comeTo_279 ?_
                  rintro r_6 f9 ⟨-, y9⟩; rw [y9]
                  refine gz_aload_n dX12_comeTo_282 rfl rfl ?_
                  refine mg_192 hS_1 dX12_comeTo_283 ?_
                  refine gz_iload dX12_comeTo_286 rfl ?_
                  refine gz_iconst (v := 1) dX12_comeTo_288 (by decide) ?_
                  refine gz_iadd dX12_comeTo_289 ?_
                  refine m_iald 68 hS_1 rfl (N := 13) rfl ((by have q9 := (T_add (rfl : (pl).toInt = (pl).toInt) (show (1 : Int32).toInt = 1 from rfl) (by omega)); exact vin_T q9 (by omega) (by omega))) dX12_comeTo_290 ?_
                  refine gz_ev (w := .int ((F 68) (Int32.toNatClampNeg (pl + 1)))) (congrArg Value.int (congrFun (hx1.2.2.1 68 (by decide)) _)) ?_
                  refine gz_icmp_ne (tgt := 298) dX12_comeTo_291 (by decide) (fun c_291 => ?_) (fun c_291 => ?_)
                  ·
                    try simp only [mIn_0, lgc_lt, lgc_gt, lgc_le, lgc_ge, lgc_eq] at c_291
                    try simp only [fl_lt, fl_le, fl_eq, fL_w, fL_lt, fL_le, tm1, tm10k, tm9, tm99, Int32.reduceToInt, Int64.reduceToInt, Int.not_lt, Int.not_le] at c_291
                    refine gz_iconst (v := 0) dX12_comeTo_298 (by decide) ?_
                    refine gz_istore (lv' := [(11, .int 0), (10, .int 0), (4, .int wv), (9, .int pl), (8, .int dy), (7, .int wd), (6, .int i), (5, .int x5), (0, .ref m), (1, .int x1), (2, .int x2), (3, .int x3)]) dX12_comeTo_299 (by decide) rfl ?_
                    refine gz_iload dX12_comeTo_301 rfl ?_
                    refine gz_if_eq (tgt := 318) dX12_comeTo_303 (by decide) (fun c_303 => ?_) (fun c_303 => ?_)
                    ·
                      try simp only [mIn_0, lgc_lt, lgc_gt, lgc_le, lgc_ge, lgc_eq] at c_303
                      try simp only [fl_lt, fl_le, fl_eq, fL_w, fL_lt, fL_le, tm1, tm10k, tm9, tm99, Int32.reduceToInt, Int64.reduceToInt, Int.not_lt, Int.not_le] at c_303
                      refine gz_iload dX12_comeTo_318 rfl ?_
                      refine gz_if_eq (tgt := 387) dX12_comeTo_320 (by decide) (fun c_320 => ?_) (fun c_320 => ?_)
                      ·
                        try simp only [mIn_0, lgc_lt, lgc_gt, lgc_le, lgc_ge, lgc_eq] at c_320
                        try simp only [fl_lt, fl_le, fl_eq, fL_w, fL_lt, fL_le, tm1, tm10k, tm9, tm99, Int32.reduceToInt, Int64.reduceToInt, Int.not_lt, Int.not_le] at c_320
                        refine gz_iinc (v := (i + 1)) (lv' := [(6, .int (i + 1)), (11, .int 0), (10, .int 0), (4, .int wv), (9, .int pl), (8, .int dy), (7, .int wd), (5, .int x5), (0, .ref m), (1, .int x1), (2, .int x2), (3, .int x3)]) dX12_comeTo_387 rfl rfl (by decide) rfl ?_
                        refine gz_goto (tgt := 134) dX12_comeTo_390 (by decide) ?_
                        refine gz_sub (lv' := [(6, .int (i + 1)), (5, .int x5), (0, .ref m), (1, .int x1), (2, .int x2), (3, .int x3)]) (by simp [List.lookup]) ?_
                        have hxf : fx [70] [29] [69, 71] [28] n z F G n_1 z_1 F_1 G_1 := (fx_tr fx_rf hx1 (by decide))
                        have hRf : RI n_1 F_1 := RI_fx hR hxf (by decide) (by decide)
                        have e5f : n_1 5 = n 5 := hxf.1 5 (by decide)
                        have e53f : n_1 53 = n 53 := hxf.1 53 (by decide)
                        have hpf : ∀ q : Nat, (q : Int) ≤ x5.toInt → vW F_1 (n_1 5).toInt (F_1 68 q).toInt := fun q hq => by rw [e5f, hxf.2.2.1 68 (by decide)]; exact vW_cg (hxf.2.2.1 6 (by decide)) (hp q hq)
                        have h70f : ((n_1 70).toInt : Int) = cnt (F_1 69) 5265 := by rw [hxa.1 70 (by decide), hxa.2.2.1 69 (by decide)]; exact h70
                        have hSTf : ∀ q : Nat, (q : Int) < (n_1 70).toInt → stE x5.toInt x2.toInt (n_1 53).toInt (F_1 71 q).toInt := fun q hq => by rw [e53f, hxa.2.2.1 71 (by decide)]; exact hST q (by rw [hxa.1 70 (by decide)] at hq; exact hq)
                        exact ih (i + 1) _ _ _ _ _ hS_1 (fx_tr hx hx1 (by decide)) (hRf) (hpf) (h70f) (hSTf) ((by have q1_ := (T_add (rfl : (i).toInt = (i).toInt) (show (1 : Int32).toInt = 1 from rfl) (by omega)); omega))
                      · exact absurd c_320 (by decide)
                    · exact absurd c_303 (by decide)
                  ·
                    try simp only [mIn_0, lgc_lt, lgc_gt, lgc_le, lgc_ge, lgc_eq] at c_291
                    try simp only [fl_lt, fl_le, fl_eq, fL_w, fL_lt, fL_le, tm1, tm10k, tm9, tm99, Int32.reduceToInt, Int64.reduceToInt, Int.not_lt, Int.not_le] at c_291
                    refine gz_iconst (v := 1) dX12_comeTo_294 (by decide) ?_
                    refine gz_goto (tgt := 299) dX12_comeTo_295 (by decide) ?_
                    refine gz_istore (lv' := [(11, .int 1), (10, .int 0), (4, .int wv), (9, .int pl), (8, .int dy), (7, .int wd), (6, .int i), (5, .int x5), (0, .ref m), (1, .int x1), (2, .int x2), (3, .int x3)]) dX12_comeTo_299 (by decide) rfl ?_
                    refine gz_iload dX12_comeTo_301 rfl ?_
                    refine gz_if_eq (tgt := 318) dX12_comeTo_303 (by decide) (fun c_303 => ?_) (fun c_303 => ?_)
                    · exact absurd c_303 (by decide)
                    ·
                      try simp only [mIn_0, lgc_lt, lgc_gt, lgc_le, lgc_ge, lgc_eq] at c_303
                      try simp only [fl_lt, fl_le, fl_eq, fL_w, fL_lt, fL_le, tm1, tm10k, tm9, tm99, Int32.reduceToInt, Int64.reduceToInt, Int.not_lt, Int.not_le] at c_303
                      refine gz_aload_n dX12_comeTo_306 rfl rfl ?_
                      refine gz_iload dX12_comeTo_307 rfl ?_
                      refine gz_iconst (v := 1) dX12_comeTo_309 (by decide) ?_
                      refine gz_iadd dX12_comeTo_310 ?_
                      refine gz_iload dX12_comeTo_311 rfl ?_
                      refine gz_iload dX12_comeTo_313 rfl ?_
                      have qp1 : (pl + 1).toInt = pl.toInt + 1 := T_add rfl (show (1 : Int32).toInt = 1 from rfl) (by omega)
                      have hne : pl.toInt ≠ x5.toInt := by omega
                      refine scX12_492 (k_X12_reaches (x1 := (pl + 1)) (x2 := dy) (x3 := wd) (P := stE x5.toInt x2.toInt (n 53).toInt) hS_1 (by omega) (by omega) (by omega) (by rw [hxa.1 70 (by decide), hxa.2.2.1 69 (by decide)]; exact h70) (fun q hq => by rw [hxa.2.2.1 71 (by decide)]; exact hST q (by rw [hxa.1 70 (by decide)] at hq; exact hq)) (stE_mk (by omega) (by omega) q7b (by omega))) hS_1.1 ⟨(Nat.le_of_ble_eq_true rfl), (Nat.le_of_ble_eq_true rfl)⟩ ⟨(Nat.le_of_ble_eq_true rfl), (Nat.le_of_ble_eq_true rfl)⟩ rfl rfl (Nat.le_of_ble_eq_true rfl) dX12_comeTo_315 ?_
                      rintro f_7 ⟨n_7, z_7, F_7, G_7, hS_7, hx7, h70_7, hST_7, hm_7⟩
                      try simp only [(show n_1 70 = (n 70) from (hx1.1 70 (by decide)))] at h70_7 hST_7 hm_7
                      refine gz_iload dX12_comeTo_318 rfl ?_
                      refine gz_if_eq (tgt := 387) dX12_comeTo_320 (by decide) (fun c_320 => ?_) (fun c_320 => ?_)
                      ·
                        try simp only [mIn_0, lgc_lt, lgc_gt, lgc_le, lgc_ge, lgc_eq] at c_320
                        try simp only [fl_lt, fl_le, fl_eq, fL_w, fL_lt, fL_le, tm1, tm10k, tm9, tm99, Int32.reduceToInt, Int64.reduceToInt, Int.not_lt, Int.not_le] at c_320
                        refine gz_iinc (v := (i + 1)) (lv' := [(6, .int (i + 1)), (11, .int 1), (10, .int 0), (4, .int wv), (9, .int pl), (8, .int dy), (7, .int wd), (5, .int x5), (0, .ref m), (1, .int x1), (2, .int x2), (3, .int x3)]) dX12_comeTo_387 rfl rfl (by decide) rfl ?_
                        refine gz_goto (tgt := 134) dX12_comeTo_390 (by decide) ?_
                        refine gz_sub (lv' := [(6, .int (i + 1)), (5, .int x5), (0, .ref m), (1, .int x1), (2, .int x2), (3, .int x3)]) (by simp [List.lookup]) ?_
                        have hxf : fx [70] [29] [69, 71] [28] n z F G n_7 z_7 F_7 G_7 := (fx_tr (fx_tr fx_rf hx1 (by decide)) hx7 (by decide))
                        have hRf : RI n_7 F_7 := RI_fx hR hxf (by decide) (by decide)
                        have e5f : n_7 5 = n 5 := hxf.1 5 (by decide)
                        have e53f : n_7 53 = n 53 := hxf.1 53 (by decide)
                        have hpf : ∀ q : Nat, (q : Int) ≤ x5.toInt → vW F_7 (n_7 5).toInt (F_7 68 q).toInt := fun q hq => by rw [e5f, hxf.2.2.1 68 (by decide)]; exact vW_cg (hxf.2.2.1 6 (by decide)) (hp q hq)
                        have h70f := h70_7
                        have hSTf : ∀ q : Nat, (q : Int) < (n_7 70).toInt → stE x5.toInt x2.toInt (n_7 53).toInt (F_7 71 q).toInt := fun q hq => by rw [e53f]; exact hST_7 q hq
                        exact ih (i + 1) _ _ _ _ _ hS_7 (fx_tr (fx_tr hx hx1 (by decide)) hx7 (by decide)) (hRf) (hpf) (h70f) (hSTf) ((by have q1_ := (T_add (rfl : (i).toInt = (i).toInt) (show (1 : Int32).toInt = 1 from rfl) (by omega)); omega))
                      · exact absurd c_320 (by decide)
              · exact absurd c_253 (by decide)
            ·
              try simp only [mIn_0, lgc_lt, lgc_gt, lgc_le, lgc_ge, lgc_eq] at c_241
              try simp only [fl_lt, fl_le, fl_eq, fL_w, fL_lt, fL_le, tm1, tm10k, tm9, tm99, Int32.reduceToInt, Int64.reduceToInt, Int.not_lt, Int.not_le] at c_241
              refine gz_iconst (v := 1) dX12_comeTo_244 (by decide) ?_
              refine gz_goto (tgt := 249) dX12_comeTo_245 (by decide) ?_
              refine gz_istore (lv' := [(10, .int 1), (4, .int wv), (9, .int pl), (8, .int dy), (7, .int wd), (6, .int i), (5, .int x5), (0, .ref m), (1, .int x1), (2, .int x2), (3, .int x3)]) dX12_comeTo_249 (by decide) rfl ?_
              refine gz_iload dX12_comeTo_251 rfl ?_
              refine gz_if_eq (tgt := 265) dX12_comeTo_253 (by decide) (fun c_253 => ?_) (fun c_253 => ?_)
              · exact absurd c_253 (by decide)
              ·
                try simp only [mIn_0, lgc_lt, lgc_gt, lgc_le, lgc_ge, lgc_eq] at c_253
                try simp only [fl_lt, fl_le, fl_eq, fL_w, fL_lt, fL_le, tm1, tm10k, tm9, tm99, Int32.reduceToInt, Int64.reduceToInt, Int.not_lt, Int.not_le] at c_253
                refine gz_aload_n dX12_comeTo_256 rfl rfl ?_
                refine gz_iload dX12_comeTo_257 rfl ?_
                refine scX12_348 (k_X12_holds (x1 := wv) hS_1 (rAll_w (fun k hk => hxa.2.2.1 k ((by decide : ∀ k : Nat, k ∈ wK → k ∉ ([] : List Nat)) k hk)) bA) (by omega)) hS_1.1 ⟨(Nat.le_of_ble_eq_true rfl), (Nat.le_of_ble_eq_true rfl)⟩ ⟨(Nat.le_of_ble_eq_true rfl), (Nat.le_of_ble_eq_true rfl)⟩ rfl rfl (Nat.le_of_ble_eq_true rfl) dX12_comeTo_259 ?_
                rintro r_8 f9 ⟨hb_8, y9⟩; rw [y9]
                refine gz_goto (tgt := 299) dX12_comeTo_262 (by decide) ?_
                refine gz_istore (lv' := [(11, .int r_8), (10, .int 1), (4, .int wv), (9, .int pl), (8, .int dy), (7, .int wd), (6, .int i), (5, .int x5), (0, .ref m), (1, .int x1), (2, .int x2), (3, .int x3)]) dX12_comeTo_299 (by decide) rfl ?_
                refine gz_iload dX12_comeTo_301 rfl ?_
                refine gz_if_eq (tgt := 318) dX12_comeTo_303 (by decide) (fun c_303 => ?_) (fun c_303 => ?_)
                ·
                  try simp only [mIn_0, lgc_lt, lgc_gt, lgc_le, lgc_ge, lgc_eq] at c_303
                  try simp only [fl_lt, fl_le, fl_eq, fL_w, fL_lt, fL_le, tm1, tm10k, tm9, tm99, Int32.reduceToInt, Int64.reduceToInt, Int.not_lt, Int.not_le] at c_303
                  refine gz_iload dX12_comeTo_318 rfl ?_
                  refine gz_if_eq (tgt := 387) dX12_comeTo_320 (by decide) (fun c_320 => ?_) (fun c_320 => ?_)
                  · exact absurd c_320 (by decide)
                  ·
                    try simp only [mIn_0, lgc_lt, lgc_gt, lgc_le, lgc_ge, lgc_eq] at c_320
                    try simp only [fl_lt, fl_le, fl_eq, fL_w, fL_lt, fL_le, tm1, tm10k, tm9, tm99, Int32.reduceToInt, Int64.reduceToInt, Int.not_lt, Int.not_le] at c_320
                    refine gz_iload dX12_comeTo_323 rfl ?_
                    refine gz_iload_n dX12_comeTo_325 rfl rfl ?_
                    refine gz_icmp_eq (tgt := 387) dX12_comeTo_326 (by decide) (fun c_326 => ?_) (fun c_326 => ?_)
                    ·
                      try simp only [mIn_0, lgc_lt, lgc_gt, lgc_le, lgc_ge, lgc_eq] at c_326
                      try simp only [fl_lt, fl_le, fl_eq, fL_w, fL_lt, fL_le, tm1, tm10k, tm9, tm99, Int32.reduceToInt, Int64.reduceToInt, Int.not_lt, Int.not_le] at c_326
                      refine gz_iinc (v := (i + 1)) (lv' := [(6, .int (i + 1)), (11, .int r_8), (10, .int 1), (4, .int wv), (9, .int pl), (8, .int dy), (7, .int wd), (5, .int x5), (0, .ref m), (1, .int x1), (2, .int x2), (3, .int x3)]) dX12_comeTo_387 rfl rfl (by decide) rfl ?_
                      refine gz_goto (tgt := 134) dX12_comeTo_390 (by decide) ?_
                      refine gz_sub (lv' := [(6, .int (i + 1)), (5, .int x5), (0, .ref m), (1, .int x1), (2, .int x2), (3, .int x3)]) (by simp [List.lookup]) ?_
                      have hxf : fx [70] [29] [69, 71] [28] n z F G n_1 z_1 F_1 G_1 := (fx_tr fx_rf hx1 (by decide))
                      have hRf : RI n_1 F_1 := RI_fx hR hxf (by decide) (by decide)
                      have e5f : n_1 5 = n 5 := hxf.1 5 (by decide)
                      have e53f : n_1 53 = n 53 := hxf.1 53 (by decide)
                      have hpf : ∀ q : Nat, (q : Int) ≤ x5.toInt → vW F_1 (n_1 5).toInt (F_1 68 q).toInt := fun q hq => by rw [e5f, hxf.2.2.1 68 (by decide)]; exact vW_cg (hxf.2.2.1 6 (by decide)) (hp q hq)
                      have h70f : ((n_1 70).toInt : Int) = cnt (F_1 69) 5265 := by rw [hxa.1 70 (by decide), hxa.2.2.1 69 (by decide)]; exact h70
                      have hSTf : ∀ q : Nat, (q : Int) < (n_1 70).toInt → stE x5.toInt x2.toInt (n_1 53).toInt (F_1 71 q).toInt := fun q hq => by rw [e53f, hxa.2.2.1 71 (by decide)]; exact hST q (by rw [hxa.1 70 (by decide)] at hq; exact hq)
                      exact ih (i + 1) _ _ _ _ _ hS_1 (fx_tr hx hx1 (by decide)) (hRf) (hpf) (h70f) (hSTf) ((by have q1_ := (T_add (rfl : (i).toInt = (i).toInt) (show (1 : Int32).toInt = 1 from rfl) (by omega)); omega))
                    ·
                      try simp only [mIn_0, lgc_lt, lgc_gt, lgc_le, lgc_ge, lgc_eq] at c_326
                      try simp only [fl_lt, fl_le, fl_eq, fL_w, fL_lt, fL_le, tm1, tm10k, tm9, tm99, Int32.reduceToInt, Int64.reduceToInt, Int.not_lt, Int.not_le] at c_326
                      refine gz_iload dX12_comeTo_329 rfl ?_
                      refine gz_if_eq (tgt := 349) dX12_comeTo_331 (by decide) (fun c_331 => ?_) (fun c_331 => ?_)
                      ·
                        try simp only [mIn_0, lgc_lt, lgc_gt, lgc_le, lgc_ge, lgc_eq] at c_331
                        try simp only [fl_lt, fl_le, fl_eq, fL_w, fL_lt, fL_le, tm1, tm10k, tm9, tm99, Int32.reduceToInt, Int64.reduceToInt, Int.not_lt, Int.not_le] at c_331
                        refine gz_iconst (v := 0) dX12_comeTo_349 (by decide) ?_
                        refine gz_istore (lv' := [(12, .int 0), (11, .int r_8), (10, .int 1), (4, .int wv), (9, .int pl), (8, .int dy), (7, .int wd), (6, .int i), (5, .int x5), (0, .ref m), (1, .int x1), (2, .int x2), (3, .int x3)]) dX12_comeTo_350 (by decide) rfl ?_
                        have hi3 : i.toInt < 5265 := by omega
                        have hxf : fx [70] [29] [69, 71] [28] n z F G n_1 z_1 F_1 G_1 := (fx_tr fx_rf hx1 (by decide))
                        have hRf : RI n_1 F_1 := RI_fx hR hxf (by decide) (by decide)
                        have e5f : n_1 5 = n 5 := hxf.1 5 (by decide)
                        have e53f : n_1 53 = n 53 := hxf.1 53 (by decide)
                        have hpf : ∀ q : Nat, (q : Int) ≤ x5.toInt → vW F_1 (n_1 5).toInt (F_1 68 q).toInt := fun q hq => by rw [e5f, hxf.2.2.1 68 (by decide)]; exact vW_cg (hxf.2.2.1 6 (by decide)) (hp q hq)
                        have h70f : ((n_1 70).toInt : Int) = cnt (F_1 69) 5265 := by rw [hxa.1 70 (by decide), hxa.2.2.1 69 (by decide)]; exact h70
                        have hSTf : ∀ q : Nat, (q : Int) < (n_1 70).toInt → stE x5.toInt x2.toInt (n_1 53).toInt (F_1 71 q).toInt := fun q hq => by rw [e53f, hxa.2.2.1 71 (by decide)]; exact hST q (by rw [hxa.1 70 (by decide)] at hq; exact hq)
                        refine gz_sub (lv' := [(12, .int 0), (7, .int wd), (8, .int dy), (9, .int pl), (6, .int i), (5, .int x5), (0, .ref m), (1, .int x1), (2, .int x2), (3, .int x3)]) (by simp [List.lookup]) ?_
                        refine l_X12_comeTo3 (i := i) h5 h2 (by omega) q9b q7c ?_ 4 0 _ _ _ _ _ hS_1 (fx_tr hx hx1 (by decide)) hRf hpf h70f hSTf (by rw [e53f]; have e0 : (0 : Int32).toInt = 0 := rfl; omega) (by rw [e53f]; exact q7b) (by decide)
                        clear hR hp h70 hST
                        intro n z F G fm hS hx hR hp h70 hST
                        have hi := hi
                        refine gz_iinc (v := (i + 1)) (lv' := [(6, .int (i + 1)), (5, .int x5), (0, .ref m), (1, .int x1), (2, .int x2), (3, .int x3)]) dX12_comeTo_387 rfl rfl (by decide) rfl ?_
                        refine gz_goto (tgt := 134) dX12_comeTo_390 (by decide) ?_
                        refine gz_sub (lv' := [(6, .int (i + 1)), (5, .int x5), (0, .ref m), (1, .int x1), (2, .int x2), (3, .int x3)]) (by simp [List.lookup]) ?_
                        exact ih (i + 1) _ _ _ _ _ hS hx (hR) (hp) (h70) (hST) ((by have q1_ := (T_add (rfl : (i).toInt = (i).toInt) (show (1 : Int32).toInt = 1 from rfl) (by omega)); omega))
                      ·
                        try simp only [mIn_0, lgc_lt, lgc_gt, lgc_le, lgc_ge, lgc_eq] at c_331
                        try simp only [fl_lt, fl_le, fl_eq, fL_w, fL_lt, fL_le, tm1, tm10k, tm9, tm99, Int32.reduceToInt, Int64.reduceToInt, Int.not_lt, Int.not_le] at c_331
                        refine gz_aload_n dX12_comeTo_334 rfl rfl ?_
                        refine mg_20 hS_1 dX12_comeTo_335 ?_
                        refine gz_iload dX12_comeTo_338 rfl ?_
                        refine m_iald 7 hS_1 rfl (N := 880) rfl ((by exact vin_T (rfl : (wv).toInt = (wv).toInt) (by omega) (by omega))) dX12_comeTo_340 ?_
                        refine gz_ev (w := .int ((F 7) (Int32.toNatClampNeg wv))) (congrArg Value.int (congrFun (hx1.2.2.1 7 (by decide)) _)) ?_
                        refine gz_bipush (v := 6) dX12_comeTo_341 (by decide) ?_
                        refine gz_icmp_ne (tgt := 349) dX12_comeTo_343 (by decide) (fun c_343 => ?_) (fun c_343 => ?_)
                        ·
                          try simp only [mIn_0, lgc_lt, lgc_gt, lgc_le, lgc_ge, lgc_eq] at c_343
                          try simp only [fl_lt, fl_le, fl_eq, fL_w, fL_lt, fL_le, tm1, tm10k, tm9, tm99, Int32.reduceToInt, Int64.reduceToInt, Int.not_lt, Int.not_le] at c_343
                          refine gz_iconst (v := 0) dX12_comeTo_349 (by decide) ?_
                          refine gz_istore (lv' := [(12, .int 0), (11, .int r_8), (10, .int 1), (4, .int wv), (9, .int pl), (8, .int dy), (7, .int wd), (6, .int i), (5, .int x5), (0, .ref m), (1, .int x1), (2, .int x2), (3, .int x3)]) dX12_comeTo_350 (by decide) rfl ?_
                          have hi3 : i.toInt < 5265 := by omega
                          have hxf : fx [70] [29] [69, 71] [28] n z F G n_1 z_1 F_1 G_1 := (fx_tr fx_rf hx1 (by decide))
                          have hRf : RI n_1 F_1 := RI_fx hR hxf (by decide) (by decide)
                          have e5f : n_1 5 = n 5 := hxf.1 5 (by decide)
                          have e53f : n_1 53 = n 53 := hxf.1 53 (by decide)
                          have hpf : ∀ q : Nat, (q : Int) ≤ x5.toInt → vW F_1 (n_1 5).toInt (F_1 68 q).toInt := fun q hq => by rw [e5f, hxf.2.2.1 68 (by decide)]; exact vW_cg (hxf.2.2.1 6 (by decide)) (hp q hq)
                          have h70f : ((n_1 70).toInt : Int) = cnt (F_1 69) 5265 := by rw [hxa.1 70 (by decide), hxa.2.2.1 69 (by decide)]; exact h70
                          have hSTf : ∀ q : Nat, (q : Int) < (n_1 70).toInt → stE x5.toInt x2.toInt (n_1 53).toInt (F_1 71 q).toInt := fun q hq => by rw [e53f, hxa.2.2.1 71 (by decide)]; exact hST q (by rw [hxa.1 70 (by decide)] at hq; exact hq)
                          refine gz_sub (lv' := [(12, .int 0), (7, .int wd), (8, .int dy), (9, .int pl), (6, .int i), (5, .int x5), (0, .ref m), (1, .int x1), (2, .int x2), (3, .int x3)]) (by simp [List.lookup]) ?_
                          refine l_X12_comeTo3 (i := i) h5 h2 (by omega) q9b q7c ?_ 4 0 _ _ _ _ _ hS_1 (fx_tr hx hx1 (by decide)) hRf hpf h70f hSTf (by rw [e53f]; have e0 : (0 : Int32).toInt = 0 := rfl; omega) (by rw [e53f]; exact q7b) (by decide)
                          clear hR hp h70 hST
                          intro n z F G fm hS hx hR hp h70 hST
                          have hi := hi
                          refine gz_iinc (v := (i + 1)) (lv' := [(6, .int (i + 1)), (5, .int x5), (0, .ref m), (1, .int x1), (2, .int x2), (3, .int x3)]) dX12_comeTo_387 rfl rfl (by decide) rfl ?_
                          refine gz_goto (tgt := 134) dX12_comeTo_390 (by decide) ?_
                          refine gz_sub (lv' := [(6, .int (i + 1)), (5, .int x5), (0, .ref m), (1, .int x1), (2, .int x2), (3, .int x3)]) (by simp [List.lookup]) ?_
                          exact ih (i + 1) _ _ _ _ _ hS hx (hR) (hp) (h70) (hST) ((by have q1_ := (T_add (rfl : (i).toInt = (i).toInt) (show (1 : Int32).toInt = 1 from rfl) (by omega)); omega))
                        ·
                          try simp only [mIn_0, lgc_lt, lgc_gt, lgc_le, lgc_ge, lgc_eq] at c_343
                          try simp only [fl_lt, fl_le, fl_eq, fL_w, fL_lt, fL_le, tm1, tm10k, tm9, tm99, Int32.reduceToInt, Int64.reduceToInt, Int.not_lt, Int.not_le] at c_343
                          refine gz_goto (tgt := 387) dX12_comeTo_346 (by decide) ?_
                          refine gz_iinc (v := (i + 1)) (lv' := [(6, .int (i + 1)), (11, .int r_8), (10, .int 1), (4, .int wv), (9, .int pl), (8, .int dy), (7, .int wd), (5, .int x5), (0, .ref m), (1, .int x1), (2, .int x2), (3, .int x3)]) dX12_comeTo_387 rfl rfl (by decide) rfl ?_
                          refine gz_goto (tgt := 134) dX12_comeTo_390 (by decide) ?_
                          refine gz_sub (lv' := [(6, .int (i + 1)), (5, .int x5), (0, .ref m), (1, .int x1), (2, .int x2), (3, .int x3)]) (by simp [List.lookup]) ?_
                          have hxf : fx [70] [29] [69, 71] [28] n z F G n_1 z_1 F_1 G_1 := (fx_tr fx_rf hx1 (by decide))
                          have hRf : RI n_1 F_1 := RI_fx hR hxf (by decide) (by decide)
                          have e5f : n_1 5 = n 5 := hxf.1 5 (by decide)
                          have e53f : n_1 53 = n 53 := hxf.1 53 (by decide)
                          have hpf : ∀ q : Nat, (q : Int) ≤ x5.toInt → vW F_1 (n_1 5).toInt (F_1 68 q).toInt := fun q hq => by rw [e5f, hxf.2.2.1 68 (by decide)]; exact vW_cg (hxf.2.2.1 6 (by decide)) (hp q hq)
                          have h70f : ((n_1 70).toInt : Int) = cnt (F_1 69) 5265 := by rw [hxa.1 70 (by decide), hxa.2.2.1 69 (by decide)]; exact h70
                          have hSTf : ∀ q : Nat, (q : Int) < (n_1 70).toInt → stE x5.toInt x2.toInt (n_1 53).toInt (F_1 71 q).toInt := fun q hq => by rw [e53f, hxa.2.2.1 71 (by decide)]; exact hST q (by rw [hxa.1 70 (by decide)] at hq; exact hq)
                          exact ih (i + 1) _ _ _ _ _ hS_1 (fx_tr hx hx1 (by decide)) (hRf) (hpf) (h70f) (hSTf) ((by have q1_ := (T_add (rfl : (i).toInt = (i).toInt) (show (1 : Int32).toInt = 1 from rfl) (by omega)); omega))
                ·
                  try simp only [mIn_0, lgc_lt, lgc_gt, lgc_le, lgc_ge, lgc_eq] at c_303
                  try simp only [fl_lt, fl_le, fl_eq, fL_w, fL_lt, fL_le, tm1, tm10k, tm9, tm99, Int32.reduceToInt, Int64.reduceToInt, Int.not_lt, Int.not_le] at c_303
                  refine gz_aload_n dX12_comeTo_306 rfl rfl ?_
                  refine gz_iload dX12_comeTo_307 rfl ?_
                  refine gz_iconst (v := 1) dX12_comeTo_309 (by decide) ?_
                  refine gz_iadd dX12_comeTo_310 ?_
                  refine gz_iload dX12_comeTo_311 rfl ?_
                  refine gz_iload dX12_comeTo_313 rfl ?_
                  have qp1 : (pl + 1).toInt = pl.toInt + 1 := T_add rfl (show (1 : Int32).toInt = 1 from rfl) (by omega)
                  have hne : pl.toInt ≠ x5.toInt := by omega
                  refine scX12_492 (k_X12_reaches (x1 := (pl + 1)) (x2 := dy) (x3 := wd) (P := stE x5.toInt x2.toInt (n 53).toInt) hS_1 (by omega) (by omega) (by omega) (by rw [hxa.1 70 (by decide), hxa.2.2.1 69 (by decide)]; exact h70) (fun q hq => by rw [hxa.2.2.1 71 (by decide)]; exact hST q (by rw [hxa.1 70 (by decide)] at hq; exact hq)) (stE_mk (by omega) (by omega) q7b (by omega))) hS_1.1 ⟨(Nat.le_of_ble_eq_true rfl), (Nat.le_of_ble_eq_true rfl)⟩ ⟨(Nat.le_of_ble_eq_true rfl), (Nat.le_of_ble_eq_true rfl)⟩ rfl rfl (Nat.le_of_ble_eq_true rfl) dX12_comeTo_315 ?_
                  rintro f_9 ⟨n_9, z_9, F_9, G_9, hS_9, hx9, h70_9, hST_9, hm_9⟩
                  try simp only [(show n_1 70 = (n 70) from (hx1.1 70 (by decide)))] at h70_9 hST_9 hm_9
                  refine gz_iload dX12_comeTo_318 rfl ?_
                  refine gz_if_eq (tgt := 387) dX12_comeTo_320 (by decide) (fun c_320 => ?_) (fun c_320 => ?_)
                  · exact absurd c_320 (by decide)
                  ·
                    try simp only [mIn_0, lgc_lt, lgc_gt, lgc_le, lgc_ge, lgc_eq] at c_320
                    try simp only [fl_lt, fl_le, fl_eq, fL_w, fL_lt, fL_le, tm1, tm10k, tm9, tm99, Int32.reduceToInt, Int64.reduceToInt, Int.not_lt, Int.not_le] at c_320
                    refine gz_iload dX12_comeTo_323 rfl ?_
                    refine gz_iload_n dX12_comeTo_325 rfl rfl ?_
                    refine gz_icmp_eq (tgt := 387) dX12_comeTo_326 (by decide) (fun c_326 => ?_) (fun c_326 => ?_)
                    ·
                      try simp only [mIn_0, lgc_lt, lgc_gt, lgc_le, lgc_ge, lgc_eq] at c_326
                      try simp only [fl_lt, fl_le, fl_eq, fL_w, fL_lt, fL_le, tm1, tm10k, tm9, tm99, Int32.reduceToInt, Int64.reduceToInt, Int.not_lt, Int.not_le] at c_326
                      refine gz_iinc (v := (i + 1)) (lv' := [(6, .int (i + 1)), (11, .int r_8), (10, .int 1), (4, .int wv), (9, .int pl), (8, .int dy), (7, .int wd), (5, .int x5), (0, .ref m), (1, .int x1), (2, .int x2), (3, .int x3)]) dX12_comeTo_387 rfl rfl (by decide) rfl ?_
                      refine gz_goto (tgt := 134) dX12_comeTo_390 (by decide) ?_
                      refine gz_sub (lv' := [(6, .int (i + 1)), (5, .int x5), (0, .ref m), (1, .int x1), (2, .int x2), (3, .int x3)]) (by simp [List.lookup]) ?_
                      have hxf : fx [70] [29] [69, 71] [28] n z F G n_9 z_9 F_9 G_9 := (fx_tr (fx_tr fx_rf hx1 (by decide)) hx9 (by decide))
                      have hRf : RI n_9 F_9 := RI_fx hR hxf (by decide) (by decide)
                      have e5f : n_9 5 = n 5 := hxf.1 5 (by decide)
                      have e53f : n_9 53 = n 53 := hxf.1 53 (by decide)
                      have hpf : ∀ q : Nat, (q : Int) ≤ x5.toInt → vW F_9 (n_9 5).toInt (F_9 68 q).toInt := fun q hq => by rw [e5f, hxf.2.2.1 68 (by decide)]; exact vW_cg (hxf.2.2.1 6 (by decide)) (hp q hq)
                      have h70f := h70_9
                      have hSTf : ∀ q : Nat, (q : Int) < (n_9 70).toInt → stE x5.toInt x2.toInt (n_9 53).toInt (F_9 71 q).toInt := fun q hq => by rw [e53f]; exact hST_9 q hq
                      exact ih (i + 1) _ _ _ _ _ hS_9 (fx_tr (fx_tr hx hx1 (by decide)) hx9 (by decide)) (hRf) (hpf) (h70f) (hSTf) ((by have q1_ := (T_add (rfl : (i).toInt = (i).toInt) (show (1 : Int32).toInt = 1 from rfl) (by omega)); omega))
                    ·
                      try simp only [mIn_0, lgc_lt, lgc_gt, lgc_le, lgc_ge, lgc_eq] at c_326
                      try simp only [fl_lt, fl_le, fl_eq, fL_w, fL_lt, fL_le, tm1, tm10k, tm9, tm99, Int32.reduceToInt, Int64.reduceToInt, Int.not_lt, Int.not_le] at c_326
                      refine gz_iload dX12_comeTo_329 rfl ?_
                      refine gz_if_eq (tgt := 349) dX12_comeTo_331 (by decide) (fun c_331 => ?_) (fun c_331 => ?_)
                      ·
                        try simp only [mIn_0, lgc_lt, lgc_gt, lgc_le, lgc_ge, lgc_eq] at c_331
                        try simp only [fl_lt, fl_le, fl_eq, fL_w, fL_lt, fL_le, tm1, tm10k, tm9, tm99, Int32.reduceToInt, Int64.reduceToInt, Int.not_lt, Int.not_le] at c_331
                        refine gz_iconst (v := 0) dX12_comeTo_349 (by decide) ?_
                        refine gz_istore (lv' := [(12, .int 0), (11, .int r_8), (10, .int 1), (4, .int wv), (9, .int pl), (8, .int dy), (7, .int wd), (6, .int i), (5, .int x5), (0, .ref m), (1, .int x1), (2, .int x2), (3, .int x3)]) dX12_comeTo_350 (by decide) rfl ?_
                        have hi3 : i.toInt < 5265 := by omega
                        have hxf : fx [70] [29] [69, 71] [28] n z F G n_9 z_9 F_9 G_9 := (fx_tr (fx_tr fx_rf hx1 (by decide)) hx9 (by decide))
                        have hRf : RI n_9 F_9 := RI_fx hR hxf (by decide) (by decide)
                        have e5f : n_9 5 = n 5 := hxf.1 5 (by decide)
                        have e53f : n_9 53 = n 53 := hxf.1 53 (by decide)
                        have hpf : ∀ q : Nat, (q : Int) ≤ x5.toInt → vW F_9 (n_9 5).toInt (F_9 68 q).toInt := fun q hq => by rw [e5f, hxf.2.2.1 68 (by decide)]; exact vW_cg (hxf.2.2.1 6 (by decide)) (hp q hq)
                        have h70f := h70_9
                        have hSTf : ∀ q : Nat, (q : Int) < (n_9 70).toInt → stE x5.toInt x2.toInt (n_9 53).toInt (F_9 71 q).toInt := fun q hq => by rw [e53f]; exact hST_9 q hq
                        refine gz_sub (lv' := [(12, .int 0), (7, .int wd), (8, .int dy), (9, .int pl), (6, .int i), (5, .int x5), (0, .ref m), (1, .int x1), (2, .int x2), (3, .int x3)]) (by simp [List.lookup]) ?_
                        refine l_X12_comeTo3 (i := i) h5 h2 (by omega) q9b q7c ?_ 4 0 _ _ _ _ _ hS_9 (fx_tr (fx_tr hx hx1 (by decide)) hx9 (by decide)) hRf hpf h70f hSTf (by rw [e53f]; have e0 : (0 : Int32).toInt = 0 := rfl; omega) (by rw [e53f]; exact q7b) (by decide)
                        clear hR hp h70 hST
                        intro n z F G fm hS hx hR hp h70 hST
                        have hi := hi
                        refine gz_iinc (v := (i + 1)) (lv' := [(6, .int (i + 1)), (5, .int x5), (0, .ref m), (1, .int x1), (2, .int x2), (3, .int x3)]) dX12_comeTo_387 rfl rfl (by decide) rfl ?_
                        refine gz_goto (tgt := 134) dX12_comeTo_390 (by decide) ?_
                        refine gz_sub (lv' := [(6, .int (i + 1)), (5, .int x5), (0, .ref m), (1, .int x1), (2, .int x2), (3, .int x3)]) (by simp [List.lookup]) ?_
                        exact ih (i + 1) _ _ _ _ _ hS hx (hR) (hp) (h70) (hST) ((by have q1_ := (T_add (rfl : (i).toInt = (i).toInt) (show (1 : Int32).toInt = 1 from rfl) (by omega)); omega))
                      ·
                        try simp only [mIn_0, lgc_lt, lgc_gt, lgc_le, lgc_ge, lgc_eq] at c_331
                        try simp only [fl_lt, fl_le, fl_eq, fL_w, fL_lt, fL_le, tm1, tm10k, tm9, tm99, Int32.reduceToInt, Int64.reduceToInt, Int.not_lt, Int.not_le] at c_331
                        refine gz_aload_n dX12_comeTo_334 rfl rfl ?_
                        refine mg_20 hS_9 dX12_comeTo_335 ?_
                        refine gz_iload dX12_comeTo_338 rfl ?_
                        refine m_iald 7 hS_9 rfl (N := 880) rfl ((by exact vin_T (rfl : (wv).toInt = (wv).toInt) (by omega) (by omega))) dX12_comeTo_340 ?_
                        refine gz_ev (w := .int ((F 7) (Int32.toNatClampNeg wv))) (congrArg Value.int (congrFun ((hx9.2.2.1 7 (by decide)).trans (hx1.2.2.1 7 (by decide))) _)) ?_
                        refine gz_bipush (v := 6) dX12_comeTo_341 (by decide) ?_
                        refine gz_icmp_ne (tgt := 349) dX12_comeTo_343 (by decide) (fun c_343 => ?_) (fun c_343 => ?_)
                        ·
                          try simp only [mIn_0, lgc_lt, lgc_gt, lgc_le, lgc_ge, lgc_eq] at c_343
                          try simp only [fl_lt, fl_le, fl_eq, fL_w, fL_lt, fL_le, tm1, tm10k, tm9, tm99, Int32.reduceToInt, Int64.reduceToInt, Int.not_lt, Int.not_le] at c_343
                          refine gz_iconst (v := 0) dX12_comeTo_349 (by decide) ?_
                          refine gz_istore (lv' := [(12, .int 0), (11, .int r_8), (10, .int 1), (4, .int wv), (9, .int pl), (8, .int dy), (7, .int wd), (6, .int i), (5, .int x5), (0, .ref m), (1, .int x1), (2, .int x2), (3, .int x3)]) dX12_comeTo_350 (by decide) rfl ?_
                          have hi3 : i.toInt < 5265 := by omega
                          have hxf : fx [70] [29] [69, 71] [28] n z F G n_9 z_9 F_9 G_9 := (fx_tr (fx_tr fx_rf hx1 (by decide)) hx9 (by decide))
                          have hRf : RI n_9 F_9 := RI_fx hR hxf (by decide) (by decide)
                          have e5f : n_9 5 = n 5 := hxf.1 5 (by decide)
                          have e53f : n_9 53 = n 53 := hxf.1 53 (by decide)
                          have hpf : ∀ q : Nat, (q : Int) ≤ x5.toInt → vW F_9 (n_9 5).toInt (F_9 68 q).toInt := fun q hq => by rw [e5f, hxf.2.2.1 68 (by decide)]; exact vW_cg (hxf.2.2.1 6 (by decide)) (hp q hq)
                          have h70f := h70_9
                          have hSTf : ∀ q : Nat, (q : Int) < (n_9 70).toInt → stE x5.toInt x2.toInt (n_9 53).toInt (F_9 71 q).toInt := fun q hq => by rw [e53f]; exact hST_9 q hq
                          refine gz_sub (lv' := [(12, .int 0), (7, .int wd), (8, .int dy), (9, .int pl), (6, .int i), (5, .int x5), (0, .ref m), (1, .int x1), (2, .int x2), (3, .int x3)]) (by simp [List.lookup]) ?_
                          refine l_X12_comeTo3 (i := i) h5 h2 (by omega) q9b q7c ?_ 4 0 _ _ _ _ _ hS_9 (fx_tr (fx_tr hx hx1 (by decide)) hx9 (by decide)) hRf hpf h70f hSTf (by rw [e53f]; have e0 : (0 : Int32).toInt = 0 := rfl; omega) (by rw [e53f]; exact q7b) (by decide)
                          clear hR hp h70 hST
                          intro n z F G fm hS hx hR hp h70 hST
                          have hi := hi
                          refine gz_iinc (v := (i + 1)) (lv' := [(6, .int (i + 1)), (5, .int x5), (0, .ref m), (1, .int x1), (2, .int x2), (3, .int x3)]) dX12_comeTo_387 rfl rfl (by decide) rfl ?_
                          refine gz_goto (tgt := 134) dX12_comeTo_390 (by decide) ?_
                          refine gz_sub (lv' := [(6, .int (i + 1)), (5, .int x5), (0, .ref m), (1, .int x1), (2, .int x2), (3, .int x3)]) (by simp [List.lookup]) ?_
                          exact ih (i + 1) _ _ _ _ _ hS hx (hR) (hp) (h70) (hST) ((by have q1_ := (T_add (rfl : (i).toInt = (i).toInt) (show (1 : Int32).toInt = 1 from rfl) (by omega)); omega))
                        ·
                          try simp only [mIn_0, lgc_lt, lgc_gt, lgc_le, lgc_ge, lgc_eq] at c_343
                          try simp only [fl_lt, fl_le, fl_eq, fL_w, fL_lt, fL_le, tm1, tm10k, tm9, tm99, Int32.reduceToInt, Int64.reduceToInt, Int.not_lt, Int.not_le] at c_343
                          refine gz_goto (tgt := 387) dX12_comeTo_346 (by decide) ?_
                          refine gz_iinc (v := (i + 1)) (lv' := [(6, .int (i + 1)), (11, .int r_8), (10, .int 1), (4, .int wv), (9, .int pl), (8, .int dy), (7, .int wd), (5, .int x5), (0, .ref m), (1, .int x1), (2, .int x2), (3, .int x3)]) dX12_comeTo_387 rfl rfl (by decide) rfl ?_
                          refine gz_goto (tgt := 134) dX12_comeTo_390 (by decide) ?_
                          refine gz_sub (lv' := [(6, .int (i + 1)), (5, .int x5), (0, .ref m), (1, .int x1), (2, .int x2), (3, .int x3)]) (by simp [List.lookup]) ?_
                          have hxf : fx [70] [29] [69, 71] [28] n z F G n_9 z_9 F_9 G_9 := (fx_tr (fx_tr fx_rf hx1 (by decide)) hx9 (by decide))
                          have hRf : RI n_9 F_9 := RI_fx hR hxf (by decide) (by decide)
                          have e5f : n_9 5 = n 5 := hxf.1 5 (by decide)
                          have e53f : n_9 53 = n 53 := hxf.1 53 (by decide)
                          have hpf : ∀ q : Nat, (q : Int) ≤ x5.toInt → vW F_9 (n_9 5).toInt (F_9 68 q).toInt := fun q hq => by rw [e5f, hxf.2.2.1 68 (by decide)]; exact vW_cg (hxf.2.2.1 6 (by decide)) (hp q hq)
                          have h70f := h70_9
                          have hSTf : ∀ q : Nat, (q : Int) < (n_9 70).toInt → stE x5.toInt x2.toInt (n_9 53).toInt (F_9 71 q).toInt := fun q hq => by rw [e53f]; exact hST_9 q hq
                          exact ih (i + 1) _ _ _ _ _ hS_9 (fx_tr (fx_tr hx hx1 (by decide)) hx9 (by decide)) (hRf) (hpf) (h70f) (hSTf) ((by have q1_ := (T_add (rfl : (i).toInt = (i).toInt) (show (1 : Int32).toInt = 1 from rfl) (by omega)); omega))
        ·
          try simp only [mIn_0, lgc_lt, lgc_gt, lgc_le, lgc_ge, lgc_eq] at c_215
          try simp only [fl_lt, fl_le, fl_eq, fL_w, fL_lt, fL_le, tm1, tm10k, tm9, tm99, Int32.reduceToInt, Int64.reduceToInt, Int.not_lt, Int.not_le] at c_215
          refine gz_iconst (v := 1) dX12_comeTo_218 (by decide) ?_
          have hxf : fx [70] [29] [69, 71] [28] n z F G n_1 z_1 F_1 G_1 := (fx_tr fx_rf hx1 (by decide))
          have hRf : RI n_1 F_1 := RI_fx hR hxf (by decide) (by decide)
          have e5f : n_1 5 = n 5 := hxf.1 5 (by decide)
          have e53f : n_1 53 = n 53 := hxf.1 53 (by decide)
          have hpf : ∀ q : Nat, (q : Int) ≤ x5.toInt → vW F_1 (n_1 5).toInt (F_1 68 q).toInt := fun q hq => by rw [e5f, hxf.2.2.1 68 (by decide)]; exact vW_cg (hxf.2.2.1 6 (by decide)) (hp q hq)
          have h70f : ((n_1 70).toInt : Int) = cnt (F_1 69) 5265 := by rw [hxa.1 70 (by decide), hxa.2.2.1 69 (by decide)]; exact h70
          have hSTf : ∀ q : Nat, (q : Int) < (n_1 70).toInt → stE x5.toInt x2.toInt (n_1 53).toInt (F_1 71 q).toInt := fun q hq => by rw [e53f, hxa.2.2.1 71 (by decide)]; exact hST q (by rw [hxa.1 70 (by decide)] at hq; exact hq)
          exact gz_iret rfl dX12_comeTo_219 (Nat.le_of_ble_eq_true rfl) (Nat.le_of_ble_eq_true rfl) (⟨_, rfl, _, _, _, _, hS_1, (fx_tr hx hx1 (by decide)), hRf⟩)
      ·
        try simp only [mIn_0, lgc_lt, lgc_gt, lgc_le, lgc_ge, lgc_eq] at c_205
        try simp only [fl_lt, fl_le, fl_eq, fL_w, fL_lt, fL_le, tm1, tm10k, tm9, tm99, Int32.reduceToInt, Int64.reduceToInt, Int.not_lt, Int.not_le] at c_205
        refine gz_goto (tgt := 387) dX12_comeTo_208 (by decide) ?_
        refine gz_iinc (v := (i + 1)) (lv' := [(6, .int (i + 1)), (4, .int wv), (9, .int pl), (8, .int dy), (7, .int wd), (5, .int x5), (0, .ref m), (1, .int x1), (2, .int x2), (3, .int x3)]) dX12_comeTo_387 rfl rfl (by decide) rfl ?_
        refine gz_goto (tgt := 134) dX12_comeTo_390 (by decide) ?_
        refine gz_sub (lv' := [(6, .int (i + 1)), (5, .int x5), (0, .ref m), (1, .int x1), (2, .int x2), (3, .int x3)]) (by simp [List.lookup]) ?_
        have hxf : fx [70] [29] [69, 71] [28] n z F G n_1 z_1 F_1 G_1 := (fx_tr fx_rf hx1 (by decide))
        have hRf : RI n_1 F_1 := RI_fx hR hxf (by decide) (by decide)
        have e5f : n_1 5 = n 5 := hxf.1 5 (by decide)
        have e53f : n_1 53 = n 53 := hxf.1 53 (by decide)
        have hpf : ∀ q : Nat, (q : Int) ≤ x5.toInt → vW F_1 (n_1 5).toInt (F_1 68 q).toInt := fun q hq => by rw [e5f, hxf.2.2.1 68 (by decide)]; exact vW_cg (hxf.2.2.1 6 (by decide)) (hp q hq)
        have h70f : ((n_1 70).toInt : Int) = cnt (F_1 69) 5265 := by rw [hxa.1 70 (by decide), hxa.2.2.1 69 (by decide)]; exact h70
        have hSTf : ∀ q : Nat, (q : Int) < (n_1 70).toInt → stE x5.toInt x2.toInt (n_1 53).toInt (F_1 71 q).toInt := fun q hq => by rw [e53f, hxa.2.2.1 71 (by decide)]; exact hST q (by rw [hxa.1 70 (by decide)] at hq; exact hq)
        exact ih (i + 1) _ _ _ _ _ hS_1 (fx_tr hx hx1 (by decide)) (hRf) (hpf) (h70f) (hSTf) ((by have q1_ := (T_add (rfl : (i).toInt = (i).toInt) (show (1 : Int32).toInt = 1 from rfl) (by omega)); omega))

set_option maxHeartbeats 4000000 in
set_option maxRecDepth 100000 in
theorem k_X12_comeTo {l : Launch} {D : va_G} {cy : Nat → ClassId} {b : Nat} {f : gMem} {m : Nat} {a : Nat → Nat} {f0 : gMem} {n : Nat → Int32} {z : Nat → Int64} {F : Nat → Nat → Int32} {G : Nat → Nat → Int64}  {x1 x2 x3 : Int32} (hS : mS cy m a f0 n z F G f) (hR : RI n F) : gC l D cy b yX12_comeTo cX12_comeTo 13 (some .int) 3 0 0 [.ref m, .int x1, .int x2, .int x3] f (pI fun r f2 => ∃ (n2 : Nat → Int32) (z2 : Nat → Int64) (F2 : Nat → Nat → Int32) (G2 : Nat → Nat → Int64), mS cy m a f0 n2 z2 F2 G2 f2 ∧ fx [70] [29] [56, 68, 69, 71] [28] n z F G n2 z2 F2 G2 ∧ RI n2 F2) := by
  obtain ⟨a0, a4, a5, bA, bW, a30, bL, a38, bP, a53, a47, a88⟩ := id hR
  refine gC_of (by decide) (Nat.le_of_ble_eq_true rfl) ?_
  show gG l _ _ _ D cy b cX12_comeTo 13 _ RX12 "comeTo" 0 0 f 0 [(0, .ref m), (1, .int x1), (2, .int x2), (3, .int x3)] []
  refine gz_aload_n dX12_comeTo_0 rfl rfl ?_
  refine gz_iload_n dX12_comeTo_1 rfl rfl ?_
  refine scX12_337 (k_X12_isForm (x1 := x1) hS ) hS.1 ⟨(Nat.le_of_ble_eq_true rfl), (Nat.le_of_ble_eq_true rfl)⟩ ⟨(Nat.le_of_ble_eq_true rfl), (Nat.le_of_ble_eq_true rfl)⟩ rfl rfl (Nat.le_of_ble_eq_true rfl) dX12_comeTo_2 ?_
  rintro r_1 f9 ⟨hb_1, y9⟩; rw [y9]
  try rw [(show n 5 = (n 5) from rfl)] at hb_1
  have hbb_1 : r_1 = 0 ∨ r_1 = 1 := hb_1.imp_right And.left
  simp only [fl_eq, Int32.reduceToInt] at hb_1
  refine gz_if_eq (tgt := 38) dX12_comeTo_5 (by decide) (fun c_5 => ?_) (fun c_5 => ?_)
  ·
    try simp only [mIn_0, lgc_lt, lgc_gt, lgc_le, lgc_ge, lgc_eq] at c_5
    try simp only [fl_lt, fl_le, fl_eq, fL_w, fL_lt, fL_le, tm1, tm10k, tm9, tm99, Int32.reduceToInt, Int64.reduceToInt, Int.not_lt, Int.not_le] at c_5
    refine gz_iconst (v := (-1)) dX12_comeTo_38 (by decide) ?_
    exact gz_iret rfl dX12_comeTo_39 (Nat.le_of_ble_eq_true rfl) (Nat.le_of_ble_eq_true rfl) (⟨_, rfl, _, _, _, _, hS, fx_rf, hR⟩)
  ·
    try simp only [mIn_0, lgc_lt, lgc_gt, lgc_le, lgc_ge, lgc_eq] at c_5
    try simp only [fl_lt, fl_le, fl_eq, fL_w, fL_lt, fL_le, tm1, tm10k, tm9, tm99, Int32.reduceToInt, Int64.reduceToInt, Int.not_lt, Int.not_le] at c_5
    refine gz_iload_n dX12_comeTo_8 rfl rfl ?_
    refine gz_i2l dX12_comeTo_9 ?_
    refine gz_lconst (v := 1) dX12_comeTo_10 (by decide) ?_
    refine gz_ldc2 (v := (4)) wd_956 dX12_comeTo_11 ?_
    refine scX12_245 (k_X12_in (x := x2.toInt64) (y := 1) (w := (4))) ⟨(Nat.le_of_ble_eq_true rfl), (Nat.le_of_ble_eq_true rfl)⟩ ⟨(Nat.le_of_ble_eq_true rfl), (Nat.le_of_ble_eq_true rfl)⟩ rfl rfl (Nat.le_of_ble_eq_true rfl) dX12_comeTo_14 ?_
    intro v9 f9 z9; rw [z9.1, z9.2]
    refine gz_if_eq (tgt := 38) dX12_comeTo_17 (by decide) (fun c_17 => ?_) (fun c_17 => ?_)
    ·
      try simp only [mIn_0, lgc_lt, lgc_gt, lgc_le, lgc_ge, lgc_eq] at c_17
      try simp only [fl_lt, fl_le, fl_eq, fL_w, fL_lt, fL_le, tm1, tm10k, tm9, tm99, Int32.reduceToInt, Int64.reduceToInt, Int.not_lt, Int.not_le] at c_17
      refine gz_iconst (v := (-1)) dX12_comeTo_38 (by decide) ?_
      exact gz_iret rfl dX12_comeTo_39 (Nat.le_of_ble_eq_true rfl) (Nat.le_of_ble_eq_true rfl) (⟨_, rfl, _, _, _, _, hS, fx_rf, hR⟩)
    ·
      try simp only [mIn_0, lgc_lt, lgc_gt, lgc_le, lgc_ge, lgc_eq] at c_17
      try simp only [fl_lt, fl_le, fl_eq, fL_w, fL_lt, fL_le, tm1, tm10k, tm9, tm99, Int32.reduceToInt, Int64.reduceToInt, Int.not_lt, Int.not_le] at c_17
      refine gz_iload_n dX12_comeTo_20 rfl rfl ?_
      refine gz_i2l dX12_comeTo_21 ?_
      refine gz_lconst (v := 0) dX12_comeTo_22 (by decide) ?_
      refine gz_aload_n dX12_comeTo_23 rfl rfl ?_
      refine mg_17 hS dX12_comeTo_24 ?_
      refine gz_iload_n dX12_comeTo_27 rfl rfl ?_
      refine m_iald 6 hS rfl (N := 22) rfl ((by exact vin_T (rfl : (x1).toInt = (x1).toInt) (by omega) (by omega))) dX12_comeTo_28 ?_
      refine gz_iconst (v := 1) dX12_comeTo_29 (by decide) ?_
      refine gz_isub dX12_comeTo_30 ?_
      refine gz_i2l dX12_comeTo_31 ?_
      have qc1 := clI (i := x1) (by omega)
      have qW := (bW (Int32.toNatClampNeg x1) (by omega)).1
      have qs : ((F 6 (Int32.toNatClampNeg x1)) - 1).toInt = (F 6 (Int32.toNatClampNeg x1)).toInt - 1 := T_sub rfl (show (1 : Int32).toInt = 1 from rfl) (by omega)
      refine scX12_245 (k_X12_in (x := x3.toInt64) (y := 0) (w := (((F 6) (Int32.toNatClampNeg x1)) - 1).toInt64)) ⟨(Nat.le_of_ble_eq_true rfl), (Nat.le_of_ble_eq_true rfl)⟩ ⟨(Nat.le_of_ble_eq_true rfl), (Nat.le_of_ble_eq_true rfl)⟩ rfl rfl (Nat.le_of_ble_eq_true rfl) dX12_comeTo_32 ?_
      intro v9 f9 z9; rw [z9.1, z9.2]
      refine gz_if_ne (tgt := 40) dX12_comeTo_35 (by decide) (fun c_35 => ?_) (fun c_35 => ?_)
      ·
        try simp only [mIn_0, lgc_lt, lgc_gt, lgc_le, lgc_ge, lgc_eq] at c_35
        try simp only [fl_lt, fl_le, fl_eq, fL_w, fL_lt, fL_le, tm1, tm10k, tm9, tm99, Int32.reduceToInt, Int64.reduceToInt, Int.not_lt, Int.not_le] at c_35
        refine gz_bipush (v := 40) dX12_comeTo_40 (by decide) ?_
        refine gz_iload_n dX12_comeTo_42 rfl rfl ?_
        refine gz_imul dX12_comeTo_43 ?_
        refine gz_iload_n dX12_comeTo_44 rfl rfl ?_
        refine gz_iadd dX12_comeTo_45 ?_
        refine gz_istore (lv' := [(4, .int ((40 * x1) + x3)), (0, .ref m), (1, .int x1), (2, .int x2), (3, .int x3)]) dX12_comeTo_46 (by decide) rfl ?_
        have qw : (40 * x1 + x3).toInt = 40 * x1.toInt + x3.toInt := (T_add (T_mul (show (40 : Int32).toInt = 40 from rfl) (rfl : (x1).toInt = (x1).toInt) (by omega)) (rfl : (x3).toInt = (x3).toInt) (by omega))
        have qc3 := clI (i := x3) (by omega)
        have hv : vW F (n 5).toInt (40 * x1 + x3).toInt := ⟨Int32.toNatClampNeg x1, Int32.toNatClampNeg x3, by omega, by omega, by omega⟩
        have qv := vW_lt bW a5 hv
        have qa : 0 ≤ (F 9 (Int32.toNatClampNeg (40 * x1 + x3))).toInt ∧ (F 9 (Int32.toNatClampNeg (40 * x1 + x3))).toInt ≤ 11 := aro_ok bW hv
        refine gz_aload_n dX12_comeTo_48 rfl rfl ?_
        refine mg_26 hS dX12_comeTo_49 ?_
        refine gz_iload dX12_comeTo_52 rfl ?_
        refine m_iald 9 hS rfl (N := 880) rfl ((by have q9 := (T_add (T_mul (show (40 : Int32).toInt = 40 from rfl) (rfl : (x1).toInt = (x1).toInt) (by omega)) (rfl : (x3).toInt = (x3).toInt) (by omega)); exact vin_T q9 (by omega) (by omega))) dX12_comeTo_54 ?_
        refine gz_istore (lv' := [(5, .int ((F 9) (Int32.toNatClampNeg ((40 * x1) + x3)))), (4, .int ((40 * x1) + x3)), (0, .ref m), (1, .int x1), (2, .int x2), (3, .int x3)]) dX12_comeTo_55 (by decide) rfl ?_
        refine gz_iload dX12_comeTo_57 rfl ?_
        refine gz_istore (lv' := [(6, .int ((F 9) (Int32.toNatClampNeg ((40 * x1) + x3)))), (5, .int ((F 9) (Int32.toNatClampNeg ((40 * x1) + x3)))), (4, .int ((40 * x1) + x3)), (0, .ref m), (1, .int x1), (2, .int x2), (3, .int x3)]) dX12_comeTo_59 (by decide) rfl ?_
        obtain ⟨x5, hx5⟩ : ∃ v_, v_ = (F 9 (Int32.toNatClampNeg (40 * x1 + x3))) := ⟨_, rfl⟩
        rw [← hx5] at qa
        refine gz_sub (lv' := [(6, .int x5), (4, .int (40 * x1 + x3)), (5, .int x5), (0, .ref m), (1, .int x1), (2, .int x2), (3, .int x3)]) (by rw [hx5]; simp [List.lookup]) ?_
        refine l_X12_comeTo1 qa (by omega) ?_ 13 x5 (40 * x1 + x3) _ _ _ _ _ hS fx_rf hR (by omega) (fun _ => ⟨hv, by rw [hx5]⟩) (fun q q1 q2 => by omega)
        have hn5 : 1 ≤ x2.toInt ∧ x2.toInt ≤ 4 := by omega
        intro wv n1 z1 F1 G1 fm hS1 hx1 hR1 hp1
        refine gz_iconst (v := 0) dX12_comeTo_90 (by decide) ?_
        refine gz_istore (lv' := [(6, .int 0), (4, .int wv), (5, .int x5), (0, .ref m), (1, .int x1), (2, .int x2), (3, .int x3)]) dX12_comeTo_91 (by decide) rfl ?_
        refine gz_sub (lv' := [(6, .int 0), (4, .int wv), (5, .int x5), (0, .ref m), (1, .int x1), (2, .int x2), (3, .int x3)]) (by simp [List.lookup]) ?_
        refine l_X12_comeTo2 qa hn5 ?_ 5266 0 _ _ _ _ _ hS1 hx1 hR1 hp1 (fun q hq => by have e0 : (0 : Int32).toInt = 0 := rfl; omega) (by decide)
        clear a0 a4 a5 bA bW a30 bL a38 bP a53 a47 a88
        intro n2 z2 F2 G2 fm2 hS2 hx2 hR2 hp2 hz2
        obtain ⟨a0, a4, a5, bA, bW, a30, bL, a38, bP, a53, a47, a88⟩ := id hR2
        refine gz_aload_n dX12_comeTo_115 rfl rfl ?_
        refine gz_iconst (v := 0) dX12_comeTo_116 (by decide) ?_
        refine mp_489 hS2 dX12_comeTo_117 (fun f_2 hS_2 => ?_)
        refine gz_aload_n dX12_comeTo_120 rfl rfl ?_
        refine scX12_479 (k_X12_starts hS_2 a0) hS_2.1 ⟨(Nat.le_of_ble_eq_true rfl), (Nat.le_of_ble_eq_true rfl)⟩ ⟨(Nat.le_of_ble_eq_true rfl), (Nat.le_of_ble_eq_true rfl)⟩ rfl rfl (Nat.le_of_ble_eq_true rfl) dX12_comeTo_121 ?_
        rintro f_3 ⟨n_3, z_3, F_3, G_3, hS_3, hx3⟩
        refine gz_aload_n dX12_comeTo_124 rfl rfl ?_
        refine gz_iconst (v := 0) dX12_comeTo_125 (by decide) ?_
        refine gz_iconst (v := 0) dX12_comeTo_126 (by decide) ?_
        refine gz_iconst (v := 0) dX12_comeTo_127 (by decide) ?_
        have hxs : fx [70] [] [56] [] n2 z2 F2 G2 n_3 z_3 F_3 G_3 := (fx_tr (fx_n fx_rf (by decide)) hx3 (by decide))
        have e70 : (n_3 70).toInt = 0 := by rw [hx3.1 70 (by decide)]; rfl
        refine scX12_492 (k_X12_reaches (x1 := 0) (x2 := 0) (x3 := 0) (P := stE x5.toInt x2.toInt (n2 53).toInt) hS_3 (by decide) (by decide) (by decide) (by rw [e70, hx3.2.2.1 69 (by decide)]; rw [cnt_0 5265 hz2]; rfl) (fun q hq => by rw [e70] at hq; omega) (stE_mk (p := 0) (d := 0) (w := 0) (by omega) (by omega) (by rw [show ((0 : Int)).toNat = 0 from rfl, Int.pow_zero]; decide) (by decide))) hS_3.1 ⟨(Nat.le_of_ble_eq_true rfl), (Nat.le_of_ble_eq_true rfl)⟩ ⟨(Nat.le_of_ble_eq_true rfl), (Nat.le_of_ble_eq_true rfl)⟩ rfl rfl (Nat.le_of_ble_eq_true rfl) dX12_comeTo_128 ?_
        rintro f_4 ⟨n_4, z_4, F_4, G_4, hS_4, hx4, h70_4, hST_4, hm_4⟩
        try simp only [(show n_3 70 = 0 from (hx3.1 70 (by decide)))] at h70_4 hST_4 hm_4
        refine gz_iconst (v := 0) dX12_comeTo_131 (by decide) ?_
        refine gz_istore (lv' := [(6, .int 0), (4, .int wv), (5, .int x5), (0, .ref m), (1, .int x1), (2, .int x2), (3, .int x3)]) dX12_comeTo_132 (by decide) rfl ?_
        have hxt : fx [70] [] [56, 69, 71] [] n2 z2 F2 G2 n_4 z_4 F_4 G_4 := (fx_tr (fx_tr (fx_n fx_rf (by decide)) hx3 (by decide)) hx4 (by decide))
        refine gz_sub (lv' := [(6, .int 0), (5, .int x5), (0, .ref m), (1, .int x1), (2, .int x2), (3, .int x3)]) (by simp [List.lookup]) ?_
        exact l_X12_comeTo qa hn5 5266 0 _ _ _ _ _ hS_4 (fx_tr hx2 hxt (by decide)) (RI_fx hR2 hxt (by decide) (by decide)) (fun q hq => by rw [hxt.1 5 (by decide), hxt.2.2.1 68 (by decide)]; exact vW_cg (hxt.2.2.1 6 (by decide)) (hp2 q hq)) h70_4 (fun q hq => by rw [hxt.1 53 (by decide)]; exact hST_4 q hq) (by decide)
      ·
        try simp only [mIn_0, lgc_lt, lgc_gt, lgc_le, lgc_ge, lgc_eq] at c_35
        try simp only [fl_lt, fl_le, fl_eq, fL_w, fL_lt, fL_le, tm1, tm10k, tm9, tm99, Int32.reduceToInt, Int64.reduceToInt, Int.not_lt, Int.not_le] at c_35
        refine gz_iconst (v := (-1)) dX12_comeTo_38 (by decide) ?_
        exact gz_iret rfl dX12_comeTo_39 (Nat.le_of_ble_eq_true rfl) (Nat.le_of_ble_eq_true rfl) (⟨_, rfl, _, _, _, _, hS, fx_rf, hR⟩)
