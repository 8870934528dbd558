theorem rL_new {F F2 : Nat → Nat → Int32} {c lv : Int} {i : Nat} {x y : Int32} (h : rL F c lv) (hF : ∀ k, k ∈ [6, 7, 35, 36] → F2 k = F k) (h32 : F2 32 = upd (F 32) i x) (h33 : F2 33 = upd (F 33) i y) (hx : 0 ≤ x.toInt ∧ x.toInt ≤ 7) (hy : 0 ≤ y.toInt ∧ y.toInt ≤ 7) : rL F2 c (lv + 1) := by
  intro l hl
  obtain ⟨a1, a2, a3, a4, a5⟩ := h l hl
  rw [hF 35 (by decide), hF 36 (by decide), h32, h33, updE, updE]
  refine ⟨a1, fun q => a2 (by omega), ?_, ?_, fun k hk => vS_cg (hF 6 (by decide)) (hF 7 (by decide)) (a5 k hk)⟩
  · by_cases e : l = i
    · rw [if_pos e]; exact hx
    · rw [if_neg e]; exact a3
  · by_cases e : l = i
    · rw [if_pos e]; exact hy
    · rw [if_neg e]; exact a4
theorem rPy_mo {F : Nat → Nat → Int32} {py lv lv2 : Int} (h : rPy F py lv) (hl : lv ≤ lv2) : rPy F py lv2 := fun k hk => ⟨(h k hk).1, by have := (h k hk).2; omega⟩

set_option maxHeartbeats 4000000 in
set_option maxRecDepth 100000 in
theorem l_X12_leaves {l : Launch} {D : va_G} {cy : Nat → ClassId} {b : Nat} {m : Nat} {a : Nat → Nat} {f0 : gMem} {n0 : Nat → Int32} {z0 : Nat → Int64} {F0 : Nat → Nat → Int32} {G0 : Nat → Nat → Int64}  {x1 x2 : Int32} {g35 : Nat → Int32}  : ∀ (k : Nat) (i : Int32) (n : Nat → Int32) (z : Nat → Int64) (F : Nat → Nat → Int32) (G : Nat → Nat → Int64) (fm : gMem), mS cy m a f0 n z F G fm → fx [] [] [35, 36] [37] n0 z0 F0 G0 n z F G → (RI n F) → (0 ≤ x1.toInt ∧ x1.toInt < (n 30).toInt) → (F 35 = g35) → (0 ≤ (g35 (Int32.toNatClampNeg x1)).toInt ∧ (g35 (Int32.toNatClampNeg x1)).toInt ≤ 39) → (∀ j : Nat, (j : Int) ≤ (g35 (Int32.toNatClampNeg x1)).toInt → vS F (n 5).toInt (F 36 (40 * (Int32.toNatClampNeg x1) + j))) → (40 * x1.toInt ≤ i.toInt ∧ i.toInt ≤ 40 * x1.toInt + (g35 (Int32.toNatClampNeg x1)).toInt) → (40 * x1.toInt + (g35 (Int32.toNatClampNeg x1)).toInt - i.toInt < (k : Int)) → gG l (gRm 0 0 0) (gQf D b (pV fun f2 => ∃ (n2 : Nat → Int32) (z2 : Nat → Int64) (F2 : Nat → Nat → Int32) (G2 : Nat → Nat → Int64), mS cy m a f0 n2 z2 F2 G2 f2 ∧ fx [] [] [35, 36] [37] n0 z0 F0 G0 n2 z2 F2 G2 ∧ RI n2 F2 ∧ F2 35 = g35) 0 0) gTt D cy b cX12_leaves 4 none RX12 "leaves" 0 0 fm 17 [(3, .int i), (0, .ref m), (1, .int x1), (2, .int x2)] [] := by
  intro k
  induction k with
  | zero =>
    intro i n z F G fm hS hx hR hl h35 hg hV hi hk
    exfalso; omega
  | succ k ih =>
    intro i n z F G fm hS hx hR hl h35 hg hV hi hk
    obtain ⟨a0, a4, a5, bA, bW, a30, bL, a38, bP, a53, a47, a88⟩ := id hR
    have q40 : (40 * x1 + (g35 (Int32.toNatClampNeg x1))).toInt = 40 * x1.toInt + (g35 (Int32.toNatClampNeg x1)).toInt := T_add (T_mul (show (40 : Int32).toInt = 40 from rfl) rfl (by omega)) rfl (by omega)
    refine gz_iload_n dX12_leaves_17 rfl rfl ?_
    refine gz_bipush (v := 40) dX12_leaves_18 (by decide) ?_
    refine gz_iload_n dX12_leaves_20 rfl rfl ?_
    refine gz_imul dX12_leaves_21 ?_
    refine gz_aload_n dX12_leaves_22 rfl rfl ?_
    refine mg_109 hS dX12_leaves_23 ?_
    refine gz_iload_n dX12_leaves_26 rfl rfl ?_
    refine m_iald 35 hS rfl (N := 40) rfl ((by exact vin_T (rfl : (x1).toInt = (x1).toInt) (by omega) (by omega))) dX12_leaves_27 ?_
    refine gz_ev (w := .int (g35 (Int32.toNatClampNeg x1))) (congrArg Value.int (congrFun h35 _)) ?_
    refine gz_iadd dX12_leaves_28 ?_
    refine gz_icmp_ge (tgt := 66) dX12_leaves_29 (by decide) (fun c_29 => ?_) (fun c_29 => ?_)
    ·
      try simp only [mIn_0, lgc_lt, lgc_gt, lgc_le, lgc_ge, lgc_eq] at c_29
      try simp only [fl_lt, fl_le, fl_eq, fL_w, fL_lt, fL_le, tm1, tm10k, tm9, tm99, Int32.reduceToInt, Int64.reduceToInt, Int.not_lt, Int.not_le] at c_29
      try have u_29t0 := (T_add (T_mul (show (40 : Int32).toInt = 40 from rfl) (rfl : (x1).toInt = (x1).toInt) (by omega)) (rfl : ((g35 (Int32.toNatClampNeg x1))).toInt = ((g35 (Int32.toNatClampNeg x1))).toInt) (by omega))
      exact gz_vret rfl dX12_leaves_66 (Nat.le_of_ble_eq_true rfl) (Nat.le_of_ble_eq_true rfl) (⟨rfl, _, _, _, _, hS, hx, hR, h35⟩)
    ·
      try simp only [mIn_0, lgc_lt, lgc_gt, lgc_le, lgc_ge, lgc_eq] at c_29
      try simp only [fl_lt, fl_le, fl_eq, fL_w, fL_lt, fL_le, tm1, tm10k, tm9, tm99, Int32.reduceToInt, Int64.reduceToInt, Int.not_lt, Int.not_le] at c_29
      try have u_29t0 := (T_add (T_mul (show (40 : Int32).toInt = 40 from rfl) (rfl : (x1).toInt = (x1).toInt) (by omega)) (rfl : ((g35 (Int32.toNatClampNeg x1))).toInt = ((g35 (Int32.toNatClampNeg x1))).toInt) (by omega))
      refine gz_aload_n dX12_leaves_32 rfl rfl ?_
      refine mg_112 hS dX12_leaves_33 ?_
      refine gz_iload_n dX12_leaves_36 rfl rfl ?_
      refine gz_aload_n dX12_leaves_37 rfl rfl ?_
      refine mg_112 hS dX12_leaves_38 ?_
      refine gz_iload_n dX12_leaves_41 rfl rfl ?_
      refine gz_iconst (v := 1) dX12_leaves_42 (by decide) ?_
      refine gz_iadd dX12_leaves_43 ?_
      refine m_iald 36 hS rfl (N := 1600) rfl ((by have q9 := (T_add (rfl : (i).toInt = (i).toInt) (show (1 : Int32).toInt = 1 from rfl) (by omega)); exact vin_T q9 (by omega) (by omega))) dX12_leaves_44 ?_
      refine m_iast 36 hS rfl (N := 1600) rfl ((by exact vin_T (rfl : (i).toInt = (i).toInt) (by omega) (by omega))) dX12_leaves_45 (fun f_1 hS_1q => ?_)
      have hS_1 : mS cy m a f0 n z (va_up F 36 (upd (F 36) (Int32.toNatClampNeg i) ((F 36) (Int32.toNatClampNeg (i + 1))))) G f_1 := hS_1q
      refine gz_aload_n dX12_leaves_46 rfl rfl ?_
      refine mg_115 hS_1 dX12_leaves_47 ?_
      refine gz_iload_n dX12_leaves_50 rfl rfl ?_
      refine gz_aload_n dX12_leaves_51 rfl rfl ?_
      refine mg_115 hS_1 dX12_leaves_52 ?_
      refine gz_iload_n dX12_leaves_55 rfl rfl ?_
      refine gz_iconst (v := 1) dX12_leaves_56 (by decide) ?_
      refine gz_iadd dX12_leaves_57 ?_
      refine m_lald 37 hS_1 rfl (N := 1600) rfl ((by have q9 := (T_add (rfl : (i).toInt = (i).toInt) (show (1 : Int32).toInt = 1 from rfl) (by omega)); exact vin_T q9 (by omega) (by omega))) dX12_leaves_58 ?_
      refine gz_ev (w := .long ((G 37) (Int32.toNatClampNeg (i + 1)))) rfl ?_
      refine m_last 37 hS_1 rfl (N := 1600) rfl ((by exact vin_T (rfl : (i).toInt = (i).toInt) (by omega) (by omega))) dX12_leaves_59 (fun f_2 hS_2q => ?_)
      have hS_2 : mS cy m a f0 n z (va_up F 36 (upd (F 36) (Int32.toNatClampNeg i) ((F 36) (Int32.toNatClampNeg (i + 1))))) (va_up G 37 (vp_updL (G 37) (Int32.toNatClampNeg i) ((G 37) (Int32.toNatClampNeg (i + 1))))) f_2 := hS_2q
      refine gz_iinc (v := (i + 1)) (lv' := [(3, .int (i + 1)), (0, .ref m), (1, .int x1), (2, .int x2)]) dX12_leaves_60 rfl rfl (by decide) rfl ?_
      refine gz_goto (tgt := 17) dX12_leaves_63 (by decide) ?_
      refine gz_sub (lv' := [(3, .int (i + 1)), (0, .ref m), (1, .int x1), (2, .int x2)]) (by simp [List.lookup]) ?_
      have hxx : fx [] [] [35, 36] [37] n z F G n z (va_up F 36 (upd (F 36) (Int32.toNatClampNeg i) ((F 36) (Int32.toNatClampNeg (i + 1))))) (va_up G 37 (vp_updL (G 37) (Int32.toNatClampNeg i) ((G 37) (Int32.toNatClampNeg (i + 1))))) := (fx_G (fx_F fx_rf (by decide)) (by decide))
      have qi : (i + 1).toInt = i.toInt + 1 := T_add rfl (show (1 : Int32).toInt = 1 from rfl) (by omega)
      have qc := clI (i := x1) (by omega)
      have qe := clI (i := i) (by omega)
      have qe1 := clI (i := i + 1) (by omega)
      have hvs : vS F (n 5).toInt (F 36 (Int32.toNatClampNeg (i + 1))) := by rw [show Int32.toNatClampNeg (i + 1) = 40 * (Int32.toNatClampNeg x1) + (Int32.toNatClampNeg (i + 1) - 40 * (Int32.toNatClampNeg x1)) by omega]; exact hV _ (by omega)
      have hR9 : RI n (va_up F 36 (upd (F 36) (Int32.toNatClampNeg i) ((F 36) (Int32.toNatClampNeg (i + 1))))) := RI_l hR (fun k hk => hxx.2.2.1 k ((by decide : ∀ k : Nat, k ∈ wK → k ∉ ([35, 36] : List Nat)) k hk)) (fun _ _ => rfl) (rL_put bL (fun k hk => up_out (K := [36]) (fun _ _ => rfl) (by decide) k ((by decide : ∀ k : Nat, k ∈ ([6, 7, 32, 33, 35] : List Nat) → k ∉ ([36] : List Nat)) k hk)) rfl hvs) a38 (rPy_cg2 bP rfl)
      have hV9 : ∀ j : Nat, (j : Int) ≤ (g35 (Int32.toNatClampNeg x1)).toInt → vS (va_up F 36 (upd (F 36) (Int32.toNatClampNeg i) ((F 36) (Int32.toNatClampNeg (i + 1))))) (n 5).toInt ((va_up F 36 (upd (F 36) (Int32.toNatClampNeg i) ((F 36) (Int32.toNatClampNeg (i + 1))))) 36 (40 * (Int32.toNatClampNeg x1) + j)) := by
        intro j hj
        show vS _ _ (upd (F 36) (Int32.toNatClampNeg i) (F 36 (Int32.toNatClampNeg (i + 1))) (40 * (Int32.toNatClampNeg x1) + j))
        rw [updE]
        by_cases e : 40 * (Int32.toNatClampNeg x1) + j = Int32.toNatClampNeg i
        · rw [if_pos e]; exact vS_cg rfl rfl hvs
        · rw [if_neg e]; exact vS_cg rfl rfl (hV j hj)
      exact ih (i + 1) _ _ _ _ _ hS_2 (fx_G (fx_F hx (by decide)) (by decide)) (hR9) (hl) (h35) (hg) (hV9) (by omega) (by omega)

set_option maxHeartbeats 4000000 in
set_option maxRecDepth 100000 in
theorem k_X12_leaves {l : Launch} {D : va_G} {cy : Nat → ClassId} {b : Nat} {f : gMem} {m : Nat} {a : Nat → Nat} {f0 : gMem} {n : Nat → Int32} {z : Nat → Int64} {F : Nat → Nat → Int32} {G : Nat → Nat → Int64}  {x1 x2 : Int32} (hS : mS cy m a f0 n z F G f) (hR : RI n F) (hl : 0 ≤ x1.toInt ∧ x1.toInt < (n 30).toInt) (hk0 : 0 ≤ x2.toInt ∧ x2.toInt < (F 35 (Int32.toNatClampNeg x1)).toInt) : gC l D cy b yX12_leaves cX12_leaves 4 none 0 0 0 [.ref m, .int x1, .int x2] f (pV fun f2 => ∃ (n2 : Nat → Int32) (z2 : Nat → Int64) (F2 : Nat → Nat → Int32) (G2 : Nat → Nat → Int64), mS cy m a f0 n2 z2 F2 G2 f2 ∧ fx [] [] [35, 36] [37] n z F G n2 z2 F2 G2 ∧ RI n2 F2 ∧ F2 35 = (upd (F 35) (Int32.toNatClampNeg x1) ((F 35 (Int32.toNatClampNeg x1)) - 1))) := by
  obtain ⟨a0, a4, a5, bA, bW, a30, bL, a38, bP, a53, a47, a88⟩ := id hR
  have qL := bL (Int32.toNatClampNeg x1) (by have := clI (i := x1) (by omega); omega)
  refine gC_of (by decide) (Nat.le_of_ble_eq_true rfl) ?_
  show gG l _ _ _ D cy b cX12_leaves 4 _ RX12 "leaves" 0 0 f 0 [(0, .ref m), (1, .int x1), (2, .int x2)] []
  refine gz_aload_n dX12_leaves_0 rfl rfl ?_
  refine mg_109 hS dX12_leaves_1 ?_
  refine gz_iload_n dX12_leaves_4 rfl rfl ?_
  refine gz_dup2 dX12_leaves_5 rfl rfl ?_
  refine m_iald 35 hS rfl (N := 40) rfl ((by exact vin_T (rfl : (x1).toInt = (x1).toInt) (by omega) (by omega))) dX12_leaves_6 ?_
  refine gz_iconst (v := 1) dX12_leaves_7 (by decide) ?_
  refine gz_isub dX12_leaves_8 ?_
  refine m_iast 35 hS rfl (N := 40) rfl ((by exact vin_T (rfl : (x1).toInt = (x1).toInt) (by omega) (by omega))) dX12_leaves_9 (fun f_1 hS_1q => ?_)
  have hS_1 : mS cy m a f0 n z (va_up F 35 (upd (F 35) (Int32.toNatClampNeg x1) (((F 35) (Int32.toNatClampNeg x1)) - 1))) G f_1 := hS_1q
  refine gz_bipush (v := 40) dX12_leaves_10 (by decide) ?_
  refine gz_iload_n dX12_leaves_12 rfl rfl ?_
  refine gz_imul dX12_leaves_13 ?_
  refine gz_iload_n dX12_leaves_14 rfl rfl ?_
  refine gz_iadd dX12_leaves_15 ?_
  refine gz_istore_n (lv' := [(3, .int ((40 * x1) + x2)), (0, .ref m), (1, .int x1), (2, .int x2)]) dX12_leaves_16 rfl (by decide) rfl ?_
  have hxx : fx [] [] [35, 36] [37] n z F G n z (va_up F 35 (upd (F 35) (Int32.toNatClampNeg x1) (((F 35) (Int32.toNatClampNeg x1)) - 1))) G := (fx_F fx_rf (by decide))
  have qc := clI (i := x1) (by omega)
  have qs : ((F 35 (Int32.toNatClampNeg x1)) - 1).toInt = (F 35 (Int32.toNatClampNeg x1)).toInt - 1 := T_sub rfl (show (1 : Int32).toInt = 1 from rfl) (by omega)
  have qg : ((upd (F 35) (Int32.toNatClampNeg x1) ((F 35 (Int32.toNatClampNeg x1)) - 1)) (Int32.toNatClampNeg x1)).toInt = (F 35 (Int32.toNatClampNeg x1)).toInt - 1 := by rw [updE, if_pos rfl]; exact qs
  have qi : (40 * x1 + x2).toInt = 40 * x1.toInt + x2.toInt := T_add (T_mul (show (40 : Int32).toInt = 40 from rfl) rfl (by omega)) rfl (by omega)
  have hR9 : RI n (va_up F 35 (upd (F 35) (Int32.toNatClampNeg x1) (((F 35) (Int32.toNatClampNeg x1)) - 1))) := RI_l hR (fun k hk => hxx.2.2.1 k ((by decide : ∀ k : Nat, k ∈ wK → k ∉ ([35, 36] : List Nat)) k hk)) (fun _ _ => rfl) (rL_cnt (l0 := (Int32.toNatClampNeg x1)) (s := (F 35 (Int32.toNatClampNeg x1)) - 1) bL (fun k hk => up_out (K := [35]) (fun _ _ => rfl) (by decide) k ((by decide : ∀ k : Nat, k ∈ ([6, 7, 32, 33, 36] : List Nat) → k ∉ ([35] : List Nat)) k hk)) rfl (by omega) (by omega) (fun k hk => rL_S bL (by omega) (by omega))) a38 (rPy_cg2 bP rfl)
  refine gz_sub (lv' := [(3, .int (40 * x1 + x2)), (0, .ref m), (1, .int x1), (2, .int x2)]) (by simp [List.lookup]) ?_
  exact l_X12_leaves (g35 := (upd (F 35) (Int32.toNatClampNeg x1) ((F 35 (Int32.toNatClampNeg x1)) - 1))) 41 _ _ _ _ _ _ hS_1 hxx hR9 hl rfl (by rw [qg]; omega) (fun j hj => vS_cg rfl rfl (rL_S bL (by omega) (by rw [qg] at hj; omega))) (by rw [qg]; omega) (by rw [qg]; omega)

set_option maxHeartbeats 4000000 in
set_option maxRecDepth 100000 in
theorem k_X12_begin {l : Launch} {D : va_G} {cy : Nat → ClassId} {b : Nat} {f : gMem} {m : Nat} {a : Nat → Nat} {f0 : gMem} {n : Nat → Int32} {z : Nat → Int64} {F : Nat → Nat → Int32} {G : Nat → Nat → Int64}  {x1 x2 x3 : Int32} (hS : mS cy m a f0 n z F G f) (hR : RI n F) : gC l D cy b yX12_begin cX12_begin 4 (some .int) 4 0 0 [.ref m, .int x1, .int x2, .int x3] f (pI fun r f2 => ∃ (n2 : Nat → Int32) (z2 : Nat → Int64) (F2 : Nat → Nat → Int32) (G2 : Nat → Nat → Int64), mS cy m a f0 n2 z2 F2 G2 f2 ∧ fx [1, 30, 38, 43] [29] [31, 32, 33, 35, 36, 39, 40, 41, 42, 44] [28, 34, 37, 45] n z F G n2 z2 F2 G2 ∧ RI n2 F2) := by
  obtain ⟨a0, a4, a5, bA, bW, a30, bL, a38, bP, a53, a47, a88⟩ := id hR
  refine gC_of (by decide) (Nat.le_of_ble_eq_true rfl) ?_
  show gG l _ _ _ D cy b cX12_begin 4 _ RX12 "begin" 0 0 f 0 [(0, .ref m), (1, .int x1), (2, .int x2), (3, .int x3)] []
  refine gz_aload_n dX12_begin_0 rfl rfl ?_
  refine mg_394 hS dX12_begin_1 ?_
  refine gz_bipush (v := 40) dX12_begin_4 (by decide) ?_
  refine gz_icmp_eq (tgt := 38) dX12_begin_6 (by decide) (fun c_6 => ?_) (fun c_6 => ?_)
  ·
    try simp only [mIn_0, lgc_lt, lgc_gt, lgc_le, lgc_ge, lgc_eq] at c_6
    try simp only [fl_lt, fl_le, fl_eq, fL_w, fL_lt, fL_le, tm1, tm10k, tm9, tm99, Int32.reduceToInt, Int64.reduceToInt, Int.not_lt, Int.not_le] at c_6
    refine gz_iconst (v := (-1)) dX12_begin_38 (by decide) ?_
    have hxx : fx [1, 30, 38, 43] [29] [31, 32, 33, 35, 36, 39, 40, 41, 42, 44] [28, 34, 37, 45] n z F G n z F G := fx_rf
    exact gz_iret rfl dX12_begin_39 (Nat.le_of_ble_eq_true rfl) (Nat.le_of_ble_eq_true rfl) (⟨_, rfl, _, _, _, _, hS, hxx, hR⟩)
  ·
    try simp only [mIn_0, lgc_lt, lgc_gt, lgc_le, lgc_ge, lgc_eq] at c_6
    try simp only [fl_lt, fl_le, fl_eq, fL_w, fL_lt, fL_le, tm1, tm10k, tm9, tm99, Int32.reduceToInt, Int64.reduceToInt, Int.not_lt, Int.not_le] at c_6
    refine gz_aload_n dX12_begin_9 rfl rfl ?_
    refine gz_iload_n dX12_begin_10 rfl rfl ?_
    refine scX12_337 (k_X12_isForm (x1 := x1) hS ) hS.1 ⟨(Nat.le_of_ble_eq_true rfl), (Nat.le_of_ble_eq_true rfl)⟩ ⟨(Nat.le_of_ble_eq_true rfl), (Nat.le_of_ble_eq_true rfl)⟩ rfl rfl (Nat.le_of_ble_eq_true rfl) dX12_begin_11 ?_
    rintro r_1 f9 ⟨hb_1, y9⟩; rw [y9]
    try rw [(show n 5 = (n 5) from rfl)] at hb_1
    have hbb_1 : r_1 = 0 ∨ r_1 = 1 := hb_1.imp_right And.left
    simp only [fl_eq, Int32.reduceToInt] at hb_1
    refine gz_if_eq (tgt := 38) dX12_begin_14 (by decide) (fun c_14 => ?_) (fun c_14 => ?_)
    ·
      try simp only [mIn_0, lgc_lt, lgc_gt, lgc_le, lgc_ge, lgc_eq] at c_14
      try simp only [fl_lt, fl_le, fl_eq, fL_w, fL_lt, fL_le, tm1, tm10k, tm9, tm99, Int32.reduceToInt, Int64.reduceToInt, Int.not_lt, Int.not_le] at c_14
      refine gz_iconst (v := (-1)) dX12_begin_38 (by decide) ?_
      have hxx : fx [1, 30, 38, 43] [29] [31, 32, 33, 35, 36, 39, 40, 41, 42, 44] [28, 34, 37, 45] n z F G n z F G := fx_rf
      exact gz_iret rfl dX12_begin_39 (Nat.le_of_ble_eq_true rfl) (Nat.le_of_ble_eq_true rfl) (⟨_, rfl, _, _, _, _, hS, hxx, hR⟩)
    ·
      try simp only [mIn_0, lgc_lt, lgc_gt, lgc_le, lgc_ge, lgc_eq] at c_14
      try simp only [fl_lt, fl_le, fl_eq, fL_w, fL_lt, fL_le, tm1, tm10k, tm9, tm99, Int32.reduceToInt, Int64.reduceToInt, Int.not_lt, Int.not_le] at c_14
      refine gz_aload_n dX12_begin_17 rfl rfl ?_
      refine gz_iload_n dX12_begin_18 rfl rfl ?_
      refine scX12_397 (k_X12_isHouse (x1 := x2) hS ) hS.1 ⟨(Nat.le_of_ble_eq_true rfl), (Nat.le_of_ble_eq_true rfl)⟩ ⟨(Nat.le_of_ble_eq_true rfl), (Nat.le_of_ble_eq_true rfl)⟩ rfl rfl (Nat.le_of_ble_eq_true rfl) dX12_begin_19 ?_
      rintro r_2 f9 ⟨hb_2, y9⟩; rw [y9]
      have hbb_2 : r_2 = 0 ∨ r_2 = 1 := hb_2.imp_right And.left
      simp only [fl_eq, Int32.reduceToInt] at hb_2
      refine gz_if_eq (tgt := 38) dX12_begin_22 (by decide) (fun c_22 => ?_) (fun c_22 => ?_)
      ·
        try simp only [mIn_0, lgc_lt, lgc_gt, lgc_le, lgc_ge, lgc_eq] at c_22
        try simp only [fl_lt, fl_le, fl_eq, fL_w, fL_lt, fL_le, tm1, tm10k, tm9, tm99, Int32.reduceToInt, Int64.reduceToInt, Int.not_lt, Int.not_le] at c_22
        refine gz_iconst (v := (-1)) dX12_begin_38 (by decide) ?_
        have hxx : fx [1, 30, 38, 43] [29] [31, 32, 33, 35, 36, 39, 40, 41, 42, 44] [28, 34, 37, 45] n z F G n z F G := fx_rf
        exact gz_iret rfl dX12_begin_39 (Nat.le_of_ble_eq_true rfl) (Nat.le_of_ble_eq_true rfl) (⟨_, rfl, _, _, _, _, hS, hxx, hR⟩)
      ·
        try simp only [mIn_0, lgc_lt, lgc_gt, lgc_le, lgc_ge, lgc_eq] at c_22
        try simp only [fl_lt, fl_le, fl_eq, fL_w, fL_lt, fL_le, tm1, tm10k, tm9, tm99, Int32.reduceToInt, Int64.reduceToInt, Int.not_lt, Int.not_le] at c_22
        refine gz_aload_n dX12_begin_25 rfl rfl ?_
        refine gz_iload_n dX12_begin_26 rfl rfl ?_
        refine scX12_397 (k_X12_isHouse (x1 := x3) hS ) hS.1 ⟨(Nat.le_of_ble_eq_true rfl), (Nat.le_of_ble_eq_true rfl)⟩ ⟨(Nat.le_of_ble_eq_true rfl), (Nat.le_of_ble_eq_true rfl)⟩ rfl rfl (Nat.le_of_ble_eq_true rfl) dX12_begin_27 ?_
        rintro r_3 f9 ⟨hb_3, y9⟩; rw [y9]
        have hbb_3 : r_3 = 0 ∨ r_3 = 1 := hb_3.imp_right And.left
        simp only [fl_eq, Int32.reduceToInt] at hb_3
        refine gz_if_eq (tgt := 38) dX12_begin_30 (by decide) (fun c_30 => ?_) (fun c_30 => ?_)
        ·
          try simp only [mIn_0, lgc_lt, lgc_gt, lgc_le, lgc_ge, lgc_eq] at c_30
          try simp only [fl_lt, fl_le, fl_eq, fL_w, fL_lt, fL_le, tm1, tm10k, tm9, tm99, Int32.reduceToInt, Int64.reduceToInt, Int.not_lt, Int.not_le] at c_30
          refine gz_iconst (v := (-1)) dX12_begin_38 (by decide) ?_
          have hxx : fx [1, 30, 38, 43] [29] [31, 32, 33, 35, 36, 39, 40, 41, 42, 44] [28, 34, 37, 45] n z F G n z F G := fx_rf
          exact gz_iret rfl dX12_begin_39 (Nat.le_of_ble_eq_true rfl) (Nat.le_of_ble_eq_true rfl) (⟨_, rfl, _, _, _, _, hS, hxx, hR⟩)
        ·
          try simp only [mIn_0, lgc_lt, lgc_gt, lgc_le, lgc_ge, lgc_eq] at c_30
          try simp only [fl_lt, fl_le, fl_eq, fL_w, fL_lt, fL_le, tm1, tm10k, tm9, tm99, Int32.reduceToInt, Int64.reduceToInt, Int.not_lt, Int.not_le] at c_30
          refine gz_iload_n dX12_begin_33 rfl rfl ?_
          refine gz_iload_n dX12_begin_34 rfl rfl ?_
          refine gz_icmp_ne (tgt := 40) dX12_begin_35 (by decide) (fun c_35 => ?_) (fun c_35 => ?_)
          ·
            try simp only [mIn_0, lgc_lt, lgc_gt, lgc_le, lgc_ge, lgc_eq] at c_35
            try simp only [fl_lt, fl_le, fl_eq, fL_w, fL_lt, fL_le, tm1, tm10k, tm9, tm99, Int32.reduceToInt, Int64.reduceToInt, Int.not_lt, Int.not_le] at c_35
            refine gz_aload_n dX12_begin_40 rfl rfl ?_
            refine mg_97 hS dX12_begin_41 ?_
            refine gz_aload_n dX12_begin_44 rfl rfl ?_
            refine mg_394 hS dX12_begin_45 ?_
            refine gz_iload_n dX12_begin_48 rfl rfl ?_
            refine m_iast 31 hS rfl (N := 40) rfl ((by exact vin_T (rfl : ((n 30)).toInt = ((n 30)).toInt) (by omega) (by omega))) dX12_begin_49 (fun f_4 hS_4q => ?_)
            have hS_4 : mS cy m a f0 n z (va_up F 31 (upd (F 31) (Int32.toNatClampNeg (n 30)) x1)) G f_4 := hS_4q
            refine gz_aload_n dX12_begin_50 rfl rfl ?_
            refine mg_100 hS_4 dX12_begin_51 ?_
            refine gz_aload_n dX12_begin_54 rfl rfl ?_
            refine mg_394 hS_4 dX12_begin_55 ?_
            refine gz_ev (w := .int (n 30)) rfl ?_
            refine gz_iload_n dX12_begin_58 rfl rfl ?_
            refine m_iast 32 hS_4 rfl (N := 40) rfl ((by exact vin_T (rfl : ((n 30)).toInt = ((n 30)).toInt) (by omega) (by omega))) dX12_begin_59 (fun f_5 hS_5q => ?_)
            have hS_5 : mS cy m a f0 n z (va_up (va_up F 31 (upd (F 31) (Int32.toNatClampNeg (n 30)) x1)) 32 (upd (F 32) (Int32.toNatClampNeg (n 30)) x2)) G f_5 := hS_5q
            refine gz_aload_n dX12_begin_60 rfl rfl ?_
            refine mg_103 hS_5 dX12_begin_61 ?_
            refine gz_aload_n dX12_begin_64 rfl rfl ?_
            refine mg_394 hS_5 dX12_begin_65 ?_
            refine gz_ev (w := .int (n 30)) rfl ?_
            refine gz_iload_n dX12_begin_68 rfl rfl ?_
            refine m_iast 33 hS_5 rfl (N := 40) rfl ((by exact vin_T (rfl : ((n 30)).toInt = ((n 30)).toInt) (by omega) (by omega))) dX12_begin_69 (fun f_6 hS_6q => ?_)
            have hS_6 : mS cy m a f0 n z (va_up (va_up (va_up F 31 (upd (F 31) (Int32.toNatClampNeg (n 30)) x1)) 32 (upd (F 32) (Int32.toNatClampNeg (n 30)) x2)) 33 (upd (F 33) (Int32.toNatClampNeg (n 30)) x3)) G f_6 := hS_6q
            refine gz_aload_n dX12_begin_70 rfl rfl ?_
            refine gz_dup dX12_begin_71 rfl ?_
            refine mg_394 hS_6 dX12_begin_72 ?_
            refine gz_ev (w := .int (n 30)) rfl ?_
            refine gz_iconst (v := 1) dX12_begin_75 (by decide) ?_
            refine gz_iadd dX12_begin_76 ?_
            refine mp_394 hS_6 dX12_begin_77 (fun f_7 hS_7 => ?_)
            refine gz_aload_n dX12_begin_80 rfl rfl ?_
            have hx1_ : fx [30] [] [31, 32, 33] [] n z F G (va_up n 30 ((n 30) + 1)) z (va_up (va_up (va_up F 31 (upd (F 31) (Int32.toNatClampNeg (n 30)) x1)) 32 (upd (F 32) (Int32.toNatClampNeg (n 30)) x2)) 33 (upd (F 33) (Int32.toNatClampNeg (n 30)) x3)) G := (fx_n (fx_F (fx_F (fx_F fx_rf (by decide)) (by decide)) (by decide)) (by decide))
            have e30 : ((va_up n 30 ((n 30) + 1)) 30).toInt = (n 30).toInt + 1 := (by (try rw [(show (va_up n 30 ((n 30) + 1)) 30 = ((n 30) + 1) from rfl)]); have q1_ := (T_add (rfl : ((n 30)).toInt = ((n 30)).toInt) (show (1 : Int32).toInt = 1 from rfl) (by omega)); omega)
            have hR1 : RI (va_up n 30 ((n 30) + 1)) (va_up (va_up (va_up F 31 (upd (F 31) (Int32.toNatClampNeg (n 30)) x1)) 32 (upd (F 32) (Int32.toNatClampNeg (n 30)) x2)) 33 (upd (F 33) (Int32.toNatClampNeg (n 30)) x3)) := RI_w hR (fun k hk => hx1_.2.2.1 k ((by decide : ∀ k : Nat, k ∈ wK → k ∉ ([31, 32, 33] : List Nat)) k hk)) rfl a0 a4 (by rw [e30]; omega) (by rw [e30]; exact rL_new bL (fun k hk => hx1_.2.2.1 k ((by decide : ∀ k : Nat, k ∈ ([6, 7, 35, 36] : List Nat) → k ∉ ([31, 32, 33] : List Nat)) k hk)) rfl rfl (by omega) (by omega)) a38 (by rw [e30]; exact rPy_mo (rPy_cg2 bP rfl) (by omega)) a53 a47 a88
            refine scX12_400 (k_X12_asNow hS_7 a0) hS_7.1 ⟨(Nat.le_of_ble_eq_true rfl), (Nat.le_of_ble_eq_true rfl)⟩ ⟨(Nat.le_of_ble_eq_true rfl), (Nat.le_of_ble_eq_true rfl)⟩ rfl rfl (Nat.le_of_ble_eq_true rfl) dX12_begin_81 ?_
            rintro f_8 ⟨n_8, z_8, F_8, G_8, hS_8, hx8⟩
            have hR2 := RI_fx hR1 hx8 (by decide) (by decide)
            refine gz_aload_n dX12_begin_84 rfl rfl ?_
            refine gz_aload_n dX12_begin_85 rfl rfl ?_
            refine mg_394 hS_8 dX12_begin_86 ?_
            refine gz_ev (w := .int ((n 30) + 1)) (congrArg Value.int (hx8.1 30 (by decide))) ?_
            refine gz_iconst (v := 1) dX12_begin_89 (by decide) ?_
            refine gz_isub dX12_begin_90 ?_
            refine gz_bipush (v := 40) dX12_begin_91 (by decide) ?_
            refine gz_iload_n dX12_begin_93 rfl rfl ?_
            refine gz_imul dX12_begin_94 ?_
            refine gz_lconst (v := 1) dX12_begin_95 (by decide) ?_
            have qx : (40 * x1).toInt = 40 * x1.toInt := T_mul (show (40 : Int32).toInt = 40 from rfl) rfl (by omega)
            have qb := (bW (Int32.toNatClampNeg x1) (by have := clI (i := x1) (by omega); omega)).1
            have hv0 : vW F (n 5).toInt (40 * x1).toInt := ⟨Int32.toNatClampNeg x1, 0, by have := clI (i := x1) (by omega); omega, by omega, by have := clI (i := x1) (by omega); omega⟩
            have e30j : (n_8 30).toInt = (n 30).toInt + 1 := by rw [hx8.1 30 (by decide)]; exact e30
            refine scX12_403 (k_X12_acquires (x1 := (((n 30) + 1) - 1)) (x2 := (40 * x1)) hS_8 hR2 (by have q9 := (T_sub (T_add (rfl : ((n 30)).toInt = ((n 30)).toInt) (show (1 : Int32).toInt = 1 from rfl) (by omega)) (show (1 : Int32).toInt = 1 from rfl) (by omega)); rw [e30j]; omega) (by rw [(show n_8 5 = (n 5) from (hx8.1 5 (by decide)))]; exact vW_cg ((hx8.2.2.1 6 (by decide)).trans rfl) hv0)) hS_8.1 ⟨(Nat.le_of_ble_eq_true rfl), (Nat.le_of_ble_eq_true rfl)⟩ ⟨(Nat.le_of_ble_eq_true rfl), (Nat.le_of_ble_eq_true rfl)⟩ rfl rfl (Nat.le_of_ble_eq_true rfl) dX12_begin_96 ?_
            rintro f_9 ⟨n_9, z_9, F_9, G_9, hS_9, hx9, hR_9, hm_9⟩
            refine gz_aload_n dX12_begin_99 rfl rfl ?_
            refine mg_394 hS_9 dX12_begin_100 ?_
            refine gz_ev (w := .int ((n 30) + 1)) (congrArg Value.int ((hx9.1 30 (by decide)).trans (hx8.1 30 (by decide)))) ?_
            refine gz_iconst (v := 1) dX12_begin_103 (by decide) ?_
            refine gz_isub dX12_begin_104 ?_
            have hxx : fx [1, 30, 38, 43] [29] [31, 32, 33, 35, 36, 39, 40, 41, 42, 44] [28, 34, 37, 45] n z F G n_9 z_9 F_9 G_9 := (fx_tr (fx_tr (fx_n (fx_F (fx_F (fx_F fx_rf (by decide)) (by decide)) (by decide)) (by decide)) hx8 (by decide)) hx9 (by decide))
            exact gz_iret rfl dX12_begin_105 (Nat.le_of_ble_eq_true rfl) (Nat.le_of_ble_eq_true rfl) (⟨_, rfl, _, _, _, _, hS_9, hxx, hR_9⟩)
          ·
            try simp only [mIn_0, lgc_lt, lgc_gt, lgc_le, lgc_ge, lgc_eq] at c_35
            try simp only [fl_lt, fl_le, fl_eq, fL_w, fL_lt, fL_le, tm1, tm10k, tm9, tm99, Int32.reduceToInt, Int64.reduceToInt, Int.not_lt, Int.not_le] at c_35
            refine gz_iconst (v := (-1)) dX12_begin_38 (by decide) ?_
            have hxx : fx [1, 30, 38, 43] [29] [31, 32, 33, 35, 36, 39, 40, 41, 42, 44] [28, 34, 37, 45] n z F G n z F G := fx_rf
            exact gz_iret rfl dX12_begin_39 (Nat.le_of_ble_eq_true rfl) (Nat.le_of_ble_eq_true rfl) (⟨_, rfl, _, _, _, _, hS, hxx, hR⟩)

set_option maxHeartbeats 4000000 in
set_option maxRecDepth 100000 in
theorem k_X12_standing {l : Launch} {D : va_G} {cy : Nat → ClassId} {b : Nat} {f : gMem} {m : Nat} {a : Nat → Nat} {f0 : gMem} {n : Nat → Int32} {z : Nat → Int64} {F : Nat → Nat → Int32} {G : Nat → Nat → Int64}  {x1 x2 x3 : Int32} (hS : mS cy m a f0 n z F G f) (hR : RI n F) : gC l D cy b yX12_standing cX12_standing 5 (some .int) 3 0 0 [.ref m, .int x1, .int x2, .int x3] f (pI fun r f2 => ∃ (n2 : Nat → Int32) (z2 : Nat → Int64) (F2 : Nat → Nat → Int32) (G2 : Nat → Nat → Int64), mS cy m a f0 n2 z2 F2 G2 f2 ∧ fx [] [29] [] [28] n z F G n2 z2 F2 G2 ∧ RI n2 F2) := by
  obtain ⟨a0, a4, a5, bA, bW, a30, bL, a38, bP, a53, a47, a88⟩ := id hR
  refine gC_of (by decide) (Nat.le_of_ble_eq_true rfl) ?_
  show gG l _ _ _ D cy b cX12_standing 5 _ RX12 "standing" 0 0 f 0 [(0, .ref m), (1, .int x1), (2, .int x2), (3, .int x3)] []
  refine gz_aload_n dX12_standing_0 rfl rfl ?_
  refine gz_iload_n dX12_standing_1 rfl rfl ?_
  refine gz_iload_n dX12_standing_2 rfl rfl ?_
  refine scX12_416 (k_X12_isStanding (x1 := x1) (x2 := x2) hS a30.2 bL) hS.1 ⟨(Nat.le_of_ble_eq_true rfl), (Nat.le_of_ble_eq_true rfl)⟩ ⟨(Nat.le_of_ble_eq_true rfl), (Nat.le_of_ble_eq_true rfl)⟩ rfl rfl (Nat.le_of_ble_eq_true rfl) dX12_standing_3 ?_
  rintro r_1 f9 ⟨hb_1, y9⟩; rw [y9]
  have hbb_1 : r_1 = 0 ∨ r_1 = 1 := hb_1.imp_right And.left
  simp only [fl_eq, Int32.reduceToInt] at hb_1
  refine gz_if_ne (tgt := 11) dX12_standing_6 (by decide) (fun c_6 => ?_) (fun c_6 => ?_)
  ·
    try simp only [mIn_0, lgc_lt, lgc_gt, lgc_le, lgc_ge, lgc_eq] at c_6
    try simp only [fl_lt, fl_le, fl_eq, fL_w, fL_lt, fL_le, tm1, tm10k, tm9, tm99, Int32.reduceToInt, Int64.reduceToInt, Int.not_lt, Int.not_le] at c_6
    refine gz_aload_n dX12_standing_11 rfl rfl ?_
    refine mg_112 hS dX12_standing_12 ?_
    refine gz_bipush (v := 40) dX12_standing_15 (by decide) ?_
    refine gz_iload_n dX12_standing_17 rfl rfl ?_
    refine gz_imul dX12_standing_18 ?_
    refine gz_iload_n dX12_standing_19 rfl rfl ?_
    refine gz_iadd dX12_standing_20 ?_
    refine m_iald 36 hS rfl (N := 1600) rfl ((by have qL := bL (Int32.toNatClampNeg x1) (by have := clI (i := x1) (by omega); omega); have q9 := (T_add (T_mul (show (40 : Int32).toInt = 40 from rfl) (rfl : (x1).toInt = (x1).toInt) (by omega)) (rfl : (x2).toInt = (x2).toInt) (by omega)); exact vin_T q9 (by omega) (by omega))) dX12_standing_21 ?_
    have qst : 0 ≤ x1.toInt ∧ x1.toInt < (n 30).toInt ∧ 0 ≤ x2.toInt ∧ x2.toInt < (F 35 (Int32.toNatClampNeg x1)).toInt := by omega
    have qc1 := clI (i := x1) (by omega)
    have qL := bL (Int32.toNatClampNeg x1) (by omega)
    have qc2 := clI (i := x2) (by omega)
    have qi : (40 * x1 + x2).toInt = 40 * x1.toInt + x2.toInt := T_add (T_mul (show (40 : Int32).toInt = 40 from rfl) rfl (by omega)) rfl (by omega)
    obtain ⟨wv, hwv⟩ : ∃ wv, wv = ((F 36) (Int32.toNatClampNeg ((40 * x1) + x2))) := ⟨_, rfl⟩
    refine gz_ev (w := .int wv) (congrArg Value.int hwv.symm) ?_
    have hv : vS F (n 5).toInt wv := by rw [hwv, show Int32.toNatClampNeg (40 * x1 + x2) = 40 * (Int32.toNatClampNeg x1) + Int32.toNatClampNeg x2 by have := clI (i := 40 * x1 + x2) (by omega); omega]; exact rL_S bL (by omega) (by omega)
    have qv := vW_lt bW a5 hv.1
    have qk : (F 7 (Int32.toNatClampNeg wv)).toInt = 4 ∨ (F 7 (Int32.toNatClampNeg wv)).toInt = 6 ∨ (F 7 (Int32.toNatClampNeg wv)).toInt = 7 := hv.2
    refine gz_istore (lv' := [(4, .int wv), (0, .ref m), (1, .int x1), (2, .int x2), (3, .int x3)]) dX12_standing_22 (by decide) rfl ?_
    refine gz_aload_n dX12_standing_24 rfl rfl ?_
    refine scX12_400 (k_X12_asNow hS a0) hS.1 ⟨(Nat.le_of_ble_eq_true rfl), (Nat.le_of_ble_eq_true rfl)⟩ ⟨(Nat.le_of_ble_eq_true rfl), (Nat.le_of_ble_eq_true rfl)⟩ rfl rfl (Nat.le_of_ble_eq_true rfl) dX12_standing_25 ?_
    rintro f_2 ⟨n_2, z_2, F_2, G_2, hS_2, hx2⟩
    have hxa := hx2
    refine gz_iload_n dX12_standing_28 rfl rfl ?_
    by_cases hw_29_0 : x3 = 0
    ·
      refine gz_ev (w := .int 0) (congrArg Value.int hw_29_0) ?_
      refine gz_tableIn (off := 43) (tgt := 72) dX12_standing_29 (by decide) (by decide) rfl (by decide) ?_
      refine gz_iload dX12_standing_72 rfl ?_
      refine gz_bipush (v := 40) dX12_standing_74 (by decide) ?_
      refine gz_irem dX12_standing_76 (by decide) ?_
      have hxx : fx [] [29] [] [28] n z F G n_2 z_2 F_2 G_2 := (fx_tr fx_rf hx2 (by decide))
      exact gz_iret rfl dX12_standing_77 (Nat.le_of_ble_eq_true rfl) (Nat.le_of_ble_eq_true rfl) (⟨_, rfl, _, _, _, _, hS_2, hxx, RI_fx hR hxx (by decide) (by decide)⟩)
    ·
      by_cases hw_29_1 : x3 = 1
      ·
        refine gz_ev (w := .int 1) (congrArg Value.int hw_29_1) ?_
        refine gz_tableIn (off := 49) (tgt := 78) dX12_standing_29 (by decide) (by decide) rfl (by decide) ?_
        refine gz_aload_n dX12_standing_78 rfl rfl ?_
        refine mg_20 hS_2 dX12_standing_79 ?_
        refine gz_iload dX12_standing_82 rfl ?_
        refine m_iald 7 hS_2 rfl (N := 880) rfl ((by exact vin_T (rfl : (wv).toInt = (wv).toInt) (by omega) (by omega))) dX12_standing_84 ?_
        refine gz_ev (w := .int ((F 7) (Int32.toNatClampNeg wv))) (congrArg Value.int (congrFun (hx2.2.2.1 7 (by decide)) _)) ?_
        have hxx : fx [] [29] [] [28] n z F G n_2 z_2 F_2 G_2 := (fx_tr fx_rf hx2 (by decide))
        exact gz_iret rfl dX12_standing_85 (Nat.le_of_ble_eq_true rfl) (Nat.le_of_ble_eq_true rfl) (⟨_, rfl, _, _, _, _, hS_2, hxx, RI_fx hR hxx (by decide) (by decide)⟩)
      ·
        by_cases hw_29_2 : x3 = 2
        ·
          refine gz_ev (w := .int 2) (congrArg Value.int hw_29_2) ?_
          refine gz_tableIn (off := 57) (tgt := 86) dX12_standing_29 (by decide) (by decide) rfl (by decide) ?_
          refine gz_aload_n dX12_standing_86 rfl rfl ?_
          refine gz_iload_n dX12_standing_87 rfl rfl ?_
          refine gz_iload dX12_standing_88 rfl ?_
          refine scX12_419 (k_X12_choosing (x1 := x1) (x2 := wv) hS_2 (by omega) (by rw [(show n_2 5 = (n 5) from (hx2.1 5 (by decide)))]; exact a5) (rAll_w (fun k hk => hxa.2.2.1 k ((by decide : ∀ k : Nat, k ∈ wK → k ∉ ([] : List Nat)) k hk)) bA) (by rw [(show n_2 5 = (n 5) from (hx2.1 5 (by decide)))]; exact rW_w (fun k hk => hxa.2.2.1 k ((by decide : ∀ k : Nat, k ∈ wK → k ∉ ([] : List Nat)) k hk)) bW) (by rw [(show n_2 5 = (n 5) from (hx2.1 5 (by decide)))]; exact vW_cg (hxa.2.2.1 6 (by decide)) hv.1)) hS_2.1 ⟨(Nat.le_of_ble_eq_true rfl), (Nat.le_of_ble_eq_true rfl)⟩ ⟨(Nat.le_of_ble_eq_true rfl), (Nat.le_of_ble_eq_true rfl)⟩ rfl rfl (Nat.le_of_ble_eq_true rfl) dX12_standing_90 ?_
          rintro r_3 f9 ⟨-, y9⟩; rw [y9]
          have hxx : fx [] [29] [] [28] n z F G n_2 z_2 F_2 G_2 := (fx_tr fx_rf hx2 (by decide))
          exact gz_iret rfl dX12_standing_93 (Nat.le_of_ble_eq_true rfl) (Nat.le_of_ble_eq_true rfl) (⟨_, rfl, _, _, _, _, hS_2, hxx, RI_fx hR hxx (by decide) (by decide)⟩)
        ·
          by_cases hw_29_3 : x3 = 3
          ·
            refine gz_ev (w := .int 3) (congrArg Value.int hw_29_3) ?_
            refine gz_tableIn (off := 65) (tgt := 94) dX12_standing_29 (by decide) (by decide) rfl (by decide) ?_
            refine gz_aload_n dX12_standing_94 rfl rfl ?_
            refine mg_115 hS_2 dX12_standing_95 ?_
            refine gz_bipush (v := 40) dX12_standing_98 (by decide) ?_
            refine gz_iload_n dX12_standing_100 rfl rfl ?_
            refine gz_imul dX12_standing_101 ?_
            refine gz_iload_n dX12_standing_102 rfl rfl ?_
            refine gz_iadd dX12_standing_103 ?_
            refine m_lald 37 hS_2 rfl (N := 1600) rfl ((by have qL := bL (Int32.toNatClampNeg x1) (by have := clI (i := x1) (by omega); omega); have q9 := (T_add (T_mul (show (40 : Int32).toInt = 40 from rfl) (rfl : (x1).toInt = (x1).toInt) (by omega)) (rfl : (x2).toInt = (x2).toInt) (by omega)); exact vin_T q9 (by omega) (by omega))) dX12_standing_104 ?_
            refine gz_ev (w := .long ((G 37) (Int32.toNatClampNeg ((40 * x1) + x2)))) (congrArg Value.long (congrFun (hx2.2.2.2 37 (by decide)) _)) ?_
            refine gz_l2i dX12_standing_105 ?_
            have hxx : fx [] [29] [] [28] n z F G n_2 z_2 F_2 G_2 := (fx_tr fx_rf hx2 (by decide))
            exact gz_iret rfl dX12_standing_106 (Nat.le_of_ble_eq_true rfl) (Nat.le_of_ble_eq_true rfl) (⟨_, rfl, _, _, _, _, hS_2, hxx, RI_fx hR hxx (by decide) (by decide)⟩)
          ·
            by_cases hw_29_4 : x3 = 4
            ·
              refine gz_ev (w := .int 4) (congrArg Value.int hw_29_4) ?_
              refine gz_tableIn (off := 78) (tgt := 107) dX12_standing_29 (by decide) (by decide) rfl (by decide) ?_
              refine gz_aload_n dX12_standing_107 rfl rfl ?_
              refine gz_iload dX12_standing_108 rfl ?_
              refine scX12_351 (k_X12_capOf (x1 := wv) hS_2 (by rw [(show n_2 5 = (n 5) from (hx2.1 5 (by decide)))]; exact a5) (rAll_w (fun k hk => hxa.2.2.1 k ((by decide : ∀ k : Nat, k ∈ wK → k ∉ ([] : List Nat)) k hk)) bA) (by rw [(show n_2 5 = (n 5) from (hx2.1 5 (by decide)))]; exact rW_w (fun k hk => hxa.2.2.1 k ((by decide : ∀ k : Nat, k ∈ wK → k ∉ ([] : List Nat)) k hk)) bW) (by rw [(show n_2 5 = (n 5) from (hx2.1 5 (by decide)))]; exact vW_cg (hxa.2.2.1 6 (by decide)) hv.1)) hS_2.1 ⟨(Nat.le_of_ble_eq_true rfl), (Nat.le_of_ble_eq_true rfl)⟩ ⟨(Nat.le_of_ble_eq_true rfl), (Nat.le_of_ble_eq_true rfl)⟩ rfl rfl (Nat.le_of_ble_eq_true rfl) dX12_standing_110 ?_
              rintro r_4 f9 ⟨hb_4, y9⟩; rw [y9]
              have hxx : fx [] [29] [] [28] n z F G n_2 z_2 F_2 G_2 := (fx_tr fx_rf hx2 (by decide))
              exact gz_iret rfl dX12_standing_113 (Nat.le_of_ble_eq_true rfl) (Nat.le_of_ble_eq_true rfl) (⟨_, rfl, _, _, _, _, hS_2, hxx, RI_fx hR hxx (by decide) (by decide)⟩)
            ·
              by_cases hw_29_5 : x3 = 5
              ·
                refine gz_ev (w := .int 5) (congrArg Value.int hw_29_5) ?_
                refine gz_tableIn (off := 85) (tgt := 114) dX12_standing_29 (by decide) (by decide) rfl (by decide) ?_
                refine gz_aload_n dX12_standing_114 rfl rfl ?_
                refine gz_iload dX12_standing_115 rfl ?_
                refine scX12_422 (k_X12_untils (x1 := wv) hS_2 (by rw [(show n_2 5 = (n 5) from (hx2.1 5 (by decide)))]; exact a5) (rAll_w (fun k hk => hxa.2.2.1 k ((by decide : ∀ k : Nat, k ∈ wK → k ∉ ([] : List Nat)) k hk)) bA) (by rw [(show n_2 5 = (n 5) from (hx2.1 5 (by decide)))]; exact rW_w (fun k hk => hxa.2.2.1 k ((by decide : ∀ k : Nat, k ∈ wK → k ∉ ([] : List Nat)) k hk)) bW) (by rw [(show n_2 5 = (n 5) from (hx2.1 5 (by decide)))]; exact vW_cg (hxa.2.2.1 6 (by decide)) hv.1)) hS_2.1 ⟨(Nat.le_of_ble_eq_true rfl), (Nat.le_of_ble_eq_true rfl)⟩ ⟨(Nat.le_of_ble_eq_true rfl), (Nat.le_of_ble_eq_true rfl)⟩ rfl rfl (Nat.le_of_ble_eq_true rfl) dX12_standing_117 ?_
                rintro r_5 f9 ⟨hb_5, y9⟩; rw [y9]
                have hxx : fx [] [29] [] [28] n z F G n_2 z_2 F_2 G_2 := (fx_tr fx_rf hx2 (by decide))
                exact gz_iret rfl dX12_standing_120 (Nat.le_of_ble_eq_true rfl) (Nat.le_of_ble_eq_true rfl) (⟨_, rfl, _, _, _, _, hS_2, hxx, RI_fx hR hxx (by decide) (by decide)⟩)
              ·
                by_cases hw_29_6 : x3 = 6
                ·
                  refine gz_ev (w := .int 6) (congrArg Value.int hw_29_6) ?_
                  refine gz_tableIn (off := 92) (tgt := 121) dX12_standing_29 (by decide) (by decide) rfl (by decide) ?_
                  refine gz_aload_n dX12_standing_121 rfl rfl ?_
                  refine mg_20 hS_2 dX12_standing_122 ?_
                  refine gz_iload dX12_standing_125 rfl ?_
                  refine m_iald 7 hS_2 rfl (N := 880) rfl ((by exact vin_T (rfl : (wv).toInt = (wv).toInt) (by omega) (by omega))) dX12_standing_127 ?_
                  refine gz_ev (w := .int ((F 7) (Int32.toNatClampNeg wv))) (congrArg Value.int (congrFun (hx2.2.2.1 7 (by decide)) _)) ?_
                  refine gz_iconst (v := 4) dX12_standing_128 (by decide) ?_
                  refine gz_icmp_eq (tgt := 141) dX12_standing_129 (by decide) (fun c_129 => ?_) (fun c_129 => ?_)
                  ·
                    try simp only [mIn_0, lgc_lt, lgc_gt, lgc_le, lgc_ge, lgc_eq] at c_129
                    try simp only [fl_lt, fl_le, fl_eq, fL_w, fL_lt, fL_le, tm1, tm10k, tm9, tm99, Int32.reduceToInt, Int64.reduceToInt, Int.not_lt, Int.not_le] at c_129
                    refine gz_iconst (v := 1) dX12_standing_141 (by decide) ?_
                    refine gz_goto (tgt := 146) dX12_standing_142 (by decide) ?_
                    have hxx : fx [] [29] [] [28] n z F G n_2 z_2 F_2 G_2 := (fx_tr fx_rf hx2 (by decide))
                    exact gz_iret rfl dX12_standing_146 (Nat.le_of_ble_eq_true rfl) (Nat.le_of_ble_eq_true rfl) (⟨_, rfl, _, _, _, _, hS_2, hxx, RI_fx hR hxx (by decide) (by decide)⟩)
                  ·
                    try simp only [mIn_0, lgc_lt, lgc_gt, lgc_le, lgc_ge, lgc_eq] at c_129
                    try simp only [fl_lt, fl_le, fl_eq, fL_w, fL_lt, fL_le, tm1, tm10k, tm9, tm99, Int32.reduceToInt, Int64.reduceToInt, Int.not_lt, Int.not_le] at c_129
                    refine gz_aload_n dX12_standing_132 rfl rfl ?_
                    refine gz_iload dX12_standing_133 rfl ?_
                    refine scX12_348 (k_X12_holds (x1 := wv) hS_2 (rAll_w (fun k hk => hxa.2.2.1 k ((by decide : ∀ k : Nat, k ∈ wK → k ∉ ([] : List Nat)) k hk)) bA) (by omega)) hS_2.1 ⟨(Nat.le_of_ble_eq_true rfl), (Nat.le_of_ble_eq_true rfl)⟩ ⟨(Nat.le_of_ble_eq_true rfl), (Nat.le_of_ble_eq_true rfl)⟩ rfl rfl (Nat.le_of_ble_eq_true rfl) dX12_standing_135 ?_
                    rintro r_6 f9 ⟨hb_6, y9⟩; rw [y9]
                    refine gz_if_eq (tgt := 145) dX12_standing_138 (by decide) (fun c_138 => ?_) (fun c_138 => ?_)
                    ·
                      try simp only [mIn_0, lgc_lt, lgc_gt, lgc_le, lgc_ge, lgc_eq] at c_138
                      try simp only [fl_lt, fl_le, fl_eq, fL_w, fL_lt, fL_le, tm1, tm10k, tm9, tm99, Int32.reduceToInt, Int64.reduceToInt, Int.not_lt, Int.not_le] at c_138
                      refine gz_iconst (v := 0) dX12_standing_145 (by decide) ?_
                      have hxx : fx [] [29] [] [28] n z F G n_2 z_2 F_2 G_2 := (fx_tr fx_rf hx2 (by decide))
                      exact gz_iret rfl dX12_standing_146 (Nat.le_of_ble_eq_true rfl) (Nat.le_of_ble_eq_true rfl) (⟨_, rfl, _, _, _, _, hS_2, hxx, RI_fx hR hxx (by decide) (by decide)⟩)
                    ·
                      try simp only [mIn_0, lgc_lt, lgc_gt, lgc_le, lgc_ge, lgc_eq] at c_138
                      try simp only [fl_lt, fl_le, fl_eq, fL_w, fL_lt, fL_le, tm1, tm10k, tm9, tm99, Int32.reduceToInt, Int64.reduceToInt, Int.not_lt, Int.not_le] at c_138
                      refine gz_iconst (v := 1) dX12_standing_141 (by decide) ?_
                      refine gz_goto (tgt := 146) dX12_standing_142 (by decide) ?_
                      have hxx : fx [] [29] [] [28] n z F G n_2 z_2 F_2 G_2 := (fx_tr fx_rf hx2 (by decide))
                      exact gz_iret rfl dX12_standing_146 (Nat.le_of_ble_eq_true rfl) (Nat.le_of_ble_eq_true rfl) (⟨_, rfl, _, _, _, _, hS_2, hxx, RI_fx hR hxx (by decide) (by decide)⟩)
                ·
                  refine gz_tableOut (tgt := 147) dX12_standing_29 (by have g0 : x3.toInt ≠ 0 := fun e => hw_29_0 (Int32.toInt_inj.mp (e.trans rfl)); have g1 : x3.toInt ≠ 1 := fun e => hw_29_1 (Int32.toInt_inj.mp (e.trans rfl)); have g2 : x3.toInt ≠ 2 := fun e => hw_29_2 (Int32.toInt_inj.mp (e.trans rfl)); have g3 : x3.toInt ≠ 3 := fun e => hw_29_3 (Int32.toInt_inj.mp (e.trans rfl)); have g4 : x3.toInt ≠ 4 := fun e => hw_29_4 (Int32.toInt_inj.mp (e.trans rfl)); have g5 : x3.toInt ≠ 5 := fun e => hw_29_5 (Int32.toInt_inj.mp (e.trans rfl)); have g6 : x3.toInt ≠ 6 := fun e => hw_29_6 (Int32.toInt_inj.mp (e.trans rfl)); omega) (by decide) ?_
                  refine gz_iconst (v := (-1)) dX12_standing_147 (by decide) ?_
                  have hxx : fx [] [29] [] [28] n z F G n_2 z_2 F_2 G_2 := (fx_tr fx_rf hx2 (by decide))
                  exact gz_iret rfl dX12_standing_148 (Nat.le_of_ble_eq_true rfl) (Nat.le_of_ble_eq_true rfl) (⟨_, rfl, _, _, _, _, hS_2, hxx, RI_fx hR hxx (by decide) (by decide)⟩)
  ·
    try simp only [mIn_0, lgc_lt, lgc_gt, lgc_le, lgc_ge, lgc_eq] at c_6
    try simp only [fl_lt, fl_le, fl_eq, fL_w, fL_lt, fL_le, tm1, tm10k, tm9, tm99, Int32.reduceToInt, Int64.reduceToInt, Int.not_lt, Int.not_le] at c_6
    refine gz_iconst (v := (-1)) dX12_standing_9 (by decide) ?_
    have hxx : fx [] [29] [] [28] n z F G n z F G := fx_rf
    exact gz_iret rfl dX12_standing_10 (Nat.le_of_ble_eq_true rfl) (Nat.le_of_ble_eq_true rfl) (⟨_, rfl, _, _, _, _, hS, hxx, RI_fx hR hxx (by decide) (by decide)⟩)

set_option maxHeartbeats 4000000 in
set_option maxRecDepth 100000 in
theorem k_X12_take {l : Launch} {D : va_G} {cy : Nat → ClassId} {b : Nat} {f : gMem} {m : Nat} {a : Nat → Nat} {f0 : gMem} {n : Nat → Int32} {z : Nat → Int64} {F : Nat → Nat → Int32} {G : Nat → Nat → Int64}  {x1 x2 x3 : Int32} (hS : mS cy m a f0 n z F G f) (hR : RI n F) : gC l D cy b yX12_take cX12_take 8 (some .int) 4 0 0 [.ref m, .int x1, .int x2, .int x3] f (pI fun r f2 => ∃ (n2 : Nat → Int32) (z2 : Nat → Int64) (F2 : Nat → Nat → Int32) (G2 : Nat → Nat → Int64), mS cy m a f0 n2 z2 F2 G2 f2 ∧ fx [1, 38, 43] [29] [35, 36, 39, 40, 41, 42, 44] [28, 34, 37, 45] n z F G n2 z2 F2 G2 ∧ RI n2 F2) := by
  obtain ⟨a0, a4, a5, bA, bW, a30, bL, a38, bP, a53, a47, a88⟩ := id hR
  refine gC_of (by decide) (Nat.le_of_ble_eq_true rfl) ?_
  show gG l _ _ _ D cy b cX12_take 8 _ RX12 "take" 0 0 f 0 [(0, .ref m), (1, .int x1), (2, .int x2), (3, .int x3)] []
  refine gz_aload_n dX12_take_0 rfl rfl ?_
  refine gz_iload_n dX12_take_1 rfl rfl ?_
  refine gz_iload_n dX12_take_2 rfl rfl ?_
  refine scX12_416 (k_X12_isStanding (x1 := x1) (x2 := x2) hS a30.2 bL) hS.1 ⟨(Nat.le_of_ble_eq_true rfl), (Nat.le_of_ble_eq_true rfl)⟩ ⟨(Nat.le_of_ble_eq_true rfl), (Nat.le_of_ble_eq_true rfl)⟩ rfl rfl (Nat.le_of_ble_eq_true rfl) dX12_take_3 ?_
  rintro r_1 f9 ⟨hb_1, y9⟩; rw [y9]
  have hbb_1 : r_1 = 0 ∨ r_1 = 1 := hb_1.imp_right And.left
  simp only [fl_eq, Int32.reduceToInt] at hb_1
  refine gz_if_ne (tgt := 11) dX12_take_6 (by decide) (fun c_6 => ?_) (fun c_6 => ?_)
  ·
    try simp only [mIn_0, lgc_lt, lgc_gt, lgc_le, lgc_ge, lgc_eq] at c_6
    try simp only [fl_lt, fl_le, fl_eq, fL_w, fL_lt, fL_le, tm1, tm10k, tm9, tm99, Int32.reduceToInt, Int64.reduceToInt, Int.not_lt, Int.not_le] at c_6
    refine gz_aload_n dX12_take_11 rfl rfl ?_
    refine mg_112 hS dX12_take_12 ?_
    refine gz_bipush (v := 40) dX12_take_15 (by decide) ?_
    refine gz_iload_n dX12_take_17 rfl rfl ?_
    refine gz_imul dX12_take_18 ?_
    refine gz_iload_n dX12_take_19 rfl rfl ?_
    refine gz_iadd dX12_take_20 ?_
    refine m_iald 36 hS rfl (N := 1600) rfl ((by have qL := bL (Int32.toNatClampNeg x1) (by have := clI (i := x1) (by omega); omega); have q9 := (T_add (T_mul (show (40 : Int32).toInt = 40 from rfl) (rfl : (x1).toInt = (x1).toInt) (by omega)) (rfl : (x2).toInt = (x2).toInt) (by omega)); exact vin_T q9 (by omega) (by omega))) dX12_take_21 ?_
    have qst : 0 ≤ x1.toInt ∧ x1.toInt < (n 30).toInt ∧ 0 ≤ x2.toInt ∧ x2.toInt < (F 35 (Int32.toNatClampNeg x1)).toInt := by omega
    have qc1 := clI (i := x1) (by omega)
    have qL := bL (Int32.toNatClampNeg x1) (by omega)
    have qc2 := clI (i := x2) (by omega)
    have qi : (40 * x1 + x2).toInt = 40 * x1.toInt + x2.toInt := T_add (T_mul (show (40 : Int32).toInt = 40 from rfl) rfl (by omega)) rfl (by omega)
    obtain ⟨wv, hwv⟩ : ∃ wv, wv = ((F 36) (Int32.toNatClampNeg ((40 * x1) + x2))) := ⟨_, rfl⟩
    refine gz_ev (w := .int wv) (congrArg Value.int hwv.symm) ?_
    have hv : vS F (n 5).toInt wv := by rw [hwv, show Int32.toNatClampNeg (40 * x1 + x2) = 40 * (Int32.toNatClampNeg x1) + Int32.toNatClampNeg x2 by have := clI (i := 40 * x1 + x2) (by omega); omega]; exact rL_S bL (by omega) (by omega)
    have qv := vW_lt bW a5 hv.1
    have qk : (F 7 (Int32.toNatClampNeg wv)).toInt = 4 ∨ (F 7 (Int32.toNatClampNeg wv)).toInt = 6 ∨ (F 7 (Int32.toNatClampNeg wv)).toInt = 7 := hv.2
    refine gz_istore (lv' := [(4, .int wv), (0, .ref m), (1, .int x1), (2, .int x2), (3, .int x3)]) dX12_take_22 (by decide) rfl ?_
    refine gz_aload_n dX12_take_24 rfl rfl ?_
    refine mg_115 hS dX12_take_25 ?_
    refine gz_bipush (v := 40) dX12_take_28 (by decide) ?_
    refine gz_iload_n dX12_take_30 rfl rfl ?_
    refine gz_imul dX12_take_31 ?_
    refine gz_iload_n dX12_take_32 rfl rfl ?_
    refine gz_iadd dX12_take_33 ?_
    refine m_lald 37 hS rfl (N := 1600) rfl ((by have qL := bL (Int32.toNatClampNeg x1) (by have := clI (i := x1) (by omega); omega); have q9 := (T_add (T_mul (show (40 : Int32).toInt = 40 from rfl) (rfl : (x1).toInt = (x1).toInt) (by omega)) (rfl : (x2).toInt = (x2).toInt) (by omega)); exact vin_T q9 (by omega) (by omega))) dX12_take_34 ?_
    refine gz_lstore (lv' := [(5, .long ((G 37) (Int32.toNatClampNeg ((40 * x1) + x2)))), (4, .int wv), (0, .ref m), (1, .int x1), (2, .int x2), (3, .int x3)]) dX12_take_35 (by decide) rfl ?_
    refine gz_aload_n dX12_take_37 rfl rfl ?_
    refine scX12_400 (k_X12_asNow hS a0) hS.1 ⟨(Nat.le_of_ble_eq_true rfl), (Nat.le_of_ble_eq_true rfl)⟩ ⟨(Nat.le_of_ble_eq_true rfl), (Nat.le_of_ble_eq_true rfl)⟩ rfl rfl (Nat.le_of_ble_eq_true rfl) dX12_take_38 ?_
    rintro f_2 ⟨n_2, z_2, F_2, G_2, hS_2, hx2⟩
    have hxa := hx2
    refine gz_aload_n dX12_take_41 rfl rfl ?_
    refine mg_20 hS_2 dX12_take_42 ?_
    refine gz_iload dX12_take_45 rfl ?_
    refine m_iald 7 hS_2 rfl (N := 880) rfl ((by exact vin_T (rfl : (wv).toInt = (wv).toInt) (by omega) (by omega))) dX12_take_47 ?_
    refine gz_ev (w := .int ((F 7) (Int32.toNatClampNeg wv))) (congrArg Value.int (congrFun (hx2.2.2.1 7 (by decide)) _)) ?_
    refine gz_bipush (v := 7) dX12_take_48 (by decide) ?_
    refine gz_icmp_ne (tgt := 82) dX12_take_50 (by decide) (fun c_50 => ?_) (fun c_50 => ?_)
    ·
      try simp only [mIn_0, lgc_lt, lgc_gt, lgc_le, lgc_ge, lgc_eq] at c_50
      try simp only [fl_lt, fl_le, fl_eq, fL_w, fL_lt, fL_le, tm1, tm10k, tm9, tm99, Int32.reduceToInt, Int64.reduceToInt, Int.not_lt, Int.not_le] at c_50
      refine gz_iconst (v := (-1)) dX12_take_82 (by decide) ?_
      have hxx : fx [1, 38, 43] [29] [35, 36, 39, 40, 41, 42, 44] [28, 34, 37, 45] n z F G n_2 z_2 F_2 G_2 := (fx_tr fx_rf hx2 (by decide))
      exact gz_iret rfl dX12_take_83 (Nat.le_of_ble_eq_true rfl) (Nat.le_of_ble_eq_true rfl) (⟨_, rfl, _, _, _, _, hS_2, hxx, RI_fx hR hxa (by decide) (by decide)⟩)
    ·
      try simp only [mIn_0, lgc_lt, lgc_gt, lgc_le, lgc_ge, lgc_eq] at c_50
      try simp only [fl_lt, fl_le, fl_eq, fL_w, fL_lt, fL_le, tm1, tm10k, tm9, tm99, Int32.reduceToInt, Int64.reduceToInt, Int.not_lt, Int.not_le] at c_50
      refine gz_iload_n dX12_take_53 rfl rfl ?_
      refine gz_aload_n dX12_take_54 rfl rfl ?_
      refine gz_iload_n dX12_take_55 rfl rfl ?_
      refine gz_iload dX12_take_56 rfl ?_
      refine scX12_419 (k_X12_choosing (x1 := x1) (x2 := wv) hS_2 (by omega) (by rw [(show n_2 5 = (n 5) from (hx2.1 5 (by decide)))]; exact a5) (rAll_w (fun k hk => hxa.2.2.1 k ((by decide : ∀ k : Nat, k ∈ wK → k ∉ ([] : List Nat)) k hk)) bA) (by rw [(show n_2 5 = (n 5) from (hx2.1 5 (by decide)))]; exact rW_w (fun k hk => hxa.2.2.1 k ((by decide : ∀ k : Nat, k ∈ wK → k ∉ ([] : List Nat)) k hk)) bW) (by rw [(show n_2 5 = (n 5) from (hx2.1 5 (by decide)))]; exact vW_cg (hxa.2.2.1 6 (by decide)) hv.1)) hS_2.1 ⟨(Nat.le_of_ble_eq_true rfl), (Nat.le_of_ble_eq_true rfl)⟩ ⟨(Nat.le_of_ble_eq_true rfl), (Nat.le_of_ble_eq_true rfl)⟩ rfl rfl (Nat.le_of_ble_eq_true rfl) dX12_take_58 ?_
      rintro r_3 f9 ⟨-, y9⟩; rw [y9]
      refine gz_icmp_ne (tgt := 82) dX12_take_61 (by decide) (fun c_61 => ?_) (fun c_61 => ?_)
      ·
        try simp only [mIn_0, lgc_lt, lgc_gt, lgc_le, lgc_ge, lgc_eq] at c_61
        try simp only [fl_lt, fl_le, fl_eq, fL_w, fL_lt, fL_le, tm1, tm10k, tm9, tm99, Int32.reduceToInt, Int64.reduceToInt, Int.not_lt, Int.not_le] at c_61
        refine gz_iconst (v := (-1)) dX12_take_82 (by decide) ?_
        have hxx : fx [1, 38, 43] [29] [35, 36, 39, 40, 41, 42, 44] [28, 34, 37, 45] n z F G n_2 z_2 F_2 G_2 := (fx_tr fx_rf hx2 (by decide))
        exact gz_iret rfl dX12_take_83 (Nat.le_of_ble_eq_true rfl) (Nat.le_of_ble_eq_true rfl) (⟨_, rfl, _, _, _, _, hS_2, hxx, RI_fx hR hxa (by decide) (by decide)⟩)
      ·
        try simp only [mIn_0, lgc_lt, lgc_gt, lgc_le, lgc_ge, lgc_eq] at c_61
        try simp only [fl_lt, fl_le, fl_eq, fL_w, fL_lt, fL_le, tm1, tm10k, tm9, tm99, Int32.reduceToInt, Int64.reduceToInt, Int.not_lt, Int.not_le] at c_61
        refine gz_aload_n dX12_take_64 rfl rfl ?_
        refine gz_iload dX12_take_65 rfl ?_
        refine scX12_374 (k_X12_isLapsed (x1 := wv) hS_2 (by rw [(show n_2 5 = (n 5) from (hx2.1 5 (by decide)))]; exact a5) (rAll_w (fun k hk => hxa.2.2.1 k ((by decide : ∀ k : Nat, k ∈ wK → k ∉ ([] : List Nat)) k hk)) bA) (by rw [(show n_2 5 = (n 5) from (hx2.1 5 (by decide)))]; exact rW_w (fun k hk => hxa.2.2.1 k ((by decide : ∀ k : Nat, k ∈ wK → k ∉ ([] : List Nat)) k hk)) bW) (by rw [(show n_2 5 = (n 5) from (hx2.1 5 (by decide)))]; exact vW_cg (hxa.2.2.1 6 (by decide)) hv.1)) hS_2.1 ⟨(Nat.le_of_ble_eq_true rfl), (Nat.le_of_ble_eq_true rfl)⟩ ⟨(Nat.le_of_ble_eq_true rfl), (Nat.le_of_ble_eq_true rfl)⟩ rfl rfl (Nat.le_of_ble_eq_true rfl) dX12_take_67 ?_
        rintro r_4 f9 ⟨hb_4, y9⟩; rw [y9]
        refine gz_if_ne (tgt := 82) dX12_take_70 (by decide) (fun c_70 => ?_) (fun c_70 => ?_)
        ·
          try simp only [mIn_0, lgc_lt, lgc_gt, lgc_le, lgc_ge, lgc_eq] at c_70
          try simp only [fl_lt, fl_le, fl_eq, fL_w, fL_lt, fL_le, tm1, tm10k, tm9, tm99, Int32.reduceToInt, Int64.reduceToInt, Int.not_lt, Int.not_le] at c_70
          refine gz_iconst (v := (-1)) dX12_take_82 (by decide) ?_
          have hxx : fx [1, 38, 43] [29] [35, 36, 39, 40, 41, 42, 44] [28, 34, 37, 45] n z F G n_2 z_2 F_2 G_2 := (fx_tr fx_rf hx2 (by decide))
          exact gz_iret rfl dX12_take_83 (Nat.le_of_ble_eq_true rfl) (Nat.le_of_ble_eq_true rfl) (⟨_, rfl, _, _, _, _, hS_2, hxx, RI_fx hR hxa (by decide) (by decide)⟩)
        ·
          try simp only [mIn_0, lgc_lt, lgc_gt, lgc_le, lgc_ge, lgc_eq] at c_70
          try simp only [fl_lt, fl_le, fl_eq, fL_w, fL_lt, fL_le, tm1, tm10k, tm9, tm99, Int32.reduceToInt, Int64.reduceToInt, Int.not_lt, Int.not_le] at c_70
          refine gz_aload_n dX12_take_73 rfl rfl ?_
          refine gz_iload dX12_take_74 rfl ?_
          refine scX12_348 (k_X12_holds (x1 := wv) hS_2 (rAll_w (fun k hk => hxa.2.2.1 k ((by decide : ∀ k : Nat, k ∈ wK → k ∉ ([] : List Nat)) k hk)) bA) (by omega)) hS_2.1 ⟨(Nat.le_of_ble_eq_true rfl), (Nat.le_of_ble_eq_true rfl)⟩ ⟨(Nat.le_of_ble_eq_true rfl), (Nat.le_of_ble_eq_true rfl)⟩ rfl rfl (Nat.le_of_ble_eq_true rfl) dX12_take_76 ?_
          rintro r_5 f9 ⟨hb_5, y9⟩; rw [y9]
          refine gz_if_ne (tgt := 84) dX12_take_79 (by decide) (fun c_79 => ?_) (fun c_79 => ?_)
          ·
            try simp only [mIn_0, lgc_lt, lgc_gt, lgc_le, lgc_ge, lgc_eq] at c_79
            try simp only [fl_lt, fl_le, fl_eq, fL_w, fL_lt, fL_le, tm1, tm10k, tm9, tm99, Int32.reduceToInt, Int64.reduceToInt, Int.not_lt, Int.not_le] at c_79
            refine gz_aload_n dX12_take_84 rfl rfl ?_
            refine mg_364 hS_2 dX12_take_85 ?_
            refine gz_ev (w := .int (n 38)) (congrArg Value.int (hx2.1 38 (by decide))) ?_
            refine gz_istore (lv' := [(7, .int (n 38)), (5, .long ((G 37) (Int32.toNatClampNeg ((40 * x1) + x2)))), (4, .int wv), (0, .ref m), (1, .int x1), (2, .int x2), (3, .int x3)]) dX12_take_88 (by decide) rfl ?_
            refine gz_aload_n dX12_take_90 rfl rfl ?_
            refine gz_iload_n dX12_take_91 rfl rfl ?_
            refine gz_iload_n dX12_take_92 rfl rfl ?_
            refine scX12_406 (k_X12_leaves (x1 := x1) (x2 := x2) hS_2 (RI_fx hR hxa (by decide) (by decide)) (by rw [(show n_2 30 = (n 30) from (hx2.1 30 (by decide)))]; omega) (by rw [hxa.2.2.1 35 (by decide)]; omega)) hS_2.1 ⟨(Nat.le_of_ble_eq_true rfl), (Nat.le_of_ble_eq_true rfl)⟩ ⟨(Nat.le_of_ble_eq_true rfl), (Nat.le_of_ble_eq_true rfl)⟩ rfl rfl (Nat.le_of_ble_eq_true rfl) dX12_take_93 ?_
            rintro f_6 ⟨n_6, z_6, F_6, G_6, hS_6, hx6, hR_6, h35_6⟩
            have hxb : fx [] [29] [35, 36] [28, 37] n z F G n_6 z_6 F_6 G_6 := (fx_tr (fx_tr fx_rf hx2 (by decide)) hx6 (by decide))
            refine gz_aload_n dX12_take_96 rfl rfl ?_
            refine gz_iload_n dX12_take_97 rfl rfl ?_
            refine gz_aload_n dX12_take_98 rfl rfl ?_
            refine mg_32 hS_6 dX12_take_99 ?_
            refine gz_iload dX12_take_102 rfl ?_
            refine m_iald 11 hS_6 rfl (N := 880) rfl ((by exact vin_T (rfl : (wv).toInt = (wv).toInt) (by omega) (by omega))) dX12_take_104 ?_
            refine gz_ev (w := .int ((F 11) (Int32.toNatClampNeg wv))) (congrArg Value.int (congrFun ((hx6.2.2.1 11 (by decide)).trans (hx2.2.2.1 11 (by decide))) _)) ?_
            refine gz_lload dX12_take_105 rfl ?_
            refine scX12_403 (k_X12_acquires (x1 := x1) (x2 := ((F 11) (Int32.toNatClampNeg wv))) hS_6 hR_6 (by rw [(show n_6 30 = (n 30) from ((hx6.1 30 (by decide)).trans (hx2.1 30 (by decide))))]; omega) (by rw [(show n_6 5 = (n 5) from ((hx6.1 5 (by decide)).trans (hx2.1 5 (by decide))))]; exact vW_cg (hxb.2.2.1 6 (by decide)) (show vW F (n 5).toInt ((F 11) (Int32.toNatClampNeg wv)).toInt from (one_ok bW hv.1 (show 2 ≤ (F 7 (Int32.toNatClampNeg wv)).toInt by omega)).1))) hS_6.1 ⟨(Nat.le_of_ble_eq_true rfl), (Nat.le_of_ble_eq_true rfl)⟩ ⟨(Nat.le_of_ble_eq_true rfl), (Nat.le_of_ble_eq_true rfl)⟩ rfl rfl (Nat.le_of_ble_eq_true rfl) dX12_take_107 ?_
            rintro f_7 ⟨n_7, z_7, F_7, G_7, hS_7, hx7, hR_7, hm_7⟩
            refine gz_aload_n dX12_take_110 rfl rfl ?_
            refine mg_364 hS_7 dX12_take_111 ?_
            refine gz_ev (w := .int (n_7 38)) rfl ?_
            refine gz_iload dX12_take_114 rfl ?_
            refine gz_isub dX12_take_116 ?_
            have hxx : fx [1, 38, 43] [29] [35, 36, 39, 40, 41, 42, 44] [28, 34, 37, 45] n z F G n_7 z_7 F_7 G_7 := (fx_tr (fx_tr (fx_tr fx_rf hx2 (by decide)) hx6 (by decide)) hx7 (by decide))
            exact gz_iret rfl dX12_take_117 (Nat.le_of_ble_eq_true rfl) (Nat.le_of_ble_eq_true rfl) (⟨_, rfl, _, _, _, _, hS_7, hxx, hR_7⟩)
          ·
            try simp only [mIn_0, lgc_lt, lgc_gt, lgc_le, lgc_ge, lgc_eq] at c_79
            try simp only [fl_lt, fl_le, fl_eq, fL_w, fL_lt, fL_le, tm1, tm10k, tm9, tm99, Int32.reduceToInt, Int64.reduceToInt, Int.not_lt, Int.not_le] at c_79
            refine gz_iconst (v := (-1)) dX12_take_82 (by decide) ?_
            have hxx : fx [1, 38, 43] [29] [35, 36, 39, 40, 41, 42, 44] [28, 34, 37, 45] n z F G n_2 z_2 F_2 G_2 := (fx_tr fx_rf hx2 (by decide))
            exact gz_iret rfl dX12_take_83 (Nat.le_of_ble_eq_true rfl) (Nat.le_of_ble_eq_true rfl) (⟨_, rfl, _, _, _, _, hS_2, hxx, RI_fx hR hxa (by decide) (by decide)⟩)
  ·
    try simp only [mIn_0, lgc_lt, lgc_gt, lgc_le, lgc_ge, lgc_eq] at c_6
    try simp only [fl_lt, fl_le, fl_eq, fL_w, fL_lt, fL_le, tm1, tm10k, tm9, tm99, Int32.reduceToInt, Int64.reduceToInt, Int.not_lt, Int.not_le] at c_6
    refine gz_iconst (v := (-1)) dX12_take_9 (by decide) ?_
    have hxx : fx [1, 38, 43] [29] [35, 36, 39, 40, 41, 42, 44] [28, 34, 37, 45] n z F G n z F G := fx_rf
    exact gz_iret rfl dX12_take_10 (Nat.le_of_ble_eq_true rfl) (Nat.le_of_ble_eq_true rfl) (⟨_, rfl, _, _, _, _, hS, hxx, hR⟩)

set_option maxHeartbeats 4000000 in
set_option maxRecDepth 100000 in
theorem k_X12_choose {l : Launch} {D : va_G} {cy : Nat → ClassId} {b : Nat} {f : gMem} {m : Nat} {a : Nat → Nat} {f0 : gMem} {n : Nat → Int32} {z : Nat → Int64} {F : Nat → Nat → Int32} {G : Nat → Nat → Int64}  {x1 x2 x3 x4 : Int32} (hS : mS cy m a f0 n z F G f) (hR : RI n F) : gC l D cy b yX12_choose cX12_choose 9 (some .int) 4 0 0 [.ref m, .int x1, .int x2, .int x3, .int x4] f (pI fun r f2 => ∃ (n2 : Nat → Int32) (z2 : Nat → Int64) (F2 : Nat → Nat → Int32) (G2 : Nat → Nat → Int64), mS cy m a f0 n2 z2 F2 G2 f2 ∧ fx [1, 38, 43] [29] [35, 36, 39, 40, 41, 42, 44] [28, 34, 37, 45] n z F G n2 z2 F2 G2 ∧ RI n2 F2) := by
  obtain ⟨a0, a4, a5, bA, bW, a30, bL, a38, bP, a53, a47, a88⟩ := id hR
  refine gC_of (by decide) (Nat.le_of_ble_eq_true rfl) ?_
  show gG l _ _ _ D cy b cX12_choose 9 _ RX12 "choose" 0 0 f 0 [(0, .ref m), (1, .int x1), (2, .int x2), (3, .int x3), (4, .int x4)] []
  refine gz_aload_n dX12_choose_0 rfl rfl ?_
  refine gz_iload_n dX12_choose_1 rfl rfl ?_
  refine gz_iload_n dX12_choose_2 rfl rfl ?_
  refine scX12_416 (k_X12_isStanding (x1 := x1) (x2 := x2) hS a30.2 bL) hS.1 ⟨(Nat.le_of_ble_eq_true rfl), (Nat.le_of_ble_eq_true rfl)⟩ ⟨(Nat.le_of_ble_eq_true rfl), (Nat.le_of_ble_eq_true rfl)⟩ rfl rfl (Nat.le_of_ble_eq_true rfl) dX12_choose_3 ?_
  rintro r_1 f9 ⟨hb_1, y9⟩; rw [y9]
  have hbb_1 : r_1 = 0 ∨ r_1 = 1 := hb_1.imp_right And.left
  simp only [fl_eq, Int32.reduceToInt] at hb_1
  refine gz_if_eq (tgt := 20) dX12_choose_6 (by decide) (fun c_6 => ?_) (fun c_6 => ?_)
  ·
    try simp only [mIn_0, lgc_lt, lgc_gt, lgc_le, lgc_ge, lgc_eq] at c_6
    try simp only [fl_lt, fl_le, fl_eq, fL_w, fL_lt, fL_le, tm1, tm10k, tm9, tm99, Int32.reduceToInt, Int64.reduceToInt, Int.not_lt, Int.not_le] at c_6
    refine gz_iconst (v := (-1)) dX12_choose_20 (by decide) ?_
    have hxx : fx [1, 38, 43] [29] [35, 36, 39, 40, 41, 42, 44] [28, 34, 37, 45] n z F G n z F G := fx_rf
    exact gz_iret rfl dX12_choose_21 (Nat.le_of_ble_eq_true rfl) (Nat.le_of_ble_eq_true rfl) (⟨_, rfl, _, _, _, _, hS, hxx, hR⟩)
  ·
    try simp only [mIn_0, lgc_lt, lgc_gt, lgc_le, lgc_ge, lgc_eq] at c_6
    try simp only [fl_lt, fl_le, fl_eq, fL_w, fL_lt, fL_le, tm1, tm10k, tm9, tm99, Int32.reduceToInt, Int64.reduceToInt, Int.not_lt, Int.not_le] at c_6
    refine gz_iload dX12_choose_9 rfl ?_
    refine gz_i2l dX12_choose_11 ?_
    refine gz_lconst (v := 0) dX12_choose_12 (by decide) ?_
    refine gz_lconst (v := 1) dX12_choose_13 (by decide) ?_
    refine scX12_245 (k_X12_in (x := x4.toInt64) (y := 0) (w := 1)) ⟨(Nat.le_of_ble_eq_true rfl), (Nat.le_of_ble_eq_true rfl)⟩ ⟨(Nat.le_of_ble_eq_true rfl), (Nat.le_of_ble_eq_true rfl)⟩ rfl rfl (Nat.le_of_ble_eq_true rfl) dX12_choose_14 ?_
    intro v9 f9 z9; rw [z9.1, z9.2]
    refine gz_if_ne (tgt := 22) dX12_choose_17 (by decide) (fun c_17 => ?_) (fun c_17 => ?_)
    ·
      try simp only [mIn_0, lgc_lt, lgc_gt, lgc_le, lgc_ge, lgc_eq] at c_17
      try simp only [fl_lt, fl_le, fl_eq, fL_w, fL_lt, fL_le, tm1, tm10k, tm9, tm99, Int32.reduceToInt, Int64.reduceToInt, Int.not_lt, Int.not_le] at c_17
      refine gz_aload_n dX12_choose_22 rfl rfl ?_
      refine mg_112 hS dX12_choose_23 ?_
      refine gz_bipush (v := 40) dX12_choose_26 (by decide) ?_
      refine gz_iload_n dX12_choose_28 rfl rfl ?_
      refine gz_imul dX12_choose_29 ?_
      refine gz_iload_n dX12_choose_30 rfl rfl ?_
      refine gz_iadd dX12_choose_31 ?_
      refine m_iald 36 hS rfl (N := 1600) rfl ((by have qL := bL (Int32.toNatClampNeg x1) (by have := clI (i := x1) (by omega); omega); have q9 := (T_add (T_mul (show (40 : Int32).toInt = 40 from rfl) (rfl : (x1).toInt = (x1).toInt) (by omega)) (rfl : (x2).toInt = (x2).toInt) (by omega)); exact vin_T q9 (by omega) (by omega))) dX12_choose_32 ?_
      have qst : 0 ≤ x1.toInt ∧ x1.toInt < (n 30).toInt ∧ 0 ≤ x2.toInt ∧ x2.toInt < (F 35 (Int32.toNatClampNeg x1)).toInt := by omega
      have qc1 := clI (i := x1) (by omega)
      have qL := bL (Int32.toNatClampNeg x1) (by omega)
      have qc2 := clI (i := x2) (by omega)
      have qi : (40 * x1 + x2).toInt = 40 * x1.toInt + x2.toInt := T_add (T_mul (show (40 : Int32).toInt = 40 from rfl) rfl (by omega)) rfl (by omega)
      obtain ⟨wv, hwv⟩ : ∃ wv, wv = ((F 36) (Int32.toNatClampNeg ((40 * x1) + x2))) := ⟨_, rfl⟩
      refine gz_ev (w := .int wv) (congrArg Value.int hwv.symm) ?_
      have hv : vS F (n 5).toInt wv := by rw [hwv, show Int32.toNatClampNeg (40 * x1 + x2) = 40 * (Int32.toNatClampNeg x1) + Int32.toNatClampNeg x2 by have := clI (i := 40 * x1 + x2) (by omega); omega]; exact rL_S bL (by omega) (by omega)
      have qv := vW_lt bW a5 hv.1
      have qk : (F 7 (Int32.toNatClampNeg wv)).toInt = 4 ∨ (F 7 (Int32.toNatClampNeg wv)).toInt = 6 ∨ (F 7 (Int32.toNatClampNeg wv)).toInt = 7 := hv.2
      refine gz_istore (lv' := [(5, .int wv), (0, .ref m), (1, .int x1), (2, .int x2), (3, .int x3), (4, .int x4)]) dX12_choose_33 (by decide) rfl ?_
      refine gz_aload_n dX12_choose_35 rfl rfl ?_
      refine mg_115 hS dX12_choose_36 ?_
      refine gz_bipush (v := 40) dX12_choose_39 (by decide) ?_
      refine gz_iload_n dX12_choose_41 rfl rfl ?_
      refine gz_imul dX12_choose_42 ?_
      refine gz_iload_n dX12_choose_43 rfl rfl ?_
      refine gz_iadd dX12_choose_44 ?_
      refine m_lald 37 hS rfl (N := 1600) rfl ((by have qL := bL (Int32.toNatClampNeg x1) (by have := clI (i := x1) (by omega); omega); have q9 := (T_add (T_mul (show (40 : Int32).toInt = 40 from rfl) (rfl : (x1).toInt = (x1).toInt) (by omega)) (rfl : (x2).toInt = (x2).toInt) (by omega)); exact vin_T q9 (by omega) (by omega))) dX12_choose_45 ?_
      refine gz_lstore (lv' := [(6, .long ((G 37) (Int32.toNatClampNeg ((40 * x1) + x2)))), (5, .int wv), (0, .ref m), (1, .int x1), (2, .int x2), (3, .int x3), (4, .int x4)]) dX12_choose_46 (by decide) rfl ?_
      refine gz_aload_n dX12_choose_48 rfl rfl ?_
      refine scX12_400 (k_X12_asNow hS a0) hS.1 ⟨(Nat.le_of_ble_eq_true rfl), (Nat.le_of_ble_eq_true rfl)⟩ ⟨(Nat.le_of_ble_eq_true rfl), (Nat.le_of_ble_eq_true rfl)⟩ rfl rfl (Nat.le_of_ble_eq_true rfl) dX12_choose_49 ?_
      rintro f_2 ⟨n_2, z_2, F_2, G_2, hS_2, hx2⟩
      have hxa := hx2
      refine gz_aload_n dX12_choose_52 rfl rfl ?_
      refine mg_20 hS_2 dX12_choose_53 ?_
      refine gz_iload dX12_choose_56 rfl ?_
      refine m_iald 7 hS_2 rfl (N := 880) rfl ((by exact vin_T (rfl : (wv).toInt = (wv).toInt) (by omega) (by omega))) dX12_choose_58 ?_
      refine gz_ev (w := .int ((F 7) (Int32.toNatClampNeg wv))) (congrArg Value.int (congrFun (hx2.2.2.1 7 (by decide)) _)) ?_
      refine gz_iconst (v := 4) dX12_choose_59 (by decide) ?_
      refine gz_icmp_ne (tgt := 83) dX12_choose_60 (by decide) (fun c_60 => ?_) (fun c_60 => ?_)
      ·
        try simp only [mIn_0, lgc_lt, lgc_gt, lgc_le, lgc_ge, lgc_eq] at c_60
        try simp only [fl_lt, fl_le, fl_eq, fL_w, fL_lt, fL_le, tm1, tm10k, tm9, tm99, Int32.reduceToInt, Int64.reduceToInt, Int.not_lt, Int.not_le] at c_60
        refine gz_iconst (v := (-1)) dX12_choose_83 (by decide) ?_
        have hxx : fx [1, 38, 43] [29] [35, 36, 39, 40, 41, 42, 44] [28, 34, 37, 45] n z F G n_2 z_2 F_2 G_2 := (fx_tr fx_rf hx2 (by decide))
        exact gz_iret rfl dX12_choose_84 (Nat.le_of_ble_eq_true rfl) (Nat.le_of_ble_eq_true rfl) (⟨_, rfl, _, _, _, _, hS_2, hxx, RI_fx hR hxa (by decide) (by decide)⟩)
      ·
        try simp only [mIn_0, lgc_lt, lgc_gt, lgc_le, lgc_ge, lgc_eq] at c_60
        try simp only [fl_lt, fl_le, fl_eq, fL_w, fL_lt, fL_le, tm1, tm10k, tm9, tm99, Int32.reduceToInt, Int64.reduceToInt, Int.not_lt, Int.not_le] at c_60
        refine gz_iload_n dX12_choose_63 rfl rfl ?_
        refine gz_aload_n dX12_choose_64 rfl rfl ?_
        refine gz_iload_n dX12_choose_65 rfl rfl ?_
        refine gz_iload dX12_choose_66 rfl ?_
        refine scX12_419 (k_X12_choosing (x1 := x1) (x2 := wv) hS_2 (by omega) (by rw [(show n_2 5 = (n 5) from (hx2.1 5 (by decide)))]; exact a5) (rAll_w (fun k hk => hxa.2.2.1 k ((by decide : ∀ k : Nat, k ∈ wK → k ∉ ([] : List Nat)) k hk)) bA) (by rw [(show n_2 5 = (n 5) from (hx2.1 5 (by decide)))]; exact rW_w (fun k hk => hxa.2.2.1 k ((by decide : ∀ k : Nat, k ∈ wK → k ∉ ([] : List Nat)) k hk)) bW) (by rw [(show n_2 5 = (n 5) from (hx2.1 5 (by decide)))]; exact vW_cg (hxa.2.2.1 6 (by decide)) hv.1)) hS_2.1 ⟨(Nat.le_of_ble_eq_true rfl), (Nat.le_of_ble_eq_true rfl)⟩ ⟨(Nat.le_of_ble_eq_true rfl), (Nat.le_of_ble_eq_true rfl)⟩ rfl rfl (Nat.le_of_ble_eq_true rfl) dX12_choose_68 ?_
        rintro r_3 f9 ⟨-, y9⟩; rw [y9]
        refine gz_icmp_ne (tgt := 83) dX12_choose_71 (by decide) (fun c_71 => ?_) (fun c_71 => ?_)
        ·
          try simp only [mIn_0, lgc_lt, lgc_gt, lgc_le, lgc_ge, lgc_eq] at c_71
          try simp only [fl_lt, fl_le, fl_eq, fL_w, fL_lt, fL_le, tm1, tm10k, tm9, tm99, Int32.reduceToInt, Int64.reduceToInt, Int.not_lt, Int.not_le] at c_71
          refine gz_iconst (v := (-1)) dX12_choose_83 (by decide) ?_
          have hxx : fx [1, 38, 43] [29] [35, 36, 39, 40, 41, 42, 44] [28, 34, 37, 45] n z F G n_2 z_2 F_2 G_2 := (fx_tr fx_rf hx2 (by decide))
          exact gz_iret rfl dX12_choose_84 (Nat.le_of_ble_eq_true rfl) (Nat.le_of_ble_eq_true rfl) (⟨_, rfl, _, _, _, _, hS_2, hxx, RI_fx hR hxa (by decide) (by decide)⟩)
        ·
          try simp only [mIn_0, lgc_lt, lgc_gt, lgc_le, lgc_ge, lgc_eq] at c_71
          try simp only [fl_lt, fl_le, fl_eq, fL_w, fL_lt, fL_le, tm1, tm10k, tm9, tm99, Int32.reduceToInt, Int64.reduceToInt, Int.not_lt, Int.not_le] at c_71
          refine gz_aload_n dX12_choose_74 rfl rfl ?_
          refine gz_iload dX12_choose_75 rfl ?_
          refine scX12_374 (k_X12_isLapsed (x1 := wv) hS_2 (by rw [(show n_2 5 = (n 5) from (hx2.1 5 (by decide)))]; exact a5) (rAll_w (fun k hk => hxa.2.2.1 k ((by decide : ∀ k : Nat, k ∈ wK → k ∉ ([] : List Nat)) k hk)) bA) (by rw [(show n_2 5 = (n 5) from (hx2.1 5 (by decide)))]; exact rW_w (fun k hk => hxa.2.2.1 k ((by decide : ∀ k : Nat, k ∈ wK → k ∉ ([] : List Nat)) k hk)) bW) (by rw [(show n_2 5 = (n 5) from (hx2.1 5 (by decide)))]; exact vW_cg (hxa.2.2.1 6 (by decide)) hv.1)) hS_2.1 ⟨(Nat.le_of_ble_eq_true rfl), (Nat.le_of_ble_eq_true rfl)⟩ ⟨(Nat.le_of_ble_eq_true rfl), (Nat.le_of_ble_eq_true rfl)⟩ rfl rfl (Nat.le_of_ble_eq_true rfl) dX12_choose_77 ?_
          rintro r_4 f9 ⟨hb_4, y9⟩; rw [y9]
          refine gz_if_eq (tgt := 85) dX12_choose_80 (by decide) (fun c_80 => ?_) (fun c_80 => ?_)
          ·
            try simp only [mIn_0, lgc_lt, lgc_gt, lgc_le, lgc_ge, lgc_eq] at c_80
            try simp only [fl_lt, fl_le, fl_eq, fL_w, fL_lt, fL_le, tm1, tm10k, tm9, tm99, Int32.reduceToInt, Int64.reduceToInt, Int.not_lt, Int.not_le] at c_80
            refine gz_aload_n dX12_choose_85 rfl rfl ?_
            refine mg_364 hS_2 dX12_choose_86 ?_
            refine gz_ev (w := .int (n 38)) (congrArg Value.int (hx2.1 38 (by decide))) ?_
            refine gz_istore (lv' := [(8, .int (n 38)), (6, .long ((G 37) (Int32.toNatClampNeg ((40 * x1) + x2)))), (5, .int wv), (0, .ref m), (1, .int x1), (2, .int x2), (3, .int x3), (4, .int x4)]) dX12_choose_89 (by decide) rfl ?_
            refine gz_aload_n dX12_choose_91 rfl rfl ?_
            refine gz_iload_n dX12_choose_92 rfl rfl ?_
            refine gz_iload_n dX12_choose_93 rfl rfl ?_
            refine scX12_406 (k_X12_leaves (x1 := x1) (x2 := x2) hS_2 (RI_fx hR hxa (by decide) (by decide)) (by rw [(show n_2 30 = (n 30) from (hx2.1 30 (by decide)))]; omega) (by rw [hxa.2.2.1 35 (by decide)]; omega)) hS_2.1 ⟨(Nat.le_of_ble_eq_true rfl), (Nat.le_of_ble_eq_true rfl)⟩ ⟨(Nat.le_of_ble_eq_true rfl), (Nat.le_of_ble_eq_true rfl)⟩ rfl rfl (Nat.le_of_ble_eq_true rfl) dX12_choose_94 ?_
            rintro f_5 ⟨n_5, z_5, F_5, G_5, hS_5, hx5, hR_5, h35_5⟩
            have hxb : fx [] [29] [35, 36] [28, 37] n z F G n_5 z_5 F_5 G_5 := (fx_tr (fx_tr fx_rf hx2 (by decide)) hx5 (by decide))
            refine gz_aload_n dX12_choose_97 rfl rfl ?_
            refine gz_iload_n dX12_choose_98 rfl rfl ?_
            refine gz_iload dX12_choose_99 rfl ?_
            refine gz_if_ne (tgt := 114) dX12_choose_101 (by decide) (fun c_101 => ?_) (fun c_101 => ?_)
            ·
              try simp only [mIn_0, lgc_lt, lgc_gt, lgc_le, lgc_ge, lgc_eq] at c_101
              try simp only [fl_lt, fl_le, fl_eq, fL_w, fL_lt, fL_le, tm1, tm10k, tm9, tm99, Int32.reduceToInt, Int64.reduceToInt, Int.not_lt, Int.not_le] at c_101
              refine gz_aload_n dX12_choose_114 rfl rfl ?_
              refine mg_35 hS_5 dX12_choose_115 ?_
              refine gz_iload dX12_choose_118 rfl ?_
              refine m_iald 12 hS_5 rfl (N := 880) rfl ((by exact vin_T (rfl : (wv).toInt = (wv).toInt) (by omega) (by omega))) dX12_choose_120 ?_
              refine gz_ev (w := .int ((F 12) (Int32.toNatClampNeg wv))) (congrArg Value.int (congrFun ((hx5.2.2.1 12 (by decide)).trans (hx2.2.2.1 12 (by decide))) _)) ?_
              refine gz_lload dX12_choose_121 rfl ?_
              refine scX12_403 (k_X12_acquires (x1 := x1) (x2 := ((F 12) (Int32.toNatClampNeg wv))) hS_5 hR_5 (by rw [(show n_5 30 = (n 30) from ((hx5.1 30 (by decide)).trans (hx2.1 30 (by decide))))]; omega) (by rw [(show n_5 5 = (n 5) from ((hx5.1 5 (by decide)).trans (hx2.1 5 (by decide))))]; exact vW_cg (hxb.2.2.1 6 (by decide)) (show vW F (n 5).toInt ((F 12) (Int32.toNatClampNeg wv)).toInt from (two_ok bW hv.1 (show 3 ≤ (F 7 (Int32.toNatClampNeg wv)).toInt ∧ (F 7 (Int32.toNatClampNeg wv)).toInt ≤ 5 by omega)).1))) hS_5.1 ⟨(Nat.le_of_ble_eq_true rfl), (Nat.le_of_ble_eq_true rfl)⟩ ⟨(Nat.le_of_ble_eq_true rfl), (Nat.le_of_ble_eq_true rfl)⟩ rfl rfl (Nat.le_of_ble_eq_true rfl) dX12_choose_123 ?_
              rintro f_6 ⟨n_6, z_6, F_6, G_6, hS_6, hx6, hR_6, hm_6⟩
              refine gz_aload_n dX12_choose_126 rfl rfl ?_
              refine mg_364 hS_6 dX12_choose_127 ?_
              refine gz_ev (w := .int (n_6 38)) rfl ?_
              refine gz_iload dX12_choose_130 rfl ?_
              refine gz_isub dX12_choose_132 ?_
              have hxx : fx [1, 38, 43] [29] [35, 36, 39, 40, 41, 42, 44] [28, 34, 37, 45] n z F G n_6 z_6 F_6 G_6 := (fx_tr (fx_tr (fx_tr fx_rf hx2 (by decide)) hx5 (by decide)) hx6 (by decide))
              exact gz_iret rfl dX12_choose_133 (Nat.le_of_ble_eq_true rfl) (Nat.le_of_ble_eq_true rfl) (⟨_, rfl, _, _, _, _, hS_6, hxx, hR_6⟩)
            ·
              try simp only [mIn_0, lgc_lt, lgc_gt, lgc_le, lgc_ge, lgc_eq] at c_101
              try simp only [fl_lt, fl_le, fl_eq, fL_w, fL_lt, fL_le, tm1, tm10k, tm9, tm99, Int32.reduceToInt, Int64.reduceToInt, Int.not_lt, Int.not_le] at c_101
              refine gz_aload_n dX12_choose_104 rfl rfl ?_
              refine mg_32 hS_5 dX12_choose_105 ?_
              refine gz_iload dX12_choose_108 rfl ?_
              refine m_iald 11 hS_5 rfl (N := 880) rfl ((by exact vin_T (rfl : (wv).toInt = (wv).toInt) (by omega) (by omega))) dX12_choose_110 ?_
              refine gz_ev (w := .int ((F 11) (Int32.toNatClampNeg wv))) (congrArg Value.int (congrFun ((hx5.2.2.1 11 (by decide)).trans (hx2.2.2.1 11 (by decide))) _)) ?_
              refine gz_goto (tgt := 121) dX12_choose_111 (by decide) ?_
              refine gz_lload dX12_choose_121 rfl ?_
              refine scX12_403 (k_X12_acquires (x1 := x1) (x2 := ((F 11) (Int32.toNatClampNeg wv))) hS_5 hR_5 (by rw [(show n_5 30 = (n 30) from ((hx5.1 30 (by decide)).trans (hx2.1 30 (by decide))))]; omega) (by rw [(show n_5 5 = (n 5) from ((hx5.1 5 (by decide)).trans (hx2.1 5 (by decide))))]; exact vW_cg (hxb.2.2.1 6 (by decide)) (show vW F (n 5).toInt ((F 11) (Int32.toNatClampNeg wv)).toInt from (one_ok bW hv.1 (show 2 ≤ (F 7 (Int32.toNatClampNeg wv)).toInt by omega)).1))) hS_5.1 ⟨(Nat.le_of_ble_eq_true rfl), (Nat.le_of_ble_eq_true rfl)⟩ ⟨(Nat.le_of_ble_eq_true rfl), (Nat.le_of_ble_eq_true rfl)⟩ rfl rfl (Nat.le_of_ble_eq_true rfl) dX12_choose_123 ?_
              rintro f_7 ⟨n_7, z_7, F_7, G_7, hS_7, hx7, hR_7, hm_7⟩
              refine gz_aload_n dX12_choose_126 rfl rfl ?_
              refine mg_364 hS_7 dX12_choose_127 ?_
              refine gz_ev (w := .int (n_7 38)) rfl ?_
              refine gz_iload dX12_choose_130 rfl ?_
              refine gz_isub dX12_choose_132 ?_
              have hxx : fx [1, 38, 43] [29] [35, 36, 39, 40, 41, 42, 44] [28, 34, 37, 45] n z F G n_7 z_7 F_7 G_7 := (fx_tr (fx_tr (fx_tr fx_rf hx2 (by decide)) hx5 (by decide)) hx7 (by decide))
              exact gz_iret rfl dX12_choose_133 (Nat.le_of_ble_eq_true rfl) (Nat.le_of_ble_eq_true rfl) (⟨_, rfl, _, _, _, _, hS_7, hxx, hR_7⟩)
          ·
            try simp only [mIn_0, lgc_lt, lgc_gt, lgc_le, lgc_ge, lgc_eq] at c_80
            try simp only [fl_lt, fl_le, fl_eq, fL_w, fL_lt, fL_le, tm1, tm10k, tm9, tm99, Int32.reduceToInt, Int64.reduceToInt, Int.not_lt, Int.not_le] at c_80
            refine gz_iconst (v := (-1)) dX12_choose_83 (by decide) ?_
            have hxx : fx [1, 38, 43] [29] [35, 36, 39, 40, 41, 42, 44] [28, 34, 37, 45] n z F G n_2 z_2 F_2 G_2 := (fx_tr fx_rf hx2 (by decide))
            exact gz_iret rfl dX12_choose_84 (Nat.le_of_ble_eq_true rfl) (Nat.le_of_ble_eq_true rfl) (⟨_, rfl, _, _, _, _, hS_2, hxx, RI_fx hR hxa (by decide) (by decide)⟩)
    ·
      try simp only [mIn_0, lgc_lt, lgc_gt, lgc_le, lgc_ge, lgc_eq] at c_17
      try simp only [fl_lt, fl_le, fl_eq, fL_w, fL_lt, fL_le, tm1, tm10k, tm9, tm99, Int32.reduceToInt, Int64.reduceToInt, Int.not_lt, Int.not_le] at c_17
      refine gz_iconst (v := (-1)) dX12_choose_20 (by decide) ?_
      have hxx : fx [1, 38, 43] [29] [35, 36, 39, 40, 41, 42, 44] [28, 34, 37, 45] n z F G n z F G := fx_rf
      exact gz_iret rfl dX12_choose_21 (Nat.le_of_ble_eq_true rfl) (Nat.le_of_ble_eq_true rfl) (⟨_, rfl, _, _, _, _, hS, hxx, hR⟩)

set_option maxHeartbeats 4000000 in
set_option maxRecDepth 100000 in
theorem l_X12_day2 {l : Launch} {D : va_G} {cy : Nat → ClassId} {b : Nat} {m : Nat} {a : Nat → Nat} {f0 : gMem} {n0 : Nat → Int32} {z0 : Nat → Int64} {F0 : Nat → Nat → Int32} {G0 : Nat → Nat → Int64}  {x1 bf : Int32} (hq : ∀  (n : Nat → Int32) (z : Nat → Int64) (F : Nat → Nat → Int32) (G : Nat → Nat → Int64) (fm : gMem), mS cy m a f0 n z F G fm → fx [0, 1, 38, 43] [29] [35, 36, 39, 40, 41, 42, 44] [28, 34, 37, 45] n0 z0 F0 G0 n z F G → (RI n F) → (n 0 = n0 0 + 1) → ((n 30).toInt ≤ 40 ∧ 0 ≤ x1.toInt ∧ x1.toInt < (n 30).toInt) → gG l (gRm 4 0 0) (gQf D b (pI fun r f2 => ∃ (n2 : Nat → Int32) (z2 : Nat → Int64) (F2 : Nat → Nat → Int32) (G2 : Nat → Nat → Int64), mS cy m a f0 n2 z2 F2 G2 f2 ∧ fx [0, 1, 38, 43] [29] [35, 36, 39, 40, 41, 42, 44] [28, 34, 37, 45] n0 z0 F0 G0 n2 z2 F2 G2 ∧ RI n2 F2 ∧ n2 0 = n0 0 + 1) 0 0) gTt D cy b cX12_day 10 (some .int) RX12 "day" 0 0 fm 176 [(2, .int x1), (0, .ref m), (1, .int bf)] []) : ∀ (k : Nat) (left x2 : Int32) (n : Nat → Int32) (z : Nat → Int64) (F : Nat → Nat → Int32) (G : Nat → Nat → Int64) (fm : gMem), mS cy m a f0 n z F G fm → fx [0, 1, 38, 43] [29] [35, 36, 39, 40, 41, 42, 44] [28, 34, 37, 45] n0 z0 F0 G0 n z F G → (RI n F) → (n 0 = n0 0 + 1) → (0 ≤ x1.toInt ∧ x1.toInt < (n 30).toInt) → (0 ≤ x2.toInt ∧ x2.toInt + left.toInt ≤ (F 35 (Int32.toNatClampNeg x1)).toInt) → (left.toInt < (k : Int) ∧ 0 ≤ left.toInt) → gG l (gRm 4 0 0) (gQf D b (pI fun r f2 => ∃ (n2 : Nat → Int32) (z2 : Nat → Int64) (F2 : Nat → Nat → Int32) (G2 : Nat → Nat → Int64), mS cy m a f0 n2 z2 F2 G2 f2 ∧ fx [0, 1, 38, 43] [29] [35, 36, 39, 40, 41, 42, 44] [28, 34, 37, 45] n0 z0 F0 G0 n2 z2 F2 G2 ∧ RI n2 F2 ∧ n2 0 = n0 0 + 1) 0 0) gTt D cy b cX12_day 10 (some .int) RX12 "day" 0 0 fm 51 [(4, .int left), (3, .int x2), (2, .int x1), (0, .ref m), (1, .int bf)] [] := by
  intro k
  induction k with
  | zero =>
    intro left x2 n z F G fm hS hx hR h0 hl hc hk
    exfalso; omega
  | succ k ih =>
    intro left x2 n z F G fm hS hx hR h0 hl hc hk
    obtain ⟨a0, a4, a5, bA, bW, a30, bL, a38, bP, a53, a47, a88⟩ := id hR
    have qc1 := clI (i := x1) (by omega)
    have qc2 := clI (i := x2) (by omega)
    have qL := bL (Int32.toNatClampNeg x1) (by omega)
    have qb : left.toInt ≤ 40 := by omega
    have qi : (40 * x1 + x2).toInt = 40 * x1.toInt + x2.toInt := T_add (T_mul (show (40 : Int32).toInt = 40 from rfl) rfl (by omega)) rfl (by omega)
    refine gz_iload dX12_day_51 rfl ?_
    refine gz_if_le (tgt := 176) dX12_day_53 (by decide) (fun c_53 => ?_) (fun c_53 => ?_)
    ·
      try simp only [mIn_0, lgc_lt, lgc_gt, lgc_le, lgc_ge, lgc_eq] at c_53
      try simp only [fl_lt, fl_le, fl_eq, fL_w, fL_lt, fL_le, tm1, tm10k, tm9, tm99, Int32.reduceToInt, Int64.reduceToInt, Int.not_lt, Int.not_le] at c_53
      refine gz_sub (lv' := [(2, .int x1), (0, .ref m), (1, .int bf)]) (by simp [List.lookup]) ?_
      exact hq  _ _ _ _ _ hS hx (hR) (h0) (by omega)
    ·
      try simp only [mIn_0, lgc_lt, lgc_gt, lgc_le, lgc_ge, lgc_eq] at c_53
      try simp only [fl_lt, fl_le, fl_eq, fL_w, fL_lt, fL_le, tm1, tm10k, tm9, tm99, Int32.reduceToInt, Int64.reduceToInt, Int.not_lt, Int.not_le] at c_53
      refine gz_aload_n dX12_day_56 rfl rfl ?_
      refine mg_112 hS dX12_day_57 ?_
      refine gz_bipush (v := 40) dX12_day_60 (by decide) ?_
      refine gz_iload_n dX12_day_62 rfl rfl ?_
      refine gz_imul dX12_day_63 ?_
      refine gz_iload_n dX12_day_64 rfl rfl ?_
      refine gz_iadd dX12_day_65 ?_
      refine m_iald 36 hS rfl (N := 1600) rfl ((by exact vin_T qi (by omega) (by omega))) dX12_day_66 ?_
      obtain ⟨wv, hwv⟩ : ∃ wv, wv = ((F 36) (Int32.toNatClampNeg ((40 * x1) + x2))) := ⟨_, rfl⟩
      refine gz_ev (w := .int wv) (congrArg Value.int hwv.symm) ?_
      have hv : vS F (n 5).toInt wv := by rw [hwv, show Int32.toNatClampNeg (40 * x1 + x2) = 40 * (Int32.toNatClampNeg x1) + Int32.toNatClampNeg x2 by have := clI (i := 40 * x1 + x2) (by omega); omega]; exact rL_S bL (by omega) (by omega)
      have qv := vW_lt bW a5 hv.1
      have qk : (F 7 (Int32.toNatClampNeg wv)).toInt = 4 ∨ (F 7 (Int32.toNatClampNeg wv)).toInt = 6 ∨ (F 7 (Int32.toNatClampNeg wv)).toInt = 7 := hv.2
      refine gz_istore (lv' := [(5, .int wv), (4, .int left), (3, .int x2), (2, .int x1), (0, .ref m), (1, .int bf)]) dX12_day_67 (by decide) rfl ?_
      refine gz_aload_n dX12_day_69 rfl rfl ?_
      refine mg_115 hS dX12_day_70 ?_
      refine gz_bipush (v := 40) dX12_day_73 (by decide) ?_
      refine gz_iload_n dX12_day_75 rfl rfl ?_
      refine gz_imul dX12_day_76 ?_
      refine gz_iload_n dX12_day_77 rfl rfl ?_
      refine gz_iadd dX12_day_78 ?_
      refine m_lald 37 hS rfl (N := 1600) rfl ((by exact vin_T qi (by omega) (by omega))) dX12_day_79 ?_
      refine gz_lstore (lv' := [(6, .long ((G 37) (Int32.toNatClampNeg ((40 * x1) + x2)))), (5, .int wv), (4, .int left), (3, .int x2), (2, .int x1), (0, .ref m), (1, .int bf)]) dX12_day_80 (by decide) rfl ?_
      refine gz_aload_n dX12_day_82 rfl rfl ?_
      refine gz_iload dX12_day_83 rfl ?_
      refine scX12_374 (k_X12_isLapsed (x1 := wv) hS a5 bA bW hv.1) hS.1 ⟨(Nat.le_of_ble_eq_true rfl), (Nat.le_of_ble_eq_true rfl)⟩ ⟨(Nat.le_of_ble_eq_true rfl), (Nat.le_of_ble_eq_true rfl)⟩ rfl rfl (Nat.le_of_ble_eq_true rfl) dX12_day_85 ?_
      rintro r_1 f9 ⟨hb_1, y9⟩; rw [y9]
      refine gz_istore (lv' := [(8, .int r_1), (6, .long ((G 37) (Int32.toNatClampNeg ((40 * x1) + x2)))), (5, .int wv), (4, .int left), (3, .int x2), (2, .int x1), (0, .ref m), (1, .int bf)]) dX12_day_88 (by decide) rfl ?_
      refine gz_iload dX12_day_90 rfl ?_
      refine gz_if_ne (tgt := 127) dX12_day_92 (by decide) (fun c_92 => ?_) (fun c_92 => ?_)
      ·
        try simp only [mIn_0, lgc_lt, lgc_gt, lgc_le, lgc_ge, lgc_eq] at c_92
        try simp only [fl_lt, fl_le, fl_eq, fL_w, fL_lt, fL_le, tm1, tm10k, tm9, tm99, Int32.reduceToInt, Int64.reduceToInt, Int.not_lt, Int.not_le] at c_92
        refine gz_iconst (v := 1) dX12_day_127 (by decide) ?_
        refine gz_goto (tgt := 132) dX12_day_128 (by decide) ?_
        refine gz_istore (lv' := [(9, .int 1), (8, .int r_1), (6, .long ((G 37) (Int32.toNatClampNeg ((40 * x1) + x2)))), (5, .int wv), (4, .int left), (3, .int x2), (2, .int x1), (0, .ref m), (1, .int bf)]) dX12_day_132 (by decide) rfl ?_
        refine gz_iload dX12_day_134 rfl ?_
        refine gz_if_ne (tgt := 145) dX12_day_136 (by decide) (fun c_136 => ?_) (fun c_136 => ?_)
        ·
          try simp only [mIn_0, lgc_lt, lgc_gt, lgc_le, lgc_ge, lgc_eq] at c_136
          try simp only [fl_lt, fl_le, fl_eq, fL_w, fL_lt, fL_le, tm1, tm10k, tm9, tm99, Int32.reduceToInt, Int64.reduceToInt, Int.not_lt, Int.not_le] at c_136
          refine gz_aload_n dX12_day_145 rfl rfl ?_
          refine gz_iload_n dX12_day_146 rfl rfl ?_
          refine gz_iload_n dX12_day_147 rfl rfl ?_
          refine scX12_406 (k_X12_leaves (x1 := x1) (x2 := x2) hS hR (by omega) (by omega)) hS.1 ⟨(Nat.le_of_ble_eq_true rfl), (Nat.le_of_ble_eq_true rfl)⟩ ⟨(Nat.le_of_ble_eq_true rfl), (Nat.le_of_ble_eq_true rfl)⟩ rfl rfl (Nat.le_of_ble_eq_true rfl) dX12_day_148 ?_
          rintro f_2 ⟨n_2, z_2, F_2, G_2, hS_2, hx2, hR_2, h35_2⟩
          have hxb := hx2
          refine gz_iload dX12_day_151 rfl ?_
          refine gz_if_ne (tgt := 170) dX12_day_153 (by decide) (fun c_153 => ?_) (fun c_153 => ?_)
          ·
            try simp only [mIn_0, lgc_lt, lgc_gt, lgc_le, lgc_ge, lgc_eq] at c_153
            try simp only [fl_lt, fl_le, fl_eq, fL_w, fL_lt, fL_le, tm1, tm10k, tm9, tm99, Int32.reduceToInt, Int64.reduceToInt, Int.not_lt, Int.not_le] at c_153
            refine gz_iinc (v := (left + (-1))) (lv' := [(4, .int (left + (-1))), (9, .int 1), (8, .int r_1), (6, .long ((G 37) (Int32.toNatClampNeg ((40 * x1) + x2)))), (5, .int wv), (3, .int x2), (2, .int x1), (0, .ref m), (1, .int bf)]) dX12_day_170 rfl (congrArg (fun z => left + z) oi_m1) (by decide) rfl ?_
            refine gz_goto (tgt := 51) dX12_day_173 (by decide) ?_
            refine gz_sub (lv' := [(4, .int (left + (-1))), (3, .int x2), (2, .int x1), (0, .ref m), (1, .int bf)]) (by simp [List.lookup]) ?_
            have hxx : fx [1, 38, 43] [29] [35, 36, 39, 40, 41, 42, 44] [28, 34, 37, 45] n z F G n_2 z_2 F_2 G_2 := (fx_tr fx_rf hx2 (by decide))
            have hdc : (left + (-1)).toInt = left.toInt - 1 := T_dec (by omega) (by omega)
            generalize left + (-1) = left2 at hdc ⊢
            have qs : (F_2 35 (Int32.toNatClampNeg x1)).toInt = (F 35 (Int32.toNatClampNeg x1)).toInt - 1 := by rw [h35_2, updE, if_pos rfl]; exact T_sub rfl (show (1 : Int32).toInt = 1 from rfl) (by omega)
            have qm : (F 35 (Int32.toNatClampNeg x1)).toInt - 1 ≤ (F_2 35 (Int32.toNatClampNeg x1)).toInt := by omega
            exact ih left2 x2 _ _ _ _ _ hS_2 (fx_tr hx hx2 (by decide)) (hR_2) (by rw [hxx.1 0 (by decide)]; exact h0) (by rw [hxx.1 30 (by decide)]; omega) (by omega) (by omega)
          ·
            try simp only [mIn_0, lgc_lt, lgc_gt, lgc_le, lgc_ge, lgc_eq] at c_153
            try simp only [fl_lt, fl_le, fl_eq, fL_w, fL_lt, fL_le, tm1, tm10k, tm9, tm99, Int32.reduceToInt, Int64.reduceToInt, Int.not_lt, Int.not_le] at c_153
            refine gz_aload_n dX12_day_156 rfl rfl ?_
            refine gz_iload_n dX12_day_157 rfl rfl ?_
            refine gz_aload_n dX12_day_158 rfl rfl ?_
            refine mg_32 hS_2 dX12_day_159 ?_
            refine gz_iload dX12_day_162 rfl ?_
            refine m_iald 11 hS_2 rfl (N := 880) rfl ((by exact vin_T (rfl : (wv).toInt = (wv).toInt) (by omega) (by omega))) dX12_day_164 ?_
            refine gz_ev (w := .int ((F 11) (Int32.toNatClampNeg wv))) (congrArg Value.int (congrFun (hx2.2.2.1 11 (by decide)) _)) ?_
            refine gz_lload dX12_day_165 rfl ?_
            refine scX12_403 (k_X12_acquires (x1 := x1) (x2 := ((F 11) (Int32.toNatClampNeg wv))) hS_2 hR_2 (by rw [hxb.1 30 (by decide)]; omega) (by rw [hxb.1 5 (by decide)]; exact vW_cg (hxb.2.2.1 6 (by decide)) (show vW F (n 5).toInt ((F 11) (Int32.toNatClampNeg wv)).toInt from (one_ok bW hv.1 (show 2 ≤ (F 7 (Int32.toNatClampNeg wv)).toInt by omega)).1))) hS_2.1 ⟨(Nat.le_of_ble_eq_true rfl), (Nat.le_of_ble_eq_true rfl)⟩ ⟨(Nat.le_of_ble_eq_true rfl), (Nat.le_of_ble_eq_true rfl)⟩ rfl rfl (Nat.le_of_ble_eq_true rfl) dX12_day_167 ?_
            rintro f_3 ⟨n_3, z_3, F_3, G_3, hS_3, hx3, hR_3, hm_3⟩
            refine gz_iinc (v := (left + (-1))) (lv' := [(4, .int (left + (-1))), (9, .int 1), (8, .int r_1), (6, .long ((G 37) (Int32.toNatClampNeg ((40 * x1) + x2)))), (5, .int wv), (3, .int x2), (2, .int x1), (0, .ref m), (1, .int bf)]) dX12_day_170 rfl (congrArg (fun z => left + z) oi_m1) (by decide) rfl ?_
            refine gz_goto (tgt := 51) dX12_day_173 (by decide) ?_
            refine gz_sub (lv' := [(4, .int (left + (-1))), (3, .int x2), (2, .int x1), (0, .ref m), (1, .int bf)]) (by simp [List.lookup]) ?_
            have hxx : fx [1, 38, 43] [29] [35, 36, 39, 40, 41, 42, 44] [28, 34, 37, 45] n z F G n_3 z_3 F_3 G_3 := (fx_tr (fx_tr fx_rf hx2 (by decide)) hx3 (by decide))
            have hdc : (left + (-1)).toInt = left.toInt - 1 := T_dec (by omega) (by omega)
            generalize left + (-1) = left2 at hdc ⊢
            have qs : (F_2 35 (Int32.toNatClampNeg x1)).toInt = (F 35 (Int32.toNatClampNeg x1)).toInt - 1 := by rw [h35_2, updE, if_pos rfl]; exact T_sub rfl (show (1 : Int32).toInt = 1 from rfl) (by omega)
            have qm : (F 35 (Int32.toNatClampNeg x1)).toInt - 1 ≤ (F_3 35 (Int32.toNatClampNeg x1)).toInt := by have := hm_3 (Int32.toNatClampNeg x1); omega
            exact ih left2 x2 _ _ _ _ _ hS_3 (fx_tr (fx_tr hx hx2 (by decide)) hx3 (by decide)) (hR_3) (by rw [hxx.1 0 (by decide)]; exact h0) (by rw [hxx.1 30 (by decide)]; omega) (by omega) (by omega)
        · exact absurd c_136 (by decide)
      ·
        try simp only [mIn_0, lgc_lt, lgc_gt, lgc_le, lgc_ge, lgc_eq] at c_92
        try simp only [fl_lt, fl_le, fl_eq, fL_w, fL_lt, fL_le, tm1, tm10k, tm9, tm99, Int32.reduceToInt, Int64.reduceToInt, Int.not_lt, Int.not_le] at c_92
        refine gz_aload_n dX12_day_95 rfl rfl ?_
        refine mg_20 hS dX12_day_96 ?_
        refine gz_iload dX12_day_99 rfl ?_
        refine m_iald 7 hS rfl (N := 880) rfl ((by exact vin_T (rfl : (wv).toInt = (wv).toInt) (by omega) (by omega))) dX12_day_101 ?_
        refine gz_iconst (v := 4) dX12_day_102 (by decide) ?_
        refine gz_icmp_eq (tgt := 127) dX12_day_103 (by decide) (fun c_103 => ?_) (fun c_103 => ?_)
        ·
          try simp only [mIn_0, lgc_lt, lgc_gt, lgc_le, lgc_ge, lgc_eq] at c_103
          try simp only [fl_lt, fl_le, fl_eq, fL_w, fL_lt, fL_le, tm1, tm10k, tm9, tm99, Int32.reduceToInt, Int64.reduceToInt, Int.not_lt, Int.not_le] at c_103
          refine gz_iconst (v := 1) dX12_day_127 (by decide) ?_
          refine gz_goto (tgt := 132) dX12_day_128 (by decide) ?_
          refine gz_istore (lv' := [(9, .int 1), (8, .int r_1), (6, .long ((G 37) (Int32.toNatClampNeg ((40 * x1) + x2)))), (5, .int wv), (4, .int left), (3, .int x2), (2, .int x1), (0, .ref m), (1, .int bf)]) dX12_day_132 (by decide) rfl ?_
          refine gz_iload dX12_day_134 rfl ?_
          refine gz_if_ne (tgt := 145) dX12_day_136 (by decide) (fun c_136 => ?_) (fun c_136 => ?_)
          ·
            try simp only [mIn_0, lgc_lt, lgc_gt, lgc_le, lgc_ge, lgc_eq] at c_136
            try simp only [fl_lt, fl_le, fl_eq, fL_w, fL_lt, fL_le, tm1, tm10k, tm9, tm99, Int32.reduceToInt, Int64.reduceToInt, Int.not_lt, Int.not_le] at c_136
            refine gz_aload_n dX12_day_145 rfl rfl ?_
            refine gz_iload_n dX12_day_146 rfl rfl ?_
            refine gz_iload_n dX12_day_147 rfl rfl ?_
            refine scX12_406 (k_X12_leaves (x1 := x1) (x2 := x2) hS hR (by omega) (by omega)) hS.1 ⟨(Nat.le_of_ble_eq_true rfl), (Nat.le_of_ble_eq_true rfl)⟩ ⟨(Nat.le_of_ble_eq_true rfl), (Nat.le_of_ble_eq_true rfl)⟩ rfl rfl (Nat.le_of_ble_eq_true rfl) dX12_day_148 ?_
            rintro f_4 ⟨n_4, z_4, F_4, G_4, hS_4, hx4, hR_4, h35_4⟩
            have hxb := hx4
            refine gz_iload dX12_day_151 rfl ?_
            refine gz_if_ne (tgt := 170) dX12_day_153 (by decide) (fun c_153 => ?_) (fun c_153 => ?_)
            ·
              try simp only [mIn_0, lgc_lt, lgc_gt, lgc_le, lgc_ge, lgc_eq] at c_153
              try simp only [fl_lt, fl_le, fl_eq, fL_w, fL_lt, fL_le, tm1, tm10k, tm9, tm99, Int32.reduceToInt, Int64.reduceToInt, Int.not_lt, Int.not_le] at c_153
              refine gz_iinc (v := (left + (-1))) (lv' := [(4, .int (left + (-1))), (9, .int 1), (8, .int r_1), (6, .long ((G 37) (Int32.toNatClampNeg ((40 * x1) + x2)))), (5, .int wv), (3, .int x2), (2, .int x1), (0, .ref m), (1, .int bf)]) dX12_day_170 rfl (congrArg (fun z => left + z) oi_m1) (by decide) rfl ?_
              refine gz_goto (tgt := 51) dX12_day_173 (by decide) ?_
              refine gz_sub (lv' := [(4, .int (left + (-1))), (3, .int x2), (2, .int x1), (0, .ref m), (1, .int bf)]) (by simp [List.lookup]) ?_
              have hxx : fx [1, 38, 43] [29] [35, 36, 39, 40, 41, 42, 44] [28, 34, 37, 45] n z F G n_4 z_4 F_4 G_4 := (fx_tr fx_rf hx4 (by decide))
              have hdc : (left + (-1)).toInt = left.toInt - 1 := T_dec (by omega) (by omega)
              generalize left + (-1) = left2 at hdc ⊢
              have qs : (F_4 35 (Int32.toNatClampNeg x1)).toInt = (F 35 (Int32.toNatClampNeg x1)).toInt - 1 := by rw [h35_4, updE, if_pos rfl]; exact T_sub rfl (show (1 : Int32).toInt = 1 from rfl) (by omega)
              have qm : (F 35 (Int32.toNatClampNeg x1)).toInt - 1 ≤ (F_4 35 (Int32.toNatClampNeg x1)).toInt := by omega
              exact ih left2 x2 _ _ _ _ _ hS_4 (fx_tr hx hx4 (by decide)) (hR_4) (by rw [hxx.1 0 (by decide)]; exact h0) (by rw [hxx.1 30 (by decide)]; omega) (by omega) (by omega)
            ·
              try simp only [mIn_0, lgc_lt, lgc_gt, lgc_le, lgc_ge, lgc_eq] at c_153
              try simp only [fl_lt, fl_le, fl_eq, fL_w, fL_lt, fL_le, tm1, tm10k, tm9, tm99, Int32.reduceToInt, Int64.reduceToInt, Int.not_lt, Int.not_le] at c_153
              refine gz_aload_n dX12_day_156 rfl rfl ?_
              refine gz_iload_n dX12_day_157 rfl rfl ?_
              refine gz_aload_n dX12_day_158 rfl rfl ?_
              refine mg_32 hS_4 dX12_day_159 ?_
              refine gz_iload dX12_day_162 rfl ?_
              refine m_iald 11 hS_4 rfl (N := 880) rfl ((by exact vin_T (rfl : (wv).toInt = (wv).toInt) (by omega) (by omega))) dX12_day_164 ?_
              refine gz_ev (w := .int ((F 11) (Int32.toNatClampNeg wv))) (congrArg Value.int (congrFun (hx4.2.2.1 11 (by decide)) _)) ?_
              refine gz_lload dX12_day_165 rfl ?_
              refine scX12_403 (k_X12_acquires (x1 := x1) (x2 := ((F 11) (Int32.toNatClampNeg wv))) hS_4 hR_4 (by rw [hxb.1 30 (by decide)]; omega) (by rw [hxb.1 5 (by decide)]; exact vW_cg (hxb.2.2.1 6 (by decide)) (show vW F (n 5).toInt ((F 11) (Int32.toNatClampNeg wv)).toInt from (one_ok bW hv.1 (show 2 ≤ (F 7 (Int32.toNatClampNeg wv)).toInt by omega)).1))) hS_4.1 ⟨(Nat.le_of_ble_eq_true rfl), (Nat.le_of_ble_eq_true rfl)⟩ ⟨(Nat.le_of_ble_eq_true rfl), (Nat.le_of_ble_eq_true rfl)⟩ rfl rfl (Nat.le_of_ble_eq_true rfl) dX12_day_167 ?_
              rintro f_5 ⟨n_5, z_5, F_5, G_5, hS_5, hx5, hR_5, hm_5⟩
              refine gz_iinc (v := (left + (-1))) (lv' := [(4, .int (left + (-1))), (9, .int 1), (8, .int r_1), (6, .long ((G 37) (Int32.toNatClampNeg ((40 * x1) + x2)))), (5, .int wv), (3, .int x2), (2, .int x1), (0, .ref m), (1, .int bf)]) dX12_day_170 rfl (congrArg (fun z => left + z) oi_m1) (by decide) rfl ?_
              refine gz_goto (tgt := 51) dX12_day_173 (by decide) ?_
              refine gz_sub (lv' := [(4, .int (left + (-1))), (3, .int x2), (2, .int x1), (0, .ref m), (1, .int bf)]) (by simp [List.lookup]) ?_
              have hxx : fx [1, 38, 43] [29] [35, 36, 39, 40, 41, 42, 44] [28, 34, 37, 45] n z F G n_5 z_5 F_5 G_5 := (fx_tr (fx_tr fx_rf hx4 (by decide)) hx5 (by decide))
              have hdc : (left + (-1)).toInt = left.toInt - 1 := T_dec (by omega) (by omega)
              generalize left + (-1) = left2 at hdc ⊢
              have qs : (F_4 35 (Int32.toNatClampNeg x1)).toInt = (F 35 (Int32.toNatClampNeg x1)).toInt - 1 := by rw [h35_4, updE, if_pos rfl]; exact T_sub rfl (show (1 : Int32).toInt = 1 from rfl) (by omega)
              have qm : (F 35 (Int32.toNatClampNeg x1)).toInt - 1 ≤ (F_5 35 (Int32.toNatClampNeg x1)).toInt := by have := hm_5 (Int32.toNatClampNeg x1); omega
              exact ih left2 x2 _ _ _ _ _ hS_5 (fx_tr (fx_tr hx hx4 (by decide)) hx5 (by decide)) (hR_5) (by rw [hxx.1 0 (by decide)]; exact h0) (by rw [hxx.1 30 (by decide)]; omega) (by omega) (by omega)
          · exact absurd c_136 (by decide)
        ·
          try simp only [mIn_0, lgc_lt, lgc_gt, lgc_le, lgc_ge, lgc_eq] at c_103
          try simp only [fl_lt, fl_le, fl_eq, fL_w, fL_lt, fL_le, tm1, tm10k, tm9, tm99, Int32.reduceToInt, Int64.reduceToInt, Int.not_lt, Int.not_le] at c_103
          refine gz_aload_n dX12_day_106 rfl rfl ?_
          refine mg_20 hS dX12_day_107 ?_
          refine gz_iload dX12_day_110 rfl ?_
          refine m_iald 7 hS rfl (N := 880) rfl ((by exact vin_T (rfl : (wv).toInt = (wv).toInt) (by omega) (by omega))) dX12_day_112 ?_
          refine gz_bipush (v := 6) dX12_day_113 (by decide) ?_
          refine gz_icmp_ne (tgt := 131) dX12_day_115 (by decide) (fun c_115 => ?_) (fun c_115 => ?_)
          ·
            try simp only [mIn_0, lgc_lt, lgc_gt, lgc_le, lgc_ge, lgc_eq] at c_115
            try simp only [fl_lt, fl_le, fl_eq, fL_w, fL_lt, fL_le, tm1, tm10k, tm9, tm99, Int32.reduceToInt, Int64.reduceToInt, Int.not_lt, Int.not_le] at c_115
            refine gz_iconst (v := 0) dX12_day_131 (by decide) ?_
            refine gz_istore (lv' := [(9, .int 0), (8, .int r_1), (6, .long ((G 37) (Int32.toNatClampNeg ((40 * x1) + x2)))), (5, .int wv), (4, .int left), (3, .int x2), (2, .int x1), (0, .ref m), (1, .int bf)]) dX12_day_132 (by decide) rfl ?_
            refine gz_iload dX12_day_134 rfl ?_
            refine gz_if_ne (tgt := 145) dX12_day_136 (by decide) (fun c_136 => ?_) (fun c_136 => ?_)
            · exact absurd c_136 (by decide)
            ·
              try simp only [mIn_0, lgc_lt, lgc_gt, lgc_le, lgc_ge, lgc_eq] at c_136
              try simp only [fl_lt, fl_le, fl_eq, fL_w, fL_lt, fL_le, tm1, tm10k, tm9, tm99, Int32.reduceToInt, Int64.reduceToInt, Int.not_lt, Int.not_le] at c_136
              refine gz_iinc (v := (x2 + 1)) (lv' := [(3, .int (x2 + 1)), (9, .int 0), (8, .int r_1), (6, .long ((G 37) (Int32.toNatClampNeg ((40 * x1) + x2)))), (5, .int wv), (4, .int left), (2, .int x1), (0, .ref m), (1, .int bf)]) dX12_day_139 rfl rfl (by decide) rfl ?_
              refine gz_goto (tgt := 170) dX12_day_142 (by decide) ?_
              refine gz_iinc (v := (left + (-1))) (lv' := [(4, .int (left + (-1))), (3, .int (x2 + 1)), (9, .int 0), (8, .int r_1), (6, .long ((G 37) (Int32.toNatClampNeg ((40 * x1) + x2)))), (5, .int wv), (2, .int x1), (0, .ref m), (1, .int bf)]) dX12_day_170 rfl (congrArg (fun z => left + z) oi_m1) (by decide) rfl ?_
              refine gz_goto (tgt := 51) dX12_day_173 (by decide) ?_
              refine gz_sub (lv' := [(4, .int (left + (-1))), (3, .int (x2 + 1)), (2, .int x1), (0, .ref m), (1, .int bf)]) (by simp [List.lookup]) ?_
              have hxx : fx [1, 38, 43] [29] [35, 36, 39, 40, 41, 42, 44] [28, 34, 37, 45] n z F G n z F G := fx_rf
              have hdc : (left + (-1)).toInt = left.toInt - 1 := T_dec (by omega) (by omega)
              generalize left + (-1) = left2 at hdc ⊢
              have qx : (x2 + 1).toInt = x2.toInt + 1 := T_add rfl (show (1 : Int32).toInt = 1 from rfl) (by omega)
              exact ih left2 (x2 + 1) _ _ _ _ _ hS hx (hR) (by rw [hxx.1 0 (by decide)]; exact h0) (by rw [hxx.1 30 (by decide)]; omega) (by omega) (by omega)
          ·
            try simp only [mIn_0, lgc_lt, lgc_gt, lgc_le, lgc_ge, lgc_eq] at c_115
            try simp only [fl_lt, fl_le, fl_eq, fL_w, fL_lt, fL_le, tm1, tm10k, tm9, tm99, Int32.reduceToInt, Int64.reduceToInt, Int.not_lt, Int.not_le] at c_115
            refine gz_aload_n dX12_day_118 rfl rfl ?_
            refine gz_iload dX12_day_119 rfl ?_
            refine scX12_348 (k_X12_holds (x1 := wv) hS bA (by omega)) hS.1 ⟨(Nat.le_of_ble_eq_true rfl), (Nat.le_of_ble_eq_true rfl)⟩ ⟨(Nat.le_of_ble_eq_true rfl), (Nat.le_of_ble_eq_true rfl)⟩ rfl rfl (Nat.le_of_ble_eq_true rfl) dX12_day_121 ?_
            rintro r_6 f9 ⟨hb_6, y9⟩; rw [y9]
            refine gz_if_eq (tgt := 131) dX12_day_124 (by decide) (fun c_124 => ?_) (fun c_124 => ?_)
            ·
              try simp only [mIn_0, lgc_lt, lgc_gt, lgc_le, lgc_ge, lgc_eq] at c_124
              try simp only [fl_lt, fl_le, fl_eq, fL_w, fL_lt, fL_le, tm1, tm10k, tm9, tm99, Int32.reduceToInt, Int64.reduceToInt, Int.not_lt, Int.not_le] at c_124
              refine gz_iconst (v := 0) dX12_day_131 (by decide) ?_
              refine gz_istore (lv' := [(9, .int 0), (8, .int r_1), (6, .long ((G 37) (Int32.toNatClampNeg ((40 * x1) + x2)))), (5, .int wv), (4, .int left), (3, .int x2), (2, .int x1), (0, .ref m), (1, .int bf)]) dX12_day_132 (by decide) rfl ?_
              refine gz_iload dX12_day_134 rfl ?_
              refine gz_if_ne (tgt := 145) dX12_day_136 (by decide) (fun c_136 => ?_) (fun c_136 => ?_)
              · exact absurd c_136 (by decide)
              ·
                try simp only [mIn_0, lgc_lt, lgc_gt, lgc_le, lgc_ge, lgc_eq] at c_136
                try simp only [fl_lt, fl_le, fl_eq, fL_w, fL_lt, fL_le, tm1, tm10k, tm9, tm99, Int32.reduceToInt, Int64.reduceToInt, Int.not_lt, Int.not_le] at c_136
                refine gz_iinc (v := (x2 + 1)) (lv' := [(3, .int (x2 + 1)), (9, .int 0), (8, .int r_1), (6, .long ((G 37) (Int32.toNatClampNeg ((40 * x1) + x2)))), (5, .int wv), (4, .int left), (2, .int x1), (0, .ref m), (1, .int bf)]) dX12_day_139 rfl rfl (by decide) rfl ?_
                refine gz_goto (tgt := 170) dX12_day_142 (by decide) ?_
                refine gz_iinc (v := (left + (-1))) (lv' := [(4, .int (left + (-1))), (3, .int (x2 + 1)), (9, .int 0), (8, .int r_1), (6, .long ((G 37) (Int32.toNatClampNeg ((40 * x1) + x2)))), (5, .int wv), (2, .int x1), (0, .ref m), (1, .int bf)]) dX12_day_170 rfl (congrArg (fun z => left + z) oi_m1) (by decide) rfl ?_
                refine gz_goto (tgt := 51) dX12_day_173 (by decide) ?_
                refine gz_sub (lv' := [(4, .int (left + (-1))), (3, .int (x2 + 1)), (2, .int x1), (0, .ref m), (1, .int bf)]) (by simp [List.lookup]) ?_
                have hxx : fx [1, 38, 43] [29] [35, 36, 39, 40, 41, 42, 44] [28, 34, 37, 45] n z F G n z F G := fx_rf
                have hdc : (left + (-1)).toInt = left.toInt - 1 := T_dec (by omega) (by omega)
                generalize left + (-1) = left2 at hdc ⊢
                have qx : (x2 + 1).toInt = x2.toInt + 1 := T_add rfl (show (1 : Int32).toInt = 1 from rfl) (by omega)
                exact ih left2 (x2 + 1) _ _ _ _ _ hS hx (hR) (by rw [hxx.1 0 (by decide)]; exact h0) (by rw [hxx.1 30 (by decide)]; omega) (by omega) (by omega)
            ·
              try simp only [mIn_0, lgc_lt, lgc_gt, lgc_le, lgc_ge, lgc_eq] at c_124
              try simp only [fl_lt, fl_le, fl_eq, fL_w, fL_lt, fL_le, tm1, tm10k, tm9, tm99, Int32.reduceToInt, Int64.reduceToInt, Int.not_lt, Int.not_le] at c_124
              refine gz_iconst (v := 1) dX12_day_127 (by decide) ?_
              refine gz_goto (tgt := 132) dX12_day_128 (by decide) ?_
              refine gz_istore (lv' := [(9, .int 1), (8, .int r_1), (6, .long ((G 37) (Int32.toNatClampNeg ((40 * x1) + x2)))), (5, .int wv), (4, .int left), (3, .int x2), (2, .int x1), (0, .ref m), (1, .int bf)]) dX12_day_132 (by decide) rfl ?_
              refine gz_iload dX12_day_134 rfl ?_
              refine gz_if_ne (tgt := 145) dX12_day_136 (by decide) (fun c_136 => ?_) (fun c_136 => ?_)
              ·
                try simp only [mIn_0, lgc_lt, lgc_gt, lgc_le, lgc_ge, lgc_eq] at c_136
                try simp only [fl_lt, fl_le, fl_eq, fL_w, fL_lt, fL_le, tm1, tm10k, tm9, tm99, Int32.reduceToInt, Int64.reduceToInt, Int.not_lt, Int.not_le] at c_136
                refine gz_aload_n dX12_day_145 rfl rfl ?_
                refine gz_iload_n dX12_day_146 rfl rfl ?_
                refine gz_iload_n dX12_day_147 rfl rfl ?_
                refine scX12_406 (k_X12_leaves (x1 := x1) (x2 := x2) hS hR (by omega) (by omega)) hS.1 ⟨(Nat.le_of_ble_eq_true rfl), (Nat.le_of_ble_eq_true rfl)⟩ ⟨(Nat.le_of_ble_eq_true rfl), (Nat.le_of_ble_eq_true rfl)⟩ rfl rfl (Nat.le_of_ble_eq_true rfl) dX12_day_148 ?_
                rintro f_7 ⟨n_7, z_7, F_7, G_7, hS_7, hx7, hR_7, h35_7⟩
                have hxb := hx7
                refine gz_iload dX12_day_151 rfl ?_
                refine gz_if_ne (tgt := 170) dX12_day_153 (by decide) (fun c_153 => ?_) (fun c_153 => ?_)
                ·
                  try simp only [mIn_0, lgc_lt, lgc_gt, lgc_le, lgc_ge, lgc_eq] at c_153
                  try simp only [fl_lt, fl_le, fl_eq, fL_w, fL_lt, fL_le, tm1, tm10k, tm9, tm99, Int32.reduceToInt, Int64.reduceToInt, Int.not_lt, Int.not_le] at c_153
                  refine gz_iinc (v := (left + (-1))) (lv' := [(4, .int (left + (-1))), (9, .int 1), (8, .int r_1), (6, .long ((G 37) (Int32.toNatClampNeg ((40 * x1) + x2)))), (5, .int wv), (3, .int x2), (2, .int x1), (0, .ref m), (1, .int bf)]) dX12_day_170 rfl (congrArg (fun z => left + z) oi_m1) (by decide) rfl ?_
                  refine gz_goto (tgt := 51) dX12_day_173 (by decide) ?_
                  refine gz_sub (lv' := [(4, .int (left + (-1))), (3, .int x2), (2, .int x1), (0, .ref m), (1, .int bf)]) (by simp [List.lookup]) ?_
                  have hxx : fx [1, 38, 43] [29] [35, 36, 39, 40, 41, 42, 44] [28, 34, 37, 45] n z F G n_7 z_7 F_7 G_7 := (fx_tr fx_rf hx7 (by decide))
                  have hdc : (left + (-1)).toInt = left.toInt - 1 := T_dec (by omega) (by omega)
                  generalize left + (-1) = left2 at hdc ⊢
                  have qs : (F_7 35 (Int32.toNatClampNeg x1)).toInt = (F 35 (Int32.toNatClampNeg x1)).toInt - 1 := by rw [h35_7, updE, if_pos rfl]; exact T_sub rfl (show (1 : Int32).toInt = 1 from rfl) (by omega)
                  have qm : (F 35 (Int32.toNatClampNeg x1)).toInt - 1 ≤ (F_7 35 (Int32.toNatClampNeg x1)).toInt := by omega
                  exact ih left2 x2 _ _ _ _ _ hS_7 (fx_tr hx hx7 (by decide)) (hR_7) (by rw [hxx.1 0 (by decide)]; exact h0) (by rw [hxx.1 30 (by decide)]; omega) (by omega) (by omega)
                ·
                  try simp only [mIn_0, lgc_lt, lgc_gt, lgc_le, lgc_ge, lgc_eq] at c_153
                  try simp only [fl_lt, fl_le, fl_eq, fL_w, fL_lt, fL_le, tm1, tm10k, tm9, tm99, Int32.reduceToInt, Int64.reduceToInt, Int.not_lt, Int.not_le] at c_153
                  refine gz_aload_n dX12_day_156 rfl rfl ?_
                  refine gz_iload_n dX12_day_157 rfl rfl ?_
                  refine gz_aload_n dX12_day_158 rfl rfl ?_
                  refine mg_32 hS_7 dX12_day_159 ?_
                  refine gz_iload dX12_day_162 rfl ?_
                  refine m_iald 11 hS_7 rfl (N := 880) rfl ((by exact vin_T (rfl : (wv).toInt = (wv).toInt) (by omega) (by omega))) dX12_day_164 ?_
                  refine gz_ev (w := .int ((F 11) (Int32.toNatClampNeg wv))) (congrArg Value.int (congrFun (hx7.2.2.1 11 (by decide)) _)) ?_
                  refine gz_lload dX12_day_165 rfl ?_
                  refine scX12_403 (k_X12_acquires (x1 := x1) (x2 := ((F 11) (Int32.toNatClampNeg wv))) hS_7 hR_7 (by rw [hxb.1 30 (by decide)]; omega) (by rw [hxb.1 5 (by decide)]; exact vW_cg (hxb.2.2.1 6 (by decide)) (show vW F (n 5).toInt ((F 11) (Int32.toNatClampNeg wv)).toInt from (one_ok bW hv.1 (show 2 ≤ (F 7 (Int32.toNatClampNeg wv)).toInt by omega)).1))) hS_7.1 ⟨(Nat.le_of_ble_eq_true rfl), (Nat.le_of_ble_eq_true rfl)⟩ ⟨(Nat.le_of_ble_eq_true rfl), (Nat.le_of_ble_eq_true rfl)⟩ rfl rfl (Nat.le_of_ble_eq_true rfl) dX12_day_167 ?_
                  rintro f_8 ⟨n_8, z_8, F_8, G_8, hS_8, hx8, hR_8, hm_8⟩
                  refine gz_iinc (v := (left + (-1))) (lv' := [(4, .int (left + (-1))), (9, .int 1), (8, .int r_1), (6, .long ((G 37) (Int32.toNatClampNeg ((40 * x1) + x2)))), (5, .int wv), (3, .int x2), (2, .int x1), (0, .ref m), (1, .int bf)]) dX12_day_170 rfl (congrArg (fun z => left + z) oi_m1) (by decide) rfl ?_
                  refine gz_goto (tgt := 51) dX12_day_173 (by decide) ?_
                  refine gz_sub (lv' := [(4, .int (left + (-1))), (3, .int x2), (2, .int x1), (0, .ref m), (1, .int bf)]) (by simp [List.lookup]) ?_
                  have hxx : fx [1, 38, 43] [29] [35, 36, 39, 40, 41, 42, 44] [28, 34, 37, 45] n z F G n_8 z_8 F_8 G_8 := (fx_tr (fx_tr fx_rf hx7 (by decide)) hx8 (by decide))
                  have hdc : (left + (-1)).toInt = left.toInt - 1 := T_dec (by omega) (by omega)
                  generalize left + (-1) = left2 at hdc ⊢
                  have qs : (F_7 35 (Int32.toNatClampNeg x1)).toInt = (F 35 (Int32.toNatClampNeg x1)).toInt - 1 := by rw [h35_7, updE, if_pos rfl]; exact T_sub rfl (show (1 : Int32).toInt = 1 from rfl) (by omega)
                  have qm : (F 35 (Int32.toNatClampNeg x1)).toInt - 1 ≤ (F_8 35 (Int32.toNatClampNeg x1)).toInt := by have := hm_8 (Int32.toNatClampNeg x1); omega
                  exact ih left2 x2 _ _ _ _ _ hS_8 (fx_tr (fx_tr hx hx7 (by decide)) hx8 (by decide)) (hR_8) (by rw [hxx.1 0 (by decide)]; exact h0) (by rw [hxx.1 30 (by decide)]; omega) (by omega) (by omega)
              · exact absurd c_136 (by decide)

set_option maxHeartbeats 4000000 in
set_option maxRecDepth 100000 in
theorem l_X12_day {l : Launch} {D : va_G} {cy : Nat → ClassId} {b : Nat} {m : Nat} {a : Nat → Nat} {f0 : gMem} {n0 : Nat → Int32} {z0 : Nat → Int64} {F0 : Nat → Nat → Int32} {G0 : Nat → Nat → Int64}  {bf : Int32}  : ∀ (k : Nat) (x1 : Int32) (n : Nat → Int32) (z : Nat → Int64) (F : Nat → Nat → Int32) (G : Nat → Nat → Int64) (fm : gMem), mS cy m a f0 n z F G fm → fx [0, 1, 38, 43] [29] [35, 36, 39, 40, 41, 42, 44] [28, 34, 37, 45] n0 z0 F0 G0 n z F G → (RI n F) → (n 0 = n0 0 + 1) → (0 ≤ x1.toInt ∧ x1.toInt ≤ 40) → (x1.toInt + (k : Int) = 41) → gG l (gRm 4 0 0) (gQf D b (pI fun r f2 => ∃ (n2 : Nat → Int32) (z2 : Nat → Int64) (F2 : Nat → Nat → Int32) (G2 : Nat → Nat → Int64), mS cy m a f0 n2 z2 F2 G2 f2 ∧ fx [0, 1, 38, 43] [29] [35, 36, 39, 40, 41, 42, 44] [28, 34, 37, 45] n0 z0 F0 G0 n2 z2 F2 G2 ∧ RI n2 F2 ∧ n2 0 = n0 0 + 1) 0 0) gTt D cy b cX12_day 10 (some .int) RX12 "day" 0 0 fm 33 [(2, .int x1), (0, .ref m), (1, .int bf)] [] := by
  intro k
  induction k with
  | zero =>
    intro x1 n z F G fm hS hx hR h0 hl hk
    exfalso; omega
  | succ k ih =>
    intro x1 n z F G fm hS hx hR h0 hl hk
    obtain ⟨a0, a4, a5, bA, bW, a30, bL, a38, bP, a53, a47, a88⟩ := id hR
    refine gz_iload_n dX12_day_33 rfl rfl ?_
    refine gz_aload_n dX12_day_34 rfl rfl ?_
    refine mg_394 hS dX12_day_35 ?_
    refine gz_icmp_ge (tgt := 182) dX12_day_38 (by decide) (fun c_38 => ?_) (fun c_38 => ?_)
    ·
      try simp only [mIn_0, lgc_lt, lgc_gt, lgc_le, lgc_ge, lgc_eq] at c_38
      try simp only [fl_lt, fl_le, fl_eq, fL_w, fL_lt, fL_le, tm1, tm10k, tm9, tm99, Int32.reduceToInt, Int64.reduceToInt, Int.not_lt, Int.not_le] at c_38
      refine gz_aload_n dX12_day_182 rfl rfl ?_
      refine mg_364 hS dX12_day_183 ?_
      refine gz_iload_n dX12_day_186 rfl rfl ?_
      refine gz_isub dX12_day_187 ?_
      exact gz_iret rfl dX12_day_188 (Nat.le_of_ble_eq_true rfl) (Nat.le_of_ble_eq_true rfl) (⟨_, rfl, _, _, _, _, hS, hx, hR, h0⟩)
    ·
      try simp only [mIn_0, lgc_lt, lgc_gt, lgc_le, lgc_ge, lgc_eq] at c_38
      try simp only [fl_lt, fl_le, fl_eq, fL_w, fL_lt, fL_le, tm1, tm10k, tm9, tm99, Int32.reduceToInt, Int64.reduceToInt, Int.not_lt, Int.not_le] at c_38
      refine gz_iconst (v := 0) dX12_day_41 (by decide) ?_
      refine gz_istore_n (lv' := [(3, .int 0), (2, .int x1), (0, .ref m), (1, .int bf)]) dX12_day_42 rfl (by decide) rfl ?_
      refine gz_aload_n dX12_day_43 rfl rfl ?_
      refine mg_109 hS dX12_day_44 ?_
      refine gz_iload_n dX12_day_47 rfl rfl ?_
      refine m_iald 35 hS rfl (N := 40) rfl ((by exact vin_T (rfl : (x1).toInt = (x1).toInt) (by omega) (by omega))) dX12_day_48 ?_
      refine gz_istore (lv' := [(4, .int ((F 35) (Int32.toNatClampNeg x1))), (3, .int 0), (2, .int x1), (0, .ref m), (1, .int bf)]) dX12_day_49 (by decide) rfl ?_
      have qc1 := clI (i := x1) (by omega)
      have qL := bL (Int32.toNatClampNeg x1) (by omega)
      refine gz_sub (lv' := [(4, .int ((F 35) (Int32.toNatClampNeg x1))), (3, .int 0), (2, .int x1), (0, .ref m), (1, .int bf)]) (by simp [List.lookup]) ?_
      refine l_X12_day2 (x1 := x1) (bf := bf) ?_ 41 ((F 35) (Int32.toNatClampNeg x1)) 0 _ _ _ _ _ hS hx hR h0 (by omega) (by have e0 : (0 : Int32).toInt = 0 := rfl; omega) (by omega)
      clear hS hx hR h0 hl a0 a4 a5 bA bW a30 bL a38 bP a53 a47 a88 qc1 qL
      intro n z F G fm hS hx hR h0 hl
      refine gz_iinc (v := (x1 + 1)) (lv' := [(2, .int (x1 + 1)), (0, .ref m), (1, .int bf)]) dX12_day_176 rfl rfl (by decide) rfl ?_
      refine gz_goto (tgt := 33) dX12_day_179 (by decide) ?_
      refine gz_sub (lv' := [(2, .int (x1 + 1)), (0, .ref m), (1, .int bf)]) (by simp [List.lookup]) ?_
      exact ih (x1 + 1) _ _ _ _ _ hS hx (hR) (h0) ((by have q1_ := (T_add (rfl : (x1).toInt = (x1).toInt) (show (1 : Int32).toInt = 1 from rfl) (by omega)); omega)) ((by have q1_ := (T_add (rfl : (x1).toInt = (x1).toInt) (show (1 : Int32).toInt = 1 from rfl) (by omega)); omega))

set_option maxHeartbeats 4000000 in
set_option maxRecDepth 100000 in
theorem k_X12_day {l : Launch} {D : va_G} {cy : Nat → ClassId} {b : Nat} {f : gMem} {m : Nat} {a : Nat → Nat} {f0 : gMem} {n : Nat → Int32} {z : Nat → Int64} {F : Nat → Nat → Int32} {G : Nat → Nat → Int64}   (hS : mS cy m a f0 n z F G f) (hR : RI n F) : gC l D cy b yX12_day cX12_day 10 (some .int) 4 0 0 [.ref m] f (pI fun r f2 => ∃ (n2 : Nat → Int32) (z2 : Nat → Int64) (F2 : Nat → Nat → Int32) (G2 : Nat → Nat → Int64), mS cy m a f0 n2 z2 F2 G2 f2 ∧ fx [0, 1, 38, 43] [29] [35, 36, 39, 40, 41, 42, 44] [28, 34, 37, 45] n z F G n2 z2 F2 G2 ∧ RI n2 F2 ∧ n2 0 = (if (n 0).toInt = 399 then n 0 else n 0 + 1)) := by
  obtain ⟨a0, a4, a5, bA, bW, a30, bL, a38, bP, a53, a47, a88⟩ := id hR
  refine gC_of (by decide) (Nat.le_of_ble_eq_true rfl) ?_
  show gG l _ _ _ D cy b cX12_day 10 _ RX12 "day" 0 0 f 0 [(0, .ref m)] []
  refine gz_aload_n dX12_day_0 rfl rfl ?_
  refine mg_249 hS dX12_day_1 ?_
  refine gz_sipush (v := 399) dX12_day_4 (by decide) ?_
  refine gz_icmp_ne (tgt := 12) dX12_day_7 (by decide) (fun c_7 => ?_) (fun c_7 => ?_)
  ·
    try simp only [mIn_0, lgc_lt, lgc_gt, lgc_le, lgc_ge, lgc_eq] at c_7
    try simp only [fl_lt, fl_le, fl_eq, fL_w, fL_lt, fL_le, tm1, tm10k, tm9, tm99, Int32.reduceToInt, Int64.reduceToInt, Int.not_lt, Int.not_le] at c_7
    refine gz_aload_n dX12_day_12 rfl rfl ?_
    refine gz_dup dX12_day_13 rfl ?_
    refine mg_249 hS dX12_day_14 ?_
    refine gz_iconst (v := 1) dX12_day_17 (by decide) ?_
    refine gz_iadd dX12_day_18 ?_
    refine mp_249 hS dX12_day_19 (fun f_1 hS_1 => ?_)
    refine gz_aload_n dX12_day_22 rfl rfl ?_
    have e0_ : ((va_up n 0 ((n 0) + 1)) 0).toInt = (n 0).toInt + 1 := (by (try rw [(show (va_up n 0 ((n 0) + 1)) 0 = ((n 0) + 1) from rfl)]); have q1_ := (T_add (rfl : ((n 0)).toInt = ((n 0)).toInt) (show (1 : Int32).toInt = 1 from rfl) (by omega)); omega)
    have hR1 : RI (va_up n 0 ((n 0) + 1)) F := RI_cg (fun _ _ => rfl) hR rfl rfl rfl (by rw [e0_]; omega) a4 a53 a47 a88
    refine scX12_400 (k_X12_asNow hS_1 (by rw [e0_]; omega)) hS_1.1 ⟨(Nat.le_of_ble_eq_true rfl), (Nat.le_of_ble_eq_true rfl)⟩ ⟨(Nat.le_of_ble_eq_true rfl), (Nat.le_of_ble_eq_true rfl)⟩ rfl rfl (Nat.le_of_ble_eq_true rfl) dX12_day_23 ?_
    rintro f_2 ⟨n_2, z_2, F_2, G_2, hS_2, hx2⟩
    have hR2 := RI_fx hR1 hx2 (by decide) (by decide)
    refine gz_aload_n dX12_day_26 rfl rfl ?_
    refine mg_364 hS_2 dX12_day_27 ?_
    refine gz_ev (w := .int (n 38)) (congrArg Value.int (hx2.1 38 (by decide))) ?_
    refine gz_istore_n (lv' := [(1, .int (n 38)), (0, .ref m)]) dX12_day_30 rfl (by decide) rfl ?_
    refine gz_iconst (v := 0) dX12_day_31 (by decide) ?_
    refine gz_istore_n (lv' := [(2, .int 0), (1, .int (n 38)), (0, .ref m)]) dX12_day_32 rfl (by decide) rfl ?_
    have hxx : fx [0, 1, 38, 43] [29] [35, 36, 39, 40, 41, 42, 44] [28, 34, 37, 45] n z F G n_2 z_2 F_2 G_2 := (fx_tr (fx_n fx_rf (by decide)) hx2 (by decide))
    refine gz_sub (lv' := [(2, .int 0), (0, .ref m), (1, .int (n 38))]) (by simp [List.lookup]) ?_
    rw [show (if (n 0).toInt = 399 then n 0 else n 0 + 1) = n 0 + 1 from if_neg (by omega)]
    exact l_X12_day 41 0 _ _ _ _ _ hS_2 hxx hR2 (hx2.1 0 (by decide)) ⟨by decide, by decide⟩ (by decide)
  ·
    try simp only [mIn_0, lgc_lt, lgc_gt, lgc_le, lgc_ge, lgc_eq] at c_7
    try simp only [fl_lt, fl_le, fl_eq, fL_w, fL_lt, fL_le, tm1, tm10k, tm9, tm99, Int32.reduceToInt, Int64.reduceToInt, Int.not_lt, Int.not_le] at c_7
    refine gz_iconst (v := (-1)) dX12_day_10 (by decide) ?_
    exact gz_iret rfl dX12_day_11 (Nat.le_of_ble_eq_true rfl) (Nat.le_of_ble_eq_true rfl) (⟨_, rfl, _, _, _, _, hS, fx_rf, hR, (if_pos (by omega)).symm⟩)
