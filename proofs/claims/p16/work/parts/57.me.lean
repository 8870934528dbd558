set_option maxHeartbeats 4000000 in
set_option maxRecDepth 100000 in
theorem l_X12_isLapsed {l : Launch} {D : va_G} {cy : Nat → ClassId} {b : Nat} {m : Nat} {a : Nat → Nat} {f0 : gMem} {n0 : Nat → Int32} {z0 : Nat → Int64} {F0 : Nat → Nat → Int32} {G0 : Nat → Nat → Int64}  {x1 : Int32} {f : gMem}  : ∀ (k : Nat) (up : Int32) (n : Nat → Int32) (z : Nat → Int64) (F : Nat → Nat → Int32) (G : Nat → Nat → Int64) (fm : gMem), mS cy m a f0 n z F G fm → fx [] [] [] [] n0 z0 F0 G0 n z F G → (0 ≤ (n 5).toInt ∧ (n 5).toInt ≤ 20) → (rAll F) → (rW F (n 5).toInt) → (up.toInt = -1 ∨ vW F (n 5).toInt up.toInt) → (-1 ≤ up.toInt ∧ up.toInt + 2 ≤ (k : Int) ∧ up.toInt ≤ 879) → (fm = f) → gG l (gRm 2 0 0) (gQf D b (pI fun r f2 => (r = 0 ∨ r = 1) ∧ f2 = f) 0 0) gTt D cy b cX12_isLapsed 3 (some .boolean) RX12 "isLapsed" 0 0 fm 7 [(2, .int up), (0, .ref m), (1, .int x1)] [] := by
  intro k
  induction k with
  | zero =>
    intro up n z F G fm hS hx a5 bA bW hu hk hf
    exfalso; omega
  | succ k ih =>
    intro up n z F G fm hS hx a5 bA bW hu hk hf
    refine gz_iload_n dX12_isLapsed_7 rfl rfl ?_
    refine gz_if_lt (tgt := 42) dX12_isLapsed_8 (by decide) (fun c_8 => ?_) (fun c_8 => ?_)
    ·
      try simp only [mIn_0, lgc_lt, lgc_gt, lgc_le, lgc_ge, lgc_eq] at c_8
      try simp only [fl_lt, fl_le, fl_eq, fL_w, fL_lt, fL_le, tm1, tm10k, tm9, tm99, Int32.reduceToInt, Int64.reduceToInt, Int.not_lt, Int.not_le] at c_8
      refine gz_iconst (v := 0) dX12_isLapsed_42 (by decide) ?_
      exact gz_zret rfl (by first | decide | exact nrb (by assumption) | exact nrb (Or.inl rfl) | exact nrb (Or.inr rfl)) dX12_isLapsed_43 (Nat.le_of_ble_eq_true rfl) (Nat.le_of_ble_eq_true rfl) (⟨_, rfl, (by first | exact Or.inl rfl | exact Or.inr rfl), hf⟩)
    ·
      try simp only [mIn_0, lgc_lt, lgc_gt, lgc_le, lgc_ge, lgc_eq] at c_8
      try simp only [fl_lt, fl_le, fl_eq, fL_w, fL_lt, fL_le, tm1, tm10k, tm9, tm99, Int32.reduceToInt, Int64.reduceToInt, Int.not_lt, Int.not_le] at c_8
      have hv : vW F (n 5).toInt up.toInt := by rcases hu with z9 | z9 <;> first | exact z9 | (exfalso; omega)
      have qv := vW_lt bW a5 hv
      have qp_up : (F 10 (Int32.toNatClampNeg up)).toInt = -1 ∨ (vW F (n 5).toInt (F 10 (Int32.toNatClampNeg up)).toInt ∧ (F 10 (Int32.toNatClampNeg up)).toInt < up.toInt) := par_ok bW hv
      refine gz_aload_n dX12_isLapsed_11 rfl rfl ?_
      refine mg_20 hS dX12_isLapsed_12 ?_
      refine gz_iload_n dX12_isLapsed_15 rfl rfl ?_
      refine m_iald 7 hS rfl (N := 880) rfl ((by exact vin_T (rfl : (up).toInt = (up).toInt) (by omega) (by omega))) dX12_isLapsed_16 ?_
      refine gz_bipush (v := 8) dX12_isLapsed_17 (by decide) ?_
      refine gz_icmp_ne (tgt := 32) dX12_isLapsed_19 (by decide) (fun c_19 => ?_) (fun c_19 => ?_)
      ·
        try simp only [mIn_0, lgc_lt, lgc_gt, lgc_le, lgc_ge, lgc_eq] at c_19
        try simp only [fl_lt, fl_le, fl_eq, fL_w, fL_lt, fL_le, tm1, tm10k, tm9, tm99, Int32.reduceToInt, Int64.reduceToInt, Int.not_lt, Int.not_le] at c_19
        refine gz_aload_n dX12_isLapsed_32 rfl rfl ?_
        refine mg_29 hS dX12_isLapsed_33 ?_
        refine gz_iload_n dX12_isLapsed_36 rfl rfl ?_
        refine m_iald 10 hS rfl (N := 880) rfl ((by exact vin_T (rfl : (up).toInt = (up).toInt) (by omega) (by omega))) dX12_isLapsed_37 ?_
        refine gz_istore_n (lv' := [(2, .int ((F 10) (Int32.toNatClampNeg up))), (0, .ref m), (1, .int x1)]) dX12_isLapsed_38 rfl (by decide) rfl ?_
        refine gz_goto (tgt := 7) dX12_isLapsed_39 (by decide) ?_
        refine gz_sub (lv' := [(2, .int ((F 10) (Int32.toNatClampNeg up))), (0, .ref m), (1, .int x1)]) (by simp [List.lookup]) ?_
        exact ih ((F 10) (Int32.toNatClampNeg up)) _ _ _ _ _ hS hx (a5) (bA) (bW) (qp_up.imp_right And.left) (by rcases qp_up with z9 | z9 <;> first | omega | (have z8 := vW_lt bW a5 z9.1; omega)) (hf)
      ·
        try simp only [mIn_0, lgc_lt, lgc_gt, lgc_le, lgc_ge, lgc_eq] at c_19
        try simp only [fl_lt, fl_le, fl_eq, fL_w, fL_lt, fL_le, tm1, tm10k, tm9, tm99, Int32.reduceToInt, Int64.reduceToInt, Int.not_lt, Int.not_le] at c_19
        refine gz_aload_n dX12_isLapsed_22 rfl rfl ?_
        refine gz_iload_n dX12_isLapsed_23 rfl rfl ?_
        refine scX12_348 (k_X12_holds (x1 := up) hS bA (by omega)) hS.1 ⟨(Nat.le_of_ble_eq_true rfl), (Nat.le_of_ble_eq_true rfl)⟩ ⟨(Nat.le_of_ble_eq_true rfl), (Nat.le_of_ble_eq_true rfl)⟩ rfl rfl (Nat.le_of_ble_eq_true rfl) dX12_isLapsed_24 ?_
        rintro r_1 f9 ⟨hb_1, y9⟩; rw [y9]
        refine gz_if_eq (tgt := 32) dX12_isLapsed_27 (by decide) (fun c_27 => ?_) (fun c_27 => ?_)
        ·
          try simp only [mIn_0, lgc_lt, lgc_gt, lgc_le, lgc_ge, lgc_eq] at c_27
          try simp only [fl_lt, fl_le, fl_eq, fL_w, fL_lt, fL_le, tm1, tm10k, tm9, tm99, Int32.reduceToInt, Int64.reduceToInt, Int.not_lt, Int.not_le] at c_27
          refine gz_aload_n dX12_isLapsed_32 rfl rfl ?_
          refine mg_29 hS dX12_isLapsed_33 ?_
          refine gz_iload_n dX12_isLapsed_36 rfl rfl ?_
          refine m_iald 10 hS rfl (N := 880) rfl ((by exact vin_T (rfl : (up).toInt = (up).toInt) (by omega) (by omega))) dX12_isLapsed_37 ?_
          refine gz_istore_n (lv' := [(2, .int ((F 10) (Int32.toNatClampNeg up))), (0, .ref m), (1, .int x1)]) dX12_isLapsed_38 rfl (by decide) rfl ?_
          refine gz_goto (tgt := 7) dX12_isLapsed_39 (by decide) ?_
          refine gz_sub (lv' := [(2, .int ((F 10) (Int32.toNatClampNeg up))), (0, .ref m), (1, .int x1)]) (by simp [List.lookup]) ?_
          exact ih ((F 10) (Int32.toNatClampNeg up)) _ _ _ _ _ hS hx (a5) (bA) (bW) (qp_up.imp_right And.left) (by rcases qp_up with z9 | z9 <;> first | omega | (have z8 := vW_lt bW a5 z9.1; omega)) (hf)
        ·
          try simp only [mIn_0, lgc_lt, lgc_gt, lgc_le, lgc_ge, lgc_eq] at c_27
          try simp only [fl_lt, fl_le, fl_eq, fL_w, fL_lt, fL_le, tm1, tm10k, tm9, tm99, Int32.reduceToInt, Int64.reduceToInt, Int.not_lt, Int.not_le] at c_27
          refine gz_iconst (v := 1) dX12_isLapsed_30 (by decide) ?_
          exact gz_zret rfl (by first | decide | exact nrb (by assumption) | exact nrb (Or.inl rfl) | exact nrb (Or.inr rfl)) dX12_isLapsed_31 (Nat.le_of_ble_eq_true rfl) (Nat.le_of_ble_eq_true rfl) (⟨_, rfl, (by first | exact Or.inl rfl | exact Or.inr rfl), hf⟩)

set_option maxHeartbeats 4000000 in
set_option maxRecDepth 100000 in
theorem k_X12_isLapsed {l : Launch} {D : va_G} {cy : Nat → ClassId} {b : Nat} {f : gMem} {m : Nat} {a : Nat → Nat} {f0 : gMem} {n : Nat → Int32} {z : Nat → Int64} {F : Nat → Nat → Int32} {G : Nat → Nat → Int64}  {x1 : Int32} (hS : mS cy m a f0 n z F G f) (a5 : 0 ≤ (n 5).toInt ∧ (n 5).toInt ≤ 20) (bA : rAll F) (bW : rW F (n 5).toInt) (hw : vW F (n 5).toInt x1.toInt) : gC l D cy b yX12_isLapsed cX12_isLapsed 3 (some .boolean) 2 0 0 [.ref m, .int x1] f (pI fun r f2 => (r = 0 ∨ r = 1) ∧ f2 = f) := by
  have qv := vW_lt bW a5 hw
  have qp_x1 : (F 10 (Int32.toNatClampNeg x1)).toInt = -1 ∨ (vW F (n 5).toInt (F 10 (Int32.toNatClampNeg x1)).toInt ∧ (F 10 (Int32.toNatClampNeg x1)).toInt < x1.toInt) := par_ok bW hw
  refine gC_of (by decide) (Nat.le_of_ble_eq_true rfl) ?_
  show gG l _ _ _ D cy b cX12_isLapsed 3 _ RX12 "isLapsed" 0 0 f 0 [(0, .ref m), (1, .int x1)] []
  refine gz_aload_n dX12_isLapsed_0 rfl rfl ?_
  refine mg_29 hS dX12_isLapsed_1 ?_
  refine gz_iload_n dX12_isLapsed_4 rfl rfl ?_
  refine m_iald 10 hS rfl (N := 880) rfl ((by exact vin_T (rfl : (x1).toInt = (x1).toInt) (by omega) (by omega))) dX12_isLapsed_5 ?_
  refine gz_istore_n (lv' := [(2, .int ((F 10) (Int32.toNatClampNeg x1))), (0, .ref m), (1, .int x1)]) dX12_isLapsed_6 rfl (by decide) rfl ?_
  refine gz_sub (lv' := [(2, .int ((F 10) (Int32.toNatClampNeg x1))), (0, .ref m), (1, .int x1)]) (by simp [List.lookup]) ?_
  exact l_X12_isLapsed 882 (F 10 (Int32.toNatClampNeg x1)) _ _ _ _ _ hS fx_rf (a5) (bA) (bW) (qp_x1.imp_right And.left) (by rcases qp_x1 with z9 | z9 <;> first | omega | (have z8 := vW_lt bW a5 z9.1; omega)) (rfl)

set_option maxHeartbeats 4000000 in
set_option maxRecDepth 100000 in
theorem l_X12_untils {l : Launch} {D : va_G} {cy : Nat → ClassId} {b : Nat} {m : Nat} {a : Nat → Nat} {f0 : gMem} {n0 : Nat → Int32} {z0 : Nat → Int64} {F0 : Nat → Nat → Int32} {G0 : Nat → Nat → Int64}  {x1 : Int32} {f : gMem}  : ∀ (k : Nat) (up v : Int32) (n : Nat → Int32) (z : Nat → Int64) (F : Nat → Nat → Int32) (G : Nat → Nat → Int64) (fm : gMem), mS cy m a f0 n z F G fm → fx [] [] [] [] n0 z0 F0 G0 n z F G → (0 ≤ (n 5).toInt ∧ (n 5).toInt ≤ 20) → (rAll F) → (rW F (n 5).toInt) → (up.toInt = -1 ∨ vW F (n 5).toInt up.toInt) → (-1 ≤ up.toInt ∧ up.toInt + 2 ≤ (k : Int) ∧ up.toInt ≤ 879) → (fm = f) → gG l (gRm 0 0 0) (gQf D b (pI fun r f2 => True ∧ f2 = f) 0 0) gTt D cy b cX12_untils 4 (some .int) RX12 "untils" 0 0 fm 9 [(3, .int up), (2, .int v), (0, .ref m), (1, .int x1)] [] := by
  intro k
  induction k with
  | zero =>
    intro up v n z F G fm hS hx a5 bA bW hu hk hf
    exfalso; omega
  | succ k ih =>
    intro up v n z F G fm hS hx a5 bA bW hu hk hf
    refine gz_iload_n dX12_untils_9 rfl rfl ?_
    refine gz_if_lt (tgt := 42) dX12_untils_10 (by decide) (fun c_10 => ?_) (fun c_10 => ?_)
    ·
      try simp only [mIn_0, lgc_lt, lgc_gt, lgc_le, lgc_ge, lgc_eq] at c_10
      try simp only [fl_lt, fl_le, fl_eq, fL_w, fL_lt, fL_le, tm1, tm10k, tm9, tm99, Int32.reduceToInt, Int64.reduceToInt, Int.not_lt, Int.not_le] at c_10
      refine gz_iload_n dX12_untils_42 rfl rfl ?_
      exact gz_iret rfl dX12_untils_43 (Nat.le_of_ble_eq_true rfl) (Nat.le_of_ble_eq_true rfl) (⟨_, rfl, trivial, hf⟩)
    ·
      try simp only [mIn_0, lgc_lt, lgc_gt, lgc_le, lgc_ge, lgc_eq] at c_10
      try simp only [fl_lt, fl_le, fl_eq, fL_w, fL_lt, fL_le, tm1, tm10k, tm9, tm99, Int32.reduceToInt, Int64.reduceToInt, Int.not_lt, Int.not_le] at c_10
      have hv : vW F (n 5).toInt up.toInt := by rcases hu with z9 | z9 <;> first | exact z9 | (exfalso; omega)
      have qv := vW_lt bW a5 hv
      have qp_up : (F 10 (Int32.toNatClampNeg up)).toInt = -1 ∨ (vW F (n 5).toInt (F 10 (Int32.toNatClampNeg up)).toInt ∧ (F 10 (Int32.toNatClampNeg up)).toInt < up.toInt) := par_ok bW hv
      refine gz_iload_n dX12_untils_13 rfl rfl ?_
      refine gz_aload_n dX12_untils_14 rfl rfl ?_
      refine mg_20 hS dX12_untils_15 ?_
      refine gz_iload_n dX12_untils_18 rfl rfl ?_
      refine m_iald 7 hS rfl (N := 880) rfl ((by exact vin_T (rfl : (up).toInt = (up).toInt) (by omega) (by omega))) dX12_untils_19 ?_
      refine gz_bipush (v := 8) dX12_untils_20 (by decide) ?_
      refine gz_icmp_ne (tgt := 29) dX12_untils_22 (by decide) (fun c_22 => ?_) (fun c_22 => ?_)
      ·
        try simp only [mIn_0, lgc_lt, lgc_gt, lgc_le, lgc_ge, lgc_eq] at c_22
        try simp only [fl_lt, fl_le, fl_eq, fL_w, fL_lt, fL_le, tm1, tm10k, tm9, tm99, Int32.reduceToInt, Int64.reduceToInt, Int.not_lt, Int.not_le] at c_22
        refine gz_iconst (v := 0) dX12_untils_29 (by decide) ?_
        refine gz_iadd dX12_untils_30 ?_
        refine gz_istore_n (lv' := [(2, .int (v + 0)), (3, .int up), (0, .ref m), (1, .int x1)]) dX12_untils_31 rfl (by decide) rfl ?_
        refine gz_aload_n dX12_untils_32 rfl rfl ?_
        refine mg_29 hS dX12_untils_33 ?_
        refine gz_iload_n dX12_untils_36 rfl rfl ?_
        refine m_iald 10 hS rfl (N := 880) rfl ((by exact vin_T (rfl : (up).toInt = (up).toInt) (by omega) (by omega))) dX12_untils_37 ?_
        refine gz_istore_n (lv' := [(3, .int ((F 10) (Int32.toNatClampNeg up))), (2, .int (v + 0)), (0, .ref m), (1, .int x1)]) dX12_untils_38 rfl (by decide) rfl ?_
        refine gz_goto (tgt := 9) dX12_untils_39 (by decide) ?_
        refine gz_sub (lv' := [(3, .int ((F 10) (Int32.toNatClampNeg up))), (2, .int (v + 0)), (0, .ref m), (1, .int x1)]) (by simp [List.lookup]) ?_
        exact ih ((F 10) (Int32.toNatClampNeg up)) (v + 0) _ _ _ _ _ hS hx (a5) (bA) (bW) (qp_up.imp_right And.left) (by rcases qp_up with z9 | z9 <;> first | omega | (have z8 := vW_lt bW a5 z9.1; omega)) (hf)
      ·
        try simp only [mIn_0, lgc_lt, lgc_gt, lgc_le, lgc_ge, lgc_eq] at c_22
        try simp only [fl_lt, fl_le, fl_eq, fL_w, fL_lt, fL_le, tm1, tm10k, tm9, tm99, Int32.reduceToInt, Int64.reduceToInt, Int.not_lt, Int.not_le] at c_22
        refine gz_iconst (v := 1) dX12_untils_25 (by decide) ?_
        refine gz_goto (tgt := 30) dX12_untils_26 (by decide) ?_
        refine gz_iadd dX12_untils_30 ?_
        refine gz_istore_n (lv' := [(2, .int (v + 1)), (3, .int up), (0, .ref m), (1, .int x1)]) dX12_untils_31 rfl (by decide) rfl ?_
        refine gz_aload_n dX12_untils_32 rfl rfl ?_
        refine mg_29 hS dX12_untils_33 ?_
        refine gz_iload_n dX12_untils_36 rfl rfl ?_
        refine m_iald 10 hS rfl (N := 880) rfl ((by exact vin_T (rfl : (up).toInt = (up).toInt) (by omega) (by omega))) dX12_untils_37 ?_
        refine gz_istore_n (lv' := [(3, .int ((F 10) (Int32.toNatClampNeg up))), (2, .int (v + 1)), (0, .ref m), (1, .int x1)]) dX12_untils_38 rfl (by decide) rfl ?_
        refine gz_goto (tgt := 9) dX12_untils_39 (by decide) ?_
        refine gz_sub (lv' := [(3, .int ((F 10) (Int32.toNatClampNeg up))), (2, .int (v + 1)), (0, .ref m), (1, .int x1)]) (by simp [List.lookup]) ?_
        exact ih ((F 10) (Int32.toNatClampNeg up)) (v + 1) _ _ _ _ _ hS hx (a5) (bA) (bW) (qp_up.imp_right And.left) (by rcases qp_up with z9 | z9 <;> first | omega | (have z8 := vW_lt bW a5 z9.1; omega)) (hf)

set_option maxHeartbeats 4000000 in
set_option maxRecDepth 100000 in
theorem k_X12_untils {l : Launch} {D : va_G} {cy : Nat → ClassId} {b : Nat} {f : gMem} {m : Nat} {a : Nat → Nat} {f0 : gMem} {n : Nat → Int32} {z : Nat → Int64} {F : Nat → Nat → Int32} {G : Nat → Nat → Int64}  {x1 : Int32} (hS : mS cy m a f0 n z F G f) (a5 : 0 ≤ (n 5).toInt ∧ (n 5).toInt ≤ 20) (bA : rAll F) (bW : rW F (n 5).toInt) (hw : vW F (n 5).toInt x1.toInt) : gC l D cy b yX12_untils cX12_untils 4 (some .int) 0 0 0 [.ref m, .int x1] f (pI fun r f2 => True ∧ f2 = f) := by
  have qv := vW_lt bW a5 hw
  have qp_x1 : (F 10 (Int32.toNatClampNeg x1)).toInt = -1 ∨ (vW F (n 5).toInt (F 10 (Int32.toNatClampNeg x1)).toInt ∧ (F 10 (Int32.toNatClampNeg x1)).toInt < x1.toInt) := par_ok bW hw
  refine gC_of (by decide) (Nat.le_of_ble_eq_true rfl) ?_
  show gG l _ _ _ D cy b cX12_untils 4 _ RX12 "untils" 0 0 f 0 [(0, .ref m), (1, .int x1)] []
  refine gz_iconst (v := 0) dX12_untils_0 (by decide) ?_
  refine gz_istore_n (lv' := [(2, .int 0), (0, .ref m), (1, .int x1)]) dX12_untils_1 rfl (by decide) rfl ?_
  refine gz_aload_n dX12_untils_2 rfl rfl ?_
  refine mg_29 hS dX12_untils_3 ?_
  refine gz_iload_n dX12_untils_6 rfl rfl ?_
  refine m_iald 10 hS rfl (N := 880) rfl ((by exact vin_T (rfl : (x1).toInt = (x1).toInt) (by omega) (by omega))) dX12_untils_7 ?_
  refine gz_istore_n (lv' := [(3, .int ((F 10) (Int32.toNatClampNeg x1))), (2, .int 0), (0, .ref m), (1, .int x1)]) dX12_untils_8 rfl (by decide) rfl ?_
  refine gz_sub (lv' := [(3, .int ((F 10) (Int32.toNatClampNeg x1))), (2, .int 0), (0, .ref m), (1, .int x1)]) (by simp [List.lookup]) ?_
  exact l_X12_untils 882 (F 10 (Int32.toNatClampNeg x1)) 0 _ _ _ _ _ hS fx_rf (a5) (bA) (bW) (qp_x1.imp_right And.left) (by rcases qp_x1 with z9 | z9 <;> first | omega | (have z8 := vW_lt bW a5 z9.1; omega)) (rfl)

set_option maxHeartbeats 4000000 in
set_option maxRecDepth 100000 in
theorem l_X12_chooser {l : Launch} {D : va_G} {cy : Nat → ClassId} {b : Nat} {m : Nat} {a : Nat → Nat} {f0 : gMem} {n0 : Nat → Int32} {z0 : Nat → Int64} {F0 : Nat → Nat → Int32} {G0 : Nat → Nat → Int64}  {x1 : Int32} {f : gMem}  : ∀ (k : Nat) (up v : Int32) (n : Nat → Int32) (z : Nat → Int64) (F : Nat → Nat → Int32) (G : Nat → Nat → Int64) (fm : gMem), mS cy m a f0 n z F G fm → fx [] [] [] [] n0 z0 F0 G0 n z F G → (0 ≤ (n 5).toInt ∧ (n 5).toInt ≤ 20) → (rAll F) → (rW F (n 5).toInt) → (up.toInt = -1 ∨ vW F (n 5).toInt up.toInt) → (-1 ≤ up.toInt ∧ up.toInt + 2 ≤ (k : Int) ∧ up.toInt ≤ 879) → (fm = f) → gG l (gRm 0 0 0) (gQf D b (pI fun r f2 => True ∧ f2 = f) 0 0) gTt D cy b cX12_chooser 4 (some .int) RX12 "chooser" 0 0 fm 9 [(3, .int up), (2, .int v), (0, .ref m), (1, .int x1)] [] := by
  intro k
  induction k with
  | zero =>
    intro up v n z F G fm hS hx a5 bA bW hu hk hf
    exfalso; omega
  | succ k ih =>
    intro up v n z F G fm hS hx a5 bA bW hu hk hf
    refine gz_iload_n dX12_chooser_9 rfl rfl ?_
    refine gz_if_lt (tgt := 41) dX12_chooser_10 (by decide) (fun c_10 => ?_) (fun c_10 => ?_)
    ·
      try simp only [mIn_0, lgc_lt, lgc_gt, lgc_le, lgc_ge, lgc_eq] at c_10
      try simp only [fl_lt, fl_le, fl_eq, fL_w, fL_lt, fL_le, tm1, tm10k, tm9, tm99, Int32.reduceToInt, Int64.reduceToInt, Int.not_lt, Int.not_le] at c_10
      refine gz_iload_n dX12_chooser_41 rfl rfl ?_
      exact gz_iret rfl dX12_chooser_42 (Nat.le_of_ble_eq_true rfl) (Nat.le_of_ble_eq_true rfl) (⟨_, rfl, trivial, hf⟩)
    ·
      try simp only [mIn_0, lgc_lt, lgc_gt, lgc_le, lgc_ge, lgc_eq] at c_10
      try simp only [fl_lt, fl_le, fl_eq, fL_w, fL_lt, fL_le, tm1, tm10k, tm9, tm99, Int32.reduceToInt, Int64.reduceToInt, Int.not_lt, Int.not_le] at c_10
      have hv : vW F (n 5).toInt up.toInt := by rcases hu with z9 | z9 <;> first | exact z9 | (exfalso; omega)
      have qv := vW_lt bW a5 hv
      have qp_up : (F 10 (Int32.toNatClampNeg up)).toInt = -1 ∨ (vW F (n 5).toInt (F 10 (Int32.toNatClampNeg up)).toInt ∧ (F 10 (Int32.toNatClampNeg up)).toInt < up.toInt) := par_ok bW hv
      refine gz_iload_n dX12_chooser_13 rfl rfl ?_
      refine gz_aload_n dX12_chooser_14 rfl rfl ?_
      refine mg_20 hS dX12_chooser_15 ?_
      refine gz_iload_n dX12_chooser_18 rfl rfl ?_
      refine m_iald 7 hS rfl (N := 880) rfl ((by exact vin_T (rfl : (up).toInt = (up).toInt) (by omega) (by omega))) dX12_chooser_19 ?_
      refine gz_iconst (v := 2) dX12_chooser_20 (by decide) ?_
      refine gz_icmp_ne (tgt := 28) dX12_chooser_21 (by decide) (fun c_21 => ?_) (fun c_21 => ?_)
      ·
        try simp only [mIn_0, lgc_lt, lgc_gt, lgc_le, lgc_ge, lgc_eq] at c_21
        try simp only [fl_lt, fl_le, fl_eq, fL_w, fL_lt, fL_le, tm1, tm10k, tm9, tm99, Int32.reduceToInt, Int64.reduceToInt, Int.not_lt, Int.not_le] at c_21
        refine gz_iconst (v := 0) dX12_chooser_28 (by decide) ?_
        refine gz_ixor dX12_chooser_29 ?_
        refine gz_istore_n (lv' := [(2, .int (v ^^^ 0)), (3, .int up), (0, .ref m), (1, .int x1)]) dX12_chooser_30 rfl (by decide) rfl ?_
        refine gz_aload_n dX12_chooser_31 rfl rfl ?_
        refine mg_29 hS dX12_chooser_32 ?_
        refine gz_iload_n dX12_chooser_35 rfl rfl ?_
        refine m_iald 10 hS rfl (N := 880) rfl ((by exact vin_T (rfl : (up).toInt = (up).toInt) (by omega) (by omega))) dX12_chooser_36 ?_
        refine gz_istore_n (lv' := [(3, .int ((F 10) (Int32.toNatClampNeg up))), (2, .int (v ^^^ 0)), (0, .ref m), (1, .int x1)]) dX12_chooser_37 rfl (by decide) rfl ?_
        refine gz_goto (tgt := 9) dX12_chooser_38 (by decide) ?_
        refine gz_sub (lv' := [(3, .int ((F 10) (Int32.toNatClampNeg up))), (2, .int (v ^^^ 0)), (0, .ref m), (1, .int x1)]) (by simp [List.lookup]) ?_
        exact ih ((F 10) (Int32.toNatClampNeg up)) (v ^^^ 0) _ _ _ _ _ hS hx (a5) (bA) (bW) (qp_up.imp_right And.left) (by rcases qp_up with z9 | z9 <;> first | omega | (have z8 := vW_lt bW a5 z9.1; omega)) (hf)
      ·
        try simp only [mIn_0, lgc_lt, lgc_gt, lgc_le, lgc_ge, lgc_eq] at c_21
        try simp only [fl_lt, fl_le, fl_eq, fL_w, fL_lt, fL_le, tm1, tm10k, tm9, tm99, Int32.reduceToInt, Int64.reduceToInt, Int.not_lt, Int.not_le] at c_21
        refine gz_iconst (v := 1) dX12_chooser_24 (by decide) ?_
        refine gz_goto (tgt := 29) dX12_chooser_25 (by decide) ?_
        refine gz_ixor dX12_chooser_29 ?_
        refine gz_istore_n (lv' := [(2, .int (v ^^^ 1)), (3, .int up), (0, .ref m), (1, .int x1)]) dX12_chooser_30 rfl (by decide) rfl ?_
        refine gz_aload_n dX12_chooser_31 rfl rfl ?_
        refine mg_29 hS dX12_chooser_32 ?_
        refine gz_iload_n dX12_chooser_35 rfl rfl ?_
        refine m_iald 10 hS rfl (N := 880) rfl ((by exact vin_T (rfl : (up).toInt = (up).toInt) (by omega) (by omega))) dX12_chooser_36 ?_
        refine gz_istore_n (lv' := [(3, .int ((F 10) (Int32.toNatClampNeg up))), (2, .int (v ^^^ 1)), (0, .ref m), (1, .int x1)]) dX12_chooser_37 rfl (by decide) rfl ?_
        refine gz_goto (tgt := 9) dX12_chooser_38 (by decide) ?_
        refine gz_sub (lv' := [(3, .int ((F 10) (Int32.toNatClampNeg up))), (2, .int (v ^^^ 1)), (0, .ref m), (1, .int x1)]) (by simp [List.lookup]) ?_
        exact ih ((F 10) (Int32.toNatClampNeg up)) (v ^^^ 1) _ _ _ _ _ hS hx (a5) (bA) (bW) (qp_up.imp_right And.left) (by rcases qp_up with z9 | z9 <;> first | omega | (have z8 := vW_lt bW a5 z9.1; omega)) (hf)

set_option maxHeartbeats 4000000 in
set_option maxRecDepth 100000 in
theorem k_X12_chooser {l : Launch} {D : va_G} {cy : Nat → ClassId} {b : Nat} {f : gMem} {m : Nat} {a : Nat → Nat} {f0 : gMem} {n : Nat → Int32} {z : Nat → Int64} {F : Nat → Nat → Int32} {G : Nat → Nat → Int64}  {x1 : Int32} (hS : mS cy m a f0 n z F G f) (a5 : 0 ≤ (n 5).toInt ∧ (n 5).toInt ≤ 20) (bA : rAll F) (bW : rW F (n 5).toInt) (hw : vW F (n 5).toInt x1.toInt) : gC l D cy b yX12_chooser cX12_chooser 4 (some .int) 0 0 0 [.ref m, .int x1] f (pI fun r f2 => True ∧ f2 = f) := by
  have qv := vW_lt bW a5 hw
  have qp_x1 : (F 10 (Int32.toNatClampNeg x1)).toInt = -1 ∨ (vW F (n 5).toInt (F 10 (Int32.toNatClampNeg x1)).toInt ∧ (F 10 (Int32.toNatClampNeg x1)).toInt < x1.toInt) := par_ok bW hw
  refine gC_of (by decide) (Nat.le_of_ble_eq_true rfl) ?_
  show gG l _ _ _ D cy b cX12_chooser 4 _ RX12 "chooser" 0 0 f 0 [(0, .ref m), (1, .int x1)] []
  refine gz_iconst (v := 0) dX12_chooser_0 (by decide) ?_
  refine gz_istore_n (lv' := [(2, .int 0), (0, .ref m), (1, .int x1)]) dX12_chooser_1 rfl (by decide) rfl ?_
  refine gz_aload_n dX12_chooser_2 rfl rfl ?_
  refine mg_29 hS dX12_chooser_3 ?_
  refine gz_iload_n dX12_chooser_6 rfl rfl ?_
  refine m_iald 10 hS rfl (N := 880) rfl ((by exact vin_T (rfl : (x1).toInt = (x1).toInt) (by omega) (by omega))) dX12_chooser_7 ?_
  refine gz_istore_n (lv' := [(3, .int ((F 10) (Int32.toNatClampNeg x1))), (2, .int 0), (0, .ref m), (1, .int x1)]) dX12_chooser_8 rfl (by decide) rfl ?_
  refine gz_sub (lv' := [(3, .int ((F 10) (Int32.toNatClampNeg x1))), (2, .int 0), (0, .ref m), (1, .int x1)]) (by simp [List.lookup]) ?_
  exact l_X12_chooser 882 (F 10 (Int32.toNatClampNeg x1)) 0 _ _ _ _ _ hS fx_rf (a5) (bA) (bW) (qp_x1.imp_right And.left) (by rcases qp_x1 with z9 | z9 <;> first | omega | (have z8 := vW_lt bW a5 z9.1; omega)) (rfl)

set_option maxHeartbeats 4000000 in
set_option maxRecDepth 100000 in
theorem l_X12_capOf {l : Launch} {D : va_G} {cy : Nat → ClassId} {b : Nat} {m : Nat} {a : Nat → Nat} {f0 : gMem} {n0 : Nat → Int32} {z0 : Nat → Int64} {F0 : Nat → Nat → Int32} {G0 : Nat → Nat → Int64}  {x1 : Int32} {f : gMem}  : ∀ (k : Nat) (up v : Int32) (n : Nat → Int32) (z : Nat → Int64) (F : Nat → Nat → Int32) (G : Nat → Nat → Int64) (fm : gMem), mS cy m a f0 n z F G fm → fx [] [] [] [] n0 z0 F0 G0 n z F G → (0 ≤ (n 5).toInt ∧ (n 5).toInt ≤ 20) → (rAll F) → (rW F (n 5).toInt) → (up.toInt = -1 ∨ vW F (n 5).toInt up.toInt) → (-1 ≤ up.toInt ∧ up.toInt + 2 ≤ (k : Int) ∧ up.toInt ≤ 879) → (fm = f) → gG l (gRm 0 0 0) (gQf D b (pI fun r f2 => True ∧ f2 = f) 0 0) gTt D cy b cX12_capOf 4 (some .int) RX12 "capOf" 0 0 fm 9 [(3, .int up), (2, .int v), (0, .ref m), (1, .int x1)] [] := by
  intro k
  induction k with
  | zero =>
    intro up v n z F G fm hS hx a5 bA bW hu hk hf
    exfalso; omega
  | succ k ih =>
    intro up v n z F G fm hS hx a5 bA bW hu hk hf
    refine gz_iload_n dX12_capOf_9 rfl rfl ?_
    refine gz_if_lt (tgt := 55) dX12_capOf_10 (by decide) (fun c_10 => ?_) (fun c_10 => ?_)
    ·
      try simp only [mIn_0, lgc_lt, lgc_gt, lgc_le, lgc_ge, lgc_eq] at c_10
      try simp only [fl_lt, fl_le, fl_eq, fL_w, fL_lt, fL_le, tm1, tm10k, tm9, tm99, Int32.reduceToInt, Int64.reduceToInt, Int.not_lt, Int.not_le] at c_10
      refine gz_iload_n dX12_capOf_55 rfl rfl ?_
      exact gz_iret rfl dX12_capOf_56 (Nat.le_of_ble_eq_true rfl) (Nat.le_of_ble_eq_true rfl) (⟨_, rfl, trivial, hf⟩)
    ·
      try simp only [mIn_0, lgc_lt, lgc_gt, lgc_le, lgc_ge, lgc_eq] at c_10
      try simp only [fl_lt, fl_le, fl_eq, fL_w, fL_lt, fL_le, tm1, tm10k, tm9, tm99, Int32.reduceToInt, Int64.reduceToInt, Int.not_lt, Int.not_le] at c_10
      have hv : vW F (n 5).toInt up.toInt := by rcases hu with z9 | z9 <;> first | exact z9 | (exfalso; omega)
      have qv := vW_lt bW a5 hv
      have qp_up : (F 10 (Int32.toNatClampNeg up)).toInt = -1 ∨ (vW F (n 5).toInt (F 10 (Int32.toNatClampNeg up)).toInt ∧ (F 10 (Int32.toNatClampNeg up)).toInt < up.toInt) := par_ok bW hv
      refine gz_aload_n dX12_capOf_13 rfl rfl ?_
      refine mg_20 hS dX12_capOf_14 ?_
      refine gz_iload_n dX12_capOf_17 rfl rfl ?_
      refine m_iald 7 hS rfl (N := 880) rfl ((by exact vin_T (rfl : (up).toInt = (up).toInt) (by omega) (by omega))) dX12_capOf_18 ?_
      refine gz_bipush (v := 10) dX12_capOf_19 (by decide) ?_
      refine gz_icmp_ne (tgt := 45) dX12_capOf_21 (by decide) (fun c_21 => ?_) (fun c_21 => ?_)
      ·
        try simp only [mIn_0, lgc_lt, lgc_gt, lgc_le, lgc_ge, lgc_eq] at c_21
        try simp only [fl_lt, fl_le, fl_eq, fL_w, fL_lt, fL_le, tm1, tm10k, tm9, tm99, Int32.reduceToInt, Int64.reduceToInt, Int.not_lt, Int.not_le] at c_21
        refine gz_aload_n dX12_capOf_45 rfl rfl ?_
        refine mg_29 hS dX12_capOf_46 ?_
        refine gz_iload_n dX12_capOf_49 rfl rfl ?_
        refine m_iald 10 hS rfl (N := 880) rfl ((by exact vin_T (rfl : (up).toInt = (up).toInt) (by omega) (by omega))) dX12_capOf_50 ?_
        refine gz_istore_n (lv' := [(3, .int ((F 10) (Int32.toNatClampNeg up))), (2, .int v), (0, .ref m), (1, .int x1)]) dX12_capOf_51 rfl (by decide) rfl ?_
        refine gz_goto (tgt := 9) dX12_capOf_52 (by decide) ?_
        refine gz_sub (lv' := [(3, .int ((F 10) (Int32.toNatClampNeg up))), (2, .int v), (0, .ref m), (1, .int x1)]) (by simp [List.lookup]) ?_
        exact ih ((F 10) (Int32.toNatClampNeg up)) v _ _ _ _ _ hS hx (a5) (bA) (bW) (qp_up.imp_right And.left) (by rcases qp_up with z9 | z9 <;> first | omega | (have z8 := vW_lt bW a5 z9.1; omega)) (hf)
      ·
        try simp only [mIn_0, lgc_lt, lgc_gt, lgc_le, lgc_ge, lgc_eq] at c_21
        try simp only [fl_lt, fl_le, fl_eq, fL_w, fL_lt, fL_le, tm1, tm10k, tm9, tm99, Int32.reduceToInt, Int64.reduceToInt, Int.not_lt, Int.not_le] at c_21
        refine gz_iload_n dX12_capOf_24 rfl rfl ?_
        refine gz_if_lt (tgt := 38) dX12_capOf_25 (by decide) (fun c_25 => ?_) (fun c_25 => ?_)
        ·
          try simp only [mIn_0, lgc_lt, lgc_gt, lgc_le, lgc_ge, lgc_eq] at c_25
          try simp only [fl_lt, fl_le, fl_eq, fL_w, fL_lt, fL_le, tm1, tm10k, tm9, tm99, Int32.reduceToInt, Int64.reduceToInt, Int.not_lt, Int.not_le] at c_25
          refine gz_aload_n dX12_capOf_38 rfl rfl ?_
          refine mg_23 hS dX12_capOf_39 ?_
          refine gz_iload_n dX12_capOf_42 rfl rfl ?_
          refine m_iald 8 hS rfl (N := 880) rfl ((by exact vin_T (rfl : (up).toInt = (up).toInt) (by omega) (by omega))) dX12_capOf_43 ?_
          refine gz_istore_n (lv' := [(2, .int ((F 8) (Int32.toNatClampNeg up))), (3, .int up), (0, .ref m), (1, .int x1)]) dX12_capOf_44 rfl (by decide) rfl ?_
          refine gz_aload_n dX12_capOf_45 rfl rfl ?_
          refine mg_29 hS dX12_capOf_46 ?_
          refine gz_iload_n dX12_capOf_49 rfl rfl ?_
          refine m_iald 10 hS rfl (N := 880) rfl ((by exact vin_T (rfl : (up).toInt = (up).toInt) (by omega) (by omega))) dX12_capOf_50 ?_
          refine gz_istore_n (lv' := [(3, .int ((F 10) (Int32.toNatClampNeg up))), (2, .int ((F 8) (Int32.toNatClampNeg up))), (0, .ref m), (1, .int x1)]) dX12_capOf_51 rfl (by decide) rfl ?_
          refine gz_goto (tgt := 9) dX12_capOf_52 (by decide) ?_
          refine gz_sub (lv' := [(3, .int ((F 10) (Int32.toNatClampNeg up))), (2, .int ((F 8) (Int32.toNatClampNeg up))), (0, .ref m), (1, .int x1)]) (by simp [List.lookup]) ?_
          exact ih ((F 10) (Int32.toNatClampNeg up)) ((F 8) (Int32.toNatClampNeg up)) _ _ _ _ _ hS hx (a5) (bA) (bW) (qp_up.imp_right And.left) (by rcases qp_up with z9 | z9 <;> first | omega | (have z8 := vW_lt bW a5 z9.1; omega)) (hf)
        ·
          try simp only [mIn_0, lgc_lt, lgc_gt, lgc_le, lgc_ge, lgc_eq] at c_25
          try simp only [fl_lt, fl_le, fl_eq, fL_w, fL_lt, fL_le, tm1, tm10k, tm9, tm99, Int32.reduceToInt, Int64.reduceToInt, Int.not_lt, Int.not_le] at c_25
          refine gz_aload_n dX12_capOf_28 rfl rfl ?_
          refine mg_23 hS dX12_capOf_29 ?_
          refine gz_iload_n dX12_capOf_32 rfl rfl ?_
          refine m_iald 8 hS rfl (N := 880) rfl ((by exact vin_T (rfl : (up).toInt = (up).toInt) (by omega) (by omega))) dX12_capOf_33 ?_
          refine gz_iload_n dX12_capOf_34 rfl rfl ?_
          refine gz_icmp_ge (tgt := 45) dX12_capOf_35 (by decide) (fun c_35 => ?_) (fun c_35 => ?_)
          ·
            try simp only [mIn_0, lgc_lt, lgc_gt, lgc_le, lgc_ge, lgc_eq] at c_35
            try simp only [fl_lt, fl_le, fl_eq, fL_w, fL_lt, fL_le, tm1, tm10k, tm9, tm99, Int32.reduceToInt, Int64.reduceToInt, Int.not_lt, Int.not_le] at c_35
            refine gz_aload_n dX12_capOf_45 rfl rfl ?_
            refine mg_29 hS dX12_capOf_46 ?_
            refine gz_iload_n dX12_capOf_49 rfl rfl ?_
            refine m_iald 10 hS rfl (N := 880) rfl ((by exact vin_T (rfl : (up).toInt = (up).toInt) (by omega) (by omega))) dX12_capOf_50 ?_
            refine gz_istore_n (lv' := [(3, .int ((F 10) (Int32.toNatClampNeg up))), (2, .int v), (0, .ref m), (1, .int x1)]) dX12_capOf_51 rfl (by decide) rfl ?_
            refine gz_goto (tgt := 9) dX12_capOf_52 (by decide) ?_
            refine gz_sub (lv' := [(3, .int ((F 10) (Int32.toNatClampNeg up))), (2, .int v), (0, .ref m), (1, .int x1)]) (by simp [List.lookup]) ?_
            exact ih ((F 10) (Int32.toNatClampNeg up)) v _ _ _ _ _ hS hx (a5) (bA) (bW) (qp_up.imp_right And.left) (by rcases qp_up with z9 | z9 <;> first | omega | (have z8 := vW_lt bW a5 z9.1; omega)) (hf)
          ·
            try simp only [mIn_0, lgc_lt, lgc_gt, lgc_le, lgc_ge, lgc_eq] at c_35
            try simp only [fl_lt, fl_le, fl_eq, fL_w, fL_lt, fL_le, tm1, tm10k, tm9, tm99, Int32.reduceToInt, Int64.reduceToInt, Int.not_lt, Int.not_le] at c_35
            refine gz_aload_n dX12_capOf_38 rfl rfl ?_
            refine mg_23 hS dX12_capOf_39 ?_
            refine gz_iload_n dX12_capOf_42 rfl rfl ?_
            refine m_iald 8 hS rfl (N := 880) rfl ((by exact vin_T (rfl : (up).toInt = (up).toInt) (by omega) (by omega))) dX12_capOf_43 ?_
            refine gz_istore_n (lv' := [(2, .int ((F 8) (Int32.toNatClampNeg up))), (3, .int up), (0, .ref m), (1, .int x1)]) dX12_capOf_44 rfl (by decide) rfl ?_
            refine gz_aload_n dX12_capOf_45 rfl rfl ?_
            refine mg_29 hS dX12_capOf_46 ?_
            refine gz_iload_n dX12_capOf_49 rfl rfl ?_
            refine m_iald 10 hS rfl (N := 880) rfl ((by exact vin_T (rfl : (up).toInt = (up).toInt) (by omega) (by omega))) dX12_capOf_50 ?_
            refine gz_istore_n (lv' := [(3, .int ((F 10) (Int32.toNatClampNeg up))), (2, .int ((F 8) (Int32.toNatClampNeg up))), (0, .ref m), (1, .int x1)]) dX12_capOf_51 rfl (by decide) rfl ?_
            refine gz_goto (tgt := 9) dX12_capOf_52 (by decide) ?_
            refine gz_sub (lv' := [(3, .int ((F 10) (Int32.toNatClampNeg up))), (2, .int ((F 8) (Int32.toNatClampNeg up))), (0, .ref m), (1, .int x1)]) (by simp [List.lookup]) ?_
            exact ih ((F 10) (Int32.toNatClampNeg up)) ((F 8) (Int32.toNatClampNeg up)) _ _ _ _ _ hS hx (a5) (bA) (bW) (qp_up.imp_right And.left) (by rcases qp_up with z9 | z9 <;> first | omega | (have z8 := vW_lt bW a5 z9.1; omega)) (hf)

set_option maxHeartbeats 4000000 in
set_option maxRecDepth 100000 in
theorem k_X12_capOf {l : Launch} {D : va_G} {cy : Nat → ClassId} {b : Nat} {f : gMem} {m : Nat} {a : Nat → Nat} {f0 : gMem} {n : Nat → Int32} {z : Nat → Int64} {F : Nat → Nat → Int32} {G : Nat → Nat → Int64}  {x1 : Int32} (hS : mS cy m a f0 n z F G f) (a5 : 0 ≤ (n 5).toInt ∧ (n 5).toInt ≤ 20) (bA : rAll F) (bW : rW F (n 5).toInt) (hw : vW F (n 5).toInt x1.toInt) : gC l D cy b yX12_capOf cX12_capOf 4 (some .int) 0 0 0 [.ref m, .int x1] f (pI fun r f2 => True ∧ f2 = f) := by
  have qv := vW_lt bW a5 hw
  have qp_x1 : (F 10 (Int32.toNatClampNeg x1)).toInt = -1 ∨ (vW F (n 5).toInt (F 10 (Int32.toNatClampNeg x1)).toInt ∧ (F 10 (Int32.toNatClampNeg x1)).toInt < x1.toInt) := par_ok bW hw
  refine gC_of (by decide) (Nat.le_of_ble_eq_true rfl) ?_
  show gG l _ _ _ D cy b cX12_capOf 4 _ RX12 "capOf" 0 0 f 0 [(0, .ref m), (1, .int x1)] []
  refine gz_iconst (v := (-1)) dX12_capOf_0 (by decide) ?_
  refine gz_istore_n (lv' := [(2, .int (-1)), (0, .ref m), (1, .int x1)]) dX12_capOf_1 rfl (by decide) rfl ?_
  refine gz_aload_n dX12_capOf_2 rfl rfl ?_
  refine mg_29 hS dX12_capOf_3 ?_
  refine gz_iload_n dX12_capOf_6 rfl rfl ?_
  refine m_iald 10 hS rfl (N := 880) rfl ((by exact vin_T (rfl : (x1).toInt = (x1).toInt) (by omega) (by omega))) dX12_capOf_7 ?_
  refine gz_istore_n (lv' := [(3, .int ((F 10) (Int32.toNatClampNeg x1))), (2, .int (-1)), (0, .ref m), (1, .int x1)]) dX12_capOf_8 rfl (by decide) rfl ?_
  refine gz_sub (lv' := [(3, .int ((F 10) (Int32.toNatClampNeg x1))), (2, .int (-1)), (0, .ref m), (1, .int x1)]) (by simp [List.lookup]) ?_
  exact l_X12_capOf 882 (F 10 (Int32.toNatClampNeg x1)) (-1) _ _ _ _ _ hS fx_rf (a5) (bA) (bW) (qp_x1.imp_right And.left) (by rcases qp_x1 with z9 | z9 <;> first | omega | (have z8 := vW_lt bW a5 z9.1; omega)) (rfl)

set_option maxHeartbeats 4000000 in
set_option maxRecDepth 100000 in
theorem k_X12_held {l : Launch} {D : va_G} {cy : Nat → ClassId} {b : Nat} {f : gMem} {x y : Int64}   : gC l D cy b yX12_held cX12_held 4 (some .long) 0 0 0 [.long x, .long y] f (pL fun r f2 => True ∧ f2 = f) := by
  refine gC_of (by decide) (Nat.le_of_ble_eq_true rfl) ?_
  show gG l _ _ _ D cy b cX12_held 4 _ RX12 "held" 0 0 f 0 [(0, .long x), (2, .long y)] []
  refine gz_lload_n dX12_held_0 rfl rfl ?_
  refine gz_lload_n dX12_held_1 rfl rfl ?_
  refine gz_lneg dX12_held_2 ?_
  refine gz_lcmp dX12_held_3 ?_
  refine gz_if_ge (tgt := 12) dX12_held_4 (by decide) (fun c_4 => ?_) (fun c_4 => ?_)
  ·
    refine gz_lload_n dX12_held_12 rfl rfl ?_
    refine gz_lload_n dX12_held_13 rfl rfl ?_
    refine gz_lcmp dX12_held_14 ?_
    refine gz_if_le (tgt := 22) dX12_held_15 (by decide) (fun c_15 => ?_) (fun c_15 => ?_)
    ·
      refine gz_lload_n dX12_held_22 rfl rfl ?_
      exact gz_lret rfl dX12_held_23 (Nat.le_of_ble_eq_true rfl) (Nat.le_of_ble_eq_true rfl) (⟨_, rfl, trivial, rfl⟩)
    ·
      refine gz_lload_n dX12_held_18 rfl rfl ?_
      refine gz_goto (tgt := 23) dX12_held_19 (by decide) ?_
      exact gz_lret rfl dX12_held_23 (Nat.le_of_ble_eq_true rfl) (Nat.le_of_ble_eq_true rfl) (⟨_, rfl, trivial, rfl⟩)
  ·
    refine gz_lload_n dX12_held_7 rfl rfl ?_
    refine gz_lneg dX12_held_8 ?_
    refine gz_goto (tgt := 23) dX12_held_9 (by decide) ?_
    exact gz_lret rfl dX12_held_23 (Nat.le_of_ble_eq_true rfl) (Nat.le_of_ble_eq_true rfl) (⟨_, rfl, trivial, rfl⟩)

set_option maxHeartbeats 4000000 in
set_option maxRecDepth 100000 in
theorem k_X12_paysOf {l : Launch} {D : va_G} {cy : Nat → ClassId} {b : Nat} {f : gMem} {m : Nat} {a : Nat → Nat} {f0 : gMem} {n : Nat → Int32} {z : Nat → Int64} {F : Nat → Nat → Int32} {G : Nat → Nat → Int64}  {x1 : Int32} {y : Int64} (hS : mS cy m a f0 n z F G f) (a5 : 0 ≤ (n 5).toInt ∧ (n 5).toInt ≤ 20) (bA : rAll F) (bW : rW F (n 5).toInt) (hw : vW F (n 5).toInt x1.toInt) : gC l D cy b yX12_paysOf cX12_paysOf 5 (some .long) 1 0 0 [.ref m, .int x1, .long y] f (pL fun r f2 => True ∧ f2 = f) := by
  have qv := vW_lt bW a5 hw
  refine gC_of (by decide) (Nat.le_of_ble_eq_true rfl) ?_
  show gG l _ _ _ D cy b cX12_paysOf 5 _ RX12 "paysOf" 0 0 f 0 [(0, .ref m), (1, .int x1), (2, .long y)] []
  refine gz_aload_n dX12_paysOf_0 rfl rfl ?_
  refine gz_iload_n dX12_paysOf_1 rfl rfl ?_
  refine scX12_351 (k_X12_capOf (x1 := x1) hS a5 bA bW hw) hS.1 ⟨(Nat.le_of_ble_eq_true rfl), (Nat.le_of_ble_eq_true rfl)⟩ ⟨(Nat.le_of_ble_eq_true rfl), (Nat.le_of_ble_eq_true rfl)⟩ rfl rfl (Nat.le_of_ble_eq_true rfl) dX12_paysOf_2 ?_
  rintro r_1 f9 ⟨-, y9⟩; rw [y9]
  refine gz_istore (lv' := [(4, .int r_1), (0, .ref m), (1, .int x1), (2, .long y)]) dX12_paysOf_5 (by decide) rfl ?_
  refine gz_iload dX12_paysOf_7 rfl ?_
  refine gz_if_ge (tgt := 16) dX12_paysOf_9 (by decide) (fun c_9 => ?_) (fun c_9 => ?_)
  ·
    try simp only [mIn_0, lgc_lt, lgc_gt, lgc_le, lgc_ge, lgc_eq] at c_9
    try simp only [fl_lt, fl_le, fl_eq, fL_w, fL_lt, fL_le, tm1, tm10k, tm9, tm99, Int32.reduceToInt, Int64.reduceToInt, Int.not_lt, Int.not_le] at c_9
    refine gz_lload_n dX12_paysOf_16 rfl rfl ?_
    refine gz_iload dX12_paysOf_17 rfl ?_
    refine gz_i2l dX12_paysOf_19 ?_
    refine scX12_355 (k_X12_held) ⟨(Nat.le_of_ble_eq_true rfl), (Nat.le_of_ble_eq_true rfl)⟩ ⟨(Nat.le_of_ble_eq_true rfl), (Nat.le_of_ble_eq_true rfl)⟩ rfl rfl (Nat.le_of_ble_eq_true rfl) dX12_paysOf_20 ?_
    rintro r_h20 f9 ⟨-, y9⟩; rw [y9]
    exact gz_lret rfl dX12_paysOf_23 (Nat.le_of_ble_eq_true rfl) (Nat.le_of_ble_eq_true rfl) (⟨_, rfl, trivial, rfl⟩)
  ·
    try simp only [mIn_0, lgc_lt, lgc_gt, lgc_le, lgc_ge, lgc_eq] at c_9
    try simp only [fl_lt, fl_le, fl_eq, fL_w, fL_lt, fL_le, tm1, tm10k, tm9, tm99, Int32.reduceToInt, Int64.reduceToInt, Int.not_lt, Int.not_le] at c_9
    refine gz_lload_n dX12_paysOf_12 rfl rfl ?_
    refine gz_goto (tgt := 23) dX12_paysOf_13 (by decide) ?_
    exact gz_lret rfl dX12_paysOf_23 (Nat.le_of_ble_eq_true rfl) (Nat.le_of_ble_eq_true rfl) (⟨_, rfl, trivial, rfl⟩)

set_option maxHeartbeats 4000000 in
set_option maxRecDepth 100000 in
theorem k_X12_factorBehind {l : Launch} {D : va_G} {cy : Nat → ClassId} {b : Nat} {f : gMem} {m : Nat} {a : Nat → Nat} {f0 : gMem} {n : Nat → Int32} {z : Nat → Int64} {F : Nat → Nat → Int32} {G : Nat → Nat → Int64}  {x1 : Int32} {y : Int64} (hS : mS cy m a f0 n z F G f) (a5 : 0 ≤ (n 5).toInt ∧ (n 5).toInt ≤ 20) (bA : rAll F) (bW : rW F (n 5).toInt) (hw : vW F (n 5).toInt x1.toInt) : gC l D cy b yX12_factorBehind cX12_factorBehind 4 (some .long) 1 0 0 [.ref m, .int x1, .long y] f (pL fun r f2 => True ∧ f2 = f) := by
  have qv := vW_lt bW a5 hw
  have qA := all_ok bA (w := x1) (by omega)
  refine gC_of (by decide) (Nat.le_of_ble_eq_true rfl) ?_
  show gG l _ _ _ D cy b cX12_factorBehind 4 _ RX12 "factorBehind" 0 0 f 0 [(0, .ref m), (1, .int x1), (2, .long y)] []
  refine gz_aload_n dX12_factorBehind_0 rfl rfl ?_
  refine mg_20 hS dX12_factorBehind_1 ?_
  refine gz_iload_n dX12_factorBehind_4 rfl rfl ?_
  refine m_iald 7 hS rfl (N := 880) rfl ((by exact vin_T (rfl : (x1).toInt = (x1).toInt) (by omega) (by omega))) dX12_factorBehind_5 ?_
  refine gz_iconst (v := 2) dX12_factorBehind_6 (by decide) ?_
  refine gz_icmp_ne (tgt := 13) dX12_factorBehind_7 (by decide) (fun c_7 => ?_) (fun c_7 => ?_)
  ·
    try simp only [mIn_0, lgc_lt, lgc_gt, lgc_le, lgc_ge, lgc_eq] at c_7
    try simp only [fl_lt, fl_le, fl_eq, fL_w, fL_lt, fL_le, tm1, tm10k, tm9, tm99, Int32.reduceToInt, Int64.reduceToInt, Int.not_lt, Int.not_le] at c_7
    refine gz_aload_n dX12_factorBehind_13 rfl rfl ?_
    refine mg_20 hS dX12_factorBehind_14 ?_
    refine gz_iload_n dX12_factorBehind_17 rfl rfl ?_
    refine m_iald 7 hS rfl (N := 880) rfl ((by exact vin_T (rfl : (x1).toInt = (x1).toInt) (by omega) (by omega))) dX12_factorBehind_18 ?_
    refine gz_bipush (v := 9) dX12_factorBehind_19 (by decide) ?_
    refine gz_icmp_ne (tgt := 58) dX12_factorBehind_21 (by decide) (fun c_21 => ?_) (fun c_21 => ?_)
    ·
      try simp only [mIn_0, lgc_lt, lgc_gt, lgc_le, lgc_ge, lgc_eq] at c_21
      try simp only [fl_lt, fl_le, fl_eq, fL_w, fL_lt, fL_le, tm1, tm10k, tm9, tm99, Int32.reduceToInt, Int64.reduceToInt, Int.not_lt, Int.not_le] at c_21
      refine gz_lload_n dX12_factorBehind_58 rfl rfl ?_
      exact gz_lret rfl dX12_factorBehind_59 (Nat.le_of_ble_eq_true rfl) (Nat.le_of_ble_eq_true rfl) (⟨_, rfl, trivial, rfl⟩)
    ·
      try simp only [mIn_0, lgc_lt, lgc_gt, lgc_le, lgc_ge, lgc_eq] at c_21
      try simp only [fl_lt, fl_le, fl_eq, fL_w, fL_lt, fL_le, tm1, tm10k, tm9, tm99, Int32.reduceToInt, Int64.reduceToInt, Int.not_lt, Int.not_le] at c_21
      refine gz_lload_n dX12_factorBehind_24 rfl rfl ?_
      refine gz_aload_n dX12_factorBehind_25 rfl rfl ?_
      refine gz_bipush (v := 40) dX12_factorBehind_26 (by decide) ?_
      refine gz_iload_n dX12_factorBehind_28 rfl rfl ?_
      refine gz_bipush (v := 40) dX12_factorBehind_29 (by decide) ?_
      refine gz_idiv dX12_factorBehind_31 (by decide) ?_
      refine gz_imul dX12_factorBehind_32 ?_
      refine gz_aload_n dX12_factorBehind_33 rfl rfl ?_
      refine mg_38 hS dX12_factorBehind_34 ?_
      refine gz_iload_n dX12_factorBehind_37 rfl rfl ?_
      refine m_iald 13 hS rfl (N := 880) rfl ((by exact vin_T (rfl : (x1).toInt = (x1).toInt) (by omega) (by omega))) dX12_factorBehind_38 ?_
      refine gz_aload_n dX12_factorBehind_39 rfl rfl ?_
      refine mg_41 hS dX12_factorBehind_40 ?_
      refine gz_iload_n dX12_factorBehind_43 rfl rfl ?_
      refine m_iald 14 hS rfl (N := 880) rfl ((by exact vin_T (rfl : (x1).toInt = (x1).toInt) (by omega) (by omega))) dX12_factorBehind_44 ?_
      refine scX12_344 (k_X12_sumOf (x1 := (40 * (x1 / 40))) (x2 := ((F 13) (Int32.toNatClampNeg x1))) (x3 := ((F 14) (Int32.toNatClampNeg x1))) hS bA ⟨by have q := (T_mul (show (40 : Int32).toInt = 40 from rfl) (T_div (rfl : (x1).toInt = (x1).toInt) (show (40 : Int32).toInt = 40 from rfl) (by omega) (by omega)) (by omega)); omega, by have q := (T_mul (show (40 : Int32).toInt = 40 from rfl) (T_div (rfl : (x1).toInt = (x1).toInt) (show (40 : Int32).toInt = 40 from rfl) (by omega) (by omega)) (by omega)); omega⟩ (by omega) (by omega)) hS.1 ⟨(Nat.le_of_ble_eq_true rfl), (Nat.le_of_ble_eq_true rfl)⟩ ⟨(Nat.le_of_ble_eq_true rfl), (Nat.le_of_ble_eq_true rfl)⟩ rfl rfl (Nat.le_of_ble_eq_true rfl) dX12_factorBehind_45 ?_
      rintro r_1 f9 ⟨-, y9⟩; rw [y9]
      refine gz_lmul dX12_factorBehind_48 ?_
      refine gz_ldc2 (v := (1000000)) wd_880 dX12_factorBehind_49 ?_
      refine scX12_355 (k_X12_held) ⟨(Nat.le_of_ble_eq_true rfl), (Nat.le_of_ble_eq_true rfl)⟩ ⟨(Nat.le_of_ble_eq_true rfl), (Nat.le_of_ble_eq_true rfl)⟩ rfl rfl (Nat.le_of_ble_eq_true rfl) dX12_factorBehind_52 ?_
      rintro r_h52 f9 ⟨-, y9⟩; rw [y9]
      refine gz_goto (tgt := 59) dX12_factorBehind_55 (by decide) ?_
      exact gz_lret rfl dX12_factorBehind_59 (Nat.le_of_ble_eq_true rfl) (Nat.le_of_ble_eq_true rfl) (⟨_, rfl, trivial, rfl⟩)
  ·
    try simp only [mIn_0, lgc_lt, lgc_gt, lgc_le, lgc_ge, lgc_eq] at c_7
    try simp only [fl_lt, fl_le, fl_eq, fL_w, fL_lt, fL_le, tm1, tm10k, tm9, tm99, Int32.reduceToInt, Int64.reduceToInt, Int.not_lt, Int.not_le] at c_7
    refine gz_lload_n dX12_factorBehind_10 rfl rfl ?_
    refine gz_lneg dX12_factorBehind_11 ?_
    exact gz_lret rfl dX12_factorBehind_12 (Nat.le_of_ble_eq_true rfl) (Nat.le_of_ble_eq_true rfl) (⟨_, rfl, trivial, rfl⟩)

set_option maxHeartbeats 4000000 in
set_option maxRecDepth 100000 in
theorem k_X12_leadsTo {l : Launch} {D : va_G} {cy : Nat → ClassId} {b : Nat} {f : gMem} {m : Nat} {a : Nat → Nat} {f0 : gMem} {n : Nat → Int32} {z : Nat → Int64} {F : Nat → Nat → Int32} {G : Nat → Nat → Int64}  {x1 : Int32} (hS : mS cy m a f0 n z F G f) (a5 : 0 ≤ (n 5).toInt ∧ (n 5).toInt ≤ 20) (bA : rAll F) (bW : rW F (n 5).toInt) (hw : vW F (n 5).toInt x1.toInt) : gC l D cy b yX12_leadsTo cX12_leadsTo 2 (some .int) 2 0 0 [.ref m, .int x1] f (pI fun r f2 => ((r.toInt = -1 ∧ ((F 7 (Int32.toNatClampNeg x1)).toInt = 0 ∨ (F 7 (Int32.toNatClampNeg x1)).toInt = 1 ∨ (F 7 (Int32.toNatClampNeg x1)).toInt = 3 ∨ (F 7 (Int32.toNatClampNeg x1)).toInt = 4 ∨ (F 7 (Int32.toNatClampNeg x1)).toInt = 6 ∨ (F 7 (Int32.toNatClampNeg x1)).toInt = 7)) ∨ (0 ≤ r.toInt ∧ vW F (n 5).toInt r.toInt ∧ szF F r.toInt + 1 ≤ szF F x1.toInt)) ∧ f2 = f) := by
  have qv := vW_lt bW a5 hw
  have qk : 0 ≤ (F 7 (Int32.toNatClampNeg x1)).toInt ∧ (F 7 (Int32.toNatClampNeg x1)).toInt ≤ 10 := knd_ok bW hw
  refine gC_of (by decide) (Nat.le_of_ble_eq_true rfl) ?_
  show gG l _ _ _ D cy b cX12_leadsTo 2 _ RX12 "leadsTo" 0 0 f 0 [(0, .ref m), (1, .int x1)] []
  refine gz_aload_n dX12_leadsTo_0 rfl rfl ?_
  refine mg_20 hS dX12_leadsTo_1 ?_
  refine gz_iload_n dX12_leadsTo_4 rfl rfl ?_
  refine m_iald 7 hS rfl (N := 880) rfl ((by exact vin_T (rfl : (x1).toInt = (x1).toInt) (by omega) (by omega))) dX12_leadsTo_5 ?_
  by_cases hw_6_0 : ((F 7) (Int32.toNatClampNeg x1)) = 2
  ·
    refine gz_ev (w := .int 2) (congrArg Value.int hw_6_0) ?_
    refine gz_tableIn (off := 50) (tgt := 56) dX12_leadsTo_6 (by decide) (by decide) rfl (by decide) ?_
    refine gz_aload_n dX12_leadsTo_56 rfl rfl ?_
    refine mg_32 hS dX12_leadsTo_57 ?_
    refine gz_iload_n dX12_leadsTo_60 rfl rfl ?_
    refine m_iald 11 hS rfl (N := 880) rfl ((by exact vin_T (rfl : (x1).toInt = (x1).toInt) (by omega) (by omega))) dX12_leadsTo_61 ?_
    try simp only [fl_eq, Int32.reduceToInt] at hw_6_0
    exact gz_iret rfl dX12_leadsTo_62 (Nat.le_of_ble_eq_true rfl) (Nat.le_of_ble_eq_true rfl) (⟨_, rfl, Or.inr (by have q1 : vW F (n 5).toInt (F 11 (Int32.toNatClampNeg x1)).toInt ∧ szF F (F 11 (Int32.toNatClampNeg x1)).toInt + 1 ≤ szF F x1.toInt := one_ok bW hw (show 2 ≤ (F 7 (Int32.toNatClampNeg x1)).toInt by omega); exact ⟨(vW_lt bW a5 q1.1).1, q1.1, q1.2⟩), rfl⟩)
  ·
    by_cases hw_6_1 : ((F 7) (Int32.toNatClampNeg x1)) = 3
    ·
      refine gz_ev (w := .int 3) (congrArg Value.int hw_6_1) ?_
      refine gz_tableIn (off := 107) (tgt := 113) dX12_leadsTo_6 (by decide) (by decide) rfl (by decide) ?_
      refine gz_iconst (v := (-1)) dX12_leadsTo_113 (by decide) ?_
      try simp only [fl_eq, Int32.reduceToInt] at hw_6_1
      try simp only [fl_eq, Int32.reduceToInt] at hw_6_0
      exact gz_iret rfl dX12_leadsTo_114 (Nat.le_of_ble_eq_true rfl) (Nat.le_of_ble_eq_true rfl) (⟨_, rfl, Or.inl ⟨rfl, by omega⟩, rfl⟩)
    ·
      by_cases hw_6_2 : ((F 7) (Int32.toNatClampNeg x1)) = 4
      ·
        refine gz_ev (w := .int 4) (congrArg Value.int hw_6_2) ?_
        refine gz_tableIn (off := 107) (tgt := 113) dX12_leadsTo_6 (by decide) (by decide) rfl (by decide) ?_
        refine gz_iconst (v := (-1)) dX12_leadsTo_113 (by decide) ?_
        try simp only [fl_eq, Int32.reduceToInt] at hw_6_2
        try simp only [fl_eq, Int32.reduceToInt] at hw_6_0
        try simp only [fl_eq, Int32.reduceToInt] at hw_6_1
        exact gz_iret rfl dX12_leadsTo_114 (Nat.le_of_ble_eq_true rfl) (Nat.le_of_ble_eq_true rfl) (⟨_, rfl, Or.inl ⟨rfl, by omega⟩, rfl⟩)
      ·
        by_cases hw_6_3 : ((F 7) (Int32.toNatClampNeg x1)) = 5
        ·
          refine gz_ev (w := .int 5) (congrArg Value.int hw_6_3) ?_
          refine gz_tableIn (off := 57) (tgt := 63) dX12_leadsTo_6 (by decide) (by decide) rfl (by decide) ?_
          refine gz_aload_n dX12_leadsTo_63 rfl rfl ?_
          refine mg_340 hS dX12_leadsTo_64 ?_
          refine gz_aload_n dX12_leadsTo_67 rfl rfl ?_
          refine mg_23 hS dX12_leadsTo_68 ?_
          refine gz_iload_n dX12_leadsTo_71 rfl rfl ?_
          refine m_iald 8 hS rfl (N := 880) rfl ((by exact vin_T (rfl : (x1).toInt = (x1).toInt) (by omega) (by omega))) dX12_leadsTo_72 ?_
          refine gz_i2l dX12_leadsTo_73 ?_
          refine gz_lcmp dX12_leadsTo_74 ?_
          refine gz_if_ge (tgt := 87) dX12_leadsTo_75 (by decide) (fun c_75 => ?_) (fun c_75 => ?_)
          ·
            try simp only [mIn_0, lgc_lt, lgc_gt, lgc_le, lgc_ge, lgc_eq] at c_75
            try simp only [fl_lt, fl_le, fl_eq, fL_w, fL_lt, fL_le, tm1, tm10k, tm9, tm99, Int32.reduceToInt, Int64.reduceToInt, Int.not_lt, Int.not_le] at c_75
            refine gz_aload_n dX12_leadsTo_87 rfl rfl ?_
            refine mg_35 hS dX12_leadsTo_88 ?_
            refine gz_iload_n dX12_leadsTo_91 rfl rfl ?_
            refine m_iald 12 hS rfl (N := 880) rfl ((by exact vin_T (rfl : (x1).toInt = (x1).toInt) (by omega) (by omega))) dX12_leadsTo_92 ?_
            try simp only [fl_eq, Int32.reduceToInt] at hw_6_3
            try simp only [fl_eq, Int32.reduceToInt] at hw_6_0
            try simp only [fl_eq, Int32.reduceToInt] at hw_6_1
            try simp only [fl_eq, Int32.reduceToInt] at hw_6_2
            exact gz_iret rfl dX12_leadsTo_93 (Nat.le_of_ble_eq_true rfl) (Nat.le_of_ble_eq_true rfl) (⟨_, rfl, Or.inr (by have q1 : vW F (n 5).toInt (F 12 (Int32.toNatClampNeg x1)).toInt ∧ szF F (F 11 (Int32.toNatClampNeg x1)).toInt + szF F (F 12 (Int32.toNatClampNeg x1)).toInt + 1 ≤ szF F x1.toInt := two_ok bW hw (show 3 ≤ (F 7 (Int32.toNatClampNeg x1)).toInt ∧ (F 7 (Int32.toNatClampNeg x1)).toInt ≤ 5 by omega); exact ⟨(vW_lt bW a5 q1.1).1, q1.1, by omega⟩), rfl⟩)
          ·
            try simp only [mIn_0, lgc_lt, lgc_gt, lgc_le, lgc_ge, lgc_eq] at c_75
            try simp only [fl_lt, fl_le, fl_eq, fL_w, fL_lt, fL_le, tm1, tm10k, tm9, tm99, Int32.reduceToInt, Int64.reduceToInt, Int.not_lt, Int.not_le] at c_75
            refine gz_aload_n dX12_leadsTo_78 rfl rfl ?_
            refine mg_32 hS dX12_leadsTo_79 ?_
            refine gz_iload_n dX12_leadsTo_82 rfl rfl ?_
            refine m_iald 11 hS rfl (N := 880) rfl ((by exact vin_T (rfl : (x1).toInt = (x1).toInt) (by omega) (by omega))) dX12_leadsTo_83 ?_
            refine gz_goto (tgt := 93) dX12_leadsTo_84 (by decide) ?_
            try simp only [fl_eq, Int32.reduceToInt] at hw_6_3
            try simp only [fl_eq, Int32.reduceToInt] at hw_6_0
            try simp only [fl_eq, Int32.reduceToInt] at hw_6_1
            try simp only [fl_eq, Int32.reduceToInt] at hw_6_2
            exact gz_iret rfl dX12_leadsTo_93 (Nat.le_of_ble_eq_true rfl) (Nat.le_of_ble_eq_true rfl) (⟨_, rfl, Or.inr (by have q1 : vW F (n 5).toInt (F 11 (Int32.toNatClampNeg x1)).toInt ∧ szF F (F 11 (Int32.toNatClampNeg x1)).toInt + 1 ≤ szF F x1.toInt := one_ok bW hw (show 2 ≤ (F 7 (Int32.toNatClampNeg x1)).toInt by omega); exact ⟨(vW_lt bW a5 q1.1).1, q1.1, q1.2⟩), rfl⟩)
        ·
          by_cases hw_6_4 : ((F 7) (Int32.toNatClampNeg x1)) = 6
          ·
            refine gz_ev (w := .int 6) (congrArg Value.int hw_6_4) ?_
            refine gz_tableIn (off := 88) (tgt := 94) dX12_leadsTo_6 (by decide) (by decide) rfl (by decide) ?_
            refine gz_aload_n dX12_leadsTo_94 rfl rfl ?_
            refine gz_iload_n dX12_leadsTo_95 rfl rfl ?_
            refine scX12_348 (k_X12_holds (x1 := x1) hS bA (by omega)) hS.1 ⟨(Nat.le_of_ble_eq_true rfl), (Nat.le_of_ble_eq_true rfl)⟩ ⟨(Nat.le_of_ble_eq_true rfl), (Nat.le_of_ble_eq_true rfl)⟩ rfl rfl (Nat.le_of_ble_eq_true rfl) dX12_leadsTo_96 ?_
            rintro r_1 f9 ⟨hb_1, y9⟩; rw [y9]
            refine gz_if_eq (tgt := 111) dX12_leadsTo_99 (by decide) (fun c_99 => ?_) (fun c_99 => ?_)
            ·
              try simp only [mIn_0, lgc_lt, lgc_gt, lgc_le, lgc_ge, lgc_eq] at c_99
              try simp only [fl_lt, fl_le, fl_eq, fL_w, fL_lt, fL_le, tm1, tm10k, tm9, tm99, Int32.reduceToInt, Int64.reduceToInt, Int.not_lt, Int.not_le] at c_99
              refine gz_iconst (v := (-1)) dX12_leadsTo_111 (by decide) ?_
              try simp only [fl_eq, Int32.reduceToInt] at hw_6_4
              try simp only [fl_eq, Int32.reduceToInt] at hw_6_0
              try simp only [fl_eq, Int32.reduceToInt] at hw_6_1
              try simp only [fl_eq, Int32.reduceToInt] at hw_6_2
              try simp only [fl_eq, Int32.reduceToInt] at hw_6_3
              exact gz_iret rfl dX12_leadsTo_112 (Nat.le_of_ble_eq_true rfl) (Nat.le_of_ble_eq_true rfl) (⟨_, rfl, Or.inl ⟨rfl, by omega⟩, rfl⟩)
            ·
              try simp only [mIn_0, lgc_lt, lgc_gt, lgc_le, lgc_ge, lgc_eq] at c_99
              try simp only [fl_lt, fl_le, fl_eq, fL_w, fL_lt, fL_le, tm1, tm10k, tm9, tm99, Int32.reduceToInt, Int64.reduceToInt, Int.not_lt, Int.not_le] at c_99
              refine gz_aload_n dX12_leadsTo_102 rfl rfl ?_
              refine mg_32 hS dX12_leadsTo_103 ?_
              refine gz_iload_n dX12_leadsTo_106 rfl rfl ?_
              refine m_iald 11 hS rfl (N := 880) rfl ((by exact vin_T (rfl : (x1).toInt = (x1).toInt) (by omega) (by omega))) dX12_leadsTo_107 ?_
              refine gz_goto (tgt := 112) dX12_leadsTo_108 (by decide) ?_
              try simp only [fl_eq, Int32.reduceToInt] at hw_6_4
              try simp only [fl_eq, Int32.reduceToInt] at hw_6_0
              try simp only [fl_eq, Int32.reduceToInt] at hw_6_1
              try simp only [fl_eq, Int32.reduceToInt] at hw_6_2
              try simp only [fl_eq, Int32.reduceToInt] at hw_6_3
              exact gz_iret rfl dX12_leadsTo_112 (Nat.le_of_ble_eq_true rfl) (Nat.le_of_ble_eq_true rfl) (⟨_, rfl, Or.inr (by have q1 : vW F (n 5).toInt (F 11 (Int32.toNatClampNeg x1)).toInt ∧ szF F (F 11 (Int32.toNatClampNeg x1)).toInt + 1 ≤ szF F x1.toInt := one_ok bW hw (show 2 ≤ (F 7 (Int32.toNatClampNeg x1)).toInt by omega); exact ⟨(vW_lt bW a5 q1.1).1, q1.1, q1.2⟩), rfl⟩)
          ·
            by_cases hw_6_5 : ((F 7) (Int32.toNatClampNeg x1)) = 7
            ·
              refine gz_ev (w := .int 7) (congrArg Value.int hw_6_5) ?_
              refine gz_tableIn (off := 107) (tgt := 113) dX12_leadsTo_6 (by decide) (by decide) rfl (by decide) ?_
              refine gz_iconst (v := (-1)) dX12_leadsTo_113 (by decide) ?_
              try simp only [fl_eq, Int32.reduceToInt] at hw_6_5
              try simp only [fl_eq, Int32.reduceToInt] at hw_6_0
              try simp only [fl_eq, Int32.reduceToInt] at hw_6_1
              try simp only [fl_eq, Int32.reduceToInt] at hw_6_2
              try simp only [fl_eq, Int32.reduceToInt] at hw_6_3
              try simp only [fl_eq, Int32.reduceToInt] at hw_6_4
              exact gz_iret rfl dX12_leadsTo_114 (Nat.le_of_ble_eq_true rfl) (Nat.le_of_ble_eq_true rfl) (⟨_, rfl, Or.inl ⟨rfl, by omega⟩, rfl⟩)
            ·
              by_cases hw_6_6 : ((F 7) (Int32.toNatClampNeg x1)) = 8
              ·
                refine gz_ev (w := .int 8) (congrArg Value.int hw_6_6) ?_
                refine gz_tableIn (off := 50) (tgt := 56) dX12_leadsTo_6 (by decide) (by decide) rfl (by decide) ?_
                refine gz_aload_n dX12_leadsTo_56 rfl rfl ?_
                refine mg_32 hS dX12_leadsTo_57 ?_
                refine gz_iload_n dX12_leadsTo_60 rfl rfl ?_
                refine m_iald 11 hS rfl (N := 880) rfl ((by exact vin_T (rfl : (x1).toInt = (x1).toInt) (by omega) (by omega))) dX12_leadsTo_61 ?_
                try simp only [fl_eq, Int32.reduceToInt] at hw_6_6
                try simp only [fl_eq, Int32.reduceToInt] at hw_6_0
                try simp only [fl_eq, Int32.reduceToInt] at hw_6_1
                try simp only [fl_eq, Int32.reduceToInt] at hw_6_2
                try simp only [fl_eq, Int32.reduceToInt] at hw_6_3
                try simp only [fl_eq, Int32.reduceToInt] at hw_6_4
                try simp only [fl_eq, Int32.reduceToInt] at hw_6_5
                exact gz_iret rfl dX12_leadsTo_62 (Nat.le_of_ble_eq_true rfl) (Nat.le_of_ble_eq_true rfl) (⟨_, rfl, Or.inr (by have q1 : vW F (n 5).toInt (F 11 (Int32.toNatClampNeg x1)).toInt ∧ szF F (F 11 (Int32.toNatClampNeg x1)).toInt + 1 ≤ szF F x1.toInt := one_ok bW hw (show 2 ≤ (F 7 (Int32.toNatClampNeg x1)).toInt by omega); exact ⟨(vW_lt bW a5 q1.1).1, q1.1, q1.2⟩), rfl⟩)
              ·
                by_cases hw_6_7 : ((F 7) (Int32.toNatClampNeg x1)) = 9
                ·
                  refine gz_ev (w := .int 9) (congrArg Value.int hw_6_7) ?_
                  refine gz_tableIn (off := 50) (tgt := 56) dX12_leadsTo_6 (by decide) (by decide) rfl (by decide) ?_
                  refine gz_aload_n dX12_leadsTo_56 rfl rfl ?_
                  refine mg_32 hS dX12_leadsTo_57 ?_
                  refine gz_iload_n dX12_leadsTo_60 rfl rfl ?_
                  refine m_iald 11 hS rfl (N := 880) rfl ((by exact vin_T (rfl : (x1).toInt = (x1).toInt) (by omega) (by omega))) dX12_leadsTo_61 ?_
                  try simp only [fl_eq, Int32.reduceToInt] at hw_6_7
                  try simp only [fl_eq, Int32.reduceToInt] at hw_6_0
                  try simp only [fl_eq, Int32.reduceToInt] at hw_6_1
                  try simp only [fl_eq, Int32.reduceToInt] at hw_6_2
                  try simp only [fl_eq, Int32.reduceToInt] at hw_6_3
                  try simp only [fl_eq, Int32.reduceToInt] at hw_6_4
                  try simp only [fl_eq, Int32.reduceToInt] at hw_6_5
                  try simp only [fl_eq, Int32.reduceToInt] at hw_6_6
                  exact gz_iret rfl dX12_leadsTo_62 (Nat.le_of_ble_eq_true rfl) (Nat.le_of_ble_eq_true rfl) (⟨_, rfl, Or.inr (by have q1 : vW F (n 5).toInt (F 11 (Int32.toNatClampNeg x1)).toInt ∧ szF F (F 11 (Int32.toNatClampNeg x1)).toInt + 1 ≤ szF F x1.toInt := one_ok bW hw (show 2 ≤ (F 7 (Int32.toNatClampNeg x1)).toInt by omega); exact ⟨(vW_lt bW a5 q1.1).1, q1.1, q1.2⟩), rfl⟩)
                ·
                  by_cases hw_6_8 : ((F 7) (Int32.toNatClampNeg x1)) = 10
                  ·
                    refine gz_ev (w := .int 10) (congrArg Value.int hw_6_8) ?_
                    refine gz_tableIn (off := 50) (tgt := 56) dX12_leadsTo_6 (by decide) (by decide) rfl (by decide) ?_
                    refine gz_aload_n dX12_leadsTo_56 rfl rfl ?_
                    refine mg_32 hS dX12_leadsTo_57 ?_
                    refine gz_iload_n dX12_leadsTo_60 rfl rfl ?_
                    refine m_iald 11 hS rfl (N := 880) rfl ((by exact vin_T (rfl : (x1).toInt = (x1).toInt) (by omega) (by omega))) dX12_leadsTo_61 ?_
                    try simp only [fl_eq, Int32.reduceToInt] at hw_6_8
                    try simp only [fl_eq, Int32.reduceToInt] at hw_6_0
                    try simp only [fl_eq, Int32.reduceToInt] at hw_6_1
                    try simp only [fl_eq, Int32.reduceToInt] at hw_6_2
                    try simp only [fl_eq, Int32.reduceToInt] at hw_6_3
                    try simp only [fl_eq, Int32.reduceToInt] at hw_6_4
                    try simp only [fl_eq, Int32.reduceToInt] at hw_6_5
                    try simp only [fl_eq, Int32.reduceToInt] at hw_6_6
                    try simp only [fl_eq, Int32.reduceToInt] at hw_6_7
                    exact gz_iret rfl dX12_leadsTo_62 (Nat.le_of_ble_eq_true rfl) (Nat.le_of_ble_eq_true rfl) (⟨_, rfl, Or.inr (by have q1 : vW F (n 5).toInt (F 11 (Int32.toNatClampNeg x1)).toInt ∧ szF F (F 11 (Int32.toNatClampNeg x1)).toInt + 1 ≤ szF F x1.toInt := one_ok bW hw (show 2 ≤ (F 7 (Int32.toNatClampNeg x1)).toInt by omega); exact ⟨(vW_lt bW a5 q1.1).1, q1.1, q1.2⟩), rfl⟩)
                  ·
                    refine gz_tableOut (tgt := 113) dX12_leadsTo_6 (by have g0 : ((F 7) (Int32.toNatClampNeg x1)).toInt ≠ 2 := fun e => hw_6_0 (Int32.toInt_inj.mp (e.trans rfl)); have g1 : ((F 7) (Int32.toNatClampNeg x1)).toInt ≠ 3 := fun e => hw_6_1 (Int32.toInt_inj.mp (e.trans rfl)); have g2 : ((F 7) (Int32.toNatClampNeg x1)).toInt ≠ 4 := fun e => hw_6_2 (Int32.toInt_inj.mp (e.trans rfl)); have g3 : ((F 7) (Int32.toNatClampNeg x1)).toInt ≠ 5 := fun e => hw_6_3 (Int32.toInt_inj.mp (e.trans rfl)); have g4 : ((F 7) (Int32.toNatClampNeg x1)).toInt ≠ 6 := fun e => hw_6_4 (Int32.toInt_inj.mp (e.trans rfl)); have g5 : ((F 7) (Int32.toNatClampNeg x1)).toInt ≠ 7 := fun e => hw_6_5 (Int32.toInt_inj.mp (e.trans rfl)); have g6 : ((F 7) (Int32.toNatClampNeg x1)).toInt ≠ 8 := fun e => hw_6_6 (Int32.toInt_inj.mp (e.trans rfl)); have g7 : ((F 7) (Int32.toNatClampNeg x1)).toInt ≠ 9 := fun e => hw_6_7 (Int32.toInt_inj.mp (e.trans rfl)); have g8 : ((F 7) (Int32.toNatClampNeg x1)).toInt ≠ 10 := fun e => hw_6_8 (Int32.toInt_inj.mp (e.trans rfl)); omega) (by decide) ?_
                    refine gz_iconst (v := (-1)) dX12_leadsTo_113 (by decide) ?_
                    try simp only [fl_eq, Int32.reduceToInt] at hw_6_0
                    try simp only [fl_eq, Int32.reduceToInt] at hw_6_1
                    try simp only [fl_eq, Int32.reduceToInt] at hw_6_2
                    try simp only [fl_eq, Int32.reduceToInt] at hw_6_3
                    try simp only [fl_eq, Int32.reduceToInt] at hw_6_4
                    try simp only [fl_eq, Int32.reduceToInt] at hw_6_5
                    try simp only [fl_eq, Int32.reduceToInt] at hw_6_6
                    try simp only [fl_eq, Int32.reduceToInt] at hw_6_7
                    try simp only [fl_eq, Int32.reduceToInt] at hw_6_8
                    exact gz_iret rfl dX12_leadsTo_114 (Nat.le_of_ble_eq_true rfl) (Nat.le_of_ble_eq_true rfl) (⟨_, rfl, Or.inl ⟨rfl, by omega⟩, rfl⟩)

set_option maxHeartbeats 4000000 in
set_option maxRecDepth 100000 in
theorem k_X12_choosing {l : Launch} {D : va_G} {cy : Nat → ClassId} {b : Nat} {f : gMem} {m : Nat} {a : Nat → Nat} {f0 : gMem} {n : Nat → Int32} {z : Nat → Int64} {F : Nat → Nat → Int32} {G : Nat → Nat → Int64}  {x1 x2 : Int32} (hS : mS cy m a f0 n z F G f) (hl : 0 ≤ x1.toInt ∧ x1.toInt < 40) (a5 : 0 ≤ (n 5).toInt ∧ (n 5).toInt ≤ 20) (bA : rAll F) (bW : rW F (n 5).toInt) (hw : vW F (n 5).toInt x2.toInt) : gC l D cy b yX12_choosing cX12_choosing 3 (some .int) 1 0 0 [.ref m, .int x1, .int x2] f (pI fun r f2 => True ∧ f2 = f) := by
  refine gC_of (by decide) (Nat.le_of_ble_eq_true rfl) ?_
  show gG l _ _ _ D cy b cX12_choosing 3 _ RX12 "choosing" 0 0 f 0 [(0, .ref m), (1, .int x1), (2, .int x2)] []
  refine gz_aload_n dX12_choosing_0 rfl rfl ?_
  refine gz_iload_n dX12_choosing_1 rfl rfl ?_
  refine scX12_413 (k_X12_chooser (x1 := x2) hS a5 bA bW hw) hS.1 ⟨(Nat.le_of_ble_eq_true rfl), (Nat.le_of_ble_eq_true rfl)⟩ ⟨(Nat.le_of_ble_eq_true rfl), (Nat.le_of_ble_eq_true rfl)⟩ rfl rfl (Nat.le_of_ble_eq_true rfl) dX12_choosing_2 ?_
  rintro r_1 f9 ⟨-, y9⟩; rw [y9]
  refine gz_if_ne (tgt := 17) dX12_choosing_5 (by decide) (fun c_5 => ?_) (fun c_5 => ?_)
  ·
    try simp only [mIn_0, lgc_lt, lgc_gt, lgc_le, lgc_ge, lgc_eq] at c_5
    try simp only [fl_lt, fl_le, fl_eq, fL_w, fL_lt, fL_le, tm1, tm10k, tm9, tm99, Int32.reduceToInt, Int64.reduceToInt, Int.not_lt, Int.not_le] at c_5
    refine gz_aload_n dX12_choosing_17 rfl rfl ?_
    refine mg_103 hS dX12_choosing_18 ?_
    refine gz_iload_n dX12_choosing_21 rfl rfl ?_
    refine m_iald 33 hS rfl (N := 40) rfl ((by exact vin_T (rfl : (x1).toInt = (x1).toInt) (by omega) (by omega))) dX12_choosing_22 ?_
    exact gz_iret rfl dX12_choosing_23 (Nat.le_of_ble_eq_true rfl) (Nat.le_of_ble_eq_true rfl) (⟨_, rfl, trivial, rfl⟩)
  ·
    try simp only [mIn_0, lgc_lt, lgc_gt, lgc_le, lgc_ge, lgc_eq] at c_5
    try simp only [fl_lt, fl_le, fl_eq, fL_w, fL_lt, fL_le, tm1, tm10k, tm9, tm99, Int32.reduceToInt, Int64.reduceToInt, Int.not_lt, Int.not_le] at c_5
    refine gz_aload_n dX12_choosing_8 rfl rfl ?_
    refine mg_100 hS dX12_choosing_9 ?_
    refine gz_iload_n dX12_choosing_12 rfl rfl ?_
    refine m_iald 32 hS rfl (N := 40) rfl ((by exact vin_T (rfl : (x1).toInt = (x1).toInt) (by omega) (by omega))) dX12_choosing_13 ?_
    refine gz_goto (tgt := 23) dX12_choosing_14 (by decide) ?_
    exact gz_iret rfl dX12_choosing_23 (Nat.le_of_ble_eq_true rfl) (Nat.le_of_ble_eq_true rfl) (⟨_, rfl, trivial, rfl⟩)

set_option maxHeartbeats 4000000 in
set_option maxRecDepth 100000 in
theorem l_X12_hasChoice {l : Launch} {D : va_G} {cy : Nat → ClassId} {b : Nat} {m : Nat} {a : Nat → Nat} {f0 : gMem} {n0 : Nat → Int32} {z0 : Nat → Int64} {F0 : Nat → Nat → Int32} {G0 : Nat → Nat → Int64}  {x1 : Int32} {f : gMem} (hx : 0 ≤ x1.toInt ∧ x1.toInt < 20) : ∀ (k : Nat) (i : Int32) (n : Nat → Int32) (z : Nat → Int64) (F : Nat → Nat → Int32) (G : Nat → Nat → Int64) (fm : gMem), mS cy m a f0 n z F G fm → fx [] [] [] [] n0 z0 F0 G0 n z F G → ((F 6 (Int32.toNatClampNeg x1)).toInt ≤ 40) → (0 ≤ i.toInt ∧ i.toInt ≤ 40 ∧ i.toInt + (k : Int) = 41) → (fm = f) → gG l (gRm 0 0 0) (gQf D b (pI fun r f2 => (r = 0 ∨ r = 1) ∧ f2 = f) 0 0) gTt D cy b cX12_hasChoice 3 (some .boolean) RX12 "hasChoice" 0 0 fm 2 [(2, .int i), (0, .ref m), (1, .int x1)] [] := by
  intro k
  induction k with
  | zero =>
    intro i n z F G fm hS hx h6 hk hf
    exfalso; omega
  | succ k ih =>
    intro i n z F G fm hS hx h6 hk hf
    refine gz_iload_n dX12_hasChoice_2 rfl rfl ?_
    refine gz_aload_n dX12_hasChoice_3 rfl rfl ?_
    refine mg_17 hS dX12_hasChoice_4 ?_
    refine gz_iload_n dX12_hasChoice_7 rfl rfl ?_
    refine m_iald 6 hS rfl (N := 22) rfl ((by exact vin_T (rfl : (x1).toInt = (x1).toInt) (by omega) (by omega))) dX12_hasChoice_8 ?_
    refine gz_icmp_ge (tgt := 51) dX12_hasChoice_9 (by decide) (fun c_9 => ?_) (fun c_9 => ?_)
    ·
      try simp only [mIn_0, lgc_lt, lgc_gt, lgc_le, lgc_ge, lgc_eq] at c_9
      try simp only [fl_lt, fl_le, fl_eq, fL_w, fL_lt, fL_le, tm1, tm10k, tm9, tm99, Int32.reduceToInt, Int64.reduceToInt, Int.not_lt, Int.not_le] at c_9
      refine gz_iconst (v := 0) dX12_hasChoice_51 (by decide) ?_
      exact gz_zret rfl (by first | decide | exact nrb (by assumption) | exact nrb (Or.inl rfl) | exact nrb (Or.inr rfl)) dX12_hasChoice_52 (Nat.le_of_ble_eq_true rfl) (Nat.le_of_ble_eq_true rfl) (⟨_, rfl, (by first | exact Or.inl rfl | exact Or.inr rfl), hf⟩)
    ·
      try simp only [mIn_0, lgc_lt, lgc_gt, lgc_le, lgc_ge, lgc_eq] at c_9
      try simp only [fl_lt, fl_le, fl_eq, fL_w, fL_lt, fL_le, tm1, tm10k, tm9, tm99, Int32.reduceToInt, Int64.reduceToInt, Int.not_lt, Int.not_le] at c_9
      refine gz_aload_n dX12_hasChoice_12 rfl rfl ?_
      refine mg_20 hS dX12_hasChoice_13 ?_
      refine gz_bipush (v := 40) dX12_hasChoice_16 (by decide) ?_
      refine gz_iload_n dX12_hasChoice_18 rfl rfl ?_
      refine gz_imul dX12_hasChoice_19 ?_
      refine gz_iload_n dX12_hasChoice_20 rfl rfl ?_
      refine gz_iadd dX12_hasChoice_21 ?_
      refine m_iald 7 hS rfl (N := 880) rfl ((by have q9 := (T_add (T_mul (show (40 : Int32).toInt = 40 from rfl) (rfl : (x1).toInt = (x1).toInt) (by omega)) (rfl : (i).toInt = (i).toInt) (by omega)); exact vin_T q9 (by omega) (by omega))) dX12_hasChoice_22 ?_
      refine gz_iconst (v := 4) dX12_hasChoice_23 (by decide) ?_
      refine gz_icmp_eq (tgt := 43) dX12_hasChoice_24 (by decide) (fun c_24 => ?_) (fun c_24 => ?_)
      ·
        try simp only [mIn_0, lgc_lt, lgc_gt, lgc_le, lgc_ge, lgc_eq] at c_24
        try simp only [fl_lt, fl_le, fl_eq, fL_w, fL_lt, fL_le, tm1, tm10k, tm9, tm99, Int32.reduceToInt, Int64.reduceToInt, Int.not_lt, Int.not_le] at c_24
        refine gz_iconst (v := 1) dX12_hasChoice_43 (by decide) ?_
        exact gz_zret rfl (by first | decide | exact nrb (by assumption) | exact nrb (Or.inl rfl) | exact nrb (Or.inr rfl)) dX12_hasChoice_44 (Nat.le_of_ble_eq_true rfl) (Nat.le_of_ble_eq_true rfl) (⟨_, rfl, (by first | exact Or.inl rfl | exact Or.inr rfl), hf⟩)
      ·
        try simp only [mIn_0, lgc_lt, lgc_gt, lgc_le, lgc_ge, lgc_eq] at c_24
        try simp only [fl_lt, fl_le, fl_eq, fL_w, fL_lt, fL_le, tm1, tm10k, tm9, tm99, Int32.reduceToInt, Int64.reduceToInt, Int.not_lt, Int.not_le] at c_24
        refine gz_aload_n dX12_hasChoice_27 rfl rfl ?_
        refine mg_20 hS dX12_hasChoice_28 ?_
        refine gz_bipush (v := 40) dX12_hasChoice_31 (by decide) ?_
        refine gz_iload_n dX12_hasChoice_33 rfl rfl ?_
        refine gz_imul dX12_hasChoice_34 ?_
        refine gz_iload_n dX12_hasChoice_35 rfl rfl ?_
        refine gz_iadd dX12_hasChoice_36 ?_
        refine m_iald 7 hS rfl (N := 880) rfl ((by have q9 := (T_add (T_mul (show (40 : Int32).toInt = 40 from rfl) (rfl : (x1).toInt = (x1).toInt) (by omega)) (rfl : (i).toInt = (i).toInt) (by omega)); exact vin_T q9 (by omega) (by omega))) dX12_hasChoice_37 ?_
        refine gz_bipush (v := 7) dX12_hasChoice_38 (by decide) ?_
        refine gz_icmp_ne (tgt := 45) dX12_hasChoice_40 (by decide) (fun c_40 => ?_) (fun c_40 => ?_)
        ·
          try simp only [mIn_0, lgc_lt, lgc_gt, lgc_le, lgc_ge, lgc_eq] at c_40
          try simp only [fl_lt, fl_le, fl_eq, fL_w, fL_lt, fL_le, tm1, tm10k, tm9, tm99, Int32.reduceToInt, Int64.reduceToInt, Int.not_lt, Int.not_le] at c_40
          refine gz_iinc (v := (i + 1)) (lv' := [(2, .int (i + 1)), (0, .ref m), (1, .int x1)]) dX12_hasChoice_45 rfl rfl (by decide) rfl ?_
          refine gz_goto (tgt := 2) dX12_hasChoice_48 (by decide) ?_
          refine gz_sub (lv' := [(2, .int (i + 1)), (0, .ref m), (1, .int x1)]) (by simp [List.lookup]) ?_
          exact ih (i + 1) _ _ _ _ _ hS hx (h6) ((by have q1_ := (T_add (rfl : (i).toInt = (i).toInt) (show (1 : Int32).toInt = 1 from rfl) (by omega)); omega)) (hf)
        ·
          try simp only [mIn_0, lgc_lt, lgc_gt, lgc_le, lgc_ge, lgc_eq] at c_40
          try simp only [fl_lt, fl_le, fl_eq, fL_w, fL_lt, fL_le, tm1, tm10k, tm9, tm99, Int32.reduceToInt, Int64.reduceToInt, Int.not_lt, Int.not_le] at c_40
          refine gz_iconst (v := 1) dX12_hasChoice_43 (by decide) ?_
          exact gz_zret rfl (by first | decide | exact nrb (by assumption) | exact nrb (Or.inl rfl) | exact nrb (Or.inr rfl)) dX12_hasChoice_44 (Nat.le_of_ble_eq_true rfl) (Nat.le_of_ble_eq_true rfl) (⟨_, rfl, (by first | exact Or.inl rfl | exact Or.inr rfl), hf⟩)

set_option maxHeartbeats 4000000 in
set_option maxRecDepth 100000 in
theorem k_X12_hasChoice {l : Launch} {D : va_G} {cy : Nat → ClassId} {b : Nat} {f : gMem} {m : Nat} {a : Nat → Nat} {f0 : gMem} {n : Nat → Int32} {z : Nat → Int64} {F : Nat → Nat → Int32} {G : Nat → Nat → Int64}  {x1 : Int32} (hS : mS cy m a f0 n z F G f) (hx : 0 ≤ x1.toInt ∧ x1.toInt < 20) (h6 : (F 6 (Int32.toNatClampNeg x1)).toInt ≤ 40) : gC l D cy b yX12_hasChoice cX12_hasChoice 3 (some .boolean) 0 0 0 [.ref m, .int x1] f (pI fun r f2 => (r = 0 ∨ r = 1) ∧ f2 = f) := by
  refine gC_of (by decide) (Nat.le_of_ble_eq_true rfl) ?_
  show gG l _ _ _ D cy b cX12_hasChoice 3 _ RX12 "hasChoice" 0 0 f 0 [(0, .ref m), (1, .int x1)] []
  refine gz_iconst (v := 0) dX12_hasChoice_0 (by decide) ?_
  refine gz_istore_n (lv' := [(2, .int 0), (0, .ref m), (1, .int x1)]) dX12_hasChoice_1 rfl (by decide) rfl ?_
  refine gz_sub (lv' := [(2, .int 0), (0, .ref m), (1, .int x1)]) (by simp [List.lookup]) ?_
  exact l_X12_hasChoice hx 41 0 _ _ _ _ _ hS fx_rf (h6) (⟨by decide, by decide, by decide⟩) (rfl)

set_option maxHeartbeats 4000000 in
set_option maxRecDepth 100000 in
theorem l_X12_areSums {l : Launch} {D : va_G} {cy : Nat → ClassId} {b : Nat} {m : Nat} {a : Nat → Nat} {f0 : gMem} {n0 : Nat → Int32} {z0 : Nat → Int64} {F0 : Nat → Nat → Int32} {G0 : Nat → Nat → Int64}  {x1 x2 x3 x4 x5 x6 : Int32} {f : gMem} (ha : 0 ≤ x1.toInt ∧ x1.toInt < 880) (hb : 0 ≤ x4.toInt ∧ x4.toInt < 880) (h2 : 0 ≤ x2.toInt ∧ x2.toInt ≤ 40) (h3 : 0 ≤ x3.toInt ∧ x3.toInt ≤ 40) (h5 : 0 ≤ x5.toInt ∧ x5.toInt ≤ 40) (h6 : 0 ≤ x6.toInt ∧ x6.toInt ≤ 40) (he : x3.toInt - x2.toInt = x6.toInt - x5.toInt) : ∀ (k : Nat) (i : Int32) (n : Nat → Int32) (z : Nat → Int64) (F : Nat → Nat → Int32) (G : Nat → Nat → Int64) (fm : gMem), mS cy m a f0 n z F G fm → fx [] [] [] [] n0 z0 F0 G0 n z F G → (0 ≤ i.toInt ∧ i.toInt ≤ 40 ∧ i.toInt + (k : Int) = 41) → (fm = f) → gG l (gRm 0 0 0) (gQf D b (pI fun r f2 => (r = 0 ∨ r = 1) ∧ f2 = f) 0 0) gTt D cy b cX12_areSums 10 (some .boolean) RX12 "areSums" 0 0 fm 16 [(7, .int i), (0, .ref m), (1, .int x1), (2, .int x2), (3, .int x3), (4, .int x4), (5, .int x5), (6, .int x6)] [] := by
  intro k
  induction k with
  | zero =>
    intro i n z F G fm hS hx hk hf
    exfalso; omega
  | succ k ih =>
    intro i n z F G fm hS hx hk hf
    have q32 : (x3 - x2).toInt = x3.toInt - x2.toInt := T_sub rfl rfl (by omega)
    have q65 : (x6 - x5).toInt = x6.toInt - x5.toInt := T_sub rfl rfl (by omega)
    refine gz_iload dX12_areSums_16 rfl ?_
    refine gz_iload_n dX12_areSums_18 rfl rfl ?_
    refine gz_iload_n dX12_areSums_19 rfl rfl ?_
    refine gz_isub dX12_areSums_20 ?_
    refine gz_icmp_ge (tgt := 113) dX12_areSums_21 (by decide) (fun c_21 => ?_) (fun c_21 => ?_)
    ·
      try simp only [mIn_0, lgc_lt, lgc_gt, lgc_le, lgc_ge, lgc_eq] at c_21
      try simp only [fl_lt, fl_le, fl_eq, fL_w, fL_lt, fL_le, tm1, tm10k, tm9, tm99, Int32.reduceToInt, Int64.reduceToInt, Int.not_lt, Int.not_le] at c_21
      try have u_21t0 := (T_sub (rfl : (x3).toInt = (x3).toInt) (rfl : (x2).toInt = (x2).toInt) (by omega))
      refine gz_iconst (v := 1) dX12_areSums_113 (by decide) ?_
      exact gz_zret rfl (by first | decide | exact nrb (by assumption) | exact nrb (Or.inl rfl) | exact nrb (Or.inr rfl)) dX12_areSums_114 (Nat.le_of_ble_eq_true rfl) (Nat.le_of_ble_eq_true rfl) (⟨_, rfl, (by first | exact Or.inl rfl | exact Or.inr rfl), hf⟩)
    ·
      try simp only [mIn_0, lgc_lt, lgc_gt, lgc_le, lgc_ge, lgc_eq] at c_21
      try simp only [fl_lt, fl_le, fl_eq, fL_w, fL_lt, fL_le, tm1, tm10k, tm9, tm99, Int32.reduceToInt, Int64.reduceToInt, Int.not_lt, Int.not_le] at c_21
      try have u_21t0 := (T_sub (rfl : (x3).toInt = (x3).toInt) (rfl : (x2).toInt = (x2).toInt) (by omega))
      refine gz_bipush (v := 40) dX12_areSums_24 (by decide) ?_
      refine gz_iload_n dX12_areSums_26 rfl rfl ?_
      refine gz_bipush (v := 40) dX12_areSums_27 (by decide) ?_
      refine gz_idiv dX12_areSums_29 (by decide) ?_
      refine gz_imul dX12_areSums_30 ?_
      refine gz_iload_n dX12_areSums_31 rfl rfl ?_
      refine gz_iadd dX12_areSums_32 ?_
      refine gz_iload dX12_areSums_33 rfl ?_
      refine gz_iadd dX12_areSums_35 ?_
      refine gz_istore (lv' := [(8, .int (((40 * (x1 / 40)) + x2) + i)), (7, .int i), (0, .ref m), (1, .int x1), (2, .int x2), (3, .int x3), (4, .int x4), (5, .int x5), (6, .int x6)]) dX12_areSums_36 (by decide) rfl ?_
      refine gz_bipush (v := 40) dX12_areSums_38 (by decide) ?_
      refine gz_iload dX12_areSums_40 rfl ?_
      refine gz_bipush (v := 40) dX12_areSums_42 (by decide) ?_
      refine gz_idiv dX12_areSums_44 (by decide) ?_
      refine gz_imul dX12_areSums_45 ?_
      refine gz_iload dX12_areSums_46 rfl ?_
      refine gz_iadd dX12_areSums_48 ?_
      refine gz_iload dX12_areSums_49 rfl ?_
      refine gz_iadd dX12_areSums_51 ?_
      refine gz_istore (lv' := [(9, .int (((40 * (x4 / 40)) + x5) + i)), (8, .int (((40 * (x1 / 40)) + x2) + i)), (7, .int i), (0, .ref m), (1, .int x1), (2, .int x2), (3, .int x3), (4, .int x4), (5, .int x5), (6, .int x6)]) dX12_areSums_52 (by decide) rfl ?_
      refine gz_aload_n dX12_areSums_54 rfl rfl ?_
      refine mg_53 hS dX12_areSums_55 ?_
      refine gz_iload dX12_areSums_58 rfl ?_
      refine m_iald 18 hS rfl (N := 880) rfl ((by have q9 := (T_add (T_add (T_mul (show (40 : Int32).toInt = 40 from rfl) (T_div (rfl : (x1).toInt = (x1).toInt) (show (40 : Int32).toInt = 40 from rfl) (by omega) (by omega)) (by omega)) (rfl : (x2).toInt = (x2).toInt) (by omega)) (rfl : (i).toInt = (i).toInt) (by omega)); exact vin_T q9 (by omega) (by omega))) dX12_areSums_60 ?_
      refine gz_aload_n dX12_areSums_61 rfl rfl ?_
      refine mg_53 hS dX12_areSums_62 ?_
      refine gz_iload dX12_areSums_65 rfl ?_
      refine m_iald 18 hS rfl (N := 880) rfl ((by have q9 := (T_add (T_add (T_mul (show (40 : Int32).toInt = 40 from rfl) (T_div (rfl : (x4).toInt = (x4).toInt) (show (40 : Int32).toInt = 40 from rfl) (by omega) (by omega)) (by omega)) (rfl : (x5).toInt = (x5).toInt) (by omega)) (rfl : (i).toInt = (i).toInt) (by omega)); exact vin_T q9 (by omega) (by omega))) dX12_areSums_67 ?_
      refine gz_icmp_ne (tgt := 105) dX12_areSums_68 (by decide) (fun c_68 => ?_) (fun c_68 => ?_)
      ·
        try simp only [mIn_0, lgc_lt, lgc_gt, lgc_le, lgc_ge, lgc_eq] at c_68
        try simp only [fl_lt, fl_le, fl_eq, fL_w, fL_lt, fL_le, tm1, tm10k, tm9, tm99, Int32.reduceToInt, Int64.reduceToInt, Int.not_lt, Int.not_le] at c_68
        refine gz_iconst (v := 0) dX12_areSums_105 (by decide) ?_
        exact gz_zret rfl (by first | decide | exact nrb (by assumption) | exact nrb (Or.inl rfl) | exact nrb (Or.inr rfl)) dX12_areSums_106 (Nat.le_of_ble_eq_true rfl) (Nat.le_of_ble_eq_true rfl) (⟨_, rfl, (by first | exact Or.inl rfl | exact Or.inr rfl), hf⟩)
      ·
        try simp only [mIn_0, lgc_lt, lgc_gt, lgc_le, lgc_ge, lgc_eq] at c_68
        try simp only [fl_lt, fl_le, fl_eq, fL_w, fL_lt, fL_le, tm1, tm10k, tm9, tm99, Int32.reduceToInt, Int64.reduceToInt, Int.not_lt, Int.not_le] at c_68
        refine gz_aload_n dX12_areSums_71 rfl rfl ?_
        refine mg_56 hS dX12_areSums_72 ?_
        refine gz_iload dX12_areSums_75 rfl ?_
        refine m_iald 19 hS rfl (N := 880) rfl ((by have q9 := (T_add (T_add (T_mul (show (40 : Int32).toInt = 40 from rfl) (T_div (rfl : (x1).toInt = (x1).toInt) (show (40 : Int32).toInt = 40 from rfl) (by omega) (by omega)) (by omega)) (rfl : (x2).toInt = (x2).toInt) (by omega)) (rfl : (i).toInt = (i).toInt) (by omega)); exact vin_T q9 (by omega) (by omega))) dX12_areSums_77 ?_
        refine gz_aload_n dX12_areSums_78 rfl rfl ?_
        refine mg_56 hS dX12_areSums_79 ?_
        refine gz_iload dX12_areSums_82 rfl ?_
        refine m_iald 19 hS rfl (N := 880) rfl ((by have q9 := (T_add (T_add (T_mul (show (40 : Int32).toInt = 40 from rfl) (T_div (rfl : (x4).toInt = (x4).toInt) (show (40 : Int32).toInt = 40 from rfl) (by omega) (by omega)) (by omega)) (rfl : (x5).toInt = (x5).toInt) (by omega)) (rfl : (i).toInt = (i).toInt) (by omega)); exact vin_T q9 (by omega) (by omega))) dX12_areSums_84 ?_
        refine gz_icmp_ne (tgt := 105) dX12_areSums_85 (by decide) (fun c_85 => ?_) (fun c_85 => ?_)
        ·
          try simp only [mIn_0, lgc_lt, lgc_gt, lgc_le, lgc_ge, lgc_eq] at c_85
          try simp only [fl_lt, fl_le, fl_eq, fL_w, fL_lt, fL_le, tm1, tm10k, tm9, tm99, Int32.reduceToInt, Int64.reduceToInt, Int.not_lt, Int.not_le] at c_85
          refine gz_iconst (v := 0) dX12_areSums_105 (by decide) ?_
          exact gz_zret rfl (by first | decide | exact nrb (by assumption) | exact nrb (Or.inl rfl) | exact nrb (Or.inr rfl)) dX12_areSums_106 (Nat.le_of_ble_eq_true rfl) (Nat.le_of_ble_eq_true rfl) (⟨_, rfl, (by first | exact Or.inl rfl | exact Or.inr rfl), hf⟩)
        ·
          try simp only [mIn_0, lgc_lt, lgc_gt, lgc_le, lgc_ge, lgc_eq] at c_85
          try simp only [fl_lt, fl_le, fl_eq, fL_w, fL_lt, fL_le, tm1, tm10k, tm9, tm99, Int32.reduceToInt, Int64.reduceToInt, Int.not_lt, Int.not_le] at c_85
          refine gz_aload_n dX12_areSums_88 rfl rfl ?_
          refine mg_59 hS dX12_areSums_89 ?_
          refine gz_iload dX12_areSums_92 rfl ?_
          refine m_iald 20 hS rfl (N := 880) rfl ((by have q9 := (T_add (T_add (T_mul (show (40 : Int32).toInt = 40 from rfl) (T_div (rfl : (x1).toInt = (x1).toInt) (show (40 : Int32).toInt = 40 from rfl) (by omega) (by omega)) (by omega)) (rfl : (x2).toInt = (x2).toInt) (by omega)) (rfl : (i).toInt = (i).toInt) (by omega)); exact vin_T q9 (by omega) (by omega))) dX12_areSums_94 ?_
          refine gz_aload_n dX12_areSums_95 rfl rfl ?_
          refine mg_59 hS dX12_areSums_96 ?_
          refine gz_iload dX12_areSums_99 rfl ?_
          refine m_iald 20 hS rfl (N := 880) rfl ((by have q9 := (T_add (T_add (T_mul (show (40 : Int32).toInt = 40 from rfl) (T_div (rfl : (x4).toInt = (x4).toInt) (show (40 : Int32).toInt = 40 from rfl) (by omega) (by omega)) (by omega)) (rfl : (x5).toInt = (x5).toInt) (by omega)) (rfl : (i).toInt = (i).toInt) (by omega)); exact vin_T q9 (by omega) (by omega))) dX12_areSums_101 ?_
          refine gz_icmp_eq (tgt := 107) dX12_areSums_102 (by decide) (fun c_102 => ?_) (fun c_102 => ?_)
          ·
            try simp only [mIn_0, lgc_lt, lgc_gt, lgc_le, lgc_ge, lgc_eq] at c_102
            try simp only [fl_lt, fl_le, fl_eq, fL_w, fL_lt, fL_le, tm1, tm10k, tm9, tm99, Int32.reduceToInt, Int64.reduceToInt, Int.not_lt, Int.not_le] at c_102
            refine gz_iinc (v := (i + 1)) (lv' := [(7, .int (i + 1)), (9, .int (((40 * (x4 / 40)) + x5) + i)), (8, .int (((40 * (x1 / 40)) + x2) + i)), (0, .ref m), (1, .int x1), (2, .int x2), (3, .int x3), (4, .int x4), (5, .int x5), (6, .int x6)]) dX12_areSums_107 rfl rfl (by decide) rfl ?_
            refine gz_goto (tgt := 16) dX12_areSums_110 (by decide) ?_
            refine gz_sub (lv' := [(7, .int (i + 1)), (0, .ref m), (1, .int x1), (2, .int x2), (3, .int x3), (4, .int x4), (5, .int x5), (6, .int x6)]) (by simp [List.lookup]) ?_
            exact ih (i + 1) _ _ _ _ _ hS hx ((by have q1_ := (T_add (rfl : (i).toInt = (i).toInt) (show (1 : Int32).toInt = 1 from rfl) (by omega)); omega)) (hf)
          ·
            try simp only [mIn_0, lgc_lt, lgc_gt, lgc_le, lgc_ge, lgc_eq] at c_102
            try simp only [fl_lt, fl_le, fl_eq, fL_w, fL_lt, fL_le, tm1, tm10k, tm9, tm99, Int32.reduceToInt, Int64.reduceToInt, Int.not_lt, Int.not_le] at c_102
            refine gz_iconst (v := 0) dX12_areSums_105 (by decide) ?_
            exact gz_zret rfl (by first | decide | exact nrb (by assumption) | exact nrb (Or.inl rfl) | exact nrb (Or.inr rfl)) dX12_areSums_106 (Nat.le_of_ble_eq_true rfl) (Nat.le_of_ble_eq_true rfl) (⟨_, rfl, (by first | exact Or.inl rfl | exact Or.inr rfl), hf⟩)

set_option maxHeartbeats 4000000 in
set_option maxRecDepth 100000 in
theorem k_X12_areSums {l : Launch} {D : va_G} {cy : Nat → ClassId} {b : Nat} {f : gMem} {m : Nat} {a : Nat → Nat} {f0 : gMem} {n : Nat → Int32} {z : Nat → Int64} {F : Nat → Nat → Int32} {G : Nat → Nat → Int64}  {x1 x2 x3 x4 x5 x6 : Int32} (hS : mS cy m a f0 n z F G f) (ha : 0 ≤ x1.toInt ∧ x1.toInt < 880) (hb : 0 ≤ x4.toInt ∧ x4.toInt < 880) (h2 : 0 ≤ x2.toInt ∧ x2.toInt ≤ 40) (h3 : 0 ≤ x3.toInt ∧ x3.toInt ≤ 40) (h5 : 0 ≤ x5.toInt ∧ x5.toInt ≤ 40) (h6 : 0 ≤ x6.toInt ∧ x6.toInt ≤ 40) : gC l D cy b yX12_areSums cX12_areSums 10 (some .boolean) 0 0 0 [.ref m, .int x1, .int x2, .int x3, .int x4, .int x5, .int x6] f (pI fun r f2 => (r = 0 ∨ r = 1) ∧ f2 = f) := by
  have q32 : (x3 - x2).toInt = x3.toInt - x2.toInt := T_sub rfl rfl (by omega)
  have q65 : (x6 - x5).toInt = x6.toInt - x5.toInt := T_sub rfl rfl (by omega)
  refine gC_of (by decide) (Nat.le_of_ble_eq_true rfl) ?_
  show gG l _ _ _ D cy b cX12_areSums 10 _ RX12 "areSums" 0 0 f 0 [(0, .ref m), (1, .int x1), (2, .int x2), (3, .int x3), (4, .int x4), (5, .int x5), (6, .int x6)] []
  refine gz_iload_n dX12_areSums_0 rfl rfl ?_
  refine gz_iload_n dX12_areSums_1 rfl rfl ?_
  refine gz_isub dX12_areSums_2 ?_
  refine gz_iload dX12_areSums_3 rfl ?_
  refine gz_iload dX12_areSums_5 rfl ?_
  refine gz_isub dX12_areSums_7 ?_
  refine gz_icmp_eq (tgt := 13) dX12_areSums_8 (by decide) (fun c_8 => ?_) (fun c_8 => ?_)
  ·
    try simp only [mIn_0, lgc_lt, lgc_gt, lgc_le, lgc_ge, lgc_eq] at c_8
    try simp only [fl_lt, fl_le, fl_eq, fL_w, fL_lt, fL_le, tm1, tm10k, tm9, tm99, Int32.reduceToInt, Int64.reduceToInt, Int.not_lt, Int.not_le] at c_8
    try have u_8t0 := (T_sub (rfl : (x6).toInt = (x6).toInt) (rfl : (x5).toInt = (x5).toInt) (by omega))
    try have u_8t1 := (T_sub (rfl : (x3).toInt = (x3).toInt) (rfl : (x2).toInt = (x2).toInt) (by omega))
    refine gz_iconst (v := 0) dX12_areSums_13 (by decide) ?_
    refine gz_istore (lv' := [(7, .int 0), (0, .ref m), (1, .int x1), (2, .int x2), (3, .int x3), (4, .int x4), (5, .int x5), (6, .int x6)]) dX12_areSums_14 (by decide) rfl ?_
    refine gz_sub (lv' := [(7, .int 0), (0, .ref m), (1, .int x1), (2, .int x2), (3, .int x3), (4, .int x4), (5, .int x5), (6, .int x6)]) (by simp [List.lookup]) ?_
    exact l_X12_areSums ha hb h2 h3 h5 h6 (by omega) 41 0 _ _ _ _ _ hS fx_rf (⟨by decide, by decide, by decide⟩) (rfl)
  ·
    try simp only [mIn_0, lgc_lt, lgc_gt, lgc_le, lgc_ge, lgc_eq] at c_8
    try simp only [fl_lt, fl_le, fl_eq, fL_w, fL_lt, fL_le, tm1, tm10k, tm9, tm99, Int32.reduceToInt, Int64.reduceToInt, Int.not_lt, Int.not_le] at c_8
    try have u_8t0 := (T_sub (rfl : (x6).toInt = (x6).toInt) (rfl : (x5).toInt = (x5).toInt) (by omega))
    try have u_8t1 := (T_sub (rfl : (x3).toInt = (x3).toInt) (rfl : (x2).toInt = (x2).toInt) (by omega))
    refine gz_iconst (v := 0) dX12_areSums_11 (by decide) ?_
    exact gz_zret rfl (by first | decide | exact nrb (by assumption) | exact nrb (Or.inl rfl) | exact nrb (Or.inr rfl)) dX12_areSums_12 (Nat.le_of_ble_eq_true rfl) (Nat.le_of_ble_eq_true rfl) (⟨_, rfl, (by first | exact Or.inl rfl | exact Or.inr rfl), rfl⟩)

set_option maxHeartbeats 4000000 in
set_option maxRecDepth 100000 in
theorem k_X12_areTests {l : Launch} {D : va_G} {cy : Nat → ClassId} {b : Nat} {f : gMem} {m : Nat} {a : Nat → Nat} {f0 : gMem} {n : Nat → Int32} {z : Nat → Int64} {F : Nat → Nat → Int32} {G : Nat → Nat → Int64}  {x1 x2 : Int32} (hS : mS cy m a f0 n z F G f) (bA : rAll F) (ha : 0 ≤ x1.toInt ∧ x1.toInt < 880) (hb : 0 ≤ x2.toInt ∧ x2.toInt < 880) : gC l D cy b yX12_areTests cX12_areTests 3 (some .boolean) 1 0 0 [.ref m, .int x1, .int x2] f (pI fun r f2 => (r = 0 ∨ r = 1) ∧ f2 = f) := by
  have qA := all_ok bA ha
  have qB := all_ok bA hb
  refine gC_of (by decide) (Nat.le_of_ble_eq_true rfl) ?_
  show gG l _ _ _ D cy b cX12_areTests 3 _ RX12 "areTests" 0 0 f 0 [(0, .ref m), (1, .int x1), (2, .int x2)] []
  refine gz_aload_n dX12_areTests_0 rfl rfl ?_
  refine gz_iload_n dX12_areTests_1 rfl rfl ?_
  refine gz_aload_n dX12_areTests_2 rfl rfl ?_
  refine mg_38 hS dX12_areTests_3 ?_
  refine gz_iload_n dX12_areTests_6 rfl rfl ?_
  refine m_iald 13 hS rfl (N := 880) rfl ((by exact vin_T (rfl : (x1).toInt = (x1).toInt) (by omega) (by omega))) dX12_areTests_7 ?_
  refine gz_aload_n dX12_areTests_8 rfl rfl ?_
  refine mg_41 hS dX12_areTests_9 ?_
  refine gz_iload_n dX12_areTests_12 rfl rfl ?_
  refine m_iald 14 hS rfl (N := 880) rfl ((by exact vin_T (rfl : (x1).toInt = (x1).toInt) (by omega) (by omega))) dX12_areTests_13 ?_
  refine gz_iload_n dX12_areTests_14 rfl rfl ?_
  refine gz_aload_n dX12_areTests_15 rfl rfl ?_
  refine mg_38 hS dX12_areTests_16 ?_
  refine gz_iload_n dX12_areTests_19 rfl rfl ?_
  refine m_iald 13 hS rfl (N := 880) rfl ((by exact vin_T (rfl : (x2).toInt = (x2).toInt) (by omega) (by omega))) dX12_areTests_20 ?_
  refine gz_aload_n dX12_areTests_21 rfl rfl ?_
  refine mg_41 hS dX12_areTests_22 ?_
  refine gz_iload_n dX12_areTests_25 rfl rfl ?_
  refine m_iald 14 hS rfl (N := 880) rfl ((by exact vin_T (rfl : (x2).toInt = (x2).toInt) (by omega) (by omega))) dX12_areTests_26 ?_
  refine scX12_507 (k_X12_areSums (x1 := x1) (x2 := ((F 13) (Int32.toNatClampNeg x1))) (x3 := ((F 14) (Int32.toNatClampNeg x1))) (x4 := x2) (x5 := ((F 13) (Int32.toNatClampNeg x2))) (x6 := ((F 14) (Int32.toNatClampNeg x2))) hS ha hb (by omega) (by omega) (by omega) (by omega)) hS.1 ⟨(Nat.le_of_ble_eq_true rfl), (Nat.le_of_ble_eq_true rfl)⟩ ⟨(Nat.le_of_ble_eq_true rfl), (Nat.le_of_ble_eq_true rfl)⟩ rfl rfl (Nat.le_of_ble_eq_true rfl) dX12_areTests_27 ?_
  rintro r_1 f9 ⟨hb_1, y9⟩; rw [y9]
  refine gz_if_eq (tgt := 66) dX12_areTests_30 (by decide) (fun c_30 => ?_) (fun c_30 => ?_)
  ·
    try simp only [mIn_0, lgc_lt, lgc_gt, lgc_le, lgc_ge, lgc_eq] at c_30
    try simp only [fl_lt, fl_le, fl_eq, fL_w, fL_lt, fL_le, tm1, tm10k, tm9, tm99, Int32.reduceToInt, Int64.reduceToInt, Int.not_lt, Int.not_le] at c_30
    refine gz_iconst (v := 0) dX12_areTests_66 (by decide) ?_
    exact gz_zret rfl (by first | decide | exact nrb (by assumption) | exact nrb (Or.inl rfl) | exact nrb (Or.inr rfl)) dX12_areTests_67 (Nat.le_of_ble_eq_true rfl) (Nat.le_of_ble_eq_true rfl) (⟨_, rfl, (by first | exact Or.inl rfl | exact Or.inr rfl), rfl⟩)
  ·
    try simp only [mIn_0, lgc_lt, lgc_gt, lgc_le, lgc_ge, lgc_eq] at c_30
    try simp only [fl_lt, fl_le, fl_eq, fL_w, fL_lt, fL_le, tm1, tm10k, tm9, tm99, Int32.reduceToInt, Int64.reduceToInt, Int.not_lt, Int.not_le] at c_30
    refine gz_aload_n dX12_areTests_33 rfl rfl ?_
    refine gz_iload_n dX12_areTests_34 rfl rfl ?_
    refine gz_aload_n dX12_areTests_35 rfl rfl ?_
    refine mg_41 hS dX12_areTests_36 ?_
    refine gz_iload_n dX12_areTests_39 rfl rfl ?_
    refine m_iald 14 hS rfl (N := 880) rfl ((by exact vin_T (rfl : (x1).toInt = (x1).toInt) (by omega) (by omega))) dX12_areTests_40 ?_
    refine gz_aload_n dX12_areTests_41 rfl rfl ?_
    refine mg_44 hS dX12_areTests_42 ?_
    refine gz_iload_n dX12_areTests_45 rfl rfl ?_
    refine m_iald 15 hS rfl (N := 880) rfl ((by exact vin_T (rfl : (x1).toInt = (x1).toInt) (by omega) (by omega))) dX12_areTests_46 ?_
    refine gz_iload_n dX12_areTests_47 rfl rfl ?_
    refine gz_aload_n dX12_areTests_48 rfl rfl ?_
    refine mg_41 hS dX12_areTests_49 ?_
    refine gz_iload_n dX12_areTests_52 rfl rfl ?_
    refine m_iald 14 hS rfl (N := 880) rfl ((by exact vin_T (rfl : (x2).toInt = (x2).toInt) (by omega) (by omega))) dX12_areTests_53 ?_
    refine gz_aload_n dX12_areTests_54 rfl rfl ?_
    refine mg_44 hS dX12_areTests_55 ?_
    refine gz_iload_n dX12_areTests_58 rfl rfl ?_
    refine m_iald 15 hS rfl (N := 880) rfl ((by exact vin_T (rfl : (x2).toInt = (x2).toInt) (by omega) (by omega))) dX12_areTests_59 ?_
    refine scX12_507 (k_X12_areSums (x1 := x1) (x2 := ((F 14) (Int32.toNatClampNeg x1))) (x3 := ((F 15) (Int32.toNatClampNeg x1))) (x4 := x2) (x5 := ((F 14) (Int32.toNatClampNeg x2))) (x6 := ((F 15) (Int32.toNatClampNeg x2))) hS ha hb (by omega) (by omega) (by omega) (by omega)) hS.1 ⟨(Nat.le_of_ble_eq_true rfl), (Nat.le_of_ble_eq_true rfl)⟩ ⟨(Nat.le_of_ble_eq_true rfl), (Nat.le_of_ble_eq_true rfl)⟩ rfl rfl (Nat.le_of_ble_eq_true rfl) dX12_areTests_60 ?_
    rintro r_2 f9 ⟨hb_2, y9⟩; rw [y9]
    refine gz_if_ne (tgt := 68) dX12_areTests_63 (by decide) (fun c_63 => ?_) (fun c_63 => ?_)
    ·
      try simp only [mIn_0, lgc_lt, lgc_gt, lgc_le, lgc_ge, lgc_eq] at c_63
      try simp only [fl_lt, fl_le, fl_eq, fL_w, fL_lt, fL_le, tm1, tm10k, tm9, tm99, Int32.reduceToInt, Int64.reduceToInt, Int.not_lt, Int.not_le] at c_63
      refine gz_aload_n dX12_areTests_68 rfl rfl ?_
      refine mg_20 hS dX12_areTests_69 ?_
      refine gz_iload_n dX12_areTests_72 rfl rfl ?_
      refine m_iald 7 hS rfl (N := 880) rfl ((by exact vin_T (rfl : (x1).toInt = (x1).toInt) (by omega) (by omega))) dX12_areTests_73 ?_
      refine gz_bipush (v := 9) dX12_areTests_74 (by decide) ?_
      refine gz_icmp_eq (tgt := 109) dX12_areTests_76 (by decide) (fun c_76 => ?_) (fun c_76 => ?_)
      ·
        try simp only [mIn_0, lgc_lt, lgc_gt, lgc_le, lgc_ge, lgc_eq] at c_76
        try simp only [fl_lt, fl_le, fl_eq, fL_w, fL_lt, fL_le, tm1, tm10k, tm9, tm99, Int32.reduceToInt, Int64.reduceToInt, Int.not_lt, Int.not_le] at c_76
        refine gz_iconst (v := 1) dX12_areTests_109 (by decide) ?_
        refine gz_goto (tgt := 114) dX12_areTests_110 (by decide) ?_
        exact gz_zret rfl (by first | decide | exact nrb (by assumption) | exact nrb (Or.inl rfl) | exact nrb (Or.inr rfl)) dX12_areTests_114 (Nat.le_of_ble_eq_true rfl) (Nat.le_of_ble_eq_true rfl) (⟨_, rfl, (by first | exact Or.inl rfl | exact Or.inr rfl), rfl⟩)
      ·
        try simp only [mIn_0, lgc_lt, lgc_gt, lgc_le, lgc_ge, lgc_eq] at c_76
        try simp only [fl_lt, fl_le, fl_eq, fL_w, fL_lt, fL_le, tm1, tm10k, tm9, tm99, Int32.reduceToInt, Int64.reduceToInt, Int.not_lt, Int.not_le] at c_76
        refine gz_aload_n dX12_areTests_79 rfl rfl ?_
        refine mg_44 hS dX12_areTests_80 ?_
        refine gz_iload_n dX12_areTests_83 rfl rfl ?_
        refine m_iald 15 hS rfl (N := 880) rfl ((by exact vin_T (rfl : (x1).toInt = (x1).toInt) (by omega) (by omega))) dX12_areTests_84 ?_
        refine gz_aload_n dX12_areTests_85 rfl rfl ?_
        refine mg_38 hS dX12_areTests_86 ?_
        refine gz_iload_n dX12_areTests_89 rfl rfl ?_
        refine m_iald 13 hS rfl (N := 880) rfl ((by exact vin_T (rfl : (x1).toInt = (x1).toInt) (by omega) (by omega))) dX12_areTests_90 ?_
        refine gz_icmp_eq (tgt := 109) dX12_areTests_91 (by decide) (fun c_91 => ?_) (fun c_91 => ?_)
        ·
          try simp only [mIn_0, lgc_lt, lgc_gt, lgc_le, lgc_ge, lgc_eq] at c_91
          try simp only [fl_lt, fl_le, fl_eq, fL_w, fL_lt, fL_le, tm1, tm10k, tm9, tm99, Int32.reduceToInt, Int64.reduceToInt, Int.not_lt, Int.not_le] at c_91
          refine gz_iconst (v := 1) dX12_areTests_109 (by decide) ?_
          refine gz_goto (tgt := 114) dX12_areTests_110 (by decide) ?_
          exact gz_zret rfl (by first | decide | exact nrb (by assumption) | exact nrb (Or.inl rfl) | exact nrb (Or.inr rfl)) dX12_areTests_114 (Nat.le_of_ble_eq_true rfl) (Nat.le_of_ble_eq_true rfl) (⟨_, rfl, (by first | exact Or.inl rfl | exact Or.inr rfl), rfl⟩)
        ·
          try simp only [mIn_0, lgc_lt, lgc_gt, lgc_le, lgc_ge, lgc_eq] at c_91
          try simp only [fl_lt, fl_le, fl_eq, fL_w, fL_lt, fL_le, tm1, tm10k, tm9, tm99, Int32.reduceToInt, Int64.reduceToInt, Int.not_lt, Int.not_le] at c_91
          refine gz_aload_n dX12_areTests_94 rfl rfl ?_
          refine mg_47 hS dX12_areTests_95 ?_
          refine gz_iload_n dX12_areTests_98 rfl rfl ?_
          refine m_iald 16 hS rfl (N := 880) rfl ((by exact vin_T (rfl : (x1).toInt = (x1).toInt) (by omega) (by omega))) dX12_areTests_99 ?_
          refine gz_aload_n dX12_areTests_100 rfl rfl ?_
          refine mg_47 hS dX12_areTests_101 ?_
          refine gz_iload_n dX12_areTests_104 rfl rfl ?_
          refine m_iald 16 hS rfl (N := 880) rfl ((by exact vin_T (rfl : (x2).toInt = (x2).toInt) (by omega) (by omega))) dX12_areTests_105 ?_
          refine gz_icmp_ne (tgt := 113) dX12_areTests_106 (by decide) (fun c_106 => ?_) (fun c_106 => ?_)
          ·
            try simp only [mIn_0, lgc_lt, lgc_gt, lgc_le, lgc_ge, lgc_eq] at c_106
            try simp only [fl_lt, fl_le, fl_eq, fL_w, fL_lt, fL_le, tm1, tm10k, tm9, tm99, Int32.reduceToInt, Int64.reduceToInt, Int.not_lt, Int.not_le] at c_106
            refine gz_iconst (v := 0) dX12_areTests_113 (by decide) ?_
            exact gz_zret rfl (by first | decide | exact nrb (by assumption) | exact nrb (Or.inl rfl) | exact nrb (Or.inr rfl)) dX12_areTests_114 (Nat.le_of_ble_eq_true rfl) (Nat.le_of_ble_eq_true rfl) (⟨_, rfl, (by first | exact Or.inl rfl | exact Or.inr rfl), rfl⟩)
          ·
            try simp only [mIn_0, lgc_lt, lgc_gt, lgc_le, lgc_ge, lgc_eq] at c_106
            try simp only [fl_lt, fl_le, fl_eq, fL_w, fL_lt, fL_le, tm1, tm10k, tm9, tm99, Int32.reduceToInt, Int64.reduceToInt, Int.not_lt, Int.not_le] at c_106
            refine gz_iconst (v := 1) dX12_areTests_109 (by decide) ?_
            refine gz_goto (tgt := 114) dX12_areTests_110 (by decide) ?_
            exact gz_zret rfl (by first | decide | exact nrb (by assumption) | exact nrb (Or.inl rfl) | exact nrb (Or.inr rfl)) dX12_areTests_114 (Nat.le_of_ble_eq_true rfl) (Nat.le_of_ble_eq_true rfl) (⟨_, rfl, (by first | exact Or.inl rfl | exact Or.inr rfl), rfl⟩)
    ·
      try simp only [mIn_0, lgc_lt, lgc_gt, lgc_le, lgc_ge, lgc_eq] at c_63
      try simp only [fl_lt, fl_le, fl_eq, fL_w, fL_lt, fL_le, tm1, tm10k, tm9, tm99, Int32.reduceToInt, Int64.reduceToInt, Int.not_lt, Int.not_le] at c_63
      refine gz_iconst (v := 0) dX12_areTests_66 (by decide) ?_
      exact gz_zret rfl (by first | decide | exact nrb (by assumption) | exact nrb (Or.inl rfl) | exact nrb (Or.inr rfl)) dX12_areTests_67 (Nat.le_of_ble_eq_true rfl) (Nat.le_of_ble_eq_true rfl) (⟨_, rfl, (by first | exact Or.inl rfl | exact Or.inr rfl), rfl⟩)

set_option maxHeartbeats 4000000 in
set_option maxRecDepth 100000 in
theorem k_X12_isAlone {l : Launch} {D : va_G} {cy : Nat → ClassId} {b : Nat} {f : gMem} {m : Nat} {a : Nat → Nat} {f0 : gMem} {n : Nat → Int32} {z : Nat → Int64} {F : Nat → Nat → Int32} {G : Nat → Nat → Int64}  {x1 x2 : Int32} (hS : mS cy m a f0 n z F G f) (bA : rAll F) (ha : 0 ≤ x1.toInt ∧ x1.toInt < 880) : gC l D cy b yX12_isAlone cX12_isAlone 4 (some .boolean) 0 0 0 [.ref m, .int x1, .int x2] f (pI fun r f2 => (r = 0 ∨ r = 1) ∧ f2 = f) := by
  have qA := all_ok bA ha
  have q1 : ((F 14 (Int32.toNatClampNeg x1)) - (F 13 (Int32.toNatClampNeg x1))).toInt = (F 14 (Int32.toNatClampNeg x1)).toInt - (F 13 (Int32.toNatClampNeg x1)).toInt := T_sub rfl rfl (by omega)
  refine gC_of (by decide) (Nat.le_of_ble_eq_true rfl) ?_
  show gG l _ _ _ D cy b cX12_isAlone 4 _ RX12 "isAlone" 0 0 f 0 [(0, .ref m), (1, .int x1), (2, .int x2)] []
  refine gz_bipush (v := 40) dX12_isAlone_0 (by decide) ?_
  refine gz_iload_n dX12_isAlone_2 rfl rfl ?_
  refine gz_bipush (v := 40) dX12_isAlone_3 (by decide) ?_
  refine gz_idiv dX12_isAlone_5 (by decide) ?_
  refine gz_imul dX12_isAlone_6 ?_
  refine gz_aload_n dX12_isAlone_7 rfl rfl ?_
  refine mg_38 hS dX12_isAlone_8 ?_
  refine gz_iload_n dX12_isAlone_11 rfl rfl ?_
  refine m_iald 13 hS rfl (N := 880) rfl ((by exact vin_T (rfl : (x1).toInt = (x1).toInt) (by omega) (by omega))) dX12_isAlone_12 ?_
  refine gz_iadd dX12_isAlone_13 ?_
  refine gz_istore_n (lv' := [(3, .int ((40 * (x1 / 40)) + ((F 13) (Int32.toNatClampNeg x1)))), (0, .ref m), (1, .int x1), (2, .int x2)]) dX12_isAlone_14 rfl (by decide) rfl ?_
  refine gz_aload_n dX12_isAlone_15 rfl rfl ?_
  refine mg_41 hS dX12_isAlone_16 ?_
  refine gz_iload_n dX12_isAlone_19 rfl rfl ?_
  refine m_iald 14 hS rfl (N := 880) rfl ((by exact vin_T (rfl : (x1).toInt = (x1).toInt) (by omega) (by omega))) dX12_isAlone_20 ?_
  refine gz_aload_n dX12_isAlone_21 rfl rfl ?_
  refine mg_38 hS dX12_isAlone_22 ?_
  refine gz_iload_n dX12_isAlone_25 rfl rfl ?_
  refine m_iald 13 hS rfl (N := 880) rfl ((by exact vin_T (rfl : (x1).toInt = (x1).toInt) (by omega) (by omega))) dX12_isAlone_26 ?_
  refine gz_isub dX12_isAlone_27 ?_
  refine gz_iconst (v := 1) dX12_isAlone_28 (by decide) ?_
  refine gz_icmp_ne (tgt := 55) dX12_isAlone_29 (by decide) (fun c_29 => ?_) (fun c_29 => ?_)
  ·
    try simp only [mIn_0, lgc_lt, lgc_gt, lgc_le, lgc_ge, lgc_eq] at c_29
    try simp only [fl_lt, fl_le, fl_eq, fL_w, fL_lt, fL_le, tm1, tm10k, tm9, tm99, Int32.reduceToInt, Int64.reduceToInt, Int.not_lt, Int.not_le] at c_29
    try have u_29t1 := (T_sub (rfl : (((F 14) (Int32.toNatClampNeg x1))).toInt = (((F 14) (Int32.toNatClampNeg x1))).toInt) (rfl : (((F 13) (Int32.toNatClampNeg x1))).toInt = (((F 13) (Int32.toNatClampNeg x1))).toInt) (by omega))
    refine gz_iconst (v := 0) dX12_isAlone_55 (by decide) ?_
    exact gz_zret rfl (by first | decide | exact nrb (by assumption) | exact nrb (Or.inl rfl) | exact nrb (Or.inr rfl)) dX12_isAlone_56 (Nat.le_of_ble_eq_true rfl) (Nat.le_of_ble_eq_true rfl) (⟨_, rfl, (by first | exact Or.inl rfl | exact Or.inr rfl), rfl⟩)
  ·
    try simp only [mIn_0, lgc_lt, lgc_gt, lgc_le, lgc_ge, lgc_eq] at c_29
    try simp only [fl_lt, fl_le, fl_eq, fL_w, fL_lt, fL_le, tm1, tm10k, tm9, tm99, Int32.reduceToInt, Int64.reduceToInt, Int.not_lt, Int.not_le] at c_29
    try have u_29t1 := (T_sub (rfl : (((F 14) (Int32.toNatClampNeg x1))).toInt = (((F 14) (Int32.toNatClampNeg x1))).toInt) (rfl : (((F 13) (Int32.toNatClampNeg x1))).toInt = (((F 13) (Int32.toNatClampNeg x1))).toInt) (by omega))
    refine gz_aload_n dX12_isAlone_32 rfl rfl ?_
    refine mg_56 hS dX12_isAlone_33 ?_
    refine gz_iload_n dX12_isAlone_36 rfl rfl ?_
    refine m_iald 19 hS rfl (N := 880) rfl ((by have q9 := (T_add (T_mul (show (40 : Int32).toInt = 40 from rfl) (T_div (rfl : (x1).toInt = (x1).toInt) (show (40 : Int32).toInt = 40 from rfl) (by omega) (by omega)) (by omega)) (rfl : (((F 13) (Int32.toNatClampNeg x1))).toInt = (((F 13) (Int32.toNatClampNeg x1))).toInt) (by omega)); exact vin_T q9 (by omega) (by omega))) dX12_isAlone_37 ?_
    refine gz_if_ge (tgt := 55) dX12_isAlone_38 (by decide) (fun c_38 => ?_) (fun c_38 => ?_)
    ·
      try simp only [mIn_0, lgc_lt, lgc_gt, lgc_le, lgc_ge, lgc_eq] at c_38
      try simp only [fl_lt, fl_le, fl_eq, fL_w, fL_lt, fL_le, tm1, tm10k, tm9, tm99, Int32.reduceToInt, Int64.reduceToInt, Int.not_lt, Int.not_le] at c_38
      refine gz_iconst (v := 0) dX12_isAlone_55 (by decide) ?_
      exact gz_zret rfl (by first | decide | exact nrb (by assumption) | exact nrb (Or.inl rfl) | exact nrb (Or.inr rfl)) dX12_isAlone_56 (Nat.le_of_ble_eq_true rfl) (Nat.le_of_ble_eq_true rfl) (⟨_, rfl, (by first | exact Or.inl rfl | exact Or.inr rfl), rfl⟩)
    ·
      try simp only [mIn_0, lgc_lt, lgc_gt, lgc_le, lgc_ge, lgc_eq] at c_38
      try simp only [fl_lt, fl_le, fl_eq, fL_w, fL_lt, fL_le, tm1, tm10k, tm9, tm99, Int32.reduceToInt, Int64.reduceToInt, Int.not_lt, Int.not_le] at c_38
      refine gz_aload_n dX12_isAlone_41 rfl rfl ?_
      refine mg_59 hS dX12_isAlone_42 ?_
      refine gz_iload_n dX12_isAlone_45 rfl rfl ?_
      refine m_iald 20 hS rfl (N := 880) rfl ((by have q9 := (T_add (T_mul (show (40 : Int32).toInt = 40 from rfl) (T_div (rfl : (x1).toInt = (x1).toInt) (show (40 : Int32).toInt = 40 from rfl) (by omega) (by omega)) (by omega)) (rfl : (((F 13) (Int32.toNatClampNeg x1))).toInt = (((F 13) (Int32.toNatClampNeg x1))).toInt) (by omega)); exact vin_T q9 (by omega) (by omega))) dX12_isAlone_46 ?_
      refine gz_iload_n dX12_isAlone_47 rfl rfl ?_
      refine gz_icmp_ne (tgt := 55) dX12_isAlone_48 (by decide) (fun c_48 => ?_) (fun c_48 => ?_)
      ·
        try simp only [mIn_0, lgc_lt, lgc_gt, lgc_le, lgc_ge, lgc_eq] at c_48
        try simp only [fl_lt, fl_le, fl_eq, fL_w, fL_lt, fL_le, tm1, tm10k, tm9, tm99, Int32.reduceToInt, Int64.reduceToInt, Int.not_lt, Int.not_le] at c_48
        refine gz_iconst (v := 0) dX12_isAlone_55 (by decide) ?_
        exact gz_zret rfl (by first | decide | exact nrb (by assumption) | exact nrb (Or.inl rfl) | exact nrb (Or.inr rfl)) dX12_isAlone_56 (Nat.le_of_ble_eq_true rfl) (Nat.le_of_ble_eq_true rfl) (⟨_, rfl, (by first | exact Or.inl rfl | exact Or.inr rfl), rfl⟩)
      ·
        try simp only [mIn_0, lgc_lt, lgc_gt, lgc_le, lgc_ge, lgc_eq] at c_48
        try simp only [fl_lt, fl_le, fl_eq, fL_w, fL_lt, fL_le, tm1, tm10k, tm9, tm99, Int32.reduceToInt, Int64.reduceToInt, Int.not_lt, Int.not_le] at c_48
        refine gz_iconst (v := 1) dX12_isAlone_51 (by decide) ?_
        refine gz_goto (tgt := 56) dX12_isAlone_52 (by decide) ?_
        exact gz_zret rfl (by first | decide | exact nrb (by assumption) | exact nrb (Or.inl rfl) | exact nrb (Or.inr rfl)) dX12_isAlone_56 (Nat.le_of_ble_eq_true rfl) (Nat.le_of_ble_eq_true rfl) (⟨_, rfl, (by first | exact Or.inl rfl | exact Or.inr rfl), rfl⟩)
