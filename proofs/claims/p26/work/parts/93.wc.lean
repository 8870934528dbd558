/-! the reference: the DAY of a WORLD -/
theorem rem_N {x y : Int32} {a b : Nat} (hx : x.toInt = (a : Int)) (hy : y.toInt = (b : Int)) (hb : 1 ≤ b ∧ b ≤ 3) : (x - x / y * y).toInt = ((a % b : Nat) : Int) ∧ (x / y).toInt = ((a / b : Nat) : Int) := by
  have hi := i32_hi x
  have hc : b = 1 ∨ b = 2 ∨ b = 3 := by omega
  rcases hc with rfl | rfl | rfl
  · have hy2 : y.toInt = 1 := hy
    have q := T_div hx hy2 (by omega) (by omega)
    have e1 : (x / y * y).toInt = (x / y).toInt * 1 := by rw [mulT (by rw [q, hy2]; omega) (by rw [q, hy2]; omega), hy2]
    have e2 := T_sub hx e1 (by omega)
    exact ⟨by omega, by omega⟩
  · have hy2 : y.toInt = 2 := hy
    have q := T_div hx hy2 (by omega) (by omega)
    have e1 : (x / y * y).toInt = (x / y).toInt * 2 := by rw [mulT (by rw [q, hy2]; omega) (by rw [q, hy2]; omega), hy2]
    have e2 := T_sub hx e1 (by omega)
    exact ⟨by omega, by omega⟩
  · have hy2 : y.toInt = 3 := hy
    have q := T_div hx hy2 (by omega) (by omega)
    have e1 : (x / y * y).toInt = (x / y).toInt * 3 := by rw [mulT (by rw [q, hy2]; omega) (by rw [q, hy2]; omega), hy2]
    have e2 := T_sub hx e1 (by omega)
    exact ⟨by omega, by omega⟩
theorem pw12 {b : Int} (h : 0 ≤ b ∧ b ≤ 12) : ∀ e : Nat, e ≤ 4 → 0 ≤ b ^ e ∧ b ^ e ≤ 20736 := by
  intro e he
  have c : b = 0 ∨ b = 1 ∨ b = 2 ∨ b = 3 ∨ b = 4 ∨ b = 5 ∨ b = 6 ∨ b = 7 ∨ b = 8 ∨ b = 9 ∨ b = 10 ∨ b = 11 ∨ b = 12 := by omega
  have d : e = 0 ∨ e = 1 ∨ e = 2 ∨ e = 3 ∨ e = 4 := by omega
  rcases d with rfl | rfl | rfl | rfl | rfl <;> rcases c with rfl | rfl | rfl | rfl | rfl | rfl | rfl | rfl | rfl | rfl | rfl | rfl | rfl <;> decide
/-- all WEIGHTS -/
def awI (g : Nat → Int32) : Nat → Int
  | 0 => 0
  | k + 1 => awI g k + (g k).toInt
theorem awI_b {g : Nat → Int32} (h : ∀ y, y < 3 → 0 ≤ (g y).toInt ∧ (g y).toInt ≤ 4) : ∀ k, k ≤ 3 → 0 ≤ awI g k ∧ awI g k ≤ 4 * (k : Int) := by
  intro k
  induction k with
  | zero => intro _; exact ⟨Int.le_refl _, Int.le_refl _⟩
  | succ k ih =>
    intro hk
    have q := ih (by omega)
    have p := h k (by omega)
    show 0 ≤ awI g k + (g k).toInt ∧ awI g k + (g k).toInt ≤ 4 * ((k + 1 : Nat) : Int)
    omega
/-- the reference's WORLDS: eR -/
def eR (E : We) (n : Nat → Int32) (F : Nat → Nat → Int32) : Prop := ((n 53).toInt = (E.2.2.1 : Int) ∧ 1 ≤ E.2.2.1 ∧ E.2.2.1 ≤ 3) ∧ (∀ y i : Nat, y < 3 → i < 6 → F 55 (6 * y + i) = E.1 y i) ∧ (∀ y, y < 3 → 0 ≤ (F 54 y).toInt ∧ (F 54 y).toInt ≤ 4) ∧ (∀ y, y < E.2.2.1 → E.2.1 y = (F 54 y).toInt64) ∧ ∀ k, k ≤ 4 → E.2.2.2.1 k = Int64.ofInt (awI (F 54) E.2.2.1 ^ k)
theorem eR_cg {E : We} {n n2 : Nat → Int32} {F F2 : Nat → Nat → Int32} (h : eR E n F) (h1 : n2 53 = n 53) (h2 : F2 54 = F 54) (h3 : F2 55 = F 55) : eR E n2 F2 := by
  unfold eR at *
  rw [h1, h2, h3]; exact h
/-- where a WORLD begins -/
def stR0 (S0 : Sn) (n : Nat → Int32) (F : Nat → Nat → Int32) : Prop := S0.1 = (n 0).toInt ∧ ∀ i, i < 6 → (F 56 i).toInt = S0.2 i

set_option maxHeartbeats 4000000 in
set_option maxRecDepth 100000 in
theorem k_X12_startsE {l : Launch} {D : va_G} {cy : Nat → ClassId} {b : Nat} {f : gMem} {m : Nat} {a : Nat → Nat} {f0 : gMem} {n : Nat → Int32} {z : Nat → Int64} {F : Nat → Nat → Int32} {G : Nat → Nat → Int64}   (hS : mS cy m a f0 n z F G f) (a0 : 0 ≤ (n 0).toInt ∧ (n 0).toInt ≤ 399) : gC l D cy b yX12_starts cX12_starts 2 none 1 0 0 [.ref m] f (pV fun f2 => ∃ (n2 : Nat → Int32) (z2 : Nat → Int64) (F2 : Nat → Nat → Int32) (G2 : Nat → Nat → Int64), mS cy m a f0 n2 z2 F2 G2 f2 ∧ fx [] [] [56] [] n z F G n2 z2 F2 G2 ∧ stR0 (sNow (n 0) (F 2)) n2 F2) := by
  refine gC_of (by decide) (Nat.le_of_ble_eq_true rfl) ?_
  show gG l _ _ _ D cy b cX12_starts 2 _ RX12 "starts" 0 0 f 0 [(0, .ref m)] []
  refine gz_iconst (v := 0) dX12_starts_0 (by decide) ?_
  refine gz_istore_n (lv' := [(1, .int 0), (0, .ref m)]) dX12_starts_1 rfl (by decide) rfl ?_
  refine gz_iload_n dX12_starts_2 rfl rfl ?_
  refine gz_bipush (v := 6) dX12_starts_3 (by decide) ?_
  refine gz_icmp_ge (tgt := 29) dX12_starts_5 (by decide) (fun c_5 => ?_) (fun c_5 => ?_)
  · exact absurd c_5 (by decide)
  ·
    try simp only [mIn_0, lgc_lt, lgc_gt, lgc_le, lgc_ge, lgc_eq] at c_5
    try simp only [fl_lt, fl_le, fl_eq, fL_w, fL_lt, fL_le, tm1, tm10k, tm9, tm99, Int32.reduceToInt, Int64.reduceToInt, Int.not_lt, Int.not_le] at c_5
    refine gz_aload_n dX12_starts_8 rfl rfl ?_
    refine mg_161 hS dX12_starts_9 ?_
    refine gz_iload_n dX12_starts_12 rfl rfl ?_
    refine gz_aload_n dX12_starts_13 rfl rfl ?_
    refine gz_iload_n dX12_starts_14 rfl rfl ?_
    refine gz_aload_n dX12_starts_15 rfl rfl ?_
    refine mg_249 hS dX12_starts_16 ?_
    refine scX12_258 (k_X12_thingOnT (x := 0) (y := (n 0)) hS (by decide) (by omega)) hS.1 ⟨(Nat.le_of_ble_eq_true rfl), (Nat.le_of_ble_eq_true rfl)⟩ ⟨(Nat.le_of_ble_eq_true rfl), (Nat.le_of_ble_eq_true rfl)⟩ rfl rfl (Nat.le_of_ble_eq_true rfl) dX12_starts_19 ?_
    rintro r_1 f9 ⟨hb_1, y9⟩; rw [y9]
    refine m_iast 56 hS rfl (N := 6) rfl (vin_T (v := 0) rfl (by decide) (by decide)) dX12_starts_22 (fun f_2 hS_2q => ?_)
    have hS_2 : mS cy m a f0 n z (va_up F 56 (upd (F 56) (Int32.toNatClampNeg 0) r_1)) G f_2 := hS_2q
    refine gz_iinc (v := 1) (lv' := [(1, .int 1), (0, .ref m)]) dX12_starts_23 rfl (by decide) (by decide) rfl ?_
    refine gz_goto (tgt := 2) dX12_starts_26 (by decide) ?_
    refine gz_iload_n dX12_starts_2 rfl rfl ?_
    refine gz_bipush (v := 6) dX12_starts_3 (by decide) ?_
    refine gz_icmp_ge (tgt := 29) dX12_starts_5 (by decide) (fun c_5_1 => ?_) (fun c_5_1 => ?_)
    · exact absurd c_5_1 (by decide)
    ·
      try simp only [mIn_0, lgc_lt, lgc_gt, lgc_le, lgc_ge, lgc_eq] at c_5_1
      try simp only [fl_lt, fl_le, fl_eq, fL_w, fL_lt, fL_le, tm1, tm10k, tm9, tm99, Int32.reduceToInt, Int64.reduceToInt, Int.not_lt, Int.not_le] at c_5_1
      refine gz_aload_n dX12_starts_8 rfl rfl ?_
      refine mg_161 hS_2 dX12_starts_9 ?_
      refine gz_iload_n dX12_starts_12 rfl rfl ?_
      refine gz_aload_n dX12_starts_13 rfl rfl ?_
      refine gz_iload_n dX12_starts_14 rfl rfl ?_
      refine gz_aload_n dX12_starts_15 rfl rfl ?_
      refine mg_249 hS_2 dX12_starts_16 ?_
      refine gz_ev (w := .int (n 0)) rfl ?_
      refine scX12_258 (k_X12_thingOnT (x := 1) (y := (n 0)) hS_2 (by decide) (by omega)) hS_2.1 ⟨(Nat.le_of_ble_eq_true rfl), (Nat.le_of_ble_eq_true rfl)⟩ ⟨(Nat.le_of_ble_eq_true rfl), (Nat.le_of_ble_eq_true rfl)⟩ rfl rfl (Nat.le_of_ble_eq_true rfl) dX12_starts_19 ?_
      rintro r_3 f9 ⟨hb_3, y9⟩; rw [y9]
      refine m_iast 56 hS_2 rfl (N := 6) rfl (vin_T (v := 1) rfl (by decide) (by decide)) dX12_starts_22 (fun f_4 hS_4q => ?_)
      have hS_4 : mS cy m a f0 n z (va_up (va_up F 56 (upd (F 56) (Int32.toNatClampNeg 0) r_1)) 56 (upd (upd (F 56) (Int32.toNatClampNeg 0) r_1) (Int32.toNatClampNeg 1) r_3)) G f_4 := hS_4q
      refine gz_iinc (v := 2) (lv' := [(1, .int 2), (0, .ref m)]) dX12_starts_23 rfl (by decide) (by decide) rfl ?_
      refine gz_goto (tgt := 2) dX12_starts_26 (by decide) ?_
      refine gz_iload_n dX12_starts_2 rfl rfl ?_
      refine gz_bipush (v := 6) dX12_starts_3 (by decide) ?_
      refine gz_icmp_ge (tgt := 29) dX12_starts_5 (by decide) (fun c_5_2 => ?_) (fun c_5_2 => ?_)
      · exact absurd c_5_2 (by decide)
      ·
        try simp only [mIn_0, lgc_lt, lgc_gt, lgc_le, lgc_ge, lgc_eq] at c_5_2
        try simp only [fl_lt, fl_le, fl_eq, fL_w, fL_lt, fL_le, tm1, tm10k, tm9, tm99, Int32.reduceToInt, Int64.reduceToInt, Int.not_lt, Int.not_le] at c_5_2
        refine gz_aload_n dX12_starts_8 rfl rfl ?_
        refine mg_161 hS_4 dX12_starts_9 ?_
        refine gz_iload_n dX12_starts_12 rfl rfl ?_
        refine gz_aload_n dX12_starts_13 rfl rfl ?_
        refine gz_iload_n dX12_starts_14 rfl rfl ?_
        refine gz_aload_n dX12_starts_15 rfl rfl ?_
        refine mg_249 hS_4 dX12_starts_16 ?_
        refine gz_ev (w := .int (n 0)) rfl ?_
        refine scX12_258 (k_X12_thingOnT (x := 2) (y := (n 0)) hS_4 (by decide) (by omega)) hS_4.1 ⟨(Nat.le_of_ble_eq_true rfl), (Nat.le_of_ble_eq_true rfl)⟩ ⟨(Nat.le_of_ble_eq_true rfl), (Nat.le_of_ble_eq_true rfl)⟩ rfl rfl (Nat.le_of_ble_eq_true rfl) dX12_starts_19 ?_
        rintro r_5 f9 ⟨hb_5, y9⟩; rw [y9]
        refine m_iast 56 hS_4 rfl (N := 6) rfl (vin_T (v := 2) rfl (by decide) (by decide)) dX12_starts_22 (fun f_6 hS_6q => ?_)
        have hS_6 : mS cy m a f0 n z (va_up (va_up (va_up F 56 (upd (F 56) (Int32.toNatClampNeg 0) r_1)) 56 (upd (upd (F 56) (Int32.toNatClampNeg 0) r_1) (Int32.toNatClampNeg 1) r_3)) 56 (upd (upd (upd (F 56) (Int32.toNatClampNeg 0) r_1) (Int32.toNatClampNeg 1) r_3) (Int32.toNatClampNeg 2) r_5)) G f_6 := hS_6q
        refine gz_iinc (v := 3) (lv' := [(1, .int 3), (0, .ref m)]) dX12_starts_23 rfl (by decide) (by decide) rfl ?_
        refine gz_goto (tgt := 2) dX12_starts_26 (by decide) ?_
        refine gz_iload_n dX12_starts_2 rfl rfl ?_
        refine gz_bipush (v := 6) dX12_starts_3 (by decide) ?_
        refine gz_icmp_ge (tgt := 29) dX12_starts_5 (by decide) (fun c_5_3 => ?_) (fun c_5_3 => ?_)
        · exact absurd c_5_3 (by decide)
        ·
          try simp only [mIn_0, lgc_lt, lgc_gt, lgc_le, lgc_ge, lgc_eq] at c_5_3
          try simp only [fl_lt, fl_le, fl_eq, fL_w, fL_lt, fL_le, tm1, tm10k, tm9, tm99, Int32.reduceToInt, Int64.reduceToInt, Int.not_lt, Int.not_le] at c_5_3
          refine gz_aload_n dX12_starts_8 rfl rfl ?_
          refine mg_161 hS_6 dX12_starts_9 ?_
          refine gz_iload_n dX12_starts_12 rfl rfl ?_
          refine gz_aload_n dX12_starts_13 rfl rfl ?_
          refine gz_iload_n dX12_starts_14 rfl rfl ?_
          refine gz_aload_n dX12_starts_15 rfl rfl ?_
          refine mg_249 hS_6 dX12_starts_16 ?_
          refine gz_ev (w := .int (n 0)) rfl ?_
          refine scX12_258 (k_X12_thingOnT (x := 3) (y := (n 0)) hS_6 (by decide) (by omega)) hS_6.1 ⟨(Nat.le_of_ble_eq_true rfl), (Nat.le_of_ble_eq_true rfl)⟩ ⟨(Nat.le_of_ble_eq_true rfl), (Nat.le_of_ble_eq_true rfl)⟩ rfl rfl (Nat.le_of_ble_eq_true rfl) dX12_starts_19 ?_
          rintro r_7 f9 ⟨hb_7, y9⟩; rw [y9]
          refine m_iast 56 hS_6 rfl (N := 6) rfl (vin_T (v := 3) rfl (by decide) (by decide)) dX12_starts_22 (fun f_8 hS_8q => ?_)
          have hS_8 : mS cy m a f0 n z (va_up (va_up (va_up (va_up F 56 (upd (F 56) (Int32.toNatClampNeg 0) r_1)) 56 (upd (upd (F 56) (Int32.toNatClampNeg 0) r_1) (Int32.toNatClampNeg 1) r_3)) 56 (upd (upd (upd (F 56) (Int32.toNatClampNeg 0) r_1) (Int32.toNatClampNeg 1) r_3) (Int32.toNatClampNeg 2) r_5)) 56 (upd (upd (upd (upd (F 56) (Int32.toNatClampNeg 0) r_1) (Int32.toNatClampNeg 1) r_3) (Int32.toNatClampNeg 2) r_5) (Int32.toNatClampNeg 3) r_7)) G f_8 := hS_8q
          refine gz_iinc (v := 4) (lv' := [(1, .int 4), (0, .ref m)]) dX12_starts_23 rfl (by decide) (by decide) rfl ?_
          refine gz_goto (tgt := 2) dX12_starts_26 (by decide) ?_
          refine gz_iload_n dX12_starts_2 rfl rfl ?_
          refine gz_bipush (v := 6) dX12_starts_3 (by decide) ?_
          refine gz_icmp_ge (tgt := 29) dX12_starts_5 (by decide) (fun c_5_4 => ?_) (fun c_5_4 => ?_)
          · exact absurd c_5_4 (by decide)
          ·
            try simp only [mIn_0, lgc_lt, lgc_gt, lgc_le, lgc_ge, lgc_eq] at c_5_4
            try simp only [fl_lt, fl_le, fl_eq, fL_w, fL_lt, fL_le, tm1, tm10k, tm9, tm99, Int32.reduceToInt, Int64.reduceToInt, Int.not_lt, Int.not_le] at c_5_4
            refine gz_aload_n dX12_starts_8 rfl rfl ?_
            refine mg_161 hS_8 dX12_starts_9 ?_
            refine gz_iload_n dX12_starts_12 rfl rfl ?_
            refine gz_aload_n dX12_starts_13 rfl rfl ?_
            refine gz_iload_n dX12_starts_14 rfl rfl ?_
            refine gz_aload_n dX12_starts_15 rfl rfl ?_
            refine mg_249 hS_8 dX12_starts_16 ?_
            refine gz_ev (w := .int (n 0)) rfl ?_
            refine scX12_258 (k_X12_thingOnT (x := 4) (y := (n 0)) hS_8 (by decide) (by omega)) hS_8.1 ⟨(Nat.le_of_ble_eq_true rfl), (Nat.le_of_ble_eq_true rfl)⟩ ⟨(Nat.le_of_ble_eq_true rfl), (Nat.le_of_ble_eq_true rfl)⟩ rfl rfl (Nat.le_of_ble_eq_true rfl) dX12_starts_19 ?_
            rintro r_9 f9 ⟨hb_9, y9⟩; rw [y9]
            refine m_iast 56 hS_8 rfl (N := 6) rfl (vin_T (v := 4) rfl (by decide) (by decide)) dX12_starts_22 (fun f_10 hS_10q => ?_)
            have hS_10 : mS cy m a f0 n z (va_up (va_up (va_up (va_up (va_up F 56 (upd (F 56) (Int32.toNatClampNeg 0) r_1)) 56 (upd (upd (F 56) (Int32.toNatClampNeg 0) r_1) (Int32.toNatClampNeg 1) r_3)) 56 (upd (upd (upd (F 56) (Int32.toNatClampNeg 0) r_1) (Int32.toNatClampNeg 1) r_3) (Int32.toNatClampNeg 2) r_5)) 56 (upd (upd (upd (upd (F 56) (Int32.toNatClampNeg 0) r_1) (Int32.toNatClampNeg 1) r_3) (Int32.toNatClampNeg 2) r_5) (Int32.toNatClampNeg 3) r_7)) 56 (upd (upd (upd (upd (upd (F 56) (Int32.toNatClampNeg 0) r_1) (Int32.toNatClampNeg 1) r_3) (Int32.toNatClampNeg 2) r_5) (Int32.toNatClampNeg 3) r_7) (Int32.toNatClampNeg 4) r_9)) G f_10 := hS_10q
            refine gz_iinc (v := 5) (lv' := [(1, .int 5), (0, .ref m)]) dX12_starts_23 rfl (by decide) (by decide) rfl ?_
            refine gz_goto (tgt := 2) dX12_starts_26 (by decide) ?_
            refine gz_iload_n dX12_starts_2 rfl rfl ?_
            refine gz_bipush (v := 6) dX12_starts_3 (by decide) ?_
            refine gz_icmp_ge (tgt := 29) dX12_starts_5 (by decide) (fun c_5_5 => ?_) (fun c_5_5 => ?_)
            · exact absurd c_5_5 (by decide)
            ·
              try simp only [mIn_0, lgc_lt, lgc_gt, lgc_le, lgc_ge, lgc_eq] at c_5_5
              try simp only [fl_lt, fl_le, fl_eq, fL_w, fL_lt, fL_le, tm1, tm10k, tm9, tm99, Int32.reduceToInt, Int64.reduceToInt, Int.not_lt, Int.not_le] at c_5_5
              refine gz_aload_n dX12_starts_8 rfl rfl ?_
              refine mg_161 hS_10 dX12_starts_9 ?_
              refine gz_iload_n dX12_starts_12 rfl rfl ?_
              refine gz_aload_n dX12_starts_13 rfl rfl ?_
              refine gz_iload_n dX12_starts_14 rfl rfl ?_
              refine gz_aload_n dX12_starts_15 rfl rfl ?_
              refine mg_249 hS_10 dX12_starts_16 ?_
              refine gz_ev (w := .int (n 0)) rfl ?_
              refine scX12_258 (k_X12_thingOnT (x := 5) (y := (n 0)) hS_10 (by decide) (by omega)) hS_10.1 ⟨(Nat.le_of_ble_eq_true rfl), (Nat.le_of_ble_eq_true rfl)⟩ ⟨(Nat.le_of_ble_eq_true rfl), (Nat.le_of_ble_eq_true rfl)⟩ rfl rfl (Nat.le_of_ble_eq_true rfl) dX12_starts_19 ?_
              rintro r_11 f9 ⟨hb_11, y9⟩; rw [y9]
              refine m_iast 56 hS_10 rfl (N := 6) rfl (vin_T (v := 5) rfl (by decide) (by decide)) dX12_starts_22 (fun f_12 hS_12q => ?_)
              have hS_12 : mS cy m a f0 n z (va_up (va_up (va_up (va_up (va_up (va_up F 56 (upd (F 56) (Int32.toNatClampNeg 0) r_1)) 56 (upd (upd (F 56) (Int32.toNatClampNeg 0) r_1) (Int32.toNatClampNeg 1) r_3)) 56 (upd (upd (upd (F 56) (Int32.toNatClampNeg 0) r_1) (Int32.toNatClampNeg 1) r_3) (Int32.toNatClampNeg 2) r_5)) 56 (upd (upd (upd (upd (F 56) (Int32.toNatClampNeg 0) r_1) (Int32.toNatClampNeg 1) r_3) (Int32.toNatClampNeg 2) r_5) (Int32.toNatClampNeg 3) r_7)) 56 (upd (upd (upd (upd (upd (F 56) (Int32.toNatClampNeg 0) r_1) (Int32.toNatClampNeg 1) r_3) (Int32.toNatClampNeg 2) r_5) (Int32.toNatClampNeg 3) r_7) (Int32.toNatClampNeg 4) r_9)) 56 (upd (upd (upd (upd (upd (upd (F 56) (Int32.toNatClampNeg 0) r_1) (Int32.toNatClampNeg 1) r_3) (Int32.toNatClampNeg 2) r_5) (Int32.toNatClampNeg 3) r_7) (Int32.toNatClampNeg 4) r_9) (Int32.toNatClampNeg 5) r_11)) G f_12 := hS_12q
              refine gz_iinc (v := 6) (lv' := [(1, .int 6), (0, .ref m)]) dX12_starts_23 rfl (by decide) (by decide) rfl ?_
              refine gz_goto (tgt := 2) dX12_starts_26 (by decide) ?_
              refine gz_iload_n dX12_starts_2 rfl rfl ?_
              refine gz_bipush (v := 6) dX12_starts_3 (by decide) ?_
              refine gz_icmp_ge (tgt := 29) dX12_starts_5 (by decide) (fun c_5_6 => ?_) (fun c_5_6 => ?_)
              ·
                try simp only [mIn_0, lgc_lt, lgc_gt, lgc_le, lgc_ge, lgc_eq] at c_5_6
                try simp only [fl_lt, fl_le, fl_eq, fL_w, fL_lt, fL_le, tm1, tm10k, tm9, tm99, Int32.reduceToInt, Int64.reduceToInt, Int.not_lt, Int.not_le] at c_5_6
                have hg : ∀ i, i < 6 → ((upd (upd (upd (upd (upd (upd (F 56) (Int32.toNatClampNeg 0) r_1) (Int32.toNatClampNeg 1) r_3) (Int32.toNatClampNeg 2) r_5) (Int32.toNatClampNeg 3) r_7) (Int32.toNatClampNeg 4) r_9) (Int32.toNatClampNeg 5) r_11) i).toInt = (sNow (n 0) (F 2)).2 i := by
                  intro i hi
                  have hc : i = 0 ∨ i = 1 ∨ i = 2 ∨ i = 3 ∨ i = 4 ∨ i = 5 := by omega
                  rcases hc with rfl | rfl | rfl | rfl | rfl | rfl
                  · rw [updE, if_neg (by decide), updE, if_neg (by decide), updE, if_neg (by decide), updE, if_neg (by decide), updE, if_neg (by decide), updE, if_pos (by decide), hb_1]; rfl
                  · rw [updE, if_neg (by decide), updE, if_neg (by decide), updE, if_neg (by decide), updE, if_neg (by decide), updE, if_pos (by decide), hb_3]; rfl
                  · rw [updE, if_neg (by decide), updE, if_neg (by decide), updE, if_neg (by decide), updE, if_pos (by decide), hb_5]; rfl
                  · rw [updE, if_neg (by decide), updE, if_neg (by decide), updE, if_pos (by decide), hb_7]; rfl
                  · rw [updE, if_neg (by decide), updE, if_pos (by decide), hb_9]; rfl
                  · rw [updE, if_pos (by decide), hb_11]; rfl
                exact gz_vret rfl dX12_starts_29 (Nat.le_of_ble_eq_true rfl) (Nat.le_of_ble_eq_true rfl) (⟨rfl, _, _, _, _, hS_12, (fx_F (fx_F (fx_F (fx_F (fx_F (fx_F fx_rf (by decide)) (by decide)) (by decide)) (by decide)) (by decide)) (by decide)), ⟨rfl, hg⟩⟩)
              · exact absurd c_5_6 (by decide)

set_option maxHeartbeats 4000000 in
set_option maxRecDepth 100000 in
theorem l_X12_powerE {l : Launch} {D : va_G} {cy : Nat → ClassId} {b : Nat} {f : gMem} {x1 x2 : Int32} (hb : 0 ≤ x1.toInt ∧ x1.toInt ≤ 12) (he : 0 ≤ x2.toInt ∧ x2.toInt ≤ 4) : ∀ (k : Nat) (i v : Int32) (fm : gMem), fr [] f fm → (fm = f) → (v.toInt = x1.toInt ^ i.toInt.toNat) → (0 ≤ i.toInt ∧ i.toInt ≤ x2.toInt ∧ i.toInt + (k : Int) = x2.toInt + 1) → gG l (gRm 0 0 0) (gQf D b (pI fun r f2 => (r.toInt = x1.toInt ^ x2.toInt.toNat ∧ 0 ≤ r.toInt ∧ r.toInt ≤ 20736) ∧ f2 = f) 0 0) gTt D cy b cX12_power 4 (some .int) RX12 "power" (0) (0) fm 4 [(3, .int i), (2, .int v), (0, .int x1), (1, .int x2)] [] := by
  intro k
  induction k with
  | zero =>
    intro i v fm hfr hf hp hk
    exfalso; omega
  | succ k ih =>
    intro i v fm hfr hf hp hk
    refine gz_iload_n dX12_power_4 rfl rfl ?_
    refine gz_iload_n dX12_power_5 rfl rfl ?_
    refine gz_icmp_ge (tgt := 19) dX12_power_6 (by decide) (fun c_6 => ?_) (fun c_6 => ?_)
    ·
      refine gz_iload_n dX12_power_19 rfl rfl ?_
      exact gz_iret rfl dX12_power_20 (Nat.le_of_ble_eq_true rfl) (Nat.le_of_ble_eq_true rfl) (⟨_, rfl, (by simp only [fl_le] at c_6; have h1 := pw12 hb i.toInt.toNat (by omega); rw [← hp] at h1; exact ⟨by rw [hp]; congr 1; omega, h1⟩), hf⟩)
    ·
      refine gz_iload_n dX12_power_9 rfl rfl ?_
      refine gz_iload_n dX12_power_10 rfl rfl ?_
      refine gz_imul dX12_power_11 ?_
      refine gz_istore_n (lv' := [(2, .int (v * x1)), (3, .int i), (0, .int x1), (1, .int x2)]) dX12_power_12 rfl (by decide) rfl ?_
      refine gz_iinc (v := (i + 1)) (lv' := [(3, .int (i + 1)), (2, .int (v * x1)), (0, .int x1), (1, .int x2)]) dX12_power_13 rfl rfl (by decide) rfl ?_
      refine gz_goto (tgt := 4) dX12_power_16 (by decide) ?_
      refine gz_sub (lv' := [(3, .int (i + 1)), (2, .int (v * x1)), (0, .int x1), (1, .int x2)]) (by simp [List.lookup]) ?_
      exact ih (i + 1) (v * x1) _ hfr  (hf) (by have e1 : (1 : Int32).toInt = 1 := rfl; simp only [fl_le] at c_6; have hx := T_add (rfl : i.toInt = i.toInt) e1 (by omega); have h1 := pw12 hb (i.toInt.toNat + 1) (by omega); rw [Int.pow_succ, ← hp] at h1; have h2 : (v * x1).toInt = v.toInt * x1.toInt := mulT (by omega) (by omega); rw [h2, hp, hx, ← Int.pow_succ]; congr 1; omega) (by have e1 : (1 : Int32).toInt = 1 := rfl; simp only [fl_le] at c_6; have hx := T_add (rfl : i.toInt = i.toInt) e1 (by omega); omega)

set_option maxHeartbeats 4000000 in
set_option maxRecDepth 100000 in
theorem k_X12_powerE {l : Launch} {D : va_G} {cy : Nat → ClassId} {b : Nat} {f : gMem} {x1 x2 : Int32}  (hb : 0 ≤ x1.toInt ∧ x1.toInt ≤ 12) (he : 0 ≤ x2.toInt ∧ x2.toInt ≤ 4) : gC l D cy b yX12_power cX12_power 4 (some .int) 0 0 0 [.int x1, .int x2] f (pI fun r f2 => (r.toInt = x1.toInt ^ x2.toInt.toNat ∧ 0 ≤ r.toInt ∧ r.toInt ≤ 20736) ∧ f2 = f) := by
  refine gC_of (by decide) (Nat.le_of_ble_eq_true rfl) ?_
  show gG l _ _ _ D cy b cX12_power 4 _ RX12 "power" 0 0 f 0 [(0, .int x1), (1, .int x2)] []
  refine gz_iconst (v := 1) dX12_power_0 (by decide) ?_
  refine gz_istore_n (lv' := [(2, .int 1), (0, .int x1), (1, .int x2)]) dX12_power_1 rfl (by decide) rfl ?_
  refine gz_iconst (v := 0) dX12_power_2 (by decide) ?_
  refine gz_istore_n (lv' := [(3, .int 0), (2, .int 1), (0, .int x1), (1, .int x2)]) dX12_power_3 rfl (by decide) rfl ?_
  refine gz_sub (lv' := [(3, .int 0), (2, .int 1), (0, .int x1), (1, .int x2)]) (by simp [List.lookup]) ?_
  exact l_X12_powerE hb he (x2.toInt.toNat + 1) 0 1 _ fr_rf  (rfl) (by show (1 : Int) = x1.toInt ^ (0 : Nat); rw [Int.pow_zero]) (⟨by decide, by have e0 : (0 : Int32).toInt = 0 := rfl; omega, by have e0 : (0 : Int32).toInt = 0 := rfl; omega⟩)

set_option maxHeartbeats 4000000 in
set_option maxRecDepth 100000 in
theorem l_X12_allWeightsE {l : Launch} {D : va_G} {cy : Nat → ClassId} {b : Nat} {m : Nat} {a : Nat → Nat} {f0 : gMem} {n0 : Nat → Int32} {z0 : Nat → Int64} {F0 : Nat → Nat → Int32} {G0 : Nat → Nat → Int64}  {f : gMem} {wz : Nat}  : ∀ (k : Nat) (i v : Int32) (n : Nat → Int32) (z : Nat → Int64) (F : Nat → Nat → Int32) (G : Nat → Nat → Int64) (fm : gMem), mS cy m a f0 n z F G fm → fx [] [] [] [] n0 z0 F0 G0 n z F G → ((n 53).toInt = (wz : Int) ∧ 1 ≤ wz ∧ wz ≤ 3) → (∀ y, y < 3 → 0 ≤ (F 54 y).toInt ∧ (F 54 y).toInt ≤ 4) → (v.toInt = awI (F 54) i.toInt.toNat) → (0 ≤ i.toInt ∧ i.toInt ≤ (n 53).toInt ∧ i.toInt + (k : Int) = 4) → (fm = f) → gG l (gRm 0 0 0) (gQf D b (pI fun r f2 => r.toInt = awI (F0 54) wz ∧ f2 = f) 0 0) gTt D cy b cX12_allWeights 3 (some .int) RX12 "allWeights" 0 0 fm 4 [(2, .int i), (1, .int v), (0, .ref m)] [] := by
  intro k
  induction k with
  | zero =>
    intro i v n z F G fm hS hx hwz h54 hv_ hk hf
    exfalso; omega
  | succ k ih =>
    intro i v n z F G fm hS hx hwz h54 hv_ hk hf
    refine gz_iload_n dX12_allWeights_4 rfl rfl ?_
    refine gz_aload_n dX12_allWeights_5 rfl rfl ?_
    refine mg_151 hS dX12_allWeights_6 ?_
    refine gz_icmp_ge (tgt := 27) dX12_allWeights_9 (by decide) (fun c_9 => ?_) (fun c_9 => ?_)
    ·
      try simp only [mIn_0, lgc_lt, lgc_gt, lgc_le, lgc_ge, lgc_eq] at c_9
      try simp only [fl_lt, fl_le, fl_eq, fL_w, fL_lt, fL_le, tm1, tm10k, tm9, tm99, Int32.reduceToInt, Int64.reduceToInt, Int.not_lt, Int.not_le] at c_9
      refine gz_iload_n dX12_allWeights_27 rfl rfl ?_
      exact gz_iret rfl dX12_allWeights_28 (Nat.le_of_ble_eq_true rfl) (Nat.le_of_ble_eq_true rfl) (⟨_, rfl, (by rw [hx.2.2.1 54 (by decide)] at hv_; rw [hv_]; congr 1; omega), hf⟩)
    ·
      try simp only [mIn_0, lgc_lt, lgc_gt, lgc_le, lgc_ge, lgc_eq] at c_9
      try simp only [fl_lt, fl_le, fl_eq, fL_w, fL_lt, fL_le, tm1, tm10k, tm9, tm99, Int32.reduceToInt, Int64.reduceToInt, Int.not_lt, Int.not_le] at c_9
      refine gz_iload_n dX12_allWeights_12 rfl rfl ?_
      refine gz_aload_n dX12_allWeights_13 rfl rfl ?_
      refine mg_155 hS dX12_allWeights_14 ?_
      refine gz_iload_n dX12_allWeights_17 rfl rfl ?_
      refine m_iald 54 hS rfl (N := 3) rfl ((by exact vin_T (rfl : (i).toInt = (i).toInt) (by omega) (by omega))) dX12_allWeights_18 ?_
      refine gz_iadd dX12_allWeights_19 ?_
      refine gz_istore_n (lv' := [(1, .int (v + ((F 54) (Int32.toNatClampNeg i)))), (2, .int i), (0, .ref m)]) dX12_allWeights_20 rfl (by decide) rfl ?_
      refine gz_iinc (v := (i + 1)) (lv' := [(2, .int (i + 1)), (1, .int (v + ((F 54) (Int32.toNatClampNeg i)))), (0, .ref m)]) dX12_allWeights_21 rfl rfl (by decide) rfl ?_
      refine gz_goto (tgt := 4) dX12_allWeights_24 (by decide) ?_
      refine gz_sub (lv' := [(2, .int (i + 1)), (1, .int (v + ((F 54) (Int32.toNatClampNeg i)))), (0, .ref m)]) (by simp [List.lookup]) ?_
      exact ih (i + 1) (v + ((F 54) (Int32.toNatClampNeg i))) _ _ _ _ _ hS hx (hwz) (h54) (by have q1 := h54 i.toInt.toNat (by omega); have q2 := awI_b h54 i.toInt.toNat (by omega); have q3 : (i + 1).toInt = i.toInt + 1 := T_add rfl (show (1 : Int32).toInt = 1 from rfl) (by omega); rw [show (i + 1).toInt.toNat = i.toInt.toNat + 1 by omega]; show (v + F 54 (Int32.toNatClampNeg i)).toInt = awI (F 54) i.toInt.toNat + (F 54 i.toInt.toNat).toInt; rw [clN]; exact T_add hv_ rfl (by omega)) ((by have q1_ := (T_add (rfl : (i).toInt = (i).toInt) (show (1 : Int32).toInt = 1 from rfl) (by omega)); omega)) (hf)

set_option maxHeartbeats 4000000 in
set_option maxRecDepth 100000 in
theorem k_X12_allWeightsE {l : Launch} {D : va_G} {cy : Nat → ClassId} {b : Nat} {f : gMem} {m : Nat} {a : Nat → Nat} {f0 : gMem} {n : Nat → Int32} {z : Nat → Int64} {F : Nat → Nat → Int32} {G : Nat → Nat → Int64}  {wz : Nat}  (hS : mS cy m a f0 n z F G f) (hwz : (n 53).toInt = (wz : Int) ∧ 1 ≤ wz ∧ wz ≤ 3) (h54 : ∀ y, y < 3 → 0 ≤ (F 54 y).toInt ∧ (F 54 y).toInt ≤ 4) : gC l D cy b yX12_allWeights cX12_allWeights 3 (some .int) 0 0 0 [.ref m] f (pI fun r f2 => r.toInt = awI (F 54) wz ∧ f2 = f) := by
  refine gC_of (by decide) (Nat.le_of_ble_eq_true rfl) ?_
  show gG l _ _ _ D cy b cX12_allWeights 3 _ RX12 "allWeights" 0 0 f 0 [(0, .ref m)] []
  refine gz_iconst (v := 0) dX12_allWeights_0 (by decide) ?_
  refine gz_istore_n (lv' := [(1, .int 0), (0, .ref m)]) dX12_allWeights_1 rfl (by decide) rfl ?_
  refine gz_iconst (v := 0) dX12_allWeights_2 (by decide) ?_
  refine gz_istore_n (lv' := [(2, .int 0), (1, .int 0), (0, .ref m)]) dX12_allWeights_3 rfl (by decide) rfl ?_
  refine gz_sub (lv' := [(2, .int 0), (1, .int 0), (0, .ref m)]) (by simp [List.lookup]) ?_
  exact l_X12_allWeightsE 4 0 0 _ _ _ _ _ hS fx_rf (hwz) (h54) (rfl) (⟨by decide, by have e0 : (0 : Int32).toInt = 0 := rfl; omega, by decide⟩) (rfl)

set_option maxHeartbeats 4000000 in
set_option maxRecDepth 100000 in
theorem l_X12_asIn2E {l : Launch} {D : va_G} {cy : Nat → ClassId} {b : Nat} {m : Nat} {a : Nat → Nat} {f0 : gMem} {n0 : Nat → Int32} {z0 : Nat → Int64} {F0 : Nat → Nat → Int32} {G0 : Nat → Nat → Int64}  {x1 x2 : Int32} {i left : Int32} {lN : Nat} {TH : Nat → Int} {E : We} {S0 : Sn} {dN wo : Nat} (hl : left.toInt = (lN : Int)) (hq : ∀  (n : Nat → Int32) (z : Nat → Int64) (F : Nat → Nat → Int32) (G : Nat → Nat → Int64) (fm : gMem), mS cy m a f0 n z F G fm → fx [] [29] [] [28] n0 z0 F0 G0 n z F G → (eR E n F) → (z 29 = Int64.ofInt (S0.1 + (dN : Int))) → (∀ j, j < 6 → G 28 j = Int64.ofInt (TH j + (E.1 (lN % E.2.2.1) j).toInt)) → gG l (gRm 0 0 0) (gQf D b (pV fun f2 => ∃ (n2 : Nat → Int32) (z2 : Nat → Int64) (F2 : Nat → Nat → Int32) (G2 : Nat → Nat → Int64), mS cy m a f0 n2 z2 F2 G2 f2 ∧ fx [] [29] [] [28] n0 z0 F0 G0 n2 z2 F2 G2 ∧ sRn (wSc E S0 dN wo) z2 G2) 0 0) gTt D cy b cX12_asIn 6 none RX12 "asIn" 0 0 fm 93 [(4, .int i), (3, .int left), (0, .ref m), (1, .int x1), (2, .int x2)] []) : ∀ (k : Nat) (t : Int32) (n : Nat → Int32) (z : Nat → Int64) (F : Nat → Nat → Int32) (G : Nat → Nat → Int64) (fm : gMem), mS cy m a f0 n z F G fm → fx [] [29] [] [28] n0 z0 F0 G0 n z F G → (eR E n F) → (z 29 = Int64.ofInt (S0.1 + (dN : Int))) → (∀ j, j < 6 → G 28 j = Int64.ofInt (TH j + (if (j : Int) < t.toInt then (E.1 (lN % E.2.2.1) j).toInt else 0))) → (0 ≤ t.toInt ∧ t.toInt ≤ 6 ∧ t.toInt + (k : Int) = 7) → gG l (gRm 0 0 0) (gQf D b (pV fun f2 => ∃ (n2 : Nat → Int32) (z2 : Nat → Int64) (F2 : Nat → Nat → Int32) (G2 : Nat → Nat → Int64), mS cy m a f0 n2 z2 F2 G2 f2 ∧ fx [] [29] [] [28] n0 z0 F0 G0 n2 z2 F2 G2 ∧ sRn (wSc E S0 dN wo) z2 G2) 0 0) gTt D cy b cX12_asIn 6 none RX12 "asIn" 0 0 fm 52 [(5, .int t), (4, .int i), (3, .int left), (0, .ref m), (1, .int x1), (2, .int x2)] [] := by
  intro k
  induction k with
  | zero =>
    intro t n z F G fm hS hx hER hz29 hT hk
    exfalso; omega
  | succ k ih =>
    intro t n z F G fm hS hx hER hz29 hT hk
    refine gz_iload dX12_asIn_52 rfl ?_
    refine gz_bipush (v := 6) dX12_asIn_54 (by decide) ?_
    refine gz_icmp_ge (tgt := 93) dX12_asIn_56 (by decide) (fun c_56 => ?_) (fun c_56 => ?_)
    ·
      try simp only [mIn_0, lgc_lt, lgc_gt, lgc_le, lgc_ge, lgc_eq] at c_56
      try simp only [fl_lt, fl_le, fl_eq, fL_w, fL_lt, fL_le, tm1, tm10k, tm9, tm99, Int32.reduceToInt, Int64.reduceToInt, Int.not_lt, Int.not_le] at c_56
      refine gz_sub (lv' := [(4, .int i), (3, .int left), (0, .ref m), (1, .int x1), (2, .int x2)]) (by simp [List.lookup]) ?_
      exact hq  _ _ _ _ _ hS hx (hER) (hz29) (fun j hj => by rw [hT j hj, if_pos (by omega)])
    ·
      try simp only [mIn_0, lgc_lt, lgc_gt, lgc_le, lgc_ge, lgc_eq] at c_56
      try simp only [fl_lt, fl_le, fl_eq, fL_w, fL_lt, fL_le, tm1, tm10k, tm9, tm99, Int32.reduceToInt, Int64.reduceToInt, Int.not_lt, Int.not_le] at c_56
      refine gz_aload_n dX12_asIn_59 rfl rfl ?_
      refine mg_94 hS dX12_asIn_60 ?_
      refine gz_iload dX12_asIn_63 rfl ?_
      refine gz_dup2 dX12_asIn_65 rfl rfl ?_
      refine m_lald 28 hS rfl (N := 6) rfl ((by exact vin_T (rfl : (t).toInt = (t).toInt) (by omega) (by omega))) dX12_asIn_66 ?_
      refine gz_aload_n dX12_asIn_67 rfl rfl ?_
      refine mg_158 hS dX12_asIn_68 ?_
      refine gz_bipush (v := 6) dX12_asIn_71 (by decide) ?_
      refine gz_iload_n dX12_asIn_73 rfl rfl ?_
      refine gz_aload_n dX12_asIn_74 rfl rfl ?_
      refine mg_151 hS dX12_asIn_75 ?_
      refine gz_irem dX12_asIn_78 (by intro e; have a53 := hER.1; rw [e] at a53; have e0 : (0 : Int32).toInt = 0 := rfl; omega) ?_
      refine gz_imul dX12_asIn_79 ?_
      refine gz_iload dX12_asIn_80 rfl ?_
      refine gz_iadd dX12_asIn_82 ?_
      refine m_iald 55 hS rfl (N := 18) rfl ((by have hz3 := hER.1.2; have q8 := (rem_N hl hER.1.1 hER.1.2).1; have q7 := Nat.mod_lt lN (show 0 < E.2.2.1 by omega); have q9 := T_add (T_mul (show (6 : Int32).toInt = 6 from rfl) (rfl : (left - left / (n 53) * (n 53)).toInt = (left - left / (n 53) * (n 53)).toInt) (by omega)) (rfl : t.toInt = t.toInt) (by omega); exact vin_T q9 (by omega) (by omega))) dX12_asIn_83 ?_
      refine gz_i2l dX12_asIn_84 ?_
      refine gz_ladd dX12_asIn_85 ?_
      refine m_last 28 hS rfl (N := 6) rfl ((by exact vin_T (rfl : (t).toInt = (t).toInt) (by omega) (by omega))) dX12_asIn_86 (fun f_1 hS_1q => ?_)
      have hS_1 : mS cy m a f0 n z F (va_up G 28 (vp_updL (G 28) (Int32.toNatClampNeg t) (((G 28) (Int32.toNatClampNeg t)) + (((F 55) (Int32.toNatClampNeg ((6 * (left - left / (n 53) * (n 53))) + t))).toInt64)))) f_1 := hS_1q
      refine gz_iinc (v := (t + 1)) (lv' := [(5, .int (t + 1)), (4, .int i), (3, .int left), (0, .ref m), (1, .int x1), (2, .int x2)]) dX12_asIn_87 rfl rfl (by decide) rfl ?_
      refine gz_goto (tgt := 52) dX12_asIn_90 (by decide) ?_
      refine gz_sub (lv' := [(5, .int (t + 1)), (4, .int i), (3, .int left), (0, .ref m), (1, .int x1), (2, .int x2)]) (by simp [List.lookup]) ?_
      exact ih (t + 1) _ _ _ _ _ hS_1 (fx_G hx (by decide)) (hER) (hz29) (by have hz3 := hER.1.2; have q8 := (rem_N hl hER.1.1 hER.1.2).1; have q7 := Nat.mod_lt lN (show 0 < E.2.2.1 by omega); have q9 := T_add (T_mul (show (6 : Int32).toInt = 6 from rfl) (rfl : (left - left / (n 53) * (n 53)).toInt = (left - left / (n 53) * (n 53)).toInt) (by omega)) (rfl : t.toInt = t.toInt) (by omega); have q3 : (t + 1).toInt = t.toInt + 1 := T_add rfl (show (1 : Int32).toInt = 1 from rfl) (by omega); have qc : Int32.toNatClampNeg ((6 * (left - left / (n 53) * (n 53))) + t) = 6 * (lN % E.2.2.1) + t.toInt.toNat := (by rw [clN]; omega); intro j hj; show vp_updL (G 28) (Int32.toNatClampNeg t) ((G 28 (Int32.toNatClampNeg t)) + (F 55 (Int32.toNatClampNeg ((6 * (left - left / (n 53) * (n 53))) + t))).toInt64) j = _; rw [qc, hER.2.1 _ _ (by omega) (by omega), updLE, clN, q3]; by_cases z9 : j = t.toInt.toNat; (rw [if_pos z9, if_pos (by omega), hT _ (by omega), if_neg (by omega), Int.add_zero, z9, Int64.ofInt_add, L_of rfl]); (rw [if_neg z9, hT j hj]; by_cases z8 : (j : Int) < t.toInt; (rw [if_pos z8, if_pos (by omega)]); (rw [if_neg z8, if_neg (by omega)]))) ((by have q1_ := (T_add (rfl : (t).toInt = (t).toInt) (show (1 : Int32).toInt = 1 from rfl) (by omega)); omega))

set_option maxHeartbeats 4000000 in
set_option maxRecDepth 100000 in
theorem l_X12_asInE {l : Launch} {D : va_G} {cy : Nat → ClassId} {b : Nat} {m : Nat} {a : Nat → Nat} {f0 : gMem} {n0 : Nat → Int32} {z0 : Nat → Int64} {F0 : Nat → Nat → Int32} {G0 : Nat → Nat → Int64}  {x1 x2 : Int32} {E : We} {S0 : Sn} {dN wo : Nat} (hdN : x1.toInt = (dN : Int) ∧ dN ≤ 4) : ∀ (k : Nat) (i left : Int32) (lN : Nat) (TH : Nat → Int) (n : Nat → Int32) (z : Nat → Int64) (F : Nat → Nat → Int32) (G : Nat → Nat → Int64) (fm : gMem), mS cy m a f0 n z F G fm → fx [] [29] [] [28] n0 z0 F0 G0 n z F G → (eR E n F) → (z 29 = Int64.ofInt (S0.1 + (dN : Int))) → (left.toInt = (lN : Int)) → (∀ j, j < 6 → G 28 j = Int64.ofInt (TH j)) → (∀ j, j < 6 → TH j + dgS E (dN - i.toInt.toNat) lN j = S0.2 j + dgS E dN wo j) → (0 ≤ i.toInt ∧ i.toInt ≤ (dN : Int) ∧ i.toInt + (k : Int) = 5) → gG l (gRm 0 0 0) (gQf D b (pV fun f2 => ∃ (n2 : Nat → Int32) (z2 : Nat → Int64) (F2 : Nat → Nat → Int32) (G2 : Nat → Nat → Int64), mS cy m a f0 n2 z2 F2 G2 f2 ∧ fx [] [29] [] [28] n0 z0 F0 G0 n2 z2 F2 G2 ∧ sRn (wSc E S0 dN wo) z2 G2) 0 0) gTt D cy b cX12_asIn 6 none RX12 "asIn" 0 0 fm 43 [(4, .int i), (3, .int left), (0, .ref m), (1, .int x1), (2, .int x2)] [] := by
  intro k
  induction k with
  | zero =>
    intro i left lN TH n z F G fm hS hx hER hz29 hl hT hsm hk
    exfalso; omega
  | succ k ih =>
    intro i left lN TH n z F G fm hS hx hER hz29 hl hT hsm hk
    refine gz_iload dX12_asIn_43 rfl ?_
    refine gz_iload_n dX12_asIn_45 rfl rfl ?_
    refine gz_icmp_ge (tgt := 106) dX12_asIn_46 (by decide) (fun c_46 => ?_) (fun c_46 => ?_)
    ·
      try simp only [mIn_0, lgc_lt, lgc_gt, lgc_le, lgc_ge, lgc_eq] at c_46
      try simp only [fl_lt, fl_le, fl_eq, fL_w, fL_lt, fL_le, tm1, tm10k, tm9, tm99, Int32.reduceToInt, Int64.reduceToInt, Int.not_lt, Int.not_le] at c_46
      exact gz_vret rfl dX12_asIn_106 (Nat.le_of_ble_eq_true rfl) (Nat.le_of_ble_eq_true rfl) (⟨rfl, _, _, _, _, hS, hx, ⟨by rw [hz29, wSc_dg.1], fun j hj => by have q := hsm j hj; rw [show dN - i.toInt.toNat = 0 by omega] at q; have q : TH j + 0 = S0.2 j + dgS E dN wo j := q; rw [hT j hj, wSc_dg.2, ← q, Int.add_zero]⟩⟩)
    ·
      try simp only [mIn_0, lgc_lt, lgc_gt, lgc_le, lgc_ge, lgc_eq] at c_46
      try simp only [fl_lt, fl_le, fl_eq, fL_w, fL_lt, fL_le, tm1, tm10k, tm9, tm99, Int32.reduceToInt, Int64.reduceToInt, Int.not_lt, Int.not_le] at c_46
      refine gz_iconst (v := 0) dX12_asIn_49 (by decide) ?_
      refine gz_istore (lv' := [(5, .int 0), (4, .int i), (3, .int left), (0, .ref m), (1, .int x1), (2, .int x2)]) dX12_asIn_50 (by decide) rfl ?_
      refine gz_sub (lv' := [(5, .int 0), (4, .int i), (3, .int left), (0, .ref m), (1, .int x1), (2, .int x2)]) (by simp [List.lookup]) ?_
      refine l_X12_asIn2E (i := i) (left := left) (TH := TH) (S0 := S0) (dN := dN) (wo := wo) hl ?_ 7 0 _ _ _ _ _ hS hx hER hz29 (fun j hj => by rw [hT j hj, if_neg (by have e0 : (0 : Int32).toInt = 0 := rfl; omega), Int.add_zero]) ⟨by decide, by decide, by decide⟩
      clear hS hx hER hz29 hT
      intro n z F G fm hS hx hER hz29 hT
      refine gz_iload_n dX12_asIn_93 rfl rfl ?_
      refine gz_aload_n dX12_asIn_94 rfl rfl ?_
      refine mg_151 hS dX12_asIn_95 ?_
      refine gz_idiv dX12_asIn_98 (by intro e; have a53 := hER.1; rw [e] at a53; have e0 : (0 : Int32).toInt = 0 := rfl; omega) ?_
      refine gz_istore_n (lv' := [(3, .int (left / (n 53))), (4, .int i), (0, .ref m), (1, .int x1), (2, .int x2)]) dX12_asIn_99 rfl (by decide) rfl ?_
      refine gz_iinc (v := (i + 1)) (lv' := [(4, .int (i + 1)), (3, .int (left / (n 53))), (0, .ref m), (1, .int x1), (2, .int x2)]) dX12_asIn_100 rfl rfl (by decide) rfl ?_
      refine gz_goto (tgt := 43) dX12_asIn_103 (by decide) ?_
      refine gz_sub (lv' := [(4, .int (i + 1)), (3, .int (left / (n 53))), (0, .ref m), (1, .int x1), (2, .int x2)]) (by simp [List.lookup]) ?_
      exact ih (i + 1) (left / (n 53)) (lN / E.2.2.1) (fun j => TH j + (E.1 (lN % E.2.2.1) j).toInt) _ _ _ _ _ hS hx (hER) (hz29) ((rem_N hl hER.1.1 hER.1.2).2) (fun j hj => hT j hj) (fun j hj => by have q3 : (i + 1).toInt = i.toInt + 1 := T_add rfl (show (1 : Int32).toInt = 1 from rfl) (by omega); have q := hsm j hj; rw [show dN - i.toInt.toNat = (dN - (i + 1).toInt.toNat) + 1 by omega] at q; have q : TH j + (dgS E (dN - (i + 1).toInt.toNat) (lN / E.2.2.1) j + (E.1 (lN % E.2.2.1) j).toInt) = S0.2 j + dgS E dN wo j := q; show TH j + (E.1 (lN % E.2.2.1) j).toInt + dgS E (dN - (i + 1).toInt.toNat) (lN / E.2.2.1) j = _; omega) ((by have q1_ := (T_add (rfl : (i).toInt = (i).toInt) (show (1 : Int32).toInt = 1 from rfl) (by omega)); omega))

set_option maxHeartbeats 4000000 in
set_option maxRecDepth 100000 in
theorem k_X12_asInE {l : Launch} {D : va_G} {cy : Nat → ClassId} {b : Nat} {f : gMem} {m : Nat} {a : Nat → Nat} {f0 : gMem} {n : Nat → Int32} {z : Nat → Int64} {F : Nat → Nat → Int32} {G : Nat → Nat → Int64}  {x1 x2 : Int32} {E : We} {S0 : Sn} {dN wo : Nat} (hS : mS cy m a f0 n z F G f) (a0 : 0 ≤ (n 0).toInt ∧ (n 0).toInt ≤ 399) (hER : eR E n F) (hS0 : stR0 S0 n F) (hdN : x1.toInt = (dN : Int) ∧ dN ≤ 4) (hwo : x2.toInt = (wo : Int)) : gC l D cy b yX12_asIn cX12_asIn 6 none 0 0 0 [.ref m, .int x1, .int x2] f (pV fun f2 => ∃ (n2 : Nat → Int32) (z2 : Nat → Int64) (F2 : Nat → Nat → Int32) (G2 : Nat → Nat → Int64), mS cy m a f0 n2 z2 F2 G2 f2 ∧ fx [] [29] [] [28] n z F G n2 z2 F2 G2 ∧ sRn (wSc E S0 dN wo) z2 G2) := by
  refine gC_of (by decide) (Nat.le_of_ble_eq_true rfl) ?_
  show gG l _ _ _ D cy b cX12_asIn 6 _ RX12 "asIn" 0 0 f 0 [(0, .ref m), (1, .int x1), (2, .int x2)] []
  refine gz_aload_n dX12_asIn_0 rfl rfl ?_
  refine gz_aload_n dX12_asIn_1 rfl rfl ?_
  refine mg_249 hS dX12_asIn_2 ?_
  refine gz_iload_n dX12_asIn_5 rfl rfl ?_
  refine gz_iadd dX12_asIn_6 ?_
  refine gz_i2l dX12_asIn_7 ?_
  refine mp_340 hS dX12_asIn_8 (fun f_1 hS_1 => ?_)
  refine gz_iconst (v := 0) dX12_asIn_11 (by decide) ?_
  refine gz_istore_n (lv' := [(3, .int 0), (0, .ref m), (1, .int x1), (2, .int x2)]) dX12_asIn_12 rfl (by decide) rfl ?_
  refine gz_iload_n dX12_asIn_13 rfl rfl ?_
  refine gz_bipush (v := 6) dX12_asIn_14 (by decide) ?_
  refine gz_icmp_ge (tgt := 38) dX12_asIn_16 (by decide) (fun c_16 => ?_) (fun c_16 => ?_)
  · exact absurd c_16 (by decide)
  ·
    try simp only [mIn_0, lgc_lt, lgc_gt, lgc_le, lgc_ge, lgc_eq] at c_16
    try simp only [fl_lt, fl_le, fl_eq, fL_w, fL_lt, fL_le, tm1, tm10k, tm9, tm99, Int32.reduceToInt, Int64.reduceToInt, Int.not_lt, Int.not_le] at c_16
    refine gz_aload_n dX12_asIn_19 rfl rfl ?_
    refine mg_94 hS_1 dX12_asIn_20 ?_
    refine gz_iload_n dX12_asIn_23 rfl rfl ?_
    refine gz_aload_n dX12_asIn_24 rfl rfl ?_
    refine mg_161 hS_1 dX12_asIn_25 ?_
    refine gz_iload_n dX12_asIn_28 rfl rfl ?_
    refine m_iald 56 hS_1 rfl (N := 6) rfl (vin_T (v := 0) rfl (by decide) (by decide)) dX12_asIn_29 ?_
    refine gz_ev (w := .int ((F 56) (Int32.toNatClampNeg 0))) rfl ?_
    refine gz_i2l dX12_asIn_30 ?_
    refine m_last 28 hS_1 rfl (N := 6) rfl (vin_T (v := 0) rfl (by decide) (by decide)) dX12_asIn_31 (fun f_2 hS_2q => ?_)
    have hS_2 : mS cy m a f0 n (va_up z 29 (((n 0) + x1).toInt64)) F (va_up G 28 (vp_updL (G 28) (Int32.toNatClampNeg 0) (((F 56) (Int32.toNatClampNeg 0)).toInt64))) f_2 := hS_2q
    refine gz_iinc (v := 1) (lv' := [(3, .int 1), (0, .ref m), (1, .int x1), (2, .int x2)]) dX12_asIn_32 rfl (by decide) (by decide) rfl ?_
    refine gz_goto (tgt := 13) dX12_asIn_35 (by decide) ?_
    refine gz_iload_n dX12_asIn_13 rfl rfl ?_
    refine gz_bipush (v := 6) dX12_asIn_14 (by decide) ?_
    refine gz_icmp_ge (tgt := 38) dX12_asIn_16 (by decide) (fun c_16_1 => ?_) (fun c_16_1 => ?_)
    · exact absurd c_16_1 (by decide)
    ·
      try simp only [mIn_0, lgc_lt, lgc_gt, lgc_le, lgc_ge, lgc_eq] at c_16_1
      try simp only [fl_lt, fl_le, fl_eq, fL_w, fL_lt, fL_le, tm1, tm10k, tm9, tm99, Int32.reduceToInt, Int64.reduceToInt, Int.not_lt, Int.not_le] at c_16_1
      refine gz_aload_n dX12_asIn_19 rfl rfl ?_
      refine mg_94 hS_2 dX12_asIn_20 ?_
      refine gz_iload_n dX12_asIn_23 rfl rfl ?_
      refine gz_aload_n dX12_asIn_24 rfl rfl ?_
      refine mg_161 hS_2 dX12_asIn_25 ?_
      refine gz_iload_n dX12_asIn_28 rfl rfl ?_
      refine m_iald 56 hS_2 rfl (N := 6) rfl (vin_T (v := 1) rfl (by decide) (by decide)) dX12_asIn_29 ?_
      refine gz_ev (w := .int ((F 56) (Int32.toNatClampNeg 1))) rfl ?_
      refine gz_i2l dX12_asIn_30 ?_
      refine m_last 28 hS_2 rfl (N := 6) rfl (vin_T (v := 1) rfl (by decide) (by decide)) dX12_asIn_31 (fun f_3 hS_3q => ?_)
      have hS_3 : mS cy m a f0 n (va_up z 29 (((n 0) + x1).toInt64)) F (va_up (va_up G 28 (vp_updL (G 28) (Int32.toNatClampNeg 0) (((F 56) (Int32.toNatClampNeg 0)).toInt64))) 28 (vp_updL (vp_updL (G 28) (Int32.toNatClampNeg 0) (((F 56) (Int32.toNatClampNeg 0)).toInt64)) (Int32.toNatClampNeg 1) (((F 56) (Int32.toNatClampNeg 1)).toInt64))) f_3 := hS_3q
      refine gz_iinc (v := 2) (lv' := [(3, .int 2), (0, .ref m), (1, .int x1), (2, .int x2)]) dX12_asIn_32 rfl (by decide) (by decide) rfl ?_
      refine gz_goto (tgt := 13) dX12_asIn_35 (by decide) ?_
      refine gz_iload_n dX12_asIn_13 rfl rfl ?_
      refine gz_bipush (v := 6) dX12_asIn_14 (by decide) ?_
      refine gz_icmp_ge (tgt := 38) dX12_asIn_16 (by decide) (fun c_16_2 => ?_) (fun c_16_2 => ?_)
      · exact absurd c_16_2 (by decide)
      ·
        try simp only [mIn_0, lgc_lt, lgc_gt, lgc_le, lgc_ge, lgc_eq] at c_16_2
        try simp only [fl_lt, fl_le, fl_eq, fL_w, fL_lt, fL_le, tm1, tm10k, tm9, tm99, Int32.reduceToInt, Int64.reduceToInt, Int.not_lt, Int.not_le] at c_16_2
        refine gz_aload_n dX12_asIn_19 rfl rfl ?_
        refine mg_94 hS_3 dX12_asIn_20 ?_
        refine gz_iload_n dX12_asIn_23 rfl rfl ?_
        refine gz_aload_n dX12_asIn_24 rfl rfl ?_
        refine mg_161 hS_3 dX12_asIn_25 ?_
        refine gz_iload_n dX12_asIn_28 rfl rfl ?_
        refine m_iald 56 hS_3 rfl (N := 6) rfl (vin_T (v := 2) rfl (by decide) (by decide)) dX12_asIn_29 ?_
        refine gz_ev (w := .int ((F 56) (Int32.toNatClampNeg 2))) rfl ?_
        refine gz_i2l dX12_asIn_30 ?_
        refine m_last 28 hS_3 rfl (N := 6) rfl (vin_T (v := 2) rfl (by decide) (by decide)) dX12_asIn_31 (fun f_4 hS_4q => ?_)
        have hS_4 : mS cy m a f0 n (va_up z 29 (((n 0) + x1).toInt64)) F (va_up (va_up (va_up G 28 (vp_updL (G 28) (Int32.toNatClampNeg 0) (((F 56) (Int32.toNatClampNeg 0)).toInt64))) 28 (vp_updL (vp_updL (G 28) (Int32.toNatClampNeg 0) (((F 56) (Int32.toNatClampNeg 0)).toInt64)) (Int32.toNatClampNeg 1) (((F 56) (Int32.toNatClampNeg 1)).toInt64))) 28 (vp_updL (vp_updL (vp_updL (G 28) (Int32.toNatClampNeg 0) (((F 56) (Int32.toNatClampNeg 0)).toInt64)) (Int32.toNatClampNeg 1) (((F 56) (Int32.toNatClampNeg 1)).toInt64)) (Int32.toNatClampNeg 2) (((F 56) (Int32.toNatClampNeg 2)).toInt64))) f_4 := hS_4q
        refine gz_iinc (v := 3) (lv' := [(3, .int 3), (0, .ref m), (1, .int x1), (2, .int x2)]) dX12_asIn_32 rfl (by decide) (by decide) rfl ?_
        refine gz_goto (tgt := 13) dX12_asIn_35 (by decide) ?_
        refine gz_iload_n dX12_asIn_13 rfl rfl ?_
        refine gz_bipush (v := 6) dX12_asIn_14 (by decide) ?_
        refine gz_icmp_ge (tgt := 38) dX12_asIn_16 (by decide) (fun c_16_3 => ?_) (fun c_16_3 => ?_)
        · exact absurd c_16_3 (by decide)
        ·
          try simp only [mIn_0, lgc_lt, lgc_gt, lgc_le, lgc_ge, lgc_eq] at c_16_3
          try simp only [fl_lt, fl_le, fl_eq, fL_w, fL_lt, fL_le, tm1, tm10k, tm9, tm99, Int32.reduceToInt, Int64.reduceToInt, Int.not_lt, Int.not_le] at c_16_3
          refine gz_aload_n dX12_asIn_19 rfl rfl ?_
          refine mg_94 hS_4 dX12_asIn_20 ?_
          refine gz_iload_n dX12_asIn_23 rfl rfl ?_
          refine gz_aload_n dX12_asIn_24 rfl rfl ?_
          refine mg_161 hS_4 dX12_asIn_25 ?_
          refine gz_iload_n dX12_asIn_28 rfl rfl ?_
          refine m_iald 56 hS_4 rfl (N := 6) rfl (vin_T (v := 3) rfl (by decide) (by decide)) dX12_asIn_29 ?_
          refine gz_ev (w := .int ((F 56) (Int32.toNatClampNeg 3))) rfl ?_
          refine gz_i2l dX12_asIn_30 ?_
          refine m_last 28 hS_4 rfl (N := 6) rfl (vin_T (v := 3) rfl (by decide) (by decide)) dX12_asIn_31 (fun f_5 hS_5q => ?_)
          have hS_5 : mS cy m a f0 n (va_up z 29 (((n 0) + x1).toInt64)) F (va_up (va_up (va_up (va_up G 28 (vp_updL (G 28) (Int32.toNatClampNeg 0) (((F 56) (Int32.toNatClampNeg 0)).toInt64))) 28 (vp_updL (vp_updL (G 28) (Int32.toNatClampNeg 0) (((F 56) (Int32.toNatClampNeg 0)).toInt64)) (Int32.toNatClampNeg 1) (((F 56) (Int32.toNatClampNeg 1)).toInt64))) 28 (vp_updL (vp_updL (vp_updL (G 28) (Int32.toNatClampNeg 0) (((F 56) (Int32.toNatClampNeg 0)).toInt64)) (Int32.toNatClampNeg 1) (((F 56) (Int32.toNatClampNeg 1)).toInt64)) (Int32.toNatClampNeg 2) (((F 56) (Int32.toNatClampNeg 2)).toInt64))) 28 (vp_updL (vp_updL (vp_updL (vp_updL (G 28) (Int32.toNatClampNeg 0) (((F 56) (Int32.toNatClampNeg 0)).toInt64)) (Int32.toNatClampNeg 1) (((F 56) (Int32.toNatClampNeg 1)).toInt64)) (Int32.toNatClampNeg 2) (((F 56) (Int32.toNatClampNeg 2)).toInt64)) (Int32.toNatClampNeg 3) (((F 56) (Int32.toNatClampNeg 3)).toInt64))) f_5 := hS_5q
          refine gz_iinc (v := 4) (lv' := [(3, .int 4), (0, .ref m), (1, .int x1), (2, .int x2)]) dX12_asIn_32 rfl (by decide) (by decide) rfl ?_
          refine gz_goto (tgt := 13) dX12_asIn_35 (by decide) ?_
          refine gz_iload_n dX12_asIn_13 rfl rfl ?_
          refine gz_bipush (v := 6) dX12_asIn_14 (by decide) ?_
          refine gz_icmp_ge (tgt := 38) dX12_asIn_16 (by decide) (fun c_16_4 => ?_) (fun c_16_4 => ?_)
          · exact absurd c_16_4 (by decide)
          ·
            try simp only [mIn_0, lgc_lt, lgc_gt, lgc_le, lgc_ge, lgc_eq] at c_16_4
            try simp only [fl_lt, fl_le, fl_eq, fL_w, fL_lt, fL_le, tm1, tm10k, tm9, tm99, Int32.reduceToInt, Int64.reduceToInt, Int.not_lt, Int.not_le] at c_16_4
            refine gz_aload_n dX12_asIn_19 rfl rfl ?_
            refine mg_94 hS_5 dX12_asIn_20 ?_
            refine gz_iload_n dX12_asIn_23 rfl rfl ?_
            refine gz_aload_n dX12_asIn_24 rfl rfl ?_
            refine mg_161 hS_5 dX12_asIn_25 ?_
            refine gz_iload_n dX12_asIn_28 rfl rfl ?_
            refine m_iald 56 hS_5 rfl (N := 6) rfl (vin_T (v := 4) rfl (by decide) (by decide)) dX12_asIn_29 ?_
            refine gz_ev (w := .int ((F 56) (Int32.toNatClampNeg 4))) rfl ?_
            refine gz_i2l dX12_asIn_30 ?_
            refine m_last 28 hS_5 rfl (N := 6) rfl (vin_T (v := 4) rfl (by decide) (by decide)) dX12_asIn_31 (fun f_6 hS_6q => ?_)
            have hS_6 : mS cy m a f0 n (va_up z 29 (((n 0) + x1).toInt64)) F (va_up (va_up (va_up (va_up (va_up G 28 (vp_updL (G 28) (Int32.toNatClampNeg 0) (((F 56) (Int32.toNatClampNeg 0)).toInt64))) 28 (vp_updL (vp_updL (G 28) (Int32.toNatClampNeg 0) (((F 56) (Int32.toNatClampNeg 0)).toInt64)) (Int32.toNatClampNeg 1) (((F 56) (Int32.toNatClampNeg 1)).toInt64))) 28 (vp_updL (vp_updL (vp_updL (G 28) (Int32.toNatClampNeg 0) (((F 56) (Int32.toNatClampNeg 0)).toInt64)) (Int32.toNatClampNeg 1) (((F 56) (Int32.toNatClampNeg 1)).toInt64)) (Int32.toNatClampNeg 2) (((F 56) (Int32.toNatClampNeg 2)).toInt64))) 28 (vp_updL (vp_updL (vp_updL (vp_updL (G 28) (Int32.toNatClampNeg 0) (((F 56) (Int32.toNatClampNeg 0)).toInt64)) (Int32.toNatClampNeg 1) (((F 56) (Int32.toNatClampNeg 1)).toInt64)) (Int32.toNatClampNeg 2) (((F 56) (Int32.toNatClampNeg 2)).toInt64)) (Int32.toNatClampNeg 3) (((F 56) (Int32.toNatClampNeg 3)).toInt64))) 28 (vp_updL (vp_updL (vp_updL (vp_updL (vp_updL (G 28) (Int32.toNatClampNeg 0) (((F 56) (Int32.toNatClampNeg 0)).toInt64)) (Int32.toNatClampNeg 1) (((F 56) (Int32.toNatClampNeg 1)).toInt64)) (Int32.toNatClampNeg 2) (((F 56) (Int32.toNatClampNeg 2)).toInt64)) (Int32.toNatClampNeg 3) (((F 56) (Int32.toNatClampNeg 3)).toInt64)) (Int32.toNatClampNeg 4) (((F 56) (Int32.toNatClampNeg 4)).toInt64))) f_6 := hS_6q
            refine gz_iinc (v := 5) (lv' := [(3, .int 5), (0, .ref m), (1, .int x1), (2, .int x2)]) dX12_asIn_32 rfl (by decide) (by decide) rfl ?_
            refine gz_goto (tgt := 13) dX12_asIn_35 (by decide) ?_
            refine gz_iload_n dX12_asIn_13 rfl rfl ?_
            refine gz_bipush (v := 6) dX12_asIn_14 (by decide) ?_
            refine gz_icmp_ge (tgt := 38) dX12_asIn_16 (by decide) (fun c_16_5 => ?_) (fun c_16_5 => ?_)
            · exact absurd c_16_5 (by decide)
            ·
              try simp only [mIn_0, lgc_lt, lgc_gt, lgc_le, lgc_ge, lgc_eq] at c_16_5
              try simp only [fl_lt, fl_le, fl_eq, fL_w, fL_lt, fL_le, tm1, tm10k, tm9, tm99, Int32.reduceToInt, Int64.reduceToInt, Int.not_lt, Int.not_le] at c_16_5
              refine gz_aload_n dX12_asIn_19 rfl rfl ?_
              refine mg_94 hS_6 dX12_asIn_20 ?_
              refine gz_iload_n dX12_asIn_23 rfl rfl ?_
              refine gz_aload_n dX12_asIn_24 rfl rfl ?_
              refine mg_161 hS_6 dX12_asIn_25 ?_
              refine gz_iload_n dX12_asIn_28 rfl rfl ?_
              refine m_iald 56 hS_6 rfl (N := 6) rfl (vin_T (v := 5) rfl (by decide) (by decide)) dX12_asIn_29 ?_
              refine gz_ev (w := .int ((F 56) (Int32.toNatClampNeg 5))) rfl ?_
              refine gz_i2l dX12_asIn_30 ?_
              refine m_last 28 hS_6 rfl (N := 6) rfl (vin_T (v := 5) rfl (by decide) (by decide)) dX12_asIn_31 (fun f_7 hS_7q => ?_)
              have hS_7 : mS cy m a f0 n (va_up z 29 (((n 0) + x1).toInt64)) F (va_up (va_up (va_up (va_up (va_up (va_up G 28 (vp_updL (G 28) (Int32.toNatClampNeg 0) (((F 56) (Int32.toNatClampNeg 0)).toInt64))) 28 (vp_updL (vp_updL (G 28) (Int32.toNatClampNeg 0) (((F 56) (Int32.toNatClampNeg 0)).toInt64)) (Int32.toNatClampNeg 1) (((F 56) (Int32.toNatClampNeg 1)).toInt64))) 28 (vp_updL (vp_updL (vp_updL (G 28) (Int32.toNatClampNeg 0) (((F 56) (Int32.toNatClampNeg 0)).toInt64)) (Int32.toNatClampNeg 1) (((F 56) (Int32.toNatClampNeg 1)).toInt64)) (Int32.toNatClampNeg 2) (((F 56) (Int32.toNatClampNeg 2)).toInt64))) 28 (vp_updL (vp_updL (vp_updL (vp_updL (G 28) (Int32.toNatClampNeg 0) (((F 56) (Int32.toNatClampNeg 0)).toInt64)) (Int32.toNatClampNeg 1) (((F 56) (Int32.toNatClampNeg 1)).toInt64)) (Int32.toNatClampNeg 2) (((F 56) (Int32.toNatClampNeg 2)).toInt64)) (Int32.toNatClampNeg 3) (((F 56) (Int32.toNatClampNeg 3)).toInt64))) 28 (vp_updL (vp_updL (vp_updL (vp_updL (vp_updL (G 28) (Int32.toNatClampNeg 0) (((F 56) (Int32.toNatClampNeg 0)).toInt64)) (Int32.toNatClampNeg 1) (((F 56) (Int32.toNatClampNeg 1)).toInt64)) (Int32.toNatClampNeg 2) (((F 56) (Int32.toNatClampNeg 2)).toInt64)) (Int32.toNatClampNeg 3) (((F 56) (Int32.toNatClampNeg 3)).toInt64)) (Int32.toNatClampNeg 4) (((F 56) (Int32.toNatClampNeg 4)).toInt64))) 28 (vp_updL (vp_updL (vp_updL (vp_updL (vp_updL (vp_updL (G 28) (Int32.toNatClampNeg 0) (((F 56) (Int32.toNatClampNeg 0)).toInt64)) (Int32.toNatClampNeg 1) (((F 56) (Int32.toNatClampNeg 1)).toInt64)) (Int32.toNatClampNeg 2) (((F 56) (Int32.toNatClampNeg 2)).toInt64)) (Int32.toNatClampNeg 3) (((F 56) (Int32.toNatClampNeg 3)).toInt64)) (Int32.toNatClampNeg 4) (((F 56) (Int32.toNatClampNeg 4)).toInt64)) (Int32.toNatClampNeg 5) (((F 56) (Int32.toNatClampNeg 5)).toInt64))) f_7 := hS_7q
              refine gz_iinc (v := 6) (lv' := [(3, .int 6), (0, .ref m), (1, .int x1), (2, .int x2)]) dX12_asIn_32 rfl (by decide) (by decide) rfl ?_
              refine gz_goto (tgt := 13) dX12_asIn_35 (by decide) ?_
              refine gz_iload_n dX12_asIn_13 rfl rfl ?_
              refine gz_bipush (v := 6) dX12_asIn_14 (by decide) ?_
              refine gz_icmp_ge (tgt := 38) dX12_asIn_16 (by decide) (fun c_16_6 => ?_) (fun c_16_6 => ?_)
              ·
                try simp only [mIn_0, lgc_lt, lgc_gt, lgc_le, lgc_ge, lgc_eq] at c_16_6
                try simp only [fl_lt, fl_le, fl_eq, fL_w, fL_lt, fL_le, tm1, tm10k, tm9, tm99, Int32.reduceToInt, Int64.reduceToInt, Int.not_lt, Int.not_le] at c_16_6
                refine gz_iload_n dX12_asIn_38 rfl rfl ?_
                refine gz_istore_n (lv' := [(3, .int x2), (0, .ref m), (1, .int x1), (2, .int x2)]) dX12_asIn_39 rfl (by decide) rfl ?_
                refine gz_iconst (v := 0) dX12_asIn_40 (by decide) ?_
                refine gz_istore (lv' := [(4, .int 0), (3, .int x2), (0, .ref m), (1, .int x1), (2, .int x2)]) dX12_asIn_41 (by decide) rfl ?_
                refine gz_sub (lv' := [(4, .int 0), (3, .int x2), (0, .ref m), (1, .int x1), (2, .int x2)]) (by simp [List.lookup]) ?_
                exact l_X12_asInE hdN 5 0 x2 wo S0.2 _ _ _ _ _ hS_7 (fx_G (fx_G (fx_G (fx_G (fx_G (fx_G (fx_z fx_rf (by decide)) (by decide)) (by decide)) (by decide)) (by decide)) (by decide)) (by decide)) (hER) (by show (((n 0) + x1).toInt64) = Int64.ofInt (S0.1 + (dN : Int)); exact L_of (by rw [T_add (rfl : (n 0).toInt = _) hdN.1 (by omega), hS0.1])) (hwo) (by intro j hj; have hc : j = 0 ∨ j = 1 ∨ j = 2 ∨ j = 3 ∨ j = 4 ∨ j = 5 := (by omega); show (vp_updL (vp_updL (vp_updL (vp_updL (vp_updL (vp_updL (G 28) (Int32.toNatClampNeg 0) (((F 56) (Int32.toNatClampNeg 0)).toInt64)) (Int32.toNatClampNeg 1) (((F 56) (Int32.toNatClampNeg 1)).toInt64)) (Int32.toNatClampNeg 2) (((F 56) (Int32.toNatClampNeg 2)).toInt64)) (Int32.toNatClampNeg 3) (((F 56) (Int32.toNatClampNeg 3)).toInt64)) (Int32.toNatClampNeg 4) (((F 56) (Int32.toNatClampNeg 4)).toInt64)) (Int32.toNatClampNeg 5) (((F 56) (Int32.toNatClampNeg 5)).toInt64)) j = Int64.ofInt (S0.2 j); rw [← hS0.2 j hj]; rcases hc with rfl | rfl | rfl | rfl | rfl | rfl; (rw [updLE, if_neg (by decide), updLE, if_neg (by decide), updLE, if_neg (by decide), updLE, if_neg (by decide), updLE, if_neg (by decide), updLE, if_pos (by decide)]; exact L_of rfl); (rw [updLE, if_neg (by decide), updLE, if_neg (by decide), updLE, if_neg (by decide), updLE, if_neg (by decide), updLE, if_pos (by decide)]; exact L_of rfl); (rw [updLE, if_neg (by decide), updLE, if_neg (by decide), updLE, if_neg (by decide), updLE, if_pos (by decide)]; exact L_of rfl); (rw [updLE, if_neg (by decide), updLE, if_neg (by decide), updLE, if_pos (by decide)]; exact L_of rfl); (rw [updLE, if_neg (by decide), updLE, if_pos (by decide)]; exact L_of rfl); (rw [updLE, if_pos (by decide)]; exact L_of rfl)) (fun j _ => rfl) (⟨by decide, by have e0 : (0 : Int32).toInt = 0 := rfl; omega, by decide⟩)
              · exact absurd c_16_6 (by decide)
