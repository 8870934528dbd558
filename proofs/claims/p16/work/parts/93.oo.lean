/-- two SUMS with a sign between -/
def tsR (T : Nat → Int) (p V : Nat) : Sum Nat (Nat × Nat) := match suR T 41 p V with
  | .inl c => .inl c
  | .inr (q, V2) => match reR T q with
    | .inl c => .inl c
    | .inr q2 => suR T 41 q2 V2
set_option maxHeartbeats 4000000 in
set_option maxRecDepth 100000 in
theorem l_X12_testEB {l : Launch} {D : va_G} {cy : Nat → ClassId} {b : Nat} {m : Nat} {a : Nat → Nat} {f0 : gMem} {n0 : Nat → Int32} {z0 : Nat → Int64} {F0 : Nat → Nat → Int32} {G0 : Nat → Nat → Int64}  {x1 : Int32} {P1 V1 : Nat} (h5 : 0 ≤ (n0 5).toInt ∧ (n0 5).toInt < 20) (h0 : 0 ≤ (F0 17 (Int32.toNatClampNeg (n0 5))).toInt ∧ (F0 17 (Int32.toNatClampNeg (n0 5))).toInt ≤ 40) (hx1 : 0 ≤ x1.toInt ∧ x1.toInt < 880) (hB0 : rB F0) (hE0 : tsR (tX (F0 3) (n0 4)) (n0 21).toInt.toNat (F0 17 (Int32.toNatClampNeg (n0 5))).toInt.toNat = suR (tX (F0 3) (n0 4)) 41 P1 V1) : ∀ (k : Nat)  (n : Nat → Int32) (z : Nat → Int64) (F : Nat → Nat → Int32) (G : Nat → Nat → Int64) (fm : gMem), mS cy m a f0 n z F G fm → fx [21, 22, 23] [] [13, 14, 15, 16, 17, 18, 19, 20] [] n0 z0 F0 G0 n z F G → ((0 ≤ (n 21).toInt ∧ (n 21).toInt ≤ (n 4).toInt ∧ (n 4).toInt ≤ 400)) → ((n0 21).toInt ≤ (n 21).toInt) → (rAll F) → ((F0 17 (Int32.toNatClampNeg (n0 5))).toInt ≤ (F 17 (Int32.toNatClampNeg (n0 5))).toInt ∧ (F 17 (Int32.toNatClampNeg (n0 5))).toInt ≤ 40) → ((F 13 (Int32.toNatClampNeg x1)).toInt = (F0 17 (Int32.toNatClampNeg (n0 5))).toInt) → ((F 13 (Int32.toNatClampNeg x1)).toInt ≤ (F 14 (Int32.toNatClampNeg x1)).toInt ∧ (F 14 (Int32.toNatClampNeg x1)).toInt ≤ (F 17 (Int32.toNatClampNeg (n0 5))).toInt) → (∀ q, q ∈ [13, 14, 15] → ∀ i, i ≠ (Int32.toNatClampNeg x1) → F q i = F0 q i) → ((n 22).toInt = 0) → ((F 17 (Int32.toNatClampNeg (n0 5))).toInt = (V1 : Int)) → ((n 21).toInt = (P1 : Int)) → (0 < (k : Int)) → gG l (gRm 4 0 0) (gQf D b (pI fun r f2 => ∃ (n2 : Nat → Int32) (z2 : Nat → Int64) (F2 : Nat → Nat → Int32) (G2 : Nat → Nat → Int64), mS cy m a f0 n2 z2 F2 G2 f2 ∧ fx [21, 22, 23] [] [13, 14, 15, 16, 17, 18, 19, 20] [] n0 z0 F0 G0 n2 z2 F2 G2 ∧ (r = 0 ∨ r = 1) ∧ (0 ≤ (n2 21).toInt ∧ (n2 21).toInt ≤ (n2 4).toInt ∧ (n2 4).toInt ≤ 400) ∧ (n0 21).toInt ≤ (n2 21).toInt ∧ rAll F2 ∧ ((F0 17 (Int32.toNatClampNeg (n0 5))).toInt ≤ (F2 17 (Int32.toNatClampNeg (n0 5))).toInt ∧ (F2 17 (Int32.toNatClampNeg (n0 5))).toInt ≤ 40) ∧ (∀ q, q ∈ [13, 14, 15] → ∀ i, i ≠ Int32.toNatClampNeg x1 → F2 q i = F0 q i) ∧ (r = 1 → (F2 13 (Int32.toNatClampNeg x1)).toInt = (F0 17 (Int32.toNatClampNeg (n0 5))).toInt ∧ (F2 13 (Int32.toNatClampNeg x1)).toInt ≤ (F2 14 (Int32.toNatClampNeg x1)).toInt ∧ (F2 14 (Int32.toNatClampNeg x1)).toInt ≤ (F2 15 (Int32.toNatClampNeg x1)).toInt ∧ (F2 15 (Int32.toNatClampNeg x1)).toInt = (F2 17 (Int32.toNatClampNeg (n0 5))).toInt) ∧ exM2 (tsR (tX (F0 3) (n0 4)) (n0 21).toInt.toNat (F0 17 (Int32.toNatClampNeg (n0 5))).toInt.toNat) r n2 (F2 17 (Int32.toNatClampNeg (n0 5)))) 0 0) gTt D cy b cX12_test 4 (some .boolean) RX12 "test" 0 0 fm 176 [(0, .ref m), (1, .int x1)] [] := by
  intro k
  induction k with
  | zero =>
    intro n z F G fm hS hx hT hm hA hv h13 h14 hoff h22 h17 h21 hk
    exfalso; omega
  | succ k ih =>
    intro n z F G fm hS hx hT hm hA hv h13 h14 hoff h22 h17 h21 hk
    have qn5 := clI (i := n0 5) (by omega)
    have e4 : n 4 = n0 4 := hx.1 4 (by decide)
    rw [e4] at hT
    have e3 : F 3 = F0 3 := hx.2.2.1 3 (by decide)
    have hB : rB F := rB_cg e3 hB0
    have hln := tX_ln (g := F0 3) (L := n0 4) (by omega)
    refine gz_aload_n dX12_test_176 rfl rfl ?_
    refine scX12_316 (k_X12_sumE hS (by (try rw [(show n 4 = (n0 4) from (hx.1 4 (by decide)))]); omega) (by rw [(show n 5 = (n0 5) from (hx.1 5 (by decide)))]; omega) hA (by rw [(show n 5 = (n0 5) from (hx.1 5 (by decide))), show F 17 = (F 17) from rfl]; omega) (rB_cg (hx.2.2.1 3 (by decide)) hB0) (by omega)) hS.1 ⟨(Nat.le_of_ble_eq_true rfl), (Nat.le_of_ble_eq_true rfl)⟩ ⟨(Nat.le_of_ble_eq_true rfl), (Nat.le_of_ble_eq_true rfl)⟩ rfl rfl (Nat.le_of_ble_eq_true rfl) dX12_test_177 ?_
    rintro r_1 f_1 ⟨n_1, z_1, F_1, G_1, hS_1, hx1, hb_1, hT_1, hm_1, hA_1, hva_1, hvb_1, hE_1⟩
    try simp only [(show n_1 4 = (n0 4) from ((hx1.1 4 (by decide)).trans (hx.1 4 (by decide))))] at hb_1 hT_1 hm_1 hA_1 hva_1 hvb_1 hE_1
    try simp only [(show n_1 5 = (n0 5) from ((hx1.1 5 (by decide)).trans (hx.1 5 (by decide))))] at hb_1 hT_1 hm_1 hA_1 hva_1 hvb_1 hE_1
    try simp only [(show F_1 3 = (F0 3) from ((hx1.2.2.1 3 (by decide)).trans (hx.2.2.1 3 (by decide))))] at hb_1 hT_1 hm_1 hA_1 hva_1 hvb_1 hE_1
    try simp only [(show n 4 = (n0 4) from (hx.1 4 (by decide)))] at hb_1 hT_1 hm_1 hA_1 hva_1 hvb_1 hE_1
    try simp only [(show n 5 = (n0 5) from (hx.1 5 (by decide)))] at hb_1 hT_1 hm_1 hA_1 hva_1 hvb_1 hE_1
    try simp only [(show F 3 = (F0 3) from (hx.2.2.1 3 (by decide)))] at hb_1 hT_1 hm_1 hA_1 hva_1 hvb_1 hE_1
    try rw [(show n 5 = (n0 5) from (hx.1 5 (by decide)))] at hva_1 hvb_1
    try rw [show F 17 = (F 17) from rfl] at hva_1
    try simp only [(show n 5 = (n0 5) from (hx.1 5 (by decide))), show F 17 = (F 17) from rfl, (show n 21 = (n 21) from rfl), (show F 3 = (F0 3) from (hx.2.2.1 3 (by decide))), (show n 4 = (n0 4) from (hx.1 4 (by decide)))] at hE_1
    rw [show (n 21).toInt.toNat = P1 by omega, show (F 17 (Int32.toNatClampNeg (n0 5))).toInt.toNat = V1 by omega] at hE_1
    cases hs2 : suR (tX (F0 3) (n0 4)) 41 P1 V1 with
    | inl chs2 =>
      rw [hs2] at hE_1
      obtain ⟨a1hs2, a2hs2⟩ := hE_1
      refine gz_ev (w := .int 0) (congrArg Value.int a1hs2) ?_
      refine gz_if_ne (tgt := 185) dX12_test_180 (by decide) (fun c_180 => ?_) (fun c_180 => ?_)
      · exact absurd c_180 (by decide)
      ·
        try simp only [mIn_0, lgc_lt, lgc_gt, lgc_le, lgc_ge, lgc_eq] at c_180
        try simp only [fl_lt, fl_le, fl_eq, fL_w, fL_lt, fL_le, tm1, tm10k, tm9, tm99, Int32.reduceToInt, Int64.reduceToInt, Int.not_lt, Int.not_le] at c_180
        refine gz_iconst (v := 0) dX12_test_183 (by decide) ?_
        have hof : ∀ q, q ∈ [13, 14, 15] → ∀ i, i ≠ (Int32.toNatClampNeg x1) → F_1 q i = F0 q i := by
          intro q hq i hi
          simp only [List.mem_cons, List.not_mem_nil, or_false] at hq
          rcases hq with rfl | rfl | rfl
          · rw [show F_1 13 = (F 13) from (hx1.2.2.1 13 (by decide))]; exact hoff 13 (by decide) i hi
          · rw [show F_1 14 = (F 14) from (hx1.2.2.1 14 (by decide))]; exact hoff 14 (by decide) i hi
          · rw [show F_1 15 = (F 15) from (hx1.2.2.1 15 (by decide))]; exact hoff 15 (by decide) i hi
        have e17 : (F_1 17 (Int32.toNatClampNeg (n0 5))).toInt = ((F_1 17) (Int32.toNatClampNeg (n0 5))).toInt := by rw [show F_1 17 = (F_1 17) from rfl]
        exact gz_zret rfl (by first | decide | exact nrb (Or.inl (by assumption)) | exact nrb (by assumption) | (refine nrb ?_; assumption)) dX12_test_184 (Nat.le_of_ble_eq_true rfl) (Nat.le_of_ble_eq_true rfl) (⟨_, rfl, _, _, _, _, hS_1, (fx_tr hx hx1 (by decide)), (by first | exact Or.inl rfl | exact Or.inr rfl | assumption | (left; assumption)), (by (try rw [(show n_1 21 = (n_1 21) from rfl)]); (try rw [(show n_1 4 = (n0 4) from ((hx1.1 4 (by decide)).trans (hx.1 4 (by decide))))]); omega), (by (try rw [(show n_1 21 = (n_1 21) from rfl)]); omega), hA_1, (by omega), hof, (fun h => absurd h (by decide)), (by rw [hE0, hs2]; exact ⟨rfl, a2hs2⟩)⟩)
    | inr rhs2 =>
      rw [hs2] at hE_1
      obtain ⟨Q3, V3⟩ := rhs2
      obtain ⟨a1hs2, a2hs2, a3hs2, a4hs2⟩ := hE_1
      refine gz_ev (w := .int 1) (congrArg Value.int a1hs2) ?_
      refine gz_if_ne (tgt := 185) dX12_test_180 (by decide) (fun c_180 => ?_) (fun c_180 => ?_)
      ·
        try simp only [mIn_0, lgc_lt, lgc_gt, lgc_le, lgc_ge, lgc_eq] at c_180
        try simp only [fl_lt, fl_le, fl_eq, fL_w, fL_lt, fL_le, tm1, tm10k, tm9, tm99, Int32.reduceToInt, Int64.reduceToInt, Int.not_lt, Int.not_le] at c_180
        refine gz_aload_n dX12_test_185 rfl rfl ?_
        refine mg_44 hS_1 dX12_test_186 ?_
        refine gz_iload_n dX12_test_189 rfl rfl ?_
        refine gz_aload_n dX12_test_190 rfl rfl ?_
        refine mg_50 hS_1 dX12_test_191 ?_
        refine gz_aload_n dX12_test_194 rfl rfl ?_
        refine mg_307 hS_1 dX12_test_195 ?_
        refine gz_ev (w := .int (n0 5)) (congrArg Value.int ((hx1.1 5 (by decide)).trans (hx.1 5 (by decide)))) ?_
        refine m_iald 17 hS_1 rfl (N := 22) rfl ((by exact vin_T (rfl : (n0 5).toInt = (n0 5).toInt) (by omega) (by omega))) dX12_test_198 ?_
        refine gz_ev (w := .int ((F_1 17) (Int32.toNatClampNeg (n0 5)))) rfl ?_
        refine m_iast 15 hS_1 rfl (N := 880) rfl ((by exact vin_T (rfl : x1.toInt = x1.toInt) (by omega) (by omega))) dX12_test_199 (fun f_2 hS_2q => ?_)
        have hS_2 : mS cy m a f0 n_1 z_1 (va_up F_1 15 (upd (F 15) (Int32.toNatClampNeg x1) ((F_1 17) (Int32.toNatClampNeg (n0 5))))) G_1 f_2 := (by have e9 := (show F_1 15 = (F 15) from (hx1.2.2.1 15 (by decide))); rw [e9] at hS_2q; exact hS_2q)
        refine gz_iconst (v := 1) dX12_test_200 (by decide) ?_
        have hA9 : rAll (va_up F_1 15 (upd (F 15) (Int32.toNatClampNeg x1) ((F_1 17) (Int32.toNatClampNeg (n0 5))))) := by
          intro q hq
          obtain ⟨qa0, qb0, qc0, qd0⟩ := hA q hq
          obtain ⟨qa1, qb1, qc1, qd1⟩ := hA_1 q hq
          rw [show (va_up F_1 15 (upd (F 15) (Int32.toNatClampNeg x1) ((F_1 17) (Int32.toNatClampNeg (n0 5))))) 13 = (F 13) from (hx1.2.2.1 13 (by decide)), show (va_up F_1 15 (upd (F 15) (Int32.toNatClampNeg x1) ((F_1 17) (Int32.toNatClampNeg (n0 5))))) 14 = (F 14) from (hx1.2.2.1 14 (by decide)), show (va_up F_1 15 (upd (F 15) (Int32.toNatClampNeg x1) ((F_1 17) (Int32.toNatClampNeg (n0 5))))) 15 = (upd (F 15) (Int32.toNatClampNeg x1) ((F_1 17) (Int32.toNatClampNeg (n0 5)))) from rfl, show (va_up F_1 15 (upd (F 15) (Int32.toNatClampNeg x1) ((F_1 17) (Int32.toNatClampNeg (n0 5))))) 19 = (F_1 19) from rfl]
          refine ⟨?_, ?_, ?_, ?_⟩ <;> (try simp only [updE]) <;> (repeat' split) <;> first | omega | decide
        have w13 : ((va_up F_1 15 (upd (F 15) (Int32.toNatClampNeg x1) ((F_1 17) (Int32.toNatClampNeg (n0 5))))) 13 (Int32.toNatClampNeg x1)).toInt = (F 13 (Int32.toNatClampNeg x1)).toInt := by rw [show (va_up F_1 15 (upd (F 15) (Int32.toNatClampNeg x1) ((F_1 17) (Int32.toNatClampNeg (n0 5))))) 13 = (F 13) from (hx1.2.2.1 13 (by decide))]
        have w14 : ((va_up F_1 15 (upd (F 15) (Int32.toNatClampNeg x1) ((F_1 17) (Int32.toNatClampNeg (n0 5))))) 14 (Int32.toNatClampNeg x1)).toInt = (F 14 (Int32.toNatClampNeg x1)).toInt := by rw [show (va_up F_1 15 (upd (F 15) (Int32.toNatClampNeg x1) ((F_1 17) (Int32.toNatClampNeg (n0 5))))) 14 = (F 14) from (hx1.2.2.1 14 (by decide))]
        have w15 : ((va_up F_1 15 (upd (F 15) (Int32.toNatClampNeg x1) ((F_1 17) (Int32.toNatClampNeg (n0 5))))) 15 (Int32.toNatClampNeg x1)).toInt = (F_1 17 (Int32.toNatClampNeg (n0 5))).toInt := by rw [show (va_up F_1 15 (upd (F 15) (Int32.toNatClampNeg x1) ((F_1 17) (Int32.toNatClampNeg (n0 5))))) 15 = (upd (F 15) (Int32.toNatClampNeg x1) ((F_1 17) (Int32.toNatClampNeg (n0 5)))) from rfl, updE, if_pos rfl]
        have w17 : ((va_up F_1 15 (upd (F 15) (Int32.toNatClampNeg x1) ((F_1 17) (Int32.toNatClampNeg (n0 5))))) 17 (Int32.toNatClampNeg (n0 5))).toInt = (F_1 17 (Int32.toNatClampNeg (n0 5))).toInt := by rw [show (va_up F_1 15 (upd (F 15) (Int32.toNatClampNeg x1) ((F_1 17) (Int32.toNatClampNeg (n0 5))))) 17 = (F_1 17) from rfl]
        have hof : ∀ q, q ∈ [13, 14, 15] → ∀ i, i ≠ (Int32.toNatClampNeg x1) → (va_up F_1 15 (upd (F 15) (Int32.toNatClampNeg x1) ((F_1 17) (Int32.toNatClampNeg (n0 5))))) q i = F0 q i := by
          intro q hq i hi
          simp only [List.mem_cons, List.not_mem_nil, or_false] at hq
          rcases hq with rfl | rfl | rfl
          · rw [show (va_up F_1 15 (upd (F 15) (Int32.toNatClampNeg x1) ((F_1 17) (Int32.toNatClampNeg (n0 5))))) 13 = (F 13) from (hx1.2.2.1 13 (by decide))]; exact hoff 13 (by decide) i hi
          · rw [show (va_up F_1 15 (upd (F 15) (Int32.toNatClampNeg x1) ((F_1 17) (Int32.toNatClampNeg (n0 5))))) 14 = (F 14) from (hx1.2.2.1 14 (by decide))]; exact hoff 14 (by decide) i hi
          · rw [show (va_up F_1 15 (upd (F 15) (Int32.toNatClampNeg x1) ((F_1 17) (Int32.toNatClampNeg (n0 5))))) 15 = (upd (F 15) (Int32.toNatClampNeg x1) ((F_1 17) (Int32.toNatClampNeg (n0 5)))) from rfl, updE, if_neg hi]; exact hoff 15 (by decide) i hi
        have e17 : ((va_up F_1 15 (upd (F 15) (Int32.toNatClampNeg x1) ((F_1 17) (Int32.toNatClampNeg (n0 5))))) 17 (Int32.toNatClampNeg (n0 5))).toInt = ((F_1 17) (Int32.toNatClampNeg (n0 5))).toInt := by rw [show (va_up F_1 15 (upd (F 15) (Int32.toNatClampNeg x1) ((F_1 17) (Int32.toNatClampNeg (n0 5))))) 17 = (F_1 17) from rfl]
        exact gz_zret rfl (by first | decide | exact nrb (Or.inl (by assumption)) | exact nrb (by assumption) | (refine nrb ?_; assumption)) dX12_test_201 (Nat.le_of_ble_eq_true rfl) (Nat.le_of_ble_eq_true rfl) (⟨_, rfl, _, _, _, _, hS_2, (fx_F (fx_tr hx hx1 (by decide)) (by decide)), (by first | exact Or.inl rfl | exact Or.inr rfl | assumption | (left; assumption)), (by (try rw [(show n_1 21 = (n_1 21) from rfl)]); (try rw [(show n_1 4 = (n0 4) from ((hx1.1 4 (by decide)).trans (hx.1 4 (by decide))))]); omega), (by (try rw [(show n_1 21 = (n_1 21) from rfl)]); omega), hA9, (by omega), hof, (fun _ => ⟨by omega, by omega, by omega, by omega⟩), (by rw [hE0, hs2]; exact ⟨rfl, (by (try rw [(show n_1 22 = (n_1 22) from rfl)]); omega), (by (try rw [(show n_1 21 = (n_1 21) from rfl)]); omega), (by omega)⟩)⟩)
      · exact absurd c_180 (by decide)

set_option maxHeartbeats 4000000 in
set_option maxRecDepth 100000 in
theorem l_X12_testEC {l : Launch} {D : va_G} {cy : Nat → ClassId} {b : Nat} {m : Nat} {a : Nat → Nat} {f0 : gMem} {n0 : Nat → Int32} {z0 : Nat → Int64} {F0 : Nat → Nat → Int32} {G0 : Nat → Nat → Int64}  {x1 : Int32} {y e : Int32} {P1 V1 : Nat} (h5 : 0 ≤ (n0 5).toInt ∧ (n0 5).toInt < 20) (h0 : 0 ≤ (F0 17 (Int32.toNatClampNeg (n0 5))).toInt ∧ (F0 17 (Int32.toNatClampNeg (n0 5))).toInt ≤ 40) (hx1 : 0 ≤ x1.toInt ∧ x1.toInt < 880) (hB0 : rB F0) (hE0 : tsR (tX (F0 3) (n0 4)) (n0 21).toInt.toNat (F0 17 (Int32.toNatClampNeg (n0 5))).toInt.toNat = suR (tX (F0 3) (n0 4)) 41 P1 V1) : ∀ (k : Nat)  (n : Nat → Int32) (z : Nat → Int64) (F : Nat → Nat → Int32) (G : Nat → Nat → Int64) (fm : gMem), mS cy m a f0 n z F G fm → fx [21, 22, 23] [] [13, 14, 15, 16, 17, 18, 19, 20] [] n0 z0 F0 G0 n z F G → ((0 ≤ (n 21).toInt ∧ (n 21).toInt ≤ (n 4).toInt ∧ (n 4).toInt ≤ 400)) → ((n0 21).toInt ≤ (n 21).toInt) → (rAll F) → ((F0 17 (Int32.toNatClampNeg (n0 5))).toInt ≤ (F 17 (Int32.toNatClampNeg (n0 5))).toInt ∧ (F 17 (Int32.toNatClampNeg (n0 5))).toInt ≤ 40) → ((F 13 (Int32.toNatClampNeg x1)).toInt = (F0 17 (Int32.toNatClampNeg (n0 5))).toInt) → ((F 13 (Int32.toNatClampNeg x1)).toInt ≤ (F 14 (Int32.toNatClampNeg x1)).toInt ∧ (F 14 (Int32.toNatClampNeg x1)).toInt ≤ (F 17 (Int32.toNatClampNeg (n0 5))).toInt) → (∀ q, q ∈ [13, 14, 15] → ∀ i, i ≠ (Int32.toNatClampNeg x1) → F q i = F0 q i) → ((n 22).toInt = 0) → ((F 17 (Int32.toNatClampNeg (n0 5))).toInt = (V1 : Int)) → (e.toInt ≠ 0 → (n 21).toInt < (n 4).toInt) → ((e.toInt = 0 ∧ (n 21).toInt = (P1 : Int)) ∨ (e.toInt ≠ 0 ∧ (n 21).toInt + 1 = (P1 : Int))) → (0 < (k : Int)) → gG l (gRm 4 0 0) (gQf D b (pI fun r f2 => ∃ (n2 : Nat → Int32) (z2 : Nat → Int64) (F2 : Nat → Nat → Int32) (G2 : Nat → Nat → Int64), mS cy m a f0 n2 z2 F2 G2 f2 ∧ fx [21, 22, 23] [] [13, 14, 15, 16, 17, 18, 19, 20] [] n0 z0 F0 G0 n2 z2 F2 G2 ∧ (r = 0 ∨ r = 1) ∧ (0 ≤ (n2 21).toInt ∧ (n2 21).toInt ≤ (n2 4).toInt ∧ (n2 4).toInt ≤ 400) ∧ (n0 21).toInt ≤ (n2 21).toInt ∧ rAll F2 ∧ ((F0 17 (Int32.toNatClampNeg (n0 5))).toInt ≤ (F2 17 (Int32.toNatClampNeg (n0 5))).toInt ∧ (F2 17 (Int32.toNatClampNeg (n0 5))).toInt ≤ 40) ∧ (∀ q, q ∈ [13, 14, 15] → ∀ i, i ≠ Int32.toNatClampNeg x1 → F2 q i = F0 q i) ∧ (r = 1 → (F2 13 (Int32.toNatClampNeg x1)).toInt = (F0 17 (Int32.toNatClampNeg (n0 5))).toInt ∧ (F2 13 (Int32.toNatClampNeg x1)).toInt ≤ (F2 14 (Int32.toNatClampNeg x1)).toInt ∧ (F2 14 (Int32.toNatClampNeg x1)).toInt ≤ (F2 15 (Int32.toNatClampNeg x1)).toInt ∧ (F2 15 (Int32.toNatClampNeg x1)).toInt = (F2 17 (Int32.toNatClampNeg (n0 5))).toInt) ∧ exM2 (tsR (tX (F0 3) (n0 4)) (n0 21).toInt.toNat (F0 17 (Int32.toNatClampNeg (n0 5))).toInt.toNat) r n2 (F2 17 (Int32.toNatClampNeg (n0 5)))) 0 0) gTt D cy b cX12_test 4 (some .boolean) RX12 "test" 0 0 fm 119 [(0, .ref m), (1, .int x1), (2, .int y), (3, .int e)] [] := by
  intro k
  induction k with
  | zero =>
    intro n z F G fm hS hx hT hm hA hv h13 h14 hoff h22 h17 he h21 hk
    exfalso; omega
  | succ k ih =>
    intro n z F G fm hS hx hT hm hA hv h13 h14 hoff h22 h17 he h21 hk
    have qn5 := clI (i := n0 5) (by omega)
    have e4 : n 4 = n0 4 := hx.1 4 (by decide)
    rw [e4] at hT
    have e3 : F 3 = F0 3 := hx.2.2.1 3 (by decide)
    have hB : rB F := rB_cg e3 hB0
    have hln := tX_ln (g := F0 3) (L := n0 4) (by omega)
    rw [e4] at he
    refine gz_iload_n dX12_test_119 rfl rfl ?_
    refine gz_if_eq (tgt := 133) dX12_test_120 (by decide) (fun c_120 => ?_) (fun c_120 => ?_)
    ·
      try simp only [mIn_0, lgc_lt, lgc_gt, lgc_le, lgc_ge, lgc_eq] at c_120
      try simp only [fl_lt, fl_le, fl_eq, fL_w, fL_lt, fL_le, tm1, tm10k, tm9, tm99, Int32.reduceToInt, Int64.reduceToInt, Int.not_lt, Int.not_le] at c_120
      refine gz_aload_n dX12_test_133 rfl rfl ?_
      refine mg_47 hS dX12_test_134 ?_
      refine gz_iload_n dX12_test_137 rfl rfl ?_
      refine gz_iload_n dX12_test_138 rfl rfl ?_
      refine gz_bipush (v := 61) dX12_test_139 (by decide) ?_
      refine gz_icmp_ne (tgt := 148) dX12_test_141 (by decide) (fun c_141 => ?_) (fun c_141 => ?_)
      ·
        try simp only [mIn_0, lgc_lt, lgc_gt, lgc_le, lgc_ge, lgc_eq] at c_141
        try simp only [fl_lt, fl_le, fl_eq, fL_w, fL_lt, fL_le, tm1, tm10k, tm9, tm99, Int32.reduceToInt, Int64.reduceToInt, Int.not_lt, Int.not_le] at c_141
        refine gz_iload_n dX12_test_148 rfl rfl ?_
        refine gz_bipush (v := 60) dX12_test_149 (by decide) ?_
        refine gz_icmp_ne (tgt := 166) dX12_test_151 (by decide) (fun c_151 => ?_) (fun c_151 => ?_)
        ·
          try simp only [mIn_0, lgc_lt, lgc_gt, lgc_le, lgc_ge, lgc_eq] at c_151
          try simp only [fl_lt, fl_le, fl_eq, fL_w, fL_lt, fL_le, tm1, tm10k, tm9, tm99, Int32.reduceToInt, Int64.reduceToInt, Int.not_lt, Int.not_le] at c_151
          refine gz_iload_n dX12_test_166 rfl rfl ?_
          refine gz_if_eq (tgt := 174) dX12_test_167 (by decide) (fun c_167 => ?_) (fun c_167 => ?_)
          ·
            try simp only [mIn_0, lgc_lt, lgc_gt, lgc_le, lgc_ge, lgc_eq] at c_167
            try simp only [fl_lt, fl_le, fl_eq, fL_w, fL_lt, fL_le, tm1, tm10k, tm9, tm99, Int32.reduceToInt, Int64.reduceToInt, Int.not_lt, Int.not_le] at c_167
            refine gz_iconst (v := 4) dX12_test_174 (by decide) ?_
            refine m_iast 16 hS rfl (N := 880) rfl ((by exact vin_T (rfl : x1.toInt = x1.toInt) (by omega) (by omega))) dX12_test_175 (fun f_1 hS_1q => ?_)
            have hS_1 : mS cy m a f0 n z (va_up F 16 (upd (F 16) (Int32.toNatClampNeg x1) 4)) G f_1 := hS_1q
            have hof : ∀ q, q ∈ [13, 14, 15] → ∀ i, i ≠ (Int32.toNatClampNeg x1) → (va_up F 16 (upd (F 16) (Int32.toNatClampNeg x1) 4)) q i = F0 q i := by
              intro q hq i hi
              simp only [List.mem_cons, List.not_mem_nil, or_false] at hq
              rcases hq with rfl | rfl | rfl
              · rw [show (va_up F 16 (upd (F 16) (Int32.toNatClampNeg x1) 4)) 13 = (F 13) from rfl]; exact hoff 13 (by decide) i hi
              · rw [show (va_up F 16 (upd (F 16) (Int32.toNatClampNeg x1) 4)) 14 = (F 14) from rfl]; exact hoff 14 (by decide) i hi
              · rw [show (va_up F 16 (upd (F 16) (Int32.toNatClampNeg x1) 4)) 15 = (F 15) from rfl]; exact hoff 15 (by decide) i hi
            refine gz_sub (lv' := [(0, .ref m), (1, .int x1)]) (by simp [List.lookup]) ?_
            exact l_X12_testEB (P1 := P1) (V1 := V1) h5 h0 hx1 hB0 hE0 1 _ _ _ _ _ hS_1 (fx_F hx (by decide)) (by (try rw [(show n 4 = (n0 4) from (hx.1 4 (by decide)))]); omega) (by omega) hA hv h13 h14 hof (by omega) h17 (by omega) (by decide)
          ·
            try simp only [mIn_0, lgc_lt, lgc_gt, lgc_le, lgc_ge, lgc_eq] at c_167
            try simp only [fl_lt, fl_le, fl_eq, fL_w, fL_lt, fL_le, tm1, tm10k, tm9, tm99, Int32.reduceToInt, Int64.reduceToInt, Int.not_lt, Int.not_le] at c_167
            refine gz_iconst (v := 3) dX12_test_170 (by decide) ?_
            refine gz_goto (tgt := 175) dX12_test_171 (by decide) ?_
            refine m_iast 16 hS rfl (N := 880) rfl ((by exact vin_T (rfl : x1.toInt = x1.toInt) (by omega) (by omega))) dX12_test_175 (fun f_2 hS_2q => ?_)
            have hS_2 : mS cy m a f0 n z (va_up F 16 (upd (F 16) (Int32.toNatClampNeg x1) 3)) G f_2 := hS_2q
            have hof : ∀ q, q ∈ [13, 14, 15] → ∀ i, i ≠ (Int32.toNatClampNeg x1) → (va_up F 16 (upd (F 16) (Int32.toNatClampNeg x1) 3)) q i = F0 q i := by
              intro q hq i hi
              simp only [List.mem_cons, List.not_mem_nil, or_false] at hq
              rcases hq with rfl | rfl | rfl
              · rw [show (va_up F 16 (upd (F 16) (Int32.toNatClampNeg x1) 3)) 13 = (F 13) from rfl]; exact hoff 13 (by decide) i hi
              · rw [show (va_up F 16 (upd (F 16) (Int32.toNatClampNeg x1) 3)) 14 = (F 14) from rfl]; exact hoff 14 (by decide) i hi
              · rw [show (va_up F 16 (upd (F 16) (Int32.toNatClampNeg x1) 3)) 15 = (F 15) from rfl]; exact hoff 15 (by decide) i hi
            refine gz_sub (lv' := [(0, .ref m), (1, .int x1)]) (by simp [List.lookup]) ?_
            exact l_X12_testEB (P1 := P1) (V1 := V1) h5 h0 hx1 hB0 hE0 1 _ _ _ _ _ hS_2 (fx_F hx (by decide)) (by (try rw [(show n 4 = (n0 4) from (hx.1 4 (by decide)))]); omega) (by omega) hA hv h13 h14 hof (by omega) h17 (by omega) (by decide)
        ·
          try simp only [mIn_0, lgc_lt, lgc_gt, lgc_le, lgc_ge, lgc_eq] at c_151
          try simp only [fl_lt, fl_le, fl_eq, fL_w, fL_lt, fL_le, tm1, tm10k, tm9, tm99, Int32.reduceToInt, Int64.reduceToInt, Int.not_lt, Int.not_le] at c_151
          refine gz_iload_n dX12_test_154 rfl rfl ?_
          refine gz_if_eq (tgt := 162) dX12_test_155 (by decide) (fun c_155 => ?_) (fun c_155 => ?_)
          ·
            try simp only [mIn_0, lgc_lt, lgc_gt, lgc_le, lgc_ge, lgc_eq] at c_155
            try simp only [fl_lt, fl_le, fl_eq, fL_w, fL_lt, fL_le, tm1, tm10k, tm9, tm99, Int32.reduceToInt, Int64.reduceToInt, Int.not_lt, Int.not_le] at c_155
            refine gz_iconst (v := 0) dX12_test_162 (by decide) ?_
            refine gz_goto (tgt := 175) dX12_test_163 (by decide) ?_
            refine m_iast 16 hS rfl (N := 880) rfl ((by exact vin_T (rfl : x1.toInt = x1.toInt) (by omega) (by omega))) dX12_test_175 (fun f_3 hS_3q => ?_)
            have hS_3 : mS cy m a f0 n z (va_up F 16 (upd (F 16) (Int32.toNatClampNeg x1) 0)) G f_3 := hS_3q
            have hof : ∀ q, q ∈ [13, 14, 15] → ∀ i, i ≠ (Int32.toNatClampNeg x1) → (va_up F 16 (upd (F 16) (Int32.toNatClampNeg x1) 0)) q i = F0 q i := by
              intro q hq i hi
              simp only [List.mem_cons, List.not_mem_nil, or_false] at hq
              rcases hq with rfl | rfl | rfl
              · rw [show (va_up F 16 (upd (F 16) (Int32.toNatClampNeg x1) 0)) 13 = (F 13) from rfl]; exact hoff 13 (by decide) i hi
              · rw [show (va_up F 16 (upd (F 16) (Int32.toNatClampNeg x1) 0)) 14 = (F 14) from rfl]; exact hoff 14 (by decide) i hi
              · rw [show (va_up F 16 (upd (F 16) (Int32.toNatClampNeg x1) 0)) 15 = (F 15) from rfl]; exact hoff 15 (by decide) i hi
            refine gz_sub (lv' := [(0, .ref m), (1, .int x1)]) (by simp [List.lookup]) ?_
            exact l_X12_testEB (P1 := P1) (V1 := V1) h5 h0 hx1 hB0 hE0 1 _ _ _ _ _ hS_3 (fx_F hx (by decide)) (by (try rw [(show n 4 = (n0 4) from (hx.1 4 (by decide)))]); omega) (by omega) hA hv h13 h14 hof (by omega) h17 (by omega) (by decide)
          ·
            try simp only [mIn_0, lgc_lt, lgc_gt, lgc_le, lgc_ge, lgc_eq] at c_155
            try simp only [fl_lt, fl_le, fl_eq, fL_w, fL_lt, fL_le, tm1, tm10k, tm9, tm99, Int32.reduceToInt, Int64.reduceToInt, Int.not_lt, Int.not_le] at c_155
            refine gz_iconst (v := 1) dX12_test_158 (by decide) ?_
            refine gz_goto (tgt := 175) dX12_test_159 (by decide) ?_
            refine m_iast 16 hS rfl (N := 880) rfl ((by exact vin_T (rfl : x1.toInt = x1.toInt) (by omega) (by omega))) dX12_test_175 (fun f_4 hS_4q => ?_)
            have hS_4 : mS cy m a f0 n z (va_up F 16 (upd (F 16) (Int32.toNatClampNeg x1) 1)) G f_4 := hS_4q
            have hof : ∀ q, q ∈ [13, 14, 15] → ∀ i, i ≠ (Int32.toNatClampNeg x1) → (va_up F 16 (upd (F 16) (Int32.toNatClampNeg x1) 1)) q i = F0 q i := by
              intro q hq i hi
              simp only [List.mem_cons, List.not_mem_nil, or_false] at hq
              rcases hq with rfl | rfl | rfl
              · rw [show (va_up F 16 (upd (F 16) (Int32.toNatClampNeg x1) 1)) 13 = (F 13) from rfl]; exact hoff 13 (by decide) i hi
              · rw [show (va_up F 16 (upd (F 16) (Int32.toNatClampNeg x1) 1)) 14 = (F 14) from rfl]; exact hoff 14 (by decide) i hi
              · rw [show (va_up F 16 (upd (F 16) (Int32.toNatClampNeg x1) 1)) 15 = (F 15) from rfl]; exact hoff 15 (by decide) i hi
            refine gz_sub (lv' := [(0, .ref m), (1, .int x1)]) (by simp [List.lookup]) ?_
            exact l_X12_testEB (P1 := P1) (V1 := V1) h5 h0 hx1 hB0 hE0 1 _ _ _ _ _ hS_4 (fx_F hx (by decide)) (by (try rw [(show n 4 = (n0 4) from (hx.1 4 (by decide)))]); omega) (by omega) hA hv h13 h14 hof (by omega) h17 (by omega) (by decide)
      ·
        try simp only [mIn_0, lgc_lt, lgc_gt, lgc_le, lgc_ge, lgc_eq] at c_141
        try simp only [fl_lt, fl_le, fl_eq, fL_w, fL_lt, fL_le, tm1, tm10k, tm9, tm99, Int32.reduceToInt, Int64.reduceToInt, Int.not_lt, Int.not_le] at c_141
        refine gz_iconst (v := 2) dX12_test_144 (by decide) ?_
        refine gz_goto (tgt := 175) dX12_test_145 (by decide) ?_
        refine m_iast 16 hS rfl (N := 880) rfl ((by exact vin_T (rfl : x1.toInt = x1.toInt) (by omega) (by omega))) dX12_test_175 (fun f_5 hS_5q => ?_)
        have hS_5 : mS cy m a f0 n z (va_up F 16 (upd (F 16) (Int32.toNatClampNeg x1) 2)) G f_5 := hS_5q
        have hof : ∀ q, q ∈ [13, 14, 15] → ∀ i, i ≠ (Int32.toNatClampNeg x1) → (va_up F 16 (upd (F 16) (Int32.toNatClampNeg x1) 2)) q i = F0 q i := by
          intro q hq i hi
          simp only [List.mem_cons, List.not_mem_nil, or_false] at hq
          rcases hq with rfl | rfl | rfl
          · rw [show (va_up F 16 (upd (F 16) (Int32.toNatClampNeg x1) 2)) 13 = (F 13) from rfl]; exact hoff 13 (by decide) i hi
          · rw [show (va_up F 16 (upd (F 16) (Int32.toNatClampNeg x1) 2)) 14 = (F 14) from rfl]; exact hoff 14 (by decide) i hi
          · rw [show (va_up F 16 (upd (F 16) (Int32.toNatClampNeg x1) 2)) 15 = (F 15) from rfl]; exact hoff 15 (by decide) i hi
        refine gz_sub (lv' := [(0, .ref m), (1, .int x1)]) (by simp [List.lookup]) ?_
        exact l_X12_testEB (P1 := P1) (V1 := V1) h5 h0 hx1 hB0 hE0 1 _ _ _ _ _ hS_5 (fx_F hx (by decide)) (by (try rw [(show n 4 = (n0 4) from (hx.1 4 (by decide)))]); omega) (by omega) hA hv h13 h14 hof (by omega) h17 (by omega) (by decide)
    ·
      try simp only [mIn_0, lgc_lt, lgc_gt, lgc_le, lgc_ge, lgc_eq] at c_120
      try simp only [fl_lt, fl_le, fl_eq, fL_w, fL_lt, fL_le, tm1, tm10k, tm9, tm99, Int32.reduceToInt, Int64.reduceToInt, Int.not_lt, Int.not_le] at c_120
      refine gz_aload_n dX12_test_123 rfl rfl ?_
      refine gz_dup dX12_test_124 rfl ?_
      refine mg_272 hS dX12_test_125 ?_
      refine gz_iconst (v := 1) dX12_test_128 (by decide) ?_
      refine gz_iadd dX12_test_129 ?_
      refine mp_272 hS dX12_test_130 (fun f_6 hS_6 => ?_)
      refine gz_aload_n dX12_test_133 rfl rfl ?_
      refine mg_47 hS_6 dX12_test_134 ?_
      refine gz_iload_n dX12_test_137 rfl rfl ?_
      refine gz_iload_n dX12_test_138 rfl rfl ?_
      refine gz_bipush (v := 61) dX12_test_139 (by decide) ?_
      refine gz_icmp_ne (tgt := 148) dX12_test_141 (by decide) (fun c_141 => ?_) (fun c_141 => ?_)
      ·
        try simp only [mIn_0, lgc_lt, lgc_gt, lgc_le, lgc_ge, lgc_eq] at c_141
        try simp only [fl_lt, fl_le, fl_eq, fL_w, fL_lt, fL_le, tm1, tm10k, tm9, tm99, Int32.reduceToInt, Int64.reduceToInt, Int.not_lt, Int.not_le] at c_141
        refine gz_iload_n dX12_test_148 rfl rfl ?_
        refine gz_bipush (v := 60) dX12_test_149 (by decide) ?_
        refine gz_icmp_ne (tgt := 166) dX12_test_151 (by decide) (fun c_151 => ?_) (fun c_151 => ?_)
        ·
          try simp only [mIn_0, lgc_lt, lgc_gt, lgc_le, lgc_ge, lgc_eq] at c_151
          try simp only [fl_lt, fl_le, fl_eq, fL_w, fL_lt, fL_le, tm1, tm10k, tm9, tm99, Int32.reduceToInt, Int64.reduceToInt, Int.not_lt, Int.not_le] at c_151
          refine gz_iload_n dX12_test_166 rfl rfl ?_
          refine gz_if_eq (tgt := 174) dX12_test_167 (by decide) (fun c_167 => ?_) (fun c_167 => ?_)
          ·
            try simp only [mIn_0, lgc_lt, lgc_gt, lgc_le, lgc_ge, lgc_eq] at c_167
            try simp only [fl_lt, fl_le, fl_eq, fL_w, fL_lt, fL_le, tm1, tm10k, tm9, tm99, Int32.reduceToInt, Int64.reduceToInt, Int.not_lt, Int.not_le] at c_167
            refine gz_iconst (v := 4) dX12_test_174 (by decide) ?_
            refine m_iast 16 hS_6 rfl (N := 880) rfl ((by exact vin_T (rfl : x1.toInt = x1.toInt) (by omega) (by omega))) dX12_test_175 (fun f_7 hS_7q => ?_)
            have hS_7 : mS cy m a f0 (va_up n 21 ((n 21) + 1)) z (va_up F 16 (upd (F 16) (Int32.toNatClampNeg x1) 4)) G f_7 := hS_7q
            have hof : ∀ q, q ∈ [13, 14, 15] → ∀ i, i ≠ (Int32.toNatClampNeg x1) → (va_up F 16 (upd (F 16) (Int32.toNatClampNeg x1) 4)) q i = F0 q i := by
              intro q hq i hi
              simp only [List.mem_cons, List.not_mem_nil, or_false] at hq
              rcases hq with rfl | rfl | rfl
              · rw [show (va_up F 16 (upd (F 16) (Int32.toNatClampNeg x1) 4)) 13 = (F 13) from rfl]; exact hoff 13 (by decide) i hi
              · rw [show (va_up F 16 (upd (F 16) (Int32.toNatClampNeg x1) 4)) 14 = (F 14) from rfl]; exact hoff 14 (by decide) i hi
              · rw [show (va_up F 16 (upd (F 16) (Int32.toNatClampNeg x1) 4)) 15 = (F 15) from rfl]; exact hoff 15 (by decide) i hi
            refine gz_sub (lv' := [(0, .ref m), (1, .int x1)]) (by simp [List.lookup]) ?_
            exact l_X12_testEB (P1 := P1) (V1 := V1) h5 h0 hx1 hB0 hE0 1 _ _ _ _ _ hS_7 (fx_F (fx_n hx (by decide)) (by decide)) (by (try rw [(show (va_up n 21 ((n 21) + 1)) 21 = ((n 21) + 1) from rfl)]); (try rw [(show (va_up n 21 ((n 21) + 1)) 4 = (n0 4) from (hx.1 4 (by decide)))]); have q1_ := (T_add (rfl : ((n 21)).toInt = ((n 21)).toInt) (show (1 : Int32).toInt = 1 from rfl) (by omega)); omega) (by (try rw [(show (va_up n 21 ((n 21) + 1)) 21 = ((n 21) + 1) from rfl)]); have q1_ := (T_add (rfl : ((n 21)).toInt = ((n 21)).toInt) (show (1 : Int32).toInt = 1 from rfl) (by omega)); omega) hA hv h13 h14 hof (by (try rw [(show (va_up n 21 ((n 21) + 1)) 22 = (n 22) from rfl)]); omega) h17 (by (try rw [(show (va_up n 21 ((n 21) + 1)) 21 = ((n 21) + 1) from rfl)]); have q1_ := (T_add (rfl : ((n 21)).toInt = ((n 21)).toInt) (show (1 : Int32).toInt = 1 from rfl) (by omega)); omega) (by decide)
          ·
            try simp only [mIn_0, lgc_lt, lgc_gt, lgc_le, lgc_ge, lgc_eq] at c_167
            try simp only [fl_lt, fl_le, fl_eq, fL_w, fL_lt, fL_le, tm1, tm10k, tm9, tm99, Int32.reduceToInt, Int64.reduceToInt, Int.not_lt, Int.not_le] at c_167
            refine gz_iconst (v := 3) dX12_test_170 (by decide) ?_
            refine gz_goto (tgt := 175) dX12_test_171 (by decide) ?_
            refine m_iast 16 hS_6 rfl (N := 880) rfl ((by exact vin_T (rfl : x1.toInt = x1.toInt) (by omega) (by omega))) dX12_test_175 (fun f_8 hS_8q => ?_)
            have hS_8 : mS cy m a f0 (va_up n 21 ((n 21) + 1)) z (va_up F 16 (upd (F 16) (Int32.toNatClampNeg x1) 3)) G f_8 := hS_8q
            have hof : ∀ q, q ∈ [13, 14, 15] → ∀ i, i ≠ (Int32.toNatClampNeg x1) → (va_up F 16 (upd (F 16) (Int32.toNatClampNeg x1) 3)) q i = F0 q i := by
              intro q hq i hi
              simp only [List.mem_cons, List.not_mem_nil, or_false] at hq
              rcases hq with rfl | rfl | rfl
              · rw [show (va_up F 16 (upd (F 16) (Int32.toNatClampNeg x1) 3)) 13 = (F 13) from rfl]; exact hoff 13 (by decide) i hi
              · rw [show (va_up F 16 (upd (F 16) (Int32.toNatClampNeg x1) 3)) 14 = (F 14) from rfl]; exact hoff 14 (by decide) i hi
              · rw [show (va_up F 16 (upd (F 16) (Int32.toNatClampNeg x1) 3)) 15 = (F 15) from rfl]; exact hoff 15 (by decide) i hi
            refine gz_sub (lv' := [(0, .ref m), (1, .int x1)]) (by simp [List.lookup]) ?_
            exact l_X12_testEB (P1 := P1) (V1 := V1) h5 h0 hx1 hB0 hE0 1 _ _ _ _ _ hS_8 (fx_F (fx_n hx (by decide)) (by decide)) (by (try rw [(show (va_up n 21 ((n 21) + 1)) 21 = ((n 21) + 1) from rfl)]); (try rw [(show (va_up n 21 ((n 21) + 1)) 4 = (n0 4) from (hx.1 4 (by decide)))]); have q1_ := (T_add (rfl : ((n 21)).toInt = ((n 21)).toInt) (show (1 : Int32).toInt = 1 from rfl) (by omega)); omega) (by (try rw [(show (va_up n 21 ((n 21) + 1)) 21 = ((n 21) + 1) from rfl)]); have q1_ := (T_add (rfl : ((n 21)).toInt = ((n 21)).toInt) (show (1 : Int32).toInt = 1 from rfl) (by omega)); omega) hA hv h13 h14 hof (by (try rw [(show (va_up n 21 ((n 21) + 1)) 22 = (n 22) from rfl)]); omega) h17 (by (try rw [(show (va_up n 21 ((n 21) + 1)) 21 = ((n 21) + 1) from rfl)]); have q1_ := (T_add (rfl : ((n 21)).toInt = ((n 21)).toInt) (show (1 : Int32).toInt = 1 from rfl) (by omega)); omega) (by decide)
        ·
          try simp only [mIn_0, lgc_lt, lgc_gt, lgc_le, lgc_ge, lgc_eq] at c_151
          try simp only [fl_lt, fl_le, fl_eq, fL_w, fL_lt, fL_le, tm1, tm10k, tm9, tm99, Int32.reduceToInt, Int64.reduceToInt, Int.not_lt, Int.not_le] at c_151
          refine gz_iload_n dX12_test_154 rfl rfl ?_
          refine gz_if_eq (tgt := 162) dX12_test_155 (by decide) (fun c_155 => ?_) (fun c_155 => ?_)
          ·
            try simp only [mIn_0, lgc_lt, lgc_gt, lgc_le, lgc_ge, lgc_eq] at c_155
            try simp only [fl_lt, fl_le, fl_eq, fL_w, fL_lt, fL_le, tm1, tm10k, tm9, tm99, Int32.reduceToInt, Int64.reduceToInt, Int.not_lt, Int.not_le] at c_155
            refine gz_iconst (v := 0) dX12_test_162 (by decide) ?_
            refine gz_goto (tgt := 175) dX12_test_163 (by decide) ?_
            refine m_iast 16 hS_6 rfl (N := 880) rfl ((by exact vin_T (rfl : x1.toInt = x1.toInt) (by omega) (by omega))) dX12_test_175 (fun f_9 hS_9q => ?_)
            have hS_9 : mS cy m a f0 (va_up n 21 ((n 21) + 1)) z (va_up F 16 (upd (F 16) (Int32.toNatClampNeg x1) 0)) G f_9 := hS_9q
            have hof : ∀ q, q ∈ [13, 14, 15] → ∀ i, i ≠ (Int32.toNatClampNeg x1) → (va_up F 16 (upd (F 16) (Int32.toNatClampNeg x1) 0)) q i = F0 q i := by
              intro q hq i hi
              simp only [List.mem_cons, List.not_mem_nil, or_false] at hq
              rcases hq with rfl | rfl | rfl
              · rw [show (va_up F 16 (upd (F 16) (Int32.toNatClampNeg x1) 0)) 13 = (F 13) from rfl]; exact hoff 13 (by decide) i hi
              · rw [show (va_up F 16 (upd (F 16) (Int32.toNatClampNeg x1) 0)) 14 = (F 14) from rfl]; exact hoff 14 (by decide) i hi
              · rw [show (va_up F 16 (upd (F 16) (Int32.toNatClampNeg x1) 0)) 15 = (F 15) from rfl]; exact hoff 15 (by decide) i hi
            refine gz_sub (lv' := [(0, .ref m), (1, .int x1)]) (by simp [List.lookup]) ?_
            exact l_X12_testEB (P1 := P1) (V1 := V1) h5 h0 hx1 hB0 hE0 1 _ _ _ _ _ hS_9 (fx_F (fx_n hx (by decide)) (by decide)) (by (try rw [(show (va_up n 21 ((n 21) + 1)) 21 = ((n 21) + 1) from rfl)]); (try rw [(show (va_up n 21 ((n 21) + 1)) 4 = (n0 4) from (hx.1 4 (by decide)))]); have q1_ := (T_add (rfl : ((n 21)).toInt = ((n 21)).toInt) (show (1 : Int32).toInt = 1 from rfl) (by omega)); omega) (by (try rw [(show (va_up n 21 ((n 21) + 1)) 21 = ((n 21) + 1) from rfl)]); have q1_ := (T_add (rfl : ((n 21)).toInt = ((n 21)).toInt) (show (1 : Int32).toInt = 1 from rfl) (by omega)); omega) hA hv h13 h14 hof (by (try rw [(show (va_up n 21 ((n 21) + 1)) 22 = (n 22) from rfl)]); omega) h17 (by (try rw [(show (va_up n 21 ((n 21) + 1)) 21 = ((n 21) + 1) from rfl)]); have q1_ := (T_add (rfl : ((n 21)).toInt = ((n 21)).toInt) (show (1 : Int32).toInt = 1 from rfl) (by omega)); omega) (by decide)
          ·
            try simp only [mIn_0, lgc_lt, lgc_gt, lgc_le, lgc_ge, lgc_eq] at c_155
            try simp only [fl_lt, fl_le, fl_eq, fL_w, fL_lt, fL_le, tm1, tm10k, tm9, tm99, Int32.reduceToInt, Int64.reduceToInt, Int.not_lt, Int.not_le] at c_155
            refine gz_iconst (v := 1) dX12_test_158 (by decide) ?_
            refine gz_goto (tgt := 175) dX12_test_159 (by decide) ?_
            refine m_iast 16 hS_6 rfl (N := 880) rfl ((by exact vin_T (rfl : x1.toInt = x1.toInt) (by omega) (by omega))) dX12_test_175 (fun f_10 hS_10q => ?_)
            have hS_10 : mS cy m a f0 (va_up n 21 ((n 21) + 1)) z (va_up F 16 (upd (F 16) (Int32.toNatClampNeg x1) 1)) G f_10 := hS_10q
            have hof : ∀ q, q ∈ [13, 14, 15] → ∀ i, i ≠ (Int32.toNatClampNeg x1) → (va_up F 16 (upd (F 16) (Int32.toNatClampNeg x1) 1)) q i = F0 q i := by
              intro q hq i hi
              simp only [List.mem_cons, List.not_mem_nil, or_false] at hq
              rcases hq with rfl | rfl | rfl
              · rw [show (va_up F 16 (upd (F 16) (Int32.toNatClampNeg x1) 1)) 13 = (F 13) from rfl]; exact hoff 13 (by decide) i hi
              · rw [show (va_up F 16 (upd (F 16) (Int32.toNatClampNeg x1) 1)) 14 = (F 14) from rfl]; exact hoff 14 (by decide) i hi
              · rw [show (va_up F 16 (upd (F 16) (Int32.toNatClampNeg x1) 1)) 15 = (F 15) from rfl]; exact hoff 15 (by decide) i hi
            refine gz_sub (lv' := [(0, .ref m), (1, .int x1)]) (by simp [List.lookup]) ?_
            exact l_X12_testEB (P1 := P1) (V1 := V1) h5 h0 hx1 hB0 hE0 1 _ _ _ _ _ hS_10 (fx_F (fx_n hx (by decide)) (by decide)) (by (try rw [(show (va_up n 21 ((n 21) + 1)) 21 = ((n 21) + 1) from rfl)]); (try rw [(show (va_up n 21 ((n 21) + 1)) 4 = (n0 4) from (hx.1 4 (by decide)))]); have q1_ := (T_add (rfl : ((n 21)).toInt = ((n 21)).toInt) (show (1 : Int32).toInt = 1 from rfl) (by omega)); omega) (by (try rw [(show (va_up n 21 ((n 21) + 1)) 21 = ((n 21) + 1) from rfl)]); have q1_ := (T_add (rfl : ((n 21)).toInt = ((n 21)).toInt) (show (1 : Int32).toInt = 1 from rfl) (by omega)); omega) hA hv h13 h14 hof (by (try rw [(show (va_up n 21 ((n 21) + 1)) 22 = (n 22) from rfl)]); omega) h17 (by (try rw [(show (va_up n 21 ((n 21) + 1)) 21 = ((n 21) + 1) from rfl)]); have q1_ := (T_add (rfl : ((n 21)).toInt = ((n 21)).toInt) (show (1 : Int32).toInt = 1 from rfl) (by omega)); omega) (by decide)
      ·
        try simp only [mIn_0, lgc_lt, lgc_gt, lgc_le, lgc_ge, lgc_eq] at c_141
        try simp only [fl_lt, fl_le, fl_eq, fL_w, fL_lt, fL_le, tm1, tm10k, tm9, tm99, Int32.reduceToInt, Int64.reduceToInt, Int.not_lt, Int.not_le] at c_141
        refine gz_iconst (v := 2) dX12_test_144 (by decide) ?_
        refine gz_goto (tgt := 175) dX12_test_145 (by decide) ?_
        refine m_iast 16 hS_6 rfl (N := 880) rfl ((by exact vin_T (rfl : x1.toInt = x1.toInt) (by omega) (by omega))) dX12_test_175 (fun f_11 hS_11q => ?_)
        have hS_11 : mS cy m a f0 (va_up n 21 ((n 21) + 1)) z (va_up F 16 (upd (F 16) (Int32.toNatClampNeg x1) 2)) G f_11 := hS_11q
        have hof : ∀ q, q ∈ [13, 14, 15] → ∀ i, i ≠ (Int32.toNatClampNeg x1) → (va_up F 16 (upd (F 16) (Int32.toNatClampNeg x1) 2)) q i = F0 q i := by
          intro q hq i hi
          simp only [List.mem_cons, List.not_mem_nil, or_false] at hq
          rcases hq with rfl | rfl | rfl
          · rw [show (va_up F 16 (upd (F 16) (Int32.toNatClampNeg x1) 2)) 13 = (F 13) from rfl]; exact hoff 13 (by decide) i hi
          · rw [show (va_up F 16 (upd (F 16) (Int32.toNatClampNeg x1) 2)) 14 = (F 14) from rfl]; exact hoff 14 (by decide) i hi
          · rw [show (va_up F 16 (upd (F 16) (Int32.toNatClampNeg x1) 2)) 15 = (F 15) from rfl]; exact hoff 15 (by decide) i hi
        refine gz_sub (lv' := [(0, .ref m), (1, .int x1)]) (by simp [List.lookup]) ?_
        exact l_X12_testEB (P1 := P1) (V1 := V1) h5 h0 hx1 hB0 hE0 1 _ _ _ _ _ hS_11 (fx_F (fx_n hx (by decide)) (by decide)) (by (try rw [(show (va_up n 21 ((n 21) + 1)) 21 = ((n 21) + 1) from rfl)]); (try rw [(show (va_up n 21 ((n 21) + 1)) 4 = (n0 4) from (hx.1 4 (by decide)))]); have q1_ := (T_add (rfl : ((n 21)).toInt = ((n 21)).toInt) (show (1 : Int32).toInt = 1 from rfl) (by omega)); omega) (by (try rw [(show (va_up n 21 ((n 21) + 1)) 21 = ((n 21) + 1) from rfl)]); have q1_ := (T_add (rfl : ((n 21)).toInt = ((n 21)).toInt) (show (1 : Int32).toInt = 1 from rfl) (by omega)); omega) hA hv h13 h14 hof (by (try rw [(show (va_up n 21 ((n 21) + 1)) 22 = (n 22) from rfl)]); omega) h17 (by (try rw [(show (va_up n 21 ((n 21) + 1)) 21 = ((n 21) + 1) from rfl)]); have q1_ := (T_add (rfl : ((n 21)).toInt = ((n 21)).toInt) (show (1 : Int32).toInt = 1 from rfl) (by omega)); omega) (by decide)

set_option maxHeartbeats 4000000 in
set_option maxRecDepth 100000 in
theorem k_X12_testE {l : Launch} {D : va_G} {cy : Nat → ClassId} {b : Nat} {f : gMem} {m : Nat} {a : Nat → Nat} {f0 : gMem} {n : Nat → Int32} {z : Nat → Int64} {F : Nat → Nat → Int32} {G : Nat → Nat → Int64}  {x1 : Int32} (hS : mS cy m a f0 n z F G f) (hT : (0 ≤ (n 21).toInt ∧ (n 21).toInt ≤ (n 4).toInt ∧ (n 4).toInt ≤ 400)) (h5 : 0 ≤ (n 5).toInt ∧ (n 5).toInt < 20) (hA : rAll F) (h0 : 0 ≤ (F 17 (Int32.toNatClampNeg (n 5))).toInt ∧ (F 17 (Int32.toNatClampNeg (n 5))).toInt ≤ 40) (hx1 : 0 ≤ x1.toInt ∧ x1.toInt < 880) (hB : rB F) (h22 : (n 22).toInt = 0) : gC l D cy b yX12_test cX12_test 4 (some .boolean) 4 0 0 [.ref m, .int x1] f (pI fun r f2 => ∃ (n2 : Nat → Int32) (z2 : Nat → Int64) (F2 : Nat → Nat → Int32) (G2 : Nat → Nat → Int64), mS cy m a f0 n2 z2 F2 G2 f2 ∧ fx [21, 22, 23] [] [13, 14, 15, 16, 17, 18, 19, 20] [] n z F G n2 z2 F2 G2 ∧ (r = 0 ∨ r = 1) ∧ (0 ≤ (n2 21).toInt ∧ (n2 21).toInt ≤ (n2 4).toInt ∧ (n2 4).toInt ≤ 400) ∧ (n 21).toInt ≤ (n2 21).toInt ∧ rAll F2 ∧ ((F 17 (Int32.toNatClampNeg (n 5))).toInt ≤ (F2 17 (Int32.toNatClampNeg (n 5))).toInt ∧ (F2 17 (Int32.toNatClampNeg (n 5))).toInt ≤ 40) ∧ (∀ q, q ∈ [13, 14, 15] → ∀ i, i ≠ Int32.toNatClampNeg x1 → F2 q i = F q i) ∧ (r = 1 → (F2 13 (Int32.toNatClampNeg x1)).toInt = (F 17 (Int32.toNatClampNeg (n 5))).toInt ∧ (F2 13 (Int32.toNatClampNeg x1)).toInt ≤ (F2 14 (Int32.toNatClampNeg x1)).toInt ∧ (F2 14 (Int32.toNatClampNeg x1)).toInt ≤ (F2 15 (Int32.toNatClampNeg x1)).toInt ∧ (F2 15 (Int32.toNatClampNeg x1)).toInt = (F2 17 (Int32.toNatClampNeg (n 5))).toInt) ∧ exM2 (tsR (tX (F 3) (n 4)) (n 21).toInt.toNat (F 17 (Int32.toNatClampNeg (n 5))).toInt.toNat) r n2 (F2 17 (Int32.toNatClampNeg (n 5)))) := by
  have qn5 := clI (i := n 5) (by omega)
  have hln := tX_ln (g := F 3) (L := n 4) (by omega)
  refine gC_of (by decide) (Nat.le_of_ble_eq_true rfl) ?_
  show gG l _ _ _ D cy b cX12_test 4 _ RX12 "test" 0 0 f 0 [(0, .ref m), (1, .int x1)] []
  refine gz_aload_n dX12_test_0 rfl rfl ?_
  refine mg_38 hS dX12_test_1 ?_
  refine gz_iload_n dX12_test_4 rfl rfl ?_
  refine gz_aload_n dX12_test_5 rfl rfl ?_
  refine mg_50 hS dX12_test_6 ?_
  refine gz_aload_n dX12_test_9 rfl rfl ?_
  refine mg_307 hS dX12_test_10 ?_
  refine m_iald 17 hS rfl (N := 22) rfl ((by exact vin_T (rfl : (n 5).toInt = (n 5).toInt) (by omega) (by omega))) dX12_test_13 ?_
  refine m_iast 13 hS rfl (N := 880) rfl ((by exact vin_T (rfl : x1.toInt = x1.toInt) (by omega) (by omega))) dX12_test_14 (fun f_1 hS_1q => ?_)
  have hS_1 : mS cy m a f0 n z (va_up F 13 (upd (F 13) (Int32.toNatClampNeg x1) ((F 17) (Int32.toNatClampNeg (n 5))))) G f_1 := hS_1q
  refine gz_aload_n dX12_test_15 rfl rfl ?_
  have hA1 : rAll (va_up F 13 (upd (F 13) (Int32.toNatClampNeg x1) ((F 17) (Int32.toNatClampNeg (n 5))))) := by
    intro q hq
    obtain ⟨qa0, qb0, qc0, qd0⟩ := hA q hq
    rw [show (va_up F 13 (upd (F 13) (Int32.toNatClampNeg x1) ((F 17) (Int32.toNatClampNeg (n 5))))) 13 = (upd (F 13) (Int32.toNatClampNeg x1) ((F 17) (Int32.toNatClampNeg (n 5)))) from rfl, show (va_up F 13 (upd (F 13) (Int32.toNatClampNeg x1) ((F 17) (Int32.toNatClampNeg (n 5))))) 14 = (F 14) from rfl, show (va_up F 13 (upd (F 13) (Int32.toNatClampNeg x1) ((F 17) (Int32.toNatClampNeg (n 5))))) 15 = (F 15) from rfl, show (va_up F 13 (upd (F 13) (Int32.toNatClampNeg x1) ((F 17) (Int32.toNatClampNeg (n 5))))) 19 = (F 19) from rfl]
    refine ⟨?_, ?_, ?_, ?_⟩ <;> (try simp only [updE]) <;> (repeat' split) <;> first | omega | decide
  refine scX12_316 (k_X12_sumE hS_1 (by omega) (by rw [(show n 5 = (n 5) from rfl)]; omega) hA1 (by rw [(show n 5 = (n 5) from rfl), show (va_up F 13 (upd (F 13) (Int32.toNatClampNeg x1) ((F 17) (Int32.toNatClampNeg (n 5))))) 17 = (F 17) from rfl]; omega) hB (by omega)) hS_1.1 ⟨(Nat.le_of_ble_eq_true rfl), (Nat.le_of_ble_eq_true rfl)⟩ ⟨(Nat.le_of_ble_eq_true rfl), (Nat.le_of_ble_eq_true rfl)⟩ rfl rfl (Nat.le_of_ble_eq_true rfl) dX12_test_16 ?_
  rintro r_2 f_2 ⟨n_2, z_2, F_2, G_2, hS_2, hx2, hb_2, hT_2, hm_2, hA_2, hva_2, hvb_2, hE_2⟩
  try simp only [(show n_2 4 = (n 4) from (hx2.1 4 (by decide)))] at hb_2 hT_2 hm_2 hA_2 hva_2 hvb_2 hE_2
  try simp only [(show n_2 5 = (n 5) from (hx2.1 5 (by decide)))] at hb_2 hT_2 hm_2 hA_2 hva_2 hvb_2 hE_2
  try simp only [(show F_2 3 = (F 3) from (hx2.2.2.1 3 (by decide)))] at hb_2 hT_2 hm_2 hA_2 hva_2 hvb_2 hE_2
  try simp only [(show (va_up F 13 (upd (F 13) (Int32.toNatClampNeg x1) ((F 17) (Int32.toNatClampNeg (n 5))))) 3 = (F 3) from rfl)] at hb_2 hT_2 hm_2 hA_2 hva_2 hvb_2 hE_2
  try rw [(show n 5 = (n 5) from rfl)] at hva_2 hvb_2
  try rw [show (va_up F 13 (upd (F 13) (Int32.toNatClampNeg x1) ((F 17) (Int32.toNatClampNeg (n 5))))) 17 = (F 17) from rfl] at hva_2
  try simp only [(show n 5 = (n 5) from rfl), show (va_up F 13 (upd (F 13) (Int32.toNatClampNeg x1) ((F 17) (Int32.toNatClampNeg (n 5))))) 17 = (F 17) from rfl, (show n 21 = (n 21) from rfl), (show (va_up F 13 (upd (F 13) (Int32.toNatClampNeg x1) ((F 17) (Int32.toNatClampNeg (n 5))))) 3 = (F 3) from rfl), (show n 4 = (n 4) from rfl)] at hE_2
  cases hs1 : suR (tX (F 3) (n 4)) 41 (n 21).toInt.toNat (F 17 (Int32.toNatClampNeg (n 5))).toInt.toNat with
  | inl chs1 =>
    rw [hs1] at hE_2
    obtain ⟨a1hs1, a2hs1⟩ := hE_2
    refine gz_ev (w := .int 0) (congrArg Value.int a1hs1) ?_
    refine gz_if_ne (tgt := 24) dX12_test_19 (by decide) (fun c_19 => ?_) (fun c_19 => ?_)
    · exact absurd c_19 (by decide)
    ·
      try simp only [mIn_0, lgc_lt, lgc_gt, lgc_le, lgc_ge, lgc_eq] at c_19
      try simp only [fl_lt, fl_le, fl_eq, fL_w, fL_lt, fL_le, tm1, tm10k, tm9, tm99, Int32.reduceToInt, Int64.reduceToInt, Int.not_lt, Int.not_le] at c_19
      refine gz_iconst (v := 0) dX12_test_22 (by decide) ?_
      have hof : ∀ q, q ∈ [13, 14, 15] → ∀ i, i ≠ (Int32.toNatClampNeg x1) → F_2 q i = F q i := by
        intro q hq i hi
        simp only [List.mem_cons, List.not_mem_nil, or_false] at hq
        rcases hq with rfl | rfl | rfl
        · rw [show F_2 13 = (upd (F 13) (Int32.toNatClampNeg x1) ((F 17) (Int32.toNatClampNeg (n 5)))) from (hx2.2.2.1 13 (by decide)), updE, if_neg hi]
        · rw [show F_2 14 = (F 14) from (hx2.2.2.1 14 (by decide))]
        · rw [show F_2 15 = (F 15) from (hx2.2.2.1 15 (by decide))]
      have e17 : (F_2 17 (Int32.toNatClampNeg (n 5))).toInt = ((F_2 17) (Int32.toNatClampNeg (n 5))).toInt := by rw [show F_2 17 = (F_2 17) from rfl]
      exact gz_zret rfl (by first | decide | exact nrb (Or.inl (by assumption)) | exact nrb (by assumption) | (refine nrb ?_; assumption)) dX12_test_23 (Nat.le_of_ble_eq_true rfl) (Nat.le_of_ble_eq_true rfl) (⟨_, rfl, _, _, _, _, hS_2, (fx_tr (fx_F fx_rf (by decide)) hx2 (by decide)), (by first | exact Or.inl rfl | exact Or.inr rfl | assumption | (left; assumption)), (by (try rw [(show n_2 21 = (n_2 21) from rfl)]); (try rw [(show n_2 4 = (n 4) from (hx2.1 4 (by decide)))]); omega), (by (try rw [(show n_2 21 = (n_2 21) from rfl)]); omega), hA_2, (by omega), hof, (fun h => absurd h (by decide)), (by unfold tsR; rw [hs1]; exact ⟨rfl, a2hs1⟩)⟩)
  | inr rhs1 =>
    rw [hs1] at hE_2
    obtain ⟨Q1, V1⟩ := rhs1
    have ok1 := suR_ok hln _ _ _ _ _ (show (n 21).toInt.toNat ≤ (n 4).toInt.toNat by omega) (show (F 17 (Int32.toNatClampNeg (n 5))).toInt.toNat ≤ 40 by omega) hs1
    obtain ⟨a1hs1, a2hs1, a3hs1, a4hs1⟩ := hE_2
    refine gz_ev (w := .int 1) (congrArg Value.int a1hs1) ?_
    refine gz_if_ne (tgt := 24) dX12_test_19 (by decide) (fun c_19 => ?_) (fun c_19 => ?_)
    ·
      try simp only [mIn_0, lgc_lt, lgc_gt, lgc_le, lgc_ge, lgc_eq] at c_19
      try simp only [fl_lt, fl_le, fl_eq, fL_w, fL_lt, fL_le, tm1, tm10k, tm9, tm99, Int32.reduceToInt, Int64.reduceToInt, Int.not_lt, Int.not_le] at c_19
      refine gz_aload_n dX12_test_24 rfl rfl ?_
      refine mg_41 hS_2 dX12_test_25 ?_
      refine gz_iload_n dX12_test_28 rfl rfl ?_
      refine gz_aload_n dX12_test_29 rfl rfl ?_
      refine mg_50 hS_2 dX12_test_30 ?_
      refine gz_aload_n dX12_test_33 rfl rfl ?_
      refine mg_307 hS_2 dX12_test_34 ?_
      refine gz_ev (w := .int (n 5)) (congrArg Value.int (hx2.1 5 (by decide))) ?_
      refine m_iald 17 hS_2 rfl (N := 22) rfl ((by exact vin_T (rfl : (n 5).toInt = (n 5).toInt) (by omega) (by omega))) dX12_test_37 ?_
      refine gz_ev (w := .int ((F_2 17) (Int32.toNatClampNeg (n 5)))) rfl ?_
      refine m_iast 14 hS_2 rfl (N := 880) rfl ((by exact vin_T (rfl : x1.toInt = x1.toInt) (by omega) (by omega))) dX12_test_38 (fun f_3 hS_3q => ?_)
      have hS_3 : mS cy m a f0 n_2 z_2 (va_up F_2 14 (upd (F 14) (Int32.toNatClampNeg x1) ((F_2 17) (Int32.toNatClampNeg (n 5))))) G_2 f_3 := (by have e9 := (show F_2 14 = (F 14) from (hx2.2.2.1 14 (by decide))); rw [e9] at hS_3q; exact hS_3q)
      refine gz_aload_n dX12_test_39 rfl rfl ?_
      refine scX12_275 (k_X12_see_E hS_3 (by (try rw [(show n_2 21 = (n_2 21) from rfl)]); (try rw [(show n_2 4 = (n 4) from (hx2.1 4 (by decide)))]); omega) (rB_cg (hx2.2.2.1 3 (by decide)) hB)) hS_3.1 ⟨(Nat.le_of_ble_eq_true rfl), (Nat.le_of_ble_eq_true rfl)⟩ ⟨(Nat.le_of_ble_eq_true rfl), (Nat.le_of_ble_eq_true rfl)⟩ rfl rfl (Nat.le_of_ble_eq_true rfl) dX12_test_40 ?_
      rintro r_4 f_4 ⟨n_4, z_4, F_4, G_4, hS_4, hx4, hT_4, hm_4, hq_4, hs_4, hv_4⟩
      try simp only [(show n_4 4 = (n 4) from ((hx4.1 4 (by decide)).trans (hx2.1 4 (by decide))))] at hT_4 hm_4 hq_4 hs_4 hv_4
      try simp only [(show F_4 3 = (F 3) from ((hx4.2.2.1 3 (by decide)).trans (hx2.2.2.1 3 (by decide))))] at hT_4 hm_4 hq_4 hs_4 hv_4
      try simp only [(show n_2 4 = (n 4) from (hx2.1 4 (by decide)))] at hT_4 hm_4 hq_4 hs_4 hv_4
      try simp only [(show (va_up F_2 14 (upd (F 14) (Int32.toNatClampNeg x1) ((F_2 17) (Int32.toNatClampNeg (n 5))))) 3 = (F 3) from (hx2.2.2.1 3 (by decide)))] at hT_4 hm_4 hq_4 hs_4 hv_4
      rw [show (n_2 21).toInt.toNat = Q1 by omega] at hs_4 hv_4
      have hsk2 := skR_le hln (show Q1 ≤ (n 4).toInt.toNat by omega)
      refine gz_istore_n (lv' := [(2, .int r_4), (0, .ref m), (1, .int x1)]) dX12_test_43 rfl (by decide) rfl ?_
      refine gz_iload_n dX12_test_44 rfl rfl ?_
      refine gz_bipush (v := 60) dX12_test_45 (by decide) ?_
      refine gz_icmp_eq (tgt := 72) dX12_test_47 (by decide) (fun c_47 => ?_) (fun c_47 => ?_)
      ·
        try simp only [mIn_0, lgc_lt, lgc_gt, lgc_le, lgc_ge, lgc_eq] at c_47
        try simp only [fl_lt, fl_le, fl_eq, fL_w, fL_lt, fL_le, tm1, tm10k, tm9, tm99, Int32.reduceToInt, Int64.reduceToInt, Int.not_lt, Int.not_le] at c_47
        have hA2 : rAll F_4 := by
          intro q hq
          obtain ⟨qa0, qb0, qc0, qd0⟩ := hA q hq
          obtain ⟨qa1, qb1, qc1, qd1⟩ := hA_2 q hq
          rw [show F_4 13 = (upd (F 13) (Int32.toNatClampNeg x1) ((F 17) (Int32.toNatClampNeg (n 5)))) from ((hx4.2.2.1 13 (by decide)).trans (hx2.2.2.1 13 (by decide))), show F_4 14 = (upd (F 14) (Int32.toNatClampNeg x1) ((F_2 17) (Int32.toNatClampNeg (n 5)))) from (hx4.2.2.1 14 (by decide)), show F_4 15 = (F 15) from ((hx4.2.2.1 15 (by decide)).trans (hx2.2.2.1 15 (by decide))), show F_4 19 = (F_2 19) from (hx4.2.2.1 19 (by decide))]
          refine ⟨?_, ?_, ?_, ?_⟩ <;> (try simp only [updE]) <;> (repeat' split) <;> first | omega | decide
        have hof : ∀ q, q ∈ [13, 14, 15] → ∀ i, i ≠ (Int32.toNatClampNeg x1) → F_4 q i = F q i := by
          intro q hq i hi
          simp only [List.mem_cons, List.not_mem_nil, or_false] at hq
          rcases hq with rfl | rfl | rfl
          · rw [show F_4 13 = (upd (F 13) (Int32.toNatClampNeg x1) ((F 17) (Int32.toNatClampNeg (n 5)))) from ((hx4.2.2.1 13 (by decide)).trans (hx2.2.2.1 13 (by decide))), updE, if_neg hi]
          · rw [show F_4 14 = (upd (F 14) (Int32.toNatClampNeg x1) ((F_2 17) (Int32.toNatClampNeg (n 5)))) from (hx4.2.2.1 14 (by decide)), updE, if_neg hi]
          · rw [show F_4 15 = (F 15) from ((hx4.2.2.1 15 (by decide)).trans (hx2.2.2.1 15 (by decide)))]
        have w13 : (F_4 13 (Int32.toNatClampNeg x1)).toInt = (F 17 (Int32.toNatClampNeg (n 5))).toInt := by rw [show F_4 13 = (upd (F 13) (Int32.toNatClampNeg x1) ((F 17) (Int32.toNatClampNeg (n 5)))) from ((hx4.2.2.1 13 (by decide)).trans (hx2.2.2.1 13 (by decide))), updE, if_pos rfl]
        have w14 : (F_4 14 (Int32.toNatClampNeg x1)).toInt = (F_2 17 (Int32.toNatClampNeg (n 5))).toInt := by rw [show F_4 14 = (upd (F 14) (Int32.toNatClampNeg x1) ((F_2 17) (Int32.toNatClampNeg (n 5)))) from (hx4.2.2.1 14 (by decide)), updE, if_pos rfl]
        have w17 : (F_4 17 (Int32.toNatClampNeg (n 5))).toInt = (F_2 17 (Int32.toNatClampNeg (n 5))).toInt := by rw [show F_4 17 = (F_2 17) from (hx4.2.2.1 17 (by decide))]
        refine gz_aload_n dX12_test_72 rfl rfl ?_
        refine gz_dup dX12_test_73 rfl ?_
        refine mg_272 hS_4 dX12_test_74 ?_
        refine gz_ev (w := .int (n_4 21)) rfl ?_
        refine gz_iconst (v := 1) dX12_test_77 (by decide) ?_
        refine gz_iadd dX12_test_78 ?_
        refine mp_272 hS_4 dX12_test_79 (fun f_5 hS_5 => ?_)
        refine gz_iload_n dX12_test_82 rfl rfl ?_
        refine gz_bipush (v := 61) dX12_test_83 (by decide) ?_
        refine gz_icmp_eq (tgt := 117) dX12_test_85 (by decide) (fun c_85 => ?_) (fun c_85 => ?_)
        ·
          try simp only [mIn_0, lgc_lt, lgc_gt, lgc_le, lgc_ge, lgc_eq] at c_85
          try simp only [fl_lt, fl_le, fl_eq, fL_w, fL_lt, fL_le, tm1, tm10k, tm9, tm99, Int32.reduceToInt, Int64.reduceToInt, Int.not_lt, Int.not_le] at c_85
          refine gz_iconst (v := 0) dX12_test_117 (by decide) ?_
          refine gz_istore_n (lv' := [(3, .int 0), (2, .int r_4), (0, .ref m), (1, .int x1)]) dX12_test_118 rfl (by decide) rfl ?_
          have hre : reR (tX (F 3) (n 4)) Q1 = .inr ((skR (tX (F 3) (n 4)) Q1) + 1) := by unfold reR; (repeat' split) <;> first | rfl | (exfalso; omega)
          refine gz_sub (lv' := [(0, .ref m), (1, .int x1), (2, .int r_4), (3, .int 0)]) (by simp [List.lookup]) ?_
          exact l_X12_testEC (P1 := ((skR (tX (F 3) (n 4)) Q1) + 1)) (V1 := V1) h5 h0 hx1 hB (by unfold tsR; rw [hs1]; dsimp only; rw [hre]) 1 _ _ _ _ _ hS_5 (fx_n (fx_tr (fx_F (fx_tr (fx_F fx_rf (by decide)) hx2 (by decide)) (by decide)) hx4 (by decide)) (by decide)) (by (try rw [(show (va_up n_4 21 ((n_4 21) + 1)) 21 = ((n_4 21) + 1) from rfl)]); (try rw [(show (va_up n_4 21 ((n_4 21) + 1)) 4 = (n 4) from ((hx4.1 4 (by decide)).trans (hx2.1 4 (by decide))))]); have q1_ := (T_add (rfl : ((n_4 21)).toInt = ((n_4 21)).toInt) (show (1 : Int32).toInt = 1 from rfl) (by omega)); omega) (by (try rw [(show (va_up n_4 21 ((n_4 21) + 1)) 21 = ((n_4 21) + 1) from rfl)]); have q1_ := (T_add (rfl : ((n_4 21)).toInt = ((n_4 21)).toInt) (show (1 : Int32).toInt = 1 from rfl) (by omega)); omega) hA2 (by omega) w13 (by omega) hof (by (try rw [(show (va_up n_4 21 ((n_4 21) + 1)) 22 = (n_2 22) from (hx4.1 22 (by decide)))]); omega) (by omega) (fun h => absurd rfl h) (Or.inl ⟨rfl, (by (try rw [(show (va_up n_4 21 ((n_4 21) + 1)) 21 = ((n_4 21) + 1) from rfl)]); have q1_ := (T_add (rfl : ((n_4 21)).toInt = ((n_4 21)).toInt) (show (1 : Int32).toInt = 1 from rfl) (by omega)); omega)⟩) (by decide)
        ·
          try simp only [mIn_0, lgc_lt, lgc_gt, lgc_le, lgc_ge, lgc_eq] at c_85
          try simp only [fl_lt, fl_le, fl_eq, fL_w, fL_lt, fL_le, tm1, tm10k, tm9, tm99, Int32.reduceToInt, Int64.reduceToInt, Int.not_lt, Int.not_le] at c_85
          refine gz_aload_n dX12_test_88 rfl rfl ?_
          refine mg_272 hS_5 dX12_test_89 ?_
          refine gz_ev (w := .int ((n_4 21) + 1)) rfl ?_
          refine gz_aload_n dX12_test_92 rfl rfl ?_
          refine mg_262 hS_5 dX12_test_93 ?_
          refine gz_ev (w := .int (n 4)) (congrArg Value.int ((hx4.1 4 (by decide)).trans (hx2.1 4 (by decide)))) ?_
          refine gz_icmp_ge (tgt := 117) dX12_test_96 (by decide) (fun c_96 => ?_) (fun c_96 => ?_)
          ·
            try simp only [mIn_0, lgc_lt, lgc_gt, lgc_le, lgc_ge, lgc_eq] at c_96
            try simp only [fl_lt, fl_le, fl_eq, fL_w, fL_lt, fL_le, tm1, tm10k, tm9, tm99, Int32.reduceToInt, Int64.reduceToInt, Int.not_lt, Int.not_le] at c_96
            try have u_96t1 := (T_add (rfl : ((n_4 21)).toInt = ((n_4 21)).toInt) (show (1 : Int32).toInt = 1 from rfl) (by omega))
            have hto : (tX (F 3) (n 4)) ((skR (tX (F 3) (n 4)) Q1) + 1) = -1 := tX_out (by have q := (T_add (rfl : ((n_4 21)).toInt = ((n_4 21)).toInt) (show (1 : Int32).toInt = 1 from rfl) (by omega)); omega)
            refine gz_iconst (v := 0) dX12_test_117 (by decide) ?_
            refine gz_istore_n (lv' := [(3, .int 0), (2, .int r_4), (0, .ref m), (1, .int x1)]) dX12_test_118 rfl (by decide) rfl ?_
            have hre : reR (tX (F 3) (n 4)) Q1 = .inr ((skR (tX (F 3) (n 4)) Q1) + 1) := by unfold reR; (repeat' split) <;> first | rfl | (exfalso; omega)
            refine gz_sub (lv' := [(0, .ref m), (1, .int x1), (2, .int r_4), (3, .int 0)]) (by simp [List.lookup]) ?_
            exact l_X12_testEC (P1 := ((skR (tX (F 3) (n 4)) Q1) + 1)) (V1 := V1) h5 h0 hx1 hB (by unfold tsR; rw [hs1]; dsimp only; rw [hre]) 1 _ _ _ _ _ hS_5 (fx_n (fx_tr (fx_F (fx_tr (fx_F fx_rf (by decide)) hx2 (by decide)) (by decide)) hx4 (by decide)) (by decide)) (by (try rw [(show (va_up n_4 21 ((n_4 21) + 1)) 21 = ((n_4 21) + 1) from rfl)]); (try rw [(show (va_up n_4 21 ((n_4 21) + 1)) 4 = (n 4) from ((hx4.1 4 (by decide)).trans (hx2.1 4 (by decide))))]); have q1_ := (T_add (rfl : ((n_4 21)).toInt = ((n_4 21)).toInt) (show (1 : Int32).toInt = 1 from rfl) (by omega)); omega) (by (try rw [(show (va_up n_4 21 ((n_4 21) + 1)) 21 = ((n_4 21) + 1) from rfl)]); have q1_ := (T_add (rfl : ((n_4 21)).toInt = ((n_4 21)).toInt) (show (1 : Int32).toInt = 1 from rfl) (by omega)); omega) hA2 (by omega) w13 (by omega) hof (by (try rw [(show (va_up n_4 21 ((n_4 21) + 1)) 22 = (n_2 22) from (hx4.1 22 (by decide)))]); omega) (by omega) (fun h => absurd rfl h) (Or.inl ⟨rfl, (by (try rw [(show (va_up n_4 21 ((n_4 21) + 1)) 21 = ((n_4 21) + 1) from rfl)]); have q1_ := (T_add (rfl : ((n_4 21)).toInt = ((n_4 21)).toInt) (show (1 : Int32).toInt = 1 from rfl) (by omega)); omega)⟩) (by decide)
          ·
            try simp only [mIn_0, lgc_lt, lgc_gt, lgc_le, lgc_ge, lgc_eq] at c_96
            try simp only [fl_lt, fl_le, fl_eq, fL_w, fL_lt, fL_le, tm1, tm10k, tm9, tm99, Int32.reduceToInt, Int64.reduceToInt, Int.not_lt, Int.not_le] at c_96
            try have u_96t1 := (T_add (rfl : ((n_4 21)).toInt = ((n_4 21)).toInt) (show (1 : Int32).toInt = 1 from rfl) (by omega))
            refine gz_aload_n dX12_test_99 rfl rfl ?_
            refine mg_13 hS_5 dX12_test_100 ?_
            refine gz_aload_n dX12_test_103 rfl rfl ?_
            refine mg_272 hS_5 dX12_test_104 ?_
            refine gz_ev (w := .int ((n_4 21) + 1)) rfl ?_
            refine m_bald 3 hS_5 rfl (N := 400) rfl ((by have q9 := (T_add (rfl : ((n_4 21)).toInt = ((n_4 21)).toInt) (show (1 : Int32).toInt = 1 from rfl) (by omega)); exact vin_T q9 (by omega) (by omega))) dX12_test_107 ?_
            refine gz_ev (w := .int ((F 3) (Int32.toNatClampNeg ((n_4 21) + 1)))) (congrArg Value.int (congrFun ((hx4.2.2.1 3 (by decide)).trans (hx2.2.2.1 3 (by decide))) _)) ?_
            have hcl : (Int32.toNatClampNeg ((n_4 21) + 1)) = (skR (tX (F 3) (n 4)) Q1) + 1 := by rw [clN]; have q := (T_add (rfl : ((n_4 21)).toInt = ((n_4 21)).toInt) (show (1 : Int32).toInt = 1 from rfl) (by omega)); omega
            have hti := tX_by (g := F 3) (L := n 4) (k := (skR (tX (F 3) (n 4)) Q1) + 1) (by have q := (T_add (rfl : ((n_4 21)).toInt = ((n_4 21)).toInt) (show (1 : Int32).toInt = 1 from rfl) (by omega)); omega) (hB _ (by omega))
            have hbb := hB ((skR (tX (F 3) (n 4)) Q1) + 1) (by omega)
            have hti3 : (((F 3) (Int32.toNatClampNeg ((n_4 21) + 1))).toInt = 61 ∧ (tX (F 3) (n 4)) ((skR (tX (F 3) (n 4)) Q1) + 1) = 61) ∨ (((F 3) (Int32.toNatClampNeg ((n_4 21) + 1))).toInt ≠ 61 ∧ (tX (F 3) (n 4)) ((skR (tX (F 3) (n 4)) Q1) + 1) ≠ 61) := by rw [hcl, hti]; split <;> omega
            refine gz_bipush (v := 61) dX12_test_108 (by decide) ?_
            refine gz_icmp_ne (tgt := 117) dX12_test_110 (by decide) (fun c_110 => ?_) (fun c_110 => ?_)
            ·
              try simp only [mIn_0, lgc_lt, lgc_gt, lgc_le, lgc_ge, lgc_eq] at c_110
              try simp only [fl_lt, fl_le, fl_eq, fL_w, fL_lt, fL_le, tm1, tm10k, tm9, tm99, Int32.reduceToInt, Int64.reduceToInt, Int.not_lt, Int.not_le] at c_110
              refine gz_iconst (v := 0) dX12_test_117 (by decide) ?_
              refine gz_istore_n (lv' := [(3, .int 0), (2, .int r_4), (0, .ref m), (1, .int x1)]) dX12_test_118 rfl (by decide) rfl ?_
              have hre : reR (tX (F 3) (n 4)) Q1 = .inr ((skR (tX (F 3) (n 4)) Q1) + 1) := by unfold reR; (repeat' split) <;> first | rfl | (exfalso; omega)
              refine gz_sub (lv' := [(0, .ref m), (1, .int x1), (2, .int r_4), (3, .int 0)]) (by simp [List.lookup]) ?_
              exact l_X12_testEC (P1 := ((skR (tX (F 3) (n 4)) Q1) + 1)) (V1 := V1) h5 h0 hx1 hB (by unfold tsR; rw [hs1]; dsimp only; rw [hre]) 1 _ _ _ _ _ hS_5 (fx_n (fx_tr (fx_F (fx_tr (fx_F fx_rf (by decide)) hx2 (by decide)) (by decide)) hx4 (by decide)) (by decide)) (by (try rw [(show (va_up n_4 21 ((n_4 21) + 1)) 21 = ((n_4 21) + 1) from rfl)]); (try rw [(show (va_up n_4 21 ((n_4 21) + 1)) 4 = (n 4) from ((hx4.1 4 (by decide)).trans (hx2.1 4 (by decide))))]); have q1_ := (T_add (rfl : ((n_4 21)).toInt = ((n_4 21)).toInt) (show (1 : Int32).toInt = 1 from rfl) (by omega)); omega) (by (try rw [(show (va_up n_4 21 ((n_4 21) + 1)) 21 = ((n_4 21) + 1) from rfl)]); have q1_ := (T_add (rfl : ((n_4 21)).toInt = ((n_4 21)).toInt) (show (1 : Int32).toInt = 1 from rfl) (by omega)); omega) hA2 (by omega) w13 (by omega) hof (by (try rw [(show (va_up n_4 21 ((n_4 21) + 1)) 22 = (n_2 22) from (hx4.1 22 (by decide)))]); omega) (by omega) (fun h => absurd rfl h) (Or.inl ⟨rfl, (by (try rw [(show (va_up n_4 21 ((n_4 21) + 1)) 21 = ((n_4 21) + 1) from rfl)]); have q1_ := (T_add (rfl : ((n_4 21)).toInt = ((n_4 21)).toInt) (show (1 : Int32).toInt = 1 from rfl) (by omega)); omega)⟩) (by decide)
            ·
              try simp only [mIn_0, lgc_lt, lgc_gt, lgc_le, lgc_ge, lgc_eq] at c_110
              try simp only [fl_lt, fl_le, fl_eq, fL_w, fL_lt, fL_le, tm1, tm10k, tm9, tm99, Int32.reduceToInt, Int64.reduceToInt, Int.not_lt, Int.not_le] at c_110
              refine gz_iconst (v := 1) dX12_test_113 (by decide) ?_
              refine gz_goto (tgt := 118) dX12_test_114 (by decide) ?_
              refine gz_istore_n (lv' := [(3, .int 1), (2, .int r_4), (0, .ref m), (1, .int x1)]) dX12_test_118 rfl (by decide) rfl ?_
              have hre : reR (tX (F 3) (n 4)) Q1 = .inr ((skR (tX (F 3) (n 4)) Q1) + 2) := by unfold reR; (repeat' split) <;> first | rfl | (exfalso; omega)
              refine gz_sub (lv' := [(0, .ref m), (1, .int x1), (2, .int r_4), (3, .int 1)]) (by simp [List.lookup]) ?_
              exact l_X12_testEC (P1 := ((skR (tX (F 3) (n 4)) Q1) + 2)) (V1 := V1) h5 h0 hx1 hB (by unfold tsR; rw [hs1]; dsimp only; rw [hre]) 1 _ _ _ _ _ hS_5 (fx_n (fx_tr (fx_F (fx_tr (fx_F fx_rf (by decide)) hx2 (by decide)) (by decide)) hx4 (by decide)) (by decide)) (by (try rw [(show (va_up n_4 21 ((n_4 21) + 1)) 21 = ((n_4 21) + 1) from rfl)]); (try rw [(show (va_up n_4 21 ((n_4 21) + 1)) 4 = (n 4) from ((hx4.1 4 (by decide)).trans (hx2.1 4 (by decide))))]); have q1_ := (T_add (rfl : ((n_4 21)).toInt = ((n_4 21)).toInt) (show (1 : Int32).toInt = 1 from rfl) (by omega)); omega) (by (try rw [(show (va_up n_4 21 ((n_4 21) + 1)) 21 = ((n_4 21) + 1) from rfl)]); have q1_ := (T_add (rfl : ((n_4 21)).toInt = ((n_4 21)).toInt) (show (1 : Int32).toInt = 1 from rfl) (by omega)); omega) hA2 (by omega) w13 (by omega) hof (by (try rw [(show (va_up n_4 21 ((n_4 21) + 1)) 22 = (n_2 22) from (hx4.1 22 (by decide)))]); omega) (by omega) (fun _ => (by (try rw [(show (va_up n_4 21 ((n_4 21) + 1)) 21 = ((n_4 21) + 1) from rfl)]); (try rw [(show (va_up n_4 21 ((n_4 21) + 1)) 4 = (n 4) from ((hx4.1 4 (by decide)).trans (hx2.1 4 (by decide))))]); have q1_ := (T_add (rfl : ((n_4 21)).toInt = ((n_4 21)).toInt) (show (1 : Int32).toInt = 1 from rfl) (by omega)); omega)) (Or.inr ⟨by decide, (by (try rw [(show (va_up n_4 21 ((n_4 21) + 1)) 21 = ((n_4 21) + 1) from rfl)]); have q1_ := (T_add (rfl : ((n_4 21)).toInt = ((n_4 21)).toInt) (show (1 : Int32).toInt = 1 from rfl) (by omega)); omega)⟩) (by decide)
      ·
        try simp only [mIn_0, lgc_lt, lgc_gt, lgc_le, lgc_ge, lgc_eq] at c_47
        try simp only [fl_lt, fl_le, fl_eq, fL_w, fL_lt, fL_le, tm1, tm10k, tm9, tm99, Int32.reduceToInt, Int64.reduceToInt, Int.not_lt, Int.not_le] at c_47
        refine gz_iload_n dX12_test_50 rfl rfl ?_
        refine gz_bipush (v := 61) dX12_test_51 (by decide) ?_
        refine gz_icmp_eq (tgt := 72) dX12_test_53 (by decide) (fun c_53 => ?_) (fun c_53 => ?_)
        ·
          try simp only [mIn_0, lgc_lt, lgc_gt, lgc_le, lgc_ge, lgc_eq] at c_53
          try simp only [fl_lt, fl_le, fl_eq, fL_w, fL_lt, fL_le, tm1, tm10k, tm9, tm99, Int32.reduceToInt, Int64.reduceToInt, Int.not_lt, Int.not_le] at c_53
          have hA2 : rAll F_4 := by
            intro q hq
            obtain ⟨qa0, qb0, qc0, qd0⟩ := hA q hq
            obtain ⟨qa1, qb1, qc1, qd1⟩ := hA_2 q hq
            rw [show F_4 13 = (upd (F 13) (Int32.toNatClampNeg x1) ((F 17) (Int32.toNatClampNeg (n 5)))) from ((hx4.2.2.1 13 (by decide)).trans (hx2.2.2.1 13 (by decide))), show F_4 14 = (upd (F 14) (Int32.toNatClampNeg x1) ((F_2 17) (Int32.toNatClampNeg (n 5)))) from (hx4.2.2.1 14 (by decide)), show F_4 15 = (F 15) from ((hx4.2.2.1 15 (by decide)).trans (hx2.2.2.1 15 (by decide))), show F_4 19 = (F_2 19) from (hx4.2.2.1 19 (by decide))]
            refine ⟨?_, ?_, ?_, ?_⟩ <;> (try simp only [updE]) <;> (repeat' split) <;> first | omega | decide
          have hof : ∀ q, q ∈ [13, 14, 15] → ∀ i, i ≠ (Int32.toNatClampNeg x1) → F_4 q i = F q i := by
            intro q hq i hi
            simp only [List.mem_cons, List.not_mem_nil, or_false] at hq
            rcases hq with rfl | rfl | rfl
            · rw [show F_4 13 = (upd (F 13) (Int32.toNatClampNeg x1) ((F 17) (Int32.toNatClampNeg (n 5)))) from ((hx4.2.2.1 13 (by decide)).trans (hx2.2.2.1 13 (by decide))), updE, if_neg hi]
            · rw [show F_4 14 = (upd (F 14) (Int32.toNatClampNeg x1) ((F_2 17) (Int32.toNatClampNeg (n 5)))) from (hx4.2.2.1 14 (by decide)), updE, if_neg hi]
            · rw [show F_4 15 = (F 15) from ((hx4.2.2.1 15 (by decide)).trans (hx2.2.2.1 15 (by decide)))]
          have w13 : (F_4 13 (Int32.toNatClampNeg x1)).toInt = (F 17 (Int32.toNatClampNeg (n 5))).toInt := by rw [show F_4 13 = (upd (F 13) (Int32.toNatClampNeg x1) ((F 17) (Int32.toNatClampNeg (n 5)))) from ((hx4.2.2.1 13 (by decide)).trans (hx2.2.2.1 13 (by decide))), updE, if_pos rfl]
          have w14 : (F_4 14 (Int32.toNatClampNeg x1)).toInt = (F_2 17 (Int32.toNatClampNeg (n 5))).toInt := by rw [show F_4 14 = (upd (F 14) (Int32.toNatClampNeg x1) ((F_2 17) (Int32.toNatClampNeg (n 5)))) from (hx4.2.2.1 14 (by decide)), updE, if_pos rfl]
          have w17 : (F_4 17 (Int32.toNatClampNeg (n 5))).toInt = (F_2 17 (Int32.toNatClampNeg (n 5))).toInt := by rw [show F_4 17 = (F_2 17) from (hx4.2.2.1 17 (by decide))]
          refine gz_aload_n dX12_test_72 rfl rfl ?_
          refine gz_dup dX12_test_73 rfl ?_
          refine mg_272 hS_4 dX12_test_74 ?_
          refine gz_ev (w := .int (n_4 21)) rfl ?_
          refine gz_iconst (v := 1) dX12_test_77 (by decide) ?_
          refine gz_iadd dX12_test_78 ?_
          refine mp_272 hS_4 dX12_test_79 (fun f_6 hS_6 => ?_)
          refine gz_iload_n dX12_test_82 rfl rfl ?_
          refine gz_bipush (v := 61) dX12_test_83 (by decide) ?_
          refine gz_icmp_eq (tgt := 117) dX12_test_85 (by decide) (fun c_85 => ?_) (fun c_85 => ?_)
          ·
            try simp only [mIn_0, lgc_lt, lgc_gt, lgc_le, lgc_ge, lgc_eq] at c_85
            try simp only [fl_lt, fl_le, fl_eq, fL_w, fL_lt, fL_le, tm1, tm10k, tm9, tm99, Int32.reduceToInt, Int64.reduceToInt, Int.not_lt, Int.not_le] at c_85
            refine gz_iconst (v := 0) dX12_test_117 (by decide) ?_
            refine gz_istore_n (lv' := [(3, .int 0), (2, .int r_4), (0, .ref m), (1, .int x1)]) dX12_test_118 rfl (by decide) rfl ?_
            have hre : reR (tX (F 3) (n 4)) Q1 = .inr ((skR (tX (F 3) (n 4)) Q1) + 1) := by unfold reR; (repeat' split) <;> first | rfl | (exfalso; omega)
            refine gz_sub (lv' := [(0, .ref m), (1, .int x1), (2, .int r_4), (3, .int 0)]) (by simp [List.lookup]) ?_
            exact l_X12_testEC (P1 := ((skR (tX (F 3) (n 4)) Q1) + 1)) (V1 := V1) h5 h0 hx1 hB (by unfold tsR; rw [hs1]; dsimp only; rw [hre]) 1 _ _ _ _ _ hS_6 (fx_n (fx_tr (fx_F (fx_tr (fx_F fx_rf (by decide)) hx2 (by decide)) (by decide)) hx4 (by decide)) (by decide)) (by (try rw [(show (va_up n_4 21 ((n_4 21) + 1)) 21 = ((n_4 21) + 1) from rfl)]); (try rw [(show (va_up n_4 21 ((n_4 21) + 1)) 4 = (n 4) from ((hx4.1 4 (by decide)).trans (hx2.1 4 (by decide))))]); have q1_ := (T_add (rfl : ((n_4 21)).toInt = ((n_4 21)).toInt) (show (1 : Int32).toInt = 1 from rfl) (by omega)); omega) (by (try rw [(show (va_up n_4 21 ((n_4 21) + 1)) 21 = ((n_4 21) + 1) from rfl)]); have q1_ := (T_add (rfl : ((n_4 21)).toInt = ((n_4 21)).toInt) (show (1 : Int32).toInt = 1 from rfl) (by omega)); omega) hA2 (by omega) w13 (by omega) hof (by (try rw [(show (va_up n_4 21 ((n_4 21) + 1)) 22 = (n_2 22) from (hx4.1 22 (by decide)))]); omega) (by omega) (fun h => absurd rfl h) (Or.inl ⟨rfl, (by (try rw [(show (va_up n_4 21 ((n_4 21) + 1)) 21 = ((n_4 21) + 1) from rfl)]); have q1_ := (T_add (rfl : ((n_4 21)).toInt = ((n_4 21)).toInt) (show (1 : Int32).toInt = 1 from rfl) (by omega)); omega)⟩) (by decide)
          ·
            try simp only [mIn_0, lgc_lt, lgc_gt, lgc_le, lgc_ge, lgc_eq] at c_85
            try simp only [fl_lt, fl_le, fl_eq, fL_w, fL_lt, fL_le, tm1, tm10k, tm9, tm99, Int32.reduceToInt, Int64.reduceToInt, Int.not_lt, Int.not_le] at c_85
            refine gz_aload_n dX12_test_88 rfl rfl ?_
            refine mg_272 hS_6 dX12_test_89 ?_
            refine gz_ev (w := .int ((n_4 21) + 1)) rfl ?_
            refine gz_aload_n dX12_test_92 rfl rfl ?_
            refine mg_262 hS_6 dX12_test_93 ?_
            refine gz_ev (w := .int (n 4)) (congrArg Value.int ((hx4.1 4 (by decide)).trans (hx2.1 4 (by decide)))) ?_
            refine gz_icmp_ge (tgt := 117) dX12_test_96 (by decide) (fun c_96 => ?_) (fun c_96 => ?_)
            ·
              try simp only [mIn_0, lgc_lt, lgc_gt, lgc_le, lgc_ge, lgc_eq] at c_96
              try simp only [fl_lt, fl_le, fl_eq, fL_w, fL_lt, fL_le, tm1, tm10k, tm9, tm99, Int32.reduceToInt, Int64.reduceToInt, Int.not_lt, Int.not_le] at c_96
              try have u_96t1 := (T_add (rfl : ((n_4 21)).toInt = ((n_4 21)).toInt) (show (1 : Int32).toInt = 1 from rfl) (by omega))
              have hto : (tX (F 3) (n 4)) ((skR (tX (F 3) (n 4)) Q1) + 1) = -1 := tX_out (by have q := (T_add (rfl : ((n_4 21)).toInt = ((n_4 21)).toInt) (show (1 : Int32).toInt = 1 from rfl) (by omega)); omega)
              refine gz_iconst (v := 0) dX12_test_117 (by decide) ?_
              refine gz_istore_n (lv' := [(3, .int 0), (2, .int r_4), (0, .ref m), (1, .int x1)]) dX12_test_118 rfl (by decide) rfl ?_
              have hre : reR (tX (F 3) (n 4)) Q1 = .inr ((skR (tX (F 3) (n 4)) Q1) + 1) := by unfold reR; (repeat' split) <;> first | rfl | (exfalso; omega)
              refine gz_sub (lv' := [(0, .ref m), (1, .int x1), (2, .int r_4), (3, .int 0)]) (by simp [List.lookup]) ?_
              exact l_X12_testEC (P1 := ((skR (tX (F 3) (n 4)) Q1) + 1)) (V1 := V1) h5 h0 hx1 hB (by unfold tsR; rw [hs1]; dsimp only; rw [hre]) 1 _ _ _ _ _ hS_6 (fx_n (fx_tr (fx_F (fx_tr (fx_F fx_rf (by decide)) hx2 (by decide)) (by decide)) hx4 (by decide)) (by decide)) (by (try rw [(show (va_up n_4 21 ((n_4 21) + 1)) 21 = ((n_4 21) + 1) from rfl)]); (try rw [(show (va_up n_4 21 ((n_4 21) + 1)) 4 = (n 4) from ((hx4.1 4 (by decide)).trans (hx2.1 4 (by decide))))]); have q1_ := (T_add (rfl : ((n_4 21)).toInt = ((n_4 21)).toInt) (show (1 : Int32).toInt = 1 from rfl) (by omega)); omega) (by (try rw [(show (va_up n_4 21 ((n_4 21) + 1)) 21 = ((n_4 21) + 1) from rfl)]); have q1_ := (T_add (rfl : ((n_4 21)).toInt = ((n_4 21)).toInt) (show (1 : Int32).toInt = 1 from rfl) (by omega)); omega) hA2 (by omega) w13 (by omega) hof (by (try rw [(show (va_up n_4 21 ((n_4 21) + 1)) 22 = (n_2 22) from (hx4.1 22 (by decide)))]); omega) (by omega) (fun h => absurd rfl h) (Or.inl ⟨rfl, (by (try rw [(show (va_up n_4 21 ((n_4 21) + 1)) 21 = ((n_4 21) + 1) from rfl)]); have q1_ := (T_add (rfl : ((n_4 21)).toInt = ((n_4 21)).toInt) (show (1 : Int32).toInt = 1 from rfl) (by omega)); omega)⟩) (by decide)
            ·
              try simp only [mIn_0, lgc_lt, lgc_gt, lgc_le, lgc_ge, lgc_eq] at c_96
              try simp only [fl_lt, fl_le, fl_eq, fL_w, fL_lt, fL_le, tm1, tm10k, tm9, tm99, Int32.reduceToInt, Int64.reduceToInt, Int.not_lt, Int.not_le] at c_96
              try have u_96t1 := (T_add (rfl : ((n_4 21)).toInt = ((n_4 21)).toInt) (show (1 : Int32).toInt = 1 from rfl) (by omega))
              refine gz_aload_n dX12_test_99 rfl rfl ?_
              refine mg_13 hS_6 dX12_test_100 ?_
              refine gz_aload_n dX12_test_103 rfl rfl ?_
              refine mg_272 hS_6 dX12_test_104 ?_
              refine gz_ev (w := .int ((n_4 21) + 1)) rfl ?_
              refine m_bald 3 hS_6 rfl (N := 400) rfl ((by have q9 := (T_add (rfl : ((n_4 21)).toInt = ((n_4 21)).toInt) (show (1 : Int32).toInt = 1 from rfl) (by omega)); exact vin_T q9 (by omega) (by omega))) dX12_test_107 ?_
              refine gz_ev (w := .int ((F 3) (Int32.toNatClampNeg ((n_4 21) + 1)))) (congrArg Value.int (congrFun ((hx4.2.2.1 3 (by decide)).trans (hx2.2.2.1 3 (by decide))) _)) ?_
              have hcl : (Int32.toNatClampNeg ((n_4 21) + 1)) = (skR (tX (F 3) (n 4)) Q1) + 1 := by rw [clN]; have q := (T_add (rfl : ((n_4 21)).toInt = ((n_4 21)).toInt) (show (1 : Int32).toInt = 1 from rfl) (by omega)); omega
              have hti := tX_by (g := F 3) (L := n 4) (k := (skR (tX (F 3) (n 4)) Q1) + 1) (by have q := (T_add (rfl : ((n_4 21)).toInt = ((n_4 21)).toInt) (show (1 : Int32).toInt = 1 from rfl) (by omega)); omega) (hB _ (by omega))
              have hbb := hB ((skR (tX (F 3) (n 4)) Q1) + 1) (by omega)
              have hti3 : (((F 3) (Int32.toNatClampNeg ((n_4 21) + 1))).toInt = 61 ∧ (tX (F 3) (n 4)) ((skR (tX (F 3) (n 4)) Q1) + 1) = 61) ∨ (((F 3) (Int32.toNatClampNeg ((n_4 21) + 1))).toInt ≠ 61 ∧ (tX (F 3) (n 4)) ((skR (tX (F 3) (n 4)) Q1) + 1) ≠ 61) := by rw [hcl, hti]; split <;> omega
              refine gz_bipush (v := 61) dX12_test_108 (by decide) ?_
              refine gz_icmp_ne (tgt := 117) dX12_test_110 (by decide) (fun c_110 => ?_) (fun c_110 => ?_)
              ·
                try simp only [mIn_0, lgc_lt, lgc_gt, lgc_le, lgc_ge, lgc_eq] at c_110
                try simp only [fl_lt, fl_le, fl_eq, fL_w, fL_lt, fL_le, tm1, tm10k, tm9, tm99, Int32.reduceToInt, Int64.reduceToInt, Int.not_lt, Int.not_le] at c_110
                refine gz_iconst (v := 0) dX12_test_117 (by decide) ?_
                refine gz_istore_n (lv' := [(3, .int 0), (2, .int r_4), (0, .ref m), (1, .int x1)]) dX12_test_118 rfl (by decide) rfl ?_
                have hre : reR (tX (F 3) (n 4)) Q1 = .inr ((skR (tX (F 3) (n 4)) Q1) + 1) := by unfold reR; (repeat' split) <;> first | rfl | (exfalso; omega)
                refine gz_sub (lv' := [(0, .ref m), (1, .int x1), (2, .int r_4), (3, .int 0)]) (by simp [List.lookup]) ?_
                exact l_X12_testEC (P1 := ((skR (tX (F 3) (n 4)) Q1) + 1)) (V1 := V1) h5 h0 hx1 hB (by unfold tsR; rw [hs1]; dsimp only; rw [hre]) 1 _ _ _ _ _ hS_6 (fx_n (fx_tr (fx_F (fx_tr (fx_F fx_rf (by decide)) hx2 (by decide)) (by decide)) hx4 (by decide)) (by decide)) (by (try rw [(show (va_up n_4 21 ((n_4 21) + 1)) 21 = ((n_4 21) + 1) from rfl)]); (try rw [(show (va_up n_4 21 ((n_4 21) + 1)) 4 = (n 4) from ((hx4.1 4 (by decide)).trans (hx2.1 4 (by decide))))]); have q1_ := (T_add (rfl : ((n_4 21)).toInt = ((n_4 21)).toInt) (show (1 : Int32).toInt = 1 from rfl) (by omega)); omega) (by (try rw [(show (va_up n_4 21 ((n_4 21) + 1)) 21 = ((n_4 21) + 1) from rfl)]); have q1_ := (T_add (rfl : ((n_4 21)).toInt = ((n_4 21)).toInt) (show (1 : Int32).toInt = 1 from rfl) (by omega)); omega) hA2 (by omega) w13 (by omega) hof (by (try rw [(show (va_up n_4 21 ((n_4 21) + 1)) 22 = (n_2 22) from (hx4.1 22 (by decide)))]); omega) (by omega) (fun h => absurd rfl h) (Or.inl ⟨rfl, (by (try rw [(show (va_up n_4 21 ((n_4 21) + 1)) 21 = ((n_4 21) + 1) from rfl)]); have q1_ := (T_add (rfl : ((n_4 21)).toInt = ((n_4 21)).toInt) (show (1 : Int32).toInt = 1 from rfl) (by omega)); omega)⟩) (by decide)
              ·
                try simp only [mIn_0, lgc_lt, lgc_gt, lgc_le, lgc_ge, lgc_eq] at c_110
                try simp only [fl_lt, fl_le, fl_eq, fL_w, fL_lt, fL_le, tm1, tm10k, tm9, tm99, Int32.reduceToInt, Int64.reduceToInt, Int.not_lt, Int.not_le] at c_110
                refine gz_iconst (v := 1) dX12_test_113 (by decide) ?_
                refine gz_goto (tgt := 118) dX12_test_114 (by decide) ?_
                refine gz_istore_n (lv' := [(3, .int 1), (2, .int r_4), (0, .ref m), (1, .int x1)]) dX12_test_118 rfl (by decide) rfl ?_
                have hre : reR (tX (F 3) (n 4)) Q1 = .inr ((skR (tX (F 3) (n 4)) Q1) + 2) := by unfold reR; (repeat' split) <;> first | rfl | (exfalso; omega)
                refine gz_sub (lv' := [(0, .ref m), (1, .int x1), (2, .int r_4), (3, .int 1)]) (by simp [List.lookup]) ?_
                exact l_X12_testEC (P1 := ((skR (tX (F 3) (n 4)) Q1) + 2)) (V1 := V1) h5 h0 hx1 hB (by unfold tsR; rw [hs1]; dsimp only; rw [hre]) 1 _ _ _ _ _ hS_6 (fx_n (fx_tr (fx_F (fx_tr (fx_F fx_rf (by decide)) hx2 (by decide)) (by decide)) hx4 (by decide)) (by decide)) (by (try rw [(show (va_up n_4 21 ((n_4 21) + 1)) 21 = ((n_4 21) + 1) from rfl)]); (try rw [(show (va_up n_4 21 ((n_4 21) + 1)) 4 = (n 4) from ((hx4.1 4 (by decide)).trans (hx2.1 4 (by decide))))]); have q1_ := (T_add (rfl : ((n_4 21)).toInt = ((n_4 21)).toInt) (show (1 : Int32).toInt = 1 from rfl) (by omega)); omega) (by (try rw [(show (va_up n_4 21 ((n_4 21) + 1)) 21 = ((n_4 21) + 1) from rfl)]); have q1_ := (T_add (rfl : ((n_4 21)).toInt = ((n_4 21)).toInt) (show (1 : Int32).toInt = 1 from rfl) (by omega)); omega) hA2 (by omega) w13 (by omega) hof (by (try rw [(show (va_up n_4 21 ((n_4 21) + 1)) 22 = (n_2 22) from (hx4.1 22 (by decide)))]); omega) (by omega) (fun _ => (by (try rw [(show (va_up n_4 21 ((n_4 21) + 1)) 21 = ((n_4 21) + 1) from rfl)]); (try rw [(show (va_up n_4 21 ((n_4 21) + 1)) 4 = (n 4) from ((hx4.1 4 (by decide)).trans (hx2.1 4 (by decide))))]); have q1_ := (T_add (rfl : ((n_4 21)).toInt = ((n_4 21)).toInt) (show (1 : Int32).toInt = 1 from rfl) (by omega)); omega)) (Or.inr ⟨by decide, (by (try rw [(show (va_up n_4 21 ((n_4 21) + 1)) 21 = ((n_4 21) + 1) from rfl)]); have q1_ := (T_add (rfl : ((n_4 21)).toInt = ((n_4 21)).toInt) (show (1 : Int32).toInt = 1 from rfl) (by omega)); omega)⟩) (by decide)
        ·
          try simp only [mIn_0, lgc_lt, lgc_gt, lgc_le, lgc_ge, lgc_eq] at c_53
          try simp only [fl_lt, fl_le, fl_eq, fL_w, fL_lt, fL_le, tm1, tm10k, tm9, tm99, Int32.reduceToInt, Int64.reduceToInt, Int.not_lt, Int.not_le] at c_53
          refine gz_iload_n dX12_test_56 rfl rfl ?_
          refine gz_bipush (v := 62) dX12_test_57 (by decide) ?_
          refine gz_icmp_eq (tgt := 72) dX12_test_59 (by decide) (fun c_59 => ?_) (fun c_59 => ?_)
          ·
            try simp only [mIn_0, lgc_lt, lgc_gt, lgc_le, lgc_ge, lgc_eq] at c_59
            try simp only [fl_lt, fl_le, fl_eq, fL_w, fL_lt, fL_le, tm1, tm10k, tm9, tm99, Int32.reduceToInt, Int64.reduceToInt, Int.not_lt, Int.not_le] at c_59
            have hA2 : rAll F_4 := by
              intro q hq
              obtain ⟨qa0, qb0, qc0, qd0⟩ := hA q hq
              obtain ⟨qa1, qb1, qc1, qd1⟩ := hA_2 q hq
              rw [show F_4 13 = (upd (F 13) (Int32.toNatClampNeg x1) ((F 17) (Int32.toNatClampNeg (n 5)))) from ((hx4.2.2.1 13 (by decide)).trans (hx2.2.2.1 13 (by decide))), show F_4 14 = (upd (F 14) (Int32.toNatClampNeg x1) ((F_2 17) (Int32.toNatClampNeg (n 5)))) from (hx4.2.2.1 14 (by decide)), show F_4 15 = (F 15) from ((hx4.2.2.1 15 (by decide)).trans (hx2.2.2.1 15 (by decide))), show F_4 19 = (F_2 19) from (hx4.2.2.1 19 (by decide))]
              refine ⟨?_, ?_, ?_, ?_⟩ <;> (try simp only [updE]) <;> (repeat' split) <;> first | omega | decide
            have hof : ∀ q, q ∈ [13, 14, 15] → ∀ i, i ≠ (Int32.toNatClampNeg x1) → F_4 q i = F q i := by
              intro q hq i hi
              simp only [List.mem_cons, List.not_mem_nil, or_false] at hq
              rcases hq with rfl | rfl | rfl
              · rw [show F_4 13 = (upd (F 13) (Int32.toNatClampNeg x1) ((F 17) (Int32.toNatClampNeg (n 5)))) from ((hx4.2.2.1 13 (by decide)).trans (hx2.2.2.1 13 (by decide))), updE, if_neg hi]
              · rw [show F_4 14 = (upd (F 14) (Int32.toNatClampNeg x1) ((F_2 17) (Int32.toNatClampNeg (n 5)))) from (hx4.2.2.1 14 (by decide)), updE, if_neg hi]
              · rw [show F_4 15 = (F 15) from ((hx4.2.2.1 15 (by decide)).trans (hx2.2.2.1 15 (by decide)))]
            have w13 : (F_4 13 (Int32.toNatClampNeg x1)).toInt = (F 17 (Int32.toNatClampNeg (n 5))).toInt := by rw [show F_4 13 = (upd (F 13) (Int32.toNatClampNeg x1) ((F 17) (Int32.toNatClampNeg (n 5)))) from ((hx4.2.2.1 13 (by decide)).trans (hx2.2.2.1 13 (by decide))), updE, if_pos rfl]
            have w14 : (F_4 14 (Int32.toNatClampNeg x1)).toInt = (F_2 17 (Int32.toNatClampNeg (n 5))).toInt := by rw [show F_4 14 = (upd (F 14) (Int32.toNatClampNeg x1) ((F_2 17) (Int32.toNatClampNeg (n 5)))) from (hx4.2.2.1 14 (by decide)), updE, if_pos rfl]
            have w17 : (F_4 17 (Int32.toNatClampNeg (n 5))).toInt = (F_2 17 (Int32.toNatClampNeg (n 5))).toInt := by rw [show F_4 17 = (F_2 17) from (hx4.2.2.1 17 (by decide))]
            refine gz_aload_n dX12_test_72 rfl rfl ?_
            refine gz_dup dX12_test_73 rfl ?_
            refine mg_272 hS_4 dX12_test_74 ?_
            refine gz_ev (w := .int (n_4 21)) rfl ?_
            refine gz_iconst (v := 1) dX12_test_77 (by decide) ?_
            refine gz_iadd dX12_test_78 ?_
            refine mp_272 hS_4 dX12_test_79 (fun f_7 hS_7 => ?_)
            refine gz_iload_n dX12_test_82 rfl rfl ?_
            refine gz_bipush (v := 61) dX12_test_83 (by decide) ?_
            refine gz_icmp_eq (tgt := 117) dX12_test_85 (by decide) (fun c_85 => ?_) (fun c_85 => ?_)
            ·
              try simp only [mIn_0, lgc_lt, lgc_gt, lgc_le, lgc_ge, lgc_eq] at c_85
              try simp only [fl_lt, fl_le, fl_eq, fL_w, fL_lt, fL_le, tm1, tm10k, tm9, tm99, Int32.reduceToInt, Int64.reduceToInt, Int.not_lt, Int.not_le] at c_85
              refine gz_iconst (v := 0) dX12_test_117 (by decide) ?_
              refine gz_istore_n (lv' := [(3, .int 0), (2, .int r_4), (0, .ref m), (1, .int x1)]) dX12_test_118 rfl (by decide) rfl ?_
              have hre : reR (tX (F 3) (n 4)) Q1 = .inr ((skR (tX (F 3) (n 4)) Q1) + 1) := by unfold reR; (repeat' split) <;> first | rfl | (exfalso; omega)
              refine gz_sub (lv' := [(0, .ref m), (1, .int x1), (2, .int r_4), (3, .int 0)]) (by simp [List.lookup]) ?_
              exact l_X12_testEC (P1 := ((skR (tX (F 3) (n 4)) Q1) + 1)) (V1 := V1) h5 h0 hx1 hB (by unfold tsR; rw [hs1]; dsimp only; rw [hre]) 1 _ _ _ _ _ hS_7 (fx_n (fx_tr (fx_F (fx_tr (fx_F fx_rf (by decide)) hx2 (by decide)) (by decide)) hx4 (by decide)) (by decide)) (by (try rw [(show (va_up n_4 21 ((n_4 21) + 1)) 21 = ((n_4 21) + 1) from rfl)]); (try rw [(show (va_up n_4 21 ((n_4 21) + 1)) 4 = (n 4) from ((hx4.1 4 (by decide)).trans (hx2.1 4 (by decide))))]); have q1_ := (T_add (rfl : ((n_4 21)).toInt = ((n_4 21)).toInt) (show (1 : Int32).toInt = 1 from rfl) (by omega)); omega) (by (try rw [(show (va_up n_4 21 ((n_4 21) + 1)) 21 = ((n_4 21) + 1) from rfl)]); have q1_ := (T_add (rfl : ((n_4 21)).toInt = ((n_4 21)).toInt) (show (1 : Int32).toInt = 1 from rfl) (by omega)); omega) hA2 (by omega) w13 (by omega) hof (by (try rw [(show (va_up n_4 21 ((n_4 21) + 1)) 22 = (n_2 22) from (hx4.1 22 (by decide)))]); omega) (by omega) (fun h => absurd rfl h) (Or.inl ⟨rfl, (by (try rw [(show (va_up n_4 21 ((n_4 21) + 1)) 21 = ((n_4 21) + 1) from rfl)]); have q1_ := (T_add (rfl : ((n_4 21)).toInt = ((n_4 21)).toInt) (show (1 : Int32).toInt = 1 from rfl) (by omega)); omega)⟩) (by decide)
            ·
              try simp only [mIn_0, lgc_lt, lgc_gt, lgc_le, lgc_ge, lgc_eq] at c_85
              try simp only [fl_lt, fl_le, fl_eq, fL_w, fL_lt, fL_le, tm1, tm10k, tm9, tm99, Int32.reduceToInt, Int64.reduceToInt, Int.not_lt, Int.not_le] at c_85
              refine gz_aload_n dX12_test_88 rfl rfl ?_
              refine mg_272 hS_7 dX12_test_89 ?_
              refine gz_ev (w := .int ((n_4 21) + 1)) rfl ?_
              refine gz_aload_n dX12_test_92 rfl rfl ?_
              refine mg_262 hS_7 dX12_test_93 ?_
              refine gz_ev (w := .int (n 4)) (congrArg Value.int ((hx4.1 4 (by decide)).trans (hx2.1 4 (by decide)))) ?_
              refine gz_icmp_ge (tgt := 117) dX12_test_96 (by decide) (fun c_96 => ?_) (fun c_96 => ?_)
              ·
                try simp only [mIn_0, lgc_lt, lgc_gt, lgc_le, lgc_ge, lgc_eq] at c_96
                try simp only [fl_lt, fl_le, fl_eq, fL_w, fL_lt, fL_le, tm1, tm10k, tm9, tm99, Int32.reduceToInt, Int64.reduceToInt, Int.not_lt, Int.not_le] at c_96
                try have u_96t1 := (T_add (rfl : ((n_4 21)).toInt = ((n_4 21)).toInt) (show (1 : Int32).toInt = 1 from rfl) (by omega))
                have hto : (tX (F 3) (n 4)) ((skR (tX (F 3) (n 4)) Q1) + 1) = -1 := tX_out (by have q := (T_add (rfl : ((n_4 21)).toInt = ((n_4 21)).toInt) (show (1 : Int32).toInt = 1 from rfl) (by omega)); omega)
                refine gz_iconst (v := 0) dX12_test_117 (by decide) ?_
                refine gz_istore_n (lv' := [(3, .int 0), (2, .int r_4), (0, .ref m), (1, .int x1)]) dX12_test_118 rfl (by decide) rfl ?_
                have hre : reR (tX (F 3) (n 4)) Q1 = .inr ((skR (tX (F 3) (n 4)) Q1) + 1) := by unfold reR; (repeat' split) <;> first | rfl | (exfalso; omega)
                refine gz_sub (lv' := [(0, .ref m), (1, .int x1), (2, .int r_4), (3, .int 0)]) (by simp [List.lookup]) ?_
                exact l_X12_testEC (P1 := ((skR (tX (F 3) (n 4)) Q1) + 1)) (V1 := V1) h5 h0 hx1 hB (by unfold tsR; rw [hs1]; dsimp only; rw [hre]) 1 _ _ _ _ _ hS_7 (fx_n (fx_tr (fx_F (fx_tr (fx_F fx_rf (by decide)) hx2 (by decide)) (by decide)) hx4 (by decide)) (by decide)) (by (try rw [(show (va_up n_4 21 ((n_4 21) + 1)) 21 = ((n_4 21) + 1) from rfl)]); (try rw [(show (va_up n_4 21 ((n_4 21) + 1)) 4 = (n 4) from ((hx4.1 4 (by decide)).trans (hx2.1 4 (by decide))))]); have q1_ := (T_add (rfl : ((n_4 21)).toInt = ((n_4 21)).toInt) (show (1 : Int32).toInt = 1 from rfl) (by omega)); omega) (by (try rw [(show (va_up n_4 21 ((n_4 21) + 1)) 21 = ((n_4 21) + 1) from rfl)]); have q1_ := (T_add (rfl : ((n_4 21)).toInt = ((n_4 21)).toInt) (show (1 : Int32).toInt = 1 from rfl) (by omega)); omega) hA2 (by omega) w13 (by omega) hof (by (try rw [(show (va_up n_4 21 ((n_4 21) + 1)) 22 = (n_2 22) from (hx4.1 22 (by decide)))]); omega) (by omega) (fun h => absurd rfl h) (Or.inl ⟨rfl, (by (try rw [(show (va_up n_4 21 ((n_4 21) + 1)) 21 = ((n_4 21) + 1) from rfl)]); have q1_ := (T_add (rfl : ((n_4 21)).toInt = ((n_4 21)).toInt) (show (1 : Int32).toInt = 1 from rfl) (by omega)); omega)⟩) (by decide)
              ·
                try simp only [mIn_0, lgc_lt, lgc_gt, lgc_le, lgc_ge, lgc_eq] at c_96
                try simp only [fl_lt, fl_le, fl_eq, fL_w, fL_lt, fL_le, tm1, tm10k, tm9, tm99, Int32.reduceToInt, Int64.reduceToInt, Int.not_lt, Int.not_le] at c_96
                try have u_96t1 := (T_add (rfl : ((n_4 21)).toInt = ((n_4 21)).toInt) (show (1 : Int32).toInt = 1 from rfl) (by omega))
                refine gz_aload_n dX12_test_99 rfl rfl ?_
                refine mg_13 hS_7 dX12_test_100 ?_
                refine gz_aload_n dX12_test_103 rfl rfl ?_
                refine mg_272 hS_7 dX12_test_104 ?_
                refine gz_ev (w := .int ((n_4 21) + 1)) rfl ?_
                refine m_bald 3 hS_7 rfl (N := 400) rfl ((by have q9 := (T_add (rfl : ((n_4 21)).toInt = ((n_4 21)).toInt) (show (1 : Int32).toInt = 1 from rfl) (by omega)); exact vin_T q9 (by omega) (by omega))) dX12_test_107 ?_
                refine gz_ev (w := .int ((F 3) (Int32.toNatClampNeg ((n_4 21) + 1)))) (congrArg Value.int (congrFun ((hx4.2.2.1 3 (by decide)).trans (hx2.2.2.1 3 (by decide))) _)) ?_
                have hcl : (Int32.toNatClampNeg ((n_4 21) + 1)) = (skR (tX (F 3) (n 4)) Q1) + 1 := by rw [clN]; have q := (T_add (rfl : ((n_4 21)).toInt = ((n_4 21)).toInt) (show (1 : Int32).toInt = 1 from rfl) (by omega)); omega
                have hti := tX_by (g := F 3) (L := n 4) (k := (skR (tX (F 3) (n 4)) Q1) + 1) (by have q := (T_add (rfl : ((n_4 21)).toInt = ((n_4 21)).toInt) (show (1 : Int32).toInt = 1 from rfl) (by omega)); omega) (hB _ (by omega))
                have hbb := hB ((skR (tX (F 3) (n 4)) Q1) + 1) (by omega)
                have hti3 : (((F 3) (Int32.toNatClampNeg ((n_4 21) + 1))).toInt = 61 ∧ (tX (F 3) (n 4)) ((skR (tX (F 3) (n 4)) Q1) + 1) = 61) ∨ (((F 3) (Int32.toNatClampNeg ((n_4 21) + 1))).toInt ≠ 61 ∧ (tX (F 3) (n 4)) ((skR (tX (F 3) (n 4)) Q1) + 1) ≠ 61) := by rw [hcl, hti]; split <;> omega
                refine gz_bipush (v := 61) dX12_test_108 (by decide) ?_
                refine gz_icmp_ne (tgt := 117) dX12_test_110 (by decide) (fun c_110 => ?_) (fun c_110 => ?_)
                ·
                  try simp only [mIn_0, lgc_lt, lgc_gt, lgc_le, lgc_ge, lgc_eq] at c_110
                  try simp only [fl_lt, fl_le, fl_eq, fL_w, fL_lt, fL_le, tm1, tm10k, tm9, tm99, Int32.reduceToInt, Int64.reduceToInt, Int.not_lt, Int.not_le] at c_110
                  refine gz_iconst (v := 0) dX12_test_117 (by decide) ?_
                  refine gz_istore_n (lv' := [(3, .int 0), (2, .int r_4), (0, .ref m), (1, .int x1)]) dX12_test_118 rfl (by decide) rfl ?_
                  have hre : reR (tX (F 3) (n 4)) Q1 = .inr ((skR (tX (F 3) (n 4)) Q1) + 1) := by unfold reR; (repeat' split) <;> first | rfl | (exfalso; omega)
                  refine gz_sub (lv' := [(0, .ref m), (1, .int x1), (2, .int r_4), (3, .int 0)]) (by simp [List.lookup]) ?_
                  exact l_X12_testEC (P1 := ((skR (tX (F 3) (n 4)) Q1) + 1)) (V1 := V1) h5 h0 hx1 hB (by unfold tsR; rw [hs1]; dsimp only; rw [hre]) 1 _ _ _ _ _ hS_7 (fx_n (fx_tr (fx_F (fx_tr (fx_F fx_rf (by decide)) hx2 (by decide)) (by decide)) hx4 (by decide)) (by decide)) (by (try rw [(show (va_up n_4 21 ((n_4 21) + 1)) 21 = ((n_4 21) + 1) from rfl)]); (try rw [(show (va_up n_4 21 ((n_4 21) + 1)) 4 = (n 4) from ((hx4.1 4 (by decide)).trans (hx2.1 4 (by decide))))]); have q1_ := (T_add (rfl : ((n_4 21)).toInt = ((n_4 21)).toInt) (show (1 : Int32).toInt = 1 from rfl) (by omega)); omega) (by (try rw [(show (va_up n_4 21 ((n_4 21) + 1)) 21 = ((n_4 21) + 1) from rfl)]); have q1_ := (T_add (rfl : ((n_4 21)).toInt = ((n_4 21)).toInt) (show (1 : Int32).toInt = 1 from rfl) (by omega)); omega) hA2 (by omega) w13 (by omega) hof (by (try rw [(show (va_up n_4 21 ((n_4 21) + 1)) 22 = (n_2 22) from (hx4.1 22 (by decide)))]); omega) (by omega) (fun h => absurd rfl h) (Or.inl ⟨rfl, (by (try rw [(show (va_up n_4 21 ((n_4 21) + 1)) 21 = ((n_4 21) + 1) from rfl)]); have q1_ := (T_add (rfl : ((n_4 21)).toInt = ((n_4 21)).toInt) (show (1 : Int32).toInt = 1 from rfl) (by omega)); omega)⟩) (by decide)
                ·
                  try simp only [mIn_0, lgc_lt, lgc_gt, lgc_le, lgc_ge, lgc_eq] at c_110
                  try simp only [fl_lt, fl_le, fl_eq, fL_w, fL_lt, fL_le, tm1, tm10k, tm9, tm99, Int32.reduceToInt, Int64.reduceToInt, Int.not_lt, Int.not_le] at c_110
                  refine gz_iconst (v := 1) dX12_test_113 (by decide) ?_
                  refine gz_goto (tgt := 118) dX12_test_114 (by decide) ?_
                  refine gz_istore_n (lv' := [(3, .int 1), (2, .int r_4), (0, .ref m), (1, .int x1)]) dX12_test_118 rfl (by decide) rfl ?_
                  have hre : reR (tX (F 3) (n 4)) Q1 = .inr ((skR (tX (F 3) (n 4)) Q1) + 2) := by unfold reR; (repeat' split) <;> first | rfl | (exfalso; omega)
                  refine gz_sub (lv' := [(0, .ref m), (1, .int x1), (2, .int r_4), (3, .int 1)]) (by simp [List.lookup]) ?_
                  exact l_X12_testEC (P1 := ((skR (tX (F 3) (n 4)) Q1) + 2)) (V1 := V1) h5 h0 hx1 hB (by unfold tsR; rw [hs1]; dsimp only; rw [hre]) 1 _ _ _ _ _ hS_7 (fx_n (fx_tr (fx_F (fx_tr (fx_F fx_rf (by decide)) hx2 (by decide)) (by decide)) hx4 (by decide)) (by decide)) (by (try rw [(show (va_up n_4 21 ((n_4 21) + 1)) 21 = ((n_4 21) + 1) from rfl)]); (try rw [(show (va_up n_4 21 ((n_4 21) + 1)) 4 = (n 4) from ((hx4.1 4 (by decide)).trans (hx2.1 4 (by decide))))]); have q1_ := (T_add (rfl : ((n_4 21)).toInt = ((n_4 21)).toInt) (show (1 : Int32).toInt = 1 from rfl) (by omega)); omega) (by (try rw [(show (va_up n_4 21 ((n_4 21) + 1)) 21 = ((n_4 21) + 1) from rfl)]); have q1_ := (T_add (rfl : ((n_4 21)).toInt = ((n_4 21)).toInt) (show (1 : Int32).toInt = 1 from rfl) (by omega)); omega) hA2 (by omega) w13 (by omega) hof (by (try rw [(show (va_up n_4 21 ((n_4 21) + 1)) 22 = (n_2 22) from (hx4.1 22 (by decide)))]); omega) (by omega) (fun _ => (by (try rw [(show (va_up n_4 21 ((n_4 21) + 1)) 21 = ((n_4 21) + 1) from rfl)]); (try rw [(show (va_up n_4 21 ((n_4 21) + 1)) 4 = (n 4) from ((hx4.1 4 (by decide)).trans (hx2.1 4 (by decide))))]); have q1_ := (T_add (rfl : ((n_4 21)).toInt = ((n_4 21)).toInt) (show (1 : Int32).toInt = 1 from rfl) (by omega)); omega)) (Or.inr ⟨by decide, (by (try rw [(show (va_up n_4 21 ((n_4 21) + 1)) 21 = ((n_4 21) + 1) from rfl)]); have q1_ := (T_add (rfl : ((n_4 21)).toInt = ((n_4 21)).toInt) (show (1 : Int32).toInt = 1 from rfl) (by omega)); omega)⟩) (by decide)
          ·
            try simp only [mIn_0, lgc_lt, lgc_gt, lgc_le, lgc_ge, lgc_eq] at c_59
            try simp only [fl_lt, fl_le, fl_eq, fL_w, fL_lt, fL_le, tm1, tm10k, tm9, tm99, Int32.reduceToInt, Int64.reduceToInt, Int.not_lt, Int.not_le] at c_59
            refine gz_aload_n dX12_test_62 rfl rfl ?_
            refine gz_iconst (v := 0) dX12_test_63 (by decide) ?_
            refine gz_aload_n dX12_test_64 rfl rfl ?_
            refine mg_272 hS_4 dX12_test_65 ?_
            refine gz_ev (w := .int (n_4 21)) rfl ?_
            refine scX12_279 (k_X12_failsE (x := 0) (y := (n_4 21)) hS_4 (by (try rw [(show n_4 22 = (n_2 22) from (hx4.1 22 (by decide)))]); omega) (by (try rw [(show n_4 21 = (n_4 21) from rfl)]); (try rw [(show n_4 4 = (n 4) from ((hx4.1 4 (by decide)).trans (hx2.1 4 (by decide))))]); omega) (by decide)) hS_4.1 ⟨(Nat.le_of_ble_eq_true rfl), (Nat.le_of_ble_eq_true rfl)⟩ ⟨(Nat.le_of_ble_eq_true rfl), (Nat.le_of_ble_eq_true rfl)⟩ rfl rfl (Nat.le_of_ble_eq_true rfl) dX12_test_68 ?_
            rintro r_8 f_8 ⟨n_8, z_8, F_8, G_8, hS_8, hx8, hr_8, hf_8⟩
            try simp only [(show n_4 22 = (n_2 22) from (hx4.1 22 (by decide)))] at hr_8 hf_8
            simp only [Int32.reduceToInt] at hf_8
            have hre : reR (tX (F 3) (n 4)) Q1 = .inl (1 + 8 * (skR (tX (F 3) (n 4)) Q1)) := by unfold reR; (repeat' split) <;> first | rfl | (exfalso; omega)
            have hA3 : rAll F_8 := by
              intro q hq
              obtain ⟨qa0, qb0, qc0, qd0⟩ := hA q hq
              obtain ⟨qa1, qb1, qc1, qd1⟩ := hA_2 q hq
              rw [show F_8 13 = (upd (F 13) (Int32.toNatClampNeg x1) ((F 17) (Int32.toNatClampNeg (n 5)))) from ((hx8.2.2.1 13 (by decide)).trans ((hx4.2.2.1 13 (by decide)).trans (hx2.2.2.1 13 (by decide)))), show F_8 14 = (upd (F 14) (Int32.toNatClampNeg x1) ((F_2 17) (Int32.toNatClampNeg (n 5)))) from ((hx8.2.2.1 14 (by decide)).trans (hx4.2.2.1 14 (by decide))), show F_8 15 = (F 15) from ((hx8.2.2.1 15 (by decide)).trans ((hx4.2.2.1 15 (by decide)).trans (hx2.2.2.1 15 (by decide)))), show F_8 19 = (F_2 19) from ((hx8.2.2.1 19 (by decide)).trans (hx4.2.2.1 19 (by decide)))]
              refine ⟨?_, ?_, ?_, ?_⟩ <;> (try simp only [updE]) <;> (repeat' split) <;> first | omega | decide
            have hof : ∀ q, q ∈ [13, 14, 15] → ∀ i, i ≠ (Int32.toNatClampNeg x1) → F_8 q i = F q i := by
              intro q hq i hi
              simp only [List.mem_cons, List.not_mem_nil, or_false] at hq
              rcases hq with rfl | rfl | rfl
              · rw [show F_8 13 = (upd (F 13) (Int32.toNatClampNeg x1) ((F 17) (Int32.toNatClampNeg (n 5)))) from ((hx8.2.2.1 13 (by decide)).trans ((hx4.2.2.1 13 (by decide)).trans (hx2.2.2.1 13 (by decide)))), updE, if_neg hi]
              · rw [show F_8 14 = (upd (F 14) (Int32.toNatClampNeg x1) ((F_2 17) (Int32.toNatClampNeg (n 5)))) from ((hx8.2.2.1 14 (by decide)).trans (hx4.2.2.1 14 (by decide))), updE, if_neg hi]
              · rw [show F_8 15 = (F 15) from ((hx8.2.2.1 15 (by decide)).trans ((hx4.2.2.1 15 (by decide)).trans (hx2.2.2.1 15 (by decide))))]
            have e17 : (F_8 17 (Int32.toNatClampNeg (n 5))).toInt = ((F_2 17) (Int32.toNatClampNeg (n 5))).toInt := by rw [show F_8 17 = (F_2 17) from ((hx8.2.2.1 17 (by decide)).trans (hx4.2.2.1 17 (by decide)))]
            exact gz_zret rfl (by first | decide | exact nrb (Or.inl (by assumption)) | exact nrb (by assumption) | (refine nrb ?_; assumption)) dX12_test_71 (Nat.le_of_ble_eq_true rfl) (Nat.le_of_ble_eq_true rfl) (⟨_, rfl, _, _, _, _, hS_8, (fx_tr (fx_tr (fx_F (fx_tr (fx_F fx_rf (by decide)) hx2 (by decide)) (by decide)) hx4 (by decide)) hx8 (by decide)), (by first | exact Or.inl rfl | exact Or.inr rfl | assumption | (left; assumption)), (by (try rw [(show n_8 21 = (n_4 21) from (hx8.1 21 (by decide)))]); (try rw [(show n_8 4 = (n 4) from ((hx8.1 4 (by decide)).trans ((hx4.1 4 (by decide)).trans (hx2.1 4 (by decide)))))]); omega), (by (try rw [(show n_8 21 = (n_4 21) from (hx8.1 21 (by decide)))]); omega), hA3, (by omega), hof, (fun h => absurd (hr_8.symm.trans h) (by decide)), (by unfold tsR; rw [hs1]; dsimp only; rw [hre]; exact ⟨hr_8, (by (try rw [(show n_8 22 = (n_8 22) from rfl)]); omega)⟩)⟩)
    · exact absurd c_19 (by decide)
