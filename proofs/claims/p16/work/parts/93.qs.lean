set_option maxHeartbeats 4000000 in
set_option maxRecDepth 100000 in
theorem k_X12_shorterC {l : Launch} {D : va_G} {cy : Nat → ClassId} {b : Nat} {f : gMem} {m : Nat} {a : Nat → Nat} {f0 : gMem} {n : Nat → Int32} {z : Nat → Int64} {F : Nat → Nat → Int32} {G : Nat → Nat → Int64}  {x1 : Int32} {Tf : Nat → List Hd} (hS : mS cy m a f0 n z F G f) (hR : RI n F) (hN : NR F) (hX : ∀ k : Nat, (k : Int) < (n 5).toInt → LX F k (Tf k)) : gC l D cy b yX12_shorter cX12_shorter 2 (some .int) 4 0 0 [.ref m, .int x1] f (pI fun r f2 => ∃ (n2 : Nat → Int32) (z2 : Nat → Int64) (F2 : Nat → Nat → Int32) (G2 : Nat → Nat → Int64), mS cy m a f0 n2 z2 F2 G2 f2 ∧ fx [5, 83] [] [6, 7, 8, 9, 10, 11, 12, 13, 14, 15, 16, 17, 18, 19, 20, 76, 77, 78, 79, 80, 81, 82, 84, 85, 86] [] n z F G n2 z2 F2 G2 ∧ RI n2 F2 ∧ NR F2 ∧ r = (if ((0 ≤ x1.toInt ∧ x1.toInt < (n 5).toInt) ∧ (n 5).toInt < 20) then n 5 else -1) ∧ (n2 5).toInt = (if ((0 ≤ x1.toInt ∧ x1.toInt < (n 5).toInt) ∧ (n 5).toInt < 20) then (n 5).toInt + 1 else (n 5).toInt) ∧ (∀ k : Nat, (k : Int) < (n 5).toInt → LX F2 k (Tf k)) ∧ (((0 ≤ x1.toInt ∧ x1.toInt < (n 5).toInt) ∧ (n 5).toInt < 20) → LX F2 (n 5).toInt.toNat (shT (Tf (Int32.toNatClampNeg x1))))) := by
  obtain ⟨a0, a4, a5, bA, bW, a30, bL, a38, bP, a53, a47, a88⟩ := id hR
  refine gC_of (by decide) (Nat.le_of_ble_eq_true rfl) ?_
  show gG l _ _ _ D cy b cX12_shorter 2 _ RX12 "shorter" 0 0 f 0 [(0, .ref m), (1, .int x1)] []
  refine gz_aload_n dX12_shorter_0 rfl rfl ?_
  refine gz_iload_n dX12_shorter_1 rfl rfl ?_
  refine scX12_337 (k_X12_isFormE (x1 := x1) hS ) hS.1 ⟨(Nat.le_of_ble_eq_true rfl), (Nat.le_of_ble_eq_true rfl)⟩ ⟨(Nat.le_of_ble_eq_true rfl), (Nat.le_of_ble_eq_true rfl)⟩ rfl rfl (Nat.le_of_ble_eq_true rfl) dX12_shorter_2 ?_
  rintro r_1 f9 ⟨hb_1, y9⟩; rw [y9]
  try rw [(show n 5 = (n 5) from rfl)] at hb_1
  have hbb_1 : r_1 = 0 ∨ r_1 = 1 := hb_1.imp And.left And.left
  simp only [fl_eq, Int32.reduceToInt] at hb_1
  refine gz_if_eq (tgt := 17) dX12_shorter_5 (by decide) (fun c_5 => ?_) (fun c_5 => ?_)
  ·
    try simp only [mIn_0, lgc_lt, lgc_gt, lgc_le, lgc_ge, lgc_eq] at c_5
    try simp only [fl_lt, fl_le, fl_eq, fL_w, fL_lt, fL_le, tm1, tm10k, tm9, tm99, Int32.reduceToInt, Int64.reduceToInt, Int.not_lt, Int.not_le] at c_5
    refine gz_iconst (v := (-1)) dX12_shorter_17 (by decide) ?_
    exact gz_iret rfl dX12_shorter_18 (Nat.le_of_ble_eq_true rfl) (Nat.le_of_ble_eq_true rfl) (⟨_, rfl, _, _, _, _, hS, fx_rf, hR, hN, (by rw [if_neg (by omega)]), (by rw [if_neg (by omega)]), hX, (fun z => by exfalso; omega)⟩)
  ·
    try simp only [mIn_0, lgc_lt, lgc_gt, lgc_le, lgc_ge, lgc_eq] at c_5
    try simp only [fl_lt, fl_le, fl_eq, fL_w, fL_lt, fL_le, tm1, tm10k, tm9, tm99, Int32.reduceToInt, Int64.reduceToInt, Int.not_lt, Int.not_le] at c_5
    refine gz_aload_n dX12_shorter_8 rfl rfl ?_
    refine mg_307 hS dX12_shorter_9 ?_
    refine gz_bipush (v := 20) dX12_shorter_12 (by decide) ?_
    refine gz_icmp_ne (tgt := 19) dX12_shorter_14 (by decide) (fun c_14 => ?_) (fun c_14 => ?_)
    ·
      try simp only [mIn_0, lgc_lt, lgc_gt, lgc_le, lgc_ge, lgc_eq] at c_14
      try simp only [fl_lt, fl_le, fl_eq, fL_w, fL_lt, fL_le, tm1, tm10k, tm9, tm99, Int32.reduceToInt, Int64.reduceToInt, Int.not_lt, Int.not_le] at c_14
      refine gz_aload_n dX12_shorter_19 rfl rfl ?_
      refine gz_iload_n dX12_shorter_20 rfl rfl ?_
      refine gz_iconst (v := 0) dX12_shorter_21 (by decide) ?_
      refine scX12_535 (k_X12_shortensE (x1 := x1) (x2 := 0) (T := (Tf (Int32.toNatClampNeg x1))) hS hR hN (by omega) (by decide) (hX _ (by rw [clN]; omega))) hS.1 ⟨(Nat.le_of_ble_eq_true rfl), (Nat.le_of_ble_eq_true rfl)⟩ ⟨(Nat.le_of_ble_eq_true rfl), (Nat.le_of_ble_eq_true rfl)⟩ rfl rfl (Nat.le_of_ble_eq_true rfl) dX12_shorter_22 ?_
      rintro f_2 ⟨n_2, z_2, F_2, G_2, hS_2, hx2, hN_2, hP_2, hou_2, hs_2⟩
      have hR1 := RI_fx hR hx2 (by decide) (by decide)
      obtain ⟨fo, hfo⟩ : ∃ fo : Nat, x1.toInt = fo := ⟨x1.toInt.toNat, by omega⟩
      have efo : Int32.toNatClampNeg x1 = fo := by rw [clN]; omega
      obtain ⟨ff, hf⟩ : ∃ ff : Nat, (n 5).toInt = ff := ⟨(n 5).toInt.toNat, by omega⟩
      rw [efo] at hP_2 hs_2
      have e60 : F_2 6 = F 6 := hx2.2.2.1 6 (by decide)
      have q40 := (bW fo (by omega)).1
      obtain ⟨Wn, hWn⟩ : ∃ Wn : Nat, (F 6 fo).toInt = Wn := ⟨(F 6 fo).toInt.toNat, by omega⟩
      have eWn : (F 6 fo).toInt.toNat = Wn := by omega
      rw [eWn] at hP_2
      have hP1 : SHp F_2 fo Wn 0 (-1) := hP_2
      have hrN : rN F_2 fo Wn 0 0 (F_2 82 0).toInt := (hP1.2 0 (by omega) (by omega)).2
      obtain ⟨HH, fi_, se_, hs0⟩ := hs_2
      have hE0 : shE F_2 fo 0 (Tf fo) HH fi_ se_ 0 := hs0
      have hXo := hX fo (by omega)
      have hln : (Tf fo).length ≤ 40 ∧ Wn = (Tf fo).length := ⟨hXo.1.2.2.2.1, by have z := hXo.2.1; omega⟩
      obtain ⟨R, e1_, e2_, e3_⟩ := hE0.2.1 0 (by omega) (by omega)
      have eR : (F_2 82 0).toInt = (R : Int) := e1_
      have e4_ : trG HH fi_ se_ 41 R = shT (Tf fo) := e3_
      have hdn : dnN F_2 0 Wn 0 R := by
        rcases e2_ with z | ⟨z1, z2, z3⟩
        · exact Or.inl z
        · exact Or.inr ⟨by omega, by omega, z3⟩
      have eRn : (F_2 82 0).toInt.toNat = R := by omega
      have hX1 : ∀ k : Nat, (k : Int) < (n 5).toInt → LX F_2 k (Tf k) := fun k hk => LX_cg (fun r h1 h2 => hx2.2.2.1 r (fun h => by simp only [List.mem_cons, List.not_mem_nil, or_false] at h; omega)) (hX k hk)
      refine gz_aload_n dX12_shorter_25 rfl rfl ?_
      refine gz_aload_n dX12_shorter_26 rfl rfl ?_
      refine mg_228 hS_2 dX12_shorter_27 ?_
      refine gz_iconst (v := 0) dX12_shorter_30 (by decide) ?_
      refine m_iald 82 hS_2 rfl (N := 82) rfl (vin_T (v := 0) rfl (by decide) (by decide)) dX12_shorter_31 ?_
      refine gz_ev (w := .int ((F_2 82) (Int32.toNatClampNeg 0))) rfl ?_
      refine gz_aload_n dX12_shorter_32 rfl rfl ?_
      refine mg_307 hS_2 dX12_shorter_33 ?_
      refine gz_ev (w := .int (n 5)) (congrArg Value.int (hx2.1 5 (by decide))) ?_
      refine scX12_538 (k_X12_laysOutE (x1 := ((F_2 82) (Int32.toNatClampNeg 0))) (x2 := (n 5)) (ff := ff) (fo := fo) (Wn := Wn) (TL := Tf fo) (H := HH) (fi := fi_) (se := se_) hS_2 ⟨hf, by omega, by omega, by omega⟩ hR1 (by rw [(show n_2 5 = (n 5) from (hx2.1 5 (by decide)))]; exact hf) (by rw [e60]; exact hWn) hP1 hrN hE0 hln (by show dnN F_2 0 Wn 0 (F_2 82 0).toInt.toNat; rw [eRn]; exact hdn)) hS_2.1 ⟨(Nat.le_of_ble_eq_true rfl), (Nat.le_of_ble_eq_true rfl)⟩ ⟨(Nat.le_of_ble_eq_true rfl), (Nat.le_of_ble_eq_true rfl)⟩ rfl rfl (Nat.le_of_ble_eq_true rfl) dX12_shorter_36 ?_
      rintro f_3 ⟨n_3, z_3, F_3, G_3, hS_3, hx3, hA_3, hfin_3, hg_3, hl_3, hw_3⟩
      try simp only [(show n_2 83 = (n 83) from (hx2.1 83 (by decide)))] at hA_3 hfin_3 hg_3 hl_3 hw_3
      have hN2 := NR_fx hN_2 hx3 (by decide)
      refine gz_aload_n dX12_shorter_39 rfl rfl ?_
      refine gz_dup dX12_shorter_40 rfl ?_
      refine mg_307 hS_3 dX12_shorter_41 ?_
      refine gz_ev (w := .int (n 5)) (congrArg Value.int ((hx3.1 5 (by decide)).trans (hx2.1 5 (by decide)))) ?_
      refine gz_iconst (v := 1) dX12_shorter_44 (by decide) ?_
      refine gz_iadd dX12_shorter_45 ?_
      refine mp_307 hS_3 dX12_shorter_46 (fun f_4 hS_4 => ?_)
      refine gz_aload_n dX12_shorter_49 rfl rfl ?_
      refine mg_307 hS_4 dX12_shorter_50 ?_
      refine gz_ev (w := .int ((n 5) + 1)) rfl ?_
      refine gz_iconst (v := 1) dX12_shorter_53 (by decide) ?_
      refine gz_isub dX12_shorter_54 ?_
      have hxx : fx [5, 83] [] [6, 7, 8, 9, 10, 11, 12, 13, 14, 15, 16, 17, 18, 19, 20, 76, 77, 78, 79, 80, 81, 82, 84, 85, 86] [] n z F G (va_up n_3 5 ((n 5) + 1)) z_3 F_3 G_3 := (fx_n (fx_tr (fx_tr fx_rf hx2 (by decide)) hx3 (by decide)) (by decide))
      have v5 : ((va_up n_3 5 ((n 5) + 1)) 5).toInt = (ff : Int) + 1 := by rw [(show (va_up n_3 5 ((n 5) + 1)) 5 = ((n 5) + 1) from rfl)]; have q := T_add hf (show (1 : Int32).toInt = 1 from rfl) (by omega); exact q
      have hx5 : fx [5, 83] [] [6, 7, 8, 9, 10, 11, 12, 13, 14, 15, 16, 17, 18, 19, 20, 84, 85, 86] [] n_2 z_2 F_2 G_2 (va_up n_3 5 ((n 5) + 1)) z_3 F_3 G_3 := (fx_n (fx_tr fx_rf hx3 (by decide)) (by decide))
      have hR2 : RI (va_up n_3 5 ((n 5) + 1)) F_3 := RI_lay hR1 (by rw [hx2.1 5 (by decide)]; exact hf) (by omega) hg_3 hA_3 hfin_3 v5 (fun k hk => hx5.1 k (by revert k; decide)) (fun k hk => hx5.2.2.1 k (by revert k; decide))
      have hl9 := hl_3
      change LR _ _ (tcC (trG HH fi_ se_ 41 (F_2 82 0).toInt.toNat)) (trG HH fi_ se_ 41 (F_2 82 0).toInt.toNat).length (nvT (trG HH fi_ se_ 41 (F_2 82 0).toInt.toNat)) ∧ _ = ((trG HH fi_ se_ 41 (F_2 82 0).toInt.toNat).length : Int) ∧ _ = (nvT (trG HH fi_ se_ 41 (F_2 82 0).toInt.toNat) : Int) ∧ (∀ k, k < (trG HH fi_ se_ 41 (F_2 82 0).toInt.toNat).length → _) at hl9
      rw [eRn, e4_] at hl9
      obtain ⟨l1, l2, l3, l4⟩ := hl9
      obtain ⟨-, g1, g2, g3, g4, g5⟩ := shT_ok hXo.1.1 hXo.1.2.2.1 hXo.1.2.1
      have hXn : LX F_3 ff (shT (Tf fo)) := LX_lay ⟨g1, g2, by omega, by have z := hXo.1.2.2.2.2; omega, g5⟩ l2 l1 l4
      have hXs : ∀ k : Nat, (k : Int) < (n 5).toInt → LX F_3 k (Tf k) := fun k hk => LX_lo (by omega) hw_3 (hg_3 k (by omega)) (hX1 k hk)
      have eff : (n 5).toInt.toNat = ff := by omega
      exact gz_iret rfl dX12_shorter_55 (Nat.le_of_ble_eq_true rfl) (Nat.le_of_ble_eq_true rfl) (⟨_, rfl, _, _, _, _, hS_4, hxx, hR2, hN2, (by rw [if_pos (by omega)]; exact Int32.toInt_inj.mp (by have q := T_sub v5 (show (1 : Int32).toInt = 1 from rfl) (by omega); first | (have z := v5; omega) | (have q2 := T_sub (T_add hf (show (1 : Int32).toInt = 1 from rfl) (by omega)) (show (1 : Int32).toInt = 1 from rfl) (by omega); omega))), (by rw [if_pos (by omega)]; omega), hXs, (fun _ => by rw [eff, efo]; exact hXn)⟩)
    ·
      try simp only [mIn_0, lgc_lt, lgc_gt, lgc_le, lgc_ge, lgc_eq] at c_14
      try simp only [fl_lt, fl_le, fl_eq, fL_w, fL_lt, fL_le, tm1, tm10k, tm9, tm99, Int32.reduceToInt, Int64.reduceToInt, Int.not_lt, Int.not_le] at c_14
      refine gz_iconst (v := (-1)) dX12_shorter_17 (by decide) ?_
      exact gz_iret rfl dX12_shorter_18 (Nat.le_of_ble_eq_true rfl) (Nat.le_of_ble_eq_true rfl) (⟨_, rfl, _, _, _, _, hS, fx_rf, hR, hN, (by rw [if_neg (by omega)]), (by rw [if_neg (by omega)]), hX, (fun z => by exfalso; omega)⟩)
