/-! bytes -/
theorem by_all : ∀ j : Fin 256, ((Int32.ofInt ((j.val : Int) - 128)) &&& 255).toInt = (if 128 ≤ j.val then (j.val : Int) - 128 else (j.val : Int) + 128) := by decide +kernel
theorem by_and {x : Int32} (h : -128 ≤ x.toInt ∧ x.toInt ≤ 127) : (x &&& 255).toInt = (if 0 ≤ x.toInt then x.toInt else x.toInt + 256) := by
  have q := by_all ⟨(x.toInt + 128).toNat, by omega⟩
  have e : (((x.toInt + 128).toNat : Nat) : Int) - 128 = x.toInt := by omega
  dsimp only at q
  rw [e, Int32.ofInt_toInt] at q
  rw [q]
  by_cases c : 0 ≤ x.toInt
  · rw [if_pos c, if_pos (by omega)]
  · rw [if_neg c, if_neg (by omega)]; omega
/-- the TAPE as a text -/
def tX (g : Nat → Int32) (L : Int32) (k : Nat) : Int := if (k : Int) < L.toInt then (g k &&& 255).toInt else -1
def rB (F : Nat → Nat → Int32) : Prop := ∀ k, k < 400 → -128 ≤ (F 3 k).toInt ∧ (F 3 k).toInt ≤ 127
theorem tX_in {g : Nat → Int32} {L : Int32} {k : Nat} (h : (k : Int) < L.toInt) : tX g L k = (g k &&& 255).toInt := by unfold tX; rw [if_pos h]
theorem tX_out {g : Nat → Int32} {L : Int32} {k : Nat} (h : ¬ (k : Int) < L.toInt) : tX g L k = -1 := by unfold tX; rw [if_neg h]
theorem tX_by {g : Nat → Int32} {L : Int32} {k : Nat} (h : (k : Int) < L.toInt) (hb : -128 ≤ (g k).toInt ∧ (g k).toInt ≤ 127) : tX g L k = (if 0 ≤ (g k).toInt then (g k).toInt else (g k).toInt + 256) := by rw [tX_in h]; exact by_and hb
theorem tX_ln {g : Nat → Int32} {L : Int32} (h : 0 ≤ L.toInt ∧ L.toInt ≤ 400) : tLn (tX g L) L.toInt.toNat := ⟨by omega, fun q hq => tX_out (by omega)⟩
set_option maxHeartbeats 4000000 in
set_option maxRecDepth 100000 in
theorem l_X12_see_E {l : Launch} {D : va_G} {cy : Nat → ClassId} {b : Nat} {m : Nat} {a : Nat → Nat} {f0 : gMem} {n0 : Nat → Int32} {z0 : Nat → Int64} {F0 : Nat → Nat → Int32} {G0 : Nat → Nat → Int64}   (hB : rB F0) : ∀ (k : Nat)  (n : Nat → Int32) (z : Nat → Int64) (F : Nat → Nat → Int32) (G : Nat → Nat → Int64) (fm : gMem), mS cy m a f0 n z F G fm → fx [21] [] [] [] n0 z0 F0 G0 n z F G → ((0 ≤ (n 21).toInt ∧ (n 21).toInt ≤ (n 4).toInt ∧ (n 4).toInt ≤ 400)) → ((n0 21).toInt ≤ (n 21).toInt) → (skR (tX (F0 3) (n0 4)) (n 21).toInt.toNat = skR (tX (F0 3) (n0 4)) (n0 21).toInt.toNat) → ((n 4).toInt - (n 21).toInt < (k : Int)) → gG l (gRm 0 0 0) (gQf D b (pI fun r f2 => ∃ (n2 : Nat → Int32) (z2 : Nat → Int64) (F2 : Nat → Nat → Int32) (G2 : Nat → Nat → Int64), mS cy m a f0 n2 z2 F2 G2 f2 ∧ fx [21] [] [] [] n0 z0 F0 G0 n2 z2 F2 G2 ∧ (0 ≤ (n2 21).toInt ∧ (n2 21).toInt ≤ (n2 4).toInt ∧ (n2 4).toInt ≤ 400) ∧ (n0 21).toInt ≤ (n2 21).toInt ∧ (r.toInt = -1 ∨ (n2 21).toInt < (n2 4).toInt) ∧ (n2 21).toInt = (skR (tX (F0 3) (n0 4)) (n0 21).toInt.toNat : Int) ∧ r.toInt = (tX (F0 3) (n0 4)) (skR (tX (F0 3) (n0 4)) (n0 21).toInt.toNat)) 0 0) gTt D cy b cX12_see_ 1 (some .int) RX12 "see" 0 0 fm 0 [(0, .ref m)] [] := by
  intro k
  induction k with
  | zero =>
    intro n z F G fm hS hx hT hm hE hk
    exfalso; omega
  | succ k ih =>
    intro n z F G fm hS hx hT hm hE hk
    have e4 : n 4 = n0 4 := hx.1 4 (by decide)
    rw [e4] at hT hk
    obtain ⟨p, hp⟩ : ∃ p : Nat, (n 21).toInt = p := ⟨(n 21).toInt.toNat, by omega⟩
    have ep : (n 21).toInt.toNat = p := by omega
    have ec : (Int32.toNatClampNeg (n 21)) = p := by rw [clN]; omega
    rw [ep] at hE
    have hln := tX_ln (g := F0 3) (L := n0 4) (by omega)
    refine gz_aload_n dX12_see__0 rfl rfl ?_
    refine mg_272 hS dX12_see__1 ?_
    refine gz_aload_n dX12_see__4 rfl rfl ?_
    refine mg_262 hS dX12_see__5 ?_
    refine gz_ev (w := .int (n0 4)) (congrArg Value.int (hx.1 4 (by decide))) ?_
    refine gz_icmp_ge (tgt := 38) dX12_see__8 (by decide) (fun c_8 => ?_) (fun c_8 => ?_)
    ·
      try simp only [mIn_0, lgc_lt, lgc_gt, lgc_le, lgc_ge, lgc_eq] at c_8
      try simp only [fl_lt, fl_le, fl_eq, fL_w, fL_lt, fL_le, tm1, tm10k, tm9, tm99, Int32.reduceToInt, Int64.reduceToInt, Int.not_lt, Int.not_le] at c_8
      refine gz_aload_n dX12_see__38 rfl rfl ?_
      refine mg_272 hS dX12_see__39 ?_
      refine gz_aload_n dX12_see__42 rfl rfl ?_
      refine mg_262 hS dX12_see__43 ?_
      refine gz_ev (w := .int (n0 4)) (congrArg Value.int (hx.1 4 (by decide))) ?_
      refine gz_icmp_ge (tgt := 65) dX12_see__46 (by decide) (fun c_46 => ?_) (fun c_46 => ?_)
      ·
        try simp only [mIn_0, lgc_lt, lgc_gt, lgc_le, lgc_ge, lgc_eq] at c_46
        try simp only [fl_lt, fl_le, fl_eq, fL_w, fL_lt, fL_le, tm1, tm10k, tm9, tm99, Int32.reduceToInt, Int64.reduceToInt, Int.not_lt, Int.not_le] at c_46
        refine gz_iconst (v := (-1)) dX12_see__65 (by decide) ?_
        have h32n : (tX (F0 3) (n0 4)) p ≠ 32 := by rw [tX_out (by omega)]; decide
        exact gz_iret rfl dX12_see__66 (Nat.le_of_ble_eq_true rfl) (Nat.le_of_ble_eq_true rfl) (⟨_, rfl, _, _, _, _, hS, hx, (by (try rw [(show n 4 = (n0 4) from (hx.1 4 (by decide)))]); omega), hm, (by first | (left; rfl) | (right; (try rw [(show n 4 = (n0 4) from (hx.1 4 (by decide)))]); omega)), (by rw [← hE, skR_no h32n]; exact hp), (by rw [← hE, skR_no h32n, tX_out (by omega)]; rfl)⟩)
      ·
        try simp only [mIn_0, lgc_lt, lgc_gt, lgc_le, lgc_ge, lgc_eq] at c_46
        try simp only [fl_lt, fl_le, fl_eq, fL_w, fL_lt, fL_le, tm1, tm10k, tm9, tm99, Int32.reduceToInt, Int64.reduceToInt, Int.not_lt, Int.not_le] at c_46
        have hti : (tX (F0 3) (n0 4)) p = (if 0 ≤ (F0 3 (Int32.toNatClampNeg (n 21))).toInt then (F0 3 (Int32.toNatClampNeg (n 21))).toInt else (F0 3 (Int32.toNatClampNeg (n 21))).toInt + 256) := by rw [ec]; exact tX_by (by omega) (hB p (by omega))
        have hbb := hB (Int32.toNatClampNeg (n 21)) (by omega)
        refine gz_aload_n dX12_see__49 rfl rfl ?_
        refine mg_13 hS dX12_see__50 ?_
        refine gz_aload_n dX12_see__53 rfl rfl ?_
        refine mg_272 hS dX12_see__54 ?_
        refine m_bald 3 hS rfl (N := 400) rfl ((by exact vin_T (rfl : ((n 21)).toInt = ((n 21)).toInt) (by omega) (by omega))) dX12_see__57 ?_
        refine gz_ev (w := .int ((F0 3) (Int32.toNatClampNeg (n 21)))) (congrArg Value.int (congrFun (hx.2.2.1 3 (by decide)) _)) ?_
        refine gz_sipush (v := 255) dX12_see__58 (by decide) ?_
        refine gz_iand dX12_see__61 ?_
        refine gz_goto (tgt := 66) dX12_see__62 (by decide) ?_
        have h32n : (tX (F0 3) (n0 4)) p ≠ 32 := by rw [hti]; split <;> omega
        exact gz_iret rfl dX12_see__66 (Nat.le_of_ble_eq_true rfl) (Nat.le_of_ble_eq_true rfl) (⟨_, rfl, _, _, _, _, hS, hx, (by (try rw [(show n 4 = (n0 4) from (hx.1 4 (by decide)))]); omega), hm, (by first | (left; rfl) | (right; (try rw [(show n 4 = (n0 4) from (hx.1 4 (by decide)))]); omega)), (by rw [← hE, skR_no h32n]; exact hp), (by rw [← hE, skR_no h32n, tX_in (by omega), ← ec])⟩)
    ·
      try simp only [mIn_0, lgc_lt, lgc_gt, lgc_le, lgc_ge, lgc_eq] at c_8
      try simp only [fl_lt, fl_le, fl_eq, fL_w, fL_lt, fL_le, tm1, tm10k, tm9, tm99, Int32.reduceToInt, Int64.reduceToInt, Int.not_lt, Int.not_le] at c_8
      have hti : (tX (F0 3) (n0 4)) p = (if 0 ≤ (F0 3 (Int32.toNatClampNeg (n 21))).toInt then (F0 3 (Int32.toNatClampNeg (n 21))).toInt else (F0 3 (Int32.toNatClampNeg (n 21))).toInt + 256) := by rw [ec]; exact tX_by (by omega) (hB p (by omega))
      have hbb := hB (Int32.toNatClampNeg (n 21)) (by omega)
      refine gz_aload_n dX12_see__11 rfl rfl ?_
      refine mg_13 hS dX12_see__12 ?_
      refine gz_aload_n dX12_see__15 rfl rfl ?_
      refine mg_272 hS dX12_see__16 ?_
      refine m_bald 3 hS rfl (N := 400) rfl ((by exact vin_T (rfl : ((n 21)).toInt = ((n 21)).toInt) (by omega) (by omega))) dX12_see__19 ?_
      refine gz_ev (w := .int ((F0 3) (Int32.toNatClampNeg (n 21)))) (congrArg Value.int (congrFun (hx.2.2.1 3 (by decide)) _)) ?_
      refine gz_bipush (v := 32) dX12_see__20 (by decide) ?_
      refine gz_icmp_ne (tgt := 38) dX12_see__22 (by decide) (fun c_22 => ?_) (fun c_22 => ?_)
      ·
        try simp only [mIn_0, lgc_lt, lgc_gt, lgc_le, lgc_ge, lgc_eq] at c_22
        try simp only [fl_lt, fl_le, fl_eq, fL_w, fL_lt, fL_le, tm1, tm10k, tm9, tm99, Int32.reduceToInt, Int64.reduceToInt, Int.not_lt, Int.not_le] at c_22
        refine gz_aload_n dX12_see__38 rfl rfl ?_
        refine mg_272 hS dX12_see__39 ?_
        refine gz_aload_n dX12_see__42 rfl rfl ?_
        refine mg_262 hS dX12_see__43 ?_
        refine gz_ev (w := .int (n0 4)) (congrArg Value.int (hx.1 4 (by decide))) ?_
        refine gz_icmp_ge (tgt := 65) dX12_see__46 (by decide) (fun c_46 => ?_) (fun c_46 => ?_)
        ·
          try simp only [mIn_0, lgc_lt, lgc_gt, lgc_le, lgc_ge, lgc_eq] at c_46
          try simp only [fl_lt, fl_le, fl_eq, fL_w, fL_lt, fL_le, tm1, tm10k, tm9, tm99, Int32.reduceToInt, Int64.reduceToInt, Int.not_lt, Int.not_le] at c_46
          refine gz_iconst (v := (-1)) dX12_see__65 (by decide) ?_
          have h32n : (tX (F0 3) (n0 4)) p ≠ 32 := by rw [hti]; split <;> omega
          exact gz_iret rfl dX12_see__66 (Nat.le_of_ble_eq_true rfl) (Nat.le_of_ble_eq_true rfl) (⟨_, rfl, _, _, _, _, hS, hx, (by (try rw [(show n 4 = (n0 4) from (hx.1 4 (by decide)))]); omega), hm, (by first | (left; rfl) | (right; (try rw [(show n 4 = (n0 4) from (hx.1 4 (by decide)))]); omega)), (by rw [← hE, skR_no h32n]; exact hp), (by rw [← hE, skR_no h32n, tX_out (by omega)]; rfl)⟩)
        ·
          try simp only [mIn_0, lgc_lt, lgc_gt, lgc_le, lgc_ge, lgc_eq] at c_46
          try simp only [fl_lt, fl_le, fl_eq, fL_w, fL_lt, fL_le, tm1, tm10k, tm9, tm99, Int32.reduceToInt, Int64.reduceToInt, Int.not_lt, Int.not_le] at c_46
          refine gz_aload_n dX12_see__49 rfl rfl ?_
          refine mg_13 hS dX12_see__50 ?_
          refine gz_aload_n dX12_see__53 rfl rfl ?_
          refine mg_272 hS dX12_see__54 ?_
          refine m_bald 3 hS rfl (N := 400) rfl ((by exact vin_T (rfl : ((n 21)).toInt = ((n 21)).toInt) (by omega) (by omega))) dX12_see__57 ?_
          refine gz_ev (w := .int ((F0 3) (Int32.toNatClampNeg (n 21)))) (congrArg Value.int (congrFun (hx.2.2.1 3 (by decide)) _)) ?_
          refine gz_sipush (v := 255) dX12_see__58 (by decide) ?_
          refine gz_iand dX12_see__61 ?_
          refine gz_goto (tgt := 66) dX12_see__62 (by decide) ?_
          have h32n : (tX (F0 3) (n0 4)) p ≠ 32 := by rw [hti]; split <;> omega
          exact gz_iret rfl dX12_see__66 (Nat.le_of_ble_eq_true rfl) (Nat.le_of_ble_eq_true rfl) (⟨_, rfl, _, _, _, _, hS, hx, (by (try rw [(show n 4 = (n0 4) from (hx.1 4 (by decide)))]); omega), hm, (by first | (left; rfl) | (right; (try rw [(show n 4 = (n0 4) from (hx.1 4 (by decide)))]); omega)), (by rw [← hE, skR_no h32n]; exact hp), (by rw [← hE, skR_no h32n, tX_in (by omega), ← ec])⟩)
      ·
        try simp only [mIn_0, lgc_lt, lgc_gt, lgc_le, lgc_ge, lgc_eq] at c_22
        try simp only [fl_lt, fl_le, fl_eq, fL_w, fL_lt, fL_le, tm1, tm10k, tm9, tm99, Int32.reduceToInt, Int64.reduceToInt, Int.not_lt, Int.not_le] at c_22
        refine gz_aload_n dX12_see__25 rfl rfl ?_
        refine gz_dup dX12_see__26 rfl ?_
        refine mg_272 hS dX12_see__27 ?_
        refine gz_iconst (v := 1) dX12_see__30 (by decide) ?_
        refine gz_iadd dX12_see__31 ?_
        refine mp_272 hS dX12_see__32 (fun f_1 hS_1 => ?_)
        refine gz_goto (tgt := 0) dX12_see__35 (by decide) ?_
        refine gz_sub (lv' := [(0, .ref m)]) (by simp [List.lookup]) ?_
        have h32 : (tX (F0 3) (n0 4)) p = 32 := by rw [hti]; split <;> omega
        have qn : ((n 21) + 1).toInt = (p : Int) + 1 := by have q := T_add hp (show (1 : Int32).toInt = 1 from rfl) (by omega); exact q
        have hE2 : skR (tX (F0 3) (n0 4)) ((n 21) + 1).toInt.toNat = skR (tX (F0 3) (n0 4)) (n0 21).toInt.toNat := by rw [show ((n 21) + 1).toInt.toNat = p + 1 by omega, ← skR_st hln h32]; exact hE
        exact ih  _ _ _ _ _ hS_1 (fx_n hx (by decide)) ((by (try rw [(show (va_up n 21 ((n 21) + 1)) 21 = ((n 21) + 1) from rfl)]); (try rw [(show (va_up n 21 ((n 21) + 1)) 4 = (n0 4) from (hx.1 4 (by decide)))]); have q1_ := (T_add (rfl : ((n 21)).toInt = ((n 21)).toInt) (show (1 : Int32).toInt = 1 from rfl) (by omega)); omega)) ((by (try rw [(show (va_up n 21 ((n 21) + 1)) 21 = ((n 21) + 1) from rfl)]); have q1_ := (T_add (rfl : ((n 21)).toInt = ((n 21)).toInt) (show (1 : Int32).toInt = 1 from rfl) (by omega)); omega)) (hE2) ((by (try rw [(show (va_up n 21 ((n 21) + 1)) 21 = ((n 21) + 1) from rfl)]); (try rw [(show (va_up n 21 ((n 21) + 1)) 4 = (n0 4) from (hx.1 4 (by decide)))]); have q1_ := (T_add (rfl : ((n 21)).toInt = ((n 21)).toInt) (show (1 : Int32).toInt = 1 from rfl) (by omega)); omega))

set_option maxHeartbeats 4000000 in
set_option maxRecDepth 100000 in
theorem k_X12_see_E {l : Launch} {D : va_G} {cy : Nat → ClassId} {b : Nat} {f : gMem} {m : Nat} {a : Nat → Nat} {f0 : gMem} {n : Nat → Int32} {z : Nat → Int64} {F : Nat → Nat → Int32} {G : Nat → Nat → Int64}   (hS : mS cy m a f0 n z F G f) (hT : (0 ≤ (n 21).toInt ∧ (n 21).toInt ≤ (n 4).toInt ∧ (n 4).toInt ≤ 400)) (hB : rB F) : gC l D cy b yX12_see_ cX12_see_ 1 (some .int) 0 0 0 [.ref m] f (pI fun r f2 => ∃ (n2 : Nat → Int32) (z2 : Nat → Int64) (F2 : Nat → Nat → Int32) (G2 : Nat → Nat → Int64), mS cy m a f0 n2 z2 F2 G2 f2 ∧ fx [21] [] [] [] n z F G n2 z2 F2 G2 ∧ (0 ≤ (n2 21).toInt ∧ (n2 21).toInt ≤ (n2 4).toInt ∧ (n2 4).toInt ≤ 400) ∧ (n 21).toInt ≤ (n2 21).toInt ∧ (r.toInt = -1 ∨ (n2 21).toInt < (n2 4).toInt) ∧ (n2 21).toInt = (skR (tX (F 3) (n 4)) (n 21).toInt.toNat : Int) ∧ r.toInt = (tX (F 3) (n 4)) (skR (tX (F 3) (n 4)) (n 21).toInt.toNat)) := by
  refine gC_of (by decide) (Nat.le_of_ble_eq_true rfl) ?_
  show gG l _ _ _ D cy b cX12_see_ 1 _ RX12 "see" 0 0 f 0 [(0, .ref m)] []
  refine gz_sub (lv' := [(0, .ref m)]) (by simp [List.lookup]) ?_
  exact l_X12_see_E hB 402  _ _ _ _ _ hS fx_rf (hT) (Int.le_refl _) (rfl) (by omega)

set_option maxHeartbeats 4000000 in
set_option maxRecDepth 100000 in
theorem k_X12_isDigitE {l : Launch} {D : va_G} {cy : Nat → ClassId} {b : Nat} {f : gMem} {m : Nat} {a : Nat → Nat} {f0 : gMem} {n : Nat → Int32} {z : Nat → Int64} {F : Nat → Nat → Int32} {G : Nat → Nat → Int64}  {x : Int32} (hS : mS cy m a f0 n z F G f) (hx : 0 ≤ x.toInt) (h4 : (n 4).toInt ≤ 400) (hB : rB F) : gC l D cy b yX12_isDigit cX12_isDigit 2 (some .boolean) 0 0 0 [.ref m, .int x] f (pI fun r f2 => ((r = 0 ∧ ¬ (48 ≤ (tX (F 3) (n 4)) x.toInt.toNat ∧ (tX (F 3) (n 4)) x.toInt.toNat ≤ 57)) ∨ (r = 1 ∧ x.toInt < (n 4).toInt ∧ (48 ≤ (tX (F 3) (n 4)) x.toInt.toNat ∧ (tX (F 3) (n 4)) x.toInt.toNat ≤ 57) ∧ (tX (F 3) (n 4)) x.toInt.toNat = (F 3 (Int32.toNatClampNeg x)).toInt)) ∧ f2 = f) := by
  refine gC_of (by decide) (Nat.le_of_ble_eq_true rfl) ?_
  show gG l _ _ _ D cy b cX12_isDigit 2 _ RX12 "isDigit" 0 0 f 0 [(0, .ref m), (1, .int x)] []
  refine gz_iload_n dX12_isDigit_0 rfl rfl ?_
  refine gz_aload_n dX12_isDigit_1 rfl rfl ?_
  refine mg_262 hS dX12_isDigit_2 ?_
  refine gz_icmp_ge (tgt := 34) dX12_isDigit_5 (by decide) (fun c_5 => ?_) (fun c_5 => ?_)
  ·
    try simp only [mIn_0, lgc_lt, lgc_gt, lgc_le, lgc_ge, lgc_eq] at c_5
    try simp only [fl_lt, fl_le, fl_eq, fL_w, fL_lt, fL_le, tm1, tm10k, tm9, tm99, Int32.reduceToInt, Int64.reduceToInt, Int.not_lt, Int.not_le] at c_5
    refine gz_iconst (v := 0) dX12_isDigit_34 (by decide) ?_
    exact gz_zret rfl (by first | decide | exact nrb (by assumption) | exact nrb (Or.inl rfl) | exact nrb (Or.inr rfl)) dX12_isDigit_35 (Nat.le_of_ble_eq_true rfl) (Nat.le_of_ble_eq_true rfl) (⟨_, rfl, Or.inl ⟨rfl, (by rw [tX_out (by omega)]; omega)⟩, rfl⟩)
  ·
    try simp only [mIn_0, lgc_lt, lgc_gt, lgc_le, lgc_ge, lgc_eq] at c_5
    try simp only [fl_lt, fl_le, fl_eq, fL_w, fL_lt, fL_le, tm1, tm10k, tm9, tm99, Int32.reduceToInt, Int64.reduceToInt, Int.not_lt, Int.not_le] at c_5
    have hti : (tX (F 3) (n 4)) x.toInt.toNat = (if 0 ≤ (F 3 (Int32.toNatClampNeg x)).toInt then (F 3 (Int32.toNatClampNeg x)).toInt else (F 3 (Int32.toNatClampNeg x)).toInt + 256) := tX_by (by omega) (hB _ (by omega))
    have hbb := hB (Int32.toNatClampNeg x) (by rw [clN]; omega)
    refine gz_aload_n dX12_isDigit_8 rfl rfl ?_
    refine mg_13 hS dX12_isDigit_9 ?_
    refine gz_iload_n dX12_isDigit_12 rfl rfl ?_
    refine m_bald 3 hS rfl (N := 400) rfl ((by exact vin_T (rfl : (x).toInt = (x).toInt) (by omega) (by omega))) dX12_isDigit_13 ?_
    refine gz_bipush (v := 48) dX12_isDigit_14 (by decide) ?_
    refine gz_icmp_lt (tgt := 34) dX12_isDigit_16 (by decide) (fun c_16 => ?_) (fun c_16 => ?_)
    ·
      try simp only [mIn_0, lgc_lt, lgc_gt, lgc_le, lgc_ge, lgc_eq] at c_16
      try simp only [fl_lt, fl_le, fl_eq, fL_w, fL_lt, fL_le, tm1, tm10k, tm9, tm99, Int32.reduceToInt, Int64.reduceToInt, Int.not_lt, Int.not_le] at c_16
      refine gz_iconst (v := 0) dX12_isDigit_34 (by decide) ?_
      exact gz_zret rfl (by first | decide | exact nrb (by assumption) | exact nrb (Or.inl rfl) | exact nrb (Or.inr rfl)) dX12_isDigit_35 (Nat.le_of_ble_eq_true rfl) (Nat.le_of_ble_eq_true rfl) (⟨_, rfl, Or.inl ⟨rfl, (by rw [hti]; split <;> omega)⟩, rfl⟩)
    ·
      try simp only [mIn_0, lgc_lt, lgc_gt, lgc_le, lgc_ge, lgc_eq] at c_16
      try simp only [fl_lt, fl_le, fl_eq, fL_w, fL_lt, fL_le, tm1, tm10k, tm9, tm99, Int32.reduceToInt, Int64.reduceToInt, Int.not_lt, Int.not_le] at c_16
      refine gz_aload_n dX12_isDigit_19 rfl rfl ?_
      refine mg_13 hS dX12_isDigit_20 ?_
      refine gz_iload_n dX12_isDigit_23 rfl rfl ?_
      refine m_bald 3 hS rfl (N := 400) rfl ((by exact vin_T (rfl : (x).toInt = (x).toInt) (by omega) (by omega))) dX12_isDigit_24 ?_
      refine gz_bipush (v := 57) dX12_isDigit_25 (by decide) ?_
      refine gz_icmp_gt (tgt := 34) dX12_isDigit_27 (by decide) (fun c_27 => ?_) (fun c_27 => ?_)
      ·
        try simp only [mIn_0, lgc_lt, lgc_gt, lgc_le, lgc_ge, lgc_eq] at c_27
        try simp only [fl_lt, fl_le, fl_eq, fL_w, fL_lt, fL_le, tm1, tm10k, tm9, tm99, Int32.reduceToInt, Int64.reduceToInt, Int.not_lt, Int.not_le] at c_27
        refine gz_iconst (v := 0) dX12_isDigit_34 (by decide) ?_
        exact gz_zret rfl (by first | decide | exact nrb (by assumption) | exact nrb (Or.inl rfl) | exact nrb (Or.inr rfl)) dX12_isDigit_35 (Nat.le_of_ble_eq_true rfl) (Nat.le_of_ble_eq_true rfl) (⟨_, rfl, Or.inl ⟨rfl, (by rw [hti]; split <;> omega)⟩, rfl⟩)
      ·
        try simp only [mIn_0, lgc_lt, lgc_gt, lgc_le, lgc_ge, lgc_eq] at c_27
        try simp only [fl_lt, fl_le, fl_eq, fL_w, fL_lt, fL_le, tm1, tm10k, tm9, tm99, Int32.reduceToInt, Int64.reduceToInt, Int.not_lt, Int.not_le] at c_27
        refine gz_iconst (v := 1) dX12_isDigit_30 (by decide) ?_
        refine gz_goto (tgt := 35) dX12_isDigit_31 (by decide) ?_
        exact gz_zret rfl (by first | decide | exact nrb (by assumption) | exact nrb (Or.inl rfl) | exact nrb (Or.inr rfl)) dX12_isDigit_35 (Nat.le_of_ble_eq_true rfl) (Nat.le_of_ble_eq_true rfl) (⟨_, rfl, Or.inr ⟨rfl, by omega, (by rw [hti]; split <;> omega), (by rw [hti]; split <;> omega)⟩, rfl⟩)

set_option maxHeartbeats 4000000 in
set_option maxRecDepth 100000 in
theorem k_X12_isLetterE {l : Launch} {D : va_G} {cy : Nat → ClassId} {b : Nat} {f : gMem} {m : Nat} {a : Nat → Nat} {f0 : gMem} {n : Nat → Int32} {z : Nat → Int64} {F : Nat → Nat → Int32} {G : Nat → Nat → Int64}  {x : Int32} (hS : mS cy m a f0 n z F G f) (hx : 0 ≤ x.toInt) (h4 : (n 4).toInt ≤ 400) (hB : rB F) : gC l D cy b yX12_isLetter cX12_isLetter 2 (some .boolean) 0 0 0 [.ref m, .int x] f (pI fun r f2 => ((r = 0 ∧ ¬ (97 ≤ (tX (F 3) (n 4)) x.toInt.toNat ∧ (tX (F 3) (n 4)) x.toInt.toNat ≤ 122)) ∨ (r = 1 ∧ x.toInt < (n 4).toInt ∧ (97 ≤ (tX (F 3) (n 4)) x.toInt.toNat ∧ (tX (F 3) (n 4)) x.toInt.toNat ≤ 122) ∧ (tX (F 3) (n 4)) x.toInt.toNat = (F 3 (Int32.toNatClampNeg x)).toInt)) ∧ f2 = f) := by
  refine gC_of (by decide) (Nat.le_of_ble_eq_true rfl) ?_
  show gG l _ _ _ D cy b cX12_isLetter 2 _ RX12 "isLetter" 0 0 f 0 [(0, .ref m), (1, .int x)] []
  refine gz_iload_n dX12_isLetter_0 rfl rfl ?_
  refine gz_aload_n dX12_isLetter_1 rfl rfl ?_
  refine mg_262 hS dX12_isLetter_2 ?_
  refine gz_icmp_ge (tgt := 34) dX12_isLetter_5 (by decide) (fun c_5 => ?_) (fun c_5 => ?_)
  ·
    try simp only [mIn_0, lgc_lt, lgc_gt, lgc_le, lgc_ge, lgc_eq] at c_5
    try simp only [fl_lt, fl_le, fl_eq, fL_w, fL_lt, fL_le, tm1, tm10k, tm9, tm99, Int32.reduceToInt, Int64.reduceToInt, Int.not_lt, Int.not_le] at c_5
    refine gz_iconst (v := 0) dX12_isLetter_34 (by decide) ?_
    exact gz_zret rfl (by first | decide | exact nrb (by assumption) | exact nrb (Or.inl rfl) | exact nrb (Or.inr rfl)) dX12_isLetter_35 (Nat.le_of_ble_eq_true rfl) (Nat.le_of_ble_eq_true rfl) (⟨_, rfl, Or.inl ⟨rfl, (by rw [tX_out (by omega)]; omega)⟩, rfl⟩)
  ·
    try simp only [mIn_0, lgc_lt, lgc_gt, lgc_le, lgc_ge, lgc_eq] at c_5
    try simp only [fl_lt, fl_le, fl_eq, fL_w, fL_lt, fL_le, tm1, tm10k, tm9, tm99, Int32.reduceToInt, Int64.reduceToInt, Int.not_lt, Int.not_le] at c_5
    have hti : (tX (F 3) (n 4)) x.toInt.toNat = (if 0 ≤ (F 3 (Int32.toNatClampNeg x)).toInt then (F 3 (Int32.toNatClampNeg x)).toInt else (F 3 (Int32.toNatClampNeg x)).toInt + 256) := tX_by (by omega) (hB _ (by omega))
    have hbb := hB (Int32.toNatClampNeg x) (by rw [clN]; omega)
    refine gz_aload_n dX12_isLetter_8 rfl rfl ?_
    refine mg_13 hS dX12_isLetter_9 ?_
    refine gz_iload_n dX12_isLetter_12 rfl rfl ?_
    refine m_bald 3 hS rfl (N := 400) rfl ((by exact vin_T (rfl : (x).toInt = (x).toInt) (by omega) (by omega))) dX12_isLetter_13 ?_
    refine gz_bipush (v := 97) dX12_isLetter_14 (by decide) ?_
    refine gz_icmp_lt (tgt := 34) dX12_isLetter_16 (by decide) (fun c_16 => ?_) (fun c_16 => ?_)
    ·
      try simp only [mIn_0, lgc_lt, lgc_gt, lgc_le, lgc_ge, lgc_eq] at c_16
      try simp only [fl_lt, fl_le, fl_eq, fL_w, fL_lt, fL_le, tm1, tm10k, tm9, tm99, Int32.reduceToInt, Int64.reduceToInt, Int.not_lt, Int.not_le] at c_16
      refine gz_iconst (v := 0) dX12_isLetter_34 (by decide) ?_
      exact gz_zret rfl (by first | decide | exact nrb (by assumption) | exact nrb (Or.inl rfl) | exact nrb (Or.inr rfl)) dX12_isLetter_35 (Nat.le_of_ble_eq_true rfl) (Nat.le_of_ble_eq_true rfl) (⟨_, rfl, Or.inl ⟨rfl, (by rw [hti]; split <;> omega)⟩, rfl⟩)
    ·
      try simp only [mIn_0, lgc_lt, lgc_gt, lgc_le, lgc_ge, lgc_eq] at c_16
      try simp only [fl_lt, fl_le, fl_eq, fL_w, fL_lt, fL_le, tm1, tm10k, tm9, tm99, Int32.reduceToInt, Int64.reduceToInt, Int.not_lt, Int.not_le] at c_16
      refine gz_aload_n dX12_isLetter_19 rfl rfl ?_
      refine mg_13 hS dX12_isLetter_20 ?_
      refine gz_iload_n dX12_isLetter_23 rfl rfl ?_
      refine m_bald 3 hS rfl (N := 400) rfl ((by exact vin_T (rfl : (x).toInt = (x).toInt) (by omega) (by omega))) dX12_isLetter_24 ?_
      refine gz_bipush (v := 122) dX12_isLetter_25 (by decide) ?_
      refine gz_icmp_gt (tgt := 34) dX12_isLetter_27 (by decide) (fun c_27 => ?_) (fun c_27 => ?_)
      ·
        try simp only [mIn_0, lgc_lt, lgc_gt, lgc_le, lgc_ge, lgc_eq] at c_27
        try simp only [fl_lt, fl_le, fl_eq, fL_w, fL_lt, fL_le, tm1, tm10k, tm9, tm99, Int32.reduceToInt, Int64.reduceToInt, Int.not_lt, Int.not_le] at c_27
        refine gz_iconst (v := 0) dX12_isLetter_34 (by decide) ?_
        exact gz_zret rfl (by first | decide | exact nrb (by assumption) | exact nrb (Or.inl rfl) | exact nrb (Or.inr rfl)) dX12_isLetter_35 (Nat.le_of_ble_eq_true rfl) (Nat.le_of_ble_eq_true rfl) (⟨_, rfl, Or.inl ⟨rfl, (by rw [hti]; split <;> omega)⟩, rfl⟩)
      ·
        try simp only [mIn_0, lgc_lt, lgc_gt, lgc_le, lgc_ge, lgc_eq] at c_27
        try simp only [fl_lt, fl_le, fl_eq, fL_w, fL_lt, fL_le, tm1, tm10k, tm9, tm99, Int32.reduceToInt, Int64.reduceToInt, Int.not_lt, Int.not_le] at c_27
        refine gz_iconst (v := 1) dX12_isLetter_30 (by decide) ?_
        refine gz_goto (tgt := 35) dX12_isLetter_31 (by decide) ?_
        exact gz_zret rfl (by first | decide | exact nrb (by assumption) | exact nrb (Or.inl rfl) | exact nrb (Or.inr rfl)) dX12_isLetter_35 (Nat.le_of_ble_eq_true rfl) (Nat.le_of_ble_eq_true rfl) (⟨_, rfl, Or.inr ⟨rfl, by omega, (by rw [hti]; split <;> omega), (by rw [hti]; split <;> omega)⟩, rfl⟩)
