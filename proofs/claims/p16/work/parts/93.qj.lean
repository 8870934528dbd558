/-! the law of a node -/
/-- what lawOf answers for the node x (its head h): nb stands for nothing -/
def lawN (F : Nat → Nat → Int32) (h : Hd) (x : Nat) (nb r : Int) : Prop :=
  (h.1 = 0 → r = nb) ∧ (h.1 = 1 → r = x)
  ∧ (h.1 = 2 → ((F 78 x).toInt = nb → r = nb) ∧ ((F 78 x).toInt ≠ nb → ((F 76 (F 78 x).toInt.toNat).toInt = 2 → r = (F 78 (F 78 x).toInt.toNat).toInt) ∧ ((F 76 (F 78 x).toInt.toNat).toInt ≠ 2 → r = x)))
  ∧ (h.1 = 3 → ((F 78 x).toInt = nb → r = (F 79 x).toInt) ∧ ((F 78 x).toInt ≠ nb → ((F 79 x).toInt = nb → r = (F 78 x).toInt) ∧ ((F 79 x).toInt ≠ nb → r = x)))
  ∧ (h.1 = 4 ∨ h.1 = 5 → ((F 81 (F 78 x).toInt.toNat).toInt = (F 81 (F 79 x).toInt.toNat).toInt → r = (F 78 x).toInt) ∧ ((F 81 (F 78 x).toInt.toNat).toInt ≠ (F 81 (F 79 x).toInt.toNat).toInt → r = x))
  ∧ (h.1 = 9 → ((F 78 x).toInt = nb → r = nb) ∧ ((F 78 x).toInt ≠ nb → (alH h 0 → r = nb) ∧ (¬ alH h 0 → (alH h 1 → r = (F 78 x).toInt) ∧ (¬ alH h 1 → r = x))))
  ∧ (6 ≤ h.1 ∧ h.1 ≠ 9 → ((F 78 x).toInt = nb → r = nb) ∧ ((F 78 x).toInt ≠ nb → r = x))
theorem alH_cg {a b : Hd} {x : Int} (e : a.2.2 = b.2.2) : alH a x ↔ alH b x := by
  unfold alH
  rw [e]
theorem hd_pr {a b : Hd} (ha : hvH a) (hb : hvH b) (e1 : a.1 = b.1) (e2 : a.2.1 = b.2.1) (h : ¬ (6 ≤ a.1 ∧ a.1 ≤ 9)) : a = b := hd_eq e1 e2 (hd_ns ha hb e1 h)

set_option maxHeartbeats 4000000 in
set_option maxRecDepth 100000 in
theorem k_X12_areLikeE {l : Launch} {D : va_G} {cy : Nat → ClassId} {b : Nat} {f : gMem} {m : Nat} {a : Nat → Nat} {f0 : gMem} {n : Nat → Int32} {z : Nat → Int64} {F : Nat → Nat → Int32} {G : Nat → Nat → Int64}  {x1 x2 x3 : Int32} {fo go : Nat} {a_ b_ : Hd} (hS : mS cy m a f0 n z F G f) (bA : rAll F) (hN : NR F) (h1 : 0 ≤ x1.toInt ∧ x1.toInt < 82) (h2 : 0 ≤ x2.toInt ∧ x2.toInt < 82) (hf : fo < 20) (nA : nD F fo x1.toInt.toNat a_ ∨ (a_ = noH ∧ (F 76 x1.toInt.toNat).toInt = 0 ∧ (F 77 x1.toInt.toNat).toInt = -1)) (nB : nD F go x2.toInt.toNat b_ ∨ (b_ = noH ∧ (F 76 x2.toInt.toNat).toInt = 0 ∧ (F 77 x2.toInt.toNat).toInt = -1)) (hg : go < 20) : gC l D cy b yX12_areLike cX12_areLike 8 (some .boolean) 2 0 0 [.ref m, .int x1, .int x2, .int x3] f (pI fun r f2 => ((r = 1 ∧ alN F x3.toInt x1.toInt.toNat x2.toInt.toNat a_ b_) ∨ (r = 0 ∧ ¬ alN F x3.toInt x1.toInt.toNat x2.toInt.toNat a_ b_)) ∧ f2 = f) := by
  have q1 := NR_at hN h1
  have q2 := NR_at hN h2
  have ecx1 : Int32.toNatClampNeg x1 = x1.toInt.toNat := rfl
  have ecx2 : Int32.toNatClampNeg x2 = x2.toInt.toNat := rfl
  rw [← ecx1] at nA
  rw [← ecx2] at nB
  have pA : hvH a_ ∧ (F 76 (Int32.toNatClampNeg x1)).toInt = a_.1 ∧ (F 77 (Int32.toNatClampNeg x1)).toInt = a_.2.1 := by rcases nA with z | z; (exact ⟨z.1, z.2.1, z.2.2.1⟩); (rw [z.1, z.2.1, z.2.2]; exact ⟨noH_hv, rfl, rfl⟩)
  have pB : hvH b_ ∧ (F 76 (Int32.toNatClampNeg x2)).toInt = b_.1 ∧ (F 77 (Int32.toNatClampNeg x2)).toInt = b_.2.1 := by rcases nB with z | z; (exact ⟨z.1, z.2.1, z.2.2.1⟩); (rw [z.1, z.2.1, z.2.2]; exact ⟨noH_hv, rfl, rfl⟩)
  obtain ⟨vA, p76, p77⟩ := pA
  obtain ⟨vB, r76, r77⟩ := pB
  have kA := arH_k vA
  have gA := vA.1
  refine gC_of (by decide) (Nat.le_of_ble_eq_true rfl) ?_
  show gG l _ _ _ D cy b cX12_areLike 8 _ RX12 "areLike" 0 0 f 0 [(0, .ref m), (1, .int x1), (2, .int x2), (3, .int x3)] []
  refine gz_aload_n dX12_areLike_0 rfl rfl ?_
  refine mg_210 hS dX12_areLike_1 ?_
  refine gz_iload_n dX12_areLike_4 rfl rfl ?_
  refine m_iald 76 hS rfl (N := 82) rfl ((by exact vin_T (rfl : (x1).toInt = (x1).toInt) (by omega) (by omega))) dX12_areLike_5 ?_
  refine gz_aload_n dX12_areLike_6 rfl rfl ?_
  refine mg_210 hS dX12_areLike_7 ?_
  refine gz_iload_n dX12_areLike_10 rfl rfl ?_
  refine m_iald 76 hS rfl (N := 82) rfl ((by exact vin_T (rfl : (x2).toInt = (x2).toInt) (by omega) (by omega))) dX12_areLike_11 ?_
  refine gz_icmp_ne (tgt := 30) dX12_areLike_12 (by decide) (fun c_12 => ?_) (fun c_12 => ?_)
  ·
    try simp only [mIn_0, lgc_lt, lgc_gt, lgc_le, lgc_ge, lgc_eq] at c_12
    try simp only [fl_lt, fl_le, fl_eq, fL_w, fL_lt, fL_le, tm1, tm10k, tm9, tm99, Int32.reduceToInt, Int64.reduceToInt, Int.not_lt, Int.not_le] at c_12
    refine gz_iconst (v := 0) dX12_areLike_30 (by decide) ?_
    exact gz_zret rfl (by first | decide | exact nrb (by assumption) | exact nrb (Or.inl rfl) | exact nrb (Or.inr rfl)) dX12_areLike_31 (Nat.le_of_ble_eq_true rfl) (Nat.le_of_ble_eq_true rfl) (⟨_, rfl, Or.inr ⟨rfl, fun z => by have y := congrArg Prod.fst z.1; omega⟩, rfl⟩)
  ·
    try simp only [mIn_0, lgc_lt, lgc_gt, lgc_le, lgc_ge, lgc_eq] at c_12
    try simp only [fl_lt, fl_le, fl_eq, fL_w, fL_lt, fL_le, tm1, tm10k, tm9, tm99, Int32.reduceToInt, Int64.reduceToInt, Int.not_lt, Int.not_le] at c_12
    refine gz_aload_n dX12_areLike_15 rfl rfl ?_
    refine mg_213 hS dX12_areLike_16 ?_
    refine gz_iload_n dX12_areLike_19 rfl rfl ?_
    refine m_iald 77 hS rfl (N := 82) rfl ((by exact vin_T (rfl : (x1).toInt = (x1).toInt) (by omega) (by omega))) dX12_areLike_20 ?_
    refine gz_aload_n dX12_areLike_21 rfl rfl ?_
    refine mg_213 hS dX12_areLike_22 ?_
    refine gz_iload_n dX12_areLike_25 rfl rfl ?_
    refine m_iald 77 hS rfl (N := 82) rfl ((by exact vin_T (rfl : (x2).toInt = (x2).toInt) (by omega) (by omega))) dX12_areLike_26 ?_
    refine gz_icmp_eq (tgt := 32) dX12_areLike_27 (by decide) (fun c_27 => ?_) (fun c_27 => ?_)
    ·
      try simp only [mIn_0, lgc_lt, lgc_gt, lgc_le, lgc_ge, lgc_eq] at c_27
      try simp only [fl_lt, fl_le, fl_eq, fL_w, fL_lt, fL_le, tm1, tm10k, tm9, tm99, Int32.reduceToInt, Int64.reduceToInt, Int.not_lt, Int.not_le] at c_27
      refine gz_aload_n dX12_areLike_32 rfl rfl ?_
      refine mg_210 hS dX12_areLike_33 ?_
      refine gz_iload_n dX12_areLike_36 rfl rfl ?_
      refine m_iald 76 hS rfl (N := 82) rfl ((by exact vin_T (rfl : (x1).toInt = (x1).toInt) (by omega) (by omega))) dX12_areLike_37 ?_
      refine gz_if_eq (tgt := 51) dX12_areLike_38 (by decide) (fun c_38 => ?_) (fun c_38 => ?_)
      ·
        try simp only [mIn_0, lgc_lt, lgc_gt, lgc_le, lgc_ge, lgc_eq] at c_38
        try simp only [fl_lt, fl_le, fl_eq, fL_w, fL_lt, fL_le, tm1, tm10k, tm9, tm99, Int32.reduceToInt, Int64.reduceToInt, Int.not_lt, Int.not_le] at c_38
        refine gz_iconst (v := 1) dX12_areLike_51 (by decide) ?_
        exact gz_zret rfl (by first | decide | exact nrb (by assumption) | exact nrb (Or.inl rfl) | exact nrb (Or.inr rfl)) dX12_areLike_52 (Nat.le_of_ble_eq_true rfl) (Nat.le_of_ble_eq_true rfl) (⟨_, rfl, Or.inl ⟨rfl, hd_pr vA vB (by omega) (by omega) (by omega), fun z => by omega, fun z => by omega⟩, rfl⟩)
      ·
        try simp only [mIn_0, lgc_lt, lgc_gt, lgc_le, lgc_ge, lgc_eq] at c_38
        try simp only [fl_lt, fl_le, fl_eq, fL_w, fL_lt, fL_le, tm1, tm10k, tm9, tm99, Int32.reduceToInt, Int64.reduceToInt, Int.not_lt, Int.not_le] at c_38
        refine gz_aload_n dX12_areLike_41 rfl rfl ?_
        refine mg_210 hS dX12_areLike_42 ?_
        refine gz_iload_n dX12_areLike_45 rfl rfl ?_
        refine m_iald 76 hS rfl (N := 82) rfl ((by exact vin_T (rfl : (x1).toInt = (x1).toInt) (by omega) (by omega))) dX12_areLike_46 ?_
        refine gz_iconst (v := 1) dX12_areLike_47 (by decide) ?_
        refine gz_icmp_ne (tgt := 53) dX12_areLike_48 (by decide) (fun c_48 => ?_) (fun c_48 => ?_)
        ·
          try simp only [mIn_0, lgc_lt, lgc_gt, lgc_le, lgc_ge, lgc_eq] at c_48
          try simp only [fl_lt, fl_le, fl_eq, fL_w, fL_lt, fL_le, tm1, tm10k, tm9, tm99, Int32.reduceToInt, Int64.reduceToInt, Int.not_lt, Int.not_le] at c_48
          refine gz_aload_n dX12_areLike_53 rfl rfl ?_
          refine mg_225 hS dX12_areLike_54 ?_
          refine gz_aload_n dX12_areLike_57 rfl rfl ?_
          refine mg_216 hS dX12_areLike_58 ?_
          refine gz_iload_n dX12_areLike_61 rfl rfl ?_
          refine m_iald 78 hS rfl (N := 82) rfl ((by exact vin_T (rfl : (x1).toInt = (x1).toInt) (by omega) (by omega))) dX12_areLike_62 ?_
          refine m_iald 81 hS rfl (N := 82) rfl ((by exact vin_T (rfl : (((F 78) (Int32.toNatClampNeg x1))).toInt = (((F 78) (Int32.toNatClampNeg x1))).toInt) (by omega) (by omega))) dX12_areLike_63 ?_
          refine gz_istore (lv' := [(4, .int ((F 81) (Int32.toNatClampNeg ((F 78) (Int32.toNatClampNeg x1))))), (0, .ref m), (1, .int x1), (2, .int x2), (3, .int x3)]) dX12_areLike_64 (by decide) rfl ?_
          refine gz_aload_n dX12_areLike_66 rfl rfl ?_
          refine mg_225 hS dX12_areLike_67 ?_
          refine gz_aload_n dX12_areLike_70 rfl rfl ?_
          refine mg_216 hS dX12_areLike_71 ?_
          refine gz_iload_n dX12_areLike_74 rfl rfl ?_
          refine m_iald 78 hS rfl (N := 82) rfl ((by exact vin_T (rfl : (x2).toInt = (x2).toInt) (by omega) (by omega))) dX12_areLike_75 ?_
          refine m_iald 81 hS rfl (N := 82) rfl ((by exact vin_T (rfl : (((F 78) (Int32.toNatClampNeg x2))).toInt = (((F 78) (Int32.toNatClampNeg x2))).toInt) (by omega) (by omega))) dX12_areLike_76 ?_
          refine gz_istore (lv' := [(5, .int ((F 81) (Int32.toNatClampNeg ((F 78) (Int32.toNatClampNeg x2))))), (4, .int ((F 81) (Int32.toNatClampNeg ((F 78) (Int32.toNatClampNeg x1))))), (0, .ref m), (1, .int x1), (2, .int x2), (3, .int x3)]) dX12_areLike_77 (by decide) rfl ?_
          refine gz_aload_n dX12_areLike_79 rfl rfl ?_
          refine mg_210 hS dX12_areLike_80 ?_
          refine gz_iload_n dX12_areLike_83 rfl rfl ?_
          refine m_iald 76 hS rfl (N := 82) rfl ((by exact vin_T (rfl : (x1).toInt = (x1).toInt) (by omega) (by omega))) dX12_areLike_84 ?_
          refine gz_iconst (v := 3) dX12_areLike_85 (by decide) ?_
          refine gz_icmp_eq (tgt := 141) dX12_areLike_86 (by decide) (fun c_86 => ?_) (fun c_86 => ?_)
          ·
            try simp only [mIn_0, lgc_lt, lgc_gt, lgc_le, lgc_ge, lgc_eq] at c_86
            try simp only [fl_lt, fl_le, fl_eq, fL_w, fL_lt, fL_le, tm1, tm10k, tm9, tm99, Int32.reduceToInt, Int64.reduceToInt, Int.not_lt, Int.not_le] at c_86
            refine gz_aload_n dX12_areLike_141 rfl rfl ?_
            refine mg_225 hS dX12_areLike_142 ?_
            refine gz_aload_n dX12_areLike_145 rfl rfl ?_
            refine mg_219 hS dX12_areLike_146 ?_
            refine gz_iload_n dX12_areLike_149 rfl rfl ?_
            refine m_iald 79 hS rfl (N := 82) rfl ((by exact vin_T (rfl : (x1).toInt = (x1).toInt) (by omega) (by omega))) dX12_areLike_150 ?_
            refine m_iald 81 hS rfl (N := 82) rfl ((by exact vin_T (rfl : (((F 79) (Int32.toNatClampNeg x1))).toInt = (((F 79) (Int32.toNatClampNeg x1))).toInt) (by omega) (by omega))) dX12_areLike_151 ?_
            refine gz_istore (lv' := [(6, .int ((F 81) (Int32.toNatClampNeg ((F 79) (Int32.toNatClampNeg x1))))), (5, .int ((F 81) (Int32.toNatClampNeg ((F 78) (Int32.toNatClampNeg x2))))), (4, .int ((F 81) (Int32.toNatClampNeg ((F 78) (Int32.toNatClampNeg x1))))), (0, .ref m), (1, .int x1), (2, .int x2), (3, .int x3)]) dX12_areLike_152 (by decide) rfl ?_
            refine gz_aload_n dX12_areLike_154 rfl rfl ?_
            refine mg_225 hS dX12_areLike_155 ?_
            refine gz_aload_n dX12_areLike_158 rfl rfl ?_
            refine mg_219 hS dX12_areLike_159 ?_
            refine gz_iload_n dX12_areLike_162 rfl rfl ?_
            refine m_iald 79 hS rfl (N := 82) rfl ((by exact vin_T (rfl : (x2).toInt = (x2).toInt) (by omega) (by omega))) dX12_areLike_163 ?_
            refine m_iald 81 hS rfl (N := 82) rfl ((by exact vin_T (rfl : (((F 79) (Int32.toNatClampNeg x2))).toInt = (((F 79) (Int32.toNatClampNeg x2))).toInt) (by omega) (by omega))) dX12_areLike_164 ?_
            refine gz_istore (lv' := [(7, .int ((F 81) (Int32.toNatClampNeg ((F 79) (Int32.toNatClampNeg x2))))), (6, .int ((F 81) (Int32.toNatClampNeg ((F 79) (Int32.toNatClampNeg x1))))), (5, .int ((F 81) (Int32.toNatClampNeg ((F 78) (Int32.toNatClampNeg x2))))), (4, .int ((F 81) (Int32.toNatClampNeg ((F 78) (Int32.toNatClampNeg x1))))), (0, .ref m), (1, .int x1), (2, .int x2), (3, .int x3)]) dX12_areLike_165 (by decide) rfl ?_
            refine gz_iload dX12_areLike_167 rfl ?_
            refine gz_iload dX12_areLike_169 rfl ?_
            refine gz_icmp_ne (tgt := 181) dX12_areLike_171 (by decide) (fun c_171 => ?_) (fun c_171 => ?_)
            ·
              try simp only [mIn_0, lgc_lt, lgc_gt, lgc_le, lgc_ge, lgc_eq] at c_171
              try simp only [fl_lt, fl_le, fl_eq, fL_w, fL_lt, fL_le, tm1, tm10k, tm9, tm99, Int32.reduceToInt, Int64.reduceToInt, Int.not_lt, Int.not_le] at c_171
              refine gz_iload_n dX12_areLike_181 rfl rfl ?_
              refine gz_if_eq (tgt := 213) dX12_areLike_182 (by decide) (fun c_182 => ?_) (fun c_182 => ?_)
              ·
                try simp only [mIn_0, lgc_lt, lgc_gt, lgc_le, lgc_ge, lgc_eq] at c_182
                try simp only [fl_lt, fl_le, fl_eq, fL_w, fL_lt, fL_le, tm1, tm10k, tm9, tm99, Int32.reduceToInt, Int64.reduceToInt, Int.not_lt, Int.not_le] at c_182
                refine gz_iconst (v := 0) dX12_areLike_213 (by decide) ?_
                have u88 : (F 81 (F 78 x1.toInt.toNat).toInt.toNat).toInt = (F 81 (Int32.toNatClampNeg (F 78 (Int32.toNatClampNeg x1)))).toInt ∧ (F 81 (F 78 x2.toInt.toNat).toInt.toNat).toInt = (F 81 (Int32.toNatClampNeg (F 78 (Int32.toNatClampNeg x2)))).toInt := ⟨rfl, rfl⟩
                have u99 : (F 81 (F 79 x1.toInt.toNat).toInt.toNat).toInt = (F 81 (Int32.toNatClampNeg (F 79 (Int32.toNatClampNeg x1)))).toInt ∧ (F 81 (F 79 x2.toInt.toNat).toInt.toNat).toInt = (F 81 (Int32.toNatClampNeg (F 79 (Int32.toNatClampNeg x2)))).toInt := ⟨rfl, rfl⟩
                have u89 : (F 81 (F 78 x1.toInt.toNat).toInt.toNat).toInt = (F 81 (Int32.toNatClampNeg (F 78 (Int32.toNatClampNeg x1)))).toInt ∧ (F 81 (F 79 x2.toInt.toNat).toInt.toNat).toInt = (F 81 (Int32.toNatClampNeg (F 79 (Int32.toNatClampNeg x2)))).toInt := ⟨rfl, rfl⟩
                have u98 : (F 81 (F 79 x1.toInt.toNat).toInt.toNat).toInt = (F 81 (Int32.toNatClampNeg (F 79 (Int32.toNatClampNeg x1)))).toInt ∧ (F 81 (F 78 x2.toInt.toNat).toInt.toNat).toInt = (F 81 (Int32.toNatClampNeg (F 78 (Int32.toNatClampNeg x2)))).toInt := ⟨rfl, rfl⟩
                exact gz_zret rfl (by first | decide | exact nrb (by assumption) | exact nrb (Or.inl rfl) | exact nrb (Or.inr rfl)) dX12_areLike_214 (Nat.le_of_ble_eq_true rfl) (Nat.le_of_ble_eq_true rfl) (⟨_, rfl, Or.inr ⟨rfl, fun z => by
                  have z2 := z.2.2 (by omega)
                  rw [u88.1, u88.2, u99.1, u99.2] at z2
                  rcases z2 with z2 | z2 <;> omega⟩, rfl⟩)
              ·
                try simp only [mIn_0, lgc_lt, lgc_gt, lgc_le, lgc_ge, lgc_eq] at c_182
                try simp only [fl_lt, fl_le, fl_eq, fL_w, fL_lt, fL_le, tm1, tm10k, tm9, tm99, Int32.reduceToInt, Int64.reduceToInt, Int.not_lt, Int.not_le] at c_182
                refine gz_aload_n dX12_areLike_185 rfl rfl ?_
                refine mg_210 hS dX12_areLike_186 ?_
                refine gz_iload_n dX12_areLike_189 rfl rfl ?_
                refine m_iald 76 hS rfl (N := 82) rfl ((by exact vin_T (rfl : (x1).toInt = (x1).toInt) (by omega) (by omega))) dX12_areLike_190 ?_
                refine gz_iconst (v := 3) dX12_areLike_191 (by decide) ?_
                refine gz_icmp_ne (tgt := 213) dX12_areLike_192 (by decide) (fun c_192 => ?_) (fun c_192 => ?_)
                ·
                  try simp only [mIn_0, lgc_lt, lgc_gt, lgc_le, lgc_ge, lgc_eq] at c_192
                  try simp only [fl_lt, fl_le, fl_eq, fL_w, fL_lt, fL_le, tm1, tm10k, tm9, tm99, Int32.reduceToInt, Int64.reduceToInt, Int.not_lt, Int.not_le] at c_192
                  refine gz_iconst (v := 0) dX12_areLike_213 (by decide) ?_
                  have u88 : (F 81 (F 78 x1.toInt.toNat).toInt.toNat).toInt = (F 81 (Int32.toNatClampNeg (F 78 (Int32.toNatClampNeg x1)))).toInt ∧ (F 81 (F 78 x2.toInt.toNat).toInt.toNat).toInt = (F 81 (Int32.toNatClampNeg (F 78 (Int32.toNatClampNeg x2)))).toInt := ⟨rfl, rfl⟩
                  have u99 : (F 81 (F 79 x1.toInt.toNat).toInt.toNat).toInt = (F 81 (Int32.toNatClampNeg (F 79 (Int32.toNatClampNeg x1)))).toInt ∧ (F 81 (F 79 x2.toInt.toNat).toInt.toNat).toInt = (F 81 (Int32.toNatClampNeg (F 79 (Int32.toNatClampNeg x2)))).toInt := ⟨rfl, rfl⟩
                  have u89 : (F 81 (F 78 x1.toInt.toNat).toInt.toNat).toInt = (F 81 (Int32.toNatClampNeg (F 78 (Int32.toNatClampNeg x1)))).toInt ∧ (F 81 (F 79 x2.toInt.toNat).toInt.toNat).toInt = (F 81 (Int32.toNatClampNeg (F 79 (Int32.toNatClampNeg x2)))).toInt := ⟨rfl, rfl⟩
                  have u98 : (F 81 (F 79 x1.toInt.toNat).toInt.toNat).toInt = (F 81 (Int32.toNatClampNeg (F 79 (Int32.toNatClampNeg x1)))).toInt ∧ (F 81 (F 78 x2.toInt.toNat).toInt.toNat).toInt = (F 81 (Int32.toNatClampNeg (F 78 (Int32.toNatClampNeg x2)))).toInt := ⟨rfl, rfl⟩
                  exact gz_zret rfl (by first | decide | exact nrb (by assumption) | exact nrb (Or.inl rfl) | exact nrb (Or.inr rfl)) dX12_areLike_214 (Nat.le_of_ble_eq_true rfl) (Nat.le_of_ble_eq_true rfl) (⟨_, rfl, Or.inr ⟨rfl, fun z => by
                    have z2 := z.2.2 (by omega)
                    rw [u88.1, u88.2, u99.1, u99.2] at z2
                    rcases z2 with z2 | z2 <;> omega⟩, rfl⟩)
                ·
                  try simp only [mIn_0, lgc_lt, lgc_gt, lgc_le, lgc_ge, lgc_eq] at c_192
                  try simp only [fl_lt, fl_le, fl_eq, fL_w, fL_lt, fL_le, tm1, tm10k, tm9, tm99, Int32.reduceToInt, Int64.reduceToInt, Int.not_lt, Int.not_le] at c_192
                  refine gz_iload dX12_areLike_195 rfl ?_
                  refine gz_iload dX12_areLike_197 rfl ?_
                  refine gz_icmp_ne (tgt := 213) dX12_areLike_199 (by decide) (fun c_199 => ?_) (fun c_199 => ?_)
                  ·
                    try simp only [mIn_0, lgc_lt, lgc_gt, lgc_le, lgc_ge, lgc_eq] at c_199
                    try simp only [fl_lt, fl_le, fl_eq, fL_w, fL_lt, fL_le, tm1, tm10k, tm9, tm99, Int32.reduceToInt, Int64.reduceToInt, Int.not_lt, Int.not_le] at c_199
                    refine gz_iconst (v := 0) dX12_areLike_213 (by decide) ?_
                    have u88 : (F 81 (F 78 x1.toInt.toNat).toInt.toNat).toInt = (F 81 (Int32.toNatClampNeg (F 78 (Int32.toNatClampNeg x1)))).toInt ∧ (F 81 (F 78 x2.toInt.toNat).toInt.toNat).toInt = (F 81 (Int32.toNatClampNeg (F 78 (Int32.toNatClampNeg x2)))).toInt := ⟨rfl, rfl⟩
                    have u99 : (F 81 (F 79 x1.toInt.toNat).toInt.toNat).toInt = (F 81 (Int32.toNatClampNeg (F 79 (Int32.toNatClampNeg x1)))).toInt ∧ (F 81 (F 79 x2.toInt.toNat).toInt.toNat).toInt = (F 81 (Int32.toNatClampNeg (F 79 (Int32.toNatClampNeg x2)))).toInt := ⟨rfl, rfl⟩
                    have u89 : (F 81 (F 78 x1.toInt.toNat).toInt.toNat).toInt = (F 81 (Int32.toNatClampNeg (F 78 (Int32.toNatClampNeg x1)))).toInt ∧ (F 81 (F 79 x2.toInt.toNat).toInt.toNat).toInt = (F 81 (Int32.toNatClampNeg (F 79 (Int32.toNatClampNeg x2)))).toInt := ⟨rfl, rfl⟩
                    have u98 : (F 81 (F 79 x1.toInt.toNat).toInt.toNat).toInt = (F 81 (Int32.toNatClampNeg (F 79 (Int32.toNatClampNeg x1)))).toInt ∧ (F 81 (F 78 x2.toInt.toNat).toInt.toNat).toInt = (F 81 (Int32.toNatClampNeg (F 78 (Int32.toNatClampNeg x2)))).toInt := ⟨rfl, rfl⟩
                    exact gz_zret rfl (by first | decide | exact nrb (by assumption) | exact nrb (Or.inl rfl) | exact nrb (Or.inr rfl)) dX12_areLike_214 (Nat.le_of_ble_eq_true rfl) (Nat.le_of_ble_eq_true rfl) (⟨_, rfl, Or.inr ⟨rfl, fun z => by
                      have z2 := z.2.2 (by omega)
                      rw [u88.1, u88.2, u99.1, u99.2] at z2
                      rcases z2 with z2 | z2 <;> omega⟩, rfl⟩)
                  ·
                    try simp only [mIn_0, lgc_lt, lgc_gt, lgc_le, lgc_ge, lgc_eq] at c_199
                    try simp only [fl_lt, fl_le, fl_eq, fL_w, fL_lt, fL_le, tm1, tm10k, tm9, tm99, Int32.reduceToInt, Int64.reduceToInt, Int.not_lt, Int.not_le] at c_199
                    refine gz_iload dX12_areLike_202 rfl ?_
                    refine gz_iload dX12_areLike_204 rfl ?_
                    refine gz_icmp_ne (tgt := 213) dX12_areLike_206 (by decide) (fun c_206 => ?_) (fun c_206 => ?_)
                    ·
                      try simp only [mIn_0, lgc_lt, lgc_gt, lgc_le, lgc_ge, lgc_eq] at c_206
                      try simp only [fl_lt, fl_le, fl_eq, fL_w, fL_lt, fL_le, tm1, tm10k, tm9, tm99, Int32.reduceToInt, Int64.reduceToInt, Int.not_lt, Int.not_le] at c_206
                      refine gz_iconst (v := 0) dX12_areLike_213 (by decide) ?_
                      have u88 : (F 81 (F 78 x1.toInt.toNat).toInt.toNat).toInt = (F 81 (Int32.toNatClampNeg (F 78 (Int32.toNatClampNeg x1)))).toInt ∧ (F 81 (F 78 x2.toInt.toNat).toInt.toNat).toInt = (F 81 (Int32.toNatClampNeg (F 78 (Int32.toNatClampNeg x2)))).toInt := ⟨rfl, rfl⟩
                      have u99 : (F 81 (F 79 x1.toInt.toNat).toInt.toNat).toInt = (F 81 (Int32.toNatClampNeg (F 79 (Int32.toNatClampNeg x1)))).toInt ∧ (F 81 (F 79 x2.toInt.toNat).toInt.toNat).toInt = (F 81 (Int32.toNatClampNeg (F 79 (Int32.toNatClampNeg x2)))).toInt := ⟨rfl, rfl⟩
                      have u89 : (F 81 (F 78 x1.toInt.toNat).toInt.toNat).toInt = (F 81 (Int32.toNatClampNeg (F 78 (Int32.toNatClampNeg x1)))).toInt ∧ (F 81 (F 79 x2.toInt.toNat).toInt.toNat).toInt = (F 81 (Int32.toNatClampNeg (F 79 (Int32.toNatClampNeg x2)))).toInt := ⟨rfl, rfl⟩
                      have u98 : (F 81 (F 79 x1.toInt.toNat).toInt.toNat).toInt = (F 81 (Int32.toNatClampNeg (F 79 (Int32.toNatClampNeg x1)))).toInt ∧ (F 81 (F 78 x2.toInt.toNat).toInt.toNat).toInt = (F 81 (Int32.toNatClampNeg (F 78 (Int32.toNatClampNeg x2)))).toInt := ⟨rfl, rfl⟩
                      exact gz_zret rfl (by first | decide | exact nrb (by assumption) | exact nrb (Or.inl rfl) | exact nrb (Or.inr rfl)) dX12_areLike_214 (Nat.le_of_ble_eq_true rfl) (Nat.le_of_ble_eq_true rfl) (⟨_, rfl, Or.inr ⟨rfl, fun z => by
                        have z2 := z.2.2 (by omega)
                        rw [u88.1, u88.2, u99.1, u99.2] at z2
                        rcases z2 with z2 | z2 <;> omega⟩, rfl⟩)
                    ·
                      try simp only [mIn_0, lgc_lt, lgc_gt, lgc_le, lgc_ge, lgc_eq] at c_206
                      try simp only [fl_lt, fl_le, fl_eq, fL_w, fL_lt, fL_le, tm1, tm10k, tm9, tm99, Int32.reduceToInt, Int64.reduceToInt, Int.not_lt, Int.not_le] at c_206
                      refine gz_iconst (v := 1) dX12_areLike_209 (by decide) ?_
                      refine gz_goto (tgt := 214) dX12_areLike_210 (by decide) ?_
                      have e_ab : a_ = b_ := hd_pr vA vB (by omega) (by omega) (by omega)
                      exact gz_zret rfl (by first | decide | exact nrb (by assumption) | exact nrb (Or.inl rfl) | exact nrb (Or.inr rfl)) dX12_areLike_214 (Nat.le_of_ble_eq_true rfl) (Nat.le_of_ble_eq_true rfl) (⟨_, rfl, Or.inl ⟨rfl, e_ab, fun z => by omega, fun _ => Or.inr ⟨by omega, by omega, (show (F 81 (Int32.toNatClampNeg (F 78 (Int32.toNatClampNeg x1)))).toInt = (F 81 (Int32.toNatClampNeg (F 79 (Int32.toNatClampNeg x2)))).toInt by omega), (show (F 81 (Int32.toNatClampNeg (F 79 (Int32.toNatClampNeg x1)))).toInt = (F 81 (Int32.toNatClampNeg (F 78 (Int32.toNatClampNeg x2)))).toInt by omega)⟩⟩, rfl⟩)
            ·
              try simp only [mIn_0, lgc_lt, lgc_gt, lgc_le, lgc_ge, lgc_eq] at c_171
              try simp only [fl_lt, fl_le, fl_eq, fL_w, fL_lt, fL_le, tm1, tm10k, tm9, tm99, Int32.reduceToInt, Int64.reduceToInt, Int.not_lt, Int.not_le] at c_171
              refine gz_iload dX12_areLike_174 rfl ?_
              refine gz_iload dX12_areLike_176 rfl ?_
              refine gz_icmp_eq (tgt := 209) dX12_areLike_178 (by decide) (fun c_178 => ?_) (fun c_178 => ?_)
              ·
                try simp only [mIn_0, lgc_lt, lgc_gt, lgc_le, lgc_ge, lgc_eq] at c_178
                try simp only [fl_lt, fl_le, fl_eq, fL_w, fL_lt, fL_le, tm1, tm10k, tm9, tm99, Int32.reduceToInt, Int64.reduceToInt, Int.not_lt, Int.not_le] at c_178
                refine gz_iconst (v := 1) dX12_areLike_209 (by decide) ?_
                refine gz_goto (tgt := 214) dX12_areLike_210 (by decide) ?_
                have e_ab : a_ = b_ := hd_pr vA vB (by omega) (by omega) (by omega)
                exact gz_zret rfl (by first | decide | exact nrb (by assumption) | exact nrb (Or.inl rfl) | exact nrb (Or.inr rfl)) dX12_areLike_214 (Nat.le_of_ble_eq_true rfl) (Nat.le_of_ble_eq_true rfl) (⟨_, rfl, Or.inl ⟨rfl, e_ab, fun z => by omega, fun _ => Or.inl ⟨(show (F 81 (Int32.toNatClampNeg (F 78 (Int32.toNatClampNeg x1)))).toInt = (F 81 (Int32.toNatClampNeg (F 78 (Int32.toNatClampNeg x2)))).toInt by omega), (show (F 81 (Int32.toNatClampNeg (F 79 (Int32.toNatClampNeg x1)))).toInt = (F 81 (Int32.toNatClampNeg (F 79 (Int32.toNatClampNeg x2)))).toInt by omega)⟩⟩, rfl⟩)
              ·
                try simp only [mIn_0, lgc_lt, lgc_gt, lgc_le, lgc_ge, lgc_eq] at c_178
                try simp only [fl_lt, fl_le, fl_eq, fL_w, fL_lt, fL_le, tm1, tm10k, tm9, tm99, Int32.reduceToInt, Int64.reduceToInt, Int.not_lt, Int.not_le] at c_178
                refine gz_iload_n dX12_areLike_181 rfl rfl ?_
                refine gz_if_eq (tgt := 213) dX12_areLike_182 (by decide) (fun c_182 => ?_) (fun c_182 => ?_)
                ·
                  try simp only [mIn_0, lgc_lt, lgc_gt, lgc_le, lgc_ge, lgc_eq] at c_182
                  try simp only [fl_lt, fl_le, fl_eq, fL_w, fL_lt, fL_le, tm1, tm10k, tm9, tm99, Int32.reduceToInt, Int64.reduceToInt, Int.not_lt, Int.not_le] at c_182
                  refine gz_iconst (v := 0) dX12_areLike_213 (by decide) ?_
                  have u88 : (F 81 (F 78 x1.toInt.toNat).toInt.toNat).toInt = (F 81 (Int32.toNatClampNeg (F 78 (Int32.toNatClampNeg x1)))).toInt ∧ (F 81 (F 78 x2.toInt.toNat).toInt.toNat).toInt = (F 81 (Int32.toNatClampNeg (F 78 (Int32.toNatClampNeg x2)))).toInt := ⟨rfl, rfl⟩
                  have u99 : (F 81 (F 79 x1.toInt.toNat).toInt.toNat).toInt = (F 81 (Int32.toNatClampNeg (F 79 (Int32.toNatClampNeg x1)))).toInt ∧ (F 81 (F 79 x2.toInt.toNat).toInt.toNat).toInt = (F 81 (Int32.toNatClampNeg (F 79 (Int32.toNatClampNeg x2)))).toInt := ⟨rfl, rfl⟩
                  have u89 : (F 81 (F 78 x1.toInt.toNat).toInt.toNat).toInt = (F 81 (Int32.toNatClampNeg (F 78 (Int32.toNatClampNeg x1)))).toInt ∧ (F 81 (F 79 x2.toInt.toNat).toInt.toNat).toInt = (F 81 (Int32.toNatClampNeg (F 79 (Int32.toNatClampNeg x2)))).toInt := ⟨rfl, rfl⟩
                  have u98 : (F 81 (F 79 x1.toInt.toNat).toInt.toNat).toInt = (F 81 (Int32.toNatClampNeg (F 79 (Int32.toNatClampNeg x1)))).toInt ∧ (F 81 (F 78 x2.toInt.toNat).toInt.toNat).toInt = (F 81 (Int32.toNatClampNeg (F 78 (Int32.toNatClampNeg x2)))).toInt := ⟨rfl, rfl⟩
                  exact gz_zret rfl (by first | decide | exact nrb (by assumption) | exact nrb (Or.inl rfl) | exact nrb (Or.inr rfl)) dX12_areLike_214 (Nat.le_of_ble_eq_true rfl) (Nat.le_of_ble_eq_true rfl) (⟨_, rfl, Or.inr ⟨rfl, fun z => by
                    have z2 := z.2.2 (by omega)
                    rw [u88.1, u88.2, u99.1, u99.2] at z2
                    rcases z2 with z2 | z2 <;> omega⟩, rfl⟩)
                ·
                  try simp only [mIn_0, lgc_lt, lgc_gt, lgc_le, lgc_ge, lgc_eq] at c_182
                  try simp only [fl_lt, fl_le, fl_eq, fL_w, fL_lt, fL_le, tm1, tm10k, tm9, tm99, Int32.reduceToInt, Int64.reduceToInt, Int.not_lt, Int.not_le] at c_182
                  refine gz_aload_n dX12_areLike_185 rfl rfl ?_
                  refine mg_210 hS dX12_areLike_186 ?_
                  refine gz_iload_n dX12_areLike_189 rfl rfl ?_
                  refine m_iald 76 hS rfl (N := 82) rfl ((by exact vin_T (rfl : (x1).toInt = (x1).toInt) (by omega) (by omega))) dX12_areLike_190 ?_
                  refine gz_iconst (v := 3) dX12_areLike_191 (by decide) ?_
                  refine gz_icmp_ne (tgt := 213) dX12_areLike_192 (by decide) (fun c_192 => ?_) (fun c_192 => ?_)
                  ·
                    try simp only [mIn_0, lgc_lt, lgc_gt, lgc_le, lgc_ge, lgc_eq] at c_192
                    try simp only [fl_lt, fl_le, fl_eq, fL_w, fL_lt, fL_le, tm1, tm10k, tm9, tm99, Int32.reduceToInt, Int64.reduceToInt, Int.not_lt, Int.not_le] at c_192
                    refine gz_iconst (v := 0) dX12_areLike_213 (by decide) ?_
                    have u88 : (F 81 (F 78 x1.toInt.toNat).toInt.toNat).toInt = (F 81 (Int32.toNatClampNeg (F 78 (Int32.toNatClampNeg x1)))).toInt ∧ (F 81 (F 78 x2.toInt.toNat).toInt.toNat).toInt = (F 81 (Int32.toNatClampNeg (F 78 (Int32.toNatClampNeg x2)))).toInt := ⟨rfl, rfl⟩
                    have u99 : (F 81 (F 79 x1.toInt.toNat).toInt.toNat).toInt = (F 81 (Int32.toNatClampNeg (F 79 (Int32.toNatClampNeg x1)))).toInt ∧ (F 81 (F 79 x2.toInt.toNat).toInt.toNat).toInt = (F 81 (Int32.toNatClampNeg (F 79 (Int32.toNatClampNeg x2)))).toInt := ⟨rfl, rfl⟩
                    have u89 : (F 81 (F 78 x1.toInt.toNat).toInt.toNat).toInt = (F 81 (Int32.toNatClampNeg (F 78 (Int32.toNatClampNeg x1)))).toInt ∧ (F 81 (F 79 x2.toInt.toNat).toInt.toNat).toInt = (F 81 (Int32.toNatClampNeg (F 79 (Int32.toNatClampNeg x2)))).toInt := ⟨rfl, rfl⟩
                    have u98 : (F 81 (F 79 x1.toInt.toNat).toInt.toNat).toInt = (F 81 (Int32.toNatClampNeg (F 79 (Int32.toNatClampNeg x1)))).toInt ∧ (F 81 (F 78 x2.toInt.toNat).toInt.toNat).toInt = (F 81 (Int32.toNatClampNeg (F 78 (Int32.toNatClampNeg x2)))).toInt := ⟨rfl, rfl⟩
                    exact gz_zret rfl (by first | decide | exact nrb (by assumption) | exact nrb (Or.inl rfl) | exact nrb (Or.inr rfl)) dX12_areLike_214 (Nat.le_of_ble_eq_true rfl) (Nat.le_of_ble_eq_true rfl) (⟨_, rfl, Or.inr ⟨rfl, fun z => by
                      have z2 := z.2.2 (by omega)
                      rw [u88.1, u88.2, u99.1, u99.2] at z2
                      rcases z2 with z2 | z2 <;> omega⟩, rfl⟩)
                  ·
                    try simp only [mIn_0, lgc_lt, lgc_gt, lgc_le, lgc_ge, lgc_eq] at c_192
                    try simp only [fl_lt, fl_le, fl_eq, fL_w, fL_lt, fL_le, tm1, tm10k, tm9, tm99, Int32.reduceToInt, Int64.reduceToInt, Int.not_lt, Int.not_le] at c_192
                    refine gz_iload dX12_areLike_195 rfl ?_
                    refine gz_iload dX12_areLike_197 rfl ?_
                    refine gz_icmp_ne (tgt := 213) dX12_areLike_199 (by decide) (fun c_199 => ?_) (fun c_199 => ?_)
                    ·
                      try simp only [mIn_0, lgc_lt, lgc_gt, lgc_le, lgc_ge, lgc_eq] at c_199
                      try simp only [fl_lt, fl_le, fl_eq, fL_w, fL_lt, fL_le, tm1, tm10k, tm9, tm99, Int32.reduceToInt, Int64.reduceToInt, Int.not_lt, Int.not_le] at c_199
                      refine gz_iconst (v := 0) dX12_areLike_213 (by decide) ?_
                      have u88 : (F 81 (F 78 x1.toInt.toNat).toInt.toNat).toInt = (F 81 (Int32.toNatClampNeg (F 78 (Int32.toNatClampNeg x1)))).toInt ∧ (F 81 (F 78 x2.toInt.toNat).toInt.toNat).toInt = (F 81 (Int32.toNatClampNeg (F 78 (Int32.toNatClampNeg x2)))).toInt := ⟨rfl, rfl⟩
                      have u99 : (F 81 (F 79 x1.toInt.toNat).toInt.toNat).toInt = (F 81 (Int32.toNatClampNeg (F 79 (Int32.toNatClampNeg x1)))).toInt ∧ (F 81 (F 79 x2.toInt.toNat).toInt.toNat).toInt = (F 81 (Int32.toNatClampNeg (F 79 (Int32.toNatClampNeg x2)))).toInt := ⟨rfl, rfl⟩
                      have u89 : (F 81 (F 78 x1.toInt.toNat).toInt.toNat).toInt = (F 81 (Int32.toNatClampNeg (F 78 (Int32.toNatClampNeg x1)))).toInt ∧ (F 81 (F 79 x2.toInt.toNat).toInt.toNat).toInt = (F 81 (Int32.toNatClampNeg (F 79 (Int32.toNatClampNeg x2)))).toInt := ⟨rfl, rfl⟩
                      have u98 : (F 81 (F 79 x1.toInt.toNat).toInt.toNat).toInt = (F 81 (Int32.toNatClampNeg (F 79 (Int32.toNatClampNeg x1)))).toInt ∧ (F 81 (F 78 x2.toInt.toNat).toInt.toNat).toInt = (F 81 (Int32.toNatClampNeg (F 78 (Int32.toNatClampNeg x2)))).toInt := ⟨rfl, rfl⟩
                      exact gz_zret rfl (by first | decide | exact nrb (by assumption) | exact nrb (Or.inl rfl) | exact nrb (Or.inr rfl)) dX12_areLike_214 (Nat.le_of_ble_eq_true rfl) (Nat.le_of_ble_eq_true rfl) (⟨_, rfl, Or.inr ⟨rfl, fun z => by
                        have z2 := z.2.2 (by omega)
                        rw [u88.1, u88.2, u99.1, u99.2] at z2
                        rcases z2 with z2 | z2 <;> omega⟩, rfl⟩)
                    ·
                      try simp only [mIn_0, lgc_lt, lgc_gt, lgc_le, lgc_ge, lgc_eq] at c_199
                      try simp only [fl_lt, fl_le, fl_eq, fL_w, fL_lt, fL_le, tm1, tm10k, tm9, tm99, Int32.reduceToInt, Int64.reduceToInt, Int.not_lt, Int.not_le] at c_199
                      refine gz_iload dX12_areLike_202 rfl ?_
                      refine gz_iload dX12_areLike_204 rfl ?_
                      refine gz_icmp_ne (tgt := 213) dX12_areLike_206 (by decide) (fun c_206 => ?_) (fun c_206 => ?_)
                      ·
                        try simp only [mIn_0, lgc_lt, lgc_gt, lgc_le, lgc_ge, lgc_eq] at c_206
                        try simp only [fl_lt, fl_le, fl_eq, fL_w, fL_lt, fL_le, tm1, tm10k, tm9, tm99, Int32.reduceToInt, Int64.reduceToInt, Int.not_lt, Int.not_le] at c_206
                        refine gz_iconst (v := 0) dX12_areLike_213 (by decide) ?_
                        have u88 : (F 81 (F 78 x1.toInt.toNat).toInt.toNat).toInt = (F 81 (Int32.toNatClampNeg (F 78 (Int32.toNatClampNeg x1)))).toInt ∧ (F 81 (F 78 x2.toInt.toNat).toInt.toNat).toInt = (F 81 (Int32.toNatClampNeg (F 78 (Int32.toNatClampNeg x2)))).toInt := ⟨rfl, rfl⟩
                        have u99 : (F 81 (F 79 x1.toInt.toNat).toInt.toNat).toInt = (F 81 (Int32.toNatClampNeg (F 79 (Int32.toNatClampNeg x1)))).toInt ∧ (F 81 (F 79 x2.toInt.toNat).toInt.toNat).toInt = (F 81 (Int32.toNatClampNeg (F 79 (Int32.toNatClampNeg x2)))).toInt := ⟨rfl, rfl⟩
                        have u89 : (F 81 (F 78 x1.toInt.toNat).toInt.toNat).toInt = (F 81 (Int32.toNatClampNeg (F 78 (Int32.toNatClampNeg x1)))).toInt ∧ (F 81 (F 79 x2.toInt.toNat).toInt.toNat).toInt = (F 81 (Int32.toNatClampNeg (F 79 (Int32.toNatClampNeg x2)))).toInt := ⟨rfl, rfl⟩
                        have u98 : (F 81 (F 79 x1.toInt.toNat).toInt.toNat).toInt = (F 81 (Int32.toNatClampNeg (F 79 (Int32.toNatClampNeg x1)))).toInt ∧ (F 81 (F 78 x2.toInt.toNat).toInt.toNat).toInt = (F 81 (Int32.toNatClampNeg (F 78 (Int32.toNatClampNeg x2)))).toInt := ⟨rfl, rfl⟩
                        exact gz_zret rfl (by first | decide | exact nrb (by assumption) | exact nrb (Or.inl rfl) | exact nrb (Or.inr rfl)) dX12_areLike_214 (Nat.le_of_ble_eq_true rfl) (Nat.le_of_ble_eq_true rfl) (⟨_, rfl, Or.inr ⟨rfl, fun z => by
                          have z2 := z.2.2 (by omega)
                          rw [u88.1, u88.2, u99.1, u99.2] at z2
                          rcases z2 with z2 | z2 <;> omega⟩, rfl⟩)
                      ·
                        try simp only [mIn_0, lgc_lt, lgc_gt, lgc_le, lgc_ge, lgc_eq] at c_206
                        try simp only [fl_lt, fl_le, fl_eq, fL_w, fL_lt, fL_le, tm1, tm10k, tm9, tm99, Int32.reduceToInt, Int64.reduceToInt, Int.not_lt, Int.not_le] at c_206
                        refine gz_iconst (v := 1) dX12_areLike_209 (by decide) ?_
                        refine gz_goto (tgt := 214) dX12_areLike_210 (by decide) ?_
                        have e_ab : a_ = b_ := hd_pr vA vB (by omega) (by omega) (by omega)
                        exact gz_zret rfl (by first | decide | exact nrb (by assumption) | exact nrb (Or.inl rfl) | exact nrb (Or.inr rfl)) dX12_areLike_214 (Nat.le_of_ble_eq_true rfl) (Nat.le_of_ble_eq_true rfl) (⟨_, rfl, Or.inl ⟨rfl, e_ab, fun z => by omega, fun _ => Or.inr ⟨by omega, by omega, (show (F 81 (Int32.toNatClampNeg (F 78 (Int32.toNatClampNeg x1)))).toInt = (F 81 (Int32.toNatClampNeg (F 79 (Int32.toNatClampNeg x2)))).toInt by omega), (show (F 81 (Int32.toNatClampNeg (F 79 (Int32.toNatClampNeg x1)))).toInt = (F 81 (Int32.toNatClampNeg (F 78 (Int32.toNatClampNeg x2)))).toInt by omega)⟩⟩, rfl⟩)
          ·
            try simp only [mIn_0, lgc_lt, lgc_gt, lgc_le, lgc_ge, lgc_eq] at c_86
            try simp only [fl_lt, fl_le, fl_eq, fL_w, fL_lt, fL_le, tm1, tm10k, tm9, tm99, Int32.reduceToInt, Int64.reduceToInt, Int.not_lt, Int.not_le] at c_86
            refine gz_aload_n dX12_areLike_89 rfl rfl ?_
            refine mg_210 hS dX12_areLike_90 ?_
            refine gz_iload_n dX12_areLike_93 rfl rfl ?_
            refine m_iald 76 hS rfl (N := 82) rfl ((by exact vin_T (rfl : (x1).toInt = (x1).toInt) (by omega) (by omega))) dX12_areLike_94 ?_
            refine gz_iconst (v := 4) dX12_areLike_95 (by decide) ?_
            refine gz_icmp_eq (tgt := 141) dX12_areLike_96 (by decide) (fun c_96 => ?_) (fun c_96 => ?_)
            ·
              try simp only [mIn_0, lgc_lt, lgc_gt, lgc_le, lgc_ge, lgc_eq] at c_96
              try simp only [fl_lt, fl_le, fl_eq, fL_w, fL_lt, fL_le, tm1, tm10k, tm9, tm99, Int32.reduceToInt, Int64.reduceToInt, Int.not_lt, Int.not_le] at c_96
              refine gz_aload_n dX12_areLike_141 rfl rfl ?_
              refine mg_225 hS dX12_areLike_142 ?_
              refine gz_aload_n dX12_areLike_145 rfl rfl ?_
              refine mg_219 hS dX12_areLike_146 ?_
              refine gz_iload_n dX12_areLike_149 rfl rfl ?_
              refine m_iald 79 hS rfl (N := 82) rfl ((by exact vin_T (rfl : (x1).toInt = (x1).toInt) (by omega) (by omega))) dX12_areLike_150 ?_
              refine m_iald 81 hS rfl (N := 82) rfl ((by exact vin_T (rfl : (((F 79) (Int32.toNatClampNeg x1))).toInt = (((F 79) (Int32.toNatClampNeg x1))).toInt) (by omega) (by omega))) dX12_areLike_151 ?_
              refine gz_istore (lv' := [(6, .int ((F 81) (Int32.toNatClampNeg ((F 79) (Int32.toNatClampNeg x1))))), (5, .int ((F 81) (Int32.toNatClampNeg ((F 78) (Int32.toNatClampNeg x2))))), (4, .int ((F 81) (Int32.toNatClampNeg ((F 78) (Int32.toNatClampNeg x1))))), (0, .ref m), (1, .int x1), (2, .int x2), (3, .int x3)]) dX12_areLike_152 (by decide) rfl ?_
              refine gz_aload_n dX12_areLike_154 rfl rfl ?_
              refine mg_225 hS dX12_areLike_155 ?_
              refine gz_aload_n dX12_areLike_158 rfl rfl ?_
              refine mg_219 hS dX12_areLike_159 ?_
              refine gz_iload_n dX12_areLike_162 rfl rfl ?_
              refine m_iald 79 hS rfl (N := 82) rfl ((by exact vin_T (rfl : (x2).toInt = (x2).toInt) (by omega) (by omega))) dX12_areLike_163 ?_
              refine m_iald 81 hS rfl (N := 82) rfl ((by exact vin_T (rfl : (((F 79) (Int32.toNatClampNeg x2))).toInt = (((F 79) (Int32.toNatClampNeg x2))).toInt) (by omega) (by omega))) dX12_areLike_164 ?_
              refine gz_istore (lv' := [(7, .int ((F 81) (Int32.toNatClampNeg ((F 79) (Int32.toNatClampNeg x2))))), (6, .int ((F 81) (Int32.toNatClampNeg ((F 79) (Int32.toNatClampNeg x1))))), (5, .int ((F 81) (Int32.toNatClampNeg ((F 78) (Int32.toNatClampNeg x2))))), (4, .int ((F 81) (Int32.toNatClampNeg ((F 78) (Int32.toNatClampNeg x1))))), (0, .ref m), (1, .int x1), (2, .int x2), (3, .int x3)]) dX12_areLike_165 (by decide) rfl ?_
              refine gz_iload dX12_areLike_167 rfl ?_
              refine gz_iload dX12_areLike_169 rfl ?_
              refine gz_icmp_ne (tgt := 181) dX12_areLike_171 (by decide) (fun c_171 => ?_) (fun c_171 => ?_)
              ·
                try simp only [mIn_0, lgc_lt, lgc_gt, lgc_le, lgc_ge, lgc_eq] at c_171
                try simp only [fl_lt, fl_le, fl_eq, fL_w, fL_lt, fL_le, tm1, tm10k, tm9, tm99, Int32.reduceToInt, Int64.reduceToInt, Int.not_lt, Int.not_le] at c_171
                refine gz_iload_n dX12_areLike_181 rfl rfl ?_
                refine gz_if_eq (tgt := 213) dX12_areLike_182 (by decide) (fun c_182 => ?_) (fun c_182 => ?_)
                ·
                  try simp only [mIn_0, lgc_lt, lgc_gt, lgc_le, lgc_ge, lgc_eq] at c_182
                  try simp only [fl_lt, fl_le, fl_eq, fL_w, fL_lt, fL_le, tm1, tm10k, tm9, tm99, Int32.reduceToInt, Int64.reduceToInt, Int.not_lt, Int.not_le] at c_182
                  refine gz_iconst (v := 0) dX12_areLike_213 (by decide) ?_
                  have u88 : (F 81 (F 78 x1.toInt.toNat).toInt.toNat).toInt = (F 81 (Int32.toNatClampNeg (F 78 (Int32.toNatClampNeg x1)))).toInt ∧ (F 81 (F 78 x2.toInt.toNat).toInt.toNat).toInt = (F 81 (Int32.toNatClampNeg (F 78 (Int32.toNatClampNeg x2)))).toInt := ⟨rfl, rfl⟩
                  have u99 : (F 81 (F 79 x1.toInt.toNat).toInt.toNat).toInt = (F 81 (Int32.toNatClampNeg (F 79 (Int32.toNatClampNeg x1)))).toInt ∧ (F 81 (F 79 x2.toInt.toNat).toInt.toNat).toInt = (F 81 (Int32.toNatClampNeg (F 79 (Int32.toNatClampNeg x2)))).toInt := ⟨rfl, rfl⟩
                  have u89 : (F 81 (F 78 x1.toInt.toNat).toInt.toNat).toInt = (F 81 (Int32.toNatClampNeg (F 78 (Int32.toNatClampNeg x1)))).toInt ∧ (F 81 (F 79 x2.toInt.toNat).toInt.toNat).toInt = (F 81 (Int32.toNatClampNeg (F 79 (Int32.toNatClampNeg x2)))).toInt := ⟨rfl, rfl⟩
                  have u98 : (F 81 (F 79 x1.toInt.toNat).toInt.toNat).toInt = (F 81 (Int32.toNatClampNeg (F 79 (Int32.toNatClampNeg x1)))).toInt ∧ (F 81 (F 78 x2.toInt.toNat).toInt.toNat).toInt = (F 81 (Int32.toNatClampNeg (F 78 (Int32.toNatClampNeg x2)))).toInt := ⟨rfl, rfl⟩
                  exact gz_zret rfl (by first | decide | exact nrb (by assumption) | exact nrb (Or.inl rfl) | exact nrb (Or.inr rfl)) dX12_areLike_214 (Nat.le_of_ble_eq_true rfl) (Nat.le_of_ble_eq_true rfl) (⟨_, rfl, Or.inr ⟨rfl, fun z => by
                    have z2 := z.2.2 (by omega)
                    rw [u88.1, u88.2, u99.1, u99.2] at z2
                    rcases z2 with z2 | z2 <;> omega⟩, rfl⟩)
                ·
                  try simp only [mIn_0, lgc_lt, lgc_gt, lgc_le, lgc_ge, lgc_eq] at c_182
                  try simp only [fl_lt, fl_le, fl_eq, fL_w, fL_lt, fL_le, tm1, tm10k, tm9, tm99, Int32.reduceToInt, Int64.reduceToInt, Int.not_lt, Int.not_le] at c_182
                  refine gz_aload_n dX12_areLike_185 rfl rfl ?_
                  refine mg_210 hS dX12_areLike_186 ?_
                  refine gz_iload_n dX12_areLike_189 rfl rfl ?_
                  refine m_iald 76 hS rfl (N := 82) rfl ((by exact vin_T (rfl : (x1).toInt = (x1).toInt) (by omega) (by omega))) dX12_areLike_190 ?_
                  refine gz_iconst (v := 3) dX12_areLike_191 (by decide) ?_
                  refine gz_icmp_ne (tgt := 213) dX12_areLike_192 (by decide) (fun c_192 => ?_) (fun c_192 => ?_)
                  ·
                    try simp only [mIn_0, lgc_lt, lgc_gt, lgc_le, lgc_ge, lgc_eq] at c_192
                    try simp only [fl_lt, fl_le, fl_eq, fL_w, fL_lt, fL_le, tm1, tm10k, tm9, tm99, Int32.reduceToInt, Int64.reduceToInt, Int.not_lt, Int.not_le] at c_192
                    refine gz_iconst (v := 0) dX12_areLike_213 (by decide) ?_
                    have u88 : (F 81 (F 78 x1.toInt.toNat).toInt.toNat).toInt = (F 81 (Int32.toNatClampNeg (F 78 (Int32.toNatClampNeg x1)))).toInt ∧ (F 81 (F 78 x2.toInt.toNat).toInt.toNat).toInt = (F 81 (Int32.toNatClampNeg (F 78 (Int32.toNatClampNeg x2)))).toInt := ⟨rfl, rfl⟩
                    have u99 : (F 81 (F 79 x1.toInt.toNat).toInt.toNat).toInt = (F 81 (Int32.toNatClampNeg (F 79 (Int32.toNatClampNeg x1)))).toInt ∧ (F 81 (F 79 x2.toInt.toNat).toInt.toNat).toInt = (F 81 (Int32.toNatClampNeg (F 79 (Int32.toNatClampNeg x2)))).toInt := ⟨rfl, rfl⟩
                    have u89 : (F 81 (F 78 x1.toInt.toNat).toInt.toNat).toInt = (F 81 (Int32.toNatClampNeg (F 78 (Int32.toNatClampNeg x1)))).toInt ∧ (F 81 (F 79 x2.toInt.toNat).toInt.toNat).toInt = (F 81 (Int32.toNatClampNeg (F 79 (Int32.toNatClampNeg x2)))).toInt := ⟨rfl, rfl⟩
                    have u98 : (F 81 (F 79 x1.toInt.toNat).toInt.toNat).toInt = (F 81 (Int32.toNatClampNeg (F 79 (Int32.toNatClampNeg x1)))).toInt ∧ (F 81 (F 78 x2.toInt.toNat).toInt.toNat).toInt = (F 81 (Int32.toNatClampNeg (F 78 (Int32.toNatClampNeg x2)))).toInt := ⟨rfl, rfl⟩
                    exact gz_zret rfl (by first | decide | exact nrb (by assumption) | exact nrb (Or.inl rfl) | exact nrb (Or.inr rfl)) dX12_areLike_214 (Nat.le_of_ble_eq_true rfl) (Nat.le_of_ble_eq_true rfl) (⟨_, rfl, Or.inr ⟨rfl, fun z => by
                      have z2 := z.2.2 (by omega)
                      rw [u88.1, u88.2, u99.1, u99.2] at z2
                      rcases z2 with z2 | z2 <;> omega⟩, rfl⟩)
                  ·
                    try simp only [mIn_0, lgc_lt, lgc_gt, lgc_le, lgc_ge, lgc_eq] at c_192
                    try simp only [fl_lt, fl_le, fl_eq, fL_w, fL_lt, fL_le, tm1, tm10k, tm9, tm99, Int32.reduceToInt, Int64.reduceToInt, Int.not_lt, Int.not_le] at c_192
                    refine gz_iload dX12_areLike_195 rfl ?_
                    refine gz_iload dX12_areLike_197 rfl ?_
                    refine gz_icmp_ne (tgt := 213) dX12_areLike_199 (by decide) (fun c_199 => ?_) (fun c_199 => ?_)
                    ·
                      try simp only [mIn_0, lgc_lt, lgc_gt, lgc_le, lgc_ge, lgc_eq] at c_199
                      try simp only [fl_lt, fl_le, fl_eq, fL_w, fL_lt, fL_le, tm1, tm10k, tm9, tm99, Int32.reduceToInt, Int64.reduceToInt, Int.not_lt, Int.not_le] at c_199
                      refine gz_iconst (v := 0) dX12_areLike_213 (by decide) ?_
                      have u88 : (F 81 (F 78 x1.toInt.toNat).toInt.toNat).toInt = (F 81 (Int32.toNatClampNeg (F 78 (Int32.toNatClampNeg x1)))).toInt ∧ (F 81 (F 78 x2.toInt.toNat).toInt.toNat).toInt = (F 81 (Int32.toNatClampNeg (F 78 (Int32.toNatClampNeg x2)))).toInt := ⟨rfl, rfl⟩
                      have u99 : (F 81 (F 79 x1.toInt.toNat).toInt.toNat).toInt = (F 81 (Int32.toNatClampNeg (F 79 (Int32.toNatClampNeg x1)))).toInt ∧ (F 81 (F 79 x2.toInt.toNat).toInt.toNat).toInt = (F 81 (Int32.toNatClampNeg (F 79 (Int32.toNatClampNeg x2)))).toInt := ⟨rfl, rfl⟩
                      have u89 : (F 81 (F 78 x1.toInt.toNat).toInt.toNat).toInt = (F 81 (Int32.toNatClampNeg (F 78 (Int32.toNatClampNeg x1)))).toInt ∧ (F 81 (F 79 x2.toInt.toNat).toInt.toNat).toInt = (F 81 (Int32.toNatClampNeg (F 79 (Int32.toNatClampNeg x2)))).toInt := ⟨rfl, rfl⟩
                      have u98 : (F 81 (F 79 x1.toInt.toNat).toInt.toNat).toInt = (F 81 (Int32.toNatClampNeg (F 79 (Int32.toNatClampNeg x1)))).toInt ∧ (F 81 (F 78 x2.toInt.toNat).toInt.toNat).toInt = (F 81 (Int32.toNatClampNeg (F 78 (Int32.toNatClampNeg x2)))).toInt := ⟨rfl, rfl⟩
                      exact gz_zret rfl (by first | decide | exact nrb (by assumption) | exact nrb (Or.inl rfl) | exact nrb (Or.inr rfl)) dX12_areLike_214 (Nat.le_of_ble_eq_true rfl) (Nat.le_of_ble_eq_true rfl) (⟨_, rfl, Or.inr ⟨rfl, fun z => by
                        have z2 := z.2.2 (by omega)
                        rw [u88.1, u88.2, u99.1, u99.2] at z2
                        rcases z2 with z2 | z2 <;> omega⟩, rfl⟩)
                    ·
                      try simp only [mIn_0, lgc_lt, lgc_gt, lgc_le, lgc_ge, lgc_eq] at c_199
                      try simp only [fl_lt, fl_le, fl_eq, fL_w, fL_lt, fL_le, tm1, tm10k, tm9, tm99, Int32.reduceToInt, Int64.reduceToInt, Int.not_lt, Int.not_le] at c_199
                      refine gz_iload dX12_areLike_202 rfl ?_
                      refine gz_iload dX12_areLike_204 rfl ?_
                      refine gz_icmp_ne (tgt := 213) dX12_areLike_206 (by decide) (fun c_206 => ?_) (fun c_206 => ?_)
                      ·
                        try simp only [mIn_0, lgc_lt, lgc_gt, lgc_le, lgc_ge, lgc_eq] at c_206
                        try simp only [fl_lt, fl_le, fl_eq, fL_w, fL_lt, fL_le, tm1, tm10k, tm9, tm99, Int32.reduceToInt, Int64.reduceToInt, Int.not_lt, Int.not_le] at c_206
                        refine gz_iconst (v := 0) dX12_areLike_213 (by decide) ?_
                        have u88 : (F 81 (F 78 x1.toInt.toNat).toInt.toNat).toInt = (F 81 (Int32.toNatClampNeg (F 78 (Int32.toNatClampNeg x1)))).toInt ∧ (F 81 (F 78 x2.toInt.toNat).toInt.toNat).toInt = (F 81 (Int32.toNatClampNeg (F 78 (Int32.toNatClampNeg x2)))).toInt := ⟨rfl, rfl⟩
                        have u99 : (F 81 (F 79 x1.toInt.toNat).toInt.toNat).toInt = (F 81 (Int32.toNatClampNeg (F 79 (Int32.toNatClampNeg x1)))).toInt ∧ (F 81 (F 79 x2.toInt.toNat).toInt.toNat).toInt = (F 81 (Int32.toNatClampNeg (F 79 (Int32.toNatClampNeg x2)))).toInt := ⟨rfl, rfl⟩
                        have u89 : (F 81 (F 78 x1.toInt.toNat).toInt.toNat).toInt = (F 81 (Int32.toNatClampNeg (F 78 (Int32.toNatClampNeg x1)))).toInt ∧ (F 81 (F 79 x2.toInt.toNat).toInt.toNat).toInt = (F 81 (Int32.toNatClampNeg (F 79 (Int32.toNatClampNeg x2)))).toInt := ⟨rfl, rfl⟩
                        have u98 : (F 81 (F 79 x1.toInt.toNat).toInt.toNat).toInt = (F 81 (Int32.toNatClampNeg (F 79 (Int32.toNatClampNeg x1)))).toInt ∧ (F 81 (F 78 x2.toInt.toNat).toInt.toNat).toInt = (F 81 (Int32.toNatClampNeg (F 78 (Int32.toNatClampNeg x2)))).toInt := ⟨rfl, rfl⟩
                        exact gz_zret rfl (by first | decide | exact nrb (by assumption) | exact nrb (Or.inl rfl) | exact nrb (Or.inr rfl)) dX12_areLike_214 (Nat.le_of_ble_eq_true rfl) (Nat.le_of_ble_eq_true rfl) (⟨_, rfl, Or.inr ⟨rfl, fun z => by
                          have z2 := z.2.2 (by omega)
                          rw [u88.1, u88.2, u99.1, u99.2] at z2
                          rcases z2 with z2 | z2 <;> omega⟩, rfl⟩)
                      ·
                        try simp only [mIn_0, lgc_lt, lgc_gt, lgc_le, lgc_ge, lgc_eq] at c_206
                        try simp only [fl_lt, fl_le, fl_eq, fL_w, fL_lt, fL_le, tm1, tm10k, tm9, tm99, Int32.reduceToInt, Int64.reduceToInt, Int.not_lt, Int.not_le] at c_206
                        refine gz_iconst (v := 1) dX12_areLike_209 (by decide) ?_
                        refine gz_goto (tgt := 214) dX12_areLike_210 (by decide) ?_
                        have e_ab : a_ = b_ := hd_pr vA vB (by omega) (by omega) (by omega)
                        exact gz_zret rfl (by first | decide | exact nrb (by assumption) | exact nrb (Or.inl rfl) | exact nrb (Or.inr rfl)) dX12_areLike_214 (Nat.le_of_ble_eq_true rfl) (Nat.le_of_ble_eq_true rfl) (⟨_, rfl, Or.inl ⟨rfl, e_ab, fun z => by omega, fun _ => Or.inr ⟨by omega, by omega, (show (F 81 (Int32.toNatClampNeg (F 78 (Int32.toNatClampNeg x1)))).toInt = (F 81 (Int32.toNatClampNeg (F 79 (Int32.toNatClampNeg x2)))).toInt by omega), (show (F 81 (Int32.toNatClampNeg (F 79 (Int32.toNatClampNeg x1)))).toInt = (F 81 (Int32.toNatClampNeg (F 78 (Int32.toNatClampNeg x2)))).toInt by omega)⟩⟩, rfl⟩)
              ·
                try simp only [mIn_0, lgc_lt, lgc_gt, lgc_le, lgc_ge, lgc_eq] at c_171
                try simp only [fl_lt, fl_le, fl_eq, fL_w, fL_lt, fL_le, tm1, tm10k, tm9, tm99, Int32.reduceToInt, Int64.reduceToInt, Int.not_lt, Int.not_le] at c_171
                refine gz_iload dX12_areLike_174 rfl ?_
                refine gz_iload dX12_areLike_176 rfl ?_
                refine gz_icmp_eq (tgt := 209) dX12_areLike_178 (by decide) (fun c_178 => ?_) (fun c_178 => ?_)
                ·
                  try simp only [mIn_0, lgc_lt, lgc_gt, lgc_le, lgc_ge, lgc_eq] at c_178
                  try simp only [fl_lt, fl_le, fl_eq, fL_w, fL_lt, fL_le, tm1, tm10k, tm9, tm99, Int32.reduceToInt, Int64.reduceToInt, Int.not_lt, Int.not_le] at c_178
                  refine gz_iconst (v := 1) dX12_areLike_209 (by decide) ?_
                  refine gz_goto (tgt := 214) dX12_areLike_210 (by decide) ?_
                  have e_ab : a_ = b_ := hd_pr vA vB (by omega) (by omega) (by omega)
                  exact gz_zret rfl (by first | decide | exact nrb (by assumption) | exact nrb (Or.inl rfl) | exact nrb (Or.inr rfl)) dX12_areLike_214 (Nat.le_of_ble_eq_true rfl) (Nat.le_of_ble_eq_true rfl) (⟨_, rfl, Or.inl ⟨rfl, e_ab, fun z => by omega, fun _ => Or.inl ⟨(show (F 81 (Int32.toNatClampNeg (F 78 (Int32.toNatClampNeg x1)))).toInt = (F 81 (Int32.toNatClampNeg (F 78 (Int32.toNatClampNeg x2)))).toInt by omega), (show (F 81 (Int32.toNatClampNeg (F 79 (Int32.toNatClampNeg x1)))).toInt = (F 81 (Int32.toNatClampNeg (F 79 (Int32.toNatClampNeg x2)))).toInt by omega)⟩⟩, rfl⟩)
                ·
                  try simp only [mIn_0, lgc_lt, lgc_gt, lgc_le, lgc_ge, lgc_eq] at c_178
                  try simp only [fl_lt, fl_le, fl_eq, fL_w, fL_lt, fL_le, tm1, tm10k, tm9, tm99, Int32.reduceToInt, Int64.reduceToInt, Int.not_lt, Int.not_le] at c_178
                  refine gz_iload_n dX12_areLike_181 rfl rfl ?_
                  refine gz_if_eq (tgt := 213) dX12_areLike_182 (by decide) (fun c_182 => ?_) (fun c_182 => ?_)
                  ·
                    try simp only [mIn_0, lgc_lt, lgc_gt, lgc_le, lgc_ge, lgc_eq] at c_182
                    try simp only [fl_lt, fl_le, fl_eq, fL_w, fL_lt, fL_le, tm1, tm10k, tm9, tm99, Int32.reduceToInt, Int64.reduceToInt, Int.not_lt, Int.not_le] at c_182
                    refine gz_iconst (v := 0) dX12_areLike_213 (by decide) ?_
                    have u88 : (F 81 (F 78 x1.toInt.toNat).toInt.toNat).toInt = (F 81 (Int32.toNatClampNeg (F 78 (Int32.toNatClampNeg x1)))).toInt ∧ (F 81 (F 78 x2.toInt.toNat).toInt.toNat).toInt = (F 81 (Int32.toNatClampNeg (F 78 (Int32.toNatClampNeg x2)))).toInt := ⟨rfl, rfl⟩
                    have u99 : (F 81 (F 79 x1.toInt.toNat).toInt.toNat).toInt = (F 81 (Int32.toNatClampNeg (F 79 (Int32.toNatClampNeg x1)))).toInt ∧ (F 81 (F 79 x2.toInt.toNat).toInt.toNat).toInt = (F 81 (Int32.toNatClampNeg (F 79 (Int32.toNatClampNeg x2)))).toInt := ⟨rfl, rfl⟩
                    have u89 : (F 81 (F 78 x1.toInt.toNat).toInt.toNat).toInt = (F 81 (Int32.toNatClampNeg (F 78 (Int32.toNatClampNeg x1)))).toInt ∧ (F 81 (F 79 x2.toInt.toNat).toInt.toNat).toInt = (F 81 (Int32.toNatClampNeg (F 79 (Int32.toNatClampNeg x2)))).toInt := ⟨rfl, rfl⟩
                    have u98 : (F 81 (F 79 x1.toInt.toNat).toInt.toNat).toInt = (F 81 (Int32.toNatClampNeg (F 79 (Int32.toNatClampNeg x1)))).toInt ∧ (F 81 (F 78 x2.toInt.toNat).toInt.toNat).toInt = (F 81 (Int32.toNatClampNeg (F 78 (Int32.toNatClampNeg x2)))).toInt := ⟨rfl, rfl⟩
                    exact gz_zret rfl (by first | decide | exact nrb (by assumption) | exact nrb (Or.inl rfl) | exact nrb (Or.inr rfl)) dX12_areLike_214 (Nat.le_of_ble_eq_true rfl) (Nat.le_of_ble_eq_true rfl) (⟨_, rfl, Or.inr ⟨rfl, fun z => by
                      have z2 := z.2.2 (by omega)
                      rw [u88.1, u88.2, u99.1, u99.2] at z2
                      rcases z2 with z2 | z2 <;> omega⟩, rfl⟩)
                  ·
                    try simp only [mIn_0, lgc_lt, lgc_gt, lgc_le, lgc_ge, lgc_eq] at c_182
                    try simp only [fl_lt, fl_le, fl_eq, fL_w, fL_lt, fL_le, tm1, tm10k, tm9, tm99, Int32.reduceToInt, Int64.reduceToInt, Int.not_lt, Int.not_le] at c_182
                    refine gz_aload_n dX12_areLike_185 rfl rfl ?_
                    refine mg_210 hS dX12_areLike_186 ?_
                    refine gz_iload_n dX12_areLike_189 rfl rfl ?_
                    refine m_iald 76 hS rfl (N := 82) rfl ((by exact vin_T (rfl : (x1).toInt = (x1).toInt) (by omega) (by omega))) dX12_areLike_190 ?_
                    refine gz_iconst (v := 3) dX12_areLike_191 (by decide) ?_
                    refine gz_icmp_ne (tgt := 213) dX12_areLike_192 (by decide) (fun c_192 => ?_) (fun c_192 => ?_)
                    ·
                      try simp only [mIn_0, lgc_lt, lgc_gt, lgc_le, lgc_ge, lgc_eq] at c_192
                      try simp only [fl_lt, fl_le, fl_eq, fL_w, fL_lt, fL_le, tm1, tm10k, tm9, tm99, Int32.reduceToInt, Int64.reduceToInt, Int.not_lt, Int.not_le] at c_192
                      refine gz_iconst (v := 0) dX12_areLike_213 (by decide) ?_
                      have u88 : (F 81 (F 78 x1.toInt.toNat).toInt.toNat).toInt = (F 81 (Int32.toNatClampNeg (F 78 (Int32.toNatClampNeg x1)))).toInt ∧ (F 81 (F 78 x2.toInt.toNat).toInt.toNat).toInt = (F 81 (Int32.toNatClampNeg (F 78 (Int32.toNatClampNeg x2)))).toInt := ⟨rfl, rfl⟩
                      have u99 : (F 81 (F 79 x1.toInt.toNat).toInt.toNat).toInt = (F 81 (Int32.toNatClampNeg (F 79 (Int32.toNatClampNeg x1)))).toInt ∧ (F 81 (F 79 x2.toInt.toNat).toInt.toNat).toInt = (F 81 (Int32.toNatClampNeg (F 79 (Int32.toNatClampNeg x2)))).toInt := ⟨rfl, rfl⟩
                      have u89 : (F 81 (F 78 x1.toInt.toNat).toInt.toNat).toInt = (F 81 (Int32.toNatClampNeg (F 78 (Int32.toNatClampNeg x1)))).toInt ∧ (F 81 (F 79 x2.toInt.toNat).toInt.toNat).toInt = (F 81 (Int32.toNatClampNeg (F 79 (Int32.toNatClampNeg x2)))).toInt := ⟨rfl, rfl⟩
                      have u98 : (F 81 (F 79 x1.toInt.toNat).toInt.toNat).toInt = (F 81 (Int32.toNatClampNeg (F 79 (Int32.toNatClampNeg x1)))).toInt ∧ (F 81 (F 78 x2.toInt.toNat).toInt.toNat).toInt = (F 81 (Int32.toNatClampNeg (F 78 (Int32.toNatClampNeg x2)))).toInt := ⟨rfl, rfl⟩
                      exact gz_zret rfl (by first | decide | exact nrb (by assumption) | exact nrb (Or.inl rfl) | exact nrb (Or.inr rfl)) dX12_areLike_214 (Nat.le_of_ble_eq_true rfl) (Nat.le_of_ble_eq_true rfl) (⟨_, rfl, Or.inr ⟨rfl, fun z => by
                        have z2 := z.2.2 (by omega)
                        rw [u88.1, u88.2, u99.1, u99.2] at z2
                        rcases z2 with z2 | z2 <;> omega⟩, rfl⟩)
                    ·
                      try simp only [mIn_0, lgc_lt, lgc_gt, lgc_le, lgc_ge, lgc_eq] at c_192
                      try simp only [fl_lt, fl_le, fl_eq, fL_w, fL_lt, fL_le, tm1, tm10k, tm9, tm99, Int32.reduceToInt, Int64.reduceToInt, Int.not_lt, Int.not_le] at c_192
                      refine gz_iload dX12_areLike_195 rfl ?_
                      refine gz_iload dX12_areLike_197 rfl ?_
                      refine gz_icmp_ne (tgt := 213) dX12_areLike_199 (by decide) (fun c_199 => ?_) (fun c_199 => ?_)
                      ·
                        try simp only [mIn_0, lgc_lt, lgc_gt, lgc_le, lgc_ge, lgc_eq] at c_199
                        try simp only [fl_lt, fl_le, fl_eq, fL_w, fL_lt, fL_le, tm1, tm10k, tm9, tm99, Int32.reduceToInt, Int64.reduceToInt, Int.not_lt, Int.not_le] at c_199
                        refine gz_iconst (v := 0) dX12_areLike_213 (by decide) ?_
                        have u88 : (F 81 (F 78 x1.toInt.toNat).toInt.toNat).toInt = (F 81 (Int32.toNatClampNeg (F 78 (Int32.toNatClampNeg x1)))).toInt ∧ (F 81 (F 78 x2.toInt.toNat).toInt.toNat).toInt = (F 81 (Int32.toNatClampNeg (F 78 (Int32.toNatClampNeg x2)))).toInt := ⟨rfl, rfl⟩
                        have u99 : (F 81 (F 79 x1.toInt.toNat).toInt.toNat).toInt = (F 81 (Int32.toNatClampNeg (F 79 (Int32.toNatClampNeg x1)))).toInt ∧ (F 81 (F 79 x2.toInt.toNat).toInt.toNat).toInt = (F 81 (Int32.toNatClampNeg (F 79 (Int32.toNatClampNeg x2)))).toInt := ⟨rfl, rfl⟩
                        have u89 : (F 81 (F 78 x1.toInt.toNat).toInt.toNat).toInt = (F 81 (Int32.toNatClampNeg (F 78 (Int32.toNatClampNeg x1)))).toInt ∧ (F 81 (F 79 x2.toInt.toNat).toInt.toNat).toInt = (F 81 (Int32.toNatClampNeg (F 79 (Int32.toNatClampNeg x2)))).toInt := ⟨rfl, rfl⟩
                        have u98 : (F 81 (F 79 x1.toInt.toNat).toInt.toNat).toInt = (F 81 (Int32.toNatClampNeg (F 79 (Int32.toNatClampNeg x1)))).toInt ∧ (F 81 (F 78 x2.toInt.toNat).toInt.toNat).toInt = (F 81 (Int32.toNatClampNeg (F 78 (Int32.toNatClampNeg x2)))).toInt := ⟨rfl, rfl⟩
                        exact gz_zret rfl (by first | decide | exact nrb (by assumption) | exact nrb (Or.inl rfl) | exact nrb (Or.inr rfl)) dX12_areLike_214 (Nat.le_of_ble_eq_true rfl) (Nat.le_of_ble_eq_true rfl) (⟨_, rfl, Or.inr ⟨rfl, fun z => by
                          have z2 := z.2.2 (by omega)
                          rw [u88.1, u88.2, u99.1, u99.2] at z2
                          rcases z2 with z2 | z2 <;> omega⟩, rfl⟩)
                      ·
                        try simp only [mIn_0, lgc_lt, lgc_gt, lgc_le, lgc_ge, lgc_eq] at c_199
                        try simp only [fl_lt, fl_le, fl_eq, fL_w, fL_lt, fL_le, tm1, tm10k, tm9, tm99, Int32.reduceToInt, Int64.reduceToInt, Int.not_lt, Int.not_le] at c_199
                        refine gz_iload dX12_areLike_202 rfl ?_
                        refine gz_iload dX12_areLike_204 rfl ?_
                        refine gz_icmp_ne (tgt := 213) dX12_areLike_206 (by decide) (fun c_206 => ?_) (fun c_206 => ?_)
                        ·
                          try simp only [mIn_0, lgc_lt, lgc_gt, lgc_le, lgc_ge, lgc_eq] at c_206
                          try simp only [fl_lt, fl_le, fl_eq, fL_w, fL_lt, fL_le, tm1, tm10k, tm9, tm99, Int32.reduceToInt, Int64.reduceToInt, Int.not_lt, Int.not_le] at c_206
                          refine gz_iconst (v := 0) dX12_areLike_213 (by decide) ?_
                          have u88 : (F 81 (F 78 x1.toInt.toNat).toInt.toNat).toInt = (F 81 (Int32.toNatClampNeg (F 78 (Int32.toNatClampNeg x1)))).toInt ∧ (F 81 (F 78 x2.toInt.toNat).toInt.toNat).toInt = (F 81 (Int32.toNatClampNeg (F 78 (Int32.toNatClampNeg x2)))).toInt := ⟨rfl, rfl⟩
                          have u99 : (F 81 (F 79 x1.toInt.toNat).toInt.toNat).toInt = (F 81 (Int32.toNatClampNeg (F 79 (Int32.toNatClampNeg x1)))).toInt ∧ (F 81 (F 79 x2.toInt.toNat).toInt.toNat).toInt = (F 81 (Int32.toNatClampNeg (F 79 (Int32.toNatClampNeg x2)))).toInt := ⟨rfl, rfl⟩
                          have u89 : (F 81 (F 78 x1.toInt.toNat).toInt.toNat).toInt = (F 81 (Int32.toNatClampNeg (F 78 (Int32.toNatClampNeg x1)))).toInt ∧ (F 81 (F 79 x2.toInt.toNat).toInt.toNat).toInt = (F 81 (Int32.toNatClampNeg (F 79 (Int32.toNatClampNeg x2)))).toInt := ⟨rfl, rfl⟩
                          have u98 : (F 81 (F 79 x1.toInt.toNat).toInt.toNat).toInt = (F 81 (Int32.toNatClampNeg (F 79 (Int32.toNatClampNeg x1)))).toInt ∧ (F 81 (F 78 x2.toInt.toNat).toInt.toNat).toInt = (F 81 (Int32.toNatClampNeg (F 78 (Int32.toNatClampNeg x2)))).toInt := ⟨rfl, rfl⟩
                          exact gz_zret rfl (by first | decide | exact nrb (by assumption) | exact nrb (Or.inl rfl) | exact nrb (Or.inr rfl)) dX12_areLike_214 (Nat.le_of_ble_eq_true rfl) (Nat.le_of_ble_eq_true rfl) (⟨_, rfl, Or.inr ⟨rfl, fun z => by
                            have z2 := z.2.2 (by omega)
                            rw [u88.1, u88.2, u99.1, u99.2] at z2
                            rcases z2 with z2 | z2 <;> omega⟩, rfl⟩)
                        ·
                          try simp only [mIn_0, lgc_lt, lgc_gt, lgc_le, lgc_ge, lgc_eq] at c_206
                          try simp only [fl_lt, fl_le, fl_eq, fL_w, fL_lt, fL_le, tm1, tm10k, tm9, tm99, Int32.reduceToInt, Int64.reduceToInt, Int.not_lt, Int.not_le] at c_206
                          refine gz_iconst (v := 1) dX12_areLike_209 (by decide) ?_
                          refine gz_goto (tgt := 214) dX12_areLike_210 (by decide) ?_
                          have e_ab : a_ = b_ := hd_pr vA vB (by omega) (by omega) (by omega)
                          exact gz_zret rfl (by first | decide | exact nrb (by assumption) | exact nrb (Or.inl rfl) | exact nrb (Or.inr rfl)) dX12_areLike_214 (Nat.le_of_ble_eq_true rfl) (Nat.le_of_ble_eq_true rfl) (⟨_, rfl, Or.inl ⟨rfl, e_ab, fun z => by omega, fun _ => Or.inr ⟨by omega, by omega, (show (F 81 (Int32.toNatClampNeg (F 78 (Int32.toNatClampNeg x1)))).toInt = (F 81 (Int32.toNatClampNeg (F 79 (Int32.toNatClampNeg x2)))).toInt by omega), (show (F 81 (Int32.toNatClampNeg (F 79 (Int32.toNatClampNeg x1)))).toInt = (F 81 (Int32.toNatClampNeg (F 78 (Int32.toNatClampNeg x2)))).toInt by omega)⟩⟩, rfl⟩)
            ·
              try simp only [mIn_0, lgc_lt, lgc_gt, lgc_le, lgc_ge, lgc_eq] at c_96
              try simp only [fl_lt, fl_le, fl_eq, fL_w, fL_lt, fL_le, tm1, tm10k, tm9, tm99, Int32.reduceToInt, Int64.reduceToInt, Int.not_lt, Int.not_le] at c_96
              refine gz_aload_n dX12_areLike_99 rfl rfl ?_
              refine mg_210 hS dX12_areLike_100 ?_
              refine gz_iload_n dX12_areLike_103 rfl rfl ?_
              refine m_iald 76 hS rfl (N := 82) rfl ((by exact vin_T (rfl : (x1).toInt = (x1).toInt) (by omega) (by omega))) dX12_areLike_104 ?_
              refine gz_iconst (v := 5) dX12_areLike_105 (by decide) ?_
              refine gz_icmp_eq (tgt := 141) dX12_areLike_106 (by decide) (fun c_106 => ?_) (fun c_106 => ?_)
              ·
                try simp only [mIn_0, lgc_lt, lgc_gt, lgc_le, lgc_ge, lgc_eq] at c_106
                try simp only [fl_lt, fl_le, fl_eq, fL_w, fL_lt, fL_le, tm1, tm10k, tm9, tm99, Int32.reduceToInt, Int64.reduceToInt, Int.not_lt, Int.not_le] at c_106
                refine gz_aload_n dX12_areLike_141 rfl rfl ?_
                refine mg_225 hS dX12_areLike_142 ?_
                refine gz_aload_n dX12_areLike_145 rfl rfl ?_
                refine mg_219 hS dX12_areLike_146 ?_
                refine gz_iload_n dX12_areLike_149 rfl rfl ?_
                refine m_iald 79 hS rfl (N := 82) rfl ((by exact vin_T (rfl : (x1).toInt = (x1).toInt) (by omega) (by omega))) dX12_areLike_150 ?_
                refine m_iald 81 hS rfl (N := 82) rfl ((by exact vin_T (rfl : (((F 79) (Int32.toNatClampNeg x1))).toInt = (((F 79) (Int32.toNatClampNeg x1))).toInt) (by omega) (by omega))) dX12_areLike_151 ?_
                refine gz_istore (lv' := [(6, .int ((F 81) (Int32.toNatClampNeg ((F 79) (Int32.toNatClampNeg x1))))), (5, .int ((F 81) (Int32.toNatClampNeg ((F 78) (Int32.toNatClampNeg x2))))), (4, .int ((F 81) (Int32.toNatClampNeg ((F 78) (Int32.toNatClampNeg x1))))), (0, .ref m), (1, .int x1), (2, .int x2), (3, .int x3)]) dX12_areLike_152 (by decide) rfl ?_
                refine gz_aload_n dX12_areLike_154 rfl rfl ?_
                refine mg_225 hS dX12_areLike_155 ?_
                refine gz_aload_n dX12_areLike_158 rfl rfl ?_
                refine mg_219 hS dX12_areLike_159 ?_
                refine gz_iload_n dX12_areLike_162 rfl rfl ?_
                refine m_iald 79 hS rfl (N := 82) rfl ((by exact vin_T (rfl : (x2).toInt = (x2).toInt) (by omega) (by omega))) dX12_areLike_163 ?_
                refine m_iald 81 hS rfl (N := 82) rfl ((by exact vin_T (rfl : (((F 79) (Int32.toNatClampNeg x2))).toInt = (((F 79) (Int32.toNatClampNeg x2))).toInt) (by omega) (by omega))) dX12_areLike_164 ?_
                refine gz_istore (lv' := [(7, .int ((F 81) (Int32.toNatClampNeg ((F 79) (Int32.toNatClampNeg x2))))), (6, .int ((F 81) (Int32.toNatClampNeg ((F 79) (Int32.toNatClampNeg x1))))), (5, .int ((F 81) (Int32.toNatClampNeg ((F 78) (Int32.toNatClampNeg x2))))), (4, .int ((F 81) (Int32.toNatClampNeg ((F 78) (Int32.toNatClampNeg x1))))), (0, .ref m), (1, .int x1), (2, .int x2), (3, .int x3)]) dX12_areLike_165 (by decide) rfl ?_
                refine gz_iload dX12_areLike_167 rfl ?_
                refine gz_iload dX12_areLike_169 rfl ?_
                refine gz_icmp_ne (tgt := 181) dX12_areLike_171 (by decide) (fun c_171 => ?_) (fun c_171 => ?_)
                ·
                  try simp only [mIn_0, lgc_lt, lgc_gt, lgc_le, lgc_ge, lgc_eq] at c_171
                  try simp only [fl_lt, fl_le, fl_eq, fL_w, fL_lt, fL_le, tm1, tm10k, tm9, tm99, Int32.reduceToInt, Int64.reduceToInt, Int.not_lt, Int.not_le] at c_171
                  refine gz_iload_n dX12_areLike_181 rfl rfl ?_
                  refine gz_if_eq (tgt := 213) dX12_areLike_182 (by decide) (fun c_182 => ?_) (fun c_182 => ?_)
                  ·
                    try simp only [mIn_0, lgc_lt, lgc_gt, lgc_le, lgc_ge, lgc_eq] at c_182
                    try simp only [fl_lt, fl_le, fl_eq, fL_w, fL_lt, fL_le, tm1, tm10k, tm9, tm99, Int32.reduceToInt, Int64.reduceToInt, Int.not_lt, Int.not_le] at c_182
                    refine gz_iconst (v := 0) dX12_areLike_213 (by decide) ?_
                    have u88 : (F 81 (F 78 x1.toInt.toNat).toInt.toNat).toInt = (F 81 (Int32.toNatClampNeg (F 78 (Int32.toNatClampNeg x1)))).toInt ∧ (F 81 (F 78 x2.toInt.toNat).toInt.toNat).toInt = (F 81 (Int32.toNatClampNeg (F 78 (Int32.toNatClampNeg x2)))).toInt := ⟨rfl, rfl⟩
                    have u99 : (F 81 (F 79 x1.toInt.toNat).toInt.toNat).toInt = (F 81 (Int32.toNatClampNeg (F 79 (Int32.toNatClampNeg x1)))).toInt ∧ (F 81 (F 79 x2.toInt.toNat).toInt.toNat).toInt = (F 81 (Int32.toNatClampNeg (F 79 (Int32.toNatClampNeg x2)))).toInt := ⟨rfl, rfl⟩
                    have u89 : (F 81 (F 78 x1.toInt.toNat).toInt.toNat).toInt = (F 81 (Int32.toNatClampNeg (F 78 (Int32.toNatClampNeg x1)))).toInt ∧ (F 81 (F 79 x2.toInt.toNat).toInt.toNat).toInt = (F 81 (Int32.toNatClampNeg (F 79 (Int32.toNatClampNeg x2)))).toInt := ⟨rfl, rfl⟩
                    have u98 : (F 81 (F 79 x1.toInt.toNat).toInt.toNat).toInt = (F 81 (Int32.toNatClampNeg (F 79 (Int32.toNatClampNeg x1)))).toInt ∧ (F 81 (F 78 x2.toInt.toNat).toInt.toNat).toInt = (F 81 (Int32.toNatClampNeg (F 78 (Int32.toNatClampNeg x2)))).toInt := ⟨rfl, rfl⟩
                    exact gz_zret rfl (by first | decide | exact nrb (by assumption) | exact nrb (Or.inl rfl) | exact nrb (Or.inr rfl)) dX12_areLike_214 (Nat.le_of_ble_eq_true rfl) (Nat.le_of_ble_eq_true rfl) (⟨_, rfl, Or.inr ⟨rfl, fun z => by
                      have z2 := z.2.2 (by omega)
                      rw [u88.1, u88.2, u99.1, u99.2] at z2
                      rcases z2 with z2 | z2 <;> omega⟩, rfl⟩)
                  ·
                    try simp only [mIn_0, lgc_lt, lgc_gt, lgc_le, lgc_ge, lgc_eq] at c_182
                    try simp only [fl_lt, fl_le, fl_eq, fL_w, fL_lt, fL_le, tm1, tm10k, tm9, tm99, Int32.reduceToInt, Int64.reduceToInt, Int.not_lt, Int.not_le] at c_182
                    refine gz_aload_n dX12_areLike_185 rfl rfl ?_
                    refine mg_210 hS dX12_areLike_186 ?_
                    refine gz_iload_n dX12_areLike_189 rfl rfl ?_
                    refine m_iald 76 hS rfl (N := 82) rfl ((by exact vin_T (rfl : (x1).toInt = (x1).toInt) (by omega) (by omega))) dX12_areLike_190 ?_
                    refine gz_iconst (v := 3) dX12_areLike_191 (by decide) ?_
                    refine gz_icmp_ne (tgt := 213) dX12_areLike_192 (by decide) (fun c_192 => ?_) (fun c_192 => ?_)
                    ·
                      try simp only [mIn_0, lgc_lt, lgc_gt, lgc_le, lgc_ge, lgc_eq] at c_192
                      try simp only [fl_lt, fl_le, fl_eq, fL_w, fL_lt, fL_le, tm1, tm10k, tm9, tm99, Int32.reduceToInt, Int64.reduceToInt, Int.not_lt, Int.not_le] at c_192
                      refine gz_iconst (v := 0) dX12_areLike_213 (by decide) ?_
                      have u88 : (F 81 (F 78 x1.toInt.toNat).toInt.toNat).toInt = (F 81 (Int32.toNatClampNeg (F 78 (Int32.toNatClampNeg x1)))).toInt ∧ (F 81 (F 78 x2.toInt.toNat).toInt.toNat).toInt = (F 81 (Int32.toNatClampNeg (F 78 (Int32.toNatClampNeg x2)))).toInt := ⟨rfl, rfl⟩
                      have u99 : (F 81 (F 79 x1.toInt.toNat).toInt.toNat).toInt = (F 81 (Int32.toNatClampNeg (F 79 (Int32.toNatClampNeg x1)))).toInt ∧ (F 81 (F 79 x2.toInt.toNat).toInt.toNat).toInt = (F 81 (Int32.toNatClampNeg (F 79 (Int32.toNatClampNeg x2)))).toInt := ⟨rfl, rfl⟩
                      have u89 : (F 81 (F 78 x1.toInt.toNat).toInt.toNat).toInt = (F 81 (Int32.toNatClampNeg (F 78 (Int32.toNatClampNeg x1)))).toInt ∧ (F 81 (F 79 x2.toInt.toNat).toInt.toNat).toInt = (F 81 (Int32.toNatClampNeg (F 79 (Int32.toNatClampNeg x2)))).toInt := ⟨rfl, rfl⟩
                      have u98 : (F 81 (F 79 x1.toInt.toNat).toInt.toNat).toInt = (F 81 (Int32.toNatClampNeg (F 79 (Int32.toNatClampNeg x1)))).toInt ∧ (F 81 (F 78 x2.toInt.toNat).toInt.toNat).toInt = (F 81 (Int32.toNatClampNeg (F 78 (Int32.toNatClampNeg x2)))).toInt := ⟨rfl, rfl⟩
                      exact gz_zret rfl (by first | decide | exact nrb (by assumption) | exact nrb (Or.inl rfl) | exact nrb (Or.inr rfl)) dX12_areLike_214 (Nat.le_of_ble_eq_true rfl) (Nat.le_of_ble_eq_true rfl) (⟨_, rfl, Or.inr ⟨rfl, fun z => by
                        have z2 := z.2.2 (by omega)
                        rw [u88.1, u88.2, u99.1, u99.2] at z2
                        rcases z2 with z2 | z2 <;> omega⟩, rfl⟩)
                    ·
                      try simp only [mIn_0, lgc_lt, lgc_gt, lgc_le, lgc_ge, lgc_eq] at c_192
                      try simp only [fl_lt, fl_le, fl_eq, fL_w, fL_lt, fL_le, tm1, tm10k, tm9, tm99, Int32.reduceToInt, Int64.reduceToInt, Int.not_lt, Int.not_le] at c_192
                      refine gz_iload dX12_areLike_195 rfl ?_
                      refine gz_iload dX12_areLike_197 rfl ?_
                      refine gz_icmp_ne (tgt := 213) dX12_areLike_199 (by decide) (fun c_199 => ?_) (fun c_199 => ?_)
                      ·
                        try simp only [mIn_0, lgc_lt, lgc_gt, lgc_le, lgc_ge, lgc_eq] at c_199
                        try simp only [fl_lt, fl_le, fl_eq, fL_w, fL_lt, fL_le, tm1, tm10k, tm9, tm99, Int32.reduceToInt, Int64.reduceToInt, Int.not_lt, Int.not_le] at c_199
                        refine gz_iconst (v := 0) dX12_areLike_213 (by decide) ?_
                        have u88 : (F 81 (F 78 x1.toInt.toNat).toInt.toNat).toInt = (F 81 (Int32.toNatClampNeg (F 78 (Int32.toNatClampNeg x1)))).toInt ∧ (F 81 (F 78 x2.toInt.toNat).toInt.toNat).toInt = (F 81 (Int32.toNatClampNeg (F 78 (Int32.toNatClampNeg x2)))).toInt := ⟨rfl, rfl⟩
                        have u99 : (F 81 (F 79 x1.toInt.toNat).toInt.toNat).toInt = (F 81 (Int32.toNatClampNeg (F 79 (Int32.toNatClampNeg x1)))).toInt ∧ (F 81 (F 79 x2.toInt.toNat).toInt.toNat).toInt = (F 81 (Int32.toNatClampNeg (F 79 (Int32.toNatClampNeg x2)))).toInt := ⟨rfl, rfl⟩
                        have u89 : (F 81 (F 78 x1.toInt.toNat).toInt.toNat).toInt = (F 81 (Int32.toNatClampNeg (F 78 (Int32.toNatClampNeg x1)))).toInt ∧ (F 81 (F 79 x2.toInt.toNat).toInt.toNat).toInt = (F 81 (Int32.toNatClampNeg (F 79 (Int32.toNatClampNeg x2)))).toInt := ⟨rfl, rfl⟩
                        have u98 : (F 81 (F 79 x1.toInt.toNat).toInt.toNat).toInt = (F 81 (Int32.toNatClampNeg (F 79 (Int32.toNatClampNeg x1)))).toInt ∧ (F 81 (F 78 x2.toInt.toNat).toInt.toNat).toInt = (F 81 (Int32.toNatClampNeg (F 78 (Int32.toNatClampNeg x2)))).toInt := ⟨rfl, rfl⟩
                        exact gz_zret rfl (by first | decide | exact nrb (by assumption) | exact nrb (Or.inl rfl) | exact nrb (Or.inr rfl)) dX12_areLike_214 (Nat.le_of_ble_eq_true rfl) (Nat.le_of_ble_eq_true rfl) (⟨_, rfl, Or.inr ⟨rfl, fun z => by
                          have z2 := z.2.2 (by omega)
                          rw [u88.1, u88.2, u99.1, u99.2] at z2
                          rcases z2 with z2 | z2 <;> omega⟩, rfl⟩)
                      ·
                        try simp only [mIn_0, lgc_lt, lgc_gt, lgc_le, lgc_ge, lgc_eq] at c_199
                        try simp only [fl_lt, fl_le, fl_eq, fL_w, fL_lt, fL_le, tm1, tm10k, tm9, tm99, Int32.reduceToInt, Int64.reduceToInt, Int.not_lt, Int.not_le] at c_199
                        refine gz_iload dX12_areLike_202 rfl ?_
                        refine gz_iload dX12_areLike_204 rfl ?_
                        refine gz_icmp_ne (tgt := 213) dX12_areLike_206 (by decide) (fun c_206 => ?_) (fun c_206 => ?_)
                        ·
                          try simp only [mIn_0, lgc_lt, lgc_gt, lgc_le, lgc_ge, lgc_eq] at c_206
                          try simp only [fl_lt, fl_le, fl_eq, fL_w, fL_lt, fL_le, tm1, tm10k, tm9, tm99, Int32.reduceToInt, Int64.reduceToInt, Int.not_lt, Int.not_le] at c_206
                          refine gz_iconst (v := 0) dX12_areLike_213 (by decide) ?_
                          have u88 : (F 81 (F 78 x1.toInt.toNat).toInt.toNat).toInt = (F 81 (Int32.toNatClampNeg (F 78 (Int32.toNatClampNeg x1)))).toInt ∧ (F 81 (F 78 x2.toInt.toNat).toInt.toNat).toInt = (F 81 (Int32.toNatClampNeg (F 78 (Int32.toNatClampNeg x2)))).toInt := ⟨rfl, rfl⟩
                          have u99 : (F 81 (F 79 x1.toInt.toNat).toInt.toNat).toInt = (F 81 (Int32.toNatClampNeg (F 79 (Int32.toNatClampNeg x1)))).toInt ∧ (F 81 (F 79 x2.toInt.toNat).toInt.toNat).toInt = (F 81 (Int32.toNatClampNeg (F 79 (Int32.toNatClampNeg x2)))).toInt := ⟨rfl, rfl⟩
                          have u89 : (F 81 (F 78 x1.toInt.toNat).toInt.toNat).toInt = (F 81 (Int32.toNatClampNeg (F 78 (Int32.toNatClampNeg x1)))).toInt ∧ (F 81 (F 79 x2.toInt.toNat).toInt.toNat).toInt = (F 81 (Int32.toNatClampNeg (F 79 (Int32.toNatClampNeg x2)))).toInt := ⟨rfl, rfl⟩
                          have u98 : (F 81 (F 79 x1.toInt.toNat).toInt.toNat).toInt = (F 81 (Int32.toNatClampNeg (F 79 (Int32.toNatClampNeg x1)))).toInt ∧ (F 81 (F 78 x2.toInt.toNat).toInt.toNat).toInt = (F 81 (Int32.toNatClampNeg (F 78 (Int32.toNatClampNeg x2)))).toInt := ⟨rfl, rfl⟩
                          exact gz_zret rfl (by first | decide | exact nrb (by assumption) | exact nrb (Or.inl rfl) | exact nrb (Or.inr rfl)) dX12_areLike_214 (Nat.le_of_ble_eq_true rfl) (Nat.le_of_ble_eq_true rfl) (⟨_, rfl, Or.inr ⟨rfl, fun z => by
                            have z2 := z.2.2 (by omega)
                            rw [u88.1, u88.2, u99.1, u99.2] at z2
                            rcases z2 with z2 | z2 <;> omega⟩, rfl⟩)
                        ·
                          try simp only [mIn_0, lgc_lt, lgc_gt, lgc_le, lgc_ge, lgc_eq] at c_206
                          try simp only [fl_lt, fl_le, fl_eq, fL_w, fL_lt, fL_le, tm1, tm10k, tm9, tm99, Int32.reduceToInt, Int64.reduceToInt, Int.not_lt, Int.not_le] at c_206
                          refine gz_iconst (v := 1) dX12_areLike_209 (by decide) ?_
                          refine gz_goto (tgt := 214) dX12_areLike_210 (by decide) ?_
                          have e_ab : a_ = b_ := hd_pr vA vB (by omega) (by omega) (by omega)
                          exact gz_zret rfl (by first | decide | exact nrb (by assumption) | exact nrb (Or.inl rfl) | exact nrb (Or.inr rfl)) dX12_areLike_214 (Nat.le_of_ble_eq_true rfl) (Nat.le_of_ble_eq_true rfl) (⟨_, rfl, Or.inl ⟨rfl, e_ab, fun z => by omega, fun _ => Or.inr ⟨by omega, by omega, (show (F 81 (Int32.toNatClampNeg (F 78 (Int32.toNatClampNeg x1)))).toInt = (F 81 (Int32.toNatClampNeg (F 79 (Int32.toNatClampNeg x2)))).toInt by omega), (show (F 81 (Int32.toNatClampNeg (F 79 (Int32.toNatClampNeg x1)))).toInt = (F 81 (Int32.toNatClampNeg (F 78 (Int32.toNatClampNeg x2)))).toInt by omega)⟩⟩, rfl⟩)
                ·
                  try simp only [mIn_0, lgc_lt, lgc_gt, lgc_le, lgc_ge, lgc_eq] at c_171
                  try simp only [fl_lt, fl_le, fl_eq, fL_w, fL_lt, fL_le, tm1, tm10k, tm9, tm99, Int32.reduceToInt, Int64.reduceToInt, Int.not_lt, Int.not_le] at c_171
                  refine gz_iload dX12_areLike_174 rfl ?_
                  refine gz_iload dX12_areLike_176 rfl ?_
                  refine gz_icmp_eq (tgt := 209) dX12_areLike_178 (by decide) (fun c_178 => ?_) (fun c_178 => ?_)
                  ·
                    try simp only [mIn_0, lgc_lt, lgc_gt, lgc_le, lgc_ge, lgc_eq] at c_178
                    try simp only [fl_lt, fl_le, fl_eq, fL_w, fL_lt, fL_le, tm1, tm10k, tm9, tm99, Int32.reduceToInt, Int64.reduceToInt, Int.not_lt, Int.not_le] at c_178
                    refine gz_iconst (v := 1) dX12_areLike_209 (by decide) ?_
                    refine gz_goto (tgt := 214) dX12_areLike_210 (by decide) ?_
                    have e_ab : a_ = b_ := hd_pr vA vB (by omega) (by omega) (by omega)
                    exact gz_zret rfl (by first | decide | exact nrb (by assumption) | exact nrb (Or.inl rfl) | exact nrb (Or.inr rfl)) dX12_areLike_214 (Nat.le_of_ble_eq_true rfl) (Nat.le_of_ble_eq_true rfl) (⟨_, rfl, Or.inl ⟨rfl, e_ab, fun z => by omega, fun _ => Or.inl ⟨(show (F 81 (Int32.toNatClampNeg (F 78 (Int32.toNatClampNeg x1)))).toInt = (F 81 (Int32.toNatClampNeg (F 78 (Int32.toNatClampNeg x2)))).toInt by omega), (show (F 81 (Int32.toNatClampNeg (F 79 (Int32.toNatClampNeg x1)))).toInt = (F 81 (Int32.toNatClampNeg (F 79 (Int32.toNatClampNeg x2)))).toInt by omega)⟩⟩, rfl⟩)
                  ·
                    try simp only [mIn_0, lgc_lt, lgc_gt, lgc_le, lgc_ge, lgc_eq] at c_178
                    try simp only [fl_lt, fl_le, fl_eq, fL_w, fL_lt, fL_le, tm1, tm10k, tm9, tm99, Int32.reduceToInt, Int64.reduceToInt, Int.not_lt, Int.not_le] at c_178
                    refine gz_iload_n dX12_areLike_181 rfl rfl ?_
                    refine gz_if_eq (tgt := 213) dX12_areLike_182 (by decide) (fun c_182 => ?_) (fun c_182 => ?_)
                    ·
                      try simp only [mIn_0, lgc_lt, lgc_gt, lgc_le, lgc_ge, lgc_eq] at c_182
                      try simp only [fl_lt, fl_le, fl_eq, fL_w, fL_lt, fL_le, tm1, tm10k, tm9, tm99, Int32.reduceToInt, Int64.reduceToInt, Int.not_lt, Int.not_le] at c_182
                      refine gz_iconst (v := 0) dX12_areLike_213 (by decide) ?_
                      have u88 : (F 81 (F 78 x1.toInt.toNat).toInt.toNat).toInt = (F 81 (Int32.toNatClampNeg (F 78 (Int32.toNatClampNeg x1)))).toInt ∧ (F 81 (F 78 x2.toInt.toNat).toInt.toNat).toInt = (F 81 (Int32.toNatClampNeg (F 78 (Int32.toNatClampNeg x2)))).toInt := ⟨rfl, rfl⟩
                      have u99 : (F 81 (F 79 x1.toInt.toNat).toInt.toNat).toInt = (F 81 (Int32.toNatClampNeg (F 79 (Int32.toNatClampNeg x1)))).toInt ∧ (F 81 (F 79 x2.toInt.toNat).toInt.toNat).toInt = (F 81 (Int32.toNatClampNeg (F 79 (Int32.toNatClampNeg x2)))).toInt := ⟨rfl, rfl⟩
                      have u89 : (F 81 (F 78 x1.toInt.toNat).toInt.toNat).toInt = (F 81 (Int32.toNatClampNeg (F 78 (Int32.toNatClampNeg x1)))).toInt ∧ (F 81 (F 79 x2.toInt.toNat).toInt.toNat).toInt = (F 81 (Int32.toNatClampNeg (F 79 (Int32.toNatClampNeg x2)))).toInt := ⟨rfl, rfl⟩
                      have u98 : (F 81 (F 79 x1.toInt.toNat).toInt.toNat).toInt = (F 81 (Int32.toNatClampNeg (F 79 (Int32.toNatClampNeg x1)))).toInt ∧ (F 81 (F 78 x2.toInt.toNat).toInt.toNat).toInt = (F 81 (Int32.toNatClampNeg (F 78 (Int32.toNatClampNeg x2)))).toInt := ⟨rfl, rfl⟩
                      exact gz_zret rfl (by first | decide | exact nrb (by assumption) | exact nrb (Or.inl rfl) | exact nrb (Or.inr rfl)) dX12_areLike_214 (Nat.le_of_ble_eq_true rfl) (Nat.le_of_ble_eq_true rfl) (⟨_, rfl, Or.inr ⟨rfl, fun z => by
                        have z2 := z.2.2 (by omega)
                        rw [u88.1, u88.2, u99.1, u99.2] at z2
                        rcases z2 with z2 | z2 <;> omega⟩, rfl⟩)
                    ·
                      try simp only [mIn_0, lgc_lt, lgc_gt, lgc_le, lgc_ge, lgc_eq] at c_182
                      try simp only [fl_lt, fl_le, fl_eq, fL_w, fL_lt, fL_le, tm1, tm10k, tm9, tm99, Int32.reduceToInt, Int64.reduceToInt, Int.not_lt, Int.not_le] at c_182
                      refine gz_aload_n dX12_areLike_185 rfl rfl ?_
                      refine mg_210 hS dX12_areLike_186 ?_
                      refine gz_iload_n dX12_areLike_189 rfl rfl ?_
                      refine m_iald 76 hS rfl (N := 82) rfl ((by exact vin_T (rfl : (x1).toInt = (x1).toInt) (by omega) (by omega))) dX12_areLike_190 ?_
                      refine gz_iconst (v := 3) dX12_areLike_191 (by decide) ?_
                      refine gz_icmp_ne (tgt := 213) dX12_areLike_192 (by decide) (fun c_192 => ?_) (fun c_192 => ?_)
                      ·
                        try simp only [mIn_0, lgc_lt, lgc_gt, lgc_le, lgc_ge, lgc_eq] at c_192
                        try simp only [fl_lt, fl_le, fl_eq, fL_w, fL_lt, fL_le, tm1, tm10k, tm9, tm99, Int32.reduceToInt, Int64.reduceToInt, Int.not_lt, Int.not_le] at c_192
                        refine gz_iconst (v := 0) dX12_areLike_213 (by decide) ?_
                        have u88 : (F 81 (F 78 x1.toInt.toNat).toInt.toNat).toInt = (F 81 (Int32.toNatClampNeg (F 78 (Int32.toNatClampNeg x1)))).toInt ∧ (F 81 (F 78 x2.toInt.toNat).toInt.toNat).toInt = (F 81 (Int32.toNatClampNeg (F 78 (Int32.toNatClampNeg x2)))).toInt := ⟨rfl, rfl⟩
                        have u99 : (F 81 (F 79 x1.toInt.toNat).toInt.toNat).toInt = (F 81 (Int32.toNatClampNeg (F 79 (Int32.toNatClampNeg x1)))).toInt ∧ (F 81 (F 79 x2.toInt.toNat).toInt.toNat).toInt = (F 81 (Int32.toNatClampNeg (F 79 (Int32.toNatClampNeg x2)))).toInt := ⟨rfl, rfl⟩
                        have u89 : (F 81 (F 78 x1.toInt.toNat).toInt.toNat).toInt = (F 81 (Int32.toNatClampNeg (F 78 (Int32.toNatClampNeg x1)))).toInt ∧ (F 81 (F 79 x2.toInt.toNat).toInt.toNat).toInt = (F 81 (Int32.toNatClampNeg (F 79 (Int32.toNatClampNeg x2)))).toInt := ⟨rfl, rfl⟩
                        have u98 : (F 81 (F 79 x1.toInt.toNat).toInt.toNat).toInt = (F 81 (Int32.toNatClampNeg (F 79 (Int32.toNatClampNeg x1)))).toInt ∧ (F 81 (F 78 x2.toInt.toNat).toInt.toNat).toInt = (F 81 (Int32.toNatClampNeg (F 78 (Int32.toNatClampNeg x2)))).toInt := ⟨rfl, rfl⟩
                        exact gz_zret rfl (by first | decide | exact nrb (by assumption) | exact nrb (Or.inl rfl) | exact nrb (Or.inr rfl)) dX12_areLike_214 (Nat.le_of_ble_eq_true rfl) (Nat.le_of_ble_eq_true rfl) (⟨_, rfl, Or.inr ⟨rfl, fun z => by
                          have z2 := z.2.2 (by omega)
                          rw [u88.1, u88.2, u99.1, u99.2] at z2
                          rcases z2 with z2 | z2 <;> omega⟩, rfl⟩)
                      ·
                        try simp only [mIn_0, lgc_lt, lgc_gt, lgc_le, lgc_ge, lgc_eq] at c_192
                        try simp only [fl_lt, fl_le, fl_eq, fL_w, fL_lt, fL_le, tm1, tm10k, tm9, tm99, Int32.reduceToInt, Int64.reduceToInt, Int.not_lt, Int.not_le] at c_192
                        refine gz_iload dX12_areLike_195 rfl ?_
                        refine gz_iload dX12_areLike_197 rfl ?_
                        refine gz_icmp_ne (tgt := 213) dX12_areLike_199 (by decide) (fun c_199 => ?_) (fun c_199 => ?_)
                        ·
                          try simp only [mIn_0, lgc_lt, lgc_gt, lgc_le, lgc_ge, lgc_eq] at c_199
                          try simp only [fl_lt, fl_le, fl_eq, fL_w, fL_lt, fL_le, tm1, tm10k, tm9, tm99, Int32.reduceToInt, Int64.reduceToInt, Int.not_lt, Int.not_le] at c_199
                          refine gz_iconst (v := 0) dX12_areLike_213 (by decide) ?_
                          have u88 : (F 81 (F 78 x1.toInt.toNat).toInt.toNat).toInt = (F 81 (Int32.toNatClampNeg (F 78 (Int32.toNatClampNeg x1)))).toInt ∧ (F 81 (F 78 x2.toInt.toNat).toInt.toNat).toInt = (F 81 (Int32.toNatClampNeg (F 78 (Int32.toNatClampNeg x2)))).toInt := ⟨rfl, rfl⟩
                          have u99 : (F 81 (F 79 x1.toInt.toNat).toInt.toNat).toInt = (F 81 (Int32.toNatClampNeg (F 79 (Int32.toNatClampNeg x1)))).toInt ∧ (F 81 (F 79 x2.toInt.toNat).toInt.toNat).toInt = (F 81 (Int32.toNatClampNeg (F 79 (Int32.toNatClampNeg x2)))).toInt := ⟨rfl, rfl⟩
                          have u89 : (F 81 (F 78 x1.toInt.toNat).toInt.toNat).toInt = (F 81 (Int32.toNatClampNeg (F 78 (Int32.toNatClampNeg x1)))).toInt ∧ (F 81 (F 79 x2.toInt.toNat).toInt.toNat).toInt = (F 81 (Int32.toNatClampNeg (F 79 (Int32.toNatClampNeg x2)))).toInt := ⟨rfl, rfl⟩
                          have u98 : (F 81 (F 79 x1.toInt.toNat).toInt.toNat).toInt = (F 81 (Int32.toNatClampNeg (F 79 (Int32.toNatClampNeg x1)))).toInt ∧ (F 81 (F 78 x2.toInt.toNat).toInt.toNat).toInt = (F 81 (Int32.toNatClampNeg (F 78 (Int32.toNatClampNeg x2)))).toInt := ⟨rfl, rfl⟩
                          exact gz_zret rfl (by first | decide | exact nrb (by assumption) | exact nrb (Or.inl rfl) | exact nrb (Or.inr rfl)) dX12_areLike_214 (Nat.le_of_ble_eq_true rfl) (Nat.le_of_ble_eq_true rfl) (⟨_, rfl, Or.inr ⟨rfl, fun z => by
                            have z2 := z.2.2 (by omega)
                            rw [u88.1, u88.2, u99.1, u99.2] at z2
                            rcases z2 with z2 | z2 <;> omega⟩, rfl⟩)
                        ·
                          try simp only [mIn_0, lgc_lt, lgc_gt, lgc_le, lgc_ge, lgc_eq] at c_199
                          try simp only [fl_lt, fl_le, fl_eq, fL_w, fL_lt, fL_le, tm1, tm10k, tm9, tm99, Int32.reduceToInt, Int64.reduceToInt, Int.not_lt, Int.not_le] at c_199
                          refine gz_iload dX12_areLike_202 rfl ?_
                          refine gz_iload dX12_areLike_204 rfl ?_
                          refine gz_icmp_ne (tgt := 213) dX12_areLike_206 (by decide) (fun c_206 => ?_) (fun c_206 => ?_)
                          ·
                            try simp only [mIn_0, lgc_lt, lgc_gt, lgc_le, lgc_ge, lgc_eq] at c_206
                            try simp only [fl_lt, fl_le, fl_eq, fL_w, fL_lt, fL_le, tm1, tm10k, tm9, tm99, Int32.reduceToInt, Int64.reduceToInt, Int.not_lt, Int.not_le] at c_206
                            refine gz_iconst (v := 0) dX12_areLike_213 (by decide) ?_
                            have u88 : (F 81 (F 78 x1.toInt.toNat).toInt.toNat).toInt = (F 81 (Int32.toNatClampNeg (F 78 (Int32.toNatClampNeg x1)))).toInt ∧ (F 81 (F 78 x2.toInt.toNat).toInt.toNat).toInt = (F 81 (Int32.toNatClampNeg (F 78 (Int32.toNatClampNeg x2)))).toInt := ⟨rfl, rfl⟩
                            have u99 : (F 81 (F 79 x1.toInt.toNat).toInt.toNat).toInt = (F 81 (Int32.toNatClampNeg (F 79 (Int32.toNatClampNeg x1)))).toInt ∧ (F 81 (F 79 x2.toInt.toNat).toInt.toNat).toInt = (F 81 (Int32.toNatClampNeg (F 79 (Int32.toNatClampNeg x2)))).toInt := ⟨rfl, rfl⟩
                            have u89 : (F 81 (F 78 x1.toInt.toNat).toInt.toNat).toInt = (F 81 (Int32.toNatClampNeg (F 78 (Int32.toNatClampNeg x1)))).toInt ∧ (F 81 (F 79 x2.toInt.toNat).toInt.toNat).toInt = (F 81 (Int32.toNatClampNeg (F 79 (Int32.toNatClampNeg x2)))).toInt := ⟨rfl, rfl⟩
                            have u98 : (F 81 (F 79 x1.toInt.toNat).toInt.toNat).toInt = (F 81 (Int32.toNatClampNeg (F 79 (Int32.toNatClampNeg x1)))).toInt ∧ (F 81 (F 78 x2.toInt.toNat).toInt.toNat).toInt = (F 81 (Int32.toNatClampNeg (F 78 (Int32.toNatClampNeg x2)))).toInt := ⟨rfl, rfl⟩
                            exact gz_zret rfl (by first | decide | exact nrb (by assumption) | exact nrb (Or.inl rfl) | exact nrb (Or.inr rfl)) dX12_areLike_214 (Nat.le_of_ble_eq_true rfl) (Nat.le_of_ble_eq_true rfl) (⟨_, rfl, Or.inr ⟨rfl, fun z => by
                              have z2 := z.2.2 (by omega)
                              rw [u88.1, u88.2, u99.1, u99.2] at z2
                              rcases z2 with z2 | z2 <;> omega⟩, rfl⟩)
                          ·
                            try simp only [mIn_0, lgc_lt, lgc_gt, lgc_le, lgc_ge, lgc_eq] at c_206
                            try simp only [fl_lt, fl_le, fl_eq, fL_w, fL_lt, fL_le, tm1, tm10k, tm9, tm99, Int32.reduceToInt, Int64.reduceToInt, Int.not_lt, Int.not_le] at c_206
                            refine gz_iconst (v := 1) dX12_areLike_209 (by decide) ?_
                            refine gz_goto (tgt := 214) dX12_areLike_210 (by decide) ?_
                            have e_ab : a_ = b_ := hd_pr vA vB (by omega) (by omega) (by omega)
                            exact gz_zret rfl (by first | decide | exact nrb (by assumption) | exact nrb (Or.inl rfl) | exact nrb (Or.inr rfl)) dX12_areLike_214 (Nat.le_of_ble_eq_true rfl) (Nat.le_of_ble_eq_true rfl) (⟨_, rfl, Or.inl ⟨rfl, e_ab, fun z => by omega, fun _ => Or.inr ⟨by omega, by omega, (show (F 81 (Int32.toNatClampNeg (F 78 (Int32.toNatClampNeg x1)))).toInt = (F 81 (Int32.toNatClampNeg (F 79 (Int32.toNatClampNeg x2)))).toInt by omega), (show (F 81 (Int32.toNatClampNeg (F 79 (Int32.toNatClampNeg x1)))).toInt = (F 81 (Int32.toNatClampNeg (F 78 (Int32.toNatClampNeg x2)))).toInt by omega)⟩⟩, rfl⟩)
              ·
                try simp only [mIn_0, lgc_lt, lgc_gt, lgc_le, lgc_ge, lgc_eq] at c_106
                try simp only [fl_lt, fl_le, fl_eq, fL_w, fL_lt, fL_le, tm1, tm10k, tm9, tm99, Int32.reduceToInt, Int64.reduceToInt, Int.not_lt, Int.not_le] at c_106
                refine gz_iload dX12_areLike_109 rfl ?_
                refine gz_iload dX12_areLike_111 rfl ?_
                refine gz_icmp_ne (tgt := 139) dX12_areLike_113 (by decide) (fun c_113 => ?_) (fun c_113 => ?_)
                ·
                  try simp only [mIn_0, lgc_lt, lgc_gt, lgc_le, lgc_ge, lgc_eq] at c_113
                  try simp only [fl_lt, fl_le, fl_eq, fL_w, fL_lt, fL_le, tm1, tm10k, tm9, tm99, Int32.reduceToInt, Int64.reduceToInt, Int.not_lt, Int.not_le] at c_113
                  refine gz_iconst (v := 0) dX12_areLike_139 (by decide) ?_
                  exact gz_zret rfl (by first | decide | exact nrb (by assumption) | exact nrb (Or.inl rfl) | exact nrb (Or.inr rfl)) dX12_areLike_140 (Nat.le_of_ble_eq_true rfl) (Nat.le_of_ble_eq_true rfl) (⟨_, rfl, Or.inr ⟨rfl, fun z => absurd (z.2.1 (by omega)) (show ¬ (F 81 (Int32.toNatClampNeg (F 78 (Int32.toNatClampNeg x1)))).toInt = (F 81 (Int32.toNatClampNeg (F 78 (Int32.toNatClampNeg x2)))).toInt by omega)⟩, rfl⟩)
                ·
                  try simp only [mIn_0, lgc_lt, lgc_gt, lgc_le, lgc_ge, lgc_eq] at c_113
                  try simp only [fl_lt, fl_le, fl_eq, fL_w, fL_lt, fL_le, tm1, tm10k, tm9, tm99, Int32.reduceToInt, Int64.reduceToInt, Int.not_lt, Int.not_le] at c_113
                  refine gz_aload_n dX12_areLike_116 rfl rfl ?_
                  refine gz_aload_n dX12_areLike_117 rfl rfl ?_
                  refine mg_222 hS dX12_areLike_118 ?_
                  refine gz_iload_n dX12_areLike_121 rfl rfl ?_
                  refine m_iald 80 hS rfl (N := 82) rfl ((by exact vin_T (rfl : (x1).toInt = (x1).toInt) (by omega) (by omega))) dX12_areLike_122 ?_
                  refine gz_aload_n dX12_areLike_123 rfl rfl ?_
                  refine mg_222 hS dX12_areLike_124 ?_
                  refine gz_iload_n dX12_areLike_127 rfl rfl ?_
                  refine m_iald 80 hS rfl (N := 82) rfl ((by exact vin_T (rfl : (x2).toInt = (x2).toInt) (by omega) (by omega))) dX12_areLike_128 ?_
                  have mA : nD F fo (Int32.toNatClampNeg x1) a_ := nA.resolve_right (fun z => by have y : a_.1 = 0 := (by rw [z.1]; rfl); omega)
                  have mB : nD F go (Int32.toNatClampNeg x2) b_ := nB.resolve_right (fun z => by have y : b_.1 = 0 := (by rw [z.1]; rfl); omega)
                  obtain ⟨kk1, y1, lk1, w1, m1, vy1, ey1, sy1⟩ := mA.2.2.2
                  obtain ⟨kk2, y2, lk2, w2, m2, vy2, ey2, sy2⟩ := mB.2.2.2
                  refine scX12_511 (k_X12_areTestsE (x1 := ((F 80) (Int32.toNatClampNeg x1))) (x2 := ((F 80) (Int32.toNatClampNeg x2))) (a_ := y1) (b_ := y2) hS bA (by omega) (by omega) (by rw [show ((F 80) (Int32.toNatClampNeg x1)).toInt.toNat = 40 * fo + kk1 by omega]; exact m1) (by rw [show ((F 80) (Int32.toNatClampNeg x2)).toInt.toNat = 40 * go + kk2 by omega]; exact m2) vy1 vy2 (by omega)) hS.1 ⟨(Nat.le_of_ble_eq_true rfl), (Nat.le_of_ble_eq_true rfl)⟩ ⟨(Nat.le_of_ble_eq_true rfl), (Nat.le_of_ble_eq_true rfl)⟩ rfl rfl (Nat.le_of_ble_eq_true rfl) dX12_areLike_129 ?_
                  rintro r_1 f9 ⟨hb_1, y9⟩; rw [y9]
                  rw [sy1, sy2] at hb_1
                  rcases hb_1 with ⟨hr1, hp0⟩ | ⟨hr1, hp0⟩
                  ·
                    refine gz_ev (w := .int 1) (congrArg Value.int hr1) ?_
                    refine gz_if_eq (tgt := 139) dX12_areLike_132 (by decide) (fun c_132 => ?_) (fun c_132 => ?_)
                    · exact absurd c_132 (by decide)
                    ·
                      try simp only [mIn_0, lgc_lt, lgc_gt, lgc_le, lgc_ge, lgc_eq] at c_132
                      try simp only [fl_lt, fl_le, fl_eq, fL_w, fL_lt, fL_le, tm1, tm10k, tm9, tm99, Int32.reduceToInt, Int64.reduceToInt, Int.not_lt, Int.not_le] at c_132
                      refine gz_iconst (v := 1) dX12_areLike_135 (by decide) ?_
                      refine gz_goto (tgt := 140) dX12_areLike_136 (by decide) ?_
                      exact gz_zret rfl (by first | decide | exact nrb (by assumption) | exact nrb (Or.inl rfl) | exact nrb (Or.inr rfl)) dX12_areLike_140 (Nat.le_of_ble_eq_true rfl) (Nat.le_of_ble_eq_true rfl) (⟨_, rfl, Or.inl ⟨rfl, hd_eq (by omega) (by omega) hp0, fun _ => (show (F 81 (Int32.toNatClampNeg (F 78 (Int32.toNatClampNeg x1)))).toInt = (F 81 (Int32.toNatClampNeg (F 78 (Int32.toNatClampNeg x2)))).toInt by omega), fun z => by omega⟩, rfl⟩)
                  ·
                    refine gz_ev (w := .int 0) (congrArg Value.int hr1) ?_
                    refine gz_if_eq (tgt := 139) dX12_areLike_132 (by decide) (fun c_132 => ?_) (fun c_132 => ?_)
                    ·
                      try simp only [mIn_0, lgc_lt, lgc_gt, lgc_le, lgc_ge, lgc_eq] at c_132
                      try simp only [fl_lt, fl_le, fl_eq, fL_w, fL_lt, fL_le, tm1, tm10k, tm9, tm99, Int32.reduceToInt, Int64.reduceToInt, Int.not_lt, Int.not_le] at c_132
                      refine gz_iconst (v := 0) dX12_areLike_139 (by decide) ?_
                      exact gz_zret rfl (by first | decide | exact nrb (by assumption) | exact nrb (Or.inl rfl) | exact nrb (Or.inr rfl)) dX12_areLike_140 (Nat.le_of_ble_eq_true rfl) (Nat.le_of_ble_eq_true rfl) (⟨_, rfl, Or.inr ⟨rfl, fun z => hp0 (by rw [z.1])⟩, rfl⟩)
                    · exact absurd c_132 (by decide)
        ·
          try simp only [mIn_0, lgc_lt, lgc_gt, lgc_le, lgc_ge, lgc_eq] at c_48
          try simp only [fl_lt, fl_le, fl_eq, fL_w, fL_lt, fL_le, tm1, tm10k, tm9, tm99, Int32.reduceToInt, Int64.reduceToInt, Int.not_lt, Int.not_le] at c_48
          refine gz_iconst (v := 1) dX12_areLike_51 (by decide) ?_
          exact gz_zret rfl (by first | decide | exact nrb (by assumption) | exact nrb (Or.inl rfl) | exact nrb (Or.inr rfl)) dX12_areLike_52 (Nat.le_of_ble_eq_true rfl) (Nat.le_of_ble_eq_true rfl) (⟨_, rfl, Or.inl ⟨rfl, hd_pr vA vB (by omega) (by omega) (by omega), fun z => by omega, fun z => by omega⟩, rfl⟩)
    ·
      try simp only [mIn_0, lgc_lt, lgc_gt, lgc_le, lgc_ge, lgc_eq] at c_27
      try simp only [fl_lt, fl_le, fl_eq, fL_w, fL_lt, fL_le, tm1, tm10k, tm9, tm99, Int32.reduceToInt, Int64.reduceToInt, Int.not_lt, Int.not_le] at c_27
      refine gz_iconst (v := 0) dX12_areLike_30 (by decide) ?_
      exact gz_zret rfl (by first | decide | exact nrb (by assumption) | exact nrb (Or.inl rfl) | exact nrb (Or.inr rfl)) dX12_areLike_31 (Nat.le_of_ble_eq_true rfl) (Nat.le_of_ble_eq_true rfl) (⟨_, rfl, Or.inr ⟨rfl, fun z => by have y : a_.2.1 = b_.2.1 := (by rw [z.1]); omega⟩, rfl⟩)

set_option maxHeartbeats 4000000 in
set_option maxRecDepth 100000 in
theorem k_X12_lawOfE {l : Launch} {D : va_G} {cy : Nat → ClassId} {b : Nat} {f : gMem} {m : Nat} {a : Nat → Nat} {f0 : gMem} {n : Nat → Int32} {z : Nat → Int64} {F : Nat → Nat → Int32} {G : Nat → Nat → Int64}  {x1 x2 : Int32} {fo : Nat} {a_ : Hd} (hS : mS cy m a f0 n z F G f) (bA : rAll F) (hN : NR F) (h1 : 0 ≤ x1.toInt ∧ x1.toInt < 82) (h2 : 0 ≤ x2.toInt ∧ x2.toInt < 82) (hf : fo < 20) (nA : nD F fo x1.toInt.toNat a_) : gC l D cy b yX12_lawOf cX12_lawOf 5 (some .int) 1 0 0 [.ref m, .int x1, .int x2] f (pI fun r f2 => lawN F a_ x1.toInt.toNat x2.toInt r.toInt ∧ f2 = f) := by
  have q1 := NR_at hN h1
  have ecx1 : Int32.toNatClampNeg x1 = x1.toInt.toNat := rfl
  rw [← ecx1] at nA
  obtain ⟨vA, p76, p77, kk1, y1, lk1, w1, m1, vy1, ey1, sy1⟩ := nA
  have gA := vA.1
  refine gC_of (by decide) (Nat.le_of_ble_eq_true rfl) ?_
  show gG l _ _ _ D cy b cX12_lawOf 5 _ RX12 "lawOf" 0 0 f 0 [(0, .ref m), (1, .int x1), (2, .int x2)] []
  refine gz_aload_n dX12_lawOf_0 rfl rfl ?_
  refine mg_216 hS dX12_lawOf_1 ?_
  refine gz_iload_n dX12_lawOf_4 rfl rfl ?_
  refine m_iald 78 hS rfl (N := 82) rfl ((by exact vin_T (rfl : (x1).toInt = (x1).toInt) (by omega) (by omega))) dX12_lawOf_5 ?_
  refine gz_istore_n (lv' := [(3, .int ((F 78) (Int32.toNatClampNeg x1))), (0, .ref m), (1, .int x1), (2, .int x2)]) dX12_lawOf_6 rfl (by decide) rfl ?_
  refine gz_aload_n dX12_lawOf_7 rfl rfl ?_
  refine mg_219 hS dX12_lawOf_8 ?_
  refine gz_iload_n dX12_lawOf_11 rfl rfl ?_
  refine m_iald 79 hS rfl (N := 82) rfl ((by exact vin_T (rfl : (x1).toInt = (x1).toInt) (by omega) (by omega))) dX12_lawOf_12 ?_
  refine gz_istore (lv' := [(4, .int ((F 79) (Int32.toNatClampNeg x1))), (3, .int ((F 78) (Int32.toNatClampNeg x1))), (0, .ref m), (1, .int x1), (2, .int x2)]) dX12_lawOf_13 (by decide) rfl ?_
  refine gz_aload_n dX12_lawOf_15 rfl rfl ?_
  refine mg_210 hS dX12_lawOf_16 ?_
  refine gz_iload_n dX12_lawOf_19 rfl rfl ?_
  refine m_iald 76 hS rfl (N := 82) rfl ((by exact vin_T (rfl : (x1).toInt = (x1).toInt) (by omega) (by omega))) dX12_lawOf_20 ?_
  by_cases hw_21_0 : ((F 76) (Int32.toNatClampNeg x1)) = 0
  ·
    refine gz_ev (w := .int 0) (congrArg Value.int hw_21_0) ?_
    refine gz_tableIn (off := 55) (tgt := 76) dX12_lawOf_21 (by decide) (by decide) rfl (by decide) ?_
    refine gz_iload_n dX12_lawOf_76 rfl rfl ?_
    try simp only [fl_eq, Int32.reduceToInt] at hw_21_0
    have u78 : (F 78 x1.toInt.toNat).toInt = (F 78 (Int32.toNatClampNeg x1)).toInt := rfl
    have u79 : (F 79 x1.toInt.toNat).toInt = (F 79 (Int32.toNatClampNeg x1)).toInt := rfl
    have u76 : (F 76 (F 78 x1.toInt.toNat).toInt.toNat).toInt = (F 76 (Int32.toNatClampNeg (F 78 (Int32.toNatClampNeg x1)))).toInt := rfl
    have uu8 : (F 78 (F 78 x1.toInt.toNat).toInt.toNat).toInt = (F 78 (Int32.toNatClampNeg (F 78 (Int32.toNatClampNeg x1)))).toInt := rfl
    have ux : (x1.toInt.toNat : Int) = x1.toInt := by omega
    have u81 : (F 81 (F 78 x1.toInt.toNat).toInt.toNat).toInt = (F 81 (Int32.toNatClampNeg (F 78 (Int32.toNatClampNeg x1)))).toInt := rfl
    have u91 : (F 81 (F 79 x1.toInt.toNat).toInt.toNat).toInt = (F 81 (Int32.toNatClampNeg (F 79 (Int32.toNatClampNeg x1)))).toInt := rfl
    exact gz_iret rfl dX12_lawOf_77 (Nat.le_of_ble_eq_true rfl) (Nat.le_of_ble_eq_true rfl) (⟨_, rfl, ⟨fun z => by omega, fun z => by omega, fun z => ⟨fun z => by omega, fun z => ⟨fun z => by omega, fun z => by omega⟩⟩, fun z => ⟨fun z => by omega, fun z => ⟨fun z => by omega, fun z => by omega⟩⟩, fun z => ⟨fun z => by omega, fun z => by omega⟩, fun z => ⟨fun z => by omega, fun z9 => ⟨fun z => by omega, fun z8 => ⟨fun z => by omega, fun z => by omega⟩⟩⟩, fun z => ⟨fun z => by omega, fun z => by omega⟩⟩, rfl⟩)
  ·
    by_cases hw_21_1 : ((F 76) (Int32.toNatClampNeg x1)) = 1
    ·
      refine gz_ev (w := .int 1) (congrArg Value.int hw_21_1) ?_
      refine gz_tableIn (off := 57) (tgt := 78) dX12_lawOf_21 (by decide) (by decide) rfl (by decide) ?_
      refine gz_iload_n dX12_lawOf_78 rfl rfl ?_
      try simp only [fl_eq, Int32.reduceToInt] at hw_21_1
      try simp only [fl_eq, Int32.reduceToInt] at hw_21_0
      have u78 : (F 78 x1.toInt.toNat).toInt = (F 78 (Int32.toNatClampNeg x1)).toInt := rfl
      have u79 : (F 79 x1.toInt.toNat).toInt = (F 79 (Int32.toNatClampNeg x1)).toInt := rfl
      have u76 : (F 76 (F 78 x1.toInt.toNat).toInt.toNat).toInt = (F 76 (Int32.toNatClampNeg (F 78 (Int32.toNatClampNeg x1)))).toInt := rfl
      have uu8 : (F 78 (F 78 x1.toInt.toNat).toInt.toNat).toInt = (F 78 (Int32.toNatClampNeg (F 78 (Int32.toNatClampNeg x1)))).toInt := rfl
      have ux : (x1.toInt.toNat : Int) = x1.toInt := by omega
      have u81 : (F 81 (F 78 x1.toInt.toNat).toInt.toNat).toInt = (F 81 (Int32.toNatClampNeg (F 78 (Int32.toNatClampNeg x1)))).toInt := rfl
      have u91 : (F 81 (F 79 x1.toInt.toNat).toInt.toNat).toInt = (F 81 (Int32.toNatClampNeg (F 79 (Int32.toNatClampNeg x1)))).toInt := rfl
      exact gz_iret rfl dX12_lawOf_79 (Nat.le_of_ble_eq_true rfl) (Nat.le_of_ble_eq_true rfl) (⟨_, rfl, ⟨fun z => by omega, fun z => by omega, fun z => ⟨fun z => by omega, fun z => ⟨fun z => by omega, fun z => by omega⟩⟩, fun z => ⟨fun z => by omega, fun z => ⟨fun z => by omega, fun z => by omega⟩⟩, fun z => ⟨fun z => by omega, fun z => by omega⟩, fun z => ⟨fun z => by omega, fun z9 => ⟨fun z => by omega, fun z8 => ⟨fun z => by omega, fun z => by omega⟩⟩⟩, fun z => ⟨fun z => by omega, fun z => by omega⟩⟩, rfl⟩)
    ·
      by_cases hw_21_2 : ((F 76) (Int32.toNatClampNeg x1)) = 2
      ·
        refine gz_ev (w := .int 2) (congrArg Value.int hw_21_2) ?_
        refine gz_tableIn (off := 59) (tgt := 80) dX12_lawOf_21 (by decide) (by decide) rfl (by decide) ?_
        refine gz_iload_n dX12_lawOf_80 rfl rfl ?_
        refine gz_iload_n dX12_lawOf_81 rfl rfl ?_
        refine gz_icmp_ne (tgt := 89) dX12_lawOf_82 (by decide) (fun c_82 => ?_) (fun c_82 => ?_)
        ·
          try simp only [mIn_0, lgc_lt, lgc_gt, lgc_le, lgc_ge, lgc_eq] at c_82
          try simp only [fl_lt, fl_le, fl_eq, fL_w, fL_lt, fL_le, tm1, tm10k, tm9, tm99, Int32.reduceToInt, Int64.reduceToInt, Int.not_lt, Int.not_le] at c_82
          refine gz_aload_n dX12_lawOf_89 rfl rfl ?_
          refine mg_210 hS dX12_lawOf_90 ?_
          refine gz_iload_n dX12_lawOf_93 rfl rfl ?_
          refine m_iald 76 hS rfl (N := 82) rfl ((by exact vin_T (rfl : (((F 78) (Int32.toNatClampNeg x1))).toInt = (((F 78) (Int32.toNatClampNeg x1))).toInt) (by omega) (by omega))) dX12_lawOf_94 ?_
          refine gz_iconst (v := 2) dX12_lawOf_95 (by decide) ?_
          refine gz_icmp_ne (tgt := 108) dX12_lawOf_96 (by decide) (fun c_96 => ?_) (fun c_96 => ?_)
          ·
            try simp only [mIn_0, lgc_lt, lgc_gt, lgc_le, lgc_ge, lgc_eq] at c_96
            try simp only [fl_lt, fl_le, fl_eq, fL_w, fL_lt, fL_le, tm1, tm10k, tm9, tm99, Int32.reduceToInt, Int64.reduceToInt, Int.not_lt, Int.not_le] at c_96
            refine gz_iload_n dX12_lawOf_108 rfl rfl ?_
            try simp only [fl_eq, Int32.reduceToInt] at hw_21_2
            try simp only [fl_eq, Int32.reduceToInt] at hw_21_0
            try simp only [fl_eq, Int32.reduceToInt] at hw_21_1
            have u78 : (F 78 x1.toInt.toNat).toInt = (F 78 (Int32.toNatClampNeg x1)).toInt := rfl
            have u79 : (F 79 x1.toInt.toNat).toInt = (F 79 (Int32.toNatClampNeg x1)).toInt := rfl
            have u76 : (F 76 (F 78 x1.toInt.toNat).toInt.toNat).toInt = (F 76 (Int32.toNatClampNeg (F 78 (Int32.toNatClampNeg x1)))).toInt := rfl
            have uu8 : (F 78 (F 78 x1.toInt.toNat).toInt.toNat).toInt = (F 78 (Int32.toNatClampNeg (F 78 (Int32.toNatClampNeg x1)))).toInt := rfl
            have ux : (x1.toInt.toNat : Int) = x1.toInt := by omega
            have u81 : (F 81 (F 78 x1.toInt.toNat).toInt.toNat).toInt = (F 81 (Int32.toNatClampNeg (F 78 (Int32.toNatClampNeg x1)))).toInt := rfl
            have u91 : (F 81 (F 79 x1.toInt.toNat).toInt.toNat).toInt = (F 81 (Int32.toNatClampNeg (F 79 (Int32.toNatClampNeg x1)))).toInt := rfl
            exact gz_iret rfl dX12_lawOf_109 (Nat.le_of_ble_eq_true rfl) (Nat.le_of_ble_eq_true rfl) (⟨_, rfl, ⟨fun z => by omega, fun z => by omega, fun z => ⟨fun z => by omega, fun z => ⟨fun z => by omega, fun z => by omega⟩⟩, fun z => ⟨fun z => by omega, fun z => ⟨fun z => by omega, fun z => by omega⟩⟩, fun z => ⟨fun z => by omega, fun z => by omega⟩, fun z => ⟨fun z => by omega, fun z9 => ⟨fun z => by omega, fun z8 => ⟨fun z => by omega, fun z => by omega⟩⟩⟩, fun z => ⟨fun z => by omega, fun z => by omega⟩⟩, rfl⟩)
          ·
            try simp only [mIn_0, lgc_lt, lgc_gt, lgc_le, lgc_ge, lgc_eq] at c_96
            try simp only [fl_lt, fl_le, fl_eq, fL_w, fL_lt, fL_le, tm1, tm10k, tm9, tm99, Int32.reduceToInt, Int64.reduceToInt, Int.not_lt, Int.not_le] at c_96
            refine gz_aload_n dX12_lawOf_99 rfl rfl ?_
            refine mg_216 hS dX12_lawOf_100 ?_
            refine gz_iload_n dX12_lawOf_103 rfl rfl ?_
            refine m_iald 78 hS rfl (N := 82) rfl ((by exact vin_T (rfl : (((F 78) (Int32.toNatClampNeg x1))).toInt = (((F 78) (Int32.toNatClampNeg x1))).toInt) (by omega) (by omega))) dX12_lawOf_104 ?_
            refine gz_goto (tgt := 109) dX12_lawOf_105 (by decide) ?_
            try simp only [fl_eq, Int32.reduceToInt] at hw_21_2
            try simp only [fl_eq, Int32.reduceToInt] at hw_21_0
            try simp only [fl_eq, Int32.reduceToInt] at hw_21_1
            have u78 : (F 78 x1.toInt.toNat).toInt = (F 78 (Int32.toNatClampNeg x1)).toInt := rfl
            have u79 : (F 79 x1.toInt.toNat).toInt = (F 79 (Int32.toNatClampNeg x1)).toInt := rfl
            have u76 : (F 76 (F 78 x1.toInt.toNat).toInt.toNat).toInt = (F 76 (Int32.toNatClampNeg (F 78 (Int32.toNatClampNeg x1)))).toInt := rfl
            have uu8 : (F 78 (F 78 x1.toInt.toNat).toInt.toNat).toInt = (F 78 (Int32.toNatClampNeg (F 78 (Int32.toNatClampNeg x1)))).toInt := rfl
            have ux : (x1.toInt.toNat : Int) = x1.toInt := by omega
            have u81 : (F 81 (F 78 x1.toInt.toNat).toInt.toNat).toInt = (F 81 (Int32.toNatClampNeg (F 78 (Int32.toNatClampNeg x1)))).toInt := rfl
            have u91 : (F 81 (F 79 x1.toInt.toNat).toInt.toNat).toInt = (F 81 (Int32.toNatClampNeg (F 79 (Int32.toNatClampNeg x1)))).toInt := rfl
            exact gz_iret rfl dX12_lawOf_109 (Nat.le_of_ble_eq_true rfl) (Nat.le_of_ble_eq_true rfl) (⟨_, rfl, ⟨fun z => by omega, fun z => by omega, fun z => ⟨fun z => by omega, fun z => ⟨fun z => by omega, fun z => by omega⟩⟩, fun z => ⟨fun z => by omega, fun z => ⟨fun z => by omega, fun z => by omega⟩⟩, fun z => ⟨fun z => by omega, fun z => by omega⟩, fun z => ⟨fun z => by omega, fun z9 => ⟨fun z => by omega, fun z8 => ⟨fun z => by omega, fun z => by omega⟩⟩⟩, fun z => ⟨fun z => by omega, fun z => by omega⟩⟩, rfl⟩)
        ·
          try simp only [mIn_0, lgc_lt, lgc_gt, lgc_le, lgc_ge, lgc_eq] at c_82
          try simp only [fl_lt, fl_le, fl_eq, fL_w, fL_lt, fL_le, tm1, tm10k, tm9, tm99, Int32.reduceToInt, Int64.reduceToInt, Int.not_lt, Int.not_le] at c_82
          refine gz_iload_n dX12_lawOf_85 rfl rfl ?_
          refine gz_goto (tgt := 109) dX12_lawOf_86 (by decide) ?_
          try simp only [fl_eq, Int32.reduceToInt] at hw_21_2
          try simp only [fl_eq, Int32.reduceToInt] at hw_21_0
          try simp only [fl_eq, Int32.reduceToInt] at hw_21_1
          have u78 : (F 78 x1.toInt.toNat).toInt = (F 78 (Int32.toNatClampNeg x1)).toInt := rfl
          have u79 : (F 79 x1.toInt.toNat).toInt = (F 79 (Int32.toNatClampNeg x1)).toInt := rfl
          have u76 : (F 76 (F 78 x1.toInt.toNat).toInt.toNat).toInt = (F 76 (Int32.toNatClampNeg (F 78 (Int32.toNatClampNeg x1)))).toInt := rfl
          have uu8 : (F 78 (F 78 x1.toInt.toNat).toInt.toNat).toInt = (F 78 (Int32.toNatClampNeg (F 78 (Int32.toNatClampNeg x1)))).toInt := rfl
          have ux : (x1.toInt.toNat : Int) = x1.toInt := by omega
          have u81 : (F 81 (F 78 x1.toInt.toNat).toInt.toNat).toInt = (F 81 (Int32.toNatClampNeg (F 78 (Int32.toNatClampNeg x1)))).toInt := rfl
          have u91 : (F 81 (F 79 x1.toInt.toNat).toInt.toNat).toInt = (F 81 (Int32.toNatClampNeg (F 79 (Int32.toNatClampNeg x1)))).toInt := rfl
          exact gz_iret rfl dX12_lawOf_109 (Nat.le_of_ble_eq_true rfl) (Nat.le_of_ble_eq_true rfl) (⟨_, rfl, ⟨fun z => by omega, fun z => by omega, fun z => ⟨fun z => by omega, fun z => ⟨fun z => by omega, fun z => by omega⟩⟩, fun z => ⟨fun z => by omega, fun z => ⟨fun z => by omega, fun z => by omega⟩⟩, fun z => ⟨fun z => by omega, fun z => by omega⟩, fun z => ⟨fun z => by omega, fun z9 => ⟨fun z => by omega, fun z8 => ⟨fun z => by omega, fun z => by omega⟩⟩⟩, fun z => ⟨fun z => by omega, fun z => by omega⟩⟩, rfl⟩)
      ·
        by_cases hw_21_3 : ((F 76) (Int32.toNatClampNeg x1)) = 3
        ·
          refine gz_ev (w := .int 3) (congrArg Value.int hw_21_3) ?_
          refine gz_tableIn (off := 89) (tgt := 110) dX12_lawOf_21 (by decide) (by decide) rfl (by decide) ?_
          refine gz_iload_n dX12_lawOf_110 rfl rfl ?_
          refine gz_iload_n dX12_lawOf_111 rfl rfl ?_
          refine gz_icmp_ne (tgt := 120) dX12_lawOf_112 (by decide) (fun c_112 => ?_) (fun c_112 => ?_)
          ·
            try simp only [mIn_0, lgc_lt, lgc_gt, lgc_le, lgc_ge, lgc_eq] at c_112
            try simp only [fl_lt, fl_le, fl_eq, fL_w, fL_lt, fL_le, tm1, tm10k, tm9, tm99, Int32.reduceToInt, Int64.reduceToInt, Int.not_lt, Int.not_le] at c_112
            refine gz_iload dX12_lawOf_120 rfl ?_
            refine gz_iload_n dX12_lawOf_122 rfl rfl ?_
            refine gz_icmp_ne (tgt := 130) dX12_lawOf_123 (by decide) (fun c_123 => ?_) (fun c_123 => ?_)
            ·
              try simp only [mIn_0, lgc_lt, lgc_gt, lgc_le, lgc_ge, lgc_eq] at c_123
              try simp only [fl_lt, fl_le, fl_eq, fL_w, fL_lt, fL_le, tm1, tm10k, tm9, tm99, Int32.reduceToInt, Int64.reduceToInt, Int.not_lt, Int.not_le] at c_123
              refine gz_iload_n dX12_lawOf_130 rfl rfl ?_
              try simp only [fl_eq, Int32.reduceToInt] at hw_21_3
              try simp only [fl_eq, Int32.reduceToInt] at hw_21_0
              try simp only [fl_eq, Int32.reduceToInt] at hw_21_1
              try simp only [fl_eq, Int32.reduceToInt] at hw_21_2
              have u78 : (F 78 x1.toInt.toNat).toInt = (F 78 (Int32.toNatClampNeg x1)).toInt := rfl
              have u79 : (F 79 x1.toInt.toNat).toInt = (F 79 (Int32.toNatClampNeg x1)).toInt := rfl
              have u76 : (F 76 (F 78 x1.toInt.toNat).toInt.toNat).toInt = (F 76 (Int32.toNatClampNeg (F 78 (Int32.toNatClampNeg x1)))).toInt := rfl
              have uu8 : (F 78 (F 78 x1.toInt.toNat).toInt.toNat).toInt = (F 78 (Int32.toNatClampNeg (F 78 (Int32.toNatClampNeg x1)))).toInt := rfl
              have ux : (x1.toInt.toNat : Int) = x1.toInt := by omega
              have u81 : (F 81 (F 78 x1.toInt.toNat).toInt.toNat).toInt = (F 81 (Int32.toNatClampNeg (F 78 (Int32.toNatClampNeg x1)))).toInt := rfl
              have u91 : (F 81 (F 79 x1.toInt.toNat).toInt.toNat).toInt = (F 81 (Int32.toNatClampNeg (F 79 (Int32.toNatClampNeg x1)))).toInt := rfl
              exact gz_iret rfl dX12_lawOf_131 (Nat.le_of_ble_eq_true rfl) (Nat.le_of_ble_eq_true rfl) (⟨_, rfl, ⟨fun z => by omega, fun z => by omega, fun z => ⟨fun z => by omega, fun z => ⟨fun z => by omega, fun z => by omega⟩⟩, fun z => ⟨fun z => by omega, fun z => ⟨fun z => by omega, fun z => by omega⟩⟩, fun z => ⟨fun z => by omega, fun z => by omega⟩, fun z => ⟨fun z => by omega, fun z9 => ⟨fun z => by omega, fun z8 => ⟨fun z => by omega, fun z => by omega⟩⟩⟩, fun z => ⟨fun z => by omega, fun z => by omega⟩⟩, rfl⟩)
            ·
              try simp only [mIn_0, lgc_lt, lgc_gt, lgc_le, lgc_ge, lgc_eq] at c_123
              try simp only [fl_lt, fl_le, fl_eq, fL_w, fL_lt, fL_le, tm1, tm10k, tm9, tm99, Int32.reduceToInt, Int64.reduceToInt, Int.not_lt, Int.not_le] at c_123
              refine gz_iload_n dX12_lawOf_126 rfl rfl ?_
              refine gz_goto (tgt := 131) dX12_lawOf_127 (by decide) ?_
              try simp only [fl_eq, Int32.reduceToInt] at hw_21_3
              try simp only [fl_eq, Int32.reduceToInt] at hw_21_0
              try simp only [fl_eq, Int32.reduceToInt] at hw_21_1
              try simp only [fl_eq, Int32.reduceToInt] at hw_21_2
              have u78 : (F 78 x1.toInt.toNat).toInt = (F 78 (Int32.toNatClampNeg x1)).toInt := rfl
              have u79 : (F 79 x1.toInt.toNat).toInt = (F 79 (Int32.toNatClampNeg x1)).toInt := rfl
              have u76 : (F 76 (F 78 x1.toInt.toNat).toInt.toNat).toInt = (F 76 (Int32.toNatClampNeg (F 78 (Int32.toNatClampNeg x1)))).toInt := rfl
              have uu8 : (F 78 (F 78 x1.toInt.toNat).toInt.toNat).toInt = (F 78 (Int32.toNatClampNeg (F 78 (Int32.toNatClampNeg x1)))).toInt := rfl
              have ux : (x1.toInt.toNat : Int) = x1.toInt := by omega
              have u81 : (F 81 (F 78 x1.toInt.toNat).toInt.toNat).toInt = (F 81 (Int32.toNatClampNeg (F 78 (Int32.toNatClampNeg x1)))).toInt := rfl
              have u91 : (F 81 (F 79 x1.toInt.toNat).toInt.toNat).toInt = (F 81 (Int32.toNatClampNeg (F 79 (Int32.toNatClampNeg x1)))).toInt := rfl
              exact gz_iret rfl dX12_lawOf_131 (Nat.le_of_ble_eq_true rfl) (Nat.le_of_ble_eq_true rfl) (⟨_, rfl, ⟨fun z => by omega, fun z => by omega, fun z => ⟨fun z => by omega, fun z => ⟨fun z => by omega, fun z => by omega⟩⟩, fun z => ⟨fun z => by omega, fun z => ⟨fun z => by omega, fun z => by omega⟩⟩, fun z => ⟨fun z => by omega, fun z => by omega⟩, fun z => ⟨fun z => by omega, fun z9 => ⟨fun z => by omega, fun z8 => ⟨fun z => by omega, fun z => by omega⟩⟩⟩, fun z => ⟨fun z => by omega, fun z => by omega⟩⟩, rfl⟩)
          ·
            try simp only [mIn_0, lgc_lt, lgc_gt, lgc_le, lgc_ge, lgc_eq] at c_112
            try simp only [fl_lt, fl_le, fl_eq, fL_w, fL_lt, fL_le, tm1, tm10k, tm9, tm99, Int32.reduceToInt, Int64.reduceToInt, Int.not_lt, Int.not_le] at c_112
            refine gz_iload dX12_lawOf_115 rfl ?_
            refine gz_goto (tgt := 131) dX12_lawOf_117 (by decide) ?_
            try simp only [fl_eq, Int32.reduceToInt] at hw_21_3
            try simp only [fl_eq, Int32.reduceToInt] at hw_21_0
            try simp only [fl_eq, Int32.reduceToInt] at hw_21_1
            try simp only [fl_eq, Int32.reduceToInt] at hw_21_2
            have u78 : (F 78 x1.toInt.toNat).toInt = (F 78 (Int32.toNatClampNeg x1)).toInt := rfl
            have u79 : (F 79 x1.toInt.toNat).toInt = (F 79 (Int32.toNatClampNeg x1)).toInt := rfl
            have u76 : (F 76 (F 78 x1.toInt.toNat).toInt.toNat).toInt = (F 76 (Int32.toNatClampNeg (F 78 (Int32.toNatClampNeg x1)))).toInt := rfl
            have uu8 : (F 78 (F 78 x1.toInt.toNat).toInt.toNat).toInt = (F 78 (Int32.toNatClampNeg (F 78 (Int32.toNatClampNeg x1)))).toInt := rfl
            have ux : (x1.toInt.toNat : Int) = x1.toInt := by omega
            have u81 : (F 81 (F 78 x1.toInt.toNat).toInt.toNat).toInt = (F 81 (Int32.toNatClampNeg (F 78 (Int32.toNatClampNeg x1)))).toInt := rfl
            have u91 : (F 81 (F 79 x1.toInt.toNat).toInt.toNat).toInt = (F 81 (Int32.toNatClampNeg (F 79 (Int32.toNatClampNeg x1)))).toInt := rfl
            exact gz_iret rfl dX12_lawOf_131 (Nat.le_of_ble_eq_true rfl) (Nat.le_of_ble_eq_true rfl) (⟨_, rfl, ⟨fun z => by omega, fun z => by omega, fun z => ⟨fun z => by omega, fun z => ⟨fun z => by omega, fun z => by omega⟩⟩, fun z => ⟨fun z => by omega, fun z => ⟨fun z => by omega, fun z => by omega⟩⟩, fun z => ⟨fun z => by omega, fun z => by omega⟩, fun z => ⟨fun z => by omega, fun z9 => ⟨fun z => by omega, fun z8 => ⟨fun z => by omega, fun z => by omega⟩⟩⟩, fun z => ⟨fun z => by omega, fun z => by omega⟩⟩, rfl⟩)
        ·
          by_cases hw_21_4 : ((F 76) (Int32.toNatClampNeg x1)) = 4
          ·
            refine gz_ev (w := .int 4) (congrArg Value.int hw_21_4) ?_
            refine gz_tableIn (off := 111) (tgt := 132) dX12_lawOf_21 (by decide) (by decide) rfl (by decide) ?_
            refine gz_aload_n dX12_lawOf_132 rfl rfl ?_
            refine mg_225 hS dX12_lawOf_133 ?_
            refine gz_iload_n dX12_lawOf_136 rfl rfl ?_
            refine m_iald 81 hS rfl (N := 82) rfl ((by exact vin_T (rfl : (((F 78) (Int32.toNatClampNeg x1))).toInt = (((F 78) (Int32.toNatClampNeg x1))).toInt) (by omega) (by omega))) dX12_lawOf_137 ?_
            refine gz_aload_n dX12_lawOf_138 rfl rfl ?_
            refine mg_225 hS dX12_lawOf_139 ?_
            refine gz_iload dX12_lawOf_142 rfl ?_
            refine m_iald 81 hS rfl (N := 82) rfl ((by exact vin_T (rfl : (((F 79) (Int32.toNatClampNeg x1))).toInt = (((F 79) (Int32.toNatClampNeg x1))).toInt) (by omega) (by omega))) dX12_lawOf_144 ?_
            refine gz_icmp_ne (tgt := 152) dX12_lawOf_145 (by decide) (fun c_145 => ?_) (fun c_145 => ?_)
            ·
              try simp only [mIn_0, lgc_lt, lgc_gt, lgc_le, lgc_ge, lgc_eq] at c_145
              try simp only [fl_lt, fl_le, fl_eq, fL_w, fL_lt, fL_le, tm1, tm10k, tm9, tm99, Int32.reduceToInt, Int64.reduceToInt, Int.not_lt, Int.not_le] at c_145
              refine gz_iload_n dX12_lawOf_152 rfl rfl ?_
              try simp only [fl_eq, Int32.reduceToInt] at hw_21_4
              try simp only [fl_eq, Int32.reduceToInt] at hw_21_0
              try simp only [fl_eq, Int32.reduceToInt] at hw_21_1
              try simp only [fl_eq, Int32.reduceToInt] at hw_21_2
              try simp only [fl_eq, Int32.reduceToInt] at hw_21_3
              have u78 : (F 78 x1.toInt.toNat).toInt = (F 78 (Int32.toNatClampNeg x1)).toInt := rfl
              have u79 : (F 79 x1.toInt.toNat).toInt = (F 79 (Int32.toNatClampNeg x1)).toInt := rfl
              have u76 : (F 76 (F 78 x1.toInt.toNat).toInt.toNat).toInt = (F 76 (Int32.toNatClampNeg (F 78 (Int32.toNatClampNeg x1)))).toInt := rfl
              have uu8 : (F 78 (F 78 x1.toInt.toNat).toInt.toNat).toInt = (F 78 (Int32.toNatClampNeg (F 78 (Int32.toNatClampNeg x1)))).toInt := rfl
              have ux : (x1.toInt.toNat : Int) = x1.toInt := by omega
              have u81 : (F 81 (F 78 x1.toInt.toNat).toInt.toNat).toInt = (F 81 (Int32.toNatClampNeg (F 78 (Int32.toNatClampNeg x1)))).toInt := rfl
              have u91 : (F 81 (F 79 x1.toInt.toNat).toInt.toNat).toInt = (F 81 (Int32.toNatClampNeg (F 79 (Int32.toNatClampNeg x1)))).toInt := rfl
              exact gz_iret rfl dX12_lawOf_153 (Nat.le_of_ble_eq_true rfl) (Nat.le_of_ble_eq_true rfl) (⟨_, rfl, ⟨fun z => by omega, fun z => by omega, fun z => ⟨fun z => by omega, fun z => ⟨fun z => by omega, fun z => by omega⟩⟩, fun z => ⟨fun z => by omega, fun z => ⟨fun z => by omega, fun z => by omega⟩⟩, fun z => ⟨fun z => by omega, fun z => by omega⟩, fun z => ⟨fun z => by omega, fun z9 => ⟨fun z => by omega, fun z8 => ⟨fun z => by omega, fun z => by omega⟩⟩⟩, fun z => ⟨fun z => by omega, fun z => by omega⟩⟩, rfl⟩)
            ·
              try simp only [mIn_0, lgc_lt, lgc_gt, lgc_le, lgc_ge, lgc_eq] at c_145
              try simp only [fl_lt, fl_le, fl_eq, fL_w, fL_lt, fL_le, tm1, tm10k, tm9, tm99, Int32.reduceToInt, Int64.reduceToInt, Int.not_lt, Int.not_le] at c_145
              refine gz_iload_n dX12_lawOf_148 rfl rfl ?_
              refine gz_goto (tgt := 153) dX12_lawOf_149 (by decide) ?_
              try simp only [fl_eq, Int32.reduceToInt] at hw_21_4
              try simp only [fl_eq, Int32.reduceToInt] at hw_21_0
              try simp only [fl_eq, Int32.reduceToInt] at hw_21_1
              try simp only [fl_eq, Int32.reduceToInt] at hw_21_2
              try simp only [fl_eq, Int32.reduceToInt] at hw_21_3
              have u78 : (F 78 x1.toInt.toNat).toInt = (F 78 (Int32.toNatClampNeg x1)).toInt := rfl
              have u79 : (F 79 x1.toInt.toNat).toInt = (F 79 (Int32.toNatClampNeg x1)).toInt := rfl
              have u76 : (F 76 (F 78 x1.toInt.toNat).toInt.toNat).toInt = (F 76 (Int32.toNatClampNeg (F 78 (Int32.toNatClampNeg x1)))).toInt := rfl
              have uu8 : (F 78 (F 78 x1.toInt.toNat).toInt.toNat).toInt = (F 78 (Int32.toNatClampNeg (F 78 (Int32.toNatClampNeg x1)))).toInt := rfl
              have ux : (x1.toInt.toNat : Int) = x1.toInt := by omega
              have u81 : (F 81 (F 78 x1.toInt.toNat).toInt.toNat).toInt = (F 81 (Int32.toNatClampNeg (F 78 (Int32.toNatClampNeg x1)))).toInt := rfl
              have u91 : (F 81 (F 79 x1.toInt.toNat).toInt.toNat).toInt = (F 81 (Int32.toNatClampNeg (F 79 (Int32.toNatClampNeg x1)))).toInt := rfl
              exact gz_iret rfl dX12_lawOf_153 (Nat.le_of_ble_eq_true rfl) (Nat.le_of_ble_eq_true rfl) (⟨_, rfl, ⟨fun z => by omega, fun z => by omega, fun z => ⟨fun z => by omega, fun z => ⟨fun z => by omega, fun z => by omega⟩⟩, fun z => ⟨fun z => by omega, fun z => ⟨fun z => by omega, fun z => by omega⟩⟩, fun z => ⟨fun z => by omega, fun z => by omega⟩, fun z => ⟨fun z => by omega, fun z9 => ⟨fun z => by omega, fun z8 => ⟨fun z => by omega, fun z => by omega⟩⟩⟩, fun z => ⟨fun z => by omega, fun z => by omega⟩⟩, rfl⟩)
          ·
            by_cases hw_21_5 : ((F 76) (Int32.toNatClampNeg x1)) = 5
            ·
              refine gz_ev (w := .int 5) (congrArg Value.int hw_21_5) ?_
              refine gz_tableIn (off := 111) (tgt := 132) dX12_lawOf_21 (by decide) (by decide) rfl (by decide) ?_
              refine gz_aload_n dX12_lawOf_132 rfl rfl ?_
              refine mg_225 hS dX12_lawOf_133 ?_
              refine gz_iload_n dX12_lawOf_136 rfl rfl ?_
              refine m_iald 81 hS rfl (N := 82) rfl ((by exact vin_T (rfl : (((F 78) (Int32.toNatClampNeg x1))).toInt = (((F 78) (Int32.toNatClampNeg x1))).toInt) (by omega) (by omega))) dX12_lawOf_137 ?_
              refine gz_aload_n dX12_lawOf_138 rfl rfl ?_
              refine mg_225 hS dX12_lawOf_139 ?_
              refine gz_iload dX12_lawOf_142 rfl ?_
              refine m_iald 81 hS rfl (N := 82) rfl ((by exact vin_T (rfl : (((F 79) (Int32.toNatClampNeg x1))).toInt = (((F 79) (Int32.toNatClampNeg x1))).toInt) (by omega) (by omega))) dX12_lawOf_144 ?_
              refine gz_icmp_ne (tgt := 152) dX12_lawOf_145 (by decide) (fun c_145 => ?_) (fun c_145 => ?_)
              ·
                try simp only [mIn_0, lgc_lt, lgc_gt, lgc_le, lgc_ge, lgc_eq] at c_145
                try simp only [fl_lt, fl_le, fl_eq, fL_w, fL_lt, fL_le, tm1, tm10k, tm9, tm99, Int32.reduceToInt, Int64.reduceToInt, Int.not_lt, Int.not_le] at c_145
                refine gz_iload_n dX12_lawOf_152 rfl rfl ?_
                try simp only [fl_eq, Int32.reduceToInt] at hw_21_5
                try simp only [fl_eq, Int32.reduceToInt] at hw_21_0
                try simp only [fl_eq, Int32.reduceToInt] at hw_21_1
                try simp only [fl_eq, Int32.reduceToInt] at hw_21_2
                try simp only [fl_eq, Int32.reduceToInt] at hw_21_3
                try simp only [fl_eq, Int32.reduceToInt] at hw_21_4
                have u78 : (F 78 x1.toInt.toNat).toInt = (F 78 (Int32.toNatClampNeg x1)).toInt := rfl
                have u79 : (F 79 x1.toInt.toNat).toInt = (F 79 (Int32.toNatClampNeg x1)).toInt := rfl
                have u76 : (F 76 (F 78 x1.toInt.toNat).toInt.toNat).toInt = (F 76 (Int32.toNatClampNeg (F 78 (Int32.toNatClampNeg x1)))).toInt := rfl
                have uu8 : (F 78 (F 78 x1.toInt.toNat).toInt.toNat).toInt = (F 78 (Int32.toNatClampNeg (F 78 (Int32.toNatClampNeg x1)))).toInt := rfl
                have ux : (x1.toInt.toNat : Int) = x1.toInt := by omega
                have u81 : (F 81 (F 78 x1.toInt.toNat).toInt.toNat).toInt = (F 81 (Int32.toNatClampNeg (F 78 (Int32.toNatClampNeg x1)))).toInt := rfl
                have u91 : (F 81 (F 79 x1.toInt.toNat).toInt.toNat).toInt = (F 81 (Int32.toNatClampNeg (F 79 (Int32.toNatClampNeg x1)))).toInt := rfl
                exact gz_iret rfl dX12_lawOf_153 (Nat.le_of_ble_eq_true rfl) (Nat.le_of_ble_eq_true rfl) (⟨_, rfl, ⟨fun z => by omega, fun z => by omega, fun z => ⟨fun z => by omega, fun z => ⟨fun z => by omega, fun z => by omega⟩⟩, fun z => ⟨fun z => by omega, fun z => ⟨fun z => by omega, fun z => by omega⟩⟩, fun z => ⟨fun z => by omega, fun z => by omega⟩, fun z => ⟨fun z => by omega, fun z9 => ⟨fun z => by omega, fun z8 => ⟨fun z => by omega, fun z => by omega⟩⟩⟩, fun z => ⟨fun z => by omega, fun z => by omega⟩⟩, rfl⟩)
              ·
                try simp only [mIn_0, lgc_lt, lgc_gt, lgc_le, lgc_ge, lgc_eq] at c_145
                try simp only [fl_lt, fl_le, fl_eq, fL_w, fL_lt, fL_le, tm1, tm10k, tm9, tm99, Int32.reduceToInt, Int64.reduceToInt, Int.not_lt, Int.not_le] at c_145
                refine gz_iload_n dX12_lawOf_148 rfl rfl ?_
                refine gz_goto (tgt := 153) dX12_lawOf_149 (by decide) ?_
                try simp only [fl_eq, Int32.reduceToInt] at hw_21_5
                try simp only [fl_eq, Int32.reduceToInt] at hw_21_0
                try simp only [fl_eq, Int32.reduceToInt] at hw_21_1
                try simp only [fl_eq, Int32.reduceToInt] at hw_21_2
                try simp only [fl_eq, Int32.reduceToInt] at hw_21_3
                try simp only [fl_eq, Int32.reduceToInt] at hw_21_4
                have u78 : (F 78 x1.toInt.toNat).toInt = (F 78 (Int32.toNatClampNeg x1)).toInt := rfl
                have u79 : (F 79 x1.toInt.toNat).toInt = (F 79 (Int32.toNatClampNeg x1)).toInt := rfl
                have u76 : (F 76 (F 78 x1.toInt.toNat).toInt.toNat).toInt = (F 76 (Int32.toNatClampNeg (F 78 (Int32.toNatClampNeg x1)))).toInt := rfl
                have uu8 : (F 78 (F 78 x1.toInt.toNat).toInt.toNat).toInt = (F 78 (Int32.toNatClampNeg (F 78 (Int32.toNatClampNeg x1)))).toInt := rfl
                have ux : (x1.toInt.toNat : Int) = x1.toInt := by omega
                have u81 : (F 81 (F 78 x1.toInt.toNat).toInt.toNat).toInt = (F 81 (Int32.toNatClampNeg (F 78 (Int32.toNatClampNeg x1)))).toInt := rfl
                have u91 : (F 81 (F 79 x1.toInt.toNat).toInt.toNat).toInt = (F 81 (Int32.toNatClampNeg (F 79 (Int32.toNatClampNeg x1)))).toInt := rfl
                exact gz_iret rfl dX12_lawOf_153 (Nat.le_of_ble_eq_true rfl) (Nat.le_of_ble_eq_true rfl) (⟨_, rfl, ⟨fun z => by omega, fun z => by omega, fun z => ⟨fun z => by omega, fun z => ⟨fun z => by omega, fun z => by omega⟩⟩, fun z => ⟨fun z => by omega, fun z => ⟨fun z => by omega, fun z => by omega⟩⟩, fun z => ⟨fun z => by omega, fun z => by omega⟩, fun z => ⟨fun z => by omega, fun z9 => ⟨fun z => by omega, fun z8 => ⟨fun z => by omega, fun z => by omega⟩⟩⟩, fun z => ⟨fun z => by omega, fun z => by omega⟩⟩, rfl⟩)
            ·
              by_cases hw_21_6 : ((F 76) (Int32.toNatClampNeg x1)) = 6
              ·
                refine gz_ev (w := .int 6) (congrArg Value.int hw_21_6) ?_
                refine gz_tableIn (off := 176) (tgt := 197) dX12_lawOf_21 (by decide) (by decide) rfl (by decide) ?_
                refine gz_iload_n dX12_lawOf_197 rfl rfl ?_
                refine gz_iload_n dX12_lawOf_198 rfl rfl ?_
                refine gz_icmp_ne (tgt := 206) dX12_lawOf_199 (by decide) (fun c_199 => ?_) (fun c_199 => ?_)
                ·
                  try simp only [mIn_0, lgc_lt, lgc_gt, lgc_le, lgc_ge, lgc_eq] at c_199
                  try simp only [fl_lt, fl_le, fl_eq, fL_w, fL_lt, fL_le, tm1, tm10k, tm9, tm99, Int32.reduceToInt, Int64.reduceToInt, Int.not_lt, Int.not_le] at c_199
                  refine gz_iload_n dX12_lawOf_206 rfl rfl ?_
                  try simp only [fl_eq, Int32.reduceToInt] at hw_21_6
                  try simp only [fl_eq, Int32.reduceToInt] at hw_21_0
                  try simp only [fl_eq, Int32.reduceToInt] at hw_21_1
                  try simp only [fl_eq, Int32.reduceToInt] at hw_21_2
                  try simp only [fl_eq, Int32.reduceToInt] at hw_21_3
                  try simp only [fl_eq, Int32.reduceToInt] at hw_21_4
                  try simp only [fl_eq, Int32.reduceToInt] at hw_21_5
                  have u78 : (F 78 x1.toInt.toNat).toInt = (F 78 (Int32.toNatClampNeg x1)).toInt := rfl
                  have u79 : (F 79 x1.toInt.toNat).toInt = (F 79 (Int32.toNatClampNeg x1)).toInt := rfl
                  have u76 : (F 76 (F 78 x1.toInt.toNat).toInt.toNat).toInt = (F 76 (Int32.toNatClampNeg (F 78 (Int32.toNatClampNeg x1)))).toInt := rfl
                  have uu8 : (F 78 (F 78 x1.toInt.toNat).toInt.toNat).toInt = (F 78 (Int32.toNatClampNeg (F 78 (Int32.toNatClampNeg x1)))).toInt := rfl
                  have ux : (x1.toInt.toNat : Int) = x1.toInt := by omega
                  have u81 : (F 81 (F 78 x1.toInt.toNat).toInt.toNat).toInt = (F 81 (Int32.toNatClampNeg (F 78 (Int32.toNatClampNeg x1)))).toInt := rfl
                  have u91 : (F 81 (F 79 x1.toInt.toNat).toInt.toNat).toInt = (F 81 (Int32.toNatClampNeg (F 79 (Int32.toNatClampNeg x1)))).toInt := rfl
                  exact gz_iret rfl dX12_lawOf_207 (Nat.le_of_ble_eq_true rfl) (Nat.le_of_ble_eq_true rfl) (⟨_, rfl, ⟨fun z => by omega, fun z => by omega, fun z => ⟨fun z => by omega, fun z => ⟨fun z => by omega, fun z => by omega⟩⟩, fun z => ⟨fun z => by omega, fun z => ⟨fun z => by omega, fun z => by omega⟩⟩, fun z => ⟨fun z => by omega, fun z => by omega⟩, fun z => ⟨fun z => by omega, fun z9 => ⟨fun z => by omega, fun z8 => ⟨fun z => by omega, fun z => by omega⟩⟩⟩, fun z => ⟨fun z => by omega, fun z => by omega⟩⟩, rfl⟩)
                ·
                  try simp only [mIn_0, lgc_lt, lgc_gt, lgc_le, lgc_ge, lgc_eq] at c_199
                  try simp only [fl_lt, fl_le, fl_eq, fL_w, fL_lt, fL_le, tm1, tm10k, tm9, tm99, Int32.reduceToInt, Int64.reduceToInt, Int.not_lt, Int.not_le] at c_199
                  refine gz_iload_n dX12_lawOf_202 rfl rfl ?_
                  refine gz_goto (tgt := 207) dX12_lawOf_203 (by decide) ?_
                  try simp only [fl_eq, Int32.reduceToInt] at hw_21_6
                  try simp only [fl_eq, Int32.reduceToInt] at hw_21_0
                  try simp only [fl_eq, Int32.reduceToInt] at hw_21_1
                  try simp only [fl_eq, Int32.reduceToInt] at hw_21_2
                  try simp only [fl_eq, Int32.reduceToInt] at hw_21_3
                  try simp only [fl_eq, Int32.reduceToInt] at hw_21_4
                  try simp only [fl_eq, Int32.reduceToInt] at hw_21_5
                  have u78 : (F 78 x1.toInt.toNat).toInt = (F 78 (Int32.toNatClampNeg x1)).toInt := rfl
                  have u79 : (F 79 x1.toInt.toNat).toInt = (F 79 (Int32.toNatClampNeg x1)).toInt := rfl
                  have u76 : (F 76 (F 78 x1.toInt.toNat).toInt.toNat).toInt = (F 76 (Int32.toNatClampNeg (F 78 (Int32.toNatClampNeg x1)))).toInt := rfl
                  have uu8 : (F 78 (F 78 x1.toInt.toNat).toInt.toNat).toInt = (F 78 (Int32.toNatClampNeg (F 78 (Int32.toNatClampNeg x1)))).toInt := rfl
                  have ux : (x1.toInt.toNat : Int) = x1.toInt := by omega
                  have u81 : (F 81 (F 78 x1.toInt.toNat).toInt.toNat).toInt = (F 81 (Int32.toNatClampNeg (F 78 (Int32.toNatClampNeg x1)))).toInt := rfl
                  have u91 : (F 81 (F 79 x1.toInt.toNat).toInt.toNat).toInt = (F 81 (Int32.toNatClampNeg (F 79 (Int32.toNatClampNeg x1)))).toInt := rfl
                  exact gz_iret rfl dX12_lawOf_207 (Nat.le_of_ble_eq_true rfl) (Nat.le_of_ble_eq_true rfl) (⟨_, rfl, ⟨fun z => by omega, fun z => by omega, fun z => ⟨fun z => by omega, fun z => ⟨fun z => by omega, fun z => by omega⟩⟩, fun z => ⟨fun z => by omega, fun z => ⟨fun z => by omega, fun z => by omega⟩⟩, fun z => ⟨fun z => by omega, fun z => by omega⟩, fun z => ⟨fun z => by omega, fun z9 => ⟨fun z => by omega, fun z8 => ⟨fun z => by omega, fun z => by omega⟩⟩⟩, fun z => ⟨fun z => by omega, fun z => by omega⟩⟩, rfl⟩)
              ·
                by_cases hw_21_7 : ((F 76) (Int32.toNatClampNeg x1)) = 7
                ·
                  refine gz_ev (w := .int 7) (congrArg Value.int hw_21_7) ?_
                  refine gz_tableIn (off := 176) (tgt := 197) dX12_lawOf_21 (by decide) (by decide) rfl (by decide) ?_
                  refine gz_iload_n dX12_lawOf_197 rfl rfl ?_
                  refine gz_iload_n dX12_lawOf_198 rfl rfl ?_
                  refine gz_icmp_ne (tgt := 206) dX12_lawOf_199 (by decide) (fun c_199 => ?_) (fun c_199 => ?_)
                  ·
                    try simp only [mIn_0, lgc_lt, lgc_gt, lgc_le, lgc_ge, lgc_eq] at c_199
                    try simp only [fl_lt, fl_le, fl_eq, fL_w, fL_lt, fL_le, tm1, tm10k, tm9, tm99, Int32.reduceToInt, Int64.reduceToInt, Int.not_lt, Int.not_le] at c_199
                    refine gz_iload_n dX12_lawOf_206 rfl rfl ?_
                    try simp only [fl_eq, Int32.reduceToInt] at hw_21_7
                    try simp only [fl_eq, Int32.reduceToInt] at hw_21_0
                    try simp only [fl_eq, Int32.reduceToInt] at hw_21_1
                    try simp only [fl_eq, Int32.reduceToInt] at hw_21_2
                    try simp only [fl_eq, Int32.reduceToInt] at hw_21_3
                    try simp only [fl_eq, Int32.reduceToInt] at hw_21_4
                    try simp only [fl_eq, Int32.reduceToInt] at hw_21_5
                    try simp only [fl_eq, Int32.reduceToInt] at hw_21_6
                    have u78 : (F 78 x1.toInt.toNat).toInt = (F 78 (Int32.toNatClampNeg x1)).toInt := rfl
                    have u79 : (F 79 x1.toInt.toNat).toInt = (F 79 (Int32.toNatClampNeg x1)).toInt := rfl
                    have u76 : (F 76 (F 78 x1.toInt.toNat).toInt.toNat).toInt = (F 76 (Int32.toNatClampNeg (F 78 (Int32.toNatClampNeg x1)))).toInt := rfl
                    have uu8 : (F 78 (F 78 x1.toInt.toNat).toInt.toNat).toInt = (F 78 (Int32.toNatClampNeg (F 78 (Int32.toNatClampNeg x1)))).toInt := rfl
                    have ux : (x1.toInt.toNat : Int) = x1.toInt := by omega
                    have u81 : (F 81 (F 78 x1.toInt.toNat).toInt.toNat).toInt = (F 81 (Int32.toNatClampNeg (F 78 (Int32.toNatClampNeg x1)))).toInt := rfl
                    have u91 : (F 81 (F 79 x1.toInt.toNat).toInt.toNat).toInt = (F 81 (Int32.toNatClampNeg (F 79 (Int32.toNatClampNeg x1)))).toInt := rfl
                    exact gz_iret rfl dX12_lawOf_207 (Nat.le_of_ble_eq_true rfl) (Nat.le_of_ble_eq_true rfl) (⟨_, rfl, ⟨fun z => by omega, fun z => by omega, fun z => ⟨fun z => by omega, fun z => ⟨fun z => by omega, fun z => by omega⟩⟩, fun z => ⟨fun z => by omega, fun z => ⟨fun z => by omega, fun z => by omega⟩⟩, fun z => ⟨fun z => by omega, fun z => by omega⟩, fun z => ⟨fun z => by omega, fun z9 => ⟨fun z => by omega, fun z8 => ⟨fun z => by omega, fun z => by omega⟩⟩⟩, fun z => ⟨fun z => by omega, fun z => by omega⟩⟩, rfl⟩)
                  ·
                    try simp only [mIn_0, lgc_lt, lgc_gt, lgc_le, lgc_ge, lgc_eq] at c_199
                    try simp only [fl_lt, fl_le, fl_eq, fL_w, fL_lt, fL_le, tm1, tm10k, tm9, tm99, Int32.reduceToInt, Int64.reduceToInt, Int.not_lt, Int.not_le] at c_199
                    refine gz_iload_n dX12_lawOf_202 rfl rfl ?_
                    refine gz_goto (tgt := 207) dX12_lawOf_203 (by decide) ?_
                    try simp only [fl_eq, Int32.reduceToInt] at hw_21_7
                    try simp only [fl_eq, Int32.reduceToInt] at hw_21_0
                    try simp only [fl_eq, Int32.reduceToInt] at hw_21_1
                    try simp only [fl_eq, Int32.reduceToInt] at hw_21_2
                    try simp only [fl_eq, Int32.reduceToInt] at hw_21_3
                    try simp only [fl_eq, Int32.reduceToInt] at hw_21_4
                    try simp only [fl_eq, Int32.reduceToInt] at hw_21_5
                    try simp only [fl_eq, Int32.reduceToInt] at hw_21_6
                    have u78 : (F 78 x1.toInt.toNat).toInt = (F 78 (Int32.toNatClampNeg x1)).toInt := rfl
                    have u79 : (F 79 x1.toInt.toNat).toInt = (F 79 (Int32.toNatClampNeg x1)).toInt := rfl
                    have u76 : (F 76 (F 78 x1.toInt.toNat).toInt.toNat).toInt = (F 76 (Int32.toNatClampNeg (F 78 (Int32.toNatClampNeg x1)))).toInt := rfl
                    have uu8 : (F 78 (F 78 x1.toInt.toNat).toInt.toNat).toInt = (F 78 (Int32.toNatClampNeg (F 78 (Int32.toNatClampNeg x1)))).toInt := rfl
                    have ux : (x1.toInt.toNat : Int) = x1.toInt := by omega
                    have u81 : (F 81 (F 78 x1.toInt.toNat).toInt.toNat).toInt = (F 81 (Int32.toNatClampNeg (F 78 (Int32.toNatClampNeg x1)))).toInt := rfl
                    have u91 : (F 81 (F 79 x1.toInt.toNat).toInt.toNat).toInt = (F 81 (Int32.toNatClampNeg (F 79 (Int32.toNatClampNeg x1)))).toInt := rfl
                    exact gz_iret rfl dX12_lawOf_207 (Nat.le_of_ble_eq_true rfl) (Nat.le_of_ble_eq_true rfl) (⟨_, rfl, ⟨fun z => by omega, fun z => by omega, fun z => ⟨fun z => by omega, fun z => ⟨fun z => by omega, fun z => by omega⟩⟩, fun z => ⟨fun z => by omega, fun z => ⟨fun z => by omega, fun z => by omega⟩⟩, fun z => ⟨fun z => by omega, fun z => by omega⟩, fun z => ⟨fun z => by omega, fun z9 => ⟨fun z => by omega, fun z8 => ⟨fun z => by omega, fun z => by omega⟩⟩⟩, fun z => ⟨fun z => by omega, fun z => by omega⟩⟩, rfl⟩)
                ·
                  by_cases hw_21_8 : ((F 76) (Int32.toNatClampNeg x1)) = 8
                  ·
                    refine gz_ev (w := .int 8) (congrArg Value.int hw_21_8) ?_
                    refine gz_tableIn (off := 176) (tgt := 197) dX12_lawOf_21 (by decide) (by decide) rfl (by decide) ?_
                    refine gz_iload_n dX12_lawOf_197 rfl rfl ?_
                    refine gz_iload_n dX12_lawOf_198 rfl rfl ?_
                    refine gz_icmp_ne (tgt := 206) dX12_lawOf_199 (by decide) (fun c_199 => ?_) (fun c_199 => ?_)
                    ·
                      try simp only [mIn_0, lgc_lt, lgc_gt, lgc_le, lgc_ge, lgc_eq] at c_199
                      try simp only [fl_lt, fl_le, fl_eq, fL_w, fL_lt, fL_le, tm1, tm10k, tm9, tm99, Int32.reduceToInt, Int64.reduceToInt, Int.not_lt, Int.not_le] at c_199
                      refine gz_iload_n dX12_lawOf_206 rfl rfl ?_
                      try simp only [fl_eq, Int32.reduceToInt] at hw_21_8
                      try simp only [fl_eq, Int32.reduceToInt] at hw_21_0
                      try simp only [fl_eq, Int32.reduceToInt] at hw_21_1
                      try simp only [fl_eq, Int32.reduceToInt] at hw_21_2
                      try simp only [fl_eq, Int32.reduceToInt] at hw_21_3
                      try simp only [fl_eq, Int32.reduceToInt] at hw_21_4
                      try simp only [fl_eq, Int32.reduceToInt] at hw_21_5
                      try simp only [fl_eq, Int32.reduceToInt] at hw_21_6
                      try simp only [fl_eq, Int32.reduceToInt] at hw_21_7
                      have u78 : (F 78 x1.toInt.toNat).toInt = (F 78 (Int32.toNatClampNeg x1)).toInt := rfl
                      have u79 : (F 79 x1.toInt.toNat).toInt = (F 79 (Int32.toNatClampNeg x1)).toInt := rfl
                      have u76 : (F 76 (F 78 x1.toInt.toNat).toInt.toNat).toInt = (F 76 (Int32.toNatClampNeg (F 78 (Int32.toNatClampNeg x1)))).toInt := rfl
                      have uu8 : (F 78 (F 78 x1.toInt.toNat).toInt.toNat).toInt = (F 78 (Int32.toNatClampNeg (F 78 (Int32.toNatClampNeg x1)))).toInt := rfl
                      have ux : (x1.toInt.toNat : Int) = x1.toInt := by omega
                      have u81 : (F 81 (F 78 x1.toInt.toNat).toInt.toNat).toInt = (F 81 (Int32.toNatClampNeg (F 78 (Int32.toNatClampNeg x1)))).toInt := rfl
                      have u91 : (F 81 (F 79 x1.toInt.toNat).toInt.toNat).toInt = (F 81 (Int32.toNatClampNeg (F 79 (Int32.toNatClampNeg x1)))).toInt := rfl
                      exact gz_iret rfl dX12_lawOf_207 (Nat.le_of_ble_eq_true rfl) (Nat.le_of_ble_eq_true rfl) (⟨_, rfl, ⟨fun z => by omega, fun z => by omega, fun z => ⟨fun z => by omega, fun z => ⟨fun z => by omega, fun z => by omega⟩⟩, fun z => ⟨fun z => by omega, fun z => ⟨fun z => by omega, fun z => by omega⟩⟩, fun z => ⟨fun z => by omega, fun z => by omega⟩, fun z => ⟨fun z => by omega, fun z9 => ⟨fun z => by omega, fun z8 => ⟨fun z => by omega, fun z => by omega⟩⟩⟩, fun z => ⟨fun z => by omega, fun z => by omega⟩⟩, rfl⟩)
                    ·
                      try simp only [mIn_0, lgc_lt, lgc_gt, lgc_le, lgc_ge, lgc_eq] at c_199
                      try simp only [fl_lt, fl_le, fl_eq, fL_w, fL_lt, fL_le, tm1, tm10k, tm9, tm99, Int32.reduceToInt, Int64.reduceToInt, Int.not_lt, Int.not_le] at c_199
                      refine gz_iload_n dX12_lawOf_202 rfl rfl ?_
                      refine gz_goto (tgt := 207) dX12_lawOf_203 (by decide) ?_
                      try simp only [fl_eq, Int32.reduceToInt] at hw_21_8
                      try simp only [fl_eq, Int32.reduceToInt] at hw_21_0
                      try simp only [fl_eq, Int32.reduceToInt] at hw_21_1
                      try simp only [fl_eq, Int32.reduceToInt] at hw_21_2
                      try simp only [fl_eq, Int32.reduceToInt] at hw_21_3
                      try simp only [fl_eq, Int32.reduceToInt] at hw_21_4
                      try simp only [fl_eq, Int32.reduceToInt] at hw_21_5
                      try simp only [fl_eq, Int32.reduceToInt] at hw_21_6
                      try simp only [fl_eq, Int32.reduceToInt] at hw_21_7
                      have u78 : (F 78 x1.toInt.toNat).toInt = (F 78 (Int32.toNatClampNeg x1)).toInt := rfl
                      have u79 : (F 79 x1.toInt.toNat).toInt = (F 79 (Int32.toNatClampNeg x1)).toInt := rfl
                      have u76 : (F 76 (F 78 x1.toInt.toNat).toInt.toNat).toInt = (F 76 (Int32.toNatClampNeg (F 78 (Int32.toNatClampNeg x1)))).toInt := rfl
                      have uu8 : (F 78 (F 78 x1.toInt.toNat).toInt.toNat).toInt = (F 78 (Int32.toNatClampNeg (F 78 (Int32.toNatClampNeg x1)))).toInt := rfl
                      have ux : (x1.toInt.toNat : Int) = x1.toInt := by omega
                      have u81 : (F 81 (F 78 x1.toInt.toNat).toInt.toNat).toInt = (F 81 (Int32.toNatClampNeg (F 78 (Int32.toNatClampNeg x1)))).toInt := rfl
                      have u91 : (F 81 (F 79 x1.toInt.toNat).toInt.toNat).toInt = (F 81 (Int32.toNatClampNeg (F 79 (Int32.toNatClampNeg x1)))).toInt := rfl
                      exact gz_iret rfl dX12_lawOf_207 (Nat.le_of_ble_eq_true rfl) (Nat.le_of_ble_eq_true rfl) (⟨_, rfl, ⟨fun z => by omega, fun z => by omega, fun z => ⟨fun z => by omega, fun z => ⟨fun z => by omega, fun z => by omega⟩⟩, fun z => ⟨fun z => by omega, fun z => ⟨fun z => by omega, fun z => by omega⟩⟩, fun z => ⟨fun z => by omega, fun z => by omega⟩, fun z => ⟨fun z => by omega, fun z9 => ⟨fun z => by omega, fun z8 => ⟨fun z => by omega, fun z => by omega⟩⟩⟩, fun z => ⟨fun z => by omega, fun z => by omega⟩⟩, rfl⟩)
                  ·
                    by_cases hw_21_9 : ((F 76) (Int32.toNatClampNeg x1)) = 9
                    ·
                      refine gz_ev (w := .int 9) (congrArg Value.int hw_21_9) ?_
                      refine gz_tableIn (off := 133) (tgt := 154) dX12_lawOf_21 (by decide) (by decide) rfl (by decide) ?_
                      refine gz_iload_n dX12_lawOf_154 rfl rfl ?_
                      refine gz_iload_n dX12_lawOf_155 rfl rfl ?_
                      refine gz_icmp_eq (tgt := 173) dX12_lawOf_156 (by decide) (fun c_156 => ?_) (fun c_156 => ?_)
                      ·
                        try simp only [mIn_0, lgc_lt, lgc_gt, lgc_le, lgc_ge, lgc_eq] at c_156
                        try simp only [fl_lt, fl_le, fl_eq, fL_w, fL_lt, fL_le, tm1, tm10k, tm9, tm99, Int32.reduceToInt, Int64.reduceToInt, Int.not_lt, Int.not_le] at c_156
                        refine gz_iload_n dX12_lawOf_173 rfl rfl ?_
                        refine gz_goto (tgt := 196) dX12_lawOf_174 (by decide) ?_
                        try simp only [fl_eq, Int32.reduceToInt] at hw_21_9
                        try simp only [fl_eq, Int32.reduceToInt] at hw_21_0
                        try simp only [fl_eq, Int32.reduceToInt] at hw_21_1
                        try simp only [fl_eq, Int32.reduceToInt] at hw_21_2
                        try simp only [fl_eq, Int32.reduceToInt] at hw_21_3
                        try simp only [fl_eq, Int32.reduceToInt] at hw_21_4
                        try simp only [fl_eq, Int32.reduceToInt] at hw_21_5
                        try simp only [fl_eq, Int32.reduceToInt] at hw_21_6
                        try simp only [fl_eq, Int32.reduceToInt] at hw_21_7
                        try simp only [fl_eq, Int32.reduceToInt] at hw_21_8
                        have u78 : (F 78 x1.toInt.toNat).toInt = (F 78 (Int32.toNatClampNeg x1)).toInt := rfl
                        have u79 : (F 79 x1.toInt.toNat).toInt = (F 79 (Int32.toNatClampNeg x1)).toInt := rfl
                        have u76 : (F 76 (F 78 x1.toInt.toNat).toInt.toNat).toInt = (F 76 (Int32.toNatClampNeg (F 78 (Int32.toNatClampNeg x1)))).toInt := rfl
                        have uu8 : (F 78 (F 78 x1.toInt.toNat).toInt.toNat).toInt = (F 78 (Int32.toNatClampNeg (F 78 (Int32.toNatClampNeg x1)))).toInt := rfl
                        have ux : (x1.toInt.toNat : Int) = x1.toInt := by omega
                        have u81 : (F 81 (F 78 x1.toInt.toNat).toInt.toNat).toInt = (F 81 (Int32.toNatClampNeg (F 78 (Int32.toNatClampNeg x1)))).toInt := rfl
                        have u91 : (F 81 (F 79 x1.toInt.toNat).toInt.toNat).toInt = (F 81 (Int32.toNatClampNeg (F 79 (Int32.toNatClampNeg x1)))).toInt := rfl
                        exact gz_iret rfl dX12_lawOf_196 (Nat.le_of_ble_eq_true rfl) (Nat.le_of_ble_eq_true rfl) (⟨_, rfl, ⟨fun z => by omega, fun z => by omega, fun z => ⟨fun z => by omega, fun z => ⟨fun z => by omega, fun z => by omega⟩⟩, fun z => ⟨fun z => by omega, fun z => ⟨fun z => by omega, fun z => by omega⟩⟩, fun z => ⟨fun z => by omega, fun z => by omega⟩, fun z => ⟨fun z => by omega, fun z9 => ⟨fun z => by omega, fun z8 => ⟨fun z => by omega, fun z => by omega⟩⟩⟩, fun z => ⟨fun z => by omega, fun z => by omega⟩⟩, rfl⟩)
                      ·
                        try simp only [mIn_0, lgc_lt, lgc_gt, lgc_le, lgc_ge, lgc_eq] at c_156
                        try simp only [fl_lt, fl_le, fl_eq, fL_w, fL_lt, fL_le, tm1, tm10k, tm9, tm99, Int32.reduceToInt, Int64.reduceToInt, Int.not_lt, Int.not_le] at c_156
                        refine gz_aload_n dX12_lawOf_159 rfl rfl ?_
                        refine gz_aload_n dX12_lawOf_160 rfl rfl ?_
                        refine mg_222 hS dX12_lawOf_161 ?_
                        refine gz_iload_n dX12_lawOf_164 rfl rfl ?_
                        refine m_iald 80 hS rfl (N := 82) rfl ((by exact vin_T (rfl : (x1).toInt = (x1).toInt) (by omega) (by omega))) dX12_lawOf_165 ?_
                        refine gz_iconst (v := 0) dX12_lawOf_166 (by decide) ?_
                        try simp only [fl_eq, Int32.reduceToInt] at hw_21_9
                        try simp only [fl_eq, Int32.reduceToInt] at hw_21_0
                        try simp only [fl_eq, Int32.reduceToInt] at hw_21_1
                        try simp only [fl_eq, Int32.reduceToInt] at hw_21_2
                        try simp only [fl_eq, Int32.reduceToInt] at hw_21_3
                        try simp only [fl_eq, Int32.reduceToInt] at hw_21_4
                        try simp only [fl_eq, Int32.reduceToInt] at hw_21_5
                        try simp only [fl_eq, Int32.reduceToInt] at hw_21_6
                        try simp only [fl_eq, Int32.reduceToInt] at hw_21_7
                        try simp only [fl_eq, Int32.reduceToInt] at hw_21_8
                        refine scX12_514 (k_X12_isAloneE (x1 := ((F 80) (Int32.toNatClampNeg x1))) (x2 := 0) (a_ := y1) hS bA (by omega) (by rw [show ((F 80) (Int32.toNatClampNeg x1)).toInt.toNat = 40 * fo + kk1 by omega]; exact m1) vy1 (by omega)) hS.1 ⟨(Nat.le_of_ble_eq_true rfl), (Nat.le_of_ble_eq_true rfl)⟩ ⟨(Nat.le_of_ble_eq_true rfl), (Nat.le_of_ble_eq_true rfl)⟩ rfl rfl (Nat.le_of_ble_eq_true rfl) dX12_lawOf_167 ?_
                        rintro r_1 f9 ⟨hb_1, y9⟩; rw [y9]
                        rw [show (0 : Int32).toInt = 0 from rfl, alH_cg sy1] at hb_1
                        rcases hb_1 with ⟨hr1, hp0⟩ | ⟨hr1, hp0⟩
                        ·
                          refine gz_ev (w := .int 1) (congrArg Value.int hr1) ?_
                          refine gz_if_eq (tgt := 177) dX12_lawOf_170 (by decide) (fun c_170 => ?_) (fun c_170 => ?_)
                          · exact absurd c_170 (by decide)
                          ·
                            try simp only [mIn_0, lgc_lt, lgc_gt, lgc_le, lgc_ge, lgc_eq] at c_170
                            try simp only [fl_lt, fl_le, fl_eq, fL_w, fL_lt, fL_le, tm1, tm10k, tm9, tm99, Int32.reduceToInt, Int64.reduceToInt, Int.not_lt, Int.not_le] at c_170
                            refine gz_iload_n dX12_lawOf_173 rfl rfl ?_
                            refine gz_goto (tgt := 196) dX12_lawOf_174 (by decide) ?_
                            try simp only [fl_eq, Int32.reduceToInt] at hw_21_9
                            try simp only [fl_eq, Int32.reduceToInt] at hw_21_0
                            try simp only [fl_eq, Int32.reduceToInt] at hw_21_1
                            try simp only [fl_eq, Int32.reduceToInt] at hw_21_2
                            try simp only [fl_eq, Int32.reduceToInt] at hw_21_3
                            try simp only [fl_eq, Int32.reduceToInt] at hw_21_4
                            try simp only [fl_eq, Int32.reduceToInt] at hw_21_5
                            try simp only [fl_eq, Int32.reduceToInt] at hw_21_6
                            try simp only [fl_eq, Int32.reduceToInt] at hw_21_7
                            try simp only [fl_eq, Int32.reduceToInt] at hw_21_8
                            have u78 : (F 78 x1.toInt.toNat).toInt = (F 78 (Int32.toNatClampNeg x1)).toInt := rfl
                            have u79 : (F 79 x1.toInt.toNat).toInt = (F 79 (Int32.toNatClampNeg x1)).toInt := rfl
                            have u76 : (F 76 (F 78 x1.toInt.toNat).toInt.toNat).toInt = (F 76 (Int32.toNatClampNeg (F 78 (Int32.toNatClampNeg x1)))).toInt := rfl
                            have uu8 : (F 78 (F 78 x1.toInt.toNat).toInt.toNat).toInt = (F 78 (Int32.toNatClampNeg (F 78 (Int32.toNatClampNeg x1)))).toInt := rfl
                            have ux : (x1.toInt.toNat : Int) = x1.toInt := by omega
                            have u81 : (F 81 (F 78 x1.toInt.toNat).toInt.toNat).toInt = (F 81 (Int32.toNatClampNeg (F 78 (Int32.toNatClampNeg x1)))).toInt := rfl
                            have u91 : (F 81 (F 79 x1.toInt.toNat).toInt.toNat).toInt = (F 81 (Int32.toNatClampNeg (F 79 (Int32.toNatClampNeg x1)))).toInt := rfl
                            exact gz_iret rfl dX12_lawOf_196 (Nat.le_of_ble_eq_true rfl) (Nat.le_of_ble_eq_true rfl) (⟨_, rfl, ⟨fun z => by omega, fun z => by omega, fun z => ⟨fun z => by omega, fun z => ⟨fun z => by omega, fun z => by omega⟩⟩, fun z => ⟨fun z => by omega, fun z => ⟨fun z => by omega, fun z => by omega⟩⟩, fun z => ⟨fun z => by omega, fun z => by omega⟩, fun z => ⟨fun z => by omega, fun z9 => ⟨fun z => by omega, fun z8 => ⟨fun z => absurd hp0 z8, fun z => absurd hp0 z8⟩⟩⟩, fun z => ⟨fun z => by omega, fun z => by omega⟩⟩, rfl⟩)
                        ·
                          refine gz_ev (w := .int 0) (congrArg Value.int hr1) ?_
                          refine gz_if_eq (tgt := 177) dX12_lawOf_170 (by decide) (fun c_170 => ?_) (fun c_170 => ?_)
                          ·
                            try simp only [mIn_0, lgc_lt, lgc_gt, lgc_le, lgc_ge, lgc_eq] at c_170
                            try simp only [fl_lt, fl_le, fl_eq, fL_w, fL_lt, fL_le, tm1, tm10k, tm9, tm99, Int32.reduceToInt, Int64.reduceToInt, Int.not_lt, Int.not_le] at c_170
                            refine gz_aload_n dX12_lawOf_177 rfl rfl ?_
                            refine gz_aload_n dX12_lawOf_178 rfl rfl ?_
                            refine mg_222 hS dX12_lawOf_179 ?_
                            refine gz_iload_n dX12_lawOf_182 rfl rfl ?_
                            refine m_iald 80 hS rfl (N := 82) rfl ((by exact vin_T (rfl : (x1).toInt = (x1).toInt) (by omega) (by omega))) dX12_lawOf_183 ?_
                            refine gz_iconst (v := 1) dX12_lawOf_184 (by decide) ?_
                            try simp only [fl_eq, Int32.reduceToInt] at hw_21_9
                            try simp only [fl_eq, Int32.reduceToInt] at hw_21_0
                            try simp only [fl_eq, Int32.reduceToInt] at hw_21_1
                            try simp only [fl_eq, Int32.reduceToInt] at hw_21_2
                            try simp only [fl_eq, Int32.reduceToInt] at hw_21_3
                            try simp only [fl_eq, Int32.reduceToInt] at hw_21_4
                            try simp only [fl_eq, Int32.reduceToInt] at hw_21_5
                            try simp only [fl_eq, Int32.reduceToInt] at hw_21_6
                            try simp only [fl_eq, Int32.reduceToInt] at hw_21_7
                            try simp only [fl_eq, Int32.reduceToInt] at hw_21_8
                            refine scX12_514 (k_X12_isAloneE (x1 := ((F 80) (Int32.toNatClampNeg x1))) (x2 := 1) (a_ := y1) hS bA (by omega) (by rw [show ((F 80) (Int32.toNatClampNeg x1)).toInt.toNat = 40 * fo + kk1 by omega]; exact m1) vy1 (by omega)) hS.1 ⟨(Nat.le_of_ble_eq_true rfl), (Nat.le_of_ble_eq_true rfl)⟩ ⟨(Nat.le_of_ble_eq_true rfl), (Nat.le_of_ble_eq_true rfl)⟩ rfl rfl (Nat.le_of_ble_eq_true rfl) dX12_lawOf_185 ?_
                            rintro r_2 f9 ⟨hb_2, y9⟩; rw [y9]
                            rw [show (1 : Int32).toInt = 1 from rfl, alH_cg sy1] at hb_2
                            rcases hb_2 with ⟨hr2, hp1⟩ | ⟨hr2, hp1⟩
                            ·
                              refine gz_ev (w := .int 1) (congrArg Value.int hr2) ?_
                              refine gz_if_eq (tgt := 195) dX12_lawOf_188 (by decide) (fun c_188 => ?_) (fun c_188 => ?_)
                              · exact absurd c_188 (by decide)
                              ·
                                try simp only [mIn_0, lgc_lt, lgc_gt, lgc_le, lgc_ge, lgc_eq] at c_188
                                try simp only [fl_lt, fl_le, fl_eq, fL_w, fL_lt, fL_le, tm1, tm10k, tm9, tm99, Int32.reduceToInt, Int64.reduceToInt, Int.not_lt, Int.not_le] at c_188
                                refine gz_iload_n dX12_lawOf_191 rfl rfl ?_
                                refine gz_goto (tgt := 196) dX12_lawOf_192 (by decide) ?_
                                try simp only [fl_eq, Int32.reduceToInt] at hw_21_9
                                try simp only [fl_eq, Int32.reduceToInt] at hw_21_0
                                try simp only [fl_eq, Int32.reduceToInt] at hw_21_1
                                try simp only [fl_eq, Int32.reduceToInt] at hw_21_2
                                try simp only [fl_eq, Int32.reduceToInt] at hw_21_3
                                try simp only [fl_eq, Int32.reduceToInt] at hw_21_4
                                try simp only [fl_eq, Int32.reduceToInt] at hw_21_5
                                try simp only [fl_eq, Int32.reduceToInt] at hw_21_6
                                try simp only [fl_eq, Int32.reduceToInt] at hw_21_7
                                try simp only [fl_eq, Int32.reduceToInt] at hw_21_8
                                have u78 : (F 78 x1.toInt.toNat).toInt = (F 78 (Int32.toNatClampNeg x1)).toInt := rfl
                                have u79 : (F 79 x1.toInt.toNat).toInt = (F 79 (Int32.toNatClampNeg x1)).toInt := rfl
                                have u76 : (F 76 (F 78 x1.toInt.toNat).toInt.toNat).toInt = (F 76 (Int32.toNatClampNeg (F 78 (Int32.toNatClampNeg x1)))).toInt := rfl
                                have uu8 : (F 78 (F 78 x1.toInt.toNat).toInt.toNat).toInt = (F 78 (Int32.toNatClampNeg (F 78 (Int32.toNatClampNeg x1)))).toInt := rfl
                                have ux : (x1.toInt.toNat : Int) = x1.toInt := by omega
                                have u81 : (F 81 (F 78 x1.toInt.toNat).toInt.toNat).toInt = (F 81 (Int32.toNatClampNeg (F 78 (Int32.toNatClampNeg x1)))).toInt := rfl
                                have u91 : (F 81 (F 79 x1.toInt.toNat).toInt.toNat).toInt = (F 81 (Int32.toNatClampNeg (F 79 (Int32.toNatClampNeg x1)))).toInt := rfl
                                exact gz_iret rfl dX12_lawOf_196 (Nat.le_of_ble_eq_true rfl) (Nat.le_of_ble_eq_true rfl) (⟨_, rfl, ⟨fun z => by omega, fun z => by omega, fun z => ⟨fun z => by omega, fun z => ⟨fun z => by omega, fun z => by omega⟩⟩, fun z => ⟨fun z => by omega, fun z => ⟨fun z => by omega, fun z => by omega⟩⟩, fun z => ⟨fun z => by omega, fun z => by omega⟩, fun z => ⟨fun z => by omega, fun z9 => ⟨fun z => absurd z hp0, fun z8 => ⟨fun z => by omega, fun z => absurd hp1 z⟩⟩⟩, fun z => ⟨fun z => by omega, fun z => by omega⟩⟩, rfl⟩)
                            ·
                              refine gz_ev (w := .int 0) (congrArg Value.int hr2) ?_
                              refine gz_if_eq (tgt := 195) dX12_lawOf_188 (by decide) (fun c_188 => ?_) (fun c_188 => ?_)
                              ·
                                try simp only [mIn_0, lgc_lt, lgc_gt, lgc_le, lgc_ge, lgc_eq] at c_188
                                try simp only [fl_lt, fl_le, fl_eq, fL_w, fL_lt, fL_le, tm1, tm10k, tm9, tm99, Int32.reduceToInt, Int64.reduceToInt, Int.not_lt, Int.not_le] at c_188
                                refine gz_iload_n dX12_lawOf_195 rfl rfl ?_
                                try simp only [fl_eq, Int32.reduceToInt] at hw_21_9
                                try simp only [fl_eq, Int32.reduceToInt] at hw_21_0
                                try simp only [fl_eq, Int32.reduceToInt] at hw_21_1
                                try simp only [fl_eq, Int32.reduceToInt] at hw_21_2
                                try simp only [fl_eq, Int32.reduceToInt] at hw_21_3
                                try simp only [fl_eq, Int32.reduceToInt] at hw_21_4
                                try simp only [fl_eq, Int32.reduceToInt] at hw_21_5
                                try simp only [fl_eq, Int32.reduceToInt] at hw_21_6
                                try simp only [fl_eq, Int32.reduceToInt] at hw_21_7
                                try simp only [fl_eq, Int32.reduceToInt] at hw_21_8
                                have u78 : (F 78 x1.toInt.toNat).toInt = (F 78 (Int32.toNatClampNeg x1)).toInt := rfl
                                have u79 : (F 79 x1.toInt.toNat).toInt = (F 79 (Int32.toNatClampNeg x1)).toInt := rfl
                                have u76 : (F 76 (F 78 x1.toInt.toNat).toInt.toNat).toInt = (F 76 (Int32.toNatClampNeg (F 78 (Int32.toNatClampNeg x1)))).toInt := rfl
                                have uu8 : (F 78 (F 78 x1.toInt.toNat).toInt.toNat).toInt = (F 78 (Int32.toNatClampNeg (F 78 (Int32.toNatClampNeg x1)))).toInt := rfl
                                have ux : (x1.toInt.toNat : Int) = x1.toInt := by omega
                                have u81 : (F 81 (F 78 x1.toInt.toNat).toInt.toNat).toInt = (F 81 (Int32.toNatClampNeg (F 78 (Int32.toNatClampNeg x1)))).toInt := rfl
                                have u91 : (F 81 (F 79 x1.toInt.toNat).toInt.toNat).toInt = (F 81 (Int32.toNatClampNeg (F 79 (Int32.toNatClampNeg x1)))).toInt := rfl
                                exact gz_iret rfl dX12_lawOf_196 (Nat.le_of_ble_eq_true rfl) (Nat.le_of_ble_eq_true rfl) (⟨_, rfl, ⟨fun z => by omega, fun z => by omega, fun z => ⟨fun z => by omega, fun z => ⟨fun z => by omega, fun z => by omega⟩⟩, fun z => ⟨fun z => by omega, fun z => ⟨fun z => by omega, fun z => by omega⟩⟩, fun z => ⟨fun z => by omega, fun z => by omega⟩, fun z => ⟨fun z => by omega, fun z9 => ⟨fun z => absurd z hp0, fun z8 => ⟨fun z => absurd z hp1, fun z => by omega⟩⟩⟩, fun z => ⟨fun z => by omega, fun z => by omega⟩⟩, rfl⟩)
                              · exact absurd c_188 (by decide)
                          · exact absurd c_170 (by decide)
                    ·
                      refine gz_tableOut (tgt := 197) dX12_lawOf_21 (by have g0 : ((F 76) (Int32.toNatClampNeg x1)).toInt ≠ 0 := fun e => hw_21_0 (Int32.toInt_inj.mp (e.trans rfl)); have g1 : ((F 76) (Int32.toNatClampNeg x1)).toInt ≠ 1 := fun e => hw_21_1 (Int32.toInt_inj.mp (e.trans rfl)); have g2 : ((F 76) (Int32.toNatClampNeg x1)).toInt ≠ 2 := fun e => hw_21_2 (Int32.toInt_inj.mp (e.trans rfl)); have g3 : ((F 76) (Int32.toNatClampNeg x1)).toInt ≠ 3 := fun e => hw_21_3 (Int32.toInt_inj.mp (e.trans rfl)); have g4 : ((F 76) (Int32.toNatClampNeg x1)).toInt ≠ 4 := fun e => hw_21_4 (Int32.toInt_inj.mp (e.trans rfl)); have g5 : ((F 76) (Int32.toNatClampNeg x1)).toInt ≠ 5 := fun e => hw_21_5 (Int32.toInt_inj.mp (e.trans rfl)); have g6 : ((F 76) (Int32.toNatClampNeg x1)).toInt ≠ 6 := fun e => hw_21_6 (Int32.toInt_inj.mp (e.trans rfl)); have g7 : ((F 76) (Int32.toNatClampNeg x1)).toInt ≠ 7 := fun e => hw_21_7 (Int32.toInt_inj.mp (e.trans rfl)); have g8 : ((F 76) (Int32.toNatClampNeg x1)).toInt ≠ 8 := fun e => hw_21_8 (Int32.toInt_inj.mp (e.trans rfl)); have g9 : ((F 76) (Int32.toNatClampNeg x1)).toInt ≠ 9 := fun e => hw_21_9 (Int32.toInt_inj.mp (e.trans rfl)); omega) (by decide) ?_
                      refine gz_iload_n dX12_lawOf_197 rfl rfl ?_
                      refine gz_iload_n dX12_lawOf_198 rfl rfl ?_
                      refine gz_icmp_ne (tgt := 206) dX12_lawOf_199 (by decide) (fun c_199 => ?_) (fun c_199 => ?_)
                      ·
                        try simp only [mIn_0, lgc_lt, lgc_gt, lgc_le, lgc_ge, lgc_eq] at c_199
                        try simp only [fl_lt, fl_le, fl_eq, fL_w, fL_lt, fL_le, tm1, tm10k, tm9, tm99, Int32.reduceToInt, Int64.reduceToInt, Int.not_lt, Int.not_le] at c_199
                        refine gz_iload_n dX12_lawOf_206 rfl rfl ?_
                        try simp only [fl_eq, Int32.reduceToInt] at hw_21_0
                        try simp only [fl_eq, Int32.reduceToInt] at hw_21_1
                        try simp only [fl_eq, Int32.reduceToInt] at hw_21_2
                        try simp only [fl_eq, Int32.reduceToInt] at hw_21_3
                        try simp only [fl_eq, Int32.reduceToInt] at hw_21_4
                        try simp only [fl_eq, Int32.reduceToInt] at hw_21_5
                        try simp only [fl_eq, Int32.reduceToInt] at hw_21_6
                        try simp only [fl_eq, Int32.reduceToInt] at hw_21_7
                        try simp only [fl_eq, Int32.reduceToInt] at hw_21_8
                        try simp only [fl_eq, Int32.reduceToInt] at hw_21_9
                        have u78 : (F 78 x1.toInt.toNat).toInt = (F 78 (Int32.toNatClampNeg x1)).toInt := rfl
                        have u79 : (F 79 x1.toInt.toNat).toInt = (F 79 (Int32.toNatClampNeg x1)).toInt := rfl
                        have u76 : (F 76 (F 78 x1.toInt.toNat).toInt.toNat).toInt = (F 76 (Int32.toNatClampNeg (F 78 (Int32.toNatClampNeg x1)))).toInt := rfl
                        have uu8 : (F 78 (F 78 x1.toInt.toNat).toInt.toNat).toInt = (F 78 (Int32.toNatClampNeg (F 78 (Int32.toNatClampNeg x1)))).toInt := rfl
                        have ux : (x1.toInt.toNat : Int) = x1.toInt := by omega
                        have u81 : (F 81 (F 78 x1.toInt.toNat).toInt.toNat).toInt = (F 81 (Int32.toNatClampNeg (F 78 (Int32.toNatClampNeg x1)))).toInt := rfl
                        have u91 : (F 81 (F 79 x1.toInt.toNat).toInt.toNat).toInt = (F 81 (Int32.toNatClampNeg (F 79 (Int32.toNatClampNeg x1)))).toInt := rfl
                        exact gz_iret rfl dX12_lawOf_207 (Nat.le_of_ble_eq_true rfl) (Nat.le_of_ble_eq_true rfl) (⟨_, rfl, ⟨fun z => by omega, fun z => by omega, fun z => ⟨fun z => by omega, fun z => ⟨fun z => by omega, fun z => by omega⟩⟩, fun z => ⟨fun z => by omega, fun z => ⟨fun z => by omega, fun z => by omega⟩⟩, fun z => ⟨fun z => by omega, fun z => by omega⟩, fun z => ⟨fun z => by omega, fun z9 => ⟨fun z => by omega, fun z8 => ⟨fun z => by omega, fun z => by omega⟩⟩⟩, fun z => ⟨fun z => by omega, fun z => by omega⟩⟩, rfl⟩)
                      ·
                        try simp only [mIn_0, lgc_lt, lgc_gt, lgc_le, lgc_ge, lgc_eq] at c_199
                        try simp only [fl_lt, fl_le, fl_eq, fL_w, fL_lt, fL_le, tm1, tm10k, tm9, tm99, Int32.reduceToInt, Int64.reduceToInt, Int.not_lt, Int.not_le] at c_199
                        refine gz_iload_n dX12_lawOf_202 rfl rfl ?_
                        refine gz_goto (tgt := 207) dX12_lawOf_203 (by decide) ?_
                        try simp only [fl_eq, Int32.reduceToInt] at hw_21_0
                        try simp only [fl_eq, Int32.reduceToInt] at hw_21_1
                        try simp only [fl_eq, Int32.reduceToInt] at hw_21_2
                        try simp only [fl_eq, Int32.reduceToInt] at hw_21_3
                        try simp only [fl_eq, Int32.reduceToInt] at hw_21_4
                        try simp only [fl_eq, Int32.reduceToInt] at hw_21_5
                        try simp only [fl_eq, Int32.reduceToInt] at hw_21_6
                        try simp only [fl_eq, Int32.reduceToInt] at hw_21_7
                        try simp only [fl_eq, Int32.reduceToInt] at hw_21_8
                        try simp only [fl_eq, Int32.reduceToInt] at hw_21_9
                        have u78 : (F 78 x1.toInt.toNat).toInt = (F 78 (Int32.toNatClampNeg x1)).toInt := rfl
                        have u79 : (F 79 x1.toInt.toNat).toInt = (F 79 (Int32.toNatClampNeg x1)).toInt := rfl
                        have u76 : (F 76 (F 78 x1.toInt.toNat).toInt.toNat).toInt = (F 76 (Int32.toNatClampNeg (F 78 (Int32.toNatClampNeg x1)))).toInt := rfl
                        have uu8 : (F 78 (F 78 x1.toInt.toNat).toInt.toNat).toInt = (F 78 (Int32.toNatClampNeg (F 78 (Int32.toNatClampNeg x1)))).toInt := rfl
                        have ux : (x1.toInt.toNat : Int) = x1.toInt := by omega
                        have u81 : (F 81 (F 78 x1.toInt.toNat).toInt.toNat).toInt = (F 81 (Int32.toNatClampNeg (F 78 (Int32.toNatClampNeg x1)))).toInt := rfl
                        have u91 : (F 81 (F 79 x1.toInt.toNat).toInt.toNat).toInt = (F 81 (Int32.toNatClampNeg (F 79 (Int32.toNatClampNeg x1)))).toInt := rfl
                        exact gz_iret rfl dX12_lawOf_207 (Nat.le_of_ble_eq_true rfl) (Nat.le_of_ble_eq_true rfl) (⟨_, rfl, ⟨fun z => by omega, fun z => by omega, fun z => ⟨fun z => by omega, fun z => ⟨fun z => by omega, fun z => by omega⟩⟩, fun z => ⟨fun z => by omega, fun z => ⟨fun z => by omega, fun z => by omega⟩⟩, fun z => ⟨fun z => by omega, fun z => by omega⟩, fun z => ⟨fun z => by omega, fun z9 => ⟨fun z => by omega, fun z8 => ⟨fun z => by omega, fun z => by omega⟩⟩⟩, fun z => ⟨fun z => by omega, fun z => by omega⟩⟩, rfl⟩)
