/-! same -/
theorem nS_dZ {F : Nat → Nat → Int32} {W0 W1 x : Nat} (h : nS F W0 W1 x) : dZ F W0 W1 1 0 x := by
  rcases h with h | h | ⟨h, h1 | ⟨h1, h2⟩⟩
  · exact Or.inl h
  · exact Or.inr (Or.inl h)
  · exact Or.inr (Or.inr ⟨h, Or.inr ⟨rfl, Or.inl h1⟩⟩)
  · exact Or.inr (Or.inr ⟨h, Or.inr ⟨rfl, Or.inr ⟨by omega, h2⟩⟩⟩)
theorem same_cp {fcn n5 x y r9 r8 : Int32} {F : Nat → Nat → Int32} {Tf : Nat → List Hd} (hfc : fcn = n5) (k2 : ∀ k : Nat, (k : Int) < fcn.toInt → LX F k (Tf k))
    (h9 : ((0 ≤ x.toInt ∧ x.toInt < fcn.toInt) ∧ 0 ≤ y.toInt ∧ y.toInt < fcn.toInt → (r9 = 1 ∧ ewT 41 (shT (Tf (Int32.toNatClampNeg x))) (shT (Tf (Int32.toNatClampNeg y)))) ∨ (r9 = 0 ∧ ¬ ewT 41 (shT (Tf (Int32.toNatClampNeg x))) (shT (Tf (Int32.toNatClampNeg y))))) ∧ (¬ ((0 ≤ x.toInt ∧ x.toInt < fcn.toInt) ∧ 0 ≤ y.toInt ∧ y.toInt < fcn.toInt) → r9 = -1))
    (h8 : (0 ≤ x.toInt ∧ x.toInt < n5.toInt) ∧ 0 ≤ y.toInt ∧ y.toInt < n5.toInt → (r8 = 1 ∧ ewI (shT (Tf (Int32.toNatClampNeg x))) (shT (Tf (Int32.toNatClampNeg y)))) ∨ (r8 = 0 ∧ ¬ ewI (shT (Tf (Int32.toNatClampNeg x))) (shT (Tf (Int32.toNatClampNeg y))))) (h8n : ¬ ((0 ≤ x.toInt ∧ x.toInt < n5.toInt) ∧ 0 ≤ y.toInt ∧ y.toInt < n5.toInt) → r8 = -1) : r8 = r9 := by
  subst hfc
  by_cases c : (0 ≤ x.toInt ∧ x.toInt < fcn.toInt) ∧ 0 ≤ y.toInt ∧ y.toInt < fcn.toInt
  · have ex : Int32.toNatClampNeg x = x.toInt.toNat := rfl
    have hX := k2 (Int32.toNatClampNeg x) (by rw [ex]; omega)
    obtain ⟨-, g1, g2, g3, g4, g5⟩ := shT_ok hX.1.1 hX.1.2.2.1 hX.1.2.1
    have l4 := hX.1.2.2.2.1
    have q := ewI_T (A := shT (Tf (Int32.toNatClampNeg x))) (B := shT (Tf (Int32.toNatClampNeg y))) (by omega)
    rcases h9.1 c with ⟨a, b⟩ | ⟨a, b⟩
    · rcases h8 c with ⟨a2, b2⟩ | ⟨a2, b2⟩
      · rw [a, a2]
      · exact absurd (q.mpr b) b2
    · rcases h8 c with ⟨a2, b2⟩ | ⟨a2, b2⟩
      · exact absurd (q.mp b2) b
      · rw [a, a2]
  · rw [h9.2 c, h8n c]
theorem stZ_0 {F : Nat → Nat → Int32} {W0 W1 p x : Nat} {L : Nat → List Hd} {sd y : Int} (h : (F 81 x).toInt = (x : Int)) (hy : y ≤ 0) : stZ F W0 W1 L sd p x y := Or.inl ⟨h, fun z hz => by omega⟩

set_option maxHeartbeats 4000000 in
set_option maxRecDepth 100000 in
theorem l_X12_same3E {l : Launch} {D : va_G} {cy : Nat → ClassId} {b : Nat} {m : Nat} {a : Nat → Nat} {f0 : gMem} {n0 : Nat → Int32} {z0 : Nat → Int64} {F0 : Nat → Nat → Int32} {G0 : Nat → Nat → Int64}  {x1 x2 : Int32} {CSp Q : Prop} {fo go W0 W1 R0 R1 : Nat} {L_ : Nat → List Hd} {H : Nat → Hd} {fi se : Nat → Nat} {sd bs kk xq : Int32} {kN xn : Nat} (hW : W0 ≤ 40 ∧ W1 ≤ 40) (hW6 : (F0 6 (Int32.toNatClampNeg x1)).toInt = (W0 : Int) ∧ (F0 6 (Int32.toNatClampNeg x2)).toInt = (W1 : Int)) (hfg : fo < 20 ∧ go < 20) (hsd : sd.toInt = 0 ∨ sd.toInt = 1) (hnd : (sd.toInt = 0 ∧ xn = kN ∧ kN < W0) ∨ (sd.toInt = 1 ∧ xn = 41 + kN ∧ kN < W1)) (hxn : xn = ndZ sd.toInt kN) (hkq : kk.toInt = (kN : Int) ∧ xq.toInt = (xn : Int)) (hq : ∀  (n : Nat → Int32) (z : Nat → Int64) (F : Nat → Nat → Int32) (G : Nat → Nat → Int64) (fm : gMem), mS cy m a f0 n z F G fm → fx [] [] [76, 77, 78, 79, 80, 81, 82] [] n0 z0 F0 G0 n z F G → (RI n F) → (NR F) → (0 ≤ x1.toInt ∧ x1.toInt < (n 5).toInt) → (0 ≤ x2.toInt ∧ x2.toInt < (n 5).toInt) → (SN F fo go W0 W1 L_ H fi se) → (((F 82 0).toInt = (R0 : Int) ∧ (F 82 41).toInt = (R1 : Int)) ∧ nS F W0 W1 R0 ∧ nS F W0 W1 R1) → (NZ F W0 W1 L_ sd.toInt kN) → gG l (gRm 4 0 0) (gQf D b (pI fun r f2 => ∃ (n2 : Nat → Int32) (z2 : Nat → Int64) (F2 : Nat → Nat → Int32) (G2 : Nat → Nat → Int64), mS cy m a f0 n2 z2 F2 G2 f2 ∧ fx [] [] [76, 77, 78, 79, 80, 81, 82] [] n0 z0 F0 G0 n2 z2 F2 G2 ∧ RI n2 F2 ∧ NR F2 ∧ (CSp → (r = 1 ∧ Q) ∨ (r = 0 ∧ ¬ Q)) ∧ (¬ CSp → r = -1)) 0 0) gTt D cy b cX12_same 9 (some .int) RX12 "same" 0 0 fm 248 [(5, .int kk), (4, .int bs), (3, .int sd), (0, .ref m), (1, .int x1), (2, .int x2)] []) : ∀ (k : Nat) (y : Int32) (n : Nat → Int32) (z : Nat → Int64) (F : Nat → Nat → Int32) (G : Nat → Nat → Int64) (fm : gMem), mS cy m a f0 n z F G fm → fx [] [] [76, 77, 78, 79, 80, 81, 82] [] n0 z0 F0 G0 n z F G → (RI n F) → (NR F) → (0 ≤ x1.toInt ∧ x1.toInt < (n 5).toInt) → (0 ≤ x2.toInt ∧ x2.toInt < (n 5).toInt) → (SN F fo go W0 W1 L_ H fi se) → (((F 82 0).toInt = (R0 : Int) ∧ (F 82 41).toInt = (R1 : Int)) ∧ nS F W0 W1 R0 ∧ nS F W0 W1 R1) → (NZ F W0 W1 L_ sd.toInt (kN + 1)) → (fxN F xn) → (stZ F W0 W1 L_ sd.toInt (kN + 1) xn (y.toInt)) → (0 ≤ y.toInt ∧ y.toInt ≤ 82 ∧ y.toInt + (k : Int) = 83) → gG l (gRm 4 0 0) (gQf D b (pI fun r f2 => ∃ (n2 : Nat → Int32) (z2 : Nat → Int64) (F2 : Nat → Nat → Int32) (G2 : Nat → Nat → Int64), mS cy m a f0 n2 z2 F2 G2 f2 ∧ fx [] [] [76, 77, 78, 79, 80, 81, 82] [] n0 z0 F0 G0 n2 z2 F2 G2 ∧ RI n2 F2 ∧ NR F2 ∧ (CSp → (r = 1 ∧ Q) ∨ (r = 0 ∧ ¬ Q)) ∧ (¬ CSp → r = -1)) 0 0) gTt D cy b cX12_same 9 (some .int) RX12 "same" 0 0 fm 109 [(7, .int y), (6, .int xq), (5, .int kk), (4, .int bs), (3, .int sd), (0, .ref m), (1, .int x1), (2, .int x2)] [] := by
  intro k
  induction k with
  | zero =>
    intro y n z F G fm hS hx hR hN hfa hfb hSN hrp hNZ hfx hst hk
    exfalso; omega
  | succ k ih =>
    intro y n z F G fm hS hx hR hN hfa hfb hSN hrp hNZ hfx hst hk
    obtain ⟨a0, a4, a5, bA, bW, a30, bL, a38, bP, a53, a47, a88⟩ := id hR
    have qc1 := clI (i := x1) (by omega)
    have qc2 := clI (i := x2) (by omega)
    have e6 : F 6 = F0 6 := hx.2.2.1 6 (by decide)
    have w6 : (F 6 (Int32.toNatClampNeg x1)).toInt = (W0 : Int) ∧ (F 6 (Int32.toNatClampNeg x2)).toInt = (W1 : Int) := by rw [e6]; exact hW6
    have ecx : (Int32.toNatClampNeg xq) = xn := by rw [clN]; omega
    have enx : xq.toInt.toNat = xn := by omega
    have hkd : (sd.toInt = 0 ∧ kN < W0) ∨ (sd.toInt = 1 ∧ kN < W1) := by omega
    have hnot : ¬ dZ F W0 W1 sd.toInt (kN + 1) xn := by rw [hxn]; exact (dZ_st (F := F) hsd hW hkd).2.2.1
    refine gz_iload dX12_same_109 rfl ?_
    refine gz_bipush (v := 82) dX12_same_111 (by decide) ?_
    refine gz_icmp_ge (tgt := 248) dX12_same_113 (by decide) (fun c_113 => ?_) (fun c_113 => ?_)
    ·
      try simp only [mIn_0, lgc_lt, lgc_gt, lgc_le, lgc_ge, lgc_eq] at c_113
      try simp only [fl_lt, fl_le, fl_eq, fL_w, fL_lt, fL_le, tm1, tm10k, tm9, tm99, Int32.reduceToInt, Int64.reduceToInt, Int.not_lt, Int.not_le] at c_113
      refine gz_sub (lv' := [(5, .int kk), (4, .int bs), (3, .int sd), (0, .ref m), (1, .int x1), (2, .int x2)]) (by simp [List.lookup]) ?_
      exact hq  _ _ _ _ _ hS hx (hR) (hN) (hfa) (hfb) (hSN) (hrp) (by
              have h81x : (F 81 (Int32.toNatClampNeg xq)).toInt = (F 81 xn).toInt := by rw [ecx]
              exact NZ_st hSN hsd hW hkd (by rw [← hxn]; exact hfx) hNZ (by rw [← hxn]; exact hst) (by rw [← hxn]; omega))
    ·
      try simp only [mIn_0, lgc_lt, lgc_gt, lgc_le, lgc_ge, lgc_eq] at c_113
      try simp only [fl_lt, fl_le, fl_eq, fL_w, fL_lt, fL_le, tm1, tm10k, tm9, tm99, Int32.reduceToInt, Int64.reduceToInt, Int.not_lt, Int.not_le] at c_113
      refine gz_aload_n dX12_same_116 rfl rfl ?_
      refine mg_225 hS dX12_same_117 ?_
      refine gz_iload dX12_same_120 rfl ?_
      refine m_iald 81 hS rfl (N := 82) rfl ((by exact vin_T (rfl : (xq).toInt = (xq).toInt) (by omega) (by omega))) dX12_same_122 ?_
      refine gz_iload dX12_same_123 rfl ?_
      refine gz_icmp_ne (tgt := 248) dX12_same_125 (by decide) (fun c_125 => ?_) (fun c_125 => ?_)
      ·
        try simp only [mIn_0, lgc_lt, lgc_gt, lgc_le, lgc_ge, lgc_eq] at c_125
        try simp only [fl_lt, fl_le, fl_eq, fL_w, fL_lt, fL_le, tm1, tm10k, tm9, tm99, Int32.reduceToInt, Int64.reduceToInt, Int.not_lt, Int.not_le] at c_125
        refine gz_sub (lv' := [(5, .int kk), (4, .int bs), (3, .int sd), (0, .ref m), (1, .int x1), (2, .int x2)]) (by simp [List.lookup]) ?_
        exact hq  _ _ _ _ _ hS hx (hR) (hN) (hfa) (hfb) (hSN) (hrp) (by
              have h81x : (F 81 (Int32.toNatClampNeg xq)).toInt = (F 81 xn).toInt := by rw [ecx]
              exact NZ_st hSN hsd hW hkd (by rw [← hxn]; exact hfx) hNZ (by rw [← hxn]; exact hst) (by rw [← hxn]; omega))
      ·
        try simp only [mIn_0, lgc_lt, lgc_gt, lgc_le, lgc_ge, lgc_eq] at c_125
        try simp only [fl_lt, fl_le, fl_eq, fL_w, fL_lt, fL_le, tm1, tm10k, tm9, tm99, Int32.reduceToInt, Int64.reduceToInt, Int.not_lt, Int.not_le] at c_125
        refine gz_iload dX12_same_128 rfl ?_
        refine gz_bipush (v := 41) dX12_same_130 (by decide) ?_
        refine gz_icmp_ge (tgt := 166) dX12_same_132 (by decide) (fun c_132 => ?_) (fun c_132 => ?_)
        ·
          try simp only [mIn_0, lgc_lt, lgc_gt, lgc_le, lgc_ge, lgc_eq] at c_132
          try simp only [fl_lt, fl_le, fl_eq, fL_w, fL_lt, fL_le, tm1, tm10k, tm9, tm99, Int32.reduceToInt, Int64.reduceToInt, Int.not_lt, Int.not_le] at c_132
          refine gz_iload_n dX12_same_166 rfl rfl ?_
          refine gz_iconst (v := 1) dX12_same_167 (by decide) ?_
          refine gz_icmp_ne (tgt := 196) dX12_same_168 (by decide) (fun c_168 => ?_) (fun c_168 => ?_)
          ·
            try simp only [mIn_0, lgc_lt, lgc_gt, lgc_le, lgc_ge, lgc_eq] at c_168
            try simp only [fl_lt, fl_le, fl_eq, fL_w, fL_lt, fL_le, tm1, tm10k, tm9, tm99, Int32.reduceToInt, Int64.reduceToInt, Int.not_lt, Int.not_le] at c_168
            refine gz_iconst (v := 0) dX12_same_196 (by decide) ?_
            refine gz_istore (lv' := [(8, .int 0), (7, .int y), (6, .int xq), (5, .int kk), (4, .int bs), (3, .int sd), (0, .ref m), (1, .int x1), (2, .int x2)]) dX12_same_197 (by decide) rfl ?_
            refine gz_iload dX12_same_199 rfl ?_
            refine gz_if_eq (tgt := 242) dX12_same_201 (by decide) (fun c_201 => ?_) (fun c_201 => ?_)
            ·
              try simp only [mIn_0, lgc_lt, lgc_gt, lgc_le, lgc_ge, lgc_eq] at c_201
              try simp only [fl_lt, fl_le, fl_eq, fL_w, fL_lt, fL_le, tm1, tm10k, tm9, tm99, Int32.reduceToInt, Int64.reduceToInt, Int.not_lt, Int.not_le] at c_201
              refine gz_iinc (v := (y + 1)) (lv' := [(7, .int (y + 1)), (8, .int 0), (6, .int xq), (5, .int kk), (4, .int bs), (3, .int sd), (0, .ref m), (1, .int x1), (2, .int x2)]) dX12_same_242 rfl rfl (by decide) rfl ?_
              refine gz_goto (tgt := 109) dX12_same_245 (by decide) ?_
              refine gz_sub (lv' := [(7, .int (y + 1)), (6, .int xq), (5, .int kk), (4, .int bs), (3, .int sd), (0, .ref m), (1, .int x1), (2, .int x2)]) (by simp [List.lookup]) ?_
              have hyn : (y + 1).toInt = y.toInt + 1 := T_add (rfl : y.toInt = y.toInt) (show (1 : Int32).toInt = 1 from rfl) (by omega)
              have hst9 : stZ F W0 W1 L_ sd.toInt (kN + 1) xn ((y + 1).toInt) := stZ_mk ((stZ_un hst).imp (fun q => ⟨q.1, fun z z1 z2 z3 z4 => by by_cases e : z = y.toInt.toNat; (exfalso; rcases z4 with w9 | w9 | ⟨w9, w8⟩; (omega); (omega); (unfold fxN at w9; have q9 : (F 82 (Int32.toNatClampNeg y)).toInt = (F 82 z).toInt := (by rw [clN, e]); omega)); (exact q.2 z (by omega) z2 z3 z4)⟩) id)
              exact ih (y + 1) _ _ _ _ _ hS hx (hR) (hN) (hfa) (hfb) (hSN) (hrp) (hNZ) (hfx) (hst9) (by omega)
            · exact absurd c_201 (by decide)
          ·
            try simp only [mIn_0, lgc_lt, lgc_gt, lgc_le, lgc_ge, lgc_eq] at c_168
            try simp only [fl_lt, fl_le, fl_eq, fL_w, fL_lt, fL_le, tm1, tm10k, tm9, tm99, Int32.reduceToInt, Int64.reduceToInt, Int.not_lt, Int.not_le] at c_168
            refine gz_iload dX12_same_171 rfl ?_
            refine gz_bipush (v := 41) dX12_same_173 (by decide) ?_
            refine gz_isub dX12_same_175 ?_
            refine gz_aload_n dX12_same_176 rfl rfl ?_
            refine mg_17 hS dX12_same_177 ?_
            refine gz_iload_n dX12_same_180 rfl rfl ?_
            refine m_iald 6 hS rfl (N := 22) rfl ((by exact vin_T (rfl : (x2).toInt = (x2).toInt) (by omega) (by omega))) dX12_same_181 ?_
            refine gz_icmp_ge (tgt := 196) dX12_same_182 (by decide) (fun c_182 => ?_) (fun c_182 => ?_)
            ·
              try simp only [mIn_0, lgc_lt, lgc_gt, lgc_le, lgc_ge, lgc_eq] at c_182
              try simp only [fl_lt, fl_le, fl_eq, fL_w, fL_lt, fL_le, tm1, tm10k, tm9, tm99, Int32.reduceToInt, Int64.reduceToInt, Int.not_lt, Int.not_le] at c_182
              try have u_182t1 := (T_sub (rfl : (y).toInt = (y).toInt) (show (41 : Int32).toInt = 41 from rfl) (by omega))
              refine gz_iconst (v := 0) dX12_same_196 (by decide) ?_
              refine gz_istore (lv' := [(8, .int 0), (7, .int y), (6, .int xq), (5, .int kk), (4, .int bs), (3, .int sd), (0, .ref m), (1, .int x1), (2, .int x2)]) dX12_same_197 (by decide) rfl ?_
              refine gz_iload dX12_same_199 rfl ?_
              refine gz_if_eq (tgt := 242) dX12_same_201 (by decide) (fun c_201 => ?_) (fun c_201 => ?_)
              ·
                try simp only [mIn_0, lgc_lt, lgc_gt, lgc_le, lgc_ge, lgc_eq] at c_201
                try simp only [fl_lt, fl_le, fl_eq, fL_w, fL_lt, fL_le, tm1, tm10k, tm9, tm99, Int32.reduceToInt, Int64.reduceToInt, Int.not_lt, Int.not_le] at c_201
                refine gz_iinc (v := (y + 1)) (lv' := [(7, .int (y + 1)), (8, .int 0), (6, .int xq), (5, .int kk), (4, .int bs), (3, .int sd), (0, .ref m), (1, .int x1), (2, .int x2)]) dX12_same_242 rfl rfl (by decide) rfl ?_
                refine gz_goto (tgt := 109) dX12_same_245 (by decide) ?_
                refine gz_sub (lv' := [(7, .int (y + 1)), (6, .int xq), (5, .int kk), (4, .int bs), (3, .int sd), (0, .ref m), (1, .int x1), (2, .int x2)]) (by simp [List.lookup]) ?_
                have hyn : (y + 1).toInt = y.toInt + 1 := T_add (rfl : y.toInt = y.toInt) (show (1 : Int32).toInt = 1 from rfl) (by omega)
                have hst9 : stZ F W0 W1 L_ sd.toInt (kN + 1) xn ((y + 1).toInt) := stZ_mk ((stZ_un hst).imp (fun q => ⟨q.1, fun z z1 z2 z3 z4 => by by_cases e : z = y.toInt.toNat; (exfalso; rcases z4 with w9 | w9 | ⟨w9, w8⟩; (omega); (omega); (unfold fxN at w9; have q9 : (F 82 (Int32.toNatClampNeg y)).toInt = (F 82 z).toInt := (by rw [clN, e]); omega)); (exact q.2 z (by omega) z2 z3 z4)⟩) id)
                exact ih (y + 1) _ _ _ _ _ hS hx (hR) (hN) (hfa) (hfb) (hSN) (hrp) (hNZ) (hfx) (hst9) (by omega)
              · exact absurd c_201 (by decide)
            ·
              try simp only [mIn_0, lgc_lt, lgc_gt, lgc_le, lgc_ge, lgc_eq] at c_182
              try simp only [fl_lt, fl_le, fl_eq, fL_w, fL_lt, fL_le, tm1, tm10k, tm9, tm99, Int32.reduceToInt, Int64.reduceToInt, Int.not_lt, Int.not_le] at c_182
              try have u_182t1 := (T_sub (rfl : (y).toInt = (y).toInt) (show (41 : Int32).toInt = 41 from rfl) (by omega))
              refine gz_iload dX12_same_185 rfl ?_
              refine gz_iload dX12_same_187 rfl ?_
              refine gz_icmp_le (tgt := 196) dX12_same_189 (by decide) (fun c_189 => ?_) (fun c_189 => ?_)
              ·
                try simp only [mIn_0, lgc_lt, lgc_gt, lgc_le, lgc_ge, lgc_eq] at c_189
                try simp only [fl_lt, fl_le, fl_eq, fL_w, fL_lt, fL_le, tm1, tm10k, tm9, tm99, Int32.reduceToInt, Int64.reduceToInt, Int.not_lt, Int.not_le] at c_189
                refine gz_iconst (v := 0) dX12_same_196 (by decide) ?_
                refine gz_istore (lv' := [(8, .int 0), (7, .int y), (6, .int xq), (5, .int kk), (4, .int bs), (3, .int sd), (0, .ref m), (1, .int x1), (2, .int x2)]) dX12_same_197 (by decide) rfl ?_
                refine gz_iload dX12_same_199 rfl ?_
                refine gz_if_eq (tgt := 242) dX12_same_201 (by decide) (fun c_201 => ?_) (fun c_201 => ?_)
                ·
                  try simp only [mIn_0, lgc_lt, lgc_gt, lgc_le, lgc_ge, lgc_eq] at c_201
                  try simp only [fl_lt, fl_le, fl_eq, fL_w, fL_lt, fL_le, tm1, tm10k, tm9, tm99, Int32.reduceToInt, Int64.reduceToInt, Int.not_lt, Int.not_le] at c_201
                  refine gz_iinc (v := (y + 1)) (lv' := [(7, .int (y + 1)), (8, .int 0), (6, .int xq), (5, .int kk), (4, .int bs), (3, .int sd), (0, .ref m), (1, .int x1), (2, .int x2)]) dX12_same_242 rfl rfl (by decide) rfl ?_
                  refine gz_goto (tgt := 109) dX12_same_245 (by decide) ?_
                  refine gz_sub (lv' := [(7, .int (y + 1)), (6, .int xq), (5, .int kk), (4, .int bs), (3, .int sd), (0, .ref m), (1, .int x1), (2, .int x2)]) (by simp [List.lookup]) ?_
                  have hyn : (y + 1).toInt = y.toInt + 1 := T_add (rfl : y.toInt = y.toInt) (show (1 : Int32).toInt = 1 from rfl) (by omega)
                  have hst9 : stZ F W0 W1 L_ sd.toInt (kN + 1) xn ((y + 1).toInt) := stZ_mk ((stZ_un hst).imp (fun q => ⟨q.1, fun z z1 z2 z3 z4 => by by_cases e : z = y.toInt.toNat; (exfalso; rcases z4 with w9 | w9 | ⟨w9, w8⟩; (omega); (omega); (unfold fxN at w9; have q9 : (F 82 (Int32.toNatClampNeg y)).toInt = (F 82 z).toInt := (by rw [clN, e]); omega)); (exact q.2 z (by omega) z2 z3 z4)⟩) id)
                  exact ih (y + 1) _ _ _ _ _ hS hx (hR) (hN) (hfa) (hfb) (hSN) (hrp) (hNZ) (hfx) (hst9) (by omega)
                · exact absurd c_201 (by decide)
              ·
                try simp only [mIn_0, lgc_lt, lgc_gt, lgc_le, lgc_ge, lgc_eq] at c_189
                try simp only [fl_lt, fl_le, fl_eq, fL_w, fL_lt, fL_le, tm1, tm10k, tm9, tm99, Int32.reduceToInt, Int64.reduceToInt, Int.not_lt, Int.not_le] at c_189
                refine gz_iconst (v := 1) dX12_same_192 (by decide) ?_
                refine gz_goto (tgt := 197) dX12_same_193 (by decide) ?_
                refine gz_istore (lv' := [(8, .int 1), (7, .int y), (6, .int xq), (5, .int kk), (4, .int bs), (3, .int sd), (0, .ref m), (1, .int x1), (2, .int x2)]) dX12_same_197 (by decide) rfl ?_
                refine gz_iload dX12_same_199 rfl ?_
                refine gz_if_eq (tgt := 242) dX12_same_201 (by decide) (fun c_201 => ?_) (fun c_201 => ?_)
                · exact absurd c_201 (by decide)
                ·
                  try simp only [mIn_0, lgc_lt, lgc_gt, lgc_le, lgc_ge, lgc_eq] at c_201
                  try simp only [fl_lt, fl_le, fl_eq, fL_w, fL_lt, fL_le, tm1, tm10k, tm9, tm99, Int32.reduceToInt, Int64.reduceToInt, Int.not_lt, Int.not_le] at c_201
                  refine gz_aload_n dX12_same_204 rfl rfl ?_
                  refine mg_228 hS dX12_same_205 ?_
                  refine gz_iload dX12_same_208 rfl ?_
                  refine m_iald 82 hS rfl (N := 82) rfl ((by exact vin_T (rfl : (y).toInt = (y).toInt) (by omega) (by omega))) dX12_same_210 ?_
                  refine gz_iload dX12_same_211 rfl ?_
                  refine gz_icmp_ne (tgt := 242) dX12_same_213 (by decide) (fun c_213 => ?_) (fun c_213 => ?_)
                  ·
                    try simp only [mIn_0, lgc_lt, lgc_gt, lgc_le, lgc_ge, lgc_eq] at c_213
                    try simp only [fl_lt, fl_le, fl_eq, fL_w, fL_lt, fL_le, tm1, tm10k, tm9, tm99, Int32.reduceToInt, Int64.reduceToInt, Int.not_lt, Int.not_le] at c_213
                    refine gz_iinc (v := (y + 1)) (lv' := [(7, .int (y + 1)), (8, .int 1), (6, .int xq), (5, .int kk), (4, .int bs), (3, .int sd), (0, .ref m), (1, .int x1), (2, .int x2)]) dX12_same_242 rfl rfl (by decide) rfl ?_
                    refine gz_goto (tgt := 109) dX12_same_245 (by decide) ?_
                    refine gz_sub (lv' := [(7, .int (y + 1)), (6, .int xq), (5, .int kk), (4, .int bs), (3, .int sd), (0, .ref m), (1, .int x1), (2, .int x2)]) (by simp [List.lookup]) ?_
                    have hyn : (y + 1).toInt = y.toInt + 1 := T_add (rfl : y.toInt = y.toInt) (show (1 : Int32).toInt = 1 from rfl) (by omega)
                    have hst9 : stZ F W0 W1 L_ sd.toInt (kN + 1) xn ((y + 1).toInt) := stZ_mk ((stZ_un hst).imp (fun q => ⟨q.1, fun z z1 z2 z3 z4 => by by_cases e : z = y.toInt.toNat; (exfalso; rcases z4 with w9 | w9 | ⟨w9, w8⟩; (omega); (omega); (unfold fxN at w9; have q9 : (F 82 (Int32.toNatClampNeg y)).toInt = (F 82 z).toInt := (by rw [clN, e]); omega)); (exact q.2 z (by omega) z2 z3 z4)⟩) id)
                    exact ih (y + 1) _ _ _ _ _ hS hx (hR) (hN) (hfa) (hfb) (hSN) (hrp) (hNZ) (hfx) (hst9) (by omega)
                  ·
                    try simp only [mIn_0, lgc_lt, lgc_gt, lgc_le, lgc_ge, lgc_eq] at c_213
                    try simp only [fl_lt, fl_le, fl_eq, fL_w, fL_lt, fL_le, tm1, tm10k, tm9, tm99, Int32.reduceToInt, Int64.reduceToInt, Int.not_lt, Int.not_le] at c_213
                    refine gz_aload_n dX12_same_216 rfl rfl ?_
                    refine gz_iload dX12_same_217 rfl ?_
                    refine gz_iload dX12_same_219 rfl ?_
                    refine gz_iconst (v := 1) dX12_same_221 (by decide) ?_
                    have fxy : fxN F y.toInt.toNat := by unfold fxN; have q9 : (F 82 y.toInt.toNat).toInt = (F 82 (Int32.toNatClampNeg y)).toInt := rfl; omega
                    have hdy : dZ F W0 W1 sd.toInt (kN + 1) y.toInt.toNat := Or.inr (Or.inr ⟨fxy, by omega⟩)
                    have hfy : fS F W0 W1 y.toInt.toNat := ⟨fxy, by omega⟩
                    have hfX : fS F W0 W1 xn := ⟨hfx, by omega⟩
                    have hal := al_S hSN hsd hW hkd (by rw [← hxn]; exact hfx) hNZ hdy (by omega) (by omega)
                    rw [← hxn] at hal
                    refine scX12_520 (k_X12_areLikeE (x1 := xq) (x2 := y) (x3 := 1) (fo := if xn < 41 then fo else go) (go := if y.toInt.toNat < 41 then fo else go) (a_ := H xn) (b_ := H y.toInt.toNat) hS bA hN (by omega) (by omega) (by split <;> omega) (Or.inl (by rw [enx]; exact (hSN.2.2 _ hfX).1)) (Or.inl (hSN.2.2 _ hfy).1) (by split <;> omega)) hS.1 ⟨(Nat.le_of_ble_eq_true rfl), (Nat.le_of_ble_eq_true rfl)⟩ ⟨(Nat.le_of_ble_eq_true rfl), (Nat.le_of_ble_eq_true rfl)⟩ rfl rfl (Nat.le_of_ble_eq_true rfl) dX12_same_222 ?_
                    rintro r_1 f9 ⟨hb_1, y9⟩; rw [y9]
                    rw [enx, show (1 : Int32).toInt = 1 from rfl] at hb_1
                    rcases hb_1 with ⟨hr1, halp⟩ | ⟨hr1, halp⟩
                    ·
                      refine gz_ev (w := .int 1) (congrArg Value.int hr1) ?_
                      refine gz_if_eq (tgt := 242) dX12_same_225 (by decide) (fun c_225 => ?_) (fun c_225 => ?_)
                      · exact absurd c_225 (by decide)
                      ·
                        try simp only [mIn_0, lgc_lt, lgc_gt, lgc_le, lgc_ge, lgc_eq] at c_225
                        try simp only [fl_lt, fl_le, fl_eq, fL_w, fL_lt, fL_le, tm1, tm10k, tm9, tm99, Int32.reduceToInt, Int64.reduceToInt, Int.not_lt, Int.not_le] at c_225
                        refine gz_aload_n dX12_same_228 rfl rfl ?_
                        refine mg_225 hS dX12_same_229 ?_
                        refine gz_iload dX12_same_232 rfl ?_
                        refine gz_aload_n dX12_same_234 rfl rfl ?_
                        refine mg_225 hS dX12_same_235 ?_
                        refine gz_iload dX12_same_238 rfl ?_
                        refine m_iald 81 hS rfl (N := 82) rfl ((by exact vin_T (rfl : (y).toInt = (y).toInt) (by omega) (by omega))) dX12_same_240 ?_
                        refine m_iast 81 hS rfl (N := 82) rfl ((by exact vin_T (rfl : (xq).toInt = (xq).toInt) (by omega) (by omega))) dX12_same_241 (fun f_2 hS_2q => ?_)
                        have hS_2 : mS cy m a f0 n z (va_up F 81 (upd (F 81) (Int32.toNatClampNeg xq) ((F 81) (Int32.toNatClampNeg y)))) G f_2 := hS_2q
                        refine gz_iinc (v := (y + 1)) (lv' := [(7, .int (y + 1)), (8, .int 1), (6, .int xq), (5, .int kk), (4, .int bs), (3, .int sd), (0, .ref m), (1, .int x1), (2, .int x2)]) dX12_same_242 rfl rfl (by decide) rfl ?_
                        refine gz_goto (tgt := 109) dX12_same_245 (by decide) ?_
                        refine gz_sub (lv' := [(7, .int (y + 1)), (6, .int xq), (5, .int kk), (4, .int bs), (3, .int sd), (0, .ref m), (1, .int x1), (2, .int x2)]) (by simp [List.lookup]) ?_
                        have hyn : (y + 1).toInt = y.toInt + 1 := T_add (rfl : y.toInt = y.toInt) (show (1 : Int32).toInt = 1 from rfl) (by omega)
                        have qy := NR_at hN (x := y) (by omega)
                        have hxx : fx [] [] [81] [] n z F G n z (va_up F 81 (upd (F 81) (Int32.toNatClampNeg xq) ((F 81) (Int32.toNatClampNeg y)))) G := (fx_F fx_rf (by decide))
                        have hN9 : NR (va_up F 81 (upd (F 81) (Int32.toNatClampNeg xq) ((F 81) (Int32.toNatClampNeg y)))) := NR_up hN 81 (fun k hk hne => up_out (K := [81]) (fun _ _ => rfl) (by decide) k (by simp only [List.mem_cons, List.not_mem_nil, or_false]; exact hne)) rfl (Or.inl qy.2.2.2.1) (by decide)
                        have hR9 := RI_fx hR hxx (by decide) (by decide)
                        have s81_ : (va_up F 81 (upd (F 81) (Int32.toNatClampNeg xq) ((F 81) (Int32.toNatClampNeg y)))) 81 = (upd (F 81) (Int32.toNatClampNeg xq) ((F 81) (Int32.toNatClampNeg y))) := rfl
                        have sm81 : ∀ r, r ≠ 81 → (va_up F 81 (upd (F 81) (Int32.toNatClampNeg xq) ((F 81) (Int32.toNatClampNeg y)))) r = F r := fun r hr => hxx.2.2.1 r (by simp only [List.mem_cons, List.not_mem_nil, or_false]; exact hr)
                        have off81 : ∀ i, i ≠ xn → (va_up F 81 (upd (F 81) (Int32.toNatClampNeg xq) ((F 81) (Int32.toNatClampNeg y)))) 81 i = F 81 i := fun i hi => by rw [s81_, ecx, updE, if_neg hi]
                        have hSN9 : SN (va_up F 81 (upd (F 81) (Int32.toNatClampNeg xq) ((F 81) (Int32.toNatClampNeg y)))) fo go W0 W1 L_ H fi se := SN_cg sm81 hSN
                        have e82_ : (va_up F 81 (upd (F 81) (Int32.toNatClampNeg xq) ((F 81) (Int32.toNatClampNeg y)))) 82 = F 82 := sm81 82 (by decide)
                        have hrp9 : (((va_up F 81 (upd (F 81) (Int32.toNatClampNeg xq) ((F 81) (Int32.toNatClampNeg y)))) 82 0).toInt = (R0 : Int) ∧ ((va_up F 81 (upd (F 81) (Int32.toNatClampNeg xq) ((F 81) (Int32.toNatClampNeg y)))) 82 41).toInt = (R1 : Int)) ∧ nS (va_up F 81 (upd (F 81) (Int32.toNatClampNeg xq) ((F 81) (Int32.toNatClampNeg y)))) W0 W1 R0 ∧ nS (va_up F 81 (upd (F 81) (Int32.toNatClampNeg xq) ((F 81) (Int32.toNatClampNeg y)))) W0 W1 R1 := ⟨by rw [e82_]; exact hrp.1, (nS_cg e82_).mpr hrp.2.1, (nS_cg e82_).mpr hrp.2.2⟩
                        have hNZ9 : NZ (va_up F 81 (upd (F 81) (Int32.toNatClampNeg xq) ((F 81) (Int32.toNatClampNeg y)))) W0 W1 L_ sd.toInt (kN + 1) := NZ_cg (x := xn) e82_ off81 hnot hNZ
                        have hfx9 : fxN (va_up F 81 (upd (F 81) (Int32.toNatClampNeg xq) ((F 81) (Int32.toNatClampNeg y)))) xn := by unfold fxN; rw [e82_]; exact hfx
                        have at81 : (va_up F 81 (upd (F 81) (Int32.toNatClampNeg xq) ((F 81) (Int32.toNatClampNeg y)))) 81 xn = F 81 y.toInt.toNat := by rw [s81_, ecx, updE, if_pos rfl]; rfl
                        have hst9 : stZ ((va_up F 81 (upd (F 81) (Int32.toNatClampNeg xq) ((F 81) (Int32.toNatClampNeg y))))) W0 W1 L_ sd.toInt (kN + 1) xn ((y + 1).toInt) := stZ_mk (Or.inr ⟨y.toInt.toNat, (dZ_cg e82_).mpr hdy, hal.mp halp, by rw [at81, off81 _ (by omega)]⟩)
                        exact ih (y + 1) _ _ _ _ _ hS_2 (fx_F hx (by decide)) (hR9) (hN9) (hfa) (hfb) (hSN9) (hrp9) (hNZ9) (hfx9) (hst9) (by omega)
                    ·
                      refine gz_ev (w := .int 0) (congrArg Value.int hr1) ?_
                      refine gz_if_eq (tgt := 242) dX12_same_225 (by decide) (fun c_225 => ?_) (fun c_225 => ?_)
                      ·
                        try simp only [mIn_0, lgc_lt, lgc_gt, lgc_le, lgc_ge, lgc_eq] at c_225
                        try simp only [fl_lt, fl_le, fl_eq, fL_w, fL_lt, fL_le, tm1, tm10k, tm9, tm99, Int32.reduceToInt, Int64.reduceToInt, Int.not_lt, Int.not_le] at c_225
                        refine gz_iinc (v := (y + 1)) (lv' := [(7, .int (y + 1)), (8, .int 1), (6, .int xq), (5, .int kk), (4, .int bs), (3, .int sd), (0, .ref m), (1, .int x1), (2, .int x2)]) dX12_same_242 rfl rfl (by decide) rfl ?_
                        refine gz_goto (tgt := 109) dX12_same_245 (by decide) ?_
                        refine gz_sub (lv' := [(7, .int (y + 1)), (6, .int xq), (5, .int kk), (4, .int bs), (3, .int sd), (0, .ref m), (1, .int x1), (2, .int x2)]) (by simp [List.lookup]) ?_
                        have hyn : (y + 1).toInt = y.toInt + 1 := T_add (rfl : y.toInt = y.toInt) (show (1 : Int32).toInt = 1 from rfl) (by omega)
                        have hst9 : stZ F W0 W1 L_ sd.toInt (kN + 1) xn ((y + 1).toInt) := stZ_mk ((stZ_un hst).imp (fun q => ⟨q.1, fun z z1 z2 z3 z4 => by by_cases e : z = y.toInt.toNat; (rw [e]; exact fun w9 => halp (hal.mpr w9)); (exact q.2 z (by omega) z2 z3 z4)⟩) id)
                        exact ih (y + 1) _ _ _ _ _ hS hx (hR) (hN) (hfa) (hfb) (hSN) (hrp) (hNZ) (hfx) (hst9) (by omega)
                      · exact absurd c_225 (by decide)
        ·
          try simp only [mIn_0, lgc_lt, lgc_gt, lgc_le, lgc_ge, lgc_eq] at c_132
          try simp only [fl_lt, fl_le, fl_eq, fL_w, fL_lt, fL_le, tm1, tm10k, tm9, tm99, Int32.reduceToInt, Int64.reduceToInt, Int.not_lt, Int.not_le] at c_132
          refine gz_iload dX12_same_135 rfl ?_
          refine gz_aload_n dX12_same_137 rfl rfl ?_
          refine mg_17 hS dX12_same_138 ?_
          refine gz_iload_n dX12_same_141 rfl rfl ?_
          refine m_iald 6 hS rfl (N := 22) rfl ((by exact vin_T (rfl : (x1).toInt = (x1).toInt) (by omega) (by omega))) dX12_same_142 ?_
          refine gz_icmp_ge (tgt := 162) dX12_same_143 (by decide) (fun c_143 => ?_) (fun c_143 => ?_)
          ·
            try simp only [mIn_0, lgc_lt, lgc_gt, lgc_le, lgc_ge, lgc_eq] at c_143
            try simp only [fl_lt, fl_le, fl_eq, fL_w, fL_lt, fL_le, tm1, tm10k, tm9, tm99, Int32.reduceToInt, Int64.reduceToInt, Int.not_lt, Int.not_le] at c_143
            refine gz_iconst (v := 0) dX12_same_162 (by decide) ?_
            refine gz_goto (tgt := 197) dX12_same_163 (by decide) ?_
            refine gz_istore (lv' := [(8, .int 0), (7, .int y), (6, .int xq), (5, .int kk), (4, .int bs), (3, .int sd), (0, .ref m), (1, .int x1), (2, .int x2)]) dX12_same_197 (by decide) rfl ?_
            refine gz_iload dX12_same_199 rfl ?_
            refine gz_if_eq (tgt := 242) dX12_same_201 (by decide) (fun c_201 => ?_) (fun c_201 => ?_)
            ·
              try simp only [mIn_0, lgc_lt, lgc_gt, lgc_le, lgc_ge, lgc_eq] at c_201
              try simp only [fl_lt, fl_le, fl_eq, fL_w, fL_lt, fL_le, tm1, tm10k, tm9, tm99, Int32.reduceToInt, Int64.reduceToInt, Int.not_lt, Int.not_le] at c_201
              refine gz_iinc (v := (y + 1)) (lv' := [(7, .int (y + 1)), (8, .int 0), (6, .int xq), (5, .int kk), (4, .int bs), (3, .int sd), (0, .ref m), (1, .int x1), (2, .int x2)]) dX12_same_242 rfl rfl (by decide) rfl ?_
              refine gz_goto (tgt := 109) dX12_same_245 (by decide) ?_
              refine gz_sub (lv' := [(7, .int (y + 1)), (6, .int xq), (5, .int kk), (4, .int bs), (3, .int sd), (0, .ref m), (1, .int x1), (2, .int x2)]) (by simp [List.lookup]) ?_
              have hyn : (y + 1).toInt = y.toInt + 1 := T_add (rfl : y.toInt = y.toInt) (show (1 : Int32).toInt = 1 from rfl) (by omega)
              have hst9 : stZ F W0 W1 L_ sd.toInt (kN + 1) xn ((y + 1).toInt) := stZ_mk ((stZ_un hst).imp (fun q => ⟨q.1, fun z z1 z2 z3 z4 => by by_cases e : z = y.toInt.toNat; (exfalso; rcases z4 with w9 | w9 | ⟨w9, w8⟩; (omega); (omega); (unfold fxN at w9; have q9 : (F 82 (Int32.toNatClampNeg y)).toInt = (F 82 z).toInt := (by rw [clN, e]); omega)); (exact q.2 z (by omega) z2 z3 z4)⟩) id)
              exact ih (y + 1) _ _ _ _ _ hS hx (hR) (hN) (hfa) (hfb) (hSN) (hrp) (hNZ) (hfx) (hst9) (by omega)
            · exact absurd c_201 (by decide)
          ·
            try simp only [mIn_0, lgc_lt, lgc_gt, lgc_le, lgc_ge, lgc_eq] at c_143
            try simp only [fl_lt, fl_le, fl_eq, fL_w, fL_lt, fL_le, tm1, tm10k, tm9, tm99, Int32.reduceToInt, Int64.reduceToInt, Int.not_lt, Int.not_le] at c_143
            refine gz_iload_n dX12_same_146 rfl rfl ?_
            refine gz_iconst (v := 1) dX12_same_147 (by decide) ?_
            refine gz_icmp_eq (tgt := 158) dX12_same_148 (by decide) (fun c_148 => ?_) (fun c_148 => ?_)
            ·
              try simp only [mIn_0, lgc_lt, lgc_gt, lgc_le, lgc_ge, lgc_eq] at c_148
              try simp only [fl_lt, fl_le, fl_eq, fL_w, fL_lt, fL_le, tm1, tm10k, tm9, tm99, Int32.reduceToInt, Int64.reduceToInt, Int.not_lt, Int.not_le] at c_148
              refine gz_iconst (v := 1) dX12_same_158 (by decide) ?_
              refine gz_goto (tgt := 197) dX12_same_159 (by decide) ?_
              refine gz_istore (lv' := [(8, .int 1), (7, .int y), (6, .int xq), (5, .int kk), (4, .int bs), (3, .int sd), (0, .ref m), (1, .int x1), (2, .int x2)]) dX12_same_197 (by decide) rfl ?_
              refine gz_iload dX12_same_199 rfl ?_
              refine gz_if_eq (tgt := 242) dX12_same_201 (by decide) (fun c_201 => ?_) (fun c_201 => ?_)
              · exact absurd c_201 (by decide)
              ·
                try simp only [mIn_0, lgc_lt, lgc_gt, lgc_le, lgc_ge, lgc_eq] at c_201
                try simp only [fl_lt, fl_le, fl_eq, fL_w, fL_lt, fL_le, tm1, tm10k, tm9, tm99, Int32.reduceToInt, Int64.reduceToInt, Int.not_lt, Int.not_le] at c_201
                refine gz_aload_n dX12_same_204 rfl rfl ?_
                refine mg_228 hS dX12_same_205 ?_
                refine gz_iload dX12_same_208 rfl ?_
                refine m_iald 82 hS rfl (N := 82) rfl ((by exact vin_T (rfl : (y).toInt = (y).toInt) (by omega) (by omega))) dX12_same_210 ?_
                refine gz_iload dX12_same_211 rfl ?_
                refine gz_icmp_ne (tgt := 242) dX12_same_213 (by decide) (fun c_213 => ?_) (fun c_213 => ?_)
                ·
                  try simp only [mIn_0, lgc_lt, lgc_gt, lgc_le, lgc_ge, lgc_eq] at c_213
                  try simp only [fl_lt, fl_le, fl_eq, fL_w, fL_lt, fL_le, tm1, tm10k, tm9, tm99, Int32.reduceToInt, Int64.reduceToInt, Int.not_lt, Int.not_le] at c_213
                  refine gz_iinc (v := (y + 1)) (lv' := [(7, .int (y + 1)), (8, .int 1), (6, .int xq), (5, .int kk), (4, .int bs), (3, .int sd), (0, .ref m), (1, .int x1), (2, .int x2)]) dX12_same_242 rfl rfl (by decide) rfl ?_
                  refine gz_goto (tgt := 109) dX12_same_245 (by decide) ?_
                  refine gz_sub (lv' := [(7, .int (y + 1)), (6, .int xq), (5, .int kk), (4, .int bs), (3, .int sd), (0, .ref m), (1, .int x1), (2, .int x2)]) (by simp [List.lookup]) ?_
                  have hyn : (y + 1).toInt = y.toInt + 1 := T_add (rfl : y.toInt = y.toInt) (show (1 : Int32).toInt = 1 from rfl) (by omega)
                  have hst9 : stZ F W0 W1 L_ sd.toInt (kN + 1) xn ((y + 1).toInt) := stZ_mk ((stZ_un hst).imp (fun q => ⟨q.1, fun z z1 z2 z3 z4 => by by_cases e : z = y.toInt.toNat; (exfalso; rcases z4 with w9 | w9 | ⟨w9, w8⟩; (omega); (omega); (unfold fxN at w9; have q9 : (F 82 (Int32.toNatClampNeg y)).toInt = (F 82 z).toInt := (by rw [clN, e]); omega)); (exact q.2 z (by omega) z2 z3 z4)⟩) id)
                  exact ih (y + 1) _ _ _ _ _ hS hx (hR) (hN) (hfa) (hfb) (hSN) (hrp) (hNZ) (hfx) (hst9) (by omega)
                ·
                  try simp only [mIn_0, lgc_lt, lgc_gt, lgc_le, lgc_ge, lgc_eq] at c_213
                  try simp only [fl_lt, fl_le, fl_eq, fL_w, fL_lt, fL_le, tm1, tm10k, tm9, tm99, Int32.reduceToInt, Int64.reduceToInt, Int.not_lt, Int.not_le] at c_213
                  refine gz_aload_n dX12_same_216 rfl rfl ?_
                  refine gz_iload dX12_same_217 rfl ?_
                  refine gz_iload dX12_same_219 rfl ?_
                  refine gz_iconst (v := 1) dX12_same_221 (by decide) ?_
                  have fxy : fxN F y.toInt.toNat := by unfold fxN; have q9 : (F 82 y.toInt.toNat).toInt = (F 82 (Int32.toNatClampNeg y)).toInt := rfl; omega
                  have hdy : dZ F W0 W1 sd.toInt (kN + 1) y.toInt.toNat := Or.inr (Or.inr ⟨fxy, by omega⟩)
                  have hfy : fS F W0 W1 y.toInt.toNat := ⟨fxy, by omega⟩
                  have hfX : fS F W0 W1 xn := ⟨hfx, by omega⟩
                  have hal := al_S hSN hsd hW hkd (by rw [← hxn]; exact hfx) hNZ hdy (by omega) (by omega)
                  rw [← hxn] at hal
                  refine scX12_520 (k_X12_areLikeE (x1 := xq) (x2 := y) (x3 := 1) (fo := if xn < 41 then fo else go) (go := if y.toInt.toNat < 41 then fo else go) (a_ := H xn) (b_ := H y.toInt.toNat) hS bA hN (by omega) (by omega) (by split <;> omega) (Or.inl (by rw [enx]; exact (hSN.2.2 _ hfX).1)) (Or.inl (hSN.2.2 _ hfy).1) (by split <;> omega)) hS.1 ⟨(Nat.le_of_ble_eq_true rfl), (Nat.le_of_ble_eq_true rfl)⟩ ⟨(Nat.le_of_ble_eq_true rfl), (Nat.le_of_ble_eq_true rfl)⟩ rfl rfl (Nat.le_of_ble_eq_true rfl) dX12_same_222 ?_
                  rintro r_3 f9 ⟨hb_3, y9⟩; rw [y9]
                  rw [enx, show (1 : Int32).toInt = 1 from rfl] at hb_3
                  rcases hb_3 with ⟨hr3, halp⟩ | ⟨hr3, halp⟩
                  ·
                    refine gz_ev (w := .int 1) (congrArg Value.int hr3) ?_
                    refine gz_if_eq (tgt := 242) dX12_same_225 (by decide) (fun c_225 => ?_) (fun c_225 => ?_)
                    · exact absurd c_225 (by decide)
                    ·
                      try simp only [mIn_0, lgc_lt, lgc_gt, lgc_le, lgc_ge, lgc_eq] at c_225
                      try simp only [fl_lt, fl_le, fl_eq, fL_w, fL_lt, fL_le, tm1, tm10k, tm9, tm99, Int32.reduceToInt, Int64.reduceToInt, Int.not_lt, Int.not_le] at c_225
                      refine gz_aload_n dX12_same_228 rfl rfl ?_
                      refine mg_225 hS dX12_same_229 ?_
                      refine gz_iload dX12_same_232 rfl ?_
                      refine gz_aload_n dX12_same_234 rfl rfl ?_
                      refine mg_225 hS dX12_same_235 ?_
                      refine gz_iload dX12_same_238 rfl ?_
                      refine m_iald 81 hS rfl (N := 82) rfl ((by exact vin_T (rfl : (y).toInt = (y).toInt) (by omega) (by omega))) dX12_same_240 ?_
                      refine m_iast 81 hS rfl (N := 82) rfl ((by exact vin_T (rfl : (xq).toInt = (xq).toInt) (by omega) (by omega))) dX12_same_241 (fun f_4 hS_4q => ?_)
                      have hS_4 : mS cy m a f0 n z (va_up F 81 (upd (F 81) (Int32.toNatClampNeg xq) ((F 81) (Int32.toNatClampNeg y)))) G f_4 := hS_4q
                      refine gz_iinc (v := (y + 1)) (lv' := [(7, .int (y + 1)), (8, .int 1), (6, .int xq), (5, .int kk), (4, .int bs), (3, .int sd), (0, .ref m), (1, .int x1), (2, .int x2)]) dX12_same_242 rfl rfl (by decide) rfl ?_
                      refine gz_goto (tgt := 109) dX12_same_245 (by decide) ?_
                      refine gz_sub (lv' := [(7, .int (y + 1)), (6, .int xq), (5, .int kk), (4, .int bs), (3, .int sd), (0, .ref m), (1, .int x1), (2, .int x2)]) (by simp [List.lookup]) ?_
                      have hyn : (y + 1).toInt = y.toInt + 1 := T_add (rfl : y.toInt = y.toInt) (show (1 : Int32).toInt = 1 from rfl) (by omega)
                      have qy := NR_at hN (x := y) (by omega)
                      have hxx : fx [] [] [81] [] n z F G n z (va_up F 81 (upd (F 81) (Int32.toNatClampNeg xq) ((F 81) (Int32.toNatClampNeg y)))) G := (fx_F fx_rf (by decide))
                      have hN9 : NR (va_up F 81 (upd (F 81) (Int32.toNatClampNeg xq) ((F 81) (Int32.toNatClampNeg y)))) := NR_up hN 81 (fun k hk hne => up_out (K := [81]) (fun _ _ => rfl) (by decide) k (by simp only [List.mem_cons, List.not_mem_nil, or_false]; exact hne)) rfl (Or.inl qy.2.2.2.1) (by decide)
                      have hR9 := RI_fx hR hxx (by decide) (by decide)
                      have s81_ : (va_up F 81 (upd (F 81) (Int32.toNatClampNeg xq) ((F 81) (Int32.toNatClampNeg y)))) 81 = (upd (F 81) (Int32.toNatClampNeg xq) ((F 81) (Int32.toNatClampNeg y))) := rfl
                      have sm81 : ∀ r, r ≠ 81 → (va_up F 81 (upd (F 81) (Int32.toNatClampNeg xq) ((F 81) (Int32.toNatClampNeg y)))) r = F r := fun r hr => hxx.2.2.1 r (by simp only [List.mem_cons, List.not_mem_nil, or_false]; exact hr)
                      have off81 : ∀ i, i ≠ xn → (va_up F 81 (upd (F 81) (Int32.toNatClampNeg xq) ((F 81) (Int32.toNatClampNeg y)))) 81 i = F 81 i := fun i hi => by rw [s81_, ecx, updE, if_neg hi]
                      have hSN9 : SN (va_up F 81 (upd (F 81) (Int32.toNatClampNeg xq) ((F 81) (Int32.toNatClampNeg y)))) fo go W0 W1 L_ H fi se := SN_cg sm81 hSN
                      have e82_ : (va_up F 81 (upd (F 81) (Int32.toNatClampNeg xq) ((F 81) (Int32.toNatClampNeg y)))) 82 = F 82 := sm81 82 (by decide)
                      have hrp9 : (((va_up F 81 (upd (F 81) (Int32.toNatClampNeg xq) ((F 81) (Int32.toNatClampNeg y)))) 82 0).toInt = (R0 : Int) ∧ ((va_up F 81 (upd (F 81) (Int32.toNatClampNeg xq) ((F 81) (Int32.toNatClampNeg y)))) 82 41).toInt = (R1 : Int)) ∧ nS (va_up F 81 (upd (F 81) (Int32.toNatClampNeg xq) ((F 81) (Int32.toNatClampNeg y)))) W0 W1 R0 ∧ nS (va_up F 81 (upd (F 81) (Int32.toNatClampNeg xq) ((F 81) (Int32.toNatClampNeg y)))) W0 W1 R1 := ⟨by rw [e82_]; exact hrp.1, (nS_cg e82_).mpr hrp.2.1, (nS_cg e82_).mpr hrp.2.2⟩
                      have hNZ9 : NZ (va_up F 81 (upd (F 81) (Int32.toNatClampNeg xq) ((F 81) (Int32.toNatClampNeg y)))) W0 W1 L_ sd.toInt (kN + 1) := NZ_cg (x := xn) e82_ off81 hnot hNZ
                      have hfx9 : fxN (va_up F 81 (upd (F 81) (Int32.toNatClampNeg xq) ((F 81) (Int32.toNatClampNeg y)))) xn := by unfold fxN; rw [e82_]; exact hfx
                      have at81 : (va_up F 81 (upd (F 81) (Int32.toNatClampNeg xq) ((F 81) (Int32.toNatClampNeg y)))) 81 xn = F 81 y.toInt.toNat := by rw [s81_, ecx, updE, if_pos rfl]; rfl
                      have hst9 : stZ ((va_up F 81 (upd (F 81) (Int32.toNatClampNeg xq) ((F 81) (Int32.toNatClampNeg y))))) W0 W1 L_ sd.toInt (kN + 1) xn ((y + 1).toInt) := stZ_mk (Or.inr ⟨y.toInt.toNat, (dZ_cg e82_).mpr hdy, hal.mp halp, by rw [at81, off81 _ (by omega)]⟩)
                      exact ih (y + 1) _ _ _ _ _ hS_4 (fx_F hx (by decide)) (hR9) (hN9) (hfa) (hfb) (hSN9) (hrp9) (hNZ9) (hfx9) (hst9) (by omega)
                  ·
                    refine gz_ev (w := .int 0) (congrArg Value.int hr3) ?_
                    refine gz_if_eq (tgt := 242) dX12_same_225 (by decide) (fun c_225 => ?_) (fun c_225 => ?_)
                    ·
                      try simp only [mIn_0, lgc_lt, lgc_gt, lgc_le, lgc_ge, lgc_eq] at c_225
                      try simp only [fl_lt, fl_le, fl_eq, fL_w, fL_lt, fL_le, tm1, tm10k, tm9, tm99, Int32.reduceToInt, Int64.reduceToInt, Int.not_lt, Int.not_le] at c_225
                      refine gz_iinc (v := (y + 1)) (lv' := [(7, .int (y + 1)), (8, .int 1), (6, .int xq), (5, .int kk), (4, .int bs), (3, .int sd), (0, .ref m), (1, .int x1), (2, .int x2)]) dX12_same_242 rfl rfl (by decide) rfl ?_
                      refine gz_goto (tgt := 109) dX12_same_245 (by decide) ?_
                      refine gz_sub (lv' := [(7, .int (y + 1)), (6, .int xq), (5, .int kk), (4, .int bs), (3, .int sd), (0, .ref m), (1, .int x1), (2, .int x2)]) (by simp [List.lookup]) ?_
                      have hyn : (y + 1).toInt = y.toInt + 1 := T_add (rfl : y.toInt = y.toInt) (show (1 : Int32).toInt = 1 from rfl) (by omega)
                      have hst9 : stZ F W0 W1 L_ sd.toInt (kN + 1) xn ((y + 1).toInt) := stZ_mk ((stZ_un hst).imp (fun q => ⟨q.1, fun z z1 z2 z3 z4 => by by_cases e : z = y.toInt.toNat; (rw [e]; exact fun w9 => halp (hal.mpr w9)); (exact q.2 z (by omega) z2 z3 z4)⟩) id)
                      exact ih (y + 1) _ _ _ _ _ hS hx (hR) (hN) (hfa) (hfb) (hSN) (hrp) (hNZ) (hfx) (hst9) (by omega)
                    · exact absurd c_225 (by decide)
            ·
              try simp only [mIn_0, lgc_lt, lgc_gt, lgc_le, lgc_ge, lgc_eq] at c_148
              try simp only [fl_lt, fl_le, fl_eq, fL_w, fL_lt, fL_le, tm1, tm10k, tm9, tm99, Int32.reduceToInt, Int64.reduceToInt, Int.not_lt, Int.not_le] at c_148
              refine gz_iload dX12_same_151 rfl ?_
              refine gz_iload dX12_same_153 rfl ?_
              refine gz_icmp_le (tgt := 162) dX12_same_155 (by decide) (fun c_155 => ?_) (fun c_155 => ?_)
              ·
                try simp only [mIn_0, lgc_lt, lgc_gt, lgc_le, lgc_ge, lgc_eq] at c_155
                try simp only [fl_lt, fl_le, fl_eq, fL_w, fL_lt, fL_le, tm1, tm10k, tm9, tm99, Int32.reduceToInt, Int64.reduceToInt, Int.not_lt, Int.not_le] at c_155
                refine gz_iconst (v := 0) dX12_same_162 (by decide) ?_
                refine gz_goto (tgt := 197) dX12_same_163 (by decide) ?_
                refine gz_istore (lv' := [(8, .int 0), (7, .int y), (6, .int xq), (5, .int kk), (4, .int bs), (3, .int sd), (0, .ref m), (1, .int x1), (2, .int x2)]) dX12_same_197 (by decide) rfl ?_
                refine gz_iload dX12_same_199 rfl ?_
                refine gz_if_eq (tgt := 242) dX12_same_201 (by decide) (fun c_201 => ?_) (fun c_201 => ?_)
                ·
                  try simp only [mIn_0, lgc_lt, lgc_gt, lgc_le, lgc_ge, lgc_eq] at c_201
                  try simp only [fl_lt, fl_le, fl_eq, fL_w, fL_lt, fL_le, tm1, tm10k, tm9, tm99, Int32.reduceToInt, Int64.reduceToInt, Int.not_lt, Int.not_le] at c_201
                  refine gz_iinc (v := (y + 1)) (lv' := [(7, .int (y + 1)), (8, .int 0), (6, .int xq), (5, .int kk), (4, .int bs), (3, .int sd), (0, .ref m), (1, .int x1), (2, .int x2)]) dX12_same_242 rfl rfl (by decide) rfl ?_
                  refine gz_goto (tgt := 109) dX12_same_245 (by decide) ?_
                  refine gz_sub (lv' := [(7, .int (y + 1)), (6, .int xq), (5, .int kk), (4, .int bs), (3, .int sd), (0, .ref m), (1, .int x1), (2, .int x2)]) (by simp [List.lookup]) ?_
                  have hyn : (y + 1).toInt = y.toInt + 1 := T_add (rfl : y.toInt = y.toInt) (show (1 : Int32).toInt = 1 from rfl) (by omega)
                  have hst9 : stZ F W0 W1 L_ sd.toInt (kN + 1) xn ((y + 1).toInt) := stZ_mk ((stZ_un hst).imp (fun q => ⟨q.1, fun z z1 z2 z3 z4 => by by_cases e : z = y.toInt.toNat; (exfalso; rcases z4 with w9 | w9 | ⟨w9, w8⟩; (omega); (omega); (unfold fxN at w9; have q9 : (F 82 (Int32.toNatClampNeg y)).toInt = (F 82 z).toInt := (by rw [clN, e]); omega)); (exact q.2 z (by omega) z2 z3 z4)⟩) id)
                  exact ih (y + 1) _ _ _ _ _ hS hx (hR) (hN) (hfa) (hfb) (hSN) (hrp) (hNZ) (hfx) (hst9) (by omega)
                · exact absurd c_201 (by decide)
              ·
                try simp only [mIn_0, lgc_lt, lgc_gt, lgc_le, lgc_ge, lgc_eq] at c_155
                try simp only [fl_lt, fl_le, fl_eq, fL_w, fL_lt, fL_le, tm1, tm10k, tm9, tm99, Int32.reduceToInt, Int64.reduceToInt, Int.not_lt, Int.not_le] at c_155
                refine gz_iconst (v := 1) dX12_same_158 (by decide) ?_
                refine gz_goto (tgt := 197) dX12_same_159 (by decide) ?_
                refine gz_istore (lv' := [(8, .int 1), (7, .int y), (6, .int xq), (5, .int kk), (4, .int bs), (3, .int sd), (0, .ref m), (1, .int x1), (2, .int x2)]) dX12_same_197 (by decide) rfl ?_
                refine gz_iload dX12_same_199 rfl ?_
                refine gz_if_eq (tgt := 242) dX12_same_201 (by decide) (fun c_201 => ?_) (fun c_201 => ?_)
                · exact absurd c_201 (by decide)
                ·
                  try simp only [mIn_0, lgc_lt, lgc_gt, lgc_le, lgc_ge, lgc_eq] at c_201
                  try simp only [fl_lt, fl_le, fl_eq, fL_w, fL_lt, fL_le, tm1, tm10k, tm9, tm99, Int32.reduceToInt, Int64.reduceToInt, Int.not_lt, Int.not_le] at c_201
                  refine gz_aload_n dX12_same_204 rfl rfl ?_
                  refine mg_228 hS dX12_same_205 ?_
                  refine gz_iload dX12_same_208 rfl ?_
                  refine m_iald 82 hS rfl (N := 82) rfl ((by exact vin_T (rfl : (y).toInt = (y).toInt) (by omega) (by omega))) dX12_same_210 ?_
                  refine gz_iload dX12_same_211 rfl ?_
                  refine gz_icmp_ne (tgt := 242) dX12_same_213 (by decide) (fun c_213 => ?_) (fun c_213 => ?_)
                  ·
                    try simp only [mIn_0, lgc_lt, lgc_gt, lgc_le, lgc_ge, lgc_eq] at c_213
                    try simp only [fl_lt, fl_le, fl_eq, fL_w, fL_lt, fL_le, tm1, tm10k, tm9, tm99, Int32.reduceToInt, Int64.reduceToInt, Int.not_lt, Int.not_le] at c_213
                    refine gz_iinc (v := (y + 1)) (lv' := [(7, .int (y + 1)), (8, .int 1), (6, .int xq), (5, .int kk), (4, .int bs), (3, .int sd), (0, .ref m), (1, .int x1), (2, .int x2)]) dX12_same_242 rfl rfl (by decide) rfl ?_
                    refine gz_goto (tgt := 109) dX12_same_245 (by decide) ?_
                    refine gz_sub (lv' := [(7, .int (y + 1)), (6, .int xq), (5, .int kk), (4, .int bs), (3, .int sd), (0, .ref m), (1, .int x1), (2, .int x2)]) (by simp [List.lookup]) ?_
                    have hyn : (y + 1).toInt = y.toInt + 1 := T_add (rfl : y.toInt = y.toInt) (show (1 : Int32).toInt = 1 from rfl) (by omega)
                    have hst9 : stZ F W0 W1 L_ sd.toInt (kN + 1) xn ((y + 1).toInt) := stZ_mk ((stZ_un hst).imp (fun q => ⟨q.1, fun z z1 z2 z3 z4 => by by_cases e : z = y.toInt.toNat; (exfalso; rcases z4 with w9 | w9 | ⟨w9, w8⟩; (omega); (omega); (unfold fxN at w9; have q9 : (F 82 (Int32.toNatClampNeg y)).toInt = (F 82 z).toInt := (by rw [clN, e]); omega)); (exact q.2 z (by omega) z2 z3 z4)⟩) id)
                    exact ih (y + 1) _ _ _ _ _ hS hx (hR) (hN) (hfa) (hfb) (hSN) (hrp) (hNZ) (hfx) (hst9) (by omega)
                  ·
                    try simp only [mIn_0, lgc_lt, lgc_gt, lgc_le, lgc_ge, lgc_eq] at c_213
                    try simp only [fl_lt, fl_le, fl_eq, fL_w, fL_lt, fL_le, tm1, tm10k, tm9, tm99, Int32.reduceToInt, Int64.reduceToInt, Int.not_lt, Int.not_le] at c_213
                    refine gz_aload_n dX12_same_216 rfl rfl ?_
                    refine gz_iload dX12_same_217 rfl ?_
                    refine gz_iload dX12_same_219 rfl ?_
                    refine gz_iconst (v := 1) dX12_same_221 (by decide) ?_
                    have fxy : fxN F y.toInt.toNat := by unfold fxN; have q9 : (F 82 y.toInt.toNat).toInt = (F 82 (Int32.toNatClampNeg y)).toInt := rfl; omega
                    have hdy : dZ F W0 W1 sd.toInt (kN + 1) y.toInt.toNat := Or.inr (Or.inr ⟨fxy, by omega⟩)
                    have hfy : fS F W0 W1 y.toInt.toNat := ⟨fxy, by omega⟩
                    have hfX : fS F W0 W1 xn := ⟨hfx, by omega⟩
                    have hal := al_S hSN hsd hW hkd (by rw [← hxn]; exact hfx) hNZ hdy (by omega) (by omega)
                    rw [← hxn] at hal
                    refine scX12_520 (k_X12_areLikeE (x1 := xq) (x2 := y) (x3 := 1) (fo := if xn < 41 then fo else go) (go := if y.toInt.toNat < 41 then fo else go) (a_ := H xn) (b_ := H y.toInt.toNat) hS bA hN (by omega) (by omega) (by split <;> omega) (Or.inl (by rw [enx]; exact (hSN.2.2 _ hfX).1)) (Or.inl (hSN.2.2 _ hfy).1) (by split <;> omega)) hS.1 ⟨(Nat.le_of_ble_eq_true rfl), (Nat.le_of_ble_eq_true rfl)⟩ ⟨(Nat.le_of_ble_eq_true rfl), (Nat.le_of_ble_eq_true rfl)⟩ rfl rfl (Nat.le_of_ble_eq_true rfl) dX12_same_222 ?_
                    rintro r_5 f9 ⟨hb_5, y9⟩; rw [y9]
                    rw [enx, show (1 : Int32).toInt = 1 from rfl] at hb_5
                    rcases hb_5 with ⟨hr5, halp⟩ | ⟨hr5, halp⟩
                    ·
                      refine gz_ev (w := .int 1) (congrArg Value.int hr5) ?_
                      refine gz_if_eq (tgt := 242) dX12_same_225 (by decide) (fun c_225 => ?_) (fun c_225 => ?_)
                      · exact absurd c_225 (by decide)
                      ·
                        try simp only [mIn_0, lgc_lt, lgc_gt, lgc_le, lgc_ge, lgc_eq] at c_225
                        try simp only [fl_lt, fl_le, fl_eq, fL_w, fL_lt, fL_le, tm1, tm10k, tm9, tm99, Int32.reduceToInt, Int64.reduceToInt, Int.not_lt, Int.not_le] at c_225
                        refine gz_aload_n dX12_same_228 rfl rfl ?_
                        refine mg_225 hS dX12_same_229 ?_
                        refine gz_iload dX12_same_232 rfl ?_
                        refine gz_aload_n dX12_same_234 rfl rfl ?_
                        refine mg_225 hS dX12_same_235 ?_
                        refine gz_iload dX12_same_238 rfl ?_
                        refine m_iald 81 hS rfl (N := 82) rfl ((by exact vin_T (rfl : (y).toInt = (y).toInt) (by omega) (by omega))) dX12_same_240 ?_
                        refine m_iast 81 hS rfl (N := 82) rfl ((by exact vin_T (rfl : (xq).toInt = (xq).toInt) (by omega) (by omega))) dX12_same_241 (fun f_6 hS_6q => ?_)
                        have hS_6 : mS cy m a f0 n z (va_up F 81 (upd (F 81) (Int32.toNatClampNeg xq) ((F 81) (Int32.toNatClampNeg y)))) G f_6 := hS_6q
                        refine gz_iinc (v := (y + 1)) (lv' := [(7, .int (y + 1)), (8, .int 1), (6, .int xq), (5, .int kk), (4, .int bs), (3, .int sd), (0, .ref m), (1, .int x1), (2, .int x2)]) dX12_same_242 rfl rfl (by decide) rfl ?_
                        refine gz_goto (tgt := 109) dX12_same_245 (by decide) ?_
                        refine gz_sub (lv' := [(7, .int (y + 1)), (6, .int xq), (5, .int kk), (4, .int bs), (3, .int sd), (0, .ref m), (1, .int x1), (2, .int x2)]) (by simp [List.lookup]) ?_
                        have hyn : (y + 1).toInt = y.toInt + 1 := T_add (rfl : y.toInt = y.toInt) (show (1 : Int32).toInt = 1 from rfl) (by omega)
                        have qy := NR_at hN (x := y) (by omega)
                        have hxx : fx [] [] [81] [] n z F G n z (va_up F 81 (upd (F 81) (Int32.toNatClampNeg xq) ((F 81) (Int32.toNatClampNeg y)))) G := (fx_F fx_rf (by decide))
                        have hN9 : NR (va_up F 81 (upd (F 81) (Int32.toNatClampNeg xq) ((F 81) (Int32.toNatClampNeg y)))) := NR_up hN 81 (fun k hk hne => up_out (K := [81]) (fun _ _ => rfl) (by decide) k (by simp only [List.mem_cons, List.not_mem_nil, or_false]; exact hne)) rfl (Or.inl qy.2.2.2.1) (by decide)
                        have hR9 := RI_fx hR hxx (by decide) (by decide)
                        have s81_ : (va_up F 81 (upd (F 81) (Int32.toNatClampNeg xq) ((F 81) (Int32.toNatClampNeg y)))) 81 = (upd (F 81) (Int32.toNatClampNeg xq) ((F 81) (Int32.toNatClampNeg y))) := rfl
                        have sm81 : ∀ r, r ≠ 81 → (va_up F 81 (upd (F 81) (Int32.toNatClampNeg xq) ((F 81) (Int32.toNatClampNeg y)))) r = F r := fun r hr => hxx.2.2.1 r (by simp only [List.mem_cons, List.not_mem_nil, or_false]; exact hr)
                        have off81 : ∀ i, i ≠ xn → (va_up F 81 (upd (F 81) (Int32.toNatClampNeg xq) ((F 81) (Int32.toNatClampNeg y)))) 81 i = F 81 i := fun i hi => by rw [s81_, ecx, updE, if_neg hi]
                        have hSN9 : SN (va_up F 81 (upd (F 81) (Int32.toNatClampNeg xq) ((F 81) (Int32.toNatClampNeg y)))) fo go W0 W1 L_ H fi se := SN_cg sm81 hSN
                        have e82_ : (va_up F 81 (upd (F 81) (Int32.toNatClampNeg xq) ((F 81) (Int32.toNatClampNeg y)))) 82 = F 82 := sm81 82 (by decide)
                        have hrp9 : (((va_up F 81 (upd (F 81) (Int32.toNatClampNeg xq) ((F 81) (Int32.toNatClampNeg y)))) 82 0).toInt = (R0 : Int) ∧ ((va_up F 81 (upd (F 81) (Int32.toNatClampNeg xq) ((F 81) (Int32.toNatClampNeg y)))) 82 41).toInt = (R1 : Int)) ∧ nS (va_up F 81 (upd (F 81) (Int32.toNatClampNeg xq) ((F 81) (Int32.toNatClampNeg y)))) W0 W1 R0 ∧ nS (va_up F 81 (upd (F 81) (Int32.toNatClampNeg xq) ((F 81) (Int32.toNatClampNeg y)))) W0 W1 R1 := ⟨by rw [e82_]; exact hrp.1, (nS_cg e82_).mpr hrp.2.1, (nS_cg e82_).mpr hrp.2.2⟩
                        have hNZ9 : NZ (va_up F 81 (upd (F 81) (Int32.toNatClampNeg xq) ((F 81) (Int32.toNatClampNeg y)))) W0 W1 L_ sd.toInt (kN + 1) := NZ_cg (x := xn) e82_ off81 hnot hNZ
                        have hfx9 : fxN (va_up F 81 (upd (F 81) (Int32.toNatClampNeg xq) ((F 81) (Int32.toNatClampNeg y)))) xn := by unfold fxN; rw [e82_]; exact hfx
                        have at81 : (va_up F 81 (upd (F 81) (Int32.toNatClampNeg xq) ((F 81) (Int32.toNatClampNeg y)))) 81 xn = F 81 y.toInt.toNat := by rw [s81_, ecx, updE, if_pos rfl]; rfl
                        have hst9 : stZ ((va_up F 81 (upd (F 81) (Int32.toNatClampNeg xq) ((F 81) (Int32.toNatClampNeg y))))) W0 W1 L_ sd.toInt (kN + 1) xn ((y + 1).toInt) := stZ_mk (Or.inr ⟨y.toInt.toNat, (dZ_cg e82_).mpr hdy, hal.mp halp, by rw [at81, off81 _ (by omega)]⟩)
                        exact ih (y + 1) _ _ _ _ _ hS_6 (fx_F hx (by decide)) (hR9) (hN9) (hfa) (hfb) (hSN9) (hrp9) (hNZ9) (hfx9) (hst9) (by omega)
                    ·
                      refine gz_ev (w := .int 0) (congrArg Value.int hr5) ?_
                      refine gz_if_eq (tgt := 242) dX12_same_225 (by decide) (fun c_225 => ?_) (fun c_225 => ?_)
                      ·
                        try simp only [mIn_0, lgc_lt, lgc_gt, lgc_le, lgc_ge, lgc_eq] at c_225
                        try simp only [fl_lt, fl_le, fl_eq, fL_w, fL_lt, fL_le, tm1, tm10k, tm9, tm99, Int32.reduceToInt, Int64.reduceToInt, Int.not_lt, Int.not_le] at c_225
                        refine gz_iinc (v := (y + 1)) (lv' := [(7, .int (y + 1)), (8, .int 1), (6, .int xq), (5, .int kk), (4, .int bs), (3, .int sd), (0, .ref m), (1, .int x1), (2, .int x2)]) dX12_same_242 rfl rfl (by decide) rfl ?_
                        refine gz_goto (tgt := 109) dX12_same_245 (by decide) ?_
                        refine gz_sub (lv' := [(7, .int (y + 1)), (6, .int xq), (5, .int kk), (4, .int bs), (3, .int sd), (0, .ref m), (1, .int x1), (2, .int x2)]) (by simp [List.lookup]) ?_
                        have hyn : (y + 1).toInt = y.toInt + 1 := T_add (rfl : y.toInt = y.toInt) (show (1 : Int32).toInt = 1 from rfl) (by omega)
                        have hst9 : stZ F W0 W1 L_ sd.toInt (kN + 1) xn ((y + 1).toInt) := stZ_mk ((stZ_un hst).imp (fun q => ⟨q.1, fun z z1 z2 z3 z4 => by by_cases e : z = y.toInt.toNat; (rw [e]; exact fun w9 => halp (hal.mpr w9)); (exact q.2 z (by omega) z2 z3 z4)⟩) id)
                        exact ih (y + 1) _ _ _ _ _ hS hx (hR) (hN) (hfa) (hfb) (hSN) (hrp) (hNZ) (hfx) (hst9) (by omega)
                      · exact absurd c_225 (by decide)

set_option maxHeartbeats 4000000 in
set_option maxRecDepth 100000 in
theorem l_X12_same2E {l : Launch} {D : va_G} {cy : Nat → ClassId} {b : Nat} {m : Nat} {a : Nat → Nat} {f0 : gMem} {n0 : Nat → Int32} {z0 : Nat → Int64} {F0 : Nat → Nat → Int32} {G0 : Nat → Nat → Int64}  {x1 x2 : Int32} {CSp Q : Prop} {fo go W0 W1 R0 R1 : Nat} {L_ : Nat → List Hd} {H : Nat → Hd} {fi se : Nat → Nat} {sd bs : Int32} (hW : W0 ≤ 40 ∧ W1 ≤ 40) (hW6 : (F0 6 (Int32.toNatClampNeg x1)).toInt = (W0 : Int) ∧ (F0 6 (Int32.toNatClampNeg x2)).toInt = (W1 : Int)) (hfg : fo < 20 ∧ go < 20) (hbs : (sd.toInt = 0 ∧ bs.toInt = 0) ∨ (sd.toInt = 1 ∧ bs.toInt = 41)) (hq : ∀  (n : Nat → Int32) (z : Nat → Int64) (F : Nat → Nat → Int32) (G : Nat → Nat → Int64) (fm : gMem), mS cy m a f0 n z F G fm → fx [] [] [76, 77, 78, 79, 80, 81, 82] [] n0 z0 F0 G0 n z F G → (RI n F) → (NR F) → (0 ≤ x1.toInt ∧ x1.toInt < (n 5).toInt) → (0 ≤ x2.toInt ∧ x2.toInt < (n 5).toInt) → (SN F fo go W0 W1 L_ H fi se) → (((F 82 0).toInt = (R0 : Int) ∧ (F 82 41).toInt = (R1 : Int)) ∧ nS F W0 W1 R0 ∧ nS F W0 W1 R1) → (NZ F W0 W1 L_ sd.toInt 0) → gG l (gRm 4 0 0) (gQf D b (pI fun r f2 => ∃ (n2 : Nat → Int32) (z2 : Nat → Int64) (F2 : Nat → Nat → Int32) (G2 : Nat → Nat → Int64), mS cy m a f0 n2 z2 F2 G2 f2 ∧ fx [] [] [76, 77, 78, 79, 80, 81, 82] [] n0 z0 F0 G0 n2 z2 F2 G2 ∧ RI n2 F2 ∧ NR F2 ∧ (CSp → (r = 1 ∧ Q) ∨ (r = 0 ∧ ¬ Q)) ∧ (¬ CSp → r = -1)) 0 0) gTt D cy b cX12_same 9 (some .int) RX12 "same" 0 0 fm 254 [(3, .int sd), (0, .ref m), (1, .int x1), (2, .int x2)] []) : ∀ (k : Nat) (kk : Int32) (pp : Nat) (n : Nat → Int32) (z : Nat → Int64) (F : Nat → Nat → Int32) (G : Nat → Nat → Int64) (fm : gMem), mS cy m a f0 n z F G fm → fx [] [] [76, 77, 78, 79, 80, 81, 82] [] n0 z0 F0 G0 n z F G → (RI n F) → (NR F) → (0 ≤ x1.toInt ∧ x1.toInt < (n 5).toInt) → (0 ≤ x2.toInt ∧ x2.toInt < (n 5).toInt) → (SN F fo go W0 W1 L_ H fi se) → (((F 82 0).toInt = (R0 : Int) ∧ (F 82 41).toInt = (R1 : Int)) ∧ nS F W0 W1 R0 ∧ nS F W0 W1 R1) → (NZ F W0 W1 L_ sd.toInt pp) → (kk.toInt + 1 = (pp : Int)) → ((sd.toInt = 0 ∧ kk.toInt < W0) ∨ (sd.toInt = 1 ∧ kk.toInt < W1)) → (-1 ≤ kk.toInt ∧ kk.toInt + 2 ≤ (k : Int)) → gG l (gRm 4 0 0) (gQf D b (pI fun r f2 => ∃ (n2 : Nat → Int32) (z2 : Nat → Int64) (F2 : Nat → Nat → Int32) (G2 : Nat → Nat → Int64), mS cy m a f0 n2 z2 F2 G2 f2 ∧ fx [] [] [76, 77, 78, 79, 80, 81, 82] [] n0 z0 F0 G0 n2 z2 F2 G2 ∧ RI n2 F2 ∧ NR F2 ∧ (CSp → (r = 1 ∧ Q) ∨ (r = 0 ∧ ¬ Q)) ∧ (¬ CSp → r = -1)) 0 0) gTt D cy b cX12_same 9 (some .int) RX12 "same" 0 0 fm 70 [(5, .int kk), (4, .int bs), (3, .int sd), (0, .ref m), (1, .int x1), (2, .int x2)] [] := by
  intro k
  induction k with
  | zero =>
    intro kk pp n z F G fm hS hx hR hN hfa hfb hSN hrp hNZ hpp hkw hk
    exfalso; omega
  | succ k ih =>
    intro kk pp n z F G fm hS hx hR hN hfa hfb hSN hrp hNZ hpp hkw hk
    refine gz_iload dX12_same_70 rfl ?_
    refine gz_if_lt (tgt := 254) dX12_same_72 (by decide) (fun c_72 => ?_) (fun c_72 => ?_)
    ·
      try simp only [mIn_0, lgc_lt, lgc_gt, lgc_le, lgc_ge, lgc_eq] at c_72
      try simp only [fl_lt, fl_le, fl_eq, fL_w, fL_lt, fL_le, tm1, tm10k, tm9, tm99, Int32.reduceToInt, Int64.reduceToInt, Int.not_lt, Int.not_le] at c_72
      refine gz_sub (lv' := [(3, .int sd), (0, .ref m), (1, .int x1), (2, .int x2)]) (by simp [List.lookup]) ?_
      exact hq  _ _ _ _ _ hS hx (hR) (hN) (hfa) (hfb) (hSN) (hrp) (by rw [show (0 : Nat) = pp by omega]; exact hNZ)
    ·
      try simp only [mIn_0, lgc_lt, lgc_gt, lgc_le, lgc_ge, lgc_eq] at c_72
      try simp only [fl_lt, fl_le, fl_eq, fL_w, fL_lt, fL_le, tm1, tm10k, tm9, tm99, Int32.reduceToInt, Int64.reduceToInt, Int.not_lt, Int.not_le] at c_72
      refine gz_iload dX12_same_75 rfl ?_
      refine gz_iload dX12_same_77 rfl ?_
      refine gz_iadd dX12_same_79 ?_
      obtain ⟨xq, hxq_⟩ : ∃ v_, v_ = (bs + kk) := ⟨_, rfl⟩
      refine gz_ev (w := .int xq) (congrArg Value.int hxq_.symm) ?_
      have hxq : xq.toInt = bs.toInt + kk.toInt := by rw [hxq_]; have q := (T_add (rfl : (bs).toInt = (bs).toInt) (rfl : (kk).toInt = (kk).toInt) (by omega)); omega
      obtain ⟨kN, hkN⟩ : ∃ kN : Nat, kk.toInt = kN := ⟨kk.toInt.toNat, by omega⟩
      have epp : pp = kN + 1 := by omega
      subst epp
      obtain ⟨xn, hxn⟩ : ∃ xn : Nat, xn = ndZ sd.toInt kN := ⟨_, rfl⟩
      have hnd : (sd.toInt = 0 ∧ xn = kN ∧ kN < W0) ∨ (sd.toInt = 1 ∧ xn = 41 + kN ∧ kN < W1) := by rw [hxn]; unfold ndZ; split <;> omega
      have hsd : sd.toInt = 0 ∨ sd.toInt = 1 := by omega
      have hkd : (sd.toInt = 0 ∧ kN < W0) ∨ (sd.toInt = 1 ∧ kN < W1) := by omega
      have ecx : (Int32.toNatClampNeg xq) = xn := by rw [clN]; omega
      have hnot : ¬ dZ F W0 W1 sd.toInt (kN + 1) xn := by rw [hxn]; exact (dZ_st (F := F) hsd hW hkd).2.2.1
      refine gz_istore (lv' := [(6, .int xq), (5, .int kk), (4, .int bs), (3, .int sd), (0, .ref m), (1, .int x1), (2, .int x2)]) dX12_same_80 (by decide) rfl ?_
      refine gz_aload_n dX12_same_82 rfl rfl ?_
      refine mg_228 hS dX12_same_83 ?_
      refine gz_iload dX12_same_86 rfl ?_
      refine m_iald 82 hS rfl (N := 82) rfl ((by exact vin_T (rfl : xq.toInt = xq.toInt) (by omega) (by omega))) dX12_same_88 ?_
      refine gz_iload dX12_same_89 rfl ?_
      refine gz_icmp_eq (tgt := 97) dX12_same_91 (by decide) (fun c_91 => ?_) (fun c_91 => ?_)
      ·
        try simp only [mIn_0, lgc_lt, lgc_gt, lgc_le, lgc_ge, lgc_eq] at c_91
        try simp only [fl_lt, fl_le, fl_eq, fL_w, fL_lt, fL_le, tm1, tm10k, tm9, tm99, Int32.reduceToInt, Int64.reduceToInt, Int.not_lt, Int.not_le] at c_91
        refine gz_aload_n dX12_same_97 rfl rfl ?_
        refine mg_225 hS dX12_same_98 ?_
        refine gz_iload dX12_same_101 rfl ?_
        refine gz_iload dX12_same_103 rfl ?_
        refine m_iast 81 hS rfl (N := 82) rfl ((by exact vin_T (rfl : xq.toInt = xq.toInt) (by omega) (by omega))) dX12_same_105 (fun f_1 hS_1q => ?_)
        have hS_1 : mS cy m a f0 n z (va_up F 81 (upd (F 81) (Int32.toNatClampNeg xq) xq)) G f_1 := hS_1q
        refine gz_iconst (v := 0) dX12_same_106 (by decide) ?_
        refine gz_istore (lv' := [(7, .int 0), (6, .int xq), (5, .int kk), (4, .int bs), (3, .int sd), (0, .ref m), (1, .int x1), (2, .int x2)]) dX12_same_107 (by decide) rfl ?_
        have hfx : fxN F xn := by unfold fxN; have q9 : (F 82 (Int32.toNatClampNeg xq)).toInt = (F 82 xn).toInt := (by rw [ecx]); omega
        have hxx : fx [] [] [81] [] n z F G n z (va_up F 81 (upd (F 81) (Int32.toNatClampNeg xq) xq)) G := (fx_F fx_rf (by decide))
        have hN9 : NR (va_up F 81 (upd (F 81) (Int32.toNatClampNeg xq) xq)) := NR_up hN 81 (fun k hk hne => up_out (K := [81]) (fun _ _ => rfl) (by decide) k (by simp only [List.mem_cons, List.not_mem_nil, or_false]; exact hne)) rfl (Or.inl (by omega)) (by decide)
        have hR9 := RI_fx hR hxx (by decide) (by decide)
        have s81_ : (va_up F 81 (upd (F 81) (Int32.toNatClampNeg xq) xq)) 81 = (upd (F 81) (Int32.toNatClampNeg xq) xq) := rfl
        have sm81 : ∀ r, r ≠ 81 → (va_up F 81 (upd (F 81) (Int32.toNatClampNeg xq) xq)) r = F r := fun r hr => hxx.2.2.1 r (by simp only [List.mem_cons, List.not_mem_nil, or_false]; exact hr)
        have off81 : ∀ i, i ≠ xn → (va_up F 81 (upd (F 81) (Int32.toNatClampNeg xq) xq)) 81 i = F 81 i := fun i hi => by rw [s81_, ecx, updE, if_neg hi]
        have hSN9 : SN (va_up F 81 (upd (F 81) (Int32.toNatClampNeg xq) xq)) fo go W0 W1 L_ H fi se := SN_cg sm81 hSN
        have e82_ : (va_up F 81 (upd (F 81) (Int32.toNatClampNeg xq) xq)) 82 = F 82 := sm81 82 (by decide)
        have hrp9 : (((va_up F 81 (upd (F 81) (Int32.toNatClampNeg xq) xq)) 82 0).toInt = (R0 : Int) ∧ ((va_up F 81 (upd (F 81) (Int32.toNatClampNeg xq) xq)) 82 41).toInt = (R1 : Int)) ∧ nS (va_up F 81 (upd (F 81) (Int32.toNatClampNeg xq) xq)) W0 W1 R0 ∧ nS (va_up F 81 (upd (F 81) (Int32.toNatClampNeg xq) xq)) W0 W1 R1 := ⟨by rw [e82_]; exact hrp.1, (nS_cg e82_).mpr hrp.2.1, (nS_cg e82_).mpr hrp.2.2⟩
        have hNZ9 : NZ (va_up F 81 (upd (F 81) (Int32.toNatClampNeg xq) xq)) W0 W1 L_ sd.toInt (kN + 1) := NZ_cg (x := xn) e82_ off81 hnot hNZ
        have hfx9 : fxN (va_up F 81 (upd (F 81) (Int32.toNatClampNeg xq) xq)) xn := by unfold fxN; rw [e82_]; exact hfx
        refine gz_sub (lv' := [(7, .int 0), (6, .int xq), (5, .int kk), (4, .int bs), (3, .int sd), (0, .ref m), (1, .int x1), (2, .int x2)]) (by simp [List.lookup]) ?_
        have hst9 : stZ ((va_up F 81 (upd (F 81) (Int32.toNatClampNeg xq) xq))) W0 W1 L_ sd.toInt (kN + 1) xn ((0 : Int32).toInt) := stZ_0 (by rw [s81_, ecx, updE, if_pos rfl]; omega) (by decide)
        refine l_X12_same3E (sd := sd) (bs := bs) (kk := kk) hW hW6 hfg hsd hnd hxn ⟨hkN, by omega⟩ ?_ 83 0 _ _ _ _ _ hS_1 (fx_F hx (by decide)) hR9 hN9 hfa hfb hSN9 hrp9 hNZ9 hfx9 hst9 (by decide)
        clear hst9 hfx9 hNZ9 hrp9 e82_ hSN9 off81 sm81 s81_ hR9 hN9 hxx hfx hnot
        clear hS hx hR hN hfa hfb hSN hrp hNZ
        intro n z F G fm hS hx hR hN hfa hfb hSN hrp hNZ
        refine gz_iinc (v := (kk + (-1))) (lv' := [(5, .int (kk + (-1))), (4, .int bs), (3, .int sd), (0, .ref m), (1, .int x1), (2, .int x2)]) dX12_same_248 rfl (congrArg (fun z => kk + z) oi_m1) (by decide) rfl ?_
        refine gz_goto (tgt := 70) dX12_same_251 (by decide) ?_
        refine gz_sub (lv' := [(5, .int (kk + (-1))), (4, .int bs), (3, .int sd), (0, .ref m), (1, .int x1), (2, .int x2)]) (by simp [List.lookup]) ?_
        have hdc : (kk + (-1)).toInt = kk.toInt - 1 := T_dec (by omega) (by omega)
        generalize kk + (-1) = k2 at hdc ⊢
        exact ih k2 kN _ _ _ _ _ hS hx (hR) (hN) (hfa) (hfb) (hSN) (hrp) (hNZ) (by omega) (by omega) (by omega)
      ·
        try simp only [mIn_0, lgc_lt, lgc_gt, lgc_le, lgc_ge, lgc_eq] at c_91
        try simp only [fl_lt, fl_le, fl_eq, fL_w, fL_lt, fL_le, tm1, tm10k, tm9, tm99, Int32.reduceToInt, Int64.reduceToInt, Int.not_lt, Int.not_le] at c_91
        refine gz_goto (tgt := 248) dX12_same_94 (by decide) ?_
        refine gz_iinc (v := (kk + (-1))) (lv' := [(5, .int (kk + (-1))), (6, .int xq), (4, .int bs), (3, .int sd), (0, .ref m), (1, .int x1), (2, .int x2)]) dX12_same_248 rfl (congrArg (fun z => kk + z) oi_m1) (by decide) rfl ?_
        refine gz_goto (tgt := 70) dX12_same_251 (by decide) ?_
        refine gz_sub (lv' := [(5, .int (kk + (-1))), (4, .int bs), (3, .int sd), (0, .ref m), (1, .int x1), (2, .int x2)]) (by simp [List.lookup]) ?_
        have hNZ := NZ_sk hsd hW hkd (fun z9 => by rw [← hxn] at z9; unfold fxN at z9; have q9 : (F 82 (Int32.toNatClampNeg xq)).toInt = (F 82 xn).toInt := (by rw [ecx]); omega) hNZ
        have hdc : (kk + (-1)).toInt = kk.toInt - 1 := T_dec (by omega) (by omega)
        generalize kk + (-1) = k2 at hdc ⊢
        exact ih k2 kN _ _ _ _ _ hS hx (hR) (hN) (hfa) (hfb) (hSN) (hrp) (hNZ) (by omega) (by omega) (by omega)

set_option maxHeartbeats 4000000 in
set_option maxRecDepth 100000 in
theorem l_X12_same1E {l : Launch} {D : va_G} {cy : Nat → ClassId} {b : Nat} {m : Nat} {a : Nat → Nat} {f0 : gMem} {n0 : Nat → Int32} {z0 : Nat → Int64} {F0 : Nat → Nat → Int32} {G0 : Nat → Nat → Int64}  {x1 x2 : Int32} {CSp Q : Prop} {fo go W0 W1 R0 R1 : Nat} {L_ : Nat → List Hd} {H : Nat → Hd} {fi se : Nat → Nat} (hW : W0 ≤ 40 ∧ W1 ≤ 40) (hW6 : (F0 6 (Int32.toNatClampNeg x1)).toInt = (W0 : Int) ∧ (F0 6 (Int32.toNatClampNeg x2)).toInt = (W1 : Int)) (hfg : fo < 20 ∧ go < 20) (hC : CSp) (hQ : Q ↔ ewI (L_ R0) (L_ R1)) : ∀ (k : Nat) (sd : Int32) (n : Nat → Int32) (z : Nat → Int64) (F : Nat → Nat → Int32) (G : Nat → Nat → Int64) (fm : gMem), mS cy m a f0 n z F G fm → fx [] [] [76, 77, 78, 79, 80, 81, 82] [] n0 z0 F0 G0 n z F G → (RI n F) → (NR F) → (0 ≤ x1.toInt ∧ x1.toInt < (n 5).toInt) → (0 ≤ x2.toInt ∧ x2.toInt < (n 5).toInt) → (SN F fo go W0 W1 L_ H fi se) → (((F 82 0).toInt = (R0 : Int) ∧ (F 82 41).toInt = (R1 : Int)) ∧ nS F W0 W1 R0 ∧ nS F W0 W1 R1) → ((sd.toInt = 0 ∧ NZ F W0 W1 L_ 0 W0) ∨ (sd.toInt = 1 ∧ NZ F W0 W1 L_ 1 W1) ∨ (sd.toInt = 2 ∧ NZ F W0 W1 L_ 1 0)) → (0 ≤ sd.toInt ∧ sd.toInt ≤ 2 ∧ sd.toInt + (k : Int) = 3) → gG l (gRm 4 0 0) (gQf D b (pI fun r f2 => ∃ (n2 : Nat → Int32) (z2 : Nat → Int64) (F2 : Nat → Nat → Int32) (G2 : Nat → Nat → Int64), mS cy m a f0 n2 z2 F2 G2 f2 ∧ fx [] [] [76, 77, 78, 79, 80, 81, 82] [] n0 z0 F0 G0 n2 z2 F2 G2 ∧ RI n2 F2 ∧ NR F2 ∧ (CSp → (r = 1 ∧ Q) ∨ (r = 0 ∧ ¬ Q)) ∧ (¬ CSp → r = -1)) 0 0) gTt D cy b cX12_same 9 (some .int) RX12 "same" 0 0 fm 41 [(3, .int sd), (0, .ref m), (1, .int x1), (2, .int x2)] [] := by
  intro k
  induction k with
  | zero =>
    intro sd n z F G fm hS hx hR hN hfa hfb hSN hrp hnz hk
    exfalso; omega
  | succ k ih =>
    intro sd n z F G fm hS hx hR hN hfa hfb hSN hrp hnz hk
    obtain ⟨a0, a4, a5, bA, bW, a30, bL, a38, bP, a53, a47, a88⟩ := id hR
    have e6 : F 6 = F0 6 := hx.2.2.1 6 (by decide)
    have w6 : (F 6 (Int32.toNatClampNeg x1)).toInt = (W0 : Int) ∧ (F 6 (Int32.toNatClampNeg x2)).toInt = (W1 : Int) := by rw [e6]; exact hW6
    have qc1 := clI (i := x1) (by omega)
    have qc2 := clI (i := x2) (by omega)
    refine gz_iload_n dX12_same_41 rfl rfl ?_
    refine gz_iconst (v := 2) dX12_same_42 (by decide) ?_
    refine gz_icmp_ge (tgt := 260) dX12_same_43 (by decide) (fun c_43 => ?_) (fun c_43 => ?_)
    ·
      try simp only [mIn_0, lgc_lt, lgc_gt, lgc_le, lgc_ge, lgc_eq] at c_43
      try simp only [fl_lt, fl_le, fl_eq, fL_w, fL_lt, fL_le, tm1, tm10k, tm9, tm99, Int32.reduceToInt, Int64.reduceToInt, Int.not_lt, Int.not_le] at c_43
      refine gz_aload_n dX12_same_260 rfl rfl ?_
      refine mg_225 hS dX12_same_261 ?_
      refine gz_aload_n dX12_same_264 rfl rfl ?_
      refine mg_228 hS dX12_same_265 ?_
      refine gz_iconst (v := 0) dX12_same_268 (by decide) ?_
      refine m_iald 82 hS rfl (N := 82) rfl (vin_T (v := 0) rfl (by decide) (by decide)) dX12_same_269 ?_
      refine m_iald 81 hS rfl (N := 82) rfl ((by have q9 := NR_at hN (x := 0) (by decide); exact vin_T (rfl : ((F 82) (Int32.toNatClampNeg 0)).toInt = ((F 82) (Int32.toNatClampNeg 0)).toInt) (by omega) (by omega))) dX12_same_270 ?_
      refine gz_aload_n dX12_same_271 rfl rfl ?_
      refine mg_225 hS dX12_same_272 ?_
      refine gz_aload_n dX12_same_275 rfl rfl ?_
      refine mg_228 hS dX12_same_276 ?_
      refine gz_bipush (v := 41) dX12_same_279 (by decide) ?_
      refine m_iald 82 hS rfl (N := 82) rfl (vin_T (v := 41) rfl (by decide) (by decide)) dX12_same_281 ?_
      refine m_iald 81 hS rfl (N := 82) rfl ((by have q9 := NR_at hN (x := 41) (by decide); exact vin_T (rfl : ((F 82) (Int32.toNatClampNeg 41)).toInt = ((F 82) (Int32.toNatClampNeg 41)).toInt) (by omega) (by omega))) dX12_same_282 ?_
      refine gz_icmp_ne (tgt := 290) dX12_same_283 (by decide) (fun c_283 => ?_) (fun c_283 => ?_)
      ·
        try simp only [mIn_0, lgc_lt, lgc_gt, lgc_le, lgc_ge, lgc_eq] at c_283
        try simp only [fl_lt, fl_le, fl_eq, fL_w, fL_lt, fL_le, tm1, tm10k, tm9, tm99, Int32.reduceToInt, Int64.reduceToInt, Int.not_lt, Int.not_le] at c_283
        refine gz_iconst (v := 0) dX12_same_290 (by decide) ?_
        have hz : NZ F W0 W1 L_ 1 0 := by rcases hnz with ⟨e, q⟩ | ⟨e, q⟩ | ⟨e, q⟩; (exfalso; omega); (exfalso; omega); (exact q)
        obtain ⟨⟨p1, p2⟩, p3, p4⟩ := hrp
        have key := hz.1 _ _ (nS_dZ p3) (nS_dZ p4)
        rw [← hQ] at key
        have c0_ : Int32.toNatClampNeg (F 82 (Int32.toNatClampNeg 0)) = R0 := by rw [clN]; show (F 82 0).toInt.toNat = R0; omega
        have c1_ : Int32.toNatClampNeg (F 82 (Int32.toNatClampNeg 41)) = R1 := by rw [clN]; show (F 82 41).toInt.toNat = R1; omega
        rw [c0_, c1_] at c_283
        exact gz_iret rfl dX12_same_291 (Nat.le_of_ble_eq_true rfl) (Nat.le_of_ble_eq_true rfl) (⟨_, rfl, _, _, _, _, hS, hx, hR, hN, (fun _ => Or.inr ⟨rfl, fun z9 => by have z8 := key.mpr z9; omega⟩), (fun z9 => absurd hC z9)⟩)
      ·
        try simp only [mIn_0, lgc_lt, lgc_gt, lgc_le, lgc_ge, lgc_eq] at c_283
        try simp only [fl_lt, fl_le, fl_eq, fL_w, fL_lt, fL_le, tm1, tm10k, tm9, tm99, Int32.reduceToInt, Int64.reduceToInt, Int.not_lt, Int.not_le] at c_283
        refine gz_iconst (v := 1) dX12_same_286 (by decide) ?_
        refine gz_goto (tgt := 291) dX12_same_287 (by decide) ?_
        have hz : NZ F W0 W1 L_ 1 0 := by rcases hnz with ⟨e, q⟩ | ⟨e, q⟩ | ⟨e, q⟩; (exfalso; omega); (exfalso; omega); (exact q)
        obtain ⟨⟨p1, p2⟩, p3, p4⟩ := hrp
        have key := hz.1 _ _ (nS_dZ p3) (nS_dZ p4)
        rw [← hQ] at key
        have c0_ : Int32.toNatClampNeg (F 82 (Int32.toNatClampNeg 0)) = R0 := by rw [clN]; show (F 82 0).toInt.toNat = R0; omega
        have c1_ : Int32.toNatClampNeg (F 82 (Int32.toNatClampNeg 41)) = R1 := by rw [clN]; show (F 82 41).toInt.toNat = R1; omega
        rw [c0_, c1_] at c_283
        exact gz_iret rfl dX12_same_291 (Nat.le_of_ble_eq_true rfl) (Nat.le_of_ble_eq_true rfl) (⟨_, rfl, _, _, _, _, hS, hx, hR, hN, (fun _ => Or.inl ⟨rfl, key.mp (by omega)⟩), (fun z9 => absurd hC z9)⟩)
    ·
      try simp only [mIn_0, lgc_lt, lgc_gt, lgc_le, lgc_ge, lgc_eq] at c_43
      try simp only [fl_lt, fl_le, fl_eq, fL_w, fL_lt, fL_le, tm1, tm10k, tm9, tm99, Int32.reduceToInt, Int64.reduceToInt, Int.not_lt, Int.not_le] at c_43
      refine gz_bipush (v := 41) dX12_same_46 (by decide) ?_
      refine gz_iload_n dX12_same_48 rfl rfl ?_
      refine gz_imul dX12_same_49 ?_
      obtain ⟨bs, hbs_⟩ : ∃ v_, v_ = (41 * sd) := ⟨_, rfl⟩
      refine gz_ev (w := .int bs) (congrArg Value.int hbs_.symm) ?_
      have hbs : (sd.toInt = 0 ∧ bs.toInt = 0) ∨ (sd.toInt = 1 ∧ bs.toInt = 41) := by rw [hbs_]; have q := (T_mul (show (41 : Int32).toInt = 41 from rfl) (rfl : (sd).toInt = (sd).toInt) (by omega)); omega
      refine gz_istore (lv' := [(4, .int bs), (3, .int sd), (0, .ref m), (1, .int x1), (2, .int x2)]) dX12_same_50 (by decide) rfl ?_
      refine gz_aload_n dX12_same_52 rfl rfl ?_
      refine mg_17 hS dX12_same_53 ?_
      refine gz_iload_n dX12_same_56 rfl rfl ?_
      refine gz_if_ne (tgt := 64) dX12_same_57 (by decide) (fun c_57 => ?_) (fun c_57 => ?_)
      ·
        try simp only [mIn_0, lgc_lt, lgc_gt, lgc_le, lgc_ge, lgc_eq] at c_57
        try simp only [fl_lt, fl_le, fl_eq, fL_w, fL_lt, fL_le, tm1, tm10k, tm9, tm99, Int32.reduceToInt, Int64.reduceToInt, Int.not_lt, Int.not_le] at c_57
        refine gz_iload_n dX12_same_64 rfl rfl ?_
        refine m_iald 6 hS rfl (N := 22) rfl ((by exact vin_T (rfl : (x2).toInt = (x2).toInt) (by omega) (by omega))) dX12_same_65 ?_
        refine gz_iconst (v := 1) dX12_same_66 (by decide) ?_
        refine gz_isub dX12_same_67 ?_
        refine gz_istore (lv' := [(5, .int (((F 6) (Int32.toNatClampNeg x2)) - 1)), (4, .int bs), (3, .int sd), (0, .ref m), (1, .int x1), (2, .int x2)]) dX12_same_68 (by decide) rfl ?_
        have qk : (((F 6) (Int32.toNatClampNeg x2)) - 1).toInt = (F 6 (Int32.toNatClampNeg x2)).toInt - 1 := (T_sub (rfl : (((F 6) (Int32.toNatClampNeg x2))).toInt = (((F 6) (Int32.toNatClampNeg x2))).toInt) (show (1 : Int32).toInt = 1 from rfl) (by omega))
        refine gz_sub (lv' := [(5, .int (((F 6) (Int32.toNatClampNeg x2)) - 1)), (4, .int bs), (3, .int sd), (0, .ref m), (1, .int x1), (2, .int x2)]) (by simp [List.lookup]) ?_
        have hNZs : NZ F W0 W1 L_ sd.toInt W1 := by rcases hnz with ⟨e, q⟩ | ⟨e, q⟩ | ⟨e, q⟩; (exfalso; omega); (rw [e]; exact q); (exfalso; omega)
        refine l_X12_same2E (sd := sd) hW hW6 hfg hbs ?_ 42 (((F 6) (Int32.toNatClampNeg x2)) - 1) W1 _ _ _ _ _ hS hx hR hN hfa hfb hSN hrp hNZs (by omega) (by omega) (by omega)
        clear qk hNZs hnz w6 e6
        clear hS hx hR hN hfa hfb hSN hrp a0 a4 a5 bA bW a30 bL a38 bP a53 a47 a88
        intro n z F G fm hS hx hR hN hfa hfb hSN hrp hNZ
        refine gz_iinc (v := (sd + 1)) (lv' := [(3, .int (sd + 1)), (0, .ref m), (1, .int x1), (2, .int x2)]) dX12_same_254 rfl rfl (by decide) rfl ?_
        refine gz_goto (tgt := 41) dX12_same_257 (by decide) ?_
        refine gz_sub (lv' := [(3, .int (sd + 1)), (0, .ref m), (1, .int x1), (2, .int x2)]) (by simp [List.lookup]) ?_
        have hnz9 : ((sd + 1).toInt = 0 ∧ NZ F W0 W1 L_ 0 W0) ∨ ((sd + 1).toInt = 1 ∧ NZ F W0 W1 L_ 1 W1) ∨ ((sd + 1).toInt = 2 ∧ NZ F W0 W1 L_ 1 0) := by
          have q1 : (sd + 1).toInt = sd.toInt + 1 := T_add (rfl : sd.toInt = sd.toInt) (show (1 : Int32).toInt = 1 from rfl) (by omega)
          by_cases e : sd.toInt = 0
          · exact Or.inr (Or.inl ⟨by omega, NZ_nx (by rw [e] at hNZ; exact hNZ)⟩)
          · exact Or.inr (Or.inr ⟨by omega, by rw [show sd.toInt = 1 by omega] at hNZ; exact hNZ⟩)
        exact ih (sd + 1) _ _ _ _ _ hS hx (hR) (hN) (hfa) (hfb) (hSN) (hrp) (hnz9) ((by have q1_ := (T_add (rfl : (sd).toInt = (sd).toInt) (show (1 : Int32).toInt = 1 from rfl) (by omega)); omega))
      ·
        try simp only [mIn_0, lgc_lt, lgc_gt, lgc_le, lgc_ge, lgc_eq] at c_57
        try simp only [fl_lt, fl_le, fl_eq, fL_w, fL_lt, fL_le, tm1, tm10k, tm9, tm99, Int32.reduceToInt, Int64.reduceToInt, Int.not_lt, Int.not_le] at c_57
        refine gz_iload_n dX12_same_60 rfl rfl ?_
        refine gz_goto (tgt := 65) dX12_same_61 (by decide) ?_
        refine m_iald 6 hS rfl (N := 22) rfl ((by exact vin_T (rfl : (x1).toInt = (x1).toInt) (by omega) (by omega))) dX12_same_65 ?_
        refine gz_iconst (v := 1) dX12_same_66 (by decide) ?_
        refine gz_isub dX12_same_67 ?_
        refine gz_istore (lv' := [(5, .int (((F 6) (Int32.toNatClampNeg x1)) - 1)), (4, .int bs), (3, .int sd), (0, .ref m), (1, .int x1), (2, .int x2)]) dX12_same_68 (by decide) rfl ?_
        have qk : (((F 6) (Int32.toNatClampNeg x1)) - 1).toInt = (F 6 (Int32.toNatClampNeg x1)).toInt - 1 := (T_sub (rfl : (((F 6) (Int32.toNatClampNeg x1))).toInt = (((F 6) (Int32.toNatClampNeg x1))).toInt) (show (1 : Int32).toInt = 1 from rfl) (by omega))
        refine gz_sub (lv' := [(5, .int (((F 6) (Int32.toNatClampNeg x1)) - 1)), (4, .int bs), (3, .int sd), (0, .ref m), (1, .int x1), (2, .int x2)]) (by simp [List.lookup]) ?_
        have hNZs : NZ F W0 W1 L_ sd.toInt W0 := by rcases hnz with ⟨e, q⟩ | ⟨e, q⟩ | ⟨e, q⟩; (rw [e]; exact q); (exfalso; omega); (exfalso; omega)
        refine l_X12_same2E (sd := sd) hW hW6 hfg hbs ?_ 42 (((F 6) (Int32.toNatClampNeg x1)) - 1) W0 _ _ _ _ _ hS hx hR hN hfa hfb hSN hrp hNZs (by omega) (by omega) (by omega)
        clear qk hNZs hnz w6 e6
        clear hS hx hR hN hfa hfb hSN hrp a0 a4 a5 bA bW a30 bL a38 bP a53 a47 a88
        intro n z F G fm hS hx hR hN hfa hfb hSN hrp hNZ
        refine gz_iinc (v := (sd + 1)) (lv' := [(3, .int (sd + 1)), (0, .ref m), (1, .int x1), (2, .int x2)]) dX12_same_254 rfl rfl (by decide) rfl ?_
        refine gz_goto (tgt := 41) dX12_same_257 (by decide) ?_
        refine gz_sub (lv' := [(3, .int (sd + 1)), (0, .ref m), (1, .int x1), (2, .int x2)]) (by simp [List.lookup]) ?_
        have hnz9 : ((sd + 1).toInt = 0 ∧ NZ F W0 W1 L_ 0 W0) ∨ ((sd + 1).toInt = 1 ∧ NZ F W0 W1 L_ 1 W1) ∨ ((sd + 1).toInt = 2 ∧ NZ F W0 W1 L_ 1 0) := by
          have q1 : (sd + 1).toInt = sd.toInt + 1 := T_add (rfl : sd.toInt = sd.toInt) (show (1 : Int32).toInt = 1 from rfl) (by omega)
          by_cases e : sd.toInt = 0
          · exact Or.inr (Or.inl ⟨by omega, NZ_nx (by rw [e] at hNZ; exact hNZ)⟩)
          · exact Or.inr (Or.inr ⟨by omega, by rw [show sd.toInt = 1 by omega] at hNZ; exact hNZ⟩)
        exact ih (sd + 1) _ _ _ _ _ hS hx (hR) (hN) (hfa) (hfb) (hSN) (hrp) (hnz9) ((by have q1_ := (T_add (rfl : (sd).toInt = (sd).toInt) (show (1 : Int32).toInt = 1 from rfl) (by omega)); omega))

set_option maxHeartbeats 4000000 in
set_option maxRecDepth 100000 in
theorem k_X12_sameE {l : Launch} {D : va_G} {cy : Nat → ClassId} {b : Nat} {f : gMem} {m : Nat} {a : Nat → Nat} {f0 : gMem} {n : Nat → Int32} {z : Nat → Int64} {F : Nat → Nat → Int32} {G : Nat → Nat → Int64}  {x1 x2 : Int32} {Tf : Nat → List Hd} (hS : mS cy m a f0 n z F G f) (hR : RI n F) (hN : NR F) (hX : ∀ k : Nat, (k : Int) < (n 5).toInt → LX F k (Tf k)) : gC l D cy b yX12_same cX12_same 9 (some .int) 4 0 0 [.ref m, .int x1, .int x2] f (pI fun r f2 => ∃ (n2 : Nat → Int32) (z2 : Nat → Int64) (F2 : Nat → Nat → Int32) (G2 : Nat → Nat → Int64), mS cy m a f0 n2 z2 F2 G2 f2 ∧ fx [] [] [76, 77, 78, 79, 80, 81, 82] [] n z F G n2 z2 F2 G2 ∧ RI n2 F2 ∧ NR F2 ∧ (((0 ≤ x1.toInt ∧ x1.toInt < (n 5).toInt) ∧ 0 ≤ x2.toInt ∧ x2.toInt < (n 5).toInt) → (r = 1 ∧ ewI (shT (Tf (Int32.toNatClampNeg x1))) (shT (Tf (Int32.toNatClampNeg x2)))) ∨ (r = 0 ∧ ¬ ewI (shT (Tf (Int32.toNatClampNeg x1))) (shT (Tf (Int32.toNatClampNeg x2))))) ∧ (¬ ((0 ≤ x1.toInt ∧ x1.toInt < (n 5).toInt) ∧ 0 ≤ x2.toInt ∧ x2.toInt < (n 5).toInt) → r = -1)) := by
  obtain ⟨a0, a4, a5, bA, bW, a30, bL, a38, bP, a53, a47, a88⟩ := id hR
  refine gC_of (by decide) (Nat.le_of_ble_eq_true rfl) ?_
  show gG l _ _ _ D cy b cX12_same 9 _ RX12 "same" 0 0 f 0 [(0, .ref m), (1, .int x1), (2, .int x2)] []
  refine gz_aload_n dX12_same_0 rfl rfl ?_
  refine gz_iload_n dX12_same_1 rfl rfl ?_
  refine scX12_337 (k_X12_isFormE (x1 := x1) hS ) hS.1 ⟨(Nat.le_of_ble_eq_true rfl), (Nat.le_of_ble_eq_true rfl)⟩ ⟨(Nat.le_of_ble_eq_true rfl), (Nat.le_of_ble_eq_true rfl)⟩ rfl rfl (Nat.le_of_ble_eq_true rfl) dX12_same_2 ?_
  rintro r_1 f9 ⟨hb_1, y9⟩; rw [y9]
  try rw [(show n 5 = (n 5) from rfl)] at hb_1
  have hbb_1 : r_1 = 0 ∨ r_1 = 1 := hb_1.imp And.left And.left
  simp only [fl_eq, Int32.reduceToInt] at hb_1
  refine gz_if_eq (tgt := 16) dX12_same_5 (by decide) (fun c_5 => ?_) (fun c_5 => ?_)
  ·
    try simp only [mIn_0, lgc_lt, lgc_gt, lgc_le, lgc_ge, lgc_eq] at c_5
    try simp only [fl_lt, fl_le, fl_eq, fL_w, fL_lt, fL_le, tm1, tm10k, tm9, tm99, Int32.reduceToInt, Int64.reduceToInt, Int.not_lt, Int.not_le] at c_5
    refine gz_iconst (v := (-1)) dX12_same_16 (by decide) ?_
    exact gz_iret rfl dX12_same_17 (Nat.le_of_ble_eq_true rfl) (Nat.le_of_ble_eq_true rfl) (⟨_, rfl, _, _, _, _, hS, fx_rf, hR, hN, (fun z => by exfalso; omega), (fun _ => rfl)⟩)
  ·
    try simp only [mIn_0, lgc_lt, lgc_gt, lgc_le, lgc_ge, lgc_eq] at c_5
    try simp only [fl_lt, fl_le, fl_eq, fL_w, fL_lt, fL_le, tm1, tm10k, tm9, tm99, Int32.reduceToInt, Int64.reduceToInt, Int.not_lt, Int.not_le] at c_5
    refine gz_aload_n dX12_same_8 rfl rfl ?_
    refine gz_iload_n dX12_same_9 rfl rfl ?_
    refine scX12_337 (k_X12_isFormE (x1 := x2) hS ) hS.1 ⟨(Nat.le_of_ble_eq_true rfl), (Nat.le_of_ble_eq_true rfl)⟩ ⟨(Nat.le_of_ble_eq_true rfl), (Nat.le_of_ble_eq_true rfl)⟩ rfl rfl (Nat.le_of_ble_eq_true rfl) dX12_same_10 ?_
    rintro r_2 f9 ⟨hb_2, y9⟩; rw [y9]
    try rw [(show n 5 = (n 5) from rfl)] at hb_2
    have hbb_2 : r_2 = 0 ∨ r_2 = 1 := hb_2.imp And.left And.left
    simp only [fl_eq, Int32.reduceToInt] at hb_2
    refine gz_if_ne (tgt := 18) dX12_same_13 (by decide) (fun c_13 => ?_) (fun c_13 => ?_)
    ·
      try simp only [mIn_0, lgc_lt, lgc_gt, lgc_le, lgc_ge, lgc_eq] at c_13
      try simp only [fl_lt, fl_le, fl_eq, fL_w, fL_lt, fL_le, tm1, tm10k, tm9, tm99, Int32.reduceToInt, Int64.reduceToInt, Int.not_lt, Int.not_le] at c_13
      refine gz_aload_n dX12_same_18 rfl rfl ?_
      refine gz_iload_n dX12_same_19 rfl rfl ?_
      refine gz_iconst (v := 0) dX12_same_20 (by decide) ?_
      refine scX12_535 (k_X12_shortensE (x1 := x1) (x2 := 0) (T := Tf (Int32.toNatClampNeg x1)) hS hR hN (by omega) (by decide) (hX _ (by rw [clN]; omega))) hS.1 ⟨(Nat.le_of_ble_eq_true rfl), (Nat.le_of_ble_eq_true rfl)⟩ ⟨(Nat.le_of_ble_eq_true rfl), (Nat.le_of_ble_eq_true rfl)⟩ rfl rfl (Nat.le_of_ble_eq_true rfl) dX12_same_21 ?_
      rintro f_3 ⟨n_3, z_3, F_3, G_3, hS_3, hx3, hN_3, hP_3, hou_3, hs_3⟩
      have hR_3 := RI_fx hR hx3 (by decide) (by decide)
      have hX_3 : ∀ k : Nat, (k : Int) < (n 5).toInt → LX F_3 k (Tf k) := fun k hk => LX_cg (fun r h1 h2 => hx3.2.2.1 r (fun h => by simp only [List.mem_cons, List.not_mem_nil, or_false] at h; omega)) (hX k hk)
      refine gz_aload_n dX12_same_24 rfl rfl ?_
      refine gz_iload_n dX12_same_25 rfl rfl ?_
      refine gz_iconst (v := 1) dX12_same_26 (by decide) ?_
      refine scX12_535 (k_X12_shortensE (x1 := x2) (x2 := 1) (T := Tf (Int32.toNatClampNeg x2)) hS_3 hR_3 hN_3 (by rw [(show n_3 5 = (n 5) from (hx3.1 5 (by decide)))]; omega) (by decide) (hX_3 _ (by rw [clN]; omega))) hS_3.1 ⟨(Nat.le_of_ble_eq_true rfl), (Nat.le_of_ble_eq_true rfl)⟩ ⟨(Nat.le_of_ble_eq_true rfl), (Nat.le_of_ble_eq_true rfl)⟩ rfl rfl (Nat.le_of_ble_eq_true rfl) dX12_same_27 ?_
      rintro f_4 ⟨n_4, z_4, F_4, G_4, hS_4, hx4, hN_4, hP_4, hou_4, hs_4⟩
      have hR_4 := RI_fx hR_3 hx4 (by decide) (by decide)
      have hX_4 : ∀ k : Nat, (k : Int) < (n 5).toInt → LX F_4 k (Tf k) := fun k hk => LX_cg (fun r h1 h2 => hx4.2.2.1 r (fun h => by simp only [List.mem_cons, List.not_mem_nil, or_false] at h; omega)) (hX_3 k hk)
      refine gz_aload_n dX12_same_30 rfl rfl ?_
      refine mg_225 hS_4 dX12_same_31 ?_
      refine gz_bipush (v := 81) dX12_same_34 (by decide) ?_
      refine gz_bipush (v := 40) dX12_same_36 (by decide) ?_
      refine m_iast 81 hS_4 rfl (N := 82) rfl (vin_T (v := 81) rfl (by decide) (by decide)) dX12_same_38 (fun f_5 hS_5q => ?_)
      have hS_5 : mS cy m a f0 n_4 z_4 (va_up F_4 81 (upd (F_4 81) (Int32.toNatClampNeg 81) 40)) G_4 f_5 := hS_5q
      refine gz_iconst (v := 0) dX12_same_39 (by decide) ?_
      refine gz_istore_n (lv' := [(3, .int 0), (0, .ref m), (1, .int x1), (2, .int x2)]) dX12_same_40 rfl (by decide) rfl ?_
      have hxx : fx [] [] [76, 77, 78, 79, 80, 81, 82] [] n z F G n_4 z_4 (va_up F_4 81 (upd (F_4 81) (Int32.toNatClampNeg 81) 40)) G_4 := (fx_F (fx_tr (fx_tr fx_rf hx3 (by decide)) hx4 (by decide)) (by decide))
      have hN9 : NR (va_up F_4 81 (upd (F_4 81) (Int32.toNatClampNeg 81) 40)) := NR_up hN_4 81 (fun k hk hne => up_out (K := [81]) (fun _ _ => rfl) (by decide) k (by simp only [List.mem_cons, List.not_mem_nil, or_false]; exact hne)) (i := Int32.toNatClampNeg 81) (v := 40) rfl (Or.inl (by decide)) (by decide)
      have e5 : n_4 5 = n 5 := hxx.1 5 (by decide)
      rw [show 41 * Int32.toNatClampNeg 0 = 0 from rfl] at hs_3
      rw [show 41 * Int32.toNatClampNeg 1 = 41 from rfl] at hs_4 hou_4
      obtain ⟨H0, fi0, se0, sa⟩ := hs_3
      obtain ⟨H1, fi1, se1, sb⟩ := hs_4
      have xa := hX (Int32.toNatClampNeg x1) (by rw [clN]; omega)
      have xb := hX (Int32.toNatClampNeg x2) (by rw [clN]; omega)
      have ha40 := xa.1.2.2.2.1
      have hb40 := xb.1.2.2.2.1
      have rw_ : ∀ r, r ∉ [76, 77, 78, 79, 80, 81, 82] → F_4 r = F_3 r := fun r hr => hx4.2.2.1 r hr
      have sa2 : shE F_4 (Int32.toNatClampNeg x1) 0 (Tf (Int32.toNatClampNeg x1)) H0 fi0 se0 0 := shE_sd ha40 (fun r hr => rw_ r (fun h => by simp only [List.mem_cons, List.not_mem_nil, or_false] at h hr; omega)) (fun r hr i h1 h2 => hou_4 r hr i (Or.inl (by omega))) sa
      have sn0 := SN_mk ha40 hb40 sa2 sb
      have up_ : ∀ r, r ≠ 81 → (va_up F_4 81 (upd (F_4 81) (Int32.toNatClampNeg 81) 40)) r = F_4 r := fun r hr => va_up_ne _ _ hr
      have sn := SN_cg up_ sn0
      obtain ⟨za, Ba, eTa⟩ := okT_ne xa.1.1
      obtain ⟨zb, Bb, eTb⟩ := okT_ne xb.1.1
      have la : 0 < (Tf (Int32.toNatClampNeg x1)).length := by rw [eTa]; exact Nat.succ_pos _
      have lb : 0 < (Tf (Int32.toNatClampNeg x2)).length := by rw [eTb]; exact Nat.succ_pos _
      obtain ⟨R0, a1_, a2_, a3_⟩ := sa2.2.1 0 (Nat.le_refl _) la
      obtain ⟨R1, b1_, b2_, b3_⟩ := sb.2.1 0 (Nat.le_refl _) lb
      have e81_ : (va_up F_4 81 (upd (F_4 81) (Int32.toNatClampNeg 81) 40)) 81 = (upd (F_4 81) (Int32.toNatClampNeg 81) 40) := rfl
      have e82_ : (va_up F_4 81 (upd (F_4 81) (Int32.toNatClampNeg 81) 40)) 82 = F_4 82 := up_ 82 (by decide)
      have r0s : nS (va_up F_4 81 (upd (F_4 81) (Int32.toNatClampNeg 81) 40)) (Tf (Int32.toNatClampNeg x1)).length (Tf (Int32.toNatClampNeg x2)).length R0 ∧ R0 < 41 := by
        rcases a2_ with z | ⟨z1, z2, z3⟩
        · exact ⟨Or.inl (by omega), by omega⟩
        · exact ⟨Or.inr (Or.inr ⟨by unfold fxN at z3 ⊢; rw [e82_]; exact z3, Or.inl (by omega)⟩), by omega⟩
      have r1s : nS (va_up F_4 81 (upd (F_4 81) (Int32.toNatClampNeg 81) 40)) (Tf (Int32.toNatClampNeg x1)).length (Tf (Int32.toNatClampNeg x2)).length R1 ∧ ¬ R1 < 41 := by
        rcases b2_ with z | ⟨z1, z2, z3⟩
        · exact ⟨Or.inr (Or.inl (by omega)), by omega⟩
        · exact ⟨Or.inr (Or.inr ⟨by unfold fxN at z3 ⊢; rw [e82_]; exact z3, Or.inr (by omega)⟩), by omega⟩
      have hq1 : sdF (trG H0 fi0 se0 41) (trG H1 fi1 se1 41) R0 = shT (Tf (Int32.toNatClampNeg x1)) := by rw [sdF_0 r0s.2]; exact a3_
      have hq2 : sdF (trG H0 fi0 se0 41) (trG H1 fi1 se1 41) R1 = shT (Tf (Int32.toNatClampNeg x2)) := by rw [sdF_1 r1s.2]; exact b3_
      have n40 : ((va_up F_4 81 (upd (F_4 81) (Int32.toNatClampNeg 81) 40)) 81 40).toInt = 40 := by rw [e81_, show Int32.toNatClampNeg 81 = 81 from rfl, updE, if_neg (by decide)]; exact sa2.1.2.2.1
      have n81 : ((va_up F_4 81 (upd (F_4 81) (Int32.toNatClampNeg 81) 40)) 81 81).toInt = 40 := by rw [e81_, show Int32.toNatClampNeg 81 = 81 from rfl, updE, if_pos rfl]; rfl
      refine gz_sub (lv' := [(3, .int 0), (0, .ref m), (1, .int x1), (2, .int x2)]) (by simp [List.lookup]) ?_
      exact l_X12_same1E (fo := (Int32.toNatClampNeg x1)) (go := (Int32.toNatClampNeg x2)) (R0 := R0) (R1 := R1) ⟨ha40, hb40⟩ ⟨xa.2.1, xb.2.1⟩ ⟨by rw [clN]; omega, by rw [clN]; omega⟩ ⟨⟨by omega, by omega⟩, by omega, by omega⟩ (by rw [hq1, hq2]) 3 0 _ _ _ _ _ hS_5 hxx (RI_fx hR hxx (by decide) (by decide)) hN9 (by rw [e5]; omega) (by rw [e5]; omega) sn ⟨⟨by rw [e82_]; exact a1_, by rw [e82_]; exact b1_⟩, r0s.1, r1s.1⟩ (Or.inl ⟨rfl, NZ_beg n40 n81 sn.1.1 sn.1.2⟩) (by decide)
    ·
      try simp only [mIn_0, lgc_lt, lgc_gt, lgc_le, lgc_ge, lgc_eq] at c_13
      try simp only [fl_lt, fl_le, fl_eq, fL_w, fL_lt, fL_le, tm1, tm10k, tm9, tm99, Int32.reduceToInt, Int64.reduceToInt, Int.not_lt, Int.not_le] at c_13
      refine gz_iconst (v := (-1)) dX12_same_16 (by decide) ?_
      exact gz_iret rfl dX12_same_17 (Nat.le_of_ble_eq_true rfl) (Nat.le_of_ble_eq_true rfl) (⟨_, rfl, _, _, _, _, hS, fx_rf, hR, hN, (fun z => by exfalso; omega), (fun _ => rfl)⟩)
