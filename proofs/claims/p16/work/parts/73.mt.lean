set_option maxHeartbeats 4000000 in
set_option maxRecDepth 100000 in
theorem k_X12_shortens {l : Launch} {D : va_G} {cy : Nat → ClassId} {b : Nat} {f : gMem} {m : Nat} {a : Nat → Nat} {f0 : gMem} {n : Nat → Int32} {z : Nat → Int64} {F : Nat → Nat → Int32} {G : Nat → Nat → Int64}  {x1 x2 : Int32} (hS : mS cy m a f0 n z F G f) (hR : RI n F) (hN : NR F) (h1 : 0 ≤ x1.toInt ∧ x1.toInt < (n 5).toInt) (h2 : 0 ≤ x2.toInt ∧ x2.toInt ≤ 1) : gC l D cy b yX12_shortens cX12_shortens 11 none 3 0 0 [.ref m, .int x1, .int x2] f (pV fun f2 => ∃ (n2 : Nat → Int32) (z2 : Nat → Int64) (F2 : Nat → Nat → Int32) (G2 : Nat → Nat → Int64), mS cy m a f0 n2 z2 F2 G2 f2 ∧ fx [] [] [76, 77, 78, 79, 80, 81, 82] [] n z F G n2 z2 F2 G2 ∧ NR F2 ∧ SHp F2 (Int32.toNatClampNeg x1) ((F 6 (Int32.toNatClampNeg x1)).toInt.toNat) (41 * Int32.toNatClampNeg x2) (-1)) := by
  obtain ⟨a0, a4, a5, bA, bW, a30, bL, a38, bP, a53, a47, a88⟩ := id hR
  refine gC_of (by decide) (Nat.le_of_ble_eq_true rfl) ?_
  show gG l _ _ _ D cy b cX12_shortens 11 _ RX12 "shortens" 0 0 f 0 [(0, .ref m), (1, .int x1), (2, .int x2)] []
  refine gz_bipush (v := 41) dX12_shortens_0 (by decide) ?_
  refine gz_iload_n dX12_shortens_2 rfl rfl ?_
  refine gz_imul dX12_shortens_3 ?_
  obtain ⟨bs, hbs⟩ : ∃ v_, v_ = (41 * x2) := ⟨_, rfl⟩
  refine gz_ev (w := .int bs) (congrArg Value.int hbs.symm) ?_
  have qb : bs.toInt = 41 * x2.toInt := by rw [hbs]; exact (T_mul (show (41 : Int32).toInt = 41 from rfl) (rfl : (x2).toInt = (x2).toInt) (by omega))
  refine gz_istore_n (lv' := [(3, .int bs), (0, .ref m), (1, .int x1), (2, .int x2)]) dX12_shortens_4 rfl (by decide) rfl ?_
  refine gz_iload_n dX12_shortens_5 rfl rfl ?_
  refine gz_bipush (v := 40) dX12_shortens_6 (by decide) ?_
  refine gz_iadd dX12_shortens_8 ?_
  obtain ⟨nb, hnb⟩ : ∃ v_, v_ = (bs + 40) := ⟨_, rfl⟩
  refine gz_ev (w := .int nb) (congrArg Value.int hnb.symm) ?_
  have qn : nb.toInt = bs.toInt + 40 := by rw [hnb]; exact (T_add (rfl : (bs).toInt = (bs).toInt) (show (40 : Int32).toInt = 40 from rfl) (by omega))
  have qc1 := clI (i := x1) (by omega)
  have qc2 := clI (i := x2) (by omega)
  have qcn := clI (i := nb) (by omega)
  have q40 := (bW (Int32.toNatClampNeg x1) (by omega)).1
  refine gz_istore (lv' := [(4, .int nb), (3, .int bs), (0, .ref m), (1, .int x1), (2, .int x2)]) dX12_shortens_9 (by decide) rfl ?_
  refine gz_aload_n dX12_shortens_11 rfl rfl ?_
  refine mg_210 hS dX12_shortens_12 ?_
  refine gz_iload dX12_shortens_15 rfl ?_
  refine gz_iconst (v := 0) dX12_shortens_17 (by decide) ?_
  refine m_iast 76 hS rfl (N := 82) rfl ((by exact vin_T (rfl : nb.toInt = nb.toInt) (by omega) (by omega))) dX12_shortens_18 (fun f_1 hS_1q => ?_)
  have hS_1 : mS cy m a f0 n z (va_up F 76 (upd (F 76) (Int32.toNatClampNeg nb) 0)) G f_1 := hS_1q
  refine gz_aload_n dX12_shortens_19 rfl rfl ?_
  refine mg_213 hS_1 dX12_shortens_20 ?_
  refine gz_iload dX12_shortens_23 rfl ?_
  refine gz_iconst (v := (-1)) dX12_shortens_25 (by decide) ?_
  refine m_iast 77 hS_1 rfl (N := 82) rfl ((by exact vin_T (rfl : nb.toInt = nb.toInt) (by omega) (by omega))) dX12_shortens_26 (fun f_2 hS_2q => ?_)
  have hS_2 : mS cy m a f0 n z (va_up (va_up F 76 (upd (F 76) (Int32.toNatClampNeg nb) 0)) 77 (upd (F 77) (Int32.toNatClampNeg nb) (-1))) G f_2 := hS_2q
  refine gz_aload_n dX12_shortens_27 rfl rfl ?_
  refine mg_225 hS_2 dX12_shortens_28 ?_
  refine gz_iload dX12_shortens_31 rfl ?_
  refine gz_iload dX12_shortens_33 rfl ?_
  refine m_iast 81 hS_2 rfl (N := 82) rfl ((by exact vin_T (rfl : nb.toInt = nb.toInt) (by omega) (by omega))) dX12_shortens_35 (fun f_3 hS_3q => ?_)
  have hS_3 : mS cy m a f0 n z (va_up (va_up (va_up F 76 (upd (F 76) (Int32.toNatClampNeg nb) 0)) 77 (upd (F 77) (Int32.toNatClampNeg nb) (-1))) 81 (upd (F 81) (Int32.toNatClampNeg nb) nb)) G f_3 := hS_3q
  refine gz_aload_n dX12_shortens_36 rfl rfl ?_
  refine mg_228 hS_3 dX12_shortens_37 ?_
  refine gz_iload dX12_shortens_40 rfl ?_
  refine gz_iload dX12_shortens_42 rfl ?_
  refine m_iast 82 hS_3 rfl (N := 82) rfl ((by exact vin_T (rfl : nb.toInt = nb.toInt) (by omega) (by omega))) dX12_shortens_44 (fun f_4 hS_4q => ?_)
  have hS_4 : mS cy m a f0 n z (va_up (va_up (va_up (va_up F 76 (upd (F 76) (Int32.toNatClampNeg nb) 0)) 77 (upd (F 77) (Int32.toNatClampNeg nb) (-1))) 81 (upd (F 81) (Int32.toNatClampNeg nb) nb)) 82 (upd (F 82) (Int32.toNatClampNeg nb) nb)) G f_4 := hS_4q
  refine gz_aload_n dX12_shortens_45 rfl rfl ?_
  refine mg_17 hS_4 dX12_shortens_46 ?_
  refine gz_iload_n dX12_shortens_49 rfl rfl ?_
  refine m_iald 6 hS_4 rfl (N := 22) rfl ((by exact vin_T (rfl : (x1).toInt = (x1).toInt) (by omega) (by omega))) dX12_shortens_50 ?_
  refine gz_ev (w := .int ((F 6) (Int32.toNatClampNeg x1))) rfl ?_
  refine gz_iconst (v := 1) dX12_shortens_51 (by decide) ?_
  refine gz_isub dX12_shortens_52 ?_
  refine gz_istore (lv' := [(5, .int (((F 6) (Int32.toNatClampNeg x1)) - 1)), (4, .int nb), (3, .int bs), (0, .ref m), (1, .int x1), (2, .int x2)]) dX12_shortens_53 (by decide) rfl ?_
  have hxx : fx [] [] [76, 77, 78, 79, 80, 81, 82] [] n z F G n z (va_up (va_up (va_up (va_up F 76 (upd (F 76) (Int32.toNatClampNeg nb) 0)) 77 (upd (F 77) (Int32.toNatClampNeg nb) (-1))) 81 (upd (F 81) (Int32.toNatClampNeg nb) nb)) 82 (upd (F 82) (Int32.toNatClampNeg nb) nb)) G := (fx_F (fx_F (fx_F (fx_F fx_rf (by decide)) (by decide)) (by decide)) (by decide))
  have r76_ : (va_up (va_up (va_up (va_up F 76 (upd (F 76) (Int32.toNatClampNeg nb) 0)) 77 (upd (F 77) (Int32.toNatClampNeg nb) (-1))) 81 (upd (F 81) (Int32.toNatClampNeg nb) nb)) 82 (upd (F 82) (Int32.toNatClampNeg nb) nb)) 76 = (upd (F 76) (Int32.toNatClampNeg nb) 0) := rfl
  have r81_ : (va_up (va_up (va_up (va_up F 76 (upd (F 76) (Int32.toNatClampNeg nb) 0)) 77 (upd (F 77) (Int32.toNatClampNeg nb) (-1))) 81 (upd (F 81) (Int32.toNatClampNeg nb) nb)) 82 (upd (F 82) (Int32.toNatClampNeg nb) nb)) 81 = (upd (F 81) (Int32.toNatClampNeg nb) nb) := rfl
  have r82_ : (va_up (va_up (va_up (va_up F 76 (upd (F 76) (Int32.toNatClampNeg nb) 0)) 77 (upd (F 77) (Int32.toNatClampNeg nb) (-1))) 81 (upd (F 81) (Int32.toNatClampNeg nb) nb)) 82 (upd (F 82) (Int32.toNatClampNeg nb) nb)) 82 = (upd (F 82) (Int32.toNatClampNeg nb) nb) := rfl
  have hN2 : NR (va_up (va_up (va_up (va_up F 76 (upd (F 76) (Int32.toNatClampNeg nb) 0)) 77 (upd (F 77) (Int32.toNatClampNeg nb) (-1))) 81 (upd (F 81) (Int32.toNatClampNeg nb) nb)) 82 (upd (F 82) (Int32.toNatClampNeg nb) nb)) := by
    intro q hq
    obtain ⟨q1, q2, q3, q4, q5⟩ := hN q hq
    rw [r81_, r82_]
    simp only [updE]
    refine ⟨q1, q2, q3, ?_, ?_⟩ <;> (repeat' split) <;> omega
  have qk : (((F 6) (Int32.toNatClampNeg x1)) - 1).toInt = (F 6 (Int32.toNatClampNeg x1)).toInt - 1 := (T_sub (rfl : (((F 6) (Int32.toNatClampNeg x1))).toInt = (((F 6) (Int32.toNatClampNeg x1))).toInt) (show (1 : Int32).toInt = 1 from rfl) (by omega))
  have hP2 : SHp (va_up (va_up (va_up (va_up F 76 (upd (F 76) (Int32.toNatClampNeg nb) 0)) 77 (upd (F 77) (Int32.toNatClampNeg nb) (-1))) 81 (upd (F 81) (Int32.toNatClampNeg nb) nb)) 82 (upd (F 82) (Int32.toNatClampNeg nb) nb)) (Int32.toNatClampNeg x1) ((F 6 (Int32.toNatClampNeg x1)).toInt.toNat) (41 * Int32.toNatClampNeg x2) (((F 6) (Int32.toNatClampNeg x1)) - 1).toInt := ⟨by rw [show (41 * Int32.toNatClampNeg x2) + 40 = (Int32.toNatClampNeg nb) by omega, r76_, updE, if_pos rfl]; rfl, fun j hj1 hj2 => by omega⟩
  refine gz_sub (lv' := [(5, .int (((F 6) (Int32.toNatClampNeg x1)) - 1)), (0, .ref m), (1, .int x1), (2, .int x2), (3, .int bs), (4, .int nb)]) (by simp [List.lookup]) ?_
  exact l_X12_shortens (fo := (Int32.toNatClampNeg x1)) (Wn := (F 6 (Int32.toNatClampNeg x1)).toInt.toNat) (bn := (41 * Int32.toNatClampNeg x2)) (by omega) (by omega) 41 (((F 6) (Int32.toNatClampNeg x1)) - 1) _ _ _ _ _ hS_4 hxx (RI_fx hR hxx (by decide) (by decide)) (by omega) hN2 (by show (F 6 (Int32.toNatClampNeg x1)).toInt = _; omega) hP2 (by omega)

set_option maxHeartbeats 4000000 in
set_option maxRecDepth 100000 in
theorem l_X12_same3 {l : Launch} {D : va_G} {cy : Nat → ClassId} {b : Nat} {m : Nat} {a : Nat → Nat} {f0 : gMem} {n0 : Nat → Int32} {z0 : Nat → Int64} {F0 : Nat → Nat → Int32} {G0 : Nat → Nat → Int64}  {x1 x2 : Int32} {sd bs kk xq : Int32} (hxq : 0 ≤ xq.toInt ∧ xq.toInt ≤ 81) (hq : ∀  (n : Nat → Int32) (z : Nat → Int64) (F : Nat → Nat → Int32) (G : Nat → Nat → Int64) (fm : gMem), mS cy m a f0 n z F G fm → fx [] [] [76, 77, 78, 79, 80, 81, 82] [] n0 z0 F0 G0 n z F G → (RI n F) → (NR F) → (0 ≤ x1.toInt ∧ x1.toInt < (n 5).toInt) → (0 ≤ x2.toInt ∧ x2.toInt < (n 5).toInt) → gG l (gRm 4 0 0) (gQf D b (pI fun r f2 => ∃ (n2 : Nat → Int32) (z2 : Nat → Int64) (F2 : Nat → Nat → Int32) (G2 : Nat → Nat → Int64), mS cy m a f0 n2 z2 F2 G2 f2 ∧ fx [] [] [76, 77, 78, 79, 80, 81, 82] [] n0 z0 F0 G0 n2 z2 F2 G2 ∧ RI n2 F2 ∧ NR F2) 0 0) gTt D cy b cX12_same 9 (some .int) RX12 "same" 0 0 fm 248 [(5, .int kk), (4, .int bs), (3, .int sd), (0, .ref m), (1, .int x1), (2, .int x2)] []) : ∀ (k : Nat) (y : Int32) (n : Nat → Int32) (z : Nat → Int64) (F : Nat → Nat → Int32) (G : Nat → Nat → Int64) (fm : gMem), mS cy m a f0 n z F G fm → fx [] [] [76, 77, 78, 79, 80, 81, 82] [] n0 z0 F0 G0 n z F G → (RI n F) → (NR F) → (0 ≤ x1.toInt ∧ x1.toInt < (n 5).toInt) → (0 ≤ x2.toInt ∧ x2.toInt < (n 5).toInt) → (0 ≤ y.toInt ∧ y.toInt ≤ 82 ∧ y.toInt + (k : Int) = 83) → gG l (gRm 4 0 0) (gQf D b (pI fun r f2 => ∃ (n2 : Nat → Int32) (z2 : Nat → Int64) (F2 : Nat → Nat → Int32) (G2 : Nat → Nat → Int64), mS cy m a f0 n2 z2 F2 G2 f2 ∧ fx [] [] [76, 77, 78, 79, 80, 81, 82] [] n0 z0 F0 G0 n2 z2 F2 G2 ∧ RI n2 F2 ∧ NR F2) 0 0) gTt D cy b cX12_same 9 (some .int) RX12 "same" 0 0 fm 109 [(7, .int y), (6, .int xq), (5, .int kk), (4, .int bs), (3, .int sd), (0, .ref m), (1, .int x1), (2, .int x2)] [] := by
  intro k
  induction k with
  | zero =>
    intro y n z F G fm hS hx hR hN hfa hfb hk
    exfalso; omega
  | succ k ih =>
    intro y n z F G fm hS hx hR hN hfa hfb hk
    obtain ⟨a0, a4, a5, bA, bW, a30, bL, a38, bP, a53, a47, a88⟩ := id hR
    have qc1 := clI (i := x1) (by omega)
    have qc2 := clI (i := x2) (by omega)
    refine gz_iload dX12_same_109 rfl ?_
    refine gz_bipush (v := 82) dX12_same_111 (by decide) ?_
    refine gz_icmp_ge (tgt := 248) dX12_same_113 (by decide) (fun c_113 => ?_) (fun c_113 => ?_)
    ·
      try simp only [mIn_0, lgc_lt, lgc_gt, lgc_le, lgc_ge, lgc_eq] at c_113
      try simp only [fl_lt, fl_le, fl_eq, fL_w, fL_lt, fL_le, tm1, tm10k, tm9, tm99, Int32.reduceToInt, Int64.reduceToInt, Int.not_lt, Int.not_le] at c_113
      refine gz_sub (lv' := [(5, .int kk), (4, .int bs), (3, .int sd), (0, .ref m), (1, .int x1), (2, .int x2)]) (by simp [List.lookup]) ?_
      exact hq  _ _ _ _ _ hS hx (hR) (hN) (hfa) (hfb)
    ·
      try simp only [mIn_0, lgc_lt, lgc_gt, lgc_le, lgc_ge, lgc_eq] at c_113
      try simp only [fl_lt, fl_le, fl_eq, fL_w, fL_lt, fL_le, tm1, tm10k, tm9, tm99, Int32.reduceToInt, Int64.reduceToInt, Int.not_lt, Int.not_le] at c_113
      refine gz_aload_n dX12_same_116 rfl rfl ?_
      refine mg_225 hS dX12_same_117 ?_
      refine gz_iload dX12_same_120 rfl ?_
      refine m_iald 81 hS rfl (N := 82) rfl ((by exact vin_T (rfl : (xq).toInt = (xq).toInt) (by omega) (by omega))) dX12_same_122 ?_
      refine gz_iload dX12_same_123 rfl ?_
      refine gz_icmp_ne (tgt := 248) dX12_same_125 (by decide) (fun c_125 => ?_) (fun c_125 => ?_)
      ·
        try simp only [mIn_0, lgc_lt, lgc_gt, lgc_le, lgc_ge, lgc_eq] at c_125
        try simp only [fl_lt, fl_le, fl_eq, fL_w, fL_lt, fL_le, tm1, tm10k, tm9, tm99, Int32.reduceToInt, Int64.reduceToInt, Int.not_lt, Int.not_le] at c_125
        refine gz_sub (lv' := [(5, .int kk), (4, .int bs), (3, .int sd), (0, .ref m), (1, .int x1), (2, .int x2)]) (by simp [List.lookup]) ?_
        exact hq  _ _ _ _ _ hS hx (hR) (hN) (hfa) (hfb)
      ·
        try simp only [mIn_0, lgc_lt, lgc_gt, lgc_le, lgc_ge, lgc_eq] at c_125
        try simp only [fl_lt, fl_le, fl_eq, fL_w, fL_lt, fL_le, tm1, tm10k, tm9, tm99, Int32.reduceToInt, Int64.reduceToInt, Int.not_lt, Int.not_le] at c_125
        refine gz_iload dX12_same_128 rfl ?_
        refine gz_bipush (v := 41) dX12_same_130 (by decide) ?_
        refine gz_icmp_ge (tgt := 166) dX12_same_132 (by decide) (fun c_132 => ?_) (fun c_132 => ?_)
        ·
          try simp only [mIn_0, lgc_lt, lgc_gt, lgc_le, lgc_ge, lgc_eq] at c_132
          try simp only [fl_lt, fl_le, fl_eq, fL_w, fL_lt, fL_le, tm1, tm10k, tm9, tm99, Int32.reduceToInt, Int64.reduceToInt, Int.not_lt, Int.not_le] at c_132
          refine gz_iload_n dX12_same_166 rfl rfl ?_
          refine gz_iconst (v := 1) dX12_same_167 (by decide) ?_
          refine gz_icmp_ne (tgt := 196) dX12_same_168 (by decide) (fun c_168 => ?_) (fun c_168 => ?_)
          ·
            try simp only [mIn_0, lgc_lt, lgc_gt, lgc_le, lgc_ge, lgc_eq] at c_168
            try simp only [fl_lt, fl_le, fl_eq, fL_w, fL_lt, fL_le, tm1, tm10k, tm9, tm99, Int32.reduceToInt, Int64.reduceToInt, Int.not_lt, Int.not_le] at c_168
            refine gz_iconst (v := 0) dX12_same_196 (by decide) ?_
            refine gz_istore (lv' := [(8, .int 0), (7, .int y), (6, .int xq), (5, .int kk), (4, .int bs), (3, .int sd), (0, .ref m), (1, .int x1), (2, .int x2)]) dX12_same_197 (by decide) rfl ?_
            refine gz_iload dX12_same_199 rfl ?_
            refine gz_if_eq (tgt := 242) dX12_same_201 (by decide) (fun c_201 => ?_) (fun c_201 => ?_)
            ·
              try simp only [mIn_0, lgc_lt, lgc_gt, lgc_le, lgc_ge, lgc_eq] at c_201
              try simp only [fl_lt, fl_le, fl_eq, fL_w, fL_lt, fL_le, tm1, tm10k, tm9, tm99, Int32.reduceToInt, Int64.reduceToInt, Int.not_lt, Int.not_le] at c_201
              refine gz_iinc (v := (y + 1)) (lv' := [(7, .int (y + 1)), (8, .int 0), (6, .int xq), (5, .int kk), (4, .int bs), (3, .int sd), (0, .ref m), (1, .int x1), (2, .int x2)]) dX12_same_242 rfl rfl (by decide) rfl ?_
              refine gz_goto (tgt := 109) dX12_same_245 (by decide) ?_
              refine gz_sub (lv' := [(7, .int (y + 1)), (6, .int xq), (5, .int kk), (4, .int bs), (3, .int sd), (0, .ref m), (1, .int x1), (2, .int x2)]) (by simp [List.lookup]) ?_
              exact ih (y + 1) _ _ _ _ _ hS hx (hR) (hN) (hfa) (hfb) ((by have q1_ := (T_add (rfl : (y).toInt = (y).toInt) (show (1 : Int32).toInt = 1 from rfl) (by omega)); omega))
            · exact absurd c_201 (by decide)
          ·
            try simp only [mIn_0, lgc_lt, lgc_gt, lgc_le, lgc_ge, lgc_eq] at c_168
            try simp only [fl_lt, fl_le, fl_eq, fL_w, fL_lt, fL_le, tm1, tm10k, tm9, tm99, Int32.reduceToInt, Int64.reduceToInt, Int.not_lt, Int.not_le] at c_168
            refine gz_iload dX12_same_171 rfl ?_
            refine gz_bipush (v := 41) dX12_same_173 (by decide) ?_
            refine gz_isub dX12_same_175 ?_
            refine gz_aload_n dX12_same_176 rfl rfl ?_
            refine mg_17 hS dX12_same_177 ?_
            refine gz_iload_n dX12_same_180 rfl rfl ?_
            refine m_iald 6 hS rfl (N := 22) rfl ((by exact vin_T (rfl : (x2).toInt = (x2).toInt) (by omega) (by omega))) dX12_same_181 ?_
            refine gz_icmp_ge (tgt := 196) dX12_same_182 (by decide) (fun c_182 => ?_) (fun c_182 => ?_)
            ·
              try simp only [mIn_0, lgc_lt, lgc_gt, lgc_le, lgc_ge, lgc_eq] at c_182
              try simp only [fl_lt, fl_le, fl_eq, fL_w, fL_lt, fL_le, tm1, tm10k, tm9, tm99, Int32.reduceToInt, Int64.reduceToInt, Int.not_lt, Int.not_le] at c_182
              try have u_182t1 := (T_sub (rfl : (y).toInt = (y).toInt) (show (41 : Int32).toInt = 41 from rfl) (by omega))
              refine gz_iconst (v := 0) dX12_same_196 (by decide) ?_
              refine gz_istore (lv' := [(8, .int 0), (7, .int y), (6, .int xq), (5, .int kk), (4, .int bs), (3, .int sd), (0, .ref m), (1, .int x1), (2, .int x2)]) dX12_same_197 (by decide) rfl ?_
              refine gz_iload dX12_same_199 rfl ?_
              refine gz_if_eq (tgt := 242) dX12_same_201 (by decide) (fun c_201 => ?_) (fun c_201 => ?_)
              ·
                try simp only [mIn_0, lgc_lt, lgc_gt, lgc_le, lgc_ge, lgc_eq] at c_201
                try simp only [fl_lt, fl_le, fl_eq, fL_w, fL_lt, fL_le, tm1, tm10k, tm9, tm99, Int32.reduceToInt, Int64.reduceToInt, Int.not_lt, Int.not_le] at c_201
                refine gz_iinc (v := (y + 1)) (lv' := [(7, .int (y + 1)), (8, .int 0), (6, .int xq), (5, .int kk), (4, .int bs), (3, .int sd), (0, .ref m), (1, .int x1), (2, .int x2)]) dX12_same_242 rfl rfl (by decide) rfl ?_
                refine gz_goto (tgt := 109) dX12_same_245 (by decide) ?_
                refine gz_sub (lv' := [(7, .int (y + 1)), (6, .int xq), (5, .int kk), (4, .int bs), (3, .int sd), (0, .ref m), (1, .int x1), (2, .int x2)]) (by simp [List.lookup]) ?_
                exact ih (y + 1) _ _ _ _ _ hS hx (hR) (hN) (hfa) (hfb) ((by have q1_ := (T_add (rfl : (y).toInt = (y).toInt) (show (1 : Int32).toInt = 1 from rfl) (by omega)); omega))
              · exact absurd c_201 (by decide)
            ·
              try simp only [mIn_0, lgc_lt, lgc_gt, lgc_le, lgc_ge, lgc_eq] at c_182
              try simp only [fl_lt, fl_le, fl_eq, fL_w, fL_lt, fL_le, tm1, tm10k, tm9, tm99, Int32.reduceToInt, Int64.reduceToInt, Int.not_lt, Int.not_le] at c_182
              try have u_182t1 := (T_sub (rfl : (y).toInt = (y).toInt) (show (41 : Int32).toInt = 41 from rfl) (by omega))
              refine gz_iload dX12_same_185 rfl ?_
              refine gz_iload dX12_same_187 rfl ?_
              refine gz_icmp_le (tgt := 196) dX12_same_189 (by decide) (fun c_189 => ?_) (fun c_189 => ?_)
              ·
                try simp only [mIn_0, lgc_lt, lgc_gt, lgc_le, lgc_ge, lgc_eq] at c_189
                try simp only [fl_lt, fl_le, fl_eq, fL_w, fL_lt, fL_le, tm1, tm10k, tm9, tm99, Int32.reduceToInt, Int64.reduceToInt, Int.not_lt, Int.not_le] at c_189
                refine gz_iconst (v := 0) dX12_same_196 (by decide) ?_
                refine gz_istore (lv' := [(8, .int 0), (7, .int y), (6, .int xq), (5, .int kk), (4, .int bs), (3, .int sd), (0, .ref m), (1, .int x1), (2, .int x2)]) dX12_same_197 (by decide) rfl ?_
                refine gz_iload dX12_same_199 rfl ?_
                refine gz_if_eq (tgt := 242) dX12_same_201 (by decide) (fun c_201 => ?_) (fun c_201 => ?_)
                ·
                  try simp only [mIn_0, lgc_lt, lgc_gt, lgc_le, lgc_ge, lgc_eq] at c_201
                  try simp only [fl_lt, fl_le, fl_eq, fL_w, fL_lt, fL_le, tm1, tm10k, tm9, tm99, Int32.reduceToInt, Int64.reduceToInt, Int.not_lt, Int.not_le] at c_201
                  refine gz_iinc (v := (y + 1)) (lv' := [(7, .int (y + 1)), (8, .int 0), (6, .int xq), (5, .int kk), (4, .int bs), (3, .int sd), (0, .ref m), (1, .int x1), (2, .int x2)]) dX12_same_242 rfl rfl (by decide) rfl ?_
                  refine gz_goto (tgt := 109) dX12_same_245 (by decide) ?_
                  refine gz_sub (lv' := [(7, .int (y + 1)), (6, .int xq), (5, .int kk), (4, .int bs), (3, .int sd), (0, .ref m), (1, .int x1), (2, .int x2)]) (by simp [List.lookup]) ?_
                  exact ih (y + 1) _ _ _ _ _ hS hx (hR) (hN) (hfa) (hfb) ((by have q1_ := (T_add (rfl : (y).toInt = (y).toInt) (show (1 : Int32).toInt = 1 from rfl) (by omega)); omega))
                · exact absurd c_201 (by decide)
              ·
                try simp only [mIn_0, lgc_lt, lgc_gt, lgc_le, lgc_ge, lgc_eq] at c_189
                try simp only [fl_lt, fl_le, fl_eq, fL_w, fL_lt, fL_le, tm1, tm10k, tm9, tm99, Int32.reduceToInt, Int64.reduceToInt, Int.not_lt, Int.not_le] at c_189
                refine gz_iconst (v := 1) dX12_same_192 (by decide) ?_
                refine gz_goto (tgt := 197) dX12_same_193 (by decide) ?_
                refine gz_istore (lv' := [(8, .int 1), (7, .int y), (6, .int xq), (5, .int kk), (4, .int bs), (3, .int sd), (0, .ref m), (1, .int x1), (2, .int x2)]) dX12_same_197 (by decide) rfl ?_
                refine gz_iload dX12_same_199 rfl ?_
                refine gz_if_eq (tgt := 242) dX12_same_201 (by decide) (fun c_201 => ?_) (fun c_201 => ?_)
                · exact absurd c_201 (by decide)
                ·
                  try simp only [mIn_0, lgc_lt, lgc_gt, lgc_le, lgc_ge, lgc_eq] at c_201
                  try simp only [fl_lt, fl_le, fl_eq, fL_w, fL_lt, fL_le, tm1, tm10k, tm9, tm99, Int32.reduceToInt, Int64.reduceToInt, Int.not_lt, Int.not_le] at c_201
                  refine gz_aload_n dX12_same_204 rfl rfl ?_
                  refine mg_228 hS dX12_same_205 ?_
                  refine gz_iload dX12_same_208 rfl ?_
                  refine m_iald 82 hS rfl (N := 82) rfl ((by exact vin_T (rfl : (y).toInt = (y).toInt) (by omega) (by omega))) dX12_same_210 ?_
                  refine gz_iload dX12_same_211 rfl ?_
                  refine gz_icmp_ne (tgt := 242) dX12_same_213 (by decide) (fun c_213 => ?_) (fun c_213 => ?_)
                  ·
                    try simp only [mIn_0, lgc_lt, lgc_gt, lgc_le, lgc_ge, lgc_eq] at c_213
                    try simp only [fl_lt, fl_le, fl_eq, fL_w, fL_lt, fL_le, tm1, tm10k, tm9, tm99, Int32.reduceToInt, Int64.reduceToInt, Int.not_lt, Int.not_le] at c_213
                    refine gz_iinc (v := (y + 1)) (lv' := [(7, .int (y + 1)), (8, .int 1), (6, .int xq), (5, .int kk), (4, .int bs), (3, .int sd), (0, .ref m), (1, .int x1), (2, .int x2)]) dX12_same_242 rfl rfl (by decide) rfl ?_
                    refine gz_goto (tgt := 109) dX12_same_245 (by decide) ?_
                    refine gz_sub (lv' := [(7, .int (y + 1)), (6, .int xq), (5, .int kk), (4, .int bs), (3, .int sd), (0, .ref m), (1, .int x1), (2, .int x2)]) (by simp [List.lookup]) ?_
                    exact ih (y + 1) _ _ _ _ _ hS hx (hR) (hN) (hfa) (hfb) ((by have q1_ := (T_add (rfl : (y).toInt = (y).toInt) (show (1 : Int32).toInt = 1 from rfl) (by omega)); omega))
                  ·
                    try simp only [mIn_0, lgc_lt, lgc_gt, lgc_le, lgc_ge, lgc_eq] at c_213
                    try simp only [fl_lt, fl_le, fl_eq, fL_w, fL_lt, fL_le, tm1, tm10k, tm9, tm99, Int32.reduceToInt, Int64.reduceToInt, Int.not_lt, Int.not_le] at c_213
                    refine gz_aload_n dX12_same_216 rfl rfl ?_
                    refine gz_iload dX12_same_217 rfl ?_
                    refine gz_iload dX12_same_219 rfl ?_
                    refine gz_iconst (v := 1) dX12_same_221 (by decide) ?_
                    refine scX12_520 (k_X12_areLike (x1 := xq) (x2 := y) (x3 := 1) hS bA hN (by omega) (by omega)) hS.1 ⟨(Nat.le_of_ble_eq_true rfl), (Nat.le_of_ble_eq_true rfl)⟩ ⟨(Nat.le_of_ble_eq_true rfl), (Nat.le_of_ble_eq_true rfl)⟩ rfl rfl (Nat.le_of_ble_eq_true rfl) dX12_same_222 ?_
                    rintro r_1 f9 ⟨hb_1, y9⟩; rw [y9]
                    refine gz_if_eq (tgt := 242) dX12_same_225 (by decide) (fun c_225 => ?_) (fun c_225 => ?_)
                    ·
                      try simp only [mIn_0, lgc_lt, lgc_gt, lgc_le, lgc_ge, lgc_eq] at c_225
                      try simp only [fl_lt, fl_le, fl_eq, fL_w, fL_lt, fL_le, tm1, tm10k, tm9, tm99, Int32.reduceToInt, Int64.reduceToInt, Int.not_lt, Int.not_le] at c_225
                      refine gz_iinc (v := (y + 1)) (lv' := [(7, .int (y + 1)), (8, .int 1), (6, .int xq), (5, .int kk), (4, .int bs), (3, .int sd), (0, .ref m), (1, .int x1), (2, .int x2)]) dX12_same_242 rfl rfl (by decide) rfl ?_
                      refine gz_goto (tgt := 109) dX12_same_245 (by decide) ?_
                      refine gz_sub (lv' := [(7, .int (y + 1)), (6, .int xq), (5, .int kk), (4, .int bs), (3, .int sd), (0, .ref m), (1, .int x1), (2, .int x2)]) (by simp [List.lookup]) ?_
                      exact ih (y + 1) _ _ _ _ _ hS hx (hR) (hN) (hfa) (hfb) ((by have q1_ := (T_add (rfl : (y).toInt = (y).toInt) (show (1 : Int32).toInt = 1 from rfl) (by omega)); omega))
                    ·
                      try simp only [mIn_0, lgc_lt, lgc_gt, lgc_le, lgc_ge, lgc_eq] at c_225
                      try simp only [fl_lt, fl_le, fl_eq, fL_w, fL_lt, fL_le, tm1, tm10k, tm9, tm99, Int32.reduceToInt, Int64.reduceToInt, Int.not_lt, Int.not_le] at c_225
                      refine gz_aload_n dX12_same_228 rfl rfl ?_
                      refine mg_225 hS dX12_same_229 ?_
                      refine gz_iload dX12_same_232 rfl ?_
                      refine gz_aload_n dX12_same_234 rfl rfl ?_
                      refine mg_225 hS dX12_same_235 ?_
                      refine gz_iload dX12_same_238 rfl ?_
                      refine m_iald 81 hS rfl (N := 82) rfl ((by exact vin_T (rfl : (y).toInt = (y).toInt) (by omega) (by omega))) dX12_same_240 ?_
                      refine m_iast 81 hS rfl (N := 82) rfl ((by exact vin_T (rfl : (xq).toInt = (xq).toInt) (by omega) (by omega))) dX12_same_241 (fun f_2 hS_2q => ?_)
                      have hS_2 : mS cy m a f0 n z (va_up F 81 (upd (F 81) (Int32.toNatClampNeg xq) ((F 81) (Int32.toNatClampNeg y)))) G f_2 := hS_2q
                      refine gz_iinc (v := (y + 1)) (lv' := [(7, .int (y + 1)), (8, .int 1), (6, .int xq), (5, .int kk), (4, .int bs), (3, .int sd), (0, .ref m), (1, .int x1), (2, .int x2)]) dX12_same_242 rfl rfl (by decide) rfl ?_
                      refine gz_goto (tgt := 109) dX12_same_245 (by decide) ?_
                      refine gz_sub (lv' := [(7, .int (y + 1)), (6, .int xq), (5, .int kk), (4, .int bs), (3, .int sd), (0, .ref m), (1, .int x1), (2, .int x2)]) (by simp [List.lookup]) ?_
                      have qy := NR_at hN (x := y) (by omega)
                      have hxx : fx [] [] [81] [] n z F G n z (va_up F 81 (upd (F 81) (Int32.toNatClampNeg xq) ((F 81) (Int32.toNatClampNeg y)))) G := (fx_F fx_rf (by decide))
                      have hN9 : NR (va_up F 81 (upd (F 81) (Int32.toNatClampNeg xq) ((F 81) (Int32.toNatClampNeg y)))) := NR_up hN 81 (fun k hk hne => up_out (K := [81]) (fun _ _ => rfl) (by decide) k (by simp only [List.mem_cons, List.not_mem_nil, or_false]; exact hne)) rfl (Or.inl qy.2.2.2.1) (by decide)
                      have hR9 := RI_fx hR hxx (by decide) (by decide)
                      exact ih (y + 1) _ _ _ _ _ hS_2 (fx_F hx (by decide)) (hR9) (hN9) (hfa) (hfb) ((by have q1_ := (T_add (rfl : (y).toInt = (y).toInt) (show (1 : Int32).toInt = 1 from rfl) (by omega)); omega))
        ·
          try simp only [mIn_0, lgc_lt, lgc_gt, lgc_le, lgc_ge, lgc_eq] at c_132
          try simp only [fl_lt, fl_le, fl_eq, fL_w, fL_lt, fL_le, tm1, tm10k, tm9, tm99, Int32.reduceToInt, Int64.reduceToInt, Int.not_lt, Int.not_le] at c_132
          refine gz_iload dX12_same_135 rfl ?_
          refine gz_aload_n dX12_same_137 rfl rfl ?_
          refine mg_17 hS dX12_same_138 ?_
          refine gz_iload_n dX12_same_141 rfl rfl ?_
          refine m_iald 6 hS rfl (N := 22) rfl ((by exact vin_T (rfl : (x1).toInt = (x1).toInt) (by omega) (by omega))) dX12_same_142 ?_
          refine gz_icmp_ge (tgt := 162) dX12_same_143 (by decide) (fun c_143 => ?_) (fun c_143 => ?_)
          ·
            try simp only [mIn_0, lgc_lt, lgc_gt, lgc_le, lgc_ge, lgc_eq] at c_143
            try simp only [fl_lt, fl_le, fl_eq, fL_w, fL_lt, fL_le, tm1, tm10k, tm9, tm99, Int32.reduceToInt, Int64.reduceToInt, Int.not_lt, Int.not_le] at c_143
            refine gz_iconst (v := 0) dX12_same_162 (by decide) ?_
            refine gz_goto (tgt := 197) dX12_same_163 (by decide) ?_
            refine gz_istore (lv' := [(8, .int 0), (7, .int y), (6, .int xq), (5, .int kk), (4, .int bs), (3, .int sd), (0, .ref m), (1, .int x1), (2, .int x2)]) dX12_same_197 (by decide) rfl ?_
            refine gz_iload dX12_same_199 rfl ?_
            refine gz_if_eq (tgt := 242) dX12_same_201 (by decide) (fun c_201 => ?_) (fun c_201 => ?_)
            ·
              try simp only [mIn_0, lgc_lt, lgc_gt, lgc_le, lgc_ge, lgc_eq] at c_201
              try simp only [fl_lt, fl_le, fl_eq, fL_w, fL_lt, fL_le, tm1, tm10k, tm9, tm99, Int32.reduceToInt, Int64.reduceToInt, Int.not_lt, Int.not_le] at c_201
              refine gz_iinc (v := (y + 1)) (lv' := [(7, .int (y + 1)), (8, .int 0), (6, .int xq), (5, .int kk), (4, .int bs), (3, .int sd), (0, .ref m), (1, .int x1), (2, .int x2)]) dX12_same_242 rfl rfl (by decide) rfl ?_
              refine gz_goto (tgt := 109) dX12_same_245 (by decide) ?_
              refine gz_sub (lv' := [(7, .int (y + 1)), (6, .int xq), (5, .int kk), (4, .int bs), (3, .int sd), (0, .ref m), (1, .int x1), (2, .int x2)]) (by simp [List.lookup]) ?_
              exact ih (y + 1) _ _ _ _ _ hS hx (hR) (hN) (hfa) (hfb) ((by have q1_ := (T_add (rfl : (y).toInt = (y).toInt) (show (1 : Int32).toInt = 1 from rfl) (by omega)); omega))
            · exact absurd c_201 (by decide)
          ·
            try simp only [mIn_0, lgc_lt, lgc_gt, lgc_le, lgc_ge, lgc_eq] at c_143
            try simp only [fl_lt, fl_le, fl_eq, fL_w, fL_lt, fL_le, tm1, tm10k, tm9, tm99, Int32.reduceToInt, Int64.reduceToInt, Int.not_lt, Int.not_le] at c_143
            refine gz_iload_n dX12_same_146 rfl rfl ?_
            refine gz_iconst (v := 1) dX12_same_147 (by decide) ?_
            refine gz_icmp_eq (tgt := 158) dX12_same_148 (by decide) (fun c_148 => ?_) (fun c_148 => ?_)
            ·
              try simp only [mIn_0, lgc_lt, lgc_gt, lgc_le, lgc_ge, lgc_eq] at c_148
              try simp only [fl_lt, fl_le, fl_eq, fL_w, fL_lt, fL_le, tm1, tm10k, tm9, tm99, Int32.reduceToInt, Int64.reduceToInt, Int.not_lt, Int.not_le] at c_148
              refine gz_iconst (v := 1) dX12_same_158 (by decide) ?_
              refine gz_goto (tgt := 197) dX12_same_159 (by decide) ?_
              refine gz_istore (lv' := [(8, .int 1), (7, .int y), (6, .int xq), (5, .int kk), (4, .int bs), (3, .int sd), (0, .ref m), (1, .int x1), (2, .int x2)]) dX12_same_197 (by decide) rfl ?_
              refine gz_iload dX12_same_199 rfl ?_
              refine gz_if_eq (tgt := 242) dX12_same_201 (by decide) (fun c_201 => ?_) (fun c_201 => ?_)
              · exact absurd c_201 (by decide)
              ·
                try simp only [mIn_0, lgc_lt, lgc_gt, lgc_le, lgc_ge, lgc_eq] at c_201
                try simp only [fl_lt, fl_le, fl_eq, fL_w, fL_lt, fL_le, tm1, tm10k, tm9, tm99, Int32.reduceToInt, Int64.reduceToInt, Int.not_lt, Int.not_le] at c_201
                refine gz_aload_n dX12_same_204 rfl rfl ?_
                refine mg_228 hS dX12_same_205 ?_
                refine gz_iload dX12_same_208 rfl ?_
                refine m_iald 82 hS rfl (N := 82) rfl ((by exact vin_T (rfl : (y).toInt = (y).toInt) (by omega) (by omega))) dX12_same_210 ?_
                refine gz_iload dX12_same_211 rfl ?_
                refine gz_icmp_ne (tgt := 242) dX12_same_213 (by decide) (fun c_213 => ?_) (fun c_213 => ?_)
                ·
                  try simp only [mIn_0, lgc_lt, lgc_gt, lgc_le, lgc_ge, lgc_eq] at c_213
                  try simp only [fl_lt, fl_le, fl_eq, fL_w, fL_lt, fL_le, tm1, tm10k, tm9, tm99, Int32.reduceToInt, Int64.reduceToInt, Int.not_lt, Int.not_le] at c_213
                  refine gz_iinc (v := (y + 1)) (lv' := [(7, .int (y + 1)), (8, .int 1), (6, .int xq), (5, .int kk), (4, .int bs), (3, .int sd), (0, .ref m), (1, .int x1), (2, .int x2)]) dX12_same_242 rfl rfl (by decide) rfl ?_
                  refine gz_goto (tgt := 109) dX12_same_245 (by decide) ?_
                  refine gz_sub (lv' := [(7, .int (y + 1)), (6, .int xq), (5, .int kk), (4, .int bs), (3, .int sd), (0, .ref m), (1, .int x1), (2, .int x2)]) (by simp [List.lookup]) ?_
                  exact ih (y + 1) _ _ _ _ _ hS hx (hR) (hN) (hfa) (hfb) ((by have q1_ := (T_add (rfl : (y).toInt = (y).toInt) (show (1 : Int32).toInt = 1 from rfl) (by omega)); omega))
                ·
                  try simp only [mIn_0, lgc_lt, lgc_gt, lgc_le, lgc_ge, lgc_eq] at c_213
                  try simp only [fl_lt, fl_le, fl_eq, fL_w, fL_lt, fL_le, tm1, tm10k, tm9, tm99, Int32.reduceToInt, Int64.reduceToInt, Int.not_lt, Int.not_le] at c_213
                  refine gz_aload_n dX12_same_216 rfl rfl ?_
                  refine gz_iload dX12_same_217 rfl ?_
                  refine gz_iload dX12_same_219 rfl ?_
                  refine gz_iconst (v := 1) dX12_same_221 (by decide) ?_
                  refine scX12_520 (k_X12_areLike (x1 := xq) (x2 := y) (x3 := 1) hS bA hN (by omega) (by omega)) hS.1 ⟨(Nat.le_of_ble_eq_true rfl), (Nat.le_of_ble_eq_true rfl)⟩ ⟨(Nat.le_of_ble_eq_true rfl), (Nat.le_of_ble_eq_true rfl)⟩ rfl rfl (Nat.le_of_ble_eq_true rfl) dX12_same_222 ?_
                  rintro r_3 f9 ⟨hb_3, y9⟩; rw [y9]
                  refine gz_if_eq (tgt := 242) dX12_same_225 (by decide) (fun c_225 => ?_) (fun c_225 => ?_)
                  ·
                    try simp only [mIn_0, lgc_lt, lgc_gt, lgc_le, lgc_ge, lgc_eq] at c_225
                    try simp only [fl_lt, fl_le, fl_eq, fL_w, fL_lt, fL_le, tm1, tm10k, tm9, tm99, Int32.reduceToInt, Int64.reduceToInt, Int.not_lt, Int.not_le] at c_225
                    refine gz_iinc (v := (y + 1)) (lv' := [(7, .int (y + 1)), (8, .int 1), (6, .int xq), (5, .int kk), (4, .int bs), (3, .int sd), (0, .ref m), (1, .int x1), (2, .int x2)]) dX12_same_242 rfl rfl (by decide) rfl ?_
                    refine gz_goto (tgt := 109) dX12_same_245 (by decide) ?_
                    refine gz_sub (lv' := [(7, .int (y + 1)), (6, .int xq), (5, .int kk), (4, .int bs), (3, .int sd), (0, .ref m), (1, .int x1), (2, .int x2)]) (by simp [List.lookup]) ?_
                    exact ih (y + 1) _ _ _ _ _ hS hx (hR) (hN) (hfa) (hfb) ((by have q1_ := (T_add (rfl : (y).toInt = (y).toInt) (show (1 : Int32).toInt = 1 from rfl) (by omega)); omega))
                  ·
                    try simp only [mIn_0, lgc_lt, lgc_gt, lgc_le, lgc_ge, lgc_eq] at c_225
                    try simp only [fl_lt, fl_le, fl_eq, fL_w, fL_lt, fL_le, tm1, tm10k, tm9, tm99, Int32.reduceToInt, Int64.reduceToInt, Int.not_lt, Int.not_le] at c_225
                    refine gz_aload_n dX12_same_228 rfl rfl ?_
                    refine mg_225 hS dX12_same_229 ?_
                    refine gz_iload dX12_same_232 rfl ?_
                    refine gz_aload_n dX12_same_234 rfl rfl ?_
                    refine mg_225 hS dX12_same_235 ?_
                    refine gz_iload dX12_same_238 rfl ?_
                    refine m_iald 81 hS rfl (N := 82) rfl ((by exact vin_T (rfl : (y).toInt = (y).toInt) (by omega) (by omega))) dX12_same_240 ?_
                    refine m_iast 81 hS rfl (N := 82) rfl ((by exact vin_T (rfl : (xq).toInt = (xq).toInt) (by omega) (by omega))) dX12_same_241 (fun f_4 hS_4q => ?_)
                    have hS_4 : mS cy m a f0 n z (va_up F 81 (upd (F 81) (Int32.toNatClampNeg xq) ((F 81) (Int32.toNatClampNeg y)))) G f_4 := hS_4q
                    refine gz_iinc (v := (y + 1)) (lv' := [(7, .int (y + 1)), (8, .int 1), (6, .int xq), (5, .int kk), (4, .int bs), (3, .int sd), (0, .ref m), (1, .int x1), (2, .int x2)]) dX12_same_242 rfl rfl (by decide) rfl ?_
                    refine gz_goto (tgt := 109) dX12_same_245 (by decide) ?_
                    refine gz_sub (lv' := [(7, .int (y + 1)), (6, .int xq), (5, .int kk), (4, .int bs), (3, .int sd), (0, .ref m), (1, .int x1), (2, .int x2)]) (by simp [List.lookup]) ?_
                    have qy := NR_at hN (x := y) (by omega)
                    have hxx : fx [] [] [81] [] n z F G n z (va_up F 81 (upd (F 81) (Int32.toNatClampNeg xq) ((F 81) (Int32.toNatClampNeg y)))) G := (fx_F fx_rf (by decide))
                    have hN9 : NR (va_up F 81 (upd (F 81) (Int32.toNatClampNeg xq) ((F 81) (Int32.toNatClampNeg y)))) := NR_up hN 81 (fun k hk hne => up_out (K := [81]) (fun _ _ => rfl) (by decide) k (by simp only [List.mem_cons, List.not_mem_nil, or_false]; exact hne)) rfl (Or.inl qy.2.2.2.1) (by decide)
                    have hR9 := RI_fx hR hxx (by decide) (by decide)
                    exact ih (y + 1) _ _ _ _ _ hS_4 (fx_F hx (by decide)) (hR9) (hN9) (hfa) (hfb) ((by have q1_ := (T_add (rfl : (y).toInt = (y).toInt) (show (1 : Int32).toInt = 1 from rfl) (by omega)); omega))
            ·
              try simp only [mIn_0, lgc_lt, lgc_gt, lgc_le, lgc_ge, lgc_eq] at c_148
              try simp only [fl_lt, fl_le, fl_eq, fL_w, fL_lt, fL_le, tm1, tm10k, tm9, tm99, Int32.reduceToInt, Int64.reduceToInt, Int.not_lt, Int.not_le] at c_148
              refine gz_iload dX12_same_151 rfl ?_
              refine gz_iload dX12_same_153 rfl ?_
              refine gz_icmp_le (tgt := 162) dX12_same_155 (by decide) (fun c_155 => ?_) (fun c_155 => ?_)
              ·
                try simp only [mIn_0, lgc_lt, lgc_gt, lgc_le, lgc_ge, lgc_eq] at c_155
                try simp only [fl_lt, fl_le, fl_eq, fL_w, fL_lt, fL_le, tm1, tm10k, tm9, tm99, Int32.reduceToInt, Int64.reduceToInt, Int.not_lt, Int.not_le] at c_155
                refine gz_iconst (v := 0) dX12_same_162 (by decide) ?_
                refine gz_goto (tgt := 197) dX12_same_163 (by decide) ?_
                refine gz_istore (lv' := [(8, .int 0), (7, .int y), (6, .int xq), (5, .int kk), (4, .int bs), (3, .int sd), (0, .ref m), (1, .int x1), (2, .int x2)]) dX12_same_197 (by decide) rfl ?_
                refine gz_iload dX12_same_199 rfl ?_
                refine gz_if_eq (tgt := 242) dX12_same_201 (by decide) (fun c_201 => ?_) (fun c_201 => ?_)
                ·
                  try simp only [mIn_0, lgc_lt, lgc_gt, lgc_le, lgc_ge, lgc_eq] at c_201
                  try simp only [fl_lt, fl_le, fl_eq, fL_w, fL_lt, fL_le, tm1, tm10k, tm9, tm99, Int32.reduceToInt, Int64.reduceToInt, Int.not_lt, Int.not_le] at c_201
                  refine gz_iinc (v := (y + 1)) (lv' := [(7, .int (y + 1)), (8, .int 0), (6, .int xq), (5, .int kk), (4, .int bs), (3, .int sd), (0, .ref m), (1, .int x1), (2, .int x2)]) dX12_same_242 rfl rfl (by decide) rfl ?_
                  refine gz_goto (tgt := 109) dX12_same_245 (by decide) ?_
                  refine gz_sub (lv' := [(7, .int (y + 1)), (6, .int xq), (5, .int kk), (4, .int bs), (3, .int sd), (0, .ref m), (1, .int x1), (2, .int x2)]) (by simp [List.lookup]) ?_
                  exact ih (y + 1) _ _ _ _ _ hS hx (hR) (hN) (hfa) (hfb) ((by have q1_ := (T_add (rfl : (y).toInt = (y).toInt) (show (1 : Int32).toInt = 1 from rfl) (by omega)); omega))
                · exact absurd c_201 (by decide)
              ·
                try simp only [mIn_0, lgc_lt, lgc_gt, lgc_le, lgc_ge, lgc_eq] at c_155
                try simp only [fl_lt, fl_le, fl_eq, fL_w, fL_lt, fL_le, tm1, tm10k, tm9, tm99, Int32.reduceToInt, Int64.reduceToInt, Int.not_lt, Int.not_le] at c_155
                refine gz_iconst (v := 1) dX12_same_158 (by decide) ?_
                refine gz_goto (tgt := 197) dX12_same_159 (by decide) ?_
                refine gz_istore (lv' := [(8, .int 1), (7, .int y), (6, .int xq), (5, .int kk), (4, .int bs), (3, .int sd), (0, .ref m), (1, .int x1), (2, .int x2)]) dX12_same_197 (by decide) rfl ?_
                refine gz_iload dX12_same_199 rfl ?_
                refine gz_if_eq (tgt := 242) dX12_same_201 (by decide) (fun c_201 => ?_) (fun c_201 => ?_)
                · exact absurd c_201 (by decide)
                ·
                  try simp only [mIn_0, lgc_lt, lgc_gt, lgc_le, lgc_ge, lgc_eq] at c_201
                  try simp only [fl_lt, fl_le, fl_eq, fL_w, fL_lt, fL_le, tm1, tm10k, tm9, tm99, Int32.reduceToInt, Int64.reduceToInt, Int.not_lt, Int.not_le] at c_201
                  refine gz_aload_n dX12_same_204 rfl rfl ?_
                  refine mg_228 hS dX12_same_205 ?_
                  refine gz_iload dX12_same_208 rfl ?_
                  refine m_iald 82 hS rfl (N := 82) rfl ((by exact vin_T (rfl : (y).toInt = (y).toInt) (by omega) (by omega))) dX12_same_210 ?_
                  refine gz_iload dX12_same_211 rfl ?_
                  refine gz_icmp_ne (tgt := 242) dX12_same_213 (by decide) (fun c_213 => ?_) (fun c_213 => ?_)
                  ·
                    try simp only [mIn_0, lgc_lt, lgc_gt, lgc_le, lgc_ge, lgc_eq] at c_213
                    try simp only [fl_lt, fl_le, fl_eq, fL_w, fL_lt, fL_le, tm1, tm10k, tm9, tm99, Int32.reduceToInt, Int64.reduceToInt, Int.not_lt, Int.not_le] at c_213
                    refine gz_iinc (v := (y + 1)) (lv' := [(7, .int (y + 1)), (8, .int 1), (6, .int xq), (5, .int kk), (4, .int bs), (3, .int sd), (0, .ref m), (1, .int x1), (2, .int x2)]) dX12_same_242 rfl rfl (by decide) rfl ?_
                    refine gz_goto (tgt := 109) dX12_same_245 (by decide) ?_
                    refine gz_sub (lv' := [(7, .int (y + 1)), (6, .int xq), (5, .int kk), (4, .int bs), (3, .int sd), (0, .ref m), (1, .int x1), (2, .int x2)]) (by simp [List.lookup]) ?_
                    exact ih (y + 1) _ _ _ _ _ hS hx (hR) (hN) (hfa) (hfb) ((by have q1_ := (T_add (rfl : (y).toInt = (y).toInt) (show (1 : Int32).toInt = 1 from rfl) (by omega)); omega))
                  ·
                    try simp only [mIn_0, lgc_lt, lgc_gt, lgc_le, lgc_ge, lgc_eq] at c_213
                    try simp only [fl_lt, fl_le, fl_eq, fL_w, fL_lt, fL_le, tm1, tm10k, tm9, tm99, Int32.reduceToInt, Int64.reduceToInt, Int.not_lt, Int.not_le] at c_213
                    refine gz_aload_n dX12_same_216 rfl rfl ?_
                    refine gz_iload dX12_same_217 rfl ?_
                    refine gz_iload dX12_same_219 rfl ?_
                    refine gz_iconst (v := 1) dX12_same_221 (by decide) ?_
                    refine scX12_520 (k_X12_areLike (x1 := xq) (x2 := y) (x3 := 1) hS bA hN (by omega) (by omega)) hS.1 ⟨(Nat.le_of_ble_eq_true rfl), (Nat.le_of_ble_eq_true rfl)⟩ ⟨(Nat.le_of_ble_eq_true rfl), (Nat.le_of_ble_eq_true rfl)⟩ rfl rfl (Nat.le_of_ble_eq_true rfl) dX12_same_222 ?_
                    rintro r_5 f9 ⟨hb_5, y9⟩; rw [y9]
                    refine gz_if_eq (tgt := 242) dX12_same_225 (by decide) (fun c_225 => ?_) (fun c_225 => ?_)
                    ·
                      try simp only [mIn_0, lgc_lt, lgc_gt, lgc_le, lgc_ge, lgc_eq] at c_225
                      try simp only [fl_lt, fl_le, fl_eq, fL_w, fL_lt, fL_le, tm1, tm10k, tm9, tm99, Int32.reduceToInt, Int64.reduceToInt, Int.not_lt, Int.not_le] at c_225
                      refine gz_iinc (v := (y + 1)) (lv' := [(7, .int (y + 1)), (8, .int 1), (6, .int xq), (5, .int kk), (4, .int bs), (3, .int sd), (0, .ref m), (1, .int x1), (2, .int x2)]) dX12_same_242 rfl rfl (by decide) rfl ?_
                      refine gz_goto (tgt := 109) dX12_same_245 (by decide) ?_
                      refine gz_sub (lv' := [(7, .int (y + 1)), (6, .int xq), (5, .int kk), (4, .int bs), (3, .int sd), (0, .ref m), (1, .int x1), (2, .int x2)]) (by simp [List.lookup]) ?_
                      exact ih (y + 1) _ _ _ _ _ hS hx (hR) (hN) (hfa) (hfb) ((by have q1_ := (T_add (rfl : (y).toInt = (y).toInt) (show (1 : Int32).toInt = 1 from rfl) (by omega)); omega))
                    ·
                      try simp only [mIn_0, lgc_lt, lgc_gt, lgc_le, lgc_ge, lgc_eq] at c_225
                      try simp only [fl_lt, fl_le, fl_eq, fL_w, fL_lt, fL_le, tm1, tm10k, tm9, tm99, Int32.reduceToInt, Int64.reduceToInt, Int.not_lt, Int.not_le] at c_225
                      refine gz_aload_n dX12_same_228 rfl rfl ?_
                      refine mg_225 hS dX12_same_229 ?_
                      refine gz_iload dX12_same_232 rfl ?_
                      refine gz_aload_n dX12_same_234 rfl rfl ?_
                      refine mg_225 hS dX12_same_235 ?_
                      refine gz_iload dX12_same_238 rfl ?_
                      refine m_iald 81 hS rfl (N := 82) rfl ((by exact vin_T (rfl : (y).toInt = (y).toInt) (by omega) (by omega))) dX12_same_240 ?_
                      refine m_iast 81 hS rfl (N := 82) rfl ((by exact vin_T (rfl : (xq).toInt = (xq).toInt) (by omega) (by omega))) dX12_same_241 (fun f_6 hS_6q => ?_)
                      have hS_6 : mS cy m a f0 n z (va_up F 81 (upd (F 81) (Int32.toNatClampNeg xq) ((F 81) (Int32.toNatClampNeg y)))) G f_6 := hS_6q
                      refine gz_iinc (v := (y + 1)) (lv' := [(7, .int (y + 1)), (8, .int 1), (6, .int xq), (5, .int kk), (4, .int bs), (3, .int sd), (0, .ref m), (1, .int x1), (2, .int x2)]) dX12_same_242 rfl rfl (by decide) rfl ?_
                      refine gz_goto (tgt := 109) dX12_same_245 (by decide) ?_
                      refine gz_sub (lv' := [(7, .int (y + 1)), (6, .int xq), (5, .int kk), (4, .int bs), (3, .int sd), (0, .ref m), (1, .int x1), (2, .int x2)]) (by simp [List.lookup]) ?_
                      have qy := NR_at hN (x := y) (by omega)
                      have hxx : fx [] [] [81] [] n z F G n z (va_up F 81 (upd (F 81) (Int32.toNatClampNeg xq) ((F 81) (Int32.toNatClampNeg y)))) G := (fx_F fx_rf (by decide))
                      have hN9 : NR (va_up F 81 (upd (F 81) (Int32.toNatClampNeg xq) ((F 81) (Int32.toNatClampNeg y)))) := NR_up hN 81 (fun k hk hne => up_out (K := [81]) (fun _ _ => rfl) (by decide) k (by simp only [List.mem_cons, List.not_mem_nil, or_false]; exact hne)) rfl (Or.inl qy.2.2.2.1) (by decide)
                      have hR9 := RI_fx hR hxx (by decide) (by decide)
                      exact ih (y + 1) _ _ _ _ _ hS_6 (fx_F hx (by decide)) (hR9) (hN9) (hfa) (hfb) ((by have q1_ := (T_add (rfl : (y).toInt = (y).toInt) (show (1 : Int32).toInt = 1 from rfl) (by omega)); omega))

set_option maxHeartbeats 4000000 in
set_option maxRecDepth 100000 in
theorem l_X12_same2 {l : Launch} {D : va_G} {cy : Nat → ClassId} {b : Nat} {m : Nat} {a : Nat → Nat} {f0 : gMem} {n0 : Nat → Int32} {z0 : Nat → Int64} {F0 : Nat → Nat → Int32} {G0 : Nat → Nat → Int64}  {x1 x2 : Int32} {sd bs : Int32} (hbs : bs.toInt = 0 ∨ bs.toInt = 41) (hq : ∀  (n : Nat → Int32) (z : Nat → Int64) (F : Nat → Nat → Int32) (G : Nat → Nat → Int64) (fm : gMem), mS cy m a f0 n z F G fm → fx [] [] [76, 77, 78, 79, 80, 81, 82] [] n0 z0 F0 G0 n z F G → (RI n F) → (NR F) → (0 ≤ x1.toInt ∧ x1.toInt < (n 5).toInt) → (0 ≤ x2.toInt ∧ x2.toInt < (n 5).toInt) → gG l (gRm 4 0 0) (gQf D b (pI fun r f2 => ∃ (n2 : Nat → Int32) (z2 : Nat → Int64) (F2 : Nat → Nat → Int32) (G2 : Nat → Nat → Int64), mS cy m a f0 n2 z2 F2 G2 f2 ∧ fx [] [] [76, 77, 78, 79, 80, 81, 82] [] n0 z0 F0 G0 n2 z2 F2 G2 ∧ RI n2 F2 ∧ NR F2) 0 0) gTt D cy b cX12_same 9 (some .int) RX12 "same" 0 0 fm 254 [(3, .int sd), (0, .ref m), (1, .int x1), (2, .int x2)] []) : ∀ (k : Nat) (kk : Int32) (n : Nat → Int32) (z : Nat → Int64) (F : Nat → Nat → Int32) (G : Nat → Nat → Int64) (fm : gMem), mS cy m a f0 n z F G fm → fx [] [] [76, 77, 78, 79, 80, 81, 82] [] n0 z0 F0 G0 n z F G → (RI n F) → (NR F) → (0 ≤ x1.toInt ∧ x1.toInt < (n 5).toInt) → (0 ≤ x2.toInt ∧ x2.toInt < (n 5).toInt) → (-1 ≤ kk.toInt ∧ kk.toInt ≤ 39 ∧ kk.toInt + 2 ≤ (k : Int)) → gG l (gRm 4 0 0) (gQf D b (pI fun r f2 => ∃ (n2 : Nat → Int32) (z2 : Nat → Int64) (F2 : Nat → Nat → Int32) (G2 : Nat → Nat → Int64), mS cy m a f0 n2 z2 F2 G2 f2 ∧ fx [] [] [76, 77, 78, 79, 80, 81, 82] [] n0 z0 F0 G0 n2 z2 F2 G2 ∧ RI n2 F2 ∧ NR F2) 0 0) gTt D cy b cX12_same 9 (some .int) RX12 "same" 0 0 fm 70 [(5, .int kk), (4, .int bs), (3, .int sd), (0, .ref m), (1, .int x1), (2, .int x2)] [] := by
  intro k
  induction k with
  | zero =>
    intro kk n z F G fm hS hx hR hN hfa hfb hk
    exfalso; omega
  | succ k ih =>
    intro kk n z F G fm hS hx hR hN hfa hfb hk
    refine gz_iload dX12_same_70 rfl ?_
    refine gz_if_lt (tgt := 254) dX12_same_72 (by decide) (fun c_72 => ?_) (fun c_72 => ?_)
    ·
      try simp only [mIn_0, lgc_lt, lgc_gt, lgc_le, lgc_ge, lgc_eq] at c_72
      try simp only [fl_lt, fl_le, fl_eq, fL_w, fL_lt, fL_le, tm1, tm10k, tm9, tm99, Int32.reduceToInt, Int64.reduceToInt, Int.not_lt, Int.not_le] at c_72
      refine gz_sub (lv' := [(3, .int sd), (0, .ref m), (1, .int x1), (2, .int x2)]) (by simp [List.lookup]) ?_
      exact hq  _ _ _ _ _ hS hx (hR) (hN) (hfa) (hfb)
    ·
      try simp only [mIn_0, lgc_lt, lgc_gt, lgc_le, lgc_ge, lgc_eq] at c_72
      try simp only [fl_lt, fl_le, fl_eq, fL_w, fL_lt, fL_le, tm1, tm10k, tm9, tm99, Int32.reduceToInt, Int64.reduceToInt, Int.not_lt, Int.not_le] at c_72
      refine gz_iload dX12_same_75 rfl ?_
      refine gz_iload dX12_same_77 rfl ?_
      refine gz_iadd dX12_same_79 ?_
      obtain ⟨xq, hxq_⟩ : ∃ v_, v_ = (bs + kk) := ⟨_, rfl⟩
      refine gz_ev (w := .int xq) (congrArg Value.int hxq_.symm) ?_
      have hxq : 0 ≤ xq.toInt ∧ xq.toInt ≤ 81 := by rw [hxq_]; have q := (T_add (rfl : (bs).toInt = (bs).toInt) (rfl : (kk).toInt = (kk).toInt) (by omega)); omega
      refine gz_istore (lv' := [(6, .int xq), (5, .int kk), (4, .int bs), (3, .int sd), (0, .ref m), (1, .int x1), (2, .int x2)]) dX12_same_80 (by decide) rfl ?_
      refine gz_aload_n dX12_same_82 rfl rfl ?_
      refine mg_228 hS dX12_same_83 ?_
      refine gz_iload dX12_same_86 rfl ?_
      refine m_iald 82 hS rfl (N := 82) rfl ((by exact vin_T (rfl : xq.toInt = xq.toInt) (by omega) (by omega))) dX12_same_88 ?_
      refine gz_iload dX12_same_89 rfl ?_
      refine gz_icmp_eq (tgt := 97) dX12_same_91 (by decide) (fun c_91 => ?_) (fun c_91 => ?_)
      ·
        try simp only [mIn_0, lgc_lt, lgc_gt, lgc_le, lgc_ge, lgc_eq] at c_91
        try simp only [fl_lt, fl_le, fl_eq, fL_w, fL_lt, fL_le, tm1, tm10k, tm9, tm99, Int32.reduceToInt, Int64.reduceToInt, Int.not_lt, Int.not_le] at c_91
        refine gz_aload_n dX12_same_97 rfl rfl ?_
        refine mg_225 hS dX12_same_98 ?_
        refine gz_iload dX12_same_101 rfl ?_
        refine gz_iload dX12_same_103 rfl ?_
        refine m_iast 81 hS rfl (N := 82) rfl ((by exact vin_T (rfl : xq.toInt = xq.toInt) (by omega) (by omega))) dX12_same_105 (fun f_1 hS_1q => ?_)
        have hS_1 : mS cy m a f0 n z (va_up F 81 (upd (F 81) (Int32.toNatClampNeg xq) xq)) G f_1 := hS_1q
        refine gz_iconst (v := 0) dX12_same_106 (by decide) ?_
        refine gz_istore (lv' := [(7, .int 0), (6, .int xq), (5, .int kk), (4, .int bs), (3, .int sd), (0, .ref m), (1, .int x1), (2, .int x2)]) dX12_same_107 (by decide) rfl ?_
        have hxx : fx [] [] [81] [] n z F G n z (va_up F 81 (upd (F 81) (Int32.toNatClampNeg xq) xq)) G := (fx_F fx_rf (by decide))
        have hN9 : NR (va_up F 81 (upd (F 81) (Int32.toNatClampNeg xq) xq)) := NR_up hN 81 (fun k hk hne => up_out (K := [81]) (fun _ _ => rfl) (by decide) k (by simp only [List.mem_cons, List.not_mem_nil, or_false]; exact hne)) rfl (Or.inl (by omega)) (by decide)
        have hR9 := RI_fx hR hxx (by decide) (by decide)
        refine gz_sub (lv' := [(7, .int 0), (6, .int xq), (5, .int kk), (4, .int bs), (3, .int sd), (0, .ref m), (1, .int x1), (2, .int x2)]) (by simp [List.lookup]) ?_
        refine l_X12_same3 (sd := sd) (bs := bs) (kk := kk) hxq ?_ 83 0 _ _ _ _ _ hS_1 (fx_F hx (by decide)) hR9 hN9 hfa hfb (by decide)
        clear hS hx hR hN hfa hfb
        intro n z F G fm hS hx hR hN hfa hfb
        refine gz_iinc (v := (kk + (-1))) (lv' := [(5, .int (kk + (-1))), (4, .int bs), (3, .int sd), (0, .ref m), (1, .int x1), (2, .int x2)]) dX12_same_248 rfl (congrArg (fun z => kk + z) oi_m1) (by decide) rfl ?_
        refine gz_goto (tgt := 70) dX12_same_251 (by decide) ?_
        refine gz_sub (lv' := [(5, .int (kk + (-1))), (4, .int bs), (3, .int sd), (0, .ref m), (1, .int x1), (2, .int x2)]) (by simp [List.lookup]) ?_
        have hdc : (kk + (-1)).toInt = kk.toInt - 1 := T_dec (by omega) (by omega)
        generalize kk + (-1) = k2 at hdc ⊢
        exact ih k2 _ _ _ _ _ hS hx (hR) (hN) (hfa) (hfb) (by omega)
      ·
        try simp only [mIn_0, lgc_lt, lgc_gt, lgc_le, lgc_ge, lgc_eq] at c_91
        try simp only [fl_lt, fl_le, fl_eq, fL_w, fL_lt, fL_le, tm1, tm10k, tm9, tm99, Int32.reduceToInt, Int64.reduceToInt, Int.not_lt, Int.not_le] at c_91
        refine gz_goto (tgt := 248) dX12_same_94 (by decide) ?_
        refine gz_iinc (v := (kk + (-1))) (lv' := [(5, .int (kk + (-1))), (6, .int xq), (4, .int bs), (3, .int sd), (0, .ref m), (1, .int x1), (2, .int x2)]) dX12_same_248 rfl (congrArg (fun z => kk + z) oi_m1) (by decide) rfl ?_
        refine gz_goto (tgt := 70) dX12_same_251 (by decide) ?_
        refine gz_sub (lv' := [(5, .int (kk + (-1))), (4, .int bs), (3, .int sd), (0, .ref m), (1, .int x1), (2, .int x2)]) (by simp [List.lookup]) ?_
        have hdc : (kk + (-1)).toInt = kk.toInt - 1 := T_dec (by omega) (by omega)
        generalize kk + (-1) = k2 at hdc ⊢
        exact ih k2 _ _ _ _ _ hS hx (hR) (hN) (hfa) (hfb) (by omega)

set_option maxHeartbeats 4000000 in
set_option maxRecDepth 100000 in
theorem l_X12_same1 {l : Launch} {D : va_G} {cy : Nat → ClassId} {b : Nat} {m : Nat} {a : Nat → Nat} {f0 : gMem} {n0 : Nat → Int32} {z0 : Nat → Int64} {F0 : Nat → Nat → Int32} {G0 : Nat → Nat → Int64}  {x1 x2 : Int32}  : ∀ (k : Nat) (sd : Int32) (n : Nat → Int32) (z : Nat → Int64) (F : Nat → Nat → Int32) (G : Nat → Nat → Int64) (fm : gMem), mS cy m a f0 n z F G fm → fx [] [] [76, 77, 78, 79, 80, 81, 82] [] n0 z0 F0 G0 n z F G → (RI n F) → (NR F) → (0 ≤ x1.toInt ∧ x1.toInt < (n 5).toInt) → (0 ≤ x2.toInt ∧ x2.toInt < (n 5).toInt) → (0 ≤ sd.toInt ∧ sd.toInt ≤ 2 ∧ sd.toInt + (k : Int) = 3) → gG l (gRm 4 0 0) (gQf D b (pI fun r f2 => ∃ (n2 : Nat → Int32) (z2 : Nat → Int64) (F2 : Nat → Nat → Int32) (G2 : Nat → Nat → Int64), mS cy m a f0 n2 z2 F2 G2 f2 ∧ fx [] [] [76, 77, 78, 79, 80, 81, 82] [] n0 z0 F0 G0 n2 z2 F2 G2 ∧ RI n2 F2 ∧ NR F2) 0 0) gTt D cy b cX12_same 9 (some .int) RX12 "same" 0 0 fm 41 [(3, .int sd), (0, .ref m), (1, .int x1), (2, .int x2)] [] := by
  intro k
  induction k with
  | zero =>
    intro sd n z F G fm hS hx hR hN hfa hfb hk
    exfalso; omega
  | succ k ih =>
    intro sd n z F G fm hS hx hR hN hfa hfb hk
    obtain ⟨a0, a4, a5, bA, bW, a30, bL, a38, bP, a53, a47, a88⟩ := id hR
    refine gz_iload_n dX12_same_41 rfl rfl ?_
    refine gz_iconst (v := 2) dX12_same_42 (by decide) ?_
    refine gz_icmp_ge (tgt := 260) dX12_same_43 (by decide) (fun c_43 => ?_) (fun c_43 => ?_)
    ·
      try simp only [mIn_0, lgc_lt, lgc_gt, lgc_le, lgc_ge, lgc_eq] at c_43
      try simp only [fl_lt, fl_le, fl_eq, fL_w, fL_lt, fL_le, tm1, tm10k, tm9, tm99, Int32.reduceToInt, Int64.reduceToInt, Int.not_lt, Int.not_le] at c_43
      refine gz_aload_n dX12_same_260 rfl rfl ?_
      refine mg_225 hS dX12_same_261 ?_
      refine gz_aload_n dX12_same_264 rfl rfl ?_
      refine mg_228 hS dX12_same_265 ?_
      refine gz_iconst (v := 0) dX12_same_268 (by decide) ?_
      refine m_iald 82 hS rfl (N := 82) rfl (vin_T (v := 0) rfl (by decide) (by decide)) dX12_same_269 ?_
      refine m_iald 81 hS rfl (N := 82) rfl ((by have q9 := NR_at hN (x := 0) (by decide); exact vin_T (rfl : ((F 82) (Int32.toNatClampNeg 0)).toInt = ((F 82) (Int32.toNatClampNeg 0)).toInt) (by omega) (by omega))) dX12_same_270 ?_
      refine gz_aload_n dX12_same_271 rfl rfl ?_
      refine mg_225 hS dX12_same_272 ?_
      refine gz_aload_n dX12_same_275 rfl rfl ?_
      refine mg_228 hS dX12_same_276 ?_
      refine gz_bipush (v := 41) dX12_same_279 (by decide) ?_
      refine m_iald 82 hS rfl (N := 82) rfl (vin_T (v := 41) rfl (by decide) (by decide)) dX12_same_281 ?_
      refine m_iald 81 hS rfl (N := 82) rfl ((by have q9 := NR_at hN (x := 41) (by decide); exact vin_T (rfl : ((F 82) (Int32.toNatClampNeg 41)).toInt = ((F 82) (Int32.toNatClampNeg 41)).toInt) (by omega) (by omega))) dX12_same_282 ?_
      refine gz_icmp_ne (tgt := 290) dX12_same_283 (by decide) (fun c_283 => ?_) (fun c_283 => ?_)
      ·
        try simp only [mIn_0, lgc_lt, lgc_gt, lgc_le, lgc_ge, lgc_eq] at c_283
        try simp only [fl_lt, fl_le, fl_eq, fL_w, fL_lt, fL_le, tm1, tm10k, tm9, tm99, Int32.reduceToInt, Int64.reduceToInt, Int.not_lt, Int.not_le] at c_283
        refine gz_iconst (v := 0) dX12_same_290 (by decide) ?_
        exact gz_iret rfl dX12_same_291 (Nat.le_of_ble_eq_true rfl) (Nat.le_of_ble_eq_true rfl) (⟨_, rfl, _, _, _, _, hS, hx, hR, hN⟩)
      ·
        try simp only [mIn_0, lgc_lt, lgc_gt, lgc_le, lgc_ge, lgc_eq] at c_283
        try simp only [fl_lt, fl_le, fl_eq, fL_w, fL_lt, fL_le, tm1, tm10k, tm9, tm99, Int32.reduceToInt, Int64.reduceToInt, Int.not_lt, Int.not_le] at c_283
        refine gz_iconst (v := 1) dX12_same_286 (by decide) ?_
        refine gz_goto (tgt := 291) dX12_same_287 (by decide) ?_
        exact gz_iret rfl dX12_same_291 (Nat.le_of_ble_eq_true rfl) (Nat.le_of_ble_eq_true rfl) (⟨_, rfl, _, _, _, _, hS, hx, hR, hN⟩)
    ·
      try simp only [mIn_0, lgc_lt, lgc_gt, lgc_le, lgc_ge, lgc_eq] at c_43
      try simp only [fl_lt, fl_le, fl_eq, fL_w, fL_lt, fL_le, tm1, tm10k, tm9, tm99, Int32.reduceToInt, Int64.reduceToInt, Int.not_lt, Int.not_le] at c_43
      refine gz_bipush (v := 41) dX12_same_46 (by decide) ?_
      refine gz_iload_n dX12_same_48 rfl rfl ?_
      refine gz_imul dX12_same_49 ?_
      obtain ⟨bs, hbs_⟩ : ∃ v_, v_ = (41 * sd) := ⟨_, rfl⟩
      refine gz_ev (w := .int bs) (congrArg Value.int hbs_.symm) ?_
      have hbs : bs.toInt = 0 ∨ bs.toInt = 41 := by rw [hbs_]; have q := (T_mul (show (41 : Int32).toInt = 41 from rfl) (rfl : (sd).toInt = (sd).toInt) (by omega)); omega
      refine gz_istore (lv' := [(4, .int bs), (3, .int sd), (0, .ref m), (1, .int x1), (2, .int x2)]) dX12_same_50 (by decide) rfl ?_
      refine gz_aload_n dX12_same_52 rfl rfl ?_
      refine mg_17 hS dX12_same_53 ?_
      refine gz_iload_n dX12_same_56 rfl rfl ?_
      refine gz_if_ne (tgt := 64) dX12_same_57 (by decide) (fun c_57 => ?_) (fun c_57 => ?_)
      ·
        try simp only [mIn_0, lgc_lt, lgc_gt, lgc_le, lgc_ge, lgc_eq] at c_57
        try simp only [fl_lt, fl_le, fl_eq, fL_w, fL_lt, fL_le, tm1, tm10k, tm9, tm99, Int32.reduceToInt, Int64.reduceToInt, Int.not_lt, Int.not_le] at c_57
        refine gz_iload_n dX12_same_64 rfl rfl ?_
        refine m_iald 6 hS rfl (N := 22) rfl ((by exact vin_T (rfl : (x2).toInt = (x2).toInt) (by omega) (by omega))) dX12_same_65 ?_
        refine gz_iconst (v := 1) dX12_same_66 (by decide) ?_
        refine gz_isub dX12_same_67 ?_
        refine gz_istore (lv' := [(5, .int (((F 6) (Int32.toNatClampNeg x2)) - 1)), (4, .int bs), (3, .int sd), (0, .ref m), (1, .int x1), (2, .int x2)]) dX12_same_68 (by decide) rfl ?_
        have qc := clI (i := x2) (by omega)
        have qW := (bW (Int32.toNatClampNeg x2) (by omega)).1
        have qk : (((F 6) (Int32.toNatClampNeg x2)) - 1).toInt = (F 6 (Int32.toNatClampNeg x2)).toInt - 1 := (T_sub (rfl : (((F 6) (Int32.toNatClampNeg x2))).toInt = (((F 6) (Int32.toNatClampNeg x2))).toInt) (show (1 : Int32).toInt = 1 from rfl) (by omega))
        refine gz_sub (lv' := [(5, .int (((F 6) (Int32.toNatClampNeg x2)) - 1)), (4, .int bs), (3, .int sd), (0, .ref m), (1, .int x1), (2, .int x2)]) (by simp [List.lookup]) ?_
        refine l_X12_same2 (sd := sd) hbs ?_ 41 (((F 6) (Int32.toNatClampNeg x2)) - 1) _ _ _ _ _ hS hx hR hN hfa hfb (by omega)
        clear qk qW
        clear hS hx hR hN hfa hfb a0 a4 a5 bA bW a30 bL a38 bP a53 a47 a88
        intro n z F G fm hS hx hR hN hfa hfb
        refine gz_iinc (v := (sd + 1)) (lv' := [(3, .int (sd + 1)), (0, .ref m), (1, .int x1), (2, .int x2)]) dX12_same_254 rfl rfl (by decide) rfl ?_
        refine gz_goto (tgt := 41) dX12_same_257 (by decide) ?_
        refine gz_sub (lv' := [(3, .int (sd + 1)), (0, .ref m), (1, .int x1), (2, .int x2)]) (by simp [List.lookup]) ?_
        exact ih (sd + 1) _ _ _ _ _ hS hx (hR) (hN) (hfa) (hfb) ((by have q1_ := (T_add (rfl : (sd).toInt = (sd).toInt) (show (1 : Int32).toInt = 1 from rfl) (by omega)); omega))
      ·
        try simp only [mIn_0, lgc_lt, lgc_gt, lgc_le, lgc_ge, lgc_eq] at c_57
        try simp only [fl_lt, fl_le, fl_eq, fL_w, fL_lt, fL_le, tm1, tm10k, tm9, tm99, Int32.reduceToInt, Int64.reduceToInt, Int.not_lt, Int.not_le] at c_57
        refine gz_iload_n dX12_same_60 rfl rfl ?_
        refine gz_goto (tgt := 65) dX12_same_61 (by decide) ?_
        refine m_iald 6 hS rfl (N := 22) rfl ((by exact vin_T (rfl : (x1).toInt = (x1).toInt) (by omega) (by omega))) dX12_same_65 ?_
        refine gz_iconst (v := 1) dX12_same_66 (by decide) ?_
        refine gz_isub dX12_same_67 ?_
        refine gz_istore (lv' := [(5, .int (((F 6) (Int32.toNatClampNeg x1)) - 1)), (4, .int bs), (3, .int sd), (0, .ref m), (1, .int x1), (2, .int x2)]) dX12_same_68 (by decide) rfl ?_
        have qc := clI (i := x1) (by omega)
        have qW := (bW (Int32.toNatClampNeg x1) (by omega)).1
        have qk : (((F 6) (Int32.toNatClampNeg x1)) - 1).toInt = (F 6 (Int32.toNatClampNeg x1)).toInt - 1 := (T_sub (rfl : (((F 6) (Int32.toNatClampNeg x1))).toInt = (((F 6) (Int32.toNatClampNeg x1))).toInt) (show (1 : Int32).toInt = 1 from rfl) (by omega))
        refine gz_sub (lv' := [(5, .int (((F 6) (Int32.toNatClampNeg x1)) - 1)), (4, .int bs), (3, .int sd), (0, .ref m), (1, .int x1), (2, .int x2)]) (by simp [List.lookup]) ?_
        refine l_X12_same2 (sd := sd) hbs ?_ 41 (((F 6) (Int32.toNatClampNeg x1)) - 1) _ _ _ _ _ hS hx hR hN hfa hfb (by omega)
        clear qk qW
        clear hS hx hR hN hfa hfb a0 a4 a5 bA bW a30 bL a38 bP a53 a47 a88
        intro n z F G fm hS hx hR hN hfa hfb
        refine gz_iinc (v := (sd + 1)) (lv' := [(3, .int (sd + 1)), (0, .ref m), (1, .int x1), (2, .int x2)]) dX12_same_254 rfl rfl (by decide) rfl ?_
        refine gz_goto (tgt := 41) dX12_same_257 (by decide) ?_
        refine gz_sub (lv' := [(3, .int (sd + 1)), (0, .ref m), (1, .int x1), (2, .int x2)]) (by simp [List.lookup]) ?_
        exact ih (sd + 1) _ _ _ _ _ hS hx (hR) (hN) (hfa) (hfb) ((by have q1_ := (T_add (rfl : (sd).toInt = (sd).toInt) (show (1 : Int32).toInt = 1 from rfl) (by omega)); omega))

set_option maxHeartbeats 4000000 in
set_option maxRecDepth 100000 in
theorem k_X12_same {l : Launch} {D : va_G} {cy : Nat → ClassId} {b : Nat} {f : gMem} {m : Nat} {a : Nat → Nat} {f0 : gMem} {n : Nat → Int32} {z : Nat → Int64} {F : Nat → Nat → Int32} {G : Nat → Nat → Int64}  {x1 x2 : Int32} (hS : mS cy m a f0 n z F G f) (hR : RI n F) (hN : NR F) : gC l D cy b yX12_same cX12_same 9 (some .int) 4 0 0 [.ref m, .int x1, .int x2] f (pI fun r f2 => ∃ (n2 : Nat → Int32) (z2 : Nat → Int64) (F2 : Nat → Nat → Int32) (G2 : Nat → Nat → Int64), mS cy m a f0 n2 z2 F2 G2 f2 ∧ fx [] [] [76, 77, 78, 79, 80, 81, 82] [] n z F G n2 z2 F2 G2 ∧ RI n2 F2 ∧ NR F2) := by
  obtain ⟨a0, a4, a5, bA, bW, a30, bL, a38, bP, a53, a47, a88⟩ := id hR
  refine gC_of (by decide) (Nat.le_of_ble_eq_true rfl) ?_
  show gG l _ _ _ D cy b cX12_same 9 _ RX12 "same" 0 0 f 0 [(0, .ref m), (1, .int x1), (2, .int x2)] []
  refine gz_aload_n dX12_same_0 rfl rfl ?_
  refine gz_iload_n dX12_same_1 rfl rfl ?_
  refine scX12_337 (k_X12_isForm (x1 := x1) hS ) hS.1 ⟨(Nat.le_of_ble_eq_true rfl), (Nat.le_of_ble_eq_true rfl)⟩ ⟨(Nat.le_of_ble_eq_true rfl), (Nat.le_of_ble_eq_true rfl)⟩ rfl rfl (Nat.le_of_ble_eq_true rfl) dX12_same_2 ?_
  rintro r_1 f9 ⟨hb_1, y9⟩; rw [y9]
  try rw [(show n 5 = (n 5) from rfl)] at hb_1
  have hbb_1 : r_1 = 0 ∨ r_1 = 1 := hb_1.imp_right And.left
  simp only [fl_eq, Int32.reduceToInt] at hb_1
  refine gz_if_eq (tgt := 16) dX12_same_5 (by decide) (fun c_5 => ?_) (fun c_5 => ?_)
  ·
    try simp only [mIn_0, lgc_lt, lgc_gt, lgc_le, lgc_ge, lgc_eq] at c_5
    try simp only [fl_lt, fl_le, fl_eq, fL_w, fL_lt, fL_le, tm1, tm10k, tm9, tm99, Int32.reduceToInt, Int64.reduceToInt, Int.not_lt, Int.not_le] at c_5
    refine gz_iconst (v := (-1)) dX12_same_16 (by decide) ?_
    exact gz_iret rfl dX12_same_17 (Nat.le_of_ble_eq_true rfl) (Nat.le_of_ble_eq_true rfl) (⟨_, rfl, _, _, _, _, hS, fx_rf, hR, hN⟩)
  ·
    try simp only [mIn_0, lgc_lt, lgc_gt, lgc_le, lgc_ge, lgc_eq] at c_5
    try simp only [fl_lt, fl_le, fl_eq, fL_w, fL_lt, fL_le, tm1, tm10k, tm9, tm99, Int32.reduceToInt, Int64.reduceToInt, Int.not_lt, Int.not_le] at c_5
    refine gz_aload_n dX12_same_8 rfl rfl ?_
    refine gz_iload_n dX12_same_9 rfl rfl ?_
    refine scX12_337 (k_X12_isForm (x1 := x2) hS ) hS.1 ⟨(Nat.le_of_ble_eq_true rfl), (Nat.le_of_ble_eq_true rfl)⟩ ⟨(Nat.le_of_ble_eq_true rfl), (Nat.le_of_ble_eq_true rfl)⟩ rfl rfl (Nat.le_of_ble_eq_true rfl) dX12_same_10 ?_
    rintro r_2 f9 ⟨hb_2, y9⟩; rw [y9]
    try rw [(show n 5 = (n 5) from rfl)] at hb_2
    have hbb_2 : r_2 = 0 ∨ r_2 = 1 := hb_2.imp_right And.left
    simp only [fl_eq, Int32.reduceToInt] at hb_2
    refine gz_if_ne (tgt := 18) dX12_same_13 (by decide) (fun c_13 => ?_) (fun c_13 => ?_)
    ·
      try simp only [mIn_0, lgc_lt, lgc_gt, lgc_le, lgc_ge, lgc_eq] at c_13
      try simp only [fl_lt, fl_le, fl_eq, fL_w, fL_lt, fL_le, tm1, tm10k, tm9, tm99, Int32.reduceToInt, Int64.reduceToInt, Int.not_lt, Int.not_le] at c_13
      refine gz_aload_n dX12_same_18 rfl rfl ?_
      refine gz_iload_n dX12_same_19 rfl rfl ?_
      refine gz_iconst (v := 0) dX12_same_20 (by decide) ?_
      refine scX12_535 (k_X12_shortens (x1 := x1) (x2 := 0) hS hR hN (by omega) (by decide)) hS.1 ⟨(Nat.le_of_ble_eq_true rfl), (Nat.le_of_ble_eq_true rfl)⟩ ⟨(Nat.le_of_ble_eq_true rfl), (Nat.le_of_ble_eq_true rfl)⟩ rfl rfl (Nat.le_of_ble_eq_true rfl) dX12_same_21 ?_
      rintro f_3 ⟨n_3, z_3, F_3, G_3, hS_3, hx3, hN_3, hP_3⟩
      have hR_3 := RI_fx hR hx3 (by decide) (by decide)
      refine gz_aload_n dX12_same_24 rfl rfl ?_
      refine gz_iload_n dX12_same_25 rfl rfl ?_
      refine gz_iconst (v := 1) dX12_same_26 (by decide) ?_
      refine scX12_535 (k_X12_shortens (x1 := x2) (x2 := 1) hS_3 hR_3 hN_3 (by rw [(show n_3 5 = (n 5) from (hx3.1 5 (by decide)))]; omega) (by decide)) hS_3.1 ⟨(Nat.le_of_ble_eq_true rfl), (Nat.le_of_ble_eq_true rfl)⟩ ⟨(Nat.le_of_ble_eq_true rfl), (Nat.le_of_ble_eq_true rfl)⟩ rfl rfl (Nat.le_of_ble_eq_true rfl) dX12_same_27 ?_
      rintro f_4 ⟨n_4, z_4, F_4, G_4, hS_4, hx4, hN_4, hP_4⟩
      have hR_4 := RI_fx hR_3 hx4 (by decide) (by decide)
      refine gz_aload_n dX12_same_30 rfl rfl ?_
      refine mg_225 hS_4 dX12_same_31 ?_
      refine gz_bipush (v := 81) dX12_same_34 (by decide) ?_
      refine gz_bipush (v := 40) dX12_same_36 (by decide) ?_
      refine m_iast 81 hS_4 rfl (N := 82) rfl (vin_T (v := 81) rfl (by decide) (by decide)) dX12_same_38 (fun f_5 hS_5q => ?_)
      have hS_5 : mS cy m a f0 n_4 z_4 (va_up F_4 81 (upd (F_4 81) (Int32.toNatClampNeg 81) 40)) G_4 f_5 := hS_5q
      refine gz_iconst (v := 0) dX12_same_39 (by decide) ?_
      refine gz_istore_n (lv' := [(3, .int 0), (0, .ref m), (1, .int x1), (2, .int x2)]) dX12_same_40 rfl (by decide) rfl ?_
      have hxx : fx [] [] [76, 77, 78, 79, 80, 81, 82] [] n z F G n_4 z_4 (va_up F_4 81 (upd (F_4 81) (Int32.toNatClampNeg 81) 40)) G_4 := (fx_F (fx_tr (fx_tr fx_rf hx3 (by decide)) hx4 (by decide)) (by decide))
      have hN9 : NR (va_up F_4 81 (upd (F_4 81) (Int32.toNatClampNeg 81) 40)) := NR_up hN_4 81 (fun k hk hne => up_out (K := [81]) (fun _ _ => rfl) (by decide) k (by simp only [List.mem_cons, List.not_mem_nil, or_false]; exact hne)) (i := Int32.toNatClampNeg 81) (v := 40) rfl (Or.inl (by decide)) (by decide)
      have e5 : n_4 5 = n 5 := hxx.1 5 (by decide)
      refine gz_sub (lv' := [(3, .int 0), (0, .ref m), (1, .int x1), (2, .int x2)]) (by simp [List.lookup]) ?_
      exact l_X12_same1 3 0 _ _ _ _ _ hS_5 hxx (RI_fx hR hxx (by decide) (by decide)) hN9 (by rw [e5]; omega) (by rw [e5]; omega) (by decide)
    ·
      try simp only [mIn_0, lgc_lt, lgc_gt, lgc_le, lgc_ge, lgc_eq] at c_13
      try simp only [fl_lt, fl_le, fl_eq, fL_w, fL_lt, fL_le, tm1, tm10k, tm9, tm99, Int32.reduceToInt, Int64.reduceToInt, Int.not_lt, Int.not_le] at c_13
      refine gz_iconst (v := (-1)) dX12_same_16 (by decide) ?_
      exact gz_iret rfl dX12_same_17 (Nat.le_of_ble_eq_true rfl) (Nat.le_of_ble_eq_true rfl) (⟨_, rfl, _, _, _, _, hS, fx_rf, hR, hN⟩)
