set_option maxHeartbeats 4000000 in
set_option maxRecDepth 100000 in
theorem l_X12_shortensE {l : Launch} {D : va_G} {cy : Nat → ClassId} {b : Nat} {m : Nat} {a : Nat → Nat} {f0 : gMem} {n0 : Nat → Int32} {z0 : Nat → Int64} {F0 : Nat → Nat → Int32} {G0 : Nat → Nat → Int64}  {x1 x2 bs nb : Int32} {fo Wn bn : Nat} {T : List Hd} (hb : bs.toInt = (bn : Int) ∧ (bn = 0 ∨ bn = 41) ∧ nb.toInt = (bn : Int) + 40) (hf : x1.toInt = (fo : Int) ∧ fo < 20) (hX0 : LX F0 fo T) (hT4 : T.length ≤ 40 ∧ Wn = T.length) : ∀ (k : Nat) (kk : Int32) (pp : Nat) (n : Nat → Int32) (z : Nat → Int64) (F : Nat → Nat → Int32) (G : Nat → Nat → Int64) (fm : gMem), mS cy m a f0 n z F G fm → fx [] [] [76, 77, 78, 79, 80, 81, 82] [] n0 z0 F0 G0 n z F G → (RI n F) → ((fo : Int) < (n 5).toInt) → (NR F) → ((F 6 fo).toInt = (Wn : Int)) → (outS F0 F bn) → (SHp F fo Wn bn (kk.toInt)) → (∃ (H : Nat → Hd) (fi se : Nat → Nat), shE F fo bn T H fi se pp) → (kk.toInt + 1 = (pp : Int)) → (-1 ≤ kk.toInt ∧ kk.toInt < (Wn : Int) ∧ Wn ≤ 40 ∧ kk.toInt + 2 ≤ (k : Int)) → gG l (gRm 3 0 0) (gQf D b (pV fun f2 => ∃ (n2 : Nat → Int32) (z2 : Nat → Int64) (F2 : Nat → Nat → Int32) (G2 : Nat → Nat → Int64), mS cy m a f0 n2 z2 F2 G2 f2 ∧ fx [] [] [76, 77, 78, 79, 80, 81, 82] [] n0 z0 F0 G0 n2 z2 F2 G2 ∧ NR F2 ∧ SHp F2 fo Wn bn (-1) ∧ outS F0 F2 bn ∧ ∃ (H : Nat → Hd) (fi se : Nat → Nat), shE F2 fo bn T H fi se 0) 0 0) gTt D cy b cX12_shortens 11 none RX12 "shortens" 0 0 fm 55 [(5, .int kk), (0, .ref m), (1, .int x1), (2, .int x2), (3, .int bs), (4, .int nb)] [] := by
  intro k
  induction k with
  | zero =>
    intro kk pp n z F G fm hS hx hR hfo hN hW6 hou hP hSH hpp hk
    exfalso; omega
  | succ k ih =>
    intro kk pp n z F G fm hS hx hR hfo hN hW6 hou hP hSH hpp hk
    obtain ⟨a0, a4, a5, bA, bW, a30, bL, a38, bP, a53, a47, a88⟩ := id hR
    have hX : LX F fo T := LX_cg (fun r h1 h2 => hx.2.2.1 r (fun h => by simp only [List.mem_cons, List.not_mem_nil, or_false] at h; omega)) hX0
    refine gz_iload dX12_shortens_55 rfl ?_
    refine gz_if_lt (tgt := 458) dX12_shortens_57 (by decide) (fun c_57 => ?_) (fun c_57 => ?_)
    ·
      try simp only [mIn_0, lgc_lt, lgc_gt, lgc_le, lgc_ge, lgc_eq] at c_57
      try simp only [fl_lt, fl_le, fl_eq, fL_w, fL_lt, fL_le, tm1, tm10k, tm9, tm99, Int32.reduceToInt, Int64.reduceToInt, Int.not_lt, Int.not_le] at c_57
      exact gz_vret rfl dX12_shortens_458 (Nat.le_of_ble_eq_true rfl) (Nat.le_of_ble_eq_true rfl) (⟨rfl, _, _, _, _, hS, hx, hN, (by rw [show (-1 : Int) = kk.toInt by omega]; exact hP), hou, (by rw [show (0 : Nat) = pp by omega]; exact hSH)⟩)
    ·
      try simp only [mIn_0, lgc_lt, lgc_gt, lgc_le, lgc_ge, lgc_eq] at c_57
      try simp only [fl_lt, fl_le, fl_eq, fL_w, fL_lt, fL_le, tm1, tm10k, tm9, tm99, Int32.reduceToInt, Int64.reduceToInt, Int.not_lt, Int.not_le] at c_57
      refine gz_bipush (v := 40) dX12_shortens_60 (by decide) ?_
      refine gz_iload_n dX12_shortens_62 rfl rfl ?_
      refine gz_imul dX12_shortens_63 ?_
      refine gz_iload dX12_shortens_64 rfl ?_
      refine gz_iadd dX12_shortens_66 ?_
      obtain ⟨wq, hwq⟩ : ∃ v_, v_ = ((40 * x1) + kk) := ⟨_, rfl⟩
      refine gz_ev (w := .int wq) (congrArg Value.int hwq.symm) ?_
      obtain ⟨kN, hkN⟩ : ∃ kN : Nat, kk.toInt = kN := ⟨kk.toInt.toNat, by omega⟩
      have qw : wq.toInt = 40 * (fo : Int) + kN := by rw [hwq]; have q := (T_add (T_mul (show (40 : Int32).toInt = 40 from rfl) (rfl : (x1).toInt = (x1).toInt) (by omega)) (rfl : (kk).toInt = (kk).toInt) (by omega)); omega
      have ecw : (Int32.toNatClampNeg wq) = 40 * fo + kN := by rw [clN]; omega
      have hkW : kN < (F 6 fo).toInt.toNat := by omega
      have qO := (bW fo hfo).2.1 kN hkW
      have qWn : (F 6 fo).toInt.toNat = Wn := by omega
      rw [qWn] at qO
      have qki : 0 ≤ (F 7 (Int32.toNatClampNeg wq)).toInt := by rw [ecw]; exact qO.1.1
      refine gz_istore (lv' := [(6, .int wq), (5, .int kk), (0, .ref m), (1, .int x1), (2, .int x2), (3, .int bs), (4, .int nb)]) dX12_shortens_67 (by decide) rfl ?_
      refine gz_iload_n dX12_shortens_69 rfl rfl ?_
      refine gz_iload dX12_shortens_70 rfl ?_
      refine gz_iadd dX12_shortens_72 ?_
      obtain ⟨xq, hxq⟩ : ∃ v_, v_ = (bs + kk) := ⟨_, rfl⟩
      refine gz_ev (w := .int xq) (congrArg Value.int hxq.symm) ?_
      have qx : xq.toInt = (bn : Int) + kN := by rw [hxq]; have q := (T_add (rfl : (bs).toInt = (bs).toInt) (rfl : (kk).toInt = (kk).toInt) (by omega)); omega
      have ecx : (Int32.toNatClampNeg xq) = bn + kN := by rw [clN]; omega
      refine gz_istore (lv' := [(7, .int xq), (6, .int wq), (5, .int kk), (0, .ref m), (1, .int x1), (2, .int x2), (3, .int bs), (4, .int nb)]) dX12_shortens_73 (by decide) rfl ?_
      refine gz_aload_n dX12_shortens_75 rfl rfl ?_
      refine mg_210 hS dX12_shortens_76 ?_
      refine gz_iload dX12_shortens_79 rfl ?_
      refine gz_aload_n dX12_shortens_81 rfl rfl ?_
      refine mg_20 hS dX12_shortens_82 ?_
      refine gz_iload dX12_shortens_85 rfl ?_
      refine m_iald 7 hS rfl (N := 880) rfl ((by exact vin_T (rfl : wq.toInt = wq.toInt) (by omega) (by omega))) dX12_shortens_87 ?_
      refine m_iast 76 hS rfl (N := 82) rfl ((by exact vin_T (rfl : xq.toInt = xq.toInt) (by omega) (by omega))) dX12_shortens_88 (fun f_1 hS_1q => ?_)
      have hS_1 : mS cy m a f0 n z (va_up F 76 (upd (F 76) (Int32.toNatClampNeg xq) ((F 7) (Int32.toNatClampNeg wq)))) G f_1 := hS_1q
      refine gz_aload_n dX12_shortens_89 rfl rfl ?_
      refine mg_213 hS_1 dX12_shortens_90 ?_
      refine gz_iload dX12_shortens_93 rfl ?_
      refine gz_aload_n dX12_shortens_95 rfl rfl ?_
      refine mg_23 hS_1 dX12_shortens_96 ?_
      refine gz_iload dX12_shortens_99 rfl ?_
      refine m_iald 8 hS_1 rfl (N := 880) rfl ((by exact vin_T (rfl : wq.toInt = wq.toInt) (by omega) (by omega))) dX12_shortens_101 ?_
      refine gz_ev (w := .int ((F 8) (Int32.toNatClampNeg wq))) rfl ?_
      refine m_iast 77 hS_1 rfl (N := 82) rfl ((by exact vin_T (rfl : xq.toInt = xq.toInt) (by omega) (by omega))) dX12_shortens_102 (fun f_2 hS_2q => ?_)
      have hS_2 : mS cy m a f0 n z (va_up (va_up F 76 (upd (F 76) (Int32.toNatClampNeg xq) ((F 7) (Int32.toNatClampNeg wq)))) 77 (upd (F 77) (Int32.toNatClampNeg xq) ((F 8) (Int32.toNatClampNeg wq)))) G f_2 := hS_2q
      refine gz_aload_n dX12_shortens_103 rfl rfl ?_
      refine mg_222 hS_2 dX12_shortens_104 ?_
      refine gz_iload dX12_shortens_107 rfl ?_
      refine gz_iload dX12_shortens_109 rfl ?_
      refine m_iast 80 hS_2 rfl (N := 82) rfl ((by exact vin_T (rfl : xq.toInt = xq.toInt) (by omega) (by omega))) dX12_shortens_111 (fun f_3 hS_3q => ?_)
      have hS_3 : mS cy m a f0 n z (va_up (va_up (va_up F 76 (upd (F 76) (Int32.toNatClampNeg xq) ((F 7) (Int32.toNatClampNeg wq)))) 77 (upd (F 77) (Int32.toNatClampNeg xq) ((F 8) (Int32.toNatClampNeg wq)))) 80 (upd (F 80) (Int32.toNatClampNeg xq) wq)) G f_3 := hS_3q
      refine gz_aload_n dX12_shortens_112 rfl rfl ?_
      refine mg_20 hS_3 dX12_shortens_113 ?_
      refine gz_iload dX12_shortens_116 rfl ?_
      refine m_iald 7 hS_3 rfl (N := 880) rfl ((by exact vin_T (rfl : wq.toInt = wq.toInt) (by omega) (by omega))) dX12_shortens_118 ?_
      refine gz_ev (w := .int ((F 7) (Int32.toNatClampNeg wq))) rfl ?_
      refine gz_if_eq (tgt := 133) dX12_shortens_119 (by decide) (fun c_119 => ?_) (fun c_119 => ?_)
      ·
        try simp only [mIn_0, lgc_lt, lgc_gt, lgc_le, lgc_ge, lgc_eq] at c_119
        try simp only [fl_lt, fl_le, fl_eq, fL_w, fL_lt, fL_le, tm1, tm10k, tm9, tm99, Int32.reduceToInt, Int64.reduceToInt, Int.not_lt, Int.not_le] at c_119
        refine gz_iconst (v := 1) dX12_shortens_133 (by decide) ?_
        refine gz_goto (tgt := 138) dX12_shortens_134 (by decide) ?_
        refine gz_istore (lv' := [(8, .int 1), (7, .int xq), (6, .int wq), (5, .int kk), (0, .ref m), (1, .int x1), (2, .int x2), (3, .int bs), (4, .int nb)]) dX12_shortens_138 (by decide) rfl ?_
        refine gz_aload_n dX12_shortens_140 rfl rfl ?_
        refine mg_20 hS_3 dX12_shortens_141 ?_
        refine gz_iload dX12_shortens_144 rfl ?_
        refine m_iald 7 hS_3 rfl (N := 880) rfl ((by exact vin_T (rfl : wq.toInt = wq.toInt) (by omega) (by omega))) dX12_shortens_146 ?_
        refine gz_ev (w := .int ((F 7) (Int32.toNatClampNeg wq))) rfl ?_
        refine gz_iconst (v := 3) dX12_shortens_147 (by decide) ?_
        refine gz_icmp_eq (tgt := 173) dX12_shortens_148 (by decide) (fun c_148 => ?_) (fun c_148 => ?_)
        ·
          try simp only [mIn_0, lgc_lt, lgc_gt, lgc_le, lgc_ge, lgc_eq] at c_148
          try simp only [fl_lt, fl_le, fl_eq, fL_w, fL_lt, fL_le, tm1, tm10k, tm9, tm99, Int32.reduceToInt, Int64.reduceToInt, Int.not_lt, Int.not_le] at c_148
          refine gz_iconst (v := 1) dX12_shortens_173 (by decide) ?_
          refine gz_goto (tgt := 178) dX12_shortens_174 (by decide) ?_
          refine gz_istore (lv' := [(9, .int 1), (8, .int 1), (7, .int xq), (6, .int wq), (5, .int kk), (0, .ref m), (1, .int x1), (2, .int x2), (3, .int bs), (4, .int nb)]) dX12_shortens_178 (by decide) rfl ?_
          exfalso; omega
        ·
          try simp only [mIn_0, lgc_lt, lgc_gt, lgc_le, lgc_ge, lgc_eq] at c_148
          try simp only [fl_lt, fl_le, fl_eq, fL_w, fL_lt, fL_le, tm1, tm10k, tm9, tm99, Int32.reduceToInt, Int64.reduceToInt, Int.not_lt, Int.not_le] at c_148
          refine gz_aload_n dX12_shortens_151 rfl rfl ?_
          refine mg_20 hS_3 dX12_shortens_152 ?_
          refine gz_iload dX12_shortens_155 rfl ?_
          refine m_iald 7 hS_3 rfl (N := 880) rfl ((by exact vin_T (rfl : wq.toInt = wq.toInt) (by omega) (by omega))) dX12_shortens_157 ?_
          refine gz_ev (w := .int ((F 7) (Int32.toNatClampNeg wq))) rfl ?_
          refine gz_iconst (v := 4) dX12_shortens_158 (by decide) ?_
          refine gz_icmp_eq (tgt := 173) dX12_shortens_159 (by decide) (fun c_159 => ?_) (fun c_159 => ?_)
          ·
            try simp only [mIn_0, lgc_lt, lgc_gt, lgc_le, lgc_ge, lgc_eq] at c_159
            try simp only [fl_lt, fl_le, fl_eq, fL_w, fL_lt, fL_le, tm1, tm10k, tm9, tm99, Int32.reduceToInt, Int64.reduceToInt, Int.not_lt, Int.not_le] at c_159
            refine gz_iconst (v := 1) dX12_shortens_173 (by decide) ?_
            refine gz_goto (tgt := 178) dX12_shortens_174 (by decide) ?_
            refine gz_istore (lv' := [(9, .int 1), (8, .int 1), (7, .int xq), (6, .int wq), (5, .int kk), (0, .ref m), (1, .int x1), (2, .int x2), (3, .int bs), (4, .int nb)]) dX12_shortens_178 (by decide) rfl ?_
            exfalso; omega
          ·
            try simp only [mIn_0, lgc_lt, lgc_gt, lgc_le, lgc_ge, lgc_eq] at c_159
            try simp only [fl_lt, fl_le, fl_eq, fL_w, fL_lt, fL_le, tm1, tm10k, tm9, tm99, Int32.reduceToInt, Int64.reduceToInt, Int.not_lt, Int.not_le] at c_159
            refine gz_aload_n dX12_shortens_162 rfl rfl ?_
            refine mg_20 hS_3 dX12_shortens_163 ?_
            refine gz_iload dX12_shortens_166 rfl ?_
            refine m_iald 7 hS_3 rfl (N := 880) rfl ((by exact vin_T (rfl : wq.toInt = wq.toInt) (by omega) (by omega))) dX12_shortens_168 ?_
            refine gz_ev (w := .int ((F 7) (Int32.toNatClampNeg wq))) rfl ?_
            refine gz_iconst (v := 5) dX12_shortens_169 (by decide) ?_
            refine gz_icmp_ne (tgt := 177) dX12_shortens_170 (by decide) (fun c_170 => ?_) (fun c_170 => ?_)
            ·
              try simp only [mIn_0, lgc_lt, lgc_gt, lgc_le, lgc_ge, lgc_eq] at c_170
              try simp only [fl_lt, fl_le, fl_eq, fL_w, fL_lt, fL_le, tm1, tm10k, tm9, tm99, Int32.reduceToInt, Int64.reduceToInt, Int.not_lt, Int.not_le] at c_170
              refine gz_iconst (v := 0) dX12_shortens_177 (by decide) ?_
              refine gz_istore (lv' := [(9, .int 0), (8, .int 1), (7, .int xq), (6, .int wq), (5, .int kk), (0, .ref m), (1, .int x1), (2, .int x2), (3, .int bs), (4, .int nb)]) dX12_shortens_178 (by decide) rfl ?_
              obtain ⟨F2, hF2⟩ : ∃ F2, F2 = (va_up (va_up (va_up F 76 (upd (F 76) (Int32.toNatClampNeg xq) ((F 7) (Int32.toNatClampNeg wq)))) 77 (upd (F 77) (Int32.toNatClampNeg xq) ((F 8) (Int32.toNatClampNeg wq)))) 80 (upd (F 80) (Int32.toNatClampNeg xq) wq)) := ⟨_, rfl⟩
              have hxx : fx [] [] [76, 77, 78, 79, 80, 81, 82] [] n z F G n z F2 G := by rw [hF2]; exact (fx_F (fx_F (fx_F fx_rf (by decide)) (by decide)) (by decide))
              have hxN : fx [] [] [76, 77, 78, 79, 80, 81, 82] [] n0 z0 F0 G0 n z F2 G := by rw [hF2]; exact (fx_F (fx_F (fx_F hx (by decide)) (by decide)) (by decide))
              have s76_ : F2 76 = (upd (F 76) (Int32.toNatClampNeg xq) ((F 7) (Int32.toNatClampNeg wq))) := by rw [hF2]; exact rfl
              have s77_ : F2 77 = (upd (F 77) (Int32.toNatClampNeg xq) ((F 8) (Int32.toNatClampNeg wq))) := by rw [hF2]; exact rfl
              have s78_ : F2 78 = (F 78) := by rw [hF2]; exact rfl
              have s79_ : F2 79 = (F 79) := by rw [hF2]; exact rfl
              have s80_ : F2 80 = (upd (F 80) (Int32.toNatClampNeg xq) wq) := by rw [hF2]; exact rfl
              have s81_ : F2 81 = (F 81) := by rw [hF2]; exact rfl
              have s82_ : F2 82 = (F 82) := by rw [hF2]; exact rfl
              have hS9 : mS cy m a f0 n z F2 G f_3 := by rw [hF2]; exact hS_3
              clear hF2
              have smW : ∀ r, r ∉ [76, 77, 78, 79, 80, 81, 82] → F2 r = F r := fun r hr => hxx.2.2.1 r hr
              have hW62 : (F2 6 fo).toInt = (Wn : Int) := by rw [smW 6 (by decide)]; exact hW6
              have hN2 : NR F2 := by
                intro q hq
                obtain ⟨q1, q2, q3, q4, q5⟩ := hN q hq
                rw [s78_, s79_, s80_, s81_, s82_]
                simp only [updE]
                refine ⟨?_, ?_, ?_, ?_, ?_⟩ <;> (repeat' split) <;> omega
              have hoff : ∀ r, r ∈ [76, 78, 79, 80, 82] → ∀ i, i ≠ bn + kN → F2 r i = F r i := by
                intro r hr i hi
                rw [← ecx] at hi
                simp only [List.mem_cons, List.not_mem_nil, or_false] at hr
                rcases hr with rfl | rfl | rfl | rfl | rfl
                · rw [s76_, updE, if_neg hi]
                · rw [s78_]
                · rw [s79_]
                · rw [s80_, updE, if_neg hi]
                · rw [s82_]
              have hP2 : SHp F2 fo Wn bn (kk.toInt) := by rw [hkN]; exact SHp_off (F := F) (smW 7 (by decide)) (smW 9 (by decide)) (smW 13 (by decide)) (smW 15 (by decide)) hoff (by omega) (by rw [← hkN]; exact hP)
              have h76 : F2 76 (Int32.toNatClampNeg xq) = F 7 (Int32.toNatClampNeg wq) := by rw [s76_, updE, if_pos rfl]
              have h80 : F2 80 (Int32.toNatClampNeg xq) = wq := by rw [s80_, updE, if_pos rfl]
              refine gz_sub (lv' := [(9, .int 0), (8, .int 1), (7, .int xq), (6, .int wq), (5, .int kk), (0, .ref m), (1, .int x1), (2, .int x2), (3, .int bs), (4, .int nb)]) (by simp [List.lookup]) ?_
              have hX2 : LX F2 fo T := LX_cg (fun r h1 h2 => smW r (fun h => by simp only [List.mem_cons, List.not_mem_nil, or_false] at h; omega)) hX
              have hwW : ∀ r, r ∈ [7, 8, 13, 14, 15, 16, 18, 19, 20] → F2 r = F r := fun r hr => smW r (fun h => by simp only [List.mem_cons, List.not_mem_nil, or_false] at h hr; omega)
              obtain ⟨H, fi, se, hE⟩ := hSH
              have hTl : T.length ≤ 40 ∧ kN < T.length ∧ Wn = T.length := ⟨hT4.1, by omega, hT4.2⟩
              have hE2 : shE F2 fo bn T H fi se (kN + 1) := shE_cg hwW (fun r hr i hi => by simp only [List.mem_cons, List.not_mem_nil, or_false] at hr; rcases hr with rfl | rfl | rfl | rfl | rfl | rfl | rfl; (exact hoff 76 (by decide) i (by omega)); (rw [s77_, ecx, updE, if_neg (by omega)]); (exact hoff 78 (by decide) i (by omega)); (exact hoff 79 (by decide) i (by omega)); (exact hoff 80 (by decide) i (by omega)); (exact congrFun s81_ i); (exact hoff 82 (by decide) i (by omega))) (by omega) (by rw [show kN + 1 = pp by omega]; exact hE)
              have h77 : F2 77 (Int32.toNatClampNeg xq) = F 8 (Int32.toNatClampNeg wq) := by rw [s77_, updE, if_pos rfl]
              have hou2 : outS F0 F2 bn := outS_st (k := kN) hou (fun r hr i hi => by simp only [List.mem_cons, List.not_mem_nil, or_false] at hr; rcases hr with rfl | rfl | rfl | rfl | rfl | rfl | rfl; (exact hoff 76 (by decide) i hi); (rw [s77_, ecx, updE, if_neg hi]); (exact hoff 78 (by decide) i hi); (exact hoff 79 (by decide) i hi); (exact hoff 80 (by decide) i hi); (exact congrFun s81_ i); (exact hoff 82 (by decide) i hi)) (by omega)
              refine l_X12_shortensAE (lf := 1) (pr := 0) (wq := wq) (xq := xq) (kN := kN) hb hf ⟨hkN, by omega, by omega⟩ qx hTl qw ?_ 1 _ _ _ _ _ hS9 hxN (RI_fx hR hxx (by decide) (by decide)) hfo hN2 hW62 hou2 hP2 hX2 hE2 (by rw [smW 8 (by decide)]; exact h77) (by rw [smW 7 (by decide)]; exact h76) h80 (by rw [smW 7 (by decide)]; exact (Or.inl ⟨rfl, (show (F 7 (Int32.toNatClampNeg wq)).toInt ≤ 1 by omega)⟩)) (by rw [smW 7 (by decide)]; exact (Or.inr ⟨rfl, (show ¬ (3 ≤ (F 7 (Int32.toNatClampNeg wq)).toInt ∧ (F 7 (Int32.toNatClampNeg wq)).toInt ≤ 5) by omega)⟩)) (by decide)
              clear hS
              intro n z F G fm hS hx hR hfo hN hW6 hou hP hSH
              refine gz_iinc (v := (kk + (-1))) (lv' := [(5, .int (kk + (-1))), (0, .ref m), (1, .int x1), (2, .int x2), (3, .int bs), (4, .int nb)]) dX12_shortens_452 rfl (congrArg (fun z => kk + z) oi_m1) (by decide) rfl ?_
              refine gz_goto (tgt := 55) dX12_shortens_455 (by decide) ?_
              refine gz_sub (lv' := [(5, .int (kk + (-1))), (0, .ref m), (1, .int x1), (2, .int x2), (3, .int bs), (4, .int nb)]) (by simp [List.lookup]) ?_
              have hdc : (kk + (-1)).toInt = kk.toInt - 1 := T_dec (by omega) (by omega)
              rw [← hdc] at hP
              generalize kk + (-1) = k2 at hdc hP ⊢
              exact ih k2 kk.toInt.toNat _ _ _ _ _ hS hx (hR) (hfo) (hN) (hW6) (hou) (hP) (hSH) (by omega) (by omega)
            ·
              try simp only [mIn_0, lgc_lt, lgc_gt, lgc_le, lgc_ge, lgc_eq] at c_170
              try simp only [fl_lt, fl_le, fl_eq, fL_w, fL_lt, fL_le, tm1, tm10k, tm9, tm99, Int32.reduceToInt, Int64.reduceToInt, Int.not_lt, Int.not_le] at c_170
              refine gz_iconst (v := 1) dX12_shortens_173 (by decide) ?_
              refine gz_goto (tgt := 178) dX12_shortens_174 (by decide) ?_
              refine gz_istore (lv' := [(9, .int 1), (8, .int 1), (7, .int xq), (6, .int wq), (5, .int kk), (0, .ref m), (1, .int x1), (2, .int x2), (3, .int bs), (4, .int nb)]) dX12_shortens_178 (by decide) rfl ?_
              exfalso; omega
      ·
        try simp only [mIn_0, lgc_lt, lgc_gt, lgc_le, lgc_ge, lgc_eq] at c_119
        try simp only [fl_lt, fl_le, fl_eq, fL_w, fL_lt, fL_le, tm1, tm10k, tm9, tm99, Int32.reduceToInt, Int64.reduceToInt, Int.not_lt, Int.not_le] at c_119
        refine gz_aload_n dX12_shortens_122 rfl rfl ?_
        refine mg_20 hS_3 dX12_shortens_123 ?_
        refine gz_iload dX12_shortens_126 rfl ?_
        refine m_iald 7 hS_3 rfl (N := 880) rfl ((by exact vin_T (rfl : wq.toInt = wq.toInt) (by omega) (by omega))) dX12_shortens_128 ?_
        refine gz_ev (w := .int ((F 7) (Int32.toNatClampNeg wq))) rfl ?_
        refine gz_iconst (v := 1) dX12_shortens_129 (by decide) ?_
        refine gz_icmp_ne (tgt := 137) dX12_shortens_130 (by decide) (fun c_130 => ?_) (fun c_130 => ?_)
        ·
          try simp only [mIn_0, lgc_lt, lgc_gt, lgc_le, lgc_ge, lgc_eq] at c_130
          try simp only [fl_lt, fl_le, fl_eq, fL_w, fL_lt, fL_le, tm1, tm10k, tm9, tm99, Int32.reduceToInt, Int64.reduceToInt, Int.not_lt, Int.not_le] at c_130
          refine gz_iconst (v := 0) dX12_shortens_137 (by decide) ?_
          refine gz_istore (lv' := [(8, .int 0), (7, .int xq), (6, .int wq), (5, .int kk), (0, .ref m), (1, .int x1), (2, .int x2), (3, .int bs), (4, .int nb)]) dX12_shortens_138 (by decide) rfl ?_
          refine gz_aload_n dX12_shortens_140 rfl rfl ?_
          refine mg_20 hS_3 dX12_shortens_141 ?_
          refine gz_iload dX12_shortens_144 rfl ?_
          refine m_iald 7 hS_3 rfl (N := 880) rfl ((by exact vin_T (rfl : wq.toInt = wq.toInt) (by omega) (by omega))) dX12_shortens_146 ?_
          refine gz_ev (w := .int ((F 7) (Int32.toNatClampNeg wq))) rfl ?_
          refine gz_iconst (v := 3) dX12_shortens_147 (by decide) ?_
          refine gz_icmp_eq (tgt := 173) dX12_shortens_148 (by decide) (fun c_148 => ?_) (fun c_148 => ?_)
          ·
            try simp only [mIn_0, lgc_lt, lgc_gt, lgc_le, lgc_ge, lgc_eq] at c_148
            try simp only [fl_lt, fl_le, fl_eq, fL_w, fL_lt, fL_le, tm1, tm10k, tm9, tm99, Int32.reduceToInt, Int64.reduceToInt, Int.not_lt, Int.not_le] at c_148
            refine gz_iconst (v := 1) dX12_shortens_173 (by decide) ?_
            refine gz_goto (tgt := 178) dX12_shortens_174 (by decide) ?_
            refine gz_istore (lv' := [(9, .int 1), (8, .int 0), (7, .int xq), (6, .int wq), (5, .int kk), (0, .ref m), (1, .int x1), (2, .int x2), (3, .int bs), (4, .int nb)]) dX12_shortens_178 (by decide) rfl ?_
            obtain ⟨F2, hF2⟩ : ∃ F2, F2 = (va_up (va_up (va_up F 76 (upd (F 76) (Int32.toNatClampNeg xq) ((F 7) (Int32.toNatClampNeg wq)))) 77 (upd (F 77) (Int32.toNatClampNeg xq) ((F 8) (Int32.toNatClampNeg wq)))) 80 (upd (F 80) (Int32.toNatClampNeg xq) wq)) := ⟨_, rfl⟩
            have hxx : fx [] [] [76, 77, 78, 79, 80, 81, 82] [] n z F G n z F2 G := by rw [hF2]; exact (fx_F (fx_F (fx_F fx_rf (by decide)) (by decide)) (by decide))
            have hxN : fx [] [] [76, 77, 78, 79, 80, 81, 82] [] n0 z0 F0 G0 n z F2 G := by rw [hF2]; exact (fx_F (fx_F (fx_F hx (by decide)) (by decide)) (by decide))
            have s76_ : F2 76 = (upd (F 76) (Int32.toNatClampNeg xq) ((F 7) (Int32.toNatClampNeg wq))) := by rw [hF2]; exact rfl
            have s77_ : F2 77 = (upd (F 77) (Int32.toNatClampNeg xq) ((F 8) (Int32.toNatClampNeg wq))) := by rw [hF2]; exact rfl
            have s78_ : F2 78 = (F 78) := by rw [hF2]; exact rfl
            have s79_ : F2 79 = (F 79) := by rw [hF2]; exact rfl
            have s80_ : F2 80 = (upd (F 80) (Int32.toNatClampNeg xq) wq) := by rw [hF2]; exact rfl
            have s81_ : F2 81 = (F 81) := by rw [hF2]; exact rfl
            have s82_ : F2 82 = (F 82) := by rw [hF2]; exact rfl
            have hS9 : mS cy m a f0 n z F2 G f_3 := by rw [hF2]; exact hS_3
            clear hF2
            have smW : ∀ r, r ∉ [76, 77, 78, 79, 80, 81, 82] → F2 r = F r := fun r hr => hxx.2.2.1 r hr
            have hW62 : (F2 6 fo).toInt = (Wn : Int) := by rw [smW 6 (by decide)]; exact hW6
            have hN2 : NR F2 := by
              intro q hq
              obtain ⟨q1, q2, q3, q4, q5⟩ := hN q hq
              rw [s78_, s79_, s80_, s81_, s82_]
              simp only [updE]
              refine ⟨?_, ?_, ?_, ?_, ?_⟩ <;> (repeat' split) <;> omega
            have hoff : ∀ r, r ∈ [76, 78, 79, 80, 82] → ∀ i, i ≠ bn + kN → F2 r i = F r i := by
              intro r hr i hi
              rw [← ecx] at hi
              simp only [List.mem_cons, List.not_mem_nil, or_false] at hr
              rcases hr with rfl | rfl | rfl | rfl | rfl
              · rw [s76_, updE, if_neg hi]
              · rw [s78_]
              · rw [s79_]
              · rw [s80_, updE, if_neg hi]
              · rw [s82_]
            have hP2 : SHp F2 fo Wn bn (kk.toInt) := by rw [hkN]; exact SHp_off (F := F) (smW 7 (by decide)) (smW 9 (by decide)) (smW 13 (by decide)) (smW 15 (by decide)) hoff (by omega) (by rw [← hkN]; exact hP)
            have h76 : F2 76 (Int32.toNatClampNeg xq) = F 7 (Int32.toNatClampNeg wq) := by rw [s76_, updE, if_pos rfl]
            have h80 : F2 80 (Int32.toNatClampNeg xq) = wq := by rw [s80_, updE, if_pos rfl]
            refine gz_sub (lv' := [(9, .int 1), (8, .int 0), (7, .int xq), (6, .int wq), (5, .int kk), (0, .ref m), (1, .int x1), (2, .int x2), (3, .int bs), (4, .int nb)]) (by simp [List.lookup]) ?_
            have hX2 : LX F2 fo T := LX_cg (fun r h1 h2 => smW r (fun h => by simp only [List.mem_cons, List.not_mem_nil, or_false] at h; omega)) hX
            have hwW : ∀ r, r ∈ [7, 8, 13, 14, 15, 16, 18, 19, 20] → F2 r = F r := fun r hr => smW r (fun h => by simp only [List.mem_cons, List.not_mem_nil, or_false] at h hr; omega)
            obtain ⟨H, fi, se, hE⟩ := hSH
            have hTl : T.length ≤ 40 ∧ kN < T.length ∧ Wn = T.length := ⟨hT4.1, by omega, hT4.2⟩
            have hE2 : shE F2 fo bn T H fi se (kN + 1) := shE_cg hwW (fun r hr i hi => by simp only [List.mem_cons, List.not_mem_nil, or_false] at hr; rcases hr with rfl | rfl | rfl | rfl | rfl | rfl | rfl; (exact hoff 76 (by decide) i (by omega)); (rw [s77_, ecx, updE, if_neg (by omega)]); (exact hoff 78 (by decide) i (by omega)); (exact hoff 79 (by decide) i (by omega)); (exact hoff 80 (by decide) i (by omega)); (exact congrFun s81_ i); (exact hoff 82 (by decide) i (by omega))) (by omega) (by rw [show kN + 1 = pp by omega]; exact hE)
            have h77 : F2 77 (Int32.toNatClampNeg xq) = F 8 (Int32.toNatClampNeg wq) := by rw [s77_, updE, if_pos rfl]
            have hou2 : outS F0 F2 bn := outS_st (k := kN) hou (fun r hr i hi => by simp only [List.mem_cons, List.not_mem_nil, or_false] at hr; rcases hr with rfl | rfl | rfl | rfl | rfl | rfl | rfl; (exact hoff 76 (by decide) i hi); (rw [s77_, ecx, updE, if_neg hi]); (exact hoff 78 (by decide) i hi); (exact hoff 79 (by decide) i hi); (exact hoff 80 (by decide) i hi); (exact congrFun s81_ i); (exact hoff 82 (by decide) i hi)) (by omega)
            refine l_X12_shortensAE (lf := 0) (pr := 1) (wq := wq) (xq := xq) (kN := kN) hb hf ⟨hkN, by omega, by omega⟩ qx hTl qw ?_ 1 _ _ _ _ _ hS9 hxN (RI_fx hR hxx (by decide) (by decide)) hfo hN2 hW62 hou2 hP2 hX2 hE2 (by rw [smW 8 (by decide)]; exact h77) (by rw [smW 7 (by decide)]; exact h76) h80 (by rw [smW 7 (by decide)]; exact (Or.inr ⟨rfl, (show 2 ≤ (F 7 (Int32.toNatClampNeg wq)).toInt by omega)⟩)) (by rw [smW 7 (by decide)]; exact (Or.inl ⟨rfl, (show 3 ≤ (F 7 (Int32.toNatClampNeg wq)).toInt ∧ (F 7 (Int32.toNatClampNeg wq)).toInt ≤ 5 by omega)⟩)) (by decide)
            clear hS
            intro n z F G fm hS hx hR hfo hN hW6 hou hP hSH
            refine gz_iinc (v := (kk + (-1))) (lv' := [(5, .int (kk + (-1))), (0, .ref m), (1, .int x1), (2, .int x2), (3, .int bs), (4, .int nb)]) dX12_shortens_452 rfl (congrArg (fun z => kk + z) oi_m1) (by decide) rfl ?_
            refine gz_goto (tgt := 55) dX12_shortens_455 (by decide) ?_
            refine gz_sub (lv' := [(5, .int (kk + (-1))), (0, .ref m), (1, .int x1), (2, .int x2), (3, .int bs), (4, .int nb)]) (by simp [List.lookup]) ?_
            have hdc : (kk + (-1)).toInt = kk.toInt - 1 := T_dec (by omega) (by omega)
            rw [← hdc] at hP
            generalize kk + (-1) = k2 at hdc hP ⊢
            exact ih k2 kk.toInt.toNat _ _ _ _ _ hS hx (hR) (hfo) (hN) (hW6) (hou) (hP) (hSH) (by omega) (by omega)
          ·
            try simp only [mIn_0, lgc_lt, lgc_gt, lgc_le, lgc_ge, lgc_eq] at c_148
            try simp only [fl_lt, fl_le, fl_eq, fL_w, fL_lt, fL_le, tm1, tm10k, tm9, tm99, Int32.reduceToInt, Int64.reduceToInt, Int.not_lt, Int.not_le] at c_148
            refine gz_aload_n dX12_shortens_151 rfl rfl ?_
            refine mg_20 hS_3 dX12_shortens_152 ?_
            refine gz_iload dX12_shortens_155 rfl ?_
            refine m_iald 7 hS_3 rfl (N := 880) rfl ((by exact vin_T (rfl : wq.toInt = wq.toInt) (by omega) (by omega))) dX12_shortens_157 ?_
            refine gz_ev (w := .int ((F 7) (Int32.toNatClampNeg wq))) rfl ?_
            refine gz_iconst (v := 4) dX12_shortens_158 (by decide) ?_
            refine gz_icmp_eq (tgt := 173) dX12_shortens_159 (by decide) (fun c_159 => ?_) (fun c_159 => ?_)
            ·
              try simp only [mIn_0, lgc_lt, lgc_gt, lgc_le, lgc_ge, lgc_eq] at c_159
              try simp only [fl_lt, fl_le, fl_eq, fL_w, fL_lt, fL_le, tm1, tm10k, tm9, tm99, Int32.reduceToInt, Int64.reduceToInt, Int.not_lt, Int.not_le] at c_159
              refine gz_iconst (v := 1) dX12_shortens_173 (by decide) ?_
              refine gz_goto (tgt := 178) dX12_shortens_174 (by decide) ?_
              refine gz_istore (lv' := [(9, .int 1), (8, .int 0), (7, .int xq), (6, .int wq), (5, .int kk), (0, .ref m), (1, .int x1), (2, .int x2), (3, .int bs), (4, .int nb)]) dX12_shortens_178 (by decide) rfl ?_
              obtain ⟨F2, hF2⟩ : ∃ F2, F2 = (va_up (va_up (va_up F 76 (upd (F 76) (Int32.toNatClampNeg xq) ((F 7) (Int32.toNatClampNeg wq)))) 77 (upd (F 77) (Int32.toNatClampNeg xq) ((F 8) (Int32.toNatClampNeg wq)))) 80 (upd (F 80) (Int32.toNatClampNeg xq) wq)) := ⟨_, rfl⟩
              have hxx : fx [] [] [76, 77, 78, 79, 80, 81, 82] [] n z F G n z F2 G := by rw [hF2]; exact (fx_F (fx_F (fx_F fx_rf (by decide)) (by decide)) (by decide))
              have hxN : fx [] [] [76, 77, 78, 79, 80, 81, 82] [] n0 z0 F0 G0 n z F2 G := by rw [hF2]; exact (fx_F (fx_F (fx_F hx (by decide)) (by decide)) (by decide))
              have s76_ : F2 76 = (upd (F 76) (Int32.toNatClampNeg xq) ((F 7) (Int32.toNatClampNeg wq))) := by rw [hF2]; exact rfl
              have s77_ : F2 77 = (upd (F 77) (Int32.toNatClampNeg xq) ((F 8) (Int32.toNatClampNeg wq))) := by rw [hF2]; exact rfl
              have s78_ : F2 78 = (F 78) := by rw [hF2]; exact rfl
              have s79_ : F2 79 = (F 79) := by rw [hF2]; exact rfl
              have s80_ : F2 80 = (upd (F 80) (Int32.toNatClampNeg xq) wq) := by rw [hF2]; exact rfl
              have s81_ : F2 81 = (F 81) := by rw [hF2]; exact rfl
              have s82_ : F2 82 = (F 82) := by rw [hF2]; exact rfl
              have hS9 : mS cy m a f0 n z F2 G f_3 := by rw [hF2]; exact hS_3
              clear hF2
              have smW : ∀ r, r ∉ [76, 77, 78, 79, 80, 81, 82] → F2 r = F r := fun r hr => hxx.2.2.1 r hr
              have hW62 : (F2 6 fo).toInt = (Wn : Int) := by rw [smW 6 (by decide)]; exact hW6
              have hN2 : NR F2 := by
                intro q hq
                obtain ⟨q1, q2, q3, q4, q5⟩ := hN q hq
                rw [s78_, s79_, s80_, s81_, s82_]
                simp only [updE]
                refine ⟨?_, ?_, ?_, ?_, ?_⟩ <;> (repeat' split) <;> omega
              have hoff : ∀ r, r ∈ [76, 78, 79, 80, 82] → ∀ i, i ≠ bn + kN → F2 r i = F r i := by
                intro r hr i hi
                rw [← ecx] at hi
                simp only [List.mem_cons, List.not_mem_nil, or_false] at hr
                rcases hr with rfl | rfl | rfl | rfl | rfl
                · rw [s76_, updE, if_neg hi]
                · rw [s78_]
                · rw [s79_]
                · rw [s80_, updE, if_neg hi]
                · rw [s82_]
              have hP2 : SHp F2 fo Wn bn (kk.toInt) := by rw [hkN]; exact SHp_off (F := F) (smW 7 (by decide)) (smW 9 (by decide)) (smW 13 (by decide)) (smW 15 (by decide)) hoff (by omega) (by rw [← hkN]; exact hP)
              have h76 : F2 76 (Int32.toNatClampNeg xq) = F 7 (Int32.toNatClampNeg wq) := by rw [s76_, updE, if_pos rfl]
              have h80 : F2 80 (Int32.toNatClampNeg xq) = wq := by rw [s80_, updE, if_pos rfl]
              refine gz_sub (lv' := [(9, .int 1), (8, .int 0), (7, .int xq), (6, .int wq), (5, .int kk), (0, .ref m), (1, .int x1), (2, .int x2), (3, .int bs), (4, .int nb)]) (by simp [List.lookup]) ?_
              have hX2 : LX F2 fo T := LX_cg (fun r h1 h2 => smW r (fun h => by simp only [List.mem_cons, List.not_mem_nil, or_false] at h; omega)) hX
              have hwW : ∀ r, r ∈ [7, 8, 13, 14, 15, 16, 18, 19, 20] → F2 r = F r := fun r hr => smW r (fun h => by simp only [List.mem_cons, List.not_mem_nil, or_false] at h hr; omega)
              obtain ⟨H, fi, se, hE⟩ := hSH
              have hTl : T.length ≤ 40 ∧ kN < T.length ∧ Wn = T.length := ⟨hT4.1, by omega, hT4.2⟩
              have hE2 : shE F2 fo bn T H fi se (kN + 1) := shE_cg hwW (fun r hr i hi => by simp only [List.mem_cons, List.not_mem_nil, or_false] at hr; rcases hr with rfl | rfl | rfl | rfl | rfl | rfl | rfl; (exact hoff 76 (by decide) i (by omega)); (rw [s77_, ecx, updE, if_neg (by omega)]); (exact hoff 78 (by decide) i (by omega)); (exact hoff 79 (by decide) i (by omega)); (exact hoff 80 (by decide) i (by omega)); (exact congrFun s81_ i); (exact hoff 82 (by decide) i (by omega))) (by omega) (by rw [show kN + 1 = pp by omega]; exact hE)
              have h77 : F2 77 (Int32.toNatClampNeg xq) = F 8 (Int32.toNatClampNeg wq) := by rw [s77_, updE, if_pos rfl]
              have hou2 : outS F0 F2 bn := outS_st (k := kN) hou (fun r hr i hi => by simp only [List.mem_cons, List.not_mem_nil, or_false] at hr; rcases hr with rfl | rfl | rfl | rfl | rfl | rfl | rfl; (exact hoff 76 (by decide) i hi); (rw [s77_, ecx, updE, if_neg hi]); (exact hoff 78 (by decide) i hi); (exact hoff 79 (by decide) i hi); (exact hoff 80 (by decide) i hi); (exact congrFun s81_ i); (exact hoff 82 (by decide) i hi)) (by omega)
              refine l_X12_shortensAE (lf := 0) (pr := 1) (wq := wq) (xq := xq) (kN := kN) hb hf ⟨hkN, by omega, by omega⟩ qx hTl qw ?_ 1 _ _ _ _ _ hS9 hxN (RI_fx hR hxx (by decide) (by decide)) hfo hN2 hW62 hou2 hP2 hX2 hE2 (by rw [smW 8 (by decide)]; exact h77) (by rw [smW 7 (by decide)]; exact h76) h80 (by rw [smW 7 (by decide)]; exact (Or.inr ⟨rfl, (show 2 ≤ (F 7 (Int32.toNatClampNeg wq)).toInt by omega)⟩)) (by rw [smW 7 (by decide)]; exact (Or.inl ⟨rfl, (show 3 ≤ (F 7 (Int32.toNatClampNeg wq)).toInt ∧ (F 7 (Int32.toNatClampNeg wq)).toInt ≤ 5 by omega)⟩)) (by decide)
              clear hS
              intro n z F G fm hS hx hR hfo hN hW6 hou hP hSH
              refine gz_iinc (v := (kk + (-1))) (lv' := [(5, .int (kk + (-1))), (0, .ref m), (1, .int x1), (2, .int x2), (3, .int bs), (4, .int nb)]) dX12_shortens_452 rfl (congrArg (fun z => kk + z) oi_m1) (by decide) rfl ?_
              refine gz_goto (tgt := 55) dX12_shortens_455 (by decide) ?_
              refine gz_sub (lv' := [(5, .int (kk + (-1))), (0, .ref m), (1, .int x1), (2, .int x2), (3, .int bs), (4, .int nb)]) (by simp [List.lookup]) ?_
              have hdc : (kk + (-1)).toInt = kk.toInt - 1 := T_dec (by omega) (by omega)
              rw [← hdc] at hP
              generalize kk + (-1) = k2 at hdc hP ⊢
              exact ih k2 kk.toInt.toNat _ _ _ _ _ hS hx (hR) (hfo) (hN) (hW6) (hou) (hP) (hSH) (by omega) (by omega)
            ·
              try simp only [mIn_0, lgc_lt, lgc_gt, lgc_le, lgc_ge, lgc_eq] at c_159
              try simp only [fl_lt, fl_le, fl_eq, fL_w, fL_lt, fL_le, tm1, tm10k, tm9, tm99, Int32.reduceToInt, Int64.reduceToInt, Int.not_lt, Int.not_le] at c_159
              refine gz_aload_n dX12_shortens_162 rfl rfl ?_
              refine mg_20 hS_3 dX12_shortens_163 ?_
              refine gz_iload dX12_shortens_166 rfl ?_
              refine m_iald 7 hS_3 rfl (N := 880) rfl ((by exact vin_T (rfl : wq.toInt = wq.toInt) (by omega) (by omega))) dX12_shortens_168 ?_
              refine gz_ev (w := .int ((F 7) (Int32.toNatClampNeg wq))) rfl ?_
              refine gz_iconst (v := 5) dX12_shortens_169 (by decide) ?_
              refine gz_icmp_ne (tgt := 177) dX12_shortens_170 (by decide) (fun c_170 => ?_) (fun c_170 => ?_)
              ·
                try simp only [mIn_0, lgc_lt, lgc_gt, lgc_le, lgc_ge, lgc_eq] at c_170
                try simp only [fl_lt, fl_le, fl_eq, fL_w, fL_lt, fL_le, tm1, tm10k, tm9, tm99, Int32.reduceToInt, Int64.reduceToInt, Int.not_lt, Int.not_le] at c_170
                refine gz_iconst (v := 0) dX12_shortens_177 (by decide) ?_
                refine gz_istore (lv' := [(9, .int 0), (8, .int 0), (7, .int xq), (6, .int wq), (5, .int kk), (0, .ref m), (1, .int x1), (2, .int x2), (3, .int bs), (4, .int nb)]) dX12_shortens_178 (by decide) rfl ?_
                obtain ⟨F2, hF2⟩ : ∃ F2, F2 = (va_up (va_up (va_up F 76 (upd (F 76) (Int32.toNatClampNeg xq) ((F 7) (Int32.toNatClampNeg wq)))) 77 (upd (F 77) (Int32.toNatClampNeg xq) ((F 8) (Int32.toNatClampNeg wq)))) 80 (upd (F 80) (Int32.toNatClampNeg xq) wq)) := ⟨_, rfl⟩
                have hxx : fx [] [] [76, 77, 78, 79, 80, 81, 82] [] n z F G n z F2 G := by rw [hF2]; exact (fx_F (fx_F (fx_F fx_rf (by decide)) (by decide)) (by decide))
                have hxN : fx [] [] [76, 77, 78, 79, 80, 81, 82] [] n0 z0 F0 G0 n z F2 G := by rw [hF2]; exact (fx_F (fx_F (fx_F hx (by decide)) (by decide)) (by decide))
                have s76_ : F2 76 = (upd (F 76) (Int32.toNatClampNeg xq) ((F 7) (Int32.toNatClampNeg wq))) := by rw [hF2]; exact rfl
                have s77_ : F2 77 = (upd (F 77) (Int32.toNatClampNeg xq) ((F 8) (Int32.toNatClampNeg wq))) := by rw [hF2]; exact rfl
                have s78_ : F2 78 = (F 78) := by rw [hF2]; exact rfl
                have s79_ : F2 79 = (F 79) := by rw [hF2]; exact rfl
                have s80_ : F2 80 = (upd (F 80) (Int32.toNatClampNeg xq) wq) := by rw [hF2]; exact rfl
                have s81_ : F2 81 = (F 81) := by rw [hF2]; exact rfl
                have s82_ : F2 82 = (F 82) := by rw [hF2]; exact rfl
                have hS9 : mS cy m a f0 n z F2 G f_3 := by rw [hF2]; exact hS_3
                clear hF2
                have smW : ∀ r, r ∉ [76, 77, 78, 79, 80, 81, 82] → F2 r = F r := fun r hr => hxx.2.2.1 r hr
                have hW62 : (F2 6 fo).toInt = (Wn : Int) := by rw [smW 6 (by decide)]; exact hW6
                have hN2 : NR F2 := by
                  intro q hq
                  obtain ⟨q1, q2, q3, q4, q5⟩ := hN q hq
                  rw [s78_, s79_, s80_, s81_, s82_]
                  simp only [updE]
                  refine ⟨?_, ?_, ?_, ?_, ?_⟩ <;> (repeat' split) <;> omega
                have hoff : ∀ r, r ∈ [76, 78, 79, 80, 82] → ∀ i, i ≠ bn + kN → F2 r i = F r i := by
                  intro r hr i hi
                  rw [← ecx] at hi
                  simp only [List.mem_cons, List.not_mem_nil, or_false] at hr
                  rcases hr with rfl | rfl | rfl | rfl | rfl
                  · rw [s76_, updE, if_neg hi]
                  · rw [s78_]
                  · rw [s79_]
                  · rw [s80_, updE, if_neg hi]
                  · rw [s82_]
                have hP2 : SHp F2 fo Wn bn (kk.toInt) := by rw [hkN]; exact SHp_off (F := F) (smW 7 (by decide)) (smW 9 (by decide)) (smW 13 (by decide)) (smW 15 (by decide)) hoff (by omega) (by rw [← hkN]; exact hP)
                have h76 : F2 76 (Int32.toNatClampNeg xq) = F 7 (Int32.toNatClampNeg wq) := by rw [s76_, updE, if_pos rfl]
                have h80 : F2 80 (Int32.toNatClampNeg xq) = wq := by rw [s80_, updE, if_pos rfl]
                refine gz_sub (lv' := [(9, .int 0), (8, .int 0), (7, .int xq), (6, .int wq), (5, .int kk), (0, .ref m), (1, .int x1), (2, .int x2), (3, .int bs), (4, .int nb)]) (by simp [List.lookup]) ?_
                have hX2 : LX F2 fo T := LX_cg (fun r h1 h2 => smW r (fun h => by simp only [List.mem_cons, List.not_mem_nil, or_false] at h; omega)) hX
                have hwW : ∀ r, r ∈ [7, 8, 13, 14, 15, 16, 18, 19, 20] → F2 r = F r := fun r hr => smW r (fun h => by simp only [List.mem_cons, List.not_mem_nil, or_false] at h hr; omega)
                obtain ⟨H, fi, se, hE⟩ := hSH
                have hTl : T.length ≤ 40 ∧ kN < T.length ∧ Wn = T.length := ⟨hT4.1, by omega, hT4.2⟩
                have hE2 : shE F2 fo bn T H fi se (kN + 1) := shE_cg hwW (fun r hr i hi => by simp only [List.mem_cons, List.not_mem_nil, or_false] at hr; rcases hr with rfl | rfl | rfl | rfl | rfl | rfl | rfl; (exact hoff 76 (by decide) i (by omega)); (rw [s77_, ecx, updE, if_neg (by omega)]); (exact hoff 78 (by decide) i (by omega)); (exact hoff 79 (by decide) i (by omega)); (exact hoff 80 (by decide) i (by omega)); (exact congrFun s81_ i); (exact hoff 82 (by decide) i (by omega))) (by omega) (by rw [show kN + 1 = pp by omega]; exact hE)
                have h77 : F2 77 (Int32.toNatClampNeg xq) = F 8 (Int32.toNatClampNeg wq) := by rw [s77_, updE, if_pos rfl]
                have hou2 : outS F0 F2 bn := outS_st (k := kN) hou (fun r hr i hi => by simp only [List.mem_cons, List.not_mem_nil, or_false] at hr; rcases hr with rfl | rfl | rfl | rfl | rfl | rfl | rfl; (exact hoff 76 (by decide) i hi); (rw [s77_, ecx, updE, if_neg hi]); (exact hoff 78 (by decide) i hi); (exact hoff 79 (by decide) i hi); (exact hoff 80 (by decide) i hi); (exact congrFun s81_ i); (exact hoff 82 (by decide) i hi)) (by omega)
                refine l_X12_shortensAE (lf := 0) (pr := 0) (wq := wq) (xq := xq) (kN := kN) hb hf ⟨hkN, by omega, by omega⟩ qx hTl qw ?_ 1 _ _ _ _ _ hS9 hxN (RI_fx hR hxx (by decide) (by decide)) hfo hN2 hW62 hou2 hP2 hX2 hE2 (by rw [smW 8 (by decide)]; exact h77) (by rw [smW 7 (by decide)]; exact h76) h80 (by rw [smW 7 (by decide)]; exact (Or.inr ⟨rfl, (show 2 ≤ (F 7 (Int32.toNatClampNeg wq)).toInt by omega)⟩)) (by rw [smW 7 (by decide)]; exact (Or.inr ⟨rfl, (show ¬ (3 ≤ (F 7 (Int32.toNatClampNeg wq)).toInt ∧ (F 7 (Int32.toNatClampNeg wq)).toInt ≤ 5) by omega)⟩)) (by decide)
                clear hS
                intro n z F G fm hS hx hR hfo hN hW6 hou hP hSH
                refine gz_iinc (v := (kk + (-1))) (lv' := [(5, .int (kk + (-1))), (0, .ref m), (1, .int x1), (2, .int x2), (3, .int bs), (4, .int nb)]) dX12_shortens_452 rfl (congrArg (fun z => kk + z) oi_m1) (by decide) rfl ?_
                refine gz_goto (tgt := 55) dX12_shortens_455 (by decide) ?_
                refine gz_sub (lv' := [(5, .int (kk + (-1))), (0, .ref m), (1, .int x1), (2, .int x2), (3, .int bs), (4, .int nb)]) (by simp [List.lookup]) ?_
                have hdc : (kk + (-1)).toInt = kk.toInt - 1 := T_dec (by omega) (by omega)
                rw [← hdc] at hP
                generalize kk + (-1) = k2 at hdc hP ⊢
                exact ih k2 kk.toInt.toNat _ _ _ _ _ hS hx (hR) (hfo) (hN) (hW6) (hou) (hP) (hSH) (by omega) (by omega)
              ·
                try simp only [mIn_0, lgc_lt, lgc_gt, lgc_le, lgc_ge, lgc_eq] at c_170
                try simp only [fl_lt, fl_le, fl_eq, fL_w, fL_lt, fL_le, tm1, tm10k, tm9, tm99, Int32.reduceToInt, Int64.reduceToInt, Int.not_lt, Int.not_le] at c_170
                refine gz_iconst (v := 1) dX12_shortens_173 (by decide) ?_
                refine gz_goto (tgt := 178) dX12_shortens_174 (by decide) ?_
                refine gz_istore (lv' := [(9, .int 1), (8, .int 0), (7, .int xq), (6, .int wq), (5, .int kk), (0, .ref m), (1, .int x1), (2, .int x2), (3, .int bs), (4, .int nb)]) dX12_shortens_178 (by decide) rfl ?_
                obtain ⟨F2, hF2⟩ : ∃ F2, F2 = (va_up (va_up (va_up F 76 (upd (F 76) (Int32.toNatClampNeg xq) ((F 7) (Int32.toNatClampNeg wq)))) 77 (upd (F 77) (Int32.toNatClampNeg xq) ((F 8) (Int32.toNatClampNeg wq)))) 80 (upd (F 80) (Int32.toNatClampNeg xq) wq)) := ⟨_, rfl⟩
                have hxx : fx [] [] [76, 77, 78, 79, 80, 81, 82] [] n z F G n z F2 G := by rw [hF2]; exact (fx_F (fx_F (fx_F fx_rf (by decide)) (by decide)) (by decide))
                have hxN : fx [] [] [76, 77, 78, 79, 80, 81, 82] [] n0 z0 F0 G0 n z F2 G := by rw [hF2]; exact (fx_F (fx_F (fx_F hx (by decide)) (by decide)) (by decide))
                have s76_ : F2 76 = (upd (F 76) (Int32.toNatClampNeg xq) ((F 7) (Int32.toNatClampNeg wq))) := by rw [hF2]; exact rfl
                have s77_ : F2 77 = (upd (F 77) (Int32.toNatClampNeg xq) ((F 8) (Int32.toNatClampNeg wq))) := by rw [hF2]; exact rfl
                have s78_ : F2 78 = (F 78) := by rw [hF2]; exact rfl
                have s79_ : F2 79 = (F 79) := by rw [hF2]; exact rfl
                have s80_ : F2 80 = (upd (F 80) (Int32.toNatClampNeg xq) wq) := by rw [hF2]; exact rfl
                have s81_ : F2 81 = (F 81) := by rw [hF2]; exact rfl
                have s82_ : F2 82 = (F 82) := by rw [hF2]; exact rfl
                have hS9 : mS cy m a f0 n z F2 G f_3 := by rw [hF2]; exact hS_3
                clear hF2
                have smW : ∀ r, r ∉ [76, 77, 78, 79, 80, 81, 82] → F2 r = F r := fun r hr => hxx.2.2.1 r hr
                have hW62 : (F2 6 fo).toInt = (Wn : Int) := by rw [smW 6 (by decide)]; exact hW6
                have hN2 : NR F2 := by
                  intro q hq
                  obtain ⟨q1, q2, q3, q4, q5⟩ := hN q hq
                  rw [s78_, s79_, s80_, s81_, s82_]
                  simp only [updE]
                  refine ⟨?_, ?_, ?_, ?_, ?_⟩ <;> (repeat' split) <;> omega
                have hoff : ∀ r, r ∈ [76, 78, 79, 80, 82] → ∀ i, i ≠ bn + kN → F2 r i = F r i := by
                  intro r hr i hi
                  rw [← ecx] at hi
                  simp only [List.mem_cons, List.not_mem_nil, or_false] at hr
                  rcases hr with rfl | rfl | rfl | rfl | rfl
                  · rw [s76_, updE, if_neg hi]
                  · rw [s78_]
                  · rw [s79_]
                  · rw [s80_, updE, if_neg hi]
                  · rw [s82_]
                have hP2 : SHp F2 fo Wn bn (kk.toInt) := by rw [hkN]; exact SHp_off (F := F) (smW 7 (by decide)) (smW 9 (by decide)) (smW 13 (by decide)) (smW 15 (by decide)) hoff (by omega) (by rw [← hkN]; exact hP)
                have h76 : F2 76 (Int32.toNatClampNeg xq) = F 7 (Int32.toNatClampNeg wq) := by rw [s76_, updE, if_pos rfl]
                have h80 : F2 80 (Int32.toNatClampNeg xq) = wq := by rw [s80_, updE, if_pos rfl]
                refine gz_sub (lv' := [(9, .int 1), (8, .int 0), (7, .int xq), (6, .int wq), (5, .int kk), (0, .ref m), (1, .int x1), (2, .int x2), (3, .int bs), (4, .int nb)]) (by simp [List.lookup]) ?_
                have hX2 : LX F2 fo T := LX_cg (fun r h1 h2 => smW r (fun h => by simp only [List.mem_cons, List.not_mem_nil, or_false] at h; omega)) hX
                have hwW : ∀ r, r ∈ [7, 8, 13, 14, 15, 16, 18, 19, 20] → F2 r = F r := fun r hr => smW r (fun h => by simp only [List.mem_cons, List.not_mem_nil, or_false] at h hr; omega)
                obtain ⟨H, fi, se, hE⟩ := hSH
                have hTl : T.length ≤ 40 ∧ kN < T.length ∧ Wn = T.length := ⟨hT4.1, by omega, hT4.2⟩
                have hE2 : shE F2 fo bn T H fi se (kN + 1) := shE_cg hwW (fun r hr i hi => by simp only [List.mem_cons, List.not_mem_nil, or_false] at hr; rcases hr with rfl | rfl | rfl | rfl | rfl | rfl | rfl; (exact hoff 76 (by decide) i (by omega)); (rw [s77_, ecx, updE, if_neg (by omega)]); (exact hoff 78 (by decide) i (by omega)); (exact hoff 79 (by decide) i (by omega)); (exact hoff 80 (by decide) i (by omega)); (exact congrFun s81_ i); (exact hoff 82 (by decide) i (by omega))) (by omega) (by rw [show kN + 1 = pp by omega]; exact hE)
                have h77 : F2 77 (Int32.toNatClampNeg xq) = F 8 (Int32.toNatClampNeg wq) := by rw [s77_, updE, if_pos rfl]
                have hou2 : outS F0 F2 bn := outS_st (k := kN) hou (fun r hr i hi => by simp only [List.mem_cons, List.not_mem_nil, or_false] at hr; rcases hr with rfl | rfl | rfl | rfl | rfl | rfl | rfl; (exact hoff 76 (by decide) i hi); (rw [s77_, ecx, updE, if_neg hi]); (exact hoff 78 (by decide) i hi); (exact hoff 79 (by decide) i hi); (exact hoff 80 (by decide) i hi); (exact congrFun s81_ i); (exact hoff 82 (by decide) i hi)) (by omega)
                refine l_X12_shortensAE (lf := 0) (pr := 1) (wq := wq) (xq := xq) (kN := kN) hb hf ⟨hkN, by omega, by omega⟩ qx hTl qw ?_ 1 _ _ _ _ _ hS9 hxN (RI_fx hR hxx (by decide) (by decide)) hfo hN2 hW62 hou2 hP2 hX2 hE2 (by rw [smW 8 (by decide)]; exact h77) (by rw [smW 7 (by decide)]; exact h76) h80 (by rw [smW 7 (by decide)]; exact (Or.inr ⟨rfl, (show 2 ≤ (F 7 (Int32.toNatClampNeg wq)).toInt by omega)⟩)) (by rw [smW 7 (by decide)]; exact (Or.inl ⟨rfl, (show 3 ≤ (F 7 (Int32.toNatClampNeg wq)).toInt ∧ (F 7 (Int32.toNatClampNeg wq)).toInt ≤ 5 by omega)⟩)) (by decide)
                clear hS
                intro n z F G fm hS hx hR hfo hN hW6 hou hP hSH
                refine gz_iinc (v := (kk + (-1))) (lv' := [(5, .int (kk + (-1))), (0, .ref m), (1, .int x1), (2, .int x2), (3, .int bs), (4, .int nb)]) dX12_shortens_452 rfl (congrArg (fun z => kk + z) oi_m1) (by decide) rfl ?_
                refine gz_goto (tgt := 55) dX12_shortens_455 (by decide) ?_
                refine gz_sub (lv' := [(5, .int (kk + (-1))), (0, .ref m), (1, .int x1), (2, .int x2), (3, .int bs), (4, .int nb)]) (by simp [List.lookup]) ?_
                have hdc : (kk + (-1)).toInt = kk.toInt - 1 := T_dec (by omega) (by omega)
                rw [← hdc] at hP
                generalize kk + (-1) = k2 at hdc hP ⊢
                exact ih k2 kk.toInt.toNat _ _ _ _ _ hS hx (hR) (hfo) (hN) (hW6) (hou) (hP) (hSH) (by omega) (by omega)
        ·
          try simp only [mIn_0, lgc_lt, lgc_gt, lgc_le, lgc_ge, lgc_eq] at c_130
          try simp only [fl_lt, fl_le, fl_eq, fL_w, fL_lt, fL_le, tm1, tm10k, tm9, tm99, Int32.reduceToInt, Int64.reduceToInt, Int.not_lt, Int.not_le] at c_130
          refine gz_iconst (v := 1) dX12_shortens_133 (by decide) ?_
          refine gz_goto (tgt := 138) dX12_shortens_134 (by decide) ?_
          refine gz_istore (lv' := [(8, .int 1), (7, .int xq), (6, .int wq), (5, .int kk), (0, .ref m), (1, .int x1), (2, .int x2), (3, .int bs), (4, .int nb)]) dX12_shortens_138 (by decide) rfl ?_
          refine gz_aload_n dX12_shortens_140 rfl rfl ?_
          refine mg_20 hS_3 dX12_shortens_141 ?_
          refine gz_iload dX12_shortens_144 rfl ?_
          refine m_iald 7 hS_3 rfl (N := 880) rfl ((by exact vin_T (rfl : wq.toInt = wq.toInt) (by omega) (by omega))) dX12_shortens_146 ?_
          refine gz_ev (w := .int ((F 7) (Int32.toNatClampNeg wq))) rfl ?_
          refine gz_iconst (v := 3) dX12_shortens_147 (by decide) ?_
          refine gz_icmp_eq (tgt := 173) dX12_shortens_148 (by decide) (fun c_148 => ?_) (fun c_148 => ?_)
          ·
            try simp only [mIn_0, lgc_lt, lgc_gt, lgc_le, lgc_ge, lgc_eq] at c_148
            try simp only [fl_lt, fl_le, fl_eq, fL_w, fL_lt, fL_le, tm1, tm10k, tm9, tm99, Int32.reduceToInt, Int64.reduceToInt, Int.not_lt, Int.not_le] at c_148
            refine gz_iconst (v := 1) dX12_shortens_173 (by decide) ?_
            refine gz_goto (tgt := 178) dX12_shortens_174 (by decide) ?_
            refine gz_istore (lv' := [(9, .int 1), (8, .int 1), (7, .int xq), (6, .int wq), (5, .int kk), (0, .ref m), (1, .int x1), (2, .int x2), (3, .int bs), (4, .int nb)]) dX12_shortens_178 (by decide) rfl ?_
            exfalso; omega
          ·
            try simp only [mIn_0, lgc_lt, lgc_gt, lgc_le, lgc_ge, lgc_eq] at c_148
            try simp only [fl_lt, fl_le, fl_eq, fL_w, fL_lt, fL_le, tm1, tm10k, tm9, tm99, Int32.reduceToInt, Int64.reduceToInt, Int.not_lt, Int.not_le] at c_148
            refine gz_aload_n dX12_shortens_151 rfl rfl ?_
            refine mg_20 hS_3 dX12_shortens_152 ?_
            refine gz_iload dX12_shortens_155 rfl ?_
            refine m_iald 7 hS_3 rfl (N := 880) rfl ((by exact vin_T (rfl : wq.toInt = wq.toInt) (by omega) (by omega))) dX12_shortens_157 ?_
            refine gz_ev (w := .int ((F 7) (Int32.toNatClampNeg wq))) rfl ?_
            refine gz_iconst (v := 4) dX12_shortens_158 (by decide) ?_
            refine gz_icmp_eq (tgt := 173) dX12_shortens_159 (by decide) (fun c_159 => ?_) (fun c_159 => ?_)
            ·
              try simp only [mIn_0, lgc_lt, lgc_gt, lgc_le, lgc_ge, lgc_eq] at c_159
              try simp only [fl_lt, fl_le, fl_eq, fL_w, fL_lt, fL_le, tm1, tm10k, tm9, tm99, Int32.reduceToInt, Int64.reduceToInt, Int.not_lt, Int.not_le] at c_159
              refine gz_iconst (v := 1) dX12_shortens_173 (by decide) ?_
              refine gz_goto (tgt := 178) dX12_shortens_174 (by decide) ?_
              refine gz_istore (lv' := [(9, .int 1), (8, .int 1), (7, .int xq), (6, .int wq), (5, .int kk), (0, .ref m), (1, .int x1), (2, .int x2), (3, .int bs), (4, .int nb)]) dX12_shortens_178 (by decide) rfl ?_
              exfalso; omega
            ·
              try simp only [mIn_0, lgc_lt, lgc_gt, lgc_le, lgc_ge, lgc_eq] at c_159
              try simp only [fl_lt, fl_le, fl_eq, fL_w, fL_lt, fL_le, tm1, tm10k, tm9, tm99, Int32.reduceToInt, Int64.reduceToInt, Int.not_lt, Int.not_le] at c_159
              refine gz_aload_n dX12_shortens_162 rfl rfl ?_
              refine mg_20 hS_3 dX12_shortens_163 ?_
              refine gz_iload dX12_shortens_166 rfl ?_
              refine m_iald 7 hS_3 rfl (N := 880) rfl ((by exact vin_T (rfl : wq.toInt = wq.toInt) (by omega) (by omega))) dX12_shortens_168 ?_
              refine gz_ev (w := .int ((F 7) (Int32.toNatClampNeg wq))) rfl ?_
              refine gz_iconst (v := 5) dX12_shortens_169 (by decide) ?_
              refine gz_icmp_ne (tgt := 177) dX12_shortens_170 (by decide) (fun c_170 => ?_) (fun c_170 => ?_)
              ·
                try simp only [mIn_0, lgc_lt, lgc_gt, lgc_le, lgc_ge, lgc_eq] at c_170
                try simp only [fl_lt, fl_le, fl_eq, fL_w, fL_lt, fL_le, tm1, tm10k, tm9, tm99, Int32.reduceToInt, Int64.reduceToInt, Int.not_lt, Int.not_le] at c_170
                refine gz_iconst (v := 0) dX12_shortens_177 (by decide) ?_
                refine gz_istore (lv' := [(9, .int 0), (8, .int 1), (7, .int xq), (6, .int wq), (5, .int kk), (0, .ref m), (1, .int x1), (2, .int x2), (3, .int bs), (4, .int nb)]) dX12_shortens_178 (by decide) rfl ?_
                obtain ⟨F2, hF2⟩ : ∃ F2, F2 = (va_up (va_up (va_up F 76 (upd (F 76) (Int32.toNatClampNeg xq) ((F 7) (Int32.toNatClampNeg wq)))) 77 (upd (F 77) (Int32.toNatClampNeg xq) ((F 8) (Int32.toNatClampNeg wq)))) 80 (upd (F 80) (Int32.toNatClampNeg xq) wq)) := ⟨_, rfl⟩
                have hxx : fx [] [] [76, 77, 78, 79, 80, 81, 82] [] n z F G n z F2 G := by rw [hF2]; exact (fx_F (fx_F (fx_F fx_rf (by decide)) (by decide)) (by decide))
                have hxN : fx [] [] [76, 77, 78, 79, 80, 81, 82] [] n0 z0 F0 G0 n z F2 G := by rw [hF2]; exact (fx_F (fx_F (fx_F hx (by decide)) (by decide)) (by decide))
                have s76_ : F2 76 = (upd (F 76) (Int32.toNatClampNeg xq) ((F 7) (Int32.toNatClampNeg wq))) := by rw [hF2]; exact rfl
                have s77_ : F2 77 = (upd (F 77) (Int32.toNatClampNeg xq) ((F 8) (Int32.toNatClampNeg wq))) := by rw [hF2]; exact rfl
                have s78_ : F2 78 = (F 78) := by rw [hF2]; exact rfl
                have s79_ : F2 79 = (F 79) := by rw [hF2]; exact rfl
                have s80_ : F2 80 = (upd (F 80) (Int32.toNatClampNeg xq) wq) := by rw [hF2]; exact rfl
                have s81_ : F2 81 = (F 81) := by rw [hF2]; exact rfl
                have s82_ : F2 82 = (F 82) := by rw [hF2]; exact rfl
                have hS9 : mS cy m a f0 n z F2 G f_3 := by rw [hF2]; exact hS_3
                clear hF2
                have smW : ∀ r, r ∉ [76, 77, 78, 79, 80, 81, 82] → F2 r = F r := fun r hr => hxx.2.2.1 r hr
                have hW62 : (F2 6 fo).toInt = (Wn : Int) := by rw [smW 6 (by decide)]; exact hW6
                have hN2 : NR F2 := by
                  intro q hq
                  obtain ⟨q1, q2, q3, q4, q5⟩ := hN q hq
                  rw [s78_, s79_, s80_, s81_, s82_]
                  simp only [updE]
                  refine ⟨?_, ?_, ?_, ?_, ?_⟩ <;> (repeat' split) <;> omega
                have hoff : ∀ r, r ∈ [76, 78, 79, 80, 82] → ∀ i, i ≠ bn + kN → F2 r i = F r i := by
                  intro r hr i hi
                  rw [← ecx] at hi
                  simp only [List.mem_cons, List.not_mem_nil, or_false] at hr
                  rcases hr with rfl | rfl | rfl | rfl | rfl
                  · rw [s76_, updE, if_neg hi]
                  · rw [s78_]
                  · rw [s79_]
                  · rw [s80_, updE, if_neg hi]
                  · rw [s82_]
                have hP2 : SHp F2 fo Wn bn (kk.toInt) := by rw [hkN]; exact SHp_off (F := F) (smW 7 (by decide)) (smW 9 (by decide)) (smW 13 (by decide)) (smW 15 (by decide)) hoff (by omega) (by rw [← hkN]; exact hP)
                have h76 : F2 76 (Int32.toNatClampNeg xq) = F 7 (Int32.toNatClampNeg wq) := by rw [s76_, updE, if_pos rfl]
                have h80 : F2 80 (Int32.toNatClampNeg xq) = wq := by rw [s80_, updE, if_pos rfl]
                refine gz_sub (lv' := [(9, .int 0), (8, .int 1), (7, .int xq), (6, .int wq), (5, .int kk), (0, .ref m), (1, .int x1), (2, .int x2), (3, .int bs), (4, .int nb)]) (by simp [List.lookup]) ?_
                have hX2 : LX F2 fo T := LX_cg (fun r h1 h2 => smW r (fun h => by simp only [List.mem_cons, List.not_mem_nil, or_false] at h; omega)) hX
                have hwW : ∀ r, r ∈ [7, 8, 13, 14, 15, 16, 18, 19, 20] → F2 r = F r := fun r hr => smW r (fun h => by simp only [List.mem_cons, List.not_mem_nil, or_false] at h hr; omega)
                obtain ⟨H, fi, se, hE⟩ := hSH
                have hTl : T.length ≤ 40 ∧ kN < T.length ∧ Wn = T.length := ⟨hT4.1, by omega, hT4.2⟩
                have hE2 : shE F2 fo bn T H fi se (kN + 1) := shE_cg hwW (fun r hr i hi => by simp only [List.mem_cons, List.not_mem_nil, or_false] at hr; rcases hr with rfl | rfl | rfl | rfl | rfl | rfl | rfl; (exact hoff 76 (by decide) i (by omega)); (rw [s77_, ecx, updE, if_neg (by omega)]); (exact hoff 78 (by decide) i (by omega)); (exact hoff 79 (by decide) i (by omega)); (exact hoff 80 (by decide) i (by omega)); (exact congrFun s81_ i); (exact hoff 82 (by decide) i (by omega))) (by omega) (by rw [show kN + 1 = pp by omega]; exact hE)
                have h77 : F2 77 (Int32.toNatClampNeg xq) = F 8 (Int32.toNatClampNeg wq) := by rw [s77_, updE, if_pos rfl]
                have hou2 : outS F0 F2 bn := outS_st (k := kN) hou (fun r hr i hi => by simp only [List.mem_cons, List.not_mem_nil, or_false] at hr; rcases hr with rfl | rfl | rfl | rfl | rfl | rfl | rfl; (exact hoff 76 (by decide) i hi); (rw [s77_, ecx, updE, if_neg hi]); (exact hoff 78 (by decide) i hi); (exact hoff 79 (by decide) i hi); (exact hoff 80 (by decide) i hi); (exact congrFun s81_ i); (exact hoff 82 (by decide) i hi)) (by omega)
                refine l_X12_shortensAE (lf := 1) (pr := 0) (wq := wq) (xq := xq) (kN := kN) hb hf ⟨hkN, by omega, by omega⟩ qx hTl qw ?_ 1 _ _ _ _ _ hS9 hxN (RI_fx hR hxx (by decide) (by decide)) hfo hN2 hW62 hou2 hP2 hX2 hE2 (by rw [smW 8 (by decide)]; exact h77) (by rw [smW 7 (by decide)]; exact h76) h80 (by rw [smW 7 (by decide)]; exact (Or.inl ⟨rfl, (show (F 7 (Int32.toNatClampNeg wq)).toInt ≤ 1 by omega)⟩)) (by rw [smW 7 (by decide)]; exact (Or.inr ⟨rfl, (show ¬ (3 ≤ (F 7 (Int32.toNatClampNeg wq)).toInt ∧ (F 7 (Int32.toNatClampNeg wq)).toInt ≤ 5) by omega)⟩)) (by decide)
                clear hS
                intro n z F G fm hS hx hR hfo hN hW6 hou hP hSH
                refine gz_iinc (v := (kk + (-1))) (lv' := [(5, .int (kk + (-1))), (0, .ref m), (1, .int x1), (2, .int x2), (3, .int bs), (4, .int nb)]) dX12_shortens_452 rfl (congrArg (fun z => kk + z) oi_m1) (by decide) rfl ?_
                refine gz_goto (tgt := 55) dX12_shortens_455 (by decide) ?_
                refine gz_sub (lv' := [(5, .int (kk + (-1))), (0, .ref m), (1, .int x1), (2, .int x2), (3, .int bs), (4, .int nb)]) (by simp [List.lookup]) ?_
                have hdc : (kk + (-1)).toInt = kk.toInt - 1 := T_dec (by omega) (by omega)
                rw [← hdc] at hP
                generalize kk + (-1) = k2 at hdc hP ⊢
                exact ih k2 kk.toInt.toNat _ _ _ _ _ hS hx (hR) (hfo) (hN) (hW6) (hou) (hP) (hSH) (by omega) (by omega)
              ·
                try simp only [mIn_0, lgc_lt, lgc_gt, lgc_le, lgc_ge, lgc_eq] at c_170
                try simp only [fl_lt, fl_le, fl_eq, fL_w, fL_lt, fL_le, tm1, tm10k, tm9, tm99, Int32.reduceToInt, Int64.reduceToInt, Int.not_lt, Int.not_le] at c_170
                refine gz_iconst (v := 1) dX12_shortens_173 (by decide) ?_
                refine gz_goto (tgt := 178) dX12_shortens_174 (by decide) ?_
                refine gz_istore (lv' := [(9, .int 1), (8, .int 1), (7, .int xq), (6, .int wq), (5, .int kk), (0, .ref m), (1, .int x1), (2, .int x2), (3, .int bs), (4, .int nb)]) dX12_shortens_178 (by decide) rfl ?_
                exfalso; omega

set_option maxHeartbeats 4000000 in
set_option maxRecDepth 100000 in
theorem k_X12_shortensE {l : Launch} {D : va_G} {cy : Nat → ClassId} {b : Nat} {f : gMem} {m : Nat} {a : Nat → Nat} {f0 : gMem} {n : Nat → Int32} {z : Nat → Int64} {F : Nat → Nat → Int32} {G : Nat → Nat → Int64}  {x1 x2 : Int32} {T : List Hd} (hS : mS cy m a f0 n z F G f) (hR : RI n F) (hN : NR F) (h1 : 0 ≤ x1.toInt ∧ x1.toInt < (n 5).toInt) (h2 : 0 ≤ x2.toInt ∧ x2.toInt ≤ 1) (hX : LX F (Int32.toNatClampNeg x1) T) : gC l D cy b yX12_shortens cX12_shortens 11 none 3 0 0 [.ref m, .int x1, .int x2] f (pV fun f2 => ∃ (n2 : Nat → Int32) (z2 : Nat → Int64) (F2 : Nat → Nat → Int32) (G2 : Nat → Nat → Int64), mS cy m a f0 n2 z2 F2 G2 f2 ∧ fx [] [] [76, 77, 78, 79, 80, 81, 82] [] n z F G n2 z2 F2 G2 ∧ NR F2 ∧ SHp F2 (Int32.toNatClampNeg x1) ((F 6 (Int32.toNatClampNeg x1)).toInt.toNat) (41 * Int32.toNatClampNeg x2) (-1) ∧ outS F F2 (41 * Int32.toNatClampNeg x2) ∧ ∃ (H : Nat → Hd) (fi se : Nat → Nat), shE F2 (Int32.toNatClampNeg x1) (41 * Int32.toNatClampNeg x2) T H fi se 0) := by
  obtain ⟨a0, a4, a5, bA, bW, a30, bL, a38, bP, a53, a47, a88⟩ := id hR
  refine gC_of (by decide) (Nat.le_of_ble_eq_true rfl) ?_
  show gG l _ _ _ D cy b cX12_shortens 11 _ RX12 "shortens" 0 0 f 0 [(0, .ref m), (1, .int x1), (2, .int x2)] []
  refine gz_bipush (v := 41) dX12_shortens_0 (by decide) ?_
  refine gz_iload_n dX12_shortens_2 rfl rfl ?_
  refine gz_imul dX12_shortens_3 ?_
  obtain ⟨bs, hbs⟩ : ∃ v_, v_ = (41 * x2) := ⟨_, rfl⟩
  refine gz_ev (w := .int bs) (congrArg Value.int hbs.symm) ?_
  have qb : bs.toInt = 41 * x2.toInt := by rw [hbs]; exact (T_mul (show (41 : Int32).toInt = 41 from rfl) (rfl : (x2).toInt = (x2).toInt) (by omega))
  refine gz_istore_n (lv' := [(3, .int bs), (0, .ref m), (1, .int x1), (2, .int x2)]) dX12_shortens_4 rfl (by decide) rfl ?_
  refine gz_iload_n dX12_shortens_5 rfl rfl ?_
  refine gz_bipush (v := 40) dX12_shortens_6 (by decide) ?_
  refine gz_iadd dX12_shortens_8 ?_
  obtain ⟨nb, hnb⟩ : ∃ v_, v_ = (bs + 40) := ⟨_, rfl⟩
  refine gz_ev (w := .int nb) (congrArg Value.int hnb.symm) ?_
  have qn : nb.toInt = bs.toInt + 40 := by rw [hnb]; exact (T_add (rfl : (bs).toInt = (bs).toInt) (show (40 : Int32).toInt = 40 from rfl) (by omega))
  have qc1 := clI (i := x1) (by omega)
  have qc2 := clI (i := x2) (by omega)
  have qcn := clI (i := nb) (by omega)
  have q40 := (bW (Int32.toNatClampNeg x1) (by omega)).1
  refine gz_istore (lv' := [(4, .int nb), (3, .int bs), (0, .ref m), (1, .int x1), (2, .int x2)]) dX12_shortens_9 (by decide) rfl ?_
  refine gz_aload_n dX12_shortens_11 rfl rfl ?_
  refine mg_210 hS dX12_shortens_12 ?_
  refine gz_iload dX12_shortens_15 rfl ?_
  refine gz_iconst (v := 0) dX12_shortens_17 (by decide) ?_
  refine m_iast 76 hS rfl (N := 82) rfl ((by exact vin_T (rfl : nb.toInt = nb.toInt) (by omega) (by omega))) dX12_shortens_18 (fun f_1 hS_1q => ?_)
  have hS_1 : mS cy m a f0 n z (va_up F 76 (upd (F 76) (Int32.toNatClampNeg nb) 0)) G f_1 := hS_1q
  refine gz_aload_n dX12_shortens_19 rfl rfl ?_
  refine mg_213 hS_1 dX12_shortens_20 ?_
  refine gz_iload dX12_shortens_23 rfl ?_
  refine gz_iconst (v := (-1)) dX12_shortens_25 (by decide) ?_
  refine m_iast 77 hS_1 rfl (N := 82) rfl ((by exact vin_T (rfl : nb.toInt = nb.toInt) (by omega) (by omega))) dX12_shortens_26 (fun f_2 hS_2q => ?_)
  have hS_2 : mS cy m a f0 n z (va_up (va_up F 76 (upd (F 76) (Int32.toNatClampNeg nb) 0)) 77 (upd (F 77) (Int32.toNatClampNeg nb) (-1))) G f_2 := hS_2q
  refine gz_aload_n dX12_shortens_27 rfl rfl ?_
  refine mg_225 hS_2 dX12_shortens_28 ?_
  refine gz_iload dX12_shortens_31 rfl ?_
  refine gz_iload dX12_shortens_33 rfl ?_
  refine m_iast 81 hS_2 rfl (N := 82) rfl ((by exact vin_T (rfl : nb.toInt = nb.toInt) (by omega) (by omega))) dX12_shortens_35 (fun f_3 hS_3q => ?_)
  have hS_3 : mS cy m a f0 n z (va_up (va_up (va_up F 76 (upd (F 76) (Int32.toNatClampNeg nb) 0)) 77 (upd (F 77) (Int32.toNatClampNeg nb) (-1))) 81 (upd (F 81) (Int32.toNatClampNeg nb) nb)) G f_3 := hS_3q
  refine gz_aload_n dX12_shortens_36 rfl rfl ?_
  refine mg_228 hS_3 dX12_shortens_37 ?_
  refine gz_iload dX12_shortens_40 rfl ?_
  refine gz_iload dX12_shortens_42 rfl ?_
  refine m_iast 82 hS_3 rfl (N := 82) rfl ((by exact vin_T (rfl : nb.toInt = nb.toInt) (by omega) (by omega))) dX12_shortens_44 (fun f_4 hS_4q => ?_)
  have hS_4 : mS cy m a f0 n z (va_up (va_up (va_up (va_up F 76 (upd (F 76) (Int32.toNatClampNeg nb) 0)) 77 (upd (F 77) (Int32.toNatClampNeg nb) (-1))) 81 (upd (F 81) (Int32.toNatClampNeg nb) nb)) 82 (upd (F 82) (Int32.toNatClampNeg nb) nb)) G f_4 := hS_4q
  refine gz_aload_n dX12_shortens_45 rfl rfl ?_
  refine mg_17 hS_4 dX12_shortens_46 ?_
  refine gz_iload_n dX12_shortens_49 rfl rfl ?_
  refine m_iald 6 hS_4 rfl (N := 22) rfl ((by exact vin_T (rfl : (x1).toInt = (x1).toInt) (by omega) (by omega))) dX12_shortens_50 ?_
  refine gz_ev (w := .int ((F 6) (Int32.toNatClampNeg x1))) rfl ?_
  refine gz_iconst (v := 1) dX12_shortens_51 (by decide) ?_
  refine gz_isub dX12_shortens_52 ?_
  refine gz_istore (lv' := [(5, .int (((F 6) (Int32.toNatClampNeg x1)) - 1)), (4, .int nb), (3, .int bs), (0, .ref m), (1, .int x1), (2, .int x2)]) dX12_shortens_53 (by decide) rfl ?_
  have hxx : fx [] [] [76, 77, 78, 79, 80, 81, 82] [] n z F G n z (va_up (va_up (va_up (va_up F 76 (upd (F 76) (Int32.toNatClampNeg nb) 0)) 77 (upd (F 77) (Int32.toNatClampNeg nb) (-1))) 81 (upd (F 81) (Int32.toNatClampNeg nb) nb)) 82 (upd (F 82) (Int32.toNatClampNeg nb) nb)) G := (fx_F (fx_F (fx_F (fx_F fx_rf (by decide)) (by decide)) (by decide)) (by decide))
  have r76_ : (va_up (va_up (va_up (va_up F 76 (upd (F 76) (Int32.toNatClampNeg nb) 0)) 77 (upd (F 77) (Int32.toNatClampNeg nb) (-1))) 81 (upd (F 81) (Int32.toNatClampNeg nb) nb)) 82 (upd (F 82) (Int32.toNatClampNeg nb) nb)) 76 = (upd (F 76) (Int32.toNatClampNeg nb) 0) := rfl
  have r77_ : (va_up (va_up (va_up (va_up F 76 (upd (F 76) (Int32.toNatClampNeg nb) 0)) 77 (upd (F 77) (Int32.toNatClampNeg nb) (-1))) 81 (upd (F 81) (Int32.toNatClampNeg nb) nb)) 82 (upd (F 82) (Int32.toNatClampNeg nb) nb)) 77 = (upd (F 77) (Int32.toNatClampNeg nb) (-1)) := rfl
  have r81_ : (va_up (va_up (va_up (va_up F 76 (upd (F 76) (Int32.toNatClampNeg nb) 0)) 77 (upd (F 77) (Int32.toNatClampNeg nb) (-1))) 81 (upd (F 81) (Int32.toNatClampNeg nb) nb)) 82 (upd (F 82) (Int32.toNatClampNeg nb) nb)) 81 = (upd (F 81) (Int32.toNatClampNeg nb) nb) := rfl
  have r82_ : (va_up (va_up (va_up (va_up F 76 (upd (F 76) (Int32.toNatClampNeg nb) 0)) 77 (upd (F 77) (Int32.toNatClampNeg nb) (-1))) 81 (upd (F 81) (Int32.toNatClampNeg nb) nb)) 82 (upd (F 82) (Int32.toNatClampNeg nb) nb)) 82 = (upd (F 82) (Int32.toNatClampNeg nb) nb) := rfl
  have hN2 : NR (va_up (va_up (va_up (va_up F 76 (upd (F 76) (Int32.toNatClampNeg nb) 0)) 77 (upd (F 77) (Int32.toNatClampNeg nb) (-1))) 81 (upd (F 81) (Int32.toNatClampNeg nb) nb)) 82 (upd (F 82) (Int32.toNatClampNeg nb) nb)) := by
    intro q hq
    obtain ⟨q1, q2, q3, q4, q5⟩ := hN q hq
    rw [r81_, r82_]
    simp only [updE]
    refine ⟨q1, q2, q3, ?_, ?_⟩ <;> (repeat' split) <;> omega
  have qk : (((F 6) (Int32.toNatClampNeg x1)) - 1).toInt = (F 6 (Int32.toNatClampNeg x1)).toInt - 1 := (T_sub (rfl : (((F 6) (Int32.toNatClampNeg x1))).toInt = (((F 6) (Int32.toNatClampNeg x1))).toInt) (show (1 : Int32).toInt = 1 from rfl) (by omega))
  have hP2 : SHp (va_up (va_up (va_up (va_up F 76 (upd (F 76) (Int32.toNatClampNeg nb) 0)) 77 (upd (F 77) (Int32.toNatClampNeg nb) (-1))) 81 (upd (F 81) (Int32.toNatClampNeg nb) nb)) 82 (upd (F 82) (Int32.toNatClampNeg nb) nb)) (Int32.toNatClampNeg x1) ((F 6 (Int32.toNatClampNeg x1)).toInt.toNat) (41 * Int32.toNatClampNeg x2) (((F 6) (Int32.toNatClampNeg x1)) - 1).toInt := ⟨by rw [show (41 * Int32.toNatClampNeg x2) + 40 = (Int32.toNatClampNeg nb) by omega, r76_, updE, if_pos rfl]; rfl, fun j hj1 hj2 => by omega⟩
  have hWT := hX.2.1
  have hW4 := hX.1.2.2.2.1
  have hSH : ∃ (H : Nat → Hd) (fi se : Nat → Nat), shE (va_up (va_up (va_up (va_up F 76 (upd (F 76) (Int32.toNatClampNeg nb) 0)) 77 (upd (F 77) (Int32.toNatClampNeg nb) (-1))) 81 (upd (F 81) (Int32.toNatClampNeg nb) nb)) 82 (upd (F 82) (Int32.toNatClampNeg nb) nb)) (Int32.toNatClampNeg x1) (41 * Int32.toNatClampNeg x2) T H fi se T.length := ⟨_, _, _, shE_n (by rw [show (41 * Int32.toNatClampNeg x2) + 40 = (Int32.toNatClampNeg nb) by omega, r76_, updE, if_pos rfl]; rfl) (by rw [show (41 * Int32.toNatClampNeg x2) + 40 = (Int32.toNatClampNeg nb) by omega, r77_, updE, if_pos rfl]; rfl) (by rw [show (41 * Int32.toNatClampNeg x2) + 40 = (Int32.toNatClampNeg nb) by omega, r81_, updE, if_pos rfl]; omega) (by rw [show (41 * Int32.toNatClampNeg x2) + 40 = (Int32.toNatClampNeg nb) by omega, r82_, updE, if_pos rfl]; omega) hW4⟩
  have hou : outS F (va_up (va_up (va_up (va_up F 76 (upd (F 76) (Int32.toNatClampNeg nb) 0)) 77 (upd (F 77) (Int32.toNatClampNeg nb) (-1))) 81 (upd (F 81) (Int32.toNatClampNeg nb) nb)) 82 (upd (F 82) (Int32.toNatClampNeg nb) nb)) (41 * Int32.toNatClampNeg x2) := by
    intro r hr i hi
    simp only [List.mem_cons, List.not_mem_nil, or_false] at hr
    rcases hr with rfl | rfl | rfl | rfl | rfl | rfl | rfl
    · rw [show (va_up (va_up (va_up (va_up F 76 (upd (F 76) (Int32.toNatClampNeg nb) 0)) 77 (upd (F 77) (Int32.toNatClampNeg nb) (-1))) 81 (upd (F 81) (Int32.toNatClampNeg nb) nb)) 82 (upd (F 82) (Int32.toNatClampNeg nb) nb)) 76 = (upd (F 76) (Int32.toNatClampNeg nb) 0) from rfl, updE, if_neg (by omega)]
    · rw [show (va_up (va_up (va_up (va_up F 76 (upd (F 76) (Int32.toNatClampNeg nb) 0)) 77 (upd (F 77) (Int32.toNatClampNeg nb) (-1))) 81 (upd (F 81) (Int32.toNatClampNeg nb) nb)) 82 (upd (F 82) (Int32.toNatClampNeg nb) nb)) 77 = (upd (F 77) (Int32.toNatClampNeg nb) (-1)) from rfl, updE, if_neg (by omega)]
    · rw [show (va_up (va_up (va_up (va_up F 76 (upd (F 76) (Int32.toNatClampNeg nb) 0)) 77 (upd (F 77) (Int32.toNatClampNeg nb) (-1))) 81 (upd (F 81) (Int32.toNatClampNeg nb) nb)) 82 (upd (F 82) (Int32.toNatClampNeg nb) nb)) 78 = (F 78) from rfl]
    · rw [show (va_up (va_up (va_up (va_up F 76 (upd (F 76) (Int32.toNatClampNeg nb) 0)) 77 (upd (F 77) (Int32.toNatClampNeg nb) (-1))) 81 (upd (F 81) (Int32.toNatClampNeg nb) nb)) 82 (upd (F 82) (Int32.toNatClampNeg nb) nb)) 79 = (F 79) from rfl]
    · rw [show (va_up (va_up (va_up (va_up F 76 (upd (F 76) (Int32.toNatClampNeg nb) 0)) 77 (upd (F 77) (Int32.toNatClampNeg nb) (-1))) 81 (upd (F 81) (Int32.toNatClampNeg nb) nb)) 82 (upd (F 82) (Int32.toNatClampNeg nb) nb)) 80 = (F 80) from rfl]
    · rw [show (va_up (va_up (va_up (va_up F 76 (upd (F 76) (Int32.toNatClampNeg nb) 0)) 77 (upd (F 77) (Int32.toNatClampNeg nb) (-1))) 81 (upd (F 81) (Int32.toNatClampNeg nb) nb)) 82 (upd (F 82) (Int32.toNatClampNeg nb) nb)) 81 = (upd (F 81) (Int32.toNatClampNeg nb) nb) from rfl, updE, if_neg (by omega)]
    · rw [show (va_up (va_up (va_up (va_up F 76 (upd (F 76) (Int32.toNatClampNeg nb) 0)) 77 (upd (F 77) (Int32.toNatClampNeg nb) (-1))) 81 (upd (F 81) (Int32.toNatClampNeg nb) nb)) 82 (upd (F 82) (Int32.toNatClampNeg nb) nb)) 82 = (upd (F 82) (Int32.toNatClampNeg nb) nb) from rfl, updE, if_neg (by omega)]
  refine gz_sub (lv' := [(5, .int (((F 6) (Int32.toNatClampNeg x1)) - 1)), (0, .ref m), (1, .int x1), (2, .int x2), (3, .int bs), (4, .int nb)]) (by simp [List.lookup]) ?_
  exact l_X12_shortensE (fo := (Int32.toNatClampNeg x1)) (Wn := (F 6 (Int32.toNatClampNeg x1)).toInt.toNat) (bn := (41 * Int32.toNatClampNeg x2)) (by omega) (by omega) hX ⟨hW4, by omega⟩ 41 (((F 6) (Int32.toNatClampNeg x1)) - 1) T.length _ _ _ _ _ hS_4 hxx (RI_fx hR hxx (by decide) (by decide)) (by omega) hN2 (by show (F 6 (Int32.toNatClampNeg x1)).toInt = _; omega) hou hP2 hSH (by omega) (by omega)
