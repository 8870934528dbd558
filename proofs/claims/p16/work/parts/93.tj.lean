/-- the DAY after: what the LIVES have -/
def dyA (Tf : Nat → List Hd) (S : Sn) (W : Lw) : Lw := dyT Tf S W.2.2.length 0 W
theorem sRn_cg {S : Sn} {z z2 : Nat → Int64} {G G2 : Nat → Nat → Int64} (h : sRn S z G) (hz : z2 29 = z 29) (hG : G2 28 = G 28) : sRn S z2 G2 := ⟨hz.trans h.1, fun i hi => (congrFun hG i).trans (h.2 i hi)⟩

set_option maxHeartbeats 4000000 in
set_option maxRecDepth 100000 in
theorem l_X12_day2E {l : Launch} {D : va_G} {cy : Nat → ClassId} {b : Nat} {m : Nat} {a : Nat → Nat} {f0 : gMem} {n0 : Nat → Int32} {z0 : Nat → Int64} {F0 : Nat → Nat → Int32} {G0 : Nat → Nat → Int64}  {x1 bf : Int32} {lN fo : Nat} {T : List Hd} {S : Sn} {aN bN : Int} {ZF : Ls} {F1 : Nat → Nat → Int32} {G1 : Nat → Nat → Int64} {PX : Int32 → (Nat → Int32) → (Nat → Nat → Int32) → (Nat → Nat → Int64) → Prop} (hlN : x1.toInt = (lN : Int) ∧ lN < 40) (hfo : fo < 20) (hSb : -9000000000000000000 ≤ S.1 ∧ S.1 ≤ 9000000000000000000) (hq : ∀  (n : Nat → Int32) (z : Nat → Int64) (F : Nat → Nat → Int32) (G : Nat → Nat → Int64) (fm : gMem), mS cy m a f0 n z F G fm → fx [0, 1, 38, 43] [29] [35, 36, 39, 40, 41, 42, 44] [28, 34, 37, 45] n0 z0 F0 G0 n z F G → (RI n F) → (n 0 = n0 0 + 1) → ((n 30).toInt ≤ 40 ∧ 0 ≤ x1.toInt ∧ x1.toInt < (n 30).toInt) → (sRn S z G) → ((n 0).toInt = S.1) → (RSt n F G lN fo ZF) → (oL F1 G1 F G lN) → gG l (gRm 4 0 0) (gQf D b (pI fun r f2 => ∃ (n2 : Nat → Int32) (z2 : Nat → Int64) (F2 : Nat → Nat → Int32) (G2 : Nat → Nat → Int64), mS cy m a f0 n2 z2 F2 G2 f2 ∧ fx [0, 1, 38, 43] [29] [35, 36, 39, 40, 41, 42, 44] [28, 34, 37, 45] n0 z0 F0 G0 n2 z2 F2 G2 ∧ RI n2 F2 ∧ n2 0 = n0 0 + 1 ∧ PX r n2 F2 G2) 0 0) gTt D cy b cX12_day 10 (some .int) RX12 "day" 0 0 fm 176 [(2, .int x1), (0, .ref m), (1, .int bf)] []) : ∀ (k : Nat) (left x2 : Int32) (Z : Ls) (n : Nat → Int32) (z : Nat → Int64) (F : Nat → Nat → Int32) (G : Nat → Nat → Int64) (fm : gMem), mS cy m a f0 n z F G fm → fx [0, 1, 38, 43] [29] [35, 36, 39, 40, 41, 42, 44] [28, 34, 37, 45] n0 z0 F0 G0 n z F G → (RI n F) → (n 0 = n0 0 + 1) → (0 ≤ x1.toInt ∧ x1.toInt < (n 30).toInt) → (0 ≤ x2.toInt ∧ x2.toInt + left.toInt ≤ (F 35 (Int32.toNatClampNeg x1)).toInt) → (left.toInt < (k : Int) ∧ 0 ≤ left.toInt) → (LX F fo T) → (sRn S z G) → ((n 0).toInt = S.1) → (RSt n F G lN fo Z) → (oL F1 G1 F G lN) → (okQ T Z.2.2.1) → (wkT T S (lN : Int) aN bN left.toInt.toNat x2.toInt.toNat Z = ZF) → gG l (gRm 4 0 0) (gQf D b (pI fun r f2 => ∃ (n2 : Nat → Int32) (z2 : Nat → Int64) (F2 : Nat → Nat → Int32) (G2 : Nat → Nat → Int64), mS cy m a f0 n2 z2 F2 G2 f2 ∧ fx [0, 1, 38, 43] [29] [35, 36, 39, 40, 41, 42, 44] [28, 34, 37, 45] n0 z0 F0 G0 n2 z2 F2 G2 ∧ RI n2 F2 ∧ n2 0 = n0 0 + 1 ∧ PX r n2 F2 G2) 0 0) gTt D cy b cX12_day 10 (some .int) RX12 "day" 0 0 fm 51 [(4, .int left), (3, .int x2), (2, .int x1), (0, .ref m), (1, .int bf)] [] := by
  intro k
  induction k with
  | zero =>
    intro left x2 Z n z F G fm hS hx hR h0 hl hc hk hX hsR h0s hSt hO hQ hW
    exfalso; omega
  | succ k ih =>
    intro left x2 Z n z F G fm hS hx hR h0 hl hc hk hX hsR h0s hSt hO hQ hW
    obtain ⟨a0, a4, a5, bA, bW, a30, bL, a38, bP, a53, a47, a88⟩ := id hR
    have qc1 := clI (i := x1) (by omega)
    have qc2 := clI (i := x2) (by omega)
    have qL := bL (Int32.toNatClampNeg x1) (by omega)
    have qb : left.toInt ≤ 40 := by omega
    have ecl : (Int32.toNatClampNeg x1) = lN := by omega
    have qi : (40 * x1 + x2).toInt = 40 * x1.toInt + x2.toInt := T_add (T_mul (show (40 : Int32).toInt = 40 from rfl) rfl (by omega)) rfl (by omega)
    refine gz_iload dX12_day_51 rfl ?_
    refine gz_if_le (tgt := 176) dX12_day_53 (by decide) (fun c_53 => ?_) (fun c_53 => ?_)
    ·
      try simp only [mIn_0, lgc_lt, lgc_gt, lgc_le, lgc_ge, lgc_eq] at c_53
      try simp only [fl_lt, fl_le, fl_eq, fL_w, fL_lt, fL_le, tm1, tm10k, tm9, tm99, Int32.reduceToInt, Int64.reduceToInt, Int.not_lt, Int.not_le] at c_53
      refine gz_sub (lv' := [(2, .int x1), (0, .ref m), (1, .int bf)]) (by simp [List.lookup]) ?_
      exact hq  _ _ _ _ _ hS hx (hR) (h0) (by omega) (hsR) (h0s) ((by rw [← hW, show left.toInt.toNat = 0 by omega]; exact hSt)) (hO)
    ·
      try simp only [mIn_0, lgc_lt, lgc_gt, lgc_le, lgc_ge, lgc_eq] at c_53
      try simp only [fl_lt, fl_le, fl_eq, fL_w, fL_lt, fL_le, tm1, tm10k, tm9, tm99, Int32.reduceToInt, Int64.reduceToInt, Int.not_lt, Int.not_le] at c_53
      refine gz_aload_n dX12_day_56 rfl rfl ?_
      refine mg_112 hS dX12_day_57 ?_
      refine gz_bipush (v := 40) dX12_day_60 (by decide) ?_
      refine gz_iload_n dX12_day_62 rfl rfl ?_
      refine gz_imul dX12_day_63 ?_
      refine gz_iload_n dX12_day_64 rfl rfl ?_
      refine gz_iadd dX12_day_65 ?_
      refine m_iald 36 hS rfl (N := 1600) rfl ((by exact vin_T qi (by omega) (by omega))) dX12_day_66 ?_
      have hkl : x2.toInt.toNat < Z.2.2.1.length := by have z9 := hSt.2.1.1; rw [← ecl] at z9; omega
      obtain ⟨he1, he2⟩ := hSt.2.2.2 x2.toInt.toNat hkl
      have hsd := hQ.2 _ (gtD_mem (d := (0, 0)) hkl)
      have ecq : Int32.toNatClampNeg (40 * x1 + x2) = 40 * lN + x2.toInt.toNat := by have := clI (i := 40 * x1 + x2) (by omega); omega
      obtain ⟨wv, hwv⟩ : ∃ wv, wv = ((F 36) (Int32.toNatClampNeg ((40 * x1) + x2))) := ⟨_, rfl⟩
      refine gz_ev (w := .int wv) (congrArg Value.int hwv.symm) ?_
      have hv : vS F (n 5).toInt wv := by rw [hwv, show Int32.toNatClampNeg (40 * x1 + x2) = 40 * (Int32.toNatClampNeg x1) + Int32.toNatClampNeg x2 by have := clI (i := 40 * x1 + x2) (by omega); omega]; exact rL_S bL (by omega) (by omega)
      have qv := vW_lt bW a5 hv.1
      have qk : (F 7 (Int32.toNatClampNeg wv)).toInt = 4 ∨ (F 7 (Int32.toNatClampNeg wv)).toInt = 6 ∨ (F 7 (Int32.toNatClampNeg wv)).toInt = 7 := hv.2
      have hwx : wv.toInt = 40 * (fo : Int) + ((Z.2.2.1.getD x2.toInt.toNat (0, 0)).1 : Int) ∧ (Z.2.2.1.getD x2.toInt.toNat (0, 0)).1 < T.length := ⟨by rw [hwv, ecq]; exact he1, hsd.1⟩
      have hT4 := hX.1.2.2.2.1
      have hokT := hX.1.1
      have hvT_ := hX.1.2.1
      obtain ⟨xd, xv, xo1, xo2, _⟩ := LX_at bA hfo hX hwx.2
      have ecw : Int32.toNatClampNeg wv = 40 * fo + (Z.2.2.1.getD x2.toInt.toNat (0, 0)).1 := by rw [clN]; omega
      rw [← ecw] at xd xo1 xo2
      have qkd := xd.1
      have hak := arH_k xv
      have hch := (st_ch hokT hvT_ hsd).1
      have hup := (ch_lk hokT hvT_ hwx.2).1 (by omega)
      clear he1
      refine gz_istore (lv' := [(5, .int wv), (4, .int left), (3, .int x2), (2, .int x1), (0, .ref m), (1, .int bf)]) dX12_day_67 (by decide) rfl ?_
      refine gz_aload_n dX12_day_69 rfl rfl ?_
      refine mg_115 hS dX12_day_70 ?_
      refine gz_bipush (v := 40) dX12_day_73 (by decide) ?_
      refine gz_iload_n dX12_day_75 rfl rfl ?_
      refine gz_imul dX12_day_76 ?_
      refine gz_iload_n dX12_day_77 rfl rfl ?_
      refine gz_iadd dX12_day_78 ?_
      refine m_lald 37 hS rfl (N := 1600) rfl ((by exact vin_T qi (by omega) (by omega))) dX12_day_79 ?_
      obtain ⟨fv, hfv⟩ : ∃ fv, fv = ((G 37) (Int32.toNatClampNeg ((40 * x1) + x2))) := ⟨_, rfl⟩
      refine gz_ev (w := .long fv) (congrArg Value.long hfv.symm) ?_
      have hfy : fv.toInt = (Z.2.2.1.getD x2.toInt.toNat (0, 0)).2 := by rw [hfv, ecq]; exact he2
      clear he2
      refine gz_lstore (lv' := [(6, .long fv), (5, .int wv), (4, .int left), (3, .int x2), (2, .int x1), (0, .ref m), (1, .int bf)]) dX12_day_80 (by decide) rfl ?_
      refine gz_aload_n dX12_day_82 rfl rfl ?_
      refine gz_iload dX12_day_83 rfl ?_
      refine scX12_374 (k_X12_isLapsedE (x1 := wv) (fo := fo) (wN := (Z.2.2.1.getD x2.toInt.toNat (0, 0)).1) (S := S) hS bA hX hsR hfo hwx) hS.1 ⟨(Nat.le_of_ble_eq_true rfl), (Nat.le_of_ble_eq_true rfl)⟩ ⟨(Nat.le_of_ble_eq_true rfl), (Nat.le_of_ble_eq_true rfl)⟩ rfl rfl (Nat.le_of_ble_eq_true rfl) dX12_day_85 ?_
      rintro r_1 f9 ⟨hb_1, y9⟩; rw [y9]
      rcases hb_1 with ⟨hr1, hlp⟩ | ⟨hr1, hlp⟩
      ·
        refine gz_ev (w := .int 1) (congrArg Value.int hr1) ?_
        refine gz_istore (lv' := [(8, .int 1), (6, .long fv), (5, .int wv), (4, .int left), (3, .int x2), (2, .int x1), (0, .ref m), (1, .int bf)]) dX12_day_88 (by decide) rfl ?_
        refine gz_iload dX12_day_90 rfl ?_
        refine gz_if_ne (tgt := 127) dX12_day_92 (by decide) (fun c_92 => ?_) (fun c_92 => ?_)
        ·
          try simp only [mIn_0, lgc_lt, lgc_gt, lgc_le, lgc_ge, lgc_eq] at c_92
          try simp only [fl_lt, fl_le, fl_eq, fL_w, fL_lt, fL_le, tm1, tm10k, tm9, tm99, Int32.reduceToInt, Int64.reduceToInt, Int.not_lt, Int.not_le] at c_92
          refine gz_iconst (v := 1) dX12_day_127 (by decide) ?_
          refine gz_goto (tgt := 132) dX12_day_128 (by decide) ?_
          refine gz_istore (lv' := [(9, .int 1), (8, .int 1), (6, .long fv), (5, .int wv), (4, .int left), (3, .int x2), (2, .int x1), (0, .ref m), (1, .int bf)]) dX12_day_132 (by decide) rfl ?_
          refine gz_iload dX12_day_134 rfl ?_
          refine gz_if_ne (tgt := 145) dX12_day_136 (by decide) (fun c_136 => ?_) (fun c_136 => ?_)
          ·
            try simp only [mIn_0, lgc_lt, lgc_gt, lgc_le, lgc_ge, lgc_eq] at c_136
            try simp only [fl_lt, fl_le, fl_eq, fL_w, fL_lt, fL_le, tm1, tm10k, tm9, tm99, Int32.reduceToInt, Int64.reduceToInt, Int.not_lt, Int.not_le] at c_136
            refine gz_aload_n dX12_day_145 rfl rfl ?_
            refine gz_iload_n dX12_day_146 rfl rfl ?_
            refine gz_iload_n dX12_day_147 rfl rfl ?_
            refine scX12_406 (k_X12_leavesE (x1 := x1) (x2 := x2) (lN := lN) (kN := x2.toInt.toNat) (fo := fo) (Z := Z) hS hR (by omega) (by omega) hlN ⟨by omega, hkl⟩ hSt) hS.1 ⟨(Nat.le_of_ble_eq_true rfl), (Nat.le_of_ble_eq_true rfl)⟩ ⟨(Nat.le_of_ble_eq_true rfl), (Nat.le_of_ble_eq_true rfl)⟩ rfl rfl (Nat.le_of_ble_eq_true rfl) dX12_day_148 ?_
            rintro f_2 ⟨n_2, z_2, F_2, G_2, hS_2, hx2, hR_2, h35_2, hs_2, hol_2⟩
            have hxb := hx2
            refine gz_iload dX12_day_151 rfl ?_
            refine gz_if_ne (tgt := 170) dX12_day_153 (by decide) (fun c_153 => ?_) (fun c_153 => ?_)
            ·
              try simp only [mIn_0, lgc_lt, lgc_gt, lgc_le, lgc_ge, lgc_eq] at c_153
              try simp only [fl_lt, fl_le, fl_eq, fL_w, fL_lt, fL_le, tm1, tm10k, tm9, tm99, Int32.reduceToInt, Int64.reduceToInt, Int.not_lt, Int.not_le] at c_153
              refine gz_iinc (v := (left + (-1))) (lv' := [(4, .int (left + (-1))), (9, .int 1), (8, .int 1), (6, .long fv), (5, .int wv), (3, .int x2), (2, .int x1), (0, .ref m), (1, .int bf)]) dX12_day_170 rfl (congrArg (fun z => left + z) oi_m1) (by decide) rfl ?_
              refine gz_goto (tgt := 51) dX12_day_173 (by decide) ?_
              refine gz_sub (lv' := [(4, .int (left + (-1))), (3, .int x2), (2, .int x1), (0, .ref m), (1, .int bf)]) (by simp [List.lookup]) ?_
              have hxx : fx [1, 38, 43] [29] [35, 36, 39, 40, 41, 42, 44] [28, 34, 37, 45] n z F G n_2 z_2 F_2 G_2 := (fx_tr fx_rf hx2 (by decide))
              have hdc : (left + (-1)).toInt = left.toInt - 1 := T_dec (by omega) (by omega)
              generalize left + (-1) = left2 at hdc ⊢
              have hlm : left.toInt.toNat = left2.toInt.toNat + 1 := by omega
              rw [hlm] at hW
              have qs : (F_2 35 (Int32.toNatClampNeg x1)).toInt = (F 35 (Int32.toNatClampNeg x1)).toInt - 1 := by rw [h35_2, updE, if_pos rfl]; exact T_sub rfl (show (1 : Int32).toInt = 1 from rfl) (by omega)
              have qm : (F 35 (Int32.toNatClampNeg x1)).toInt - 1 ≤ (F_2 35 (Int32.toNatClampNeg x1)).toInt := by omega
              have hgo : goB T S (Z.2.2.1.getD x2.toInt.toNat (0, 0)).1 = true := goB_st.mpr (Or.inl hlp)
              have hdn := dpE_n (S := S) (l := (lN : Int)) (a := aN) (b := bN) (σ := Z) (k := x2.toInt.toNat) (ev_lp (f := (Z.2.2.1.getD x2.toInt.toNat (0, 0)).2) (lp_ch (upO_ok hokT) hT4 hch hup hlp))
              have hSt9 : RSt n_2 F_2 G_2 lN fo (dpE T S (lN : Int) aN bN x2.toInt.toNat ((Z.2.2.1.getD x2.toInt.toNat (0, 0)).1 + 1) Z) := by rw [hdn]; exact hs_2
              have hO9 := oL_tr hO hol_2
              have hQ9 := (dpE_ok (S := S) (l := (lN : Int)) (a := aN) (b := bN) hokT hvT_ hQ hkl hch).1
              rw [wkT_y hgo] at hW
              exact ih left2 x2 (dpE T S (lN : Int) aN bN x2.toInt.toNat ((Z.2.2.1.getD x2.toInt.toNat (0, 0)).1 + 1) Z) _ _ _ _ _ hS_2 (fx_tr hx hx2 (by decide)) (hR_2) (by rw [hxx.1 0 (by decide)]; exact h0) (by rw [hxx.1 30 (by decide)]; omega) (by omega) (by omega) ((LX_cg (fun r h1 h2 => hxx.2.2.1 r (fun h => by simp only [List.mem_cons, List.not_mem_nil, or_false] at h <;> omega)) hX)) (sRn_cg hsR (show z_2 29 = (z 29) from (hx2.2.1 29 (by decide))) (show G_2 28 = (G 28) from (hx2.2.2.2 28 (by decide)))) (by rw [hxx.1 0 (by decide)]; exact h0s) (hSt9) (hO9) (hQ9) (hW)
            · exact absurd c_153 (by decide)
          · exact absurd c_136 (by decide)
        · exact absurd c_92 (by decide)
      ·
        refine gz_ev (w := .int 0) (congrArg Value.int hr1) ?_
        refine gz_istore (lv' := [(8, .int 0), (6, .long fv), (5, .int wv), (4, .int left), (3, .int x2), (2, .int x1), (0, .ref m), (1, .int bf)]) dX12_day_88 (by decide) rfl ?_
        refine gz_iload dX12_day_90 rfl ?_
        refine gz_if_ne (tgt := 127) dX12_day_92 (by decide) (fun c_92 => ?_) (fun c_92 => ?_)
        · exact absurd c_92 (by decide)
        ·
          try simp only [mIn_0, lgc_lt, lgc_gt, lgc_le, lgc_ge, lgc_eq] at c_92
          try simp only [fl_lt, fl_le, fl_eq, fL_w, fL_lt, fL_le, tm1, tm10k, tm9, tm99, Int32.reduceToInt, Int64.reduceToInt, Int.not_lt, Int.not_le] at c_92
          refine gz_aload_n dX12_day_95 rfl rfl ?_
          refine mg_20 hS dX12_day_96 ?_
          refine gz_iload dX12_day_99 rfl ?_
          refine m_iald 7 hS rfl (N := 880) rfl ((by exact vin_T (rfl : (wv).toInt = (wv).toInt) (by omega) (by omega))) dX12_day_101 ?_
          refine gz_iconst (v := 4) dX12_day_102 (by decide) ?_
          refine gz_icmp_eq (tgt := 127) dX12_day_103 (by decide) (fun c_103 => ?_) (fun c_103 => ?_)
          ·
            try simp only [mIn_0, lgc_lt, lgc_gt, lgc_le, lgc_ge, lgc_eq] at c_103
            try simp only [fl_lt, fl_le, fl_eq, fL_w, fL_lt, fL_le, tm1, tm10k, tm9, tm99, Int32.reduceToInt, Int64.reduceToInt, Int.not_lt, Int.not_le] at c_103
            refine gz_iconst (v := 1) dX12_day_127 (by decide) ?_
            refine gz_goto (tgt := 132) dX12_day_128 (by decide) ?_
            refine gz_istore (lv' := [(9, .int 1), (8, .int 0), (6, .long fv), (5, .int wv), (4, .int left), (3, .int x2), (2, .int x1), (0, .ref m), (1, .int bf)]) dX12_day_132 (by decide) rfl ?_
            refine gz_iload dX12_day_134 rfl ?_
            refine gz_if_ne (tgt := 145) dX12_day_136 (by decide) (fun c_136 => ?_) (fun c_136 => ?_)
            ·
              try simp only [mIn_0, lgc_lt, lgc_gt, lgc_le, lgc_ge, lgc_eq] at c_136
              try simp only [fl_lt, fl_le, fl_eq, fL_w, fL_lt, fL_le, tm1, tm10k, tm9, tm99, Int32.reduceToInt, Int64.reduceToInt, Int.not_lt, Int.not_le] at c_136
              refine gz_aload_n dX12_day_145 rfl rfl ?_
              refine gz_iload_n dX12_day_146 rfl rfl ?_
              refine gz_iload_n dX12_day_147 rfl rfl ?_
              refine scX12_406 (k_X12_leavesE (x1 := x1) (x2 := x2) (lN := lN) (kN := x2.toInt.toNat) (fo := fo) (Z := Z) hS hR (by omega) (by omega) hlN ⟨by omega, hkl⟩ hSt) hS.1 ⟨(Nat.le_of_ble_eq_true rfl), (Nat.le_of_ble_eq_true rfl)⟩ ⟨(Nat.le_of_ble_eq_true rfl), (Nat.le_of_ble_eq_true rfl)⟩ rfl rfl (Nat.le_of_ble_eq_true rfl) dX12_day_148 ?_
              rintro f_3 ⟨n_3, z_3, F_3, G_3, hS_3, hx3, hR_3, h35_3, hs_3, hol_3⟩
              have hxb := hx3
              refine gz_iload dX12_day_151 rfl ?_
              refine gz_if_ne (tgt := 170) dX12_day_153 (by decide) (fun c_153 => ?_) (fun c_153 => ?_)
              · exact absurd c_153 (by decide)
              ·
                try simp only [mIn_0, lgc_lt, lgc_gt, lgc_le, lgc_ge, lgc_eq] at c_153
                try simp only [fl_lt, fl_le, fl_eq, fL_w, fL_lt, fL_le, tm1, tm10k, tm9, tm99, Int32.reduceToInt, Int64.reduceToInt, Int.not_lt, Int.not_le] at c_153
                refine gz_aload_n dX12_day_156 rfl rfl ?_
                refine gz_iload_n dX12_day_157 rfl rfl ?_
                refine gz_aload_n dX12_day_158 rfl rfl ?_
                refine mg_32 hS_3 dX12_day_159 ?_
                refine gz_iload dX12_day_162 rfl ?_
                refine m_iald 11 hS_3 rfl (N := 880) rfl ((by exact vin_T (rfl : (wv).toInt = (wv).toInt) (by omega) (by omega))) dX12_day_164 ?_
                refine gz_ev (w := .int ((F 11) (Int32.toNatClampNeg wv))) (congrArg Value.int (congrFun (hx3.2.2.1 11 (by decide)) _)) ?_
                refine gz_lload dX12_day_165 rfl ?_
                refine scX12_403 (k_X12_acquiresE (x1 := x1) (x2 := ((F 11) (Int32.toNatClampNeg wv))) (lN := lN) (fo := fo) (T := T) (S := S) (aN := aN) (bN := bN) (wN := (Z.2.2.1.getD x2.toInt.toNat (0, 0)).1 + 1) (fN := (Z.2.2.1.getD x2.toInt.toNat (0, 0)).2) hS_3 hR_3 (by rw [hxb.1 30 (by decide)]; omega) (by rw [hxb.1 5 (by decide)]; exact vW_cg (hxb.2.2.1 6 (by decide)) (show vW F (n 5).toInt ((F 11) (Int32.toNatClampNeg wv)).toInt from (one_ok bW hv.1 (show 2 ≤ (F 7 (Int32.toNatClampNeg wv)).toInt by omega)).1)) hlN hfo hSb (LX_cg (fun r h1 h2 => hxb.2.2.1 r (fun h => by simp only [List.mem_cons, List.not_mem_nil, or_false] at h <;> omega)) hX) (sRn_cg hsR (hxb.2.1 29 (by decide)) (hxb.2.2.2 28 (by decide))) (by rw [hxb.1 0 (by decide)]; exact h0s) hs_3 ⟨by have q9 := xo1 (by omega); omega, hch⟩ ⟨hfy, hsd.2.2⟩) hS_3.1 ⟨(Nat.le_of_ble_eq_true rfl), (Nat.le_of_ble_eq_true rfl)⟩ ⟨(Nat.le_of_ble_eq_true rfl), (Nat.le_of_ble_eq_true rfl)⟩ rfl rfl (Nat.le_of_ble_eq_true rfl) dX12_day_167 ?_
                rintro f_4 ⟨n_4, z_4, F_4, G_4, hS_4, hx4, hR_4, hm_4, hs_4, hol_4⟩
                try simp only [(show n_3 1 = (n 1) from (hx3.1 1 (by decide)))] at hR_4 hm_4 hs_4 hol_4
                try simp only [(show n_3 38 = (n 38) from (hx3.1 38 (by decide)))] at hR_4 hm_4 hs_4 hol_4
                try simp only [(show n_3 43 = (n 43) from (hx3.1 43 (by decide)))] at hR_4 hm_4 hs_4 hol_4
                refine gz_iinc (v := (left + (-1))) (lv' := [(4, .int (left + (-1))), (9, .int 1), (8, .int 0), (6, .long fv), (5, .int wv), (3, .int x2), (2, .int x1), (0, .ref m), (1, .int bf)]) dX12_day_170 rfl (congrArg (fun z => left + z) oi_m1) (by decide) rfl ?_
                refine gz_goto (tgt := 51) dX12_day_173 (by decide) ?_
                refine gz_sub (lv' := [(4, .int (left + (-1))), (3, .int x2), (2, .int x1), (0, .ref m), (1, .int bf)]) (by simp [List.lookup]) ?_
                have hxx : fx [1, 38, 43] [29] [35, 36, 39, 40, 41, 42, 44] [28, 34, 37, 45] n z F G n_4 z_4 F_4 G_4 := (fx_tr (fx_tr fx_rf hx3 (by decide)) hx4 (by decide))
                have hdc : (left + (-1)).toInt = left.toInt - 1 := T_dec (by omega) (by omega)
                generalize left + (-1) = left2 at hdc ⊢
                have hlm : left.toInt.toNat = left2.toInt.toNat + 1 := by omega
                rw [hlm] at hW
                have qs : (F_3 35 (Int32.toNatClampNeg x1)).toInt = (F 35 (Int32.toNatClampNeg x1)).toInt - 1 := by rw [h35_3, updE, if_pos rfl]; exact T_sub rfl (show (1 : Int32).toInt = 1 from rfl) (by omega)
                have qm : (F 35 (Int32.toNatClampNeg x1)).toInt - 1 ≤ (F_4 35 (Int32.toNatClampNeg x1)).toInt := by have := hm_4 (Int32.toNatClampNeg x1); omega
                have hgo : goB T S (Z.2.2.1.getD x2.toInt.toNat (0, 0)).1 = true := goB_st.mpr (Or.inr (Or.inl (by omega)))
                have hSt9 : RSt n_4 F_4 G_4 lN fo (dpE T S (lN : Int) aN bN x2.toInt.toNat ((Z.2.2.1.getD x2.toInt.toNat (0, 0)).1 + 1) Z) := hs_4
                have hO9 := oL_tr hO (oL_tr hol_3 hol_4)
                have hQ9 := (dpE_ok (S := S) (l := (lN : Int)) (a := aN) (b := bN) hokT hvT_ hQ hkl hch).1
                rw [wkT_y hgo] at hW
                exact ih left2 x2 (dpE T S (lN : Int) aN bN x2.toInt.toNat ((Z.2.2.1.getD x2.toInt.toNat (0, 0)).1 + 1) Z) _ _ _ _ _ hS_4 (fx_tr (fx_tr hx hx3 (by decide)) hx4 (by decide)) (hR_4) (by rw [hxx.1 0 (by decide)]; exact h0) (by rw [hxx.1 30 (by decide)]; omega) (by omega) (by omega) ((LX_cg (fun r h1 h2 => hxx.2.2.1 r (fun h => by simp only [List.mem_cons, List.not_mem_nil, or_false] at h <;> omega)) hX)) (sRn_cg hsR (show z_4 29 = (z 29) from ((hx4.2.1 29 (by decide)).trans (hx3.2.1 29 (by decide)))) (show G_4 28 = (G 28) from ((hx4.2.2.2 28 (by decide)).trans (hx3.2.2.2 28 (by decide))))) (by rw [hxx.1 0 (by decide)]; exact h0s) (hSt9) (hO9) (hQ9) (hW)
            · exact absurd c_136 (by decide)
          ·
            try simp only [mIn_0, lgc_lt, lgc_gt, lgc_le, lgc_ge, lgc_eq] at c_103
            try simp only [fl_lt, fl_le, fl_eq, fL_w, fL_lt, fL_le, tm1, tm10k, tm9, tm99, Int32.reduceToInt, Int64.reduceToInt, Int.not_lt, Int.not_le] at c_103
            refine gz_aload_n dX12_day_106 rfl rfl ?_
            refine mg_20 hS dX12_day_107 ?_
            refine gz_iload dX12_day_110 rfl ?_
            refine m_iald 7 hS rfl (N := 880) rfl ((by exact vin_T (rfl : (wv).toInt = (wv).toInt) (by omega) (by omega))) dX12_day_112 ?_
            refine gz_bipush (v := 6) dX12_day_113 (by decide) ?_
            refine gz_icmp_ne (tgt := 131) dX12_day_115 (by decide) (fun c_115 => ?_) (fun c_115 => ?_)
            ·
              try simp only [mIn_0, lgc_lt, lgc_gt, lgc_le, lgc_ge, lgc_eq] at c_115
              try simp only [fl_lt, fl_le, fl_eq, fL_w, fL_lt, fL_le, tm1, tm10k, tm9, tm99, Int32.reduceToInt, Int64.reduceToInt, Int.not_lt, Int.not_le] at c_115
              refine gz_iconst (v := 0) dX12_day_131 (by decide) ?_
              refine gz_istore (lv' := [(9, .int 0), (8, .int 0), (6, .long fv), (5, .int wv), (4, .int left), (3, .int x2), (2, .int x1), (0, .ref m), (1, .int bf)]) dX12_day_132 (by decide) rfl ?_
              refine gz_iload dX12_day_134 rfl ?_
              refine gz_if_ne (tgt := 145) dX12_day_136 (by decide) (fun c_136 => ?_) (fun c_136 => ?_)
              · exact absurd c_136 (by decide)
              ·
                try simp only [mIn_0, lgc_lt, lgc_gt, lgc_le, lgc_ge, lgc_eq] at c_136
                try simp only [fl_lt, fl_le, fl_eq, fL_w, fL_lt, fL_le, tm1, tm10k, tm9, tm99, Int32.reduceToInt, Int64.reduceToInt, Int.not_lt, Int.not_le] at c_136
                refine gz_iinc (v := (x2 + 1)) (lv' := [(3, .int (x2 + 1)), (9, .int 0), (8, .int 0), (6, .long fv), (5, .int wv), (4, .int left), (2, .int x1), (0, .ref m), (1, .int bf)]) dX12_day_139 rfl rfl (by decide) rfl ?_
                refine gz_goto (tgt := 170) dX12_day_142 (by decide) ?_
                refine gz_iinc (v := (left + (-1))) (lv' := [(4, .int (left + (-1))), (3, .int (x2 + 1)), (9, .int 0), (8, .int 0), (6, .long fv), (5, .int wv), (2, .int x1), (0, .ref m), (1, .int bf)]) dX12_day_170 rfl (congrArg (fun z => left + z) oi_m1) (by decide) rfl ?_
                refine gz_goto (tgt := 51) dX12_day_173 (by decide) ?_
                refine gz_sub (lv' := [(4, .int (left + (-1))), (3, .int (x2 + 1)), (2, .int x1), (0, .ref m), (1, .int bf)]) (by simp [List.lookup]) ?_
                have hxx : fx [1, 38, 43] [29] [35, 36, 39, 40, 41, 42, 44] [28, 34, 37, 45] n z F G n z F G := fx_rf
                have hdc : (left + (-1)).toInt = left.toInt - 1 := T_dec (by omega) (by omega)
                generalize left + (-1) = left2 at hdc ⊢
                have hlm : left.toInt.toNat = left2.toInt.toNat + 1 := by omega
                rw [hlm] at hW
                have qx : (x2 + 1).toInt = x2.toInt + 1 := T_add rfl (show (1 : Int32).toInt = 1 from rfl) (by omega)
                have hgo : goB T S (Z.2.2.1.getD x2.toInt.toNat (0, 0)).1 = false := by
                  cases hgg : goB T S (Z.2.2.1.getD x2.toInt.toNat (0, 0)).1 with
                  | false => rfl
                  | true =>
                    exfalso
                    rcases goB_st.mp hgg with q | q | q
                    · rw [hlp] at q; exact absurd q (by decide)
                    · omega
                    · have q1 := q.1; omega
                rw [wkT_n hgo] at hW
                have hSt9 := hSt
                have hO9 := hO
                have hQ9 := hQ
                exact ih left2 (x2 + 1) Z _ _ _ _ _ hS hx (hR) (by rw [hxx.1 0 (by decide)]; exact h0) (by rw [hxx.1 30 (by decide)]; omega) (by omega) (by omega) ((LX_cg (fun r h1 h2 => hxx.2.2.1 r (fun h => by simp only [List.mem_cons, List.not_mem_nil, or_false] at h <;> omega)) hX)) (sRn_cg hsR (show z 29 = (z 29) from rfl) (show G 28 = (G 28) from rfl)) (by rw [hxx.1 0 (by decide)]; exact h0s) (hSt9) (hO9) (hQ9) ((by rw [show (x2 + 1).toInt.toNat = x2.toInt.toNat + 1 by omega]; exact hW))
            ·
              try simp only [mIn_0, lgc_lt, lgc_gt, lgc_le, lgc_ge, lgc_eq] at c_115
              try simp only [fl_lt, fl_le, fl_eq, fL_w, fL_lt, fL_le, tm1, tm10k, tm9, tm99, Int32.reduceToInt, Int64.reduceToInt, Int.not_lt, Int.not_le] at c_115
              refine gz_aload_n dX12_day_118 rfl rfl ?_
              refine gz_iload dX12_day_119 rfl ?_
              refine scX12_348 (k_X12_holdsE (x1 := wv) (S := S) hS bA hsR (by omega) xd xv (by omega)) hS.1 ⟨(Nat.le_of_ble_eq_true rfl), (Nat.le_of_ble_eq_true rfl)⟩ ⟨(Nat.le_of_ble_eq_true rfl), (Nat.le_of_ble_eq_true rfl)⟩ rfl rfl (Nat.le_of_ble_eq_true rfl) dX12_day_121 ?_
              rintro r_5 f9 ⟨hb_5, y9⟩; rw [y9]
              rcases hb_5 with ⟨hr5, hbt⟩ | ⟨hr5, hbt⟩
              ·
                refine gz_ev (w := .int 1) (congrArg Value.int hr5) ?_
                refine gz_if_eq (tgt := 131) dX12_day_124 (by decide) (fun c_124 => ?_) (fun c_124 => ?_)
                · exact absurd c_124 (by decide)
                ·
                  try simp only [mIn_0, lgc_lt, lgc_gt, lgc_le, lgc_ge, lgc_eq] at c_124
                  try simp only [fl_lt, fl_le, fl_eq, fL_w, fL_lt, fL_le, tm1, tm10k, tm9, tm99, Int32.reduceToInt, Int64.reduceToInt, Int.not_lt, Int.not_le] at c_124
                  refine gz_iconst (v := 1) dX12_day_127 (by decide) ?_
                  refine gz_goto (tgt := 132) dX12_day_128 (by decide) ?_
                  refine gz_istore (lv' := [(9, .int 1), (8, .int 0), (6, .long fv), (5, .int wv), (4, .int left), (3, .int x2), (2, .int x1), (0, .ref m), (1, .int bf)]) dX12_day_132 (by decide) rfl ?_
                  refine gz_iload dX12_day_134 rfl ?_
                  refine gz_if_ne (tgt := 145) dX12_day_136 (by decide) (fun c_136 => ?_) (fun c_136 => ?_)
                  ·
                    try simp only [mIn_0, lgc_lt, lgc_gt, lgc_le, lgc_ge, lgc_eq] at c_136
                    try simp only [fl_lt, fl_le, fl_eq, fL_w, fL_lt, fL_le, tm1, tm10k, tm9, tm99, Int32.reduceToInt, Int64.reduceToInt, Int.not_lt, Int.not_le] at c_136
                    refine gz_aload_n dX12_day_145 rfl rfl ?_
                    refine gz_iload_n dX12_day_146 rfl rfl ?_
                    refine gz_iload_n dX12_day_147 rfl rfl ?_
                    refine scX12_406 (k_X12_leavesE (x1 := x1) (x2 := x2) (lN := lN) (kN := x2.toInt.toNat) (fo := fo) (Z := Z) hS hR (by omega) (by omega) hlN ⟨by omega, hkl⟩ hSt) hS.1 ⟨(Nat.le_of_ble_eq_true rfl), (Nat.le_of_ble_eq_true rfl)⟩ ⟨(Nat.le_of_ble_eq_true rfl), (Nat.le_of_ble_eq_true rfl)⟩ rfl rfl (Nat.le_of_ble_eq_true rfl) dX12_day_148 ?_
                    rintro f_6 ⟨n_6, z_6, F_6, G_6, hS_6, hx6, hR_6, h35_6, hs_6, hol_6⟩
                    have hxb := hx6
                    refine gz_iload dX12_day_151 rfl ?_
                    refine gz_if_ne (tgt := 170) dX12_day_153 (by decide) (fun c_153 => ?_) (fun c_153 => ?_)
                    · exact absurd c_153 (by decide)
                    ·
                      try simp only [mIn_0, lgc_lt, lgc_gt, lgc_le, lgc_ge, lgc_eq] at c_153
                      try simp only [fl_lt, fl_le, fl_eq, fL_w, fL_lt, fL_le, tm1, tm10k, tm9, tm99, Int32.reduceToInt, Int64.reduceToInt, Int.not_lt, Int.not_le] at c_153
                      refine gz_aload_n dX12_day_156 rfl rfl ?_
                      refine gz_iload_n dX12_day_157 rfl rfl ?_
                      refine gz_aload_n dX12_day_158 rfl rfl ?_
                      refine mg_32 hS_6 dX12_day_159 ?_
                      refine gz_iload dX12_day_162 rfl ?_
                      refine m_iald 11 hS_6 rfl (N := 880) rfl ((by exact vin_T (rfl : (wv).toInt = (wv).toInt) (by omega) (by omega))) dX12_day_164 ?_
                      refine gz_ev (w := .int ((F 11) (Int32.toNatClampNeg wv))) (congrArg Value.int (congrFun (hx6.2.2.1 11 (by decide)) _)) ?_
                      refine gz_lload dX12_day_165 rfl ?_
                      refine scX12_403 (k_X12_acquiresE (x1 := x1) (x2 := ((F 11) (Int32.toNatClampNeg wv))) (lN := lN) (fo := fo) (T := T) (S := S) (aN := aN) (bN := bN) (wN := (Z.2.2.1.getD x2.toInt.toNat (0, 0)).1 + 1) (fN := (Z.2.2.1.getD x2.toInt.toNat (0, 0)).2) hS_6 hR_6 (by rw [hxb.1 30 (by decide)]; omega) (by rw [hxb.1 5 (by decide)]; exact vW_cg (hxb.2.2.1 6 (by decide)) (show vW F (n 5).toInt ((F 11) (Int32.toNatClampNeg wv)).toInt from (one_ok bW hv.1 (show 2 ≤ (F 7 (Int32.toNatClampNeg wv)).toInt by omega)).1)) hlN hfo hSb (LX_cg (fun r h1 h2 => hxb.2.2.1 r (fun h => by simp only [List.mem_cons, List.not_mem_nil, or_false] at h <;> omega)) hX) (sRn_cg hsR (hxb.2.1 29 (by decide)) (hxb.2.2.2 28 (by decide))) (by rw [hxb.1 0 (by decide)]; exact h0s) hs_6 ⟨by have q9 := xo1 (by omega); omega, hch⟩ ⟨hfy, hsd.2.2⟩) hS_6.1 ⟨(Nat.le_of_ble_eq_true rfl), (Nat.le_of_ble_eq_true rfl)⟩ ⟨(Nat.le_of_ble_eq_true rfl), (Nat.le_of_ble_eq_true rfl)⟩ rfl rfl (Nat.le_of_ble_eq_true rfl) dX12_day_167 ?_
                      rintro f_7 ⟨n_7, z_7, F_7, G_7, hS_7, hx7, hR_7, hm_7, hs_7, hol_7⟩
                      try simp only [(show n_6 1 = (n 1) from (hx6.1 1 (by decide)))] at hR_7 hm_7 hs_7 hol_7
                      try simp only [(show n_6 38 = (n 38) from (hx6.1 38 (by decide)))] at hR_7 hm_7 hs_7 hol_7
                      try simp only [(show n_6 43 = (n 43) from (hx6.1 43 (by decide)))] at hR_7 hm_7 hs_7 hol_7
                      refine gz_iinc (v := (left + (-1))) (lv' := [(4, .int (left + (-1))), (9, .int 1), (8, .int 0), (6, .long fv), (5, .int wv), (3, .int x2), (2, .int x1), (0, .ref m), (1, .int bf)]) dX12_day_170 rfl (congrArg (fun z => left + z) oi_m1) (by decide) rfl ?_
                      refine gz_goto (tgt := 51) dX12_day_173 (by decide) ?_
                      refine gz_sub (lv' := [(4, .int (left + (-1))), (3, .int x2), (2, .int x1), (0, .ref m), (1, .int bf)]) (by simp [List.lookup]) ?_
                      have hxx : fx [1, 38, 43] [29] [35, 36, 39, 40, 41, 42, 44] [28, 34, 37, 45] n z F G n_7 z_7 F_7 G_7 := (fx_tr (fx_tr fx_rf hx6 (by decide)) hx7 (by decide))
                      have hdc : (left + (-1)).toInt = left.toInt - 1 := T_dec (by omega) (by omega)
                      generalize left + (-1) = left2 at hdc ⊢
                      have hlm : left.toInt.toNat = left2.toInt.toNat + 1 := by omega
                      rw [hlm] at hW
                      have qs : (F_6 35 (Int32.toNatClampNeg x1)).toInt = (F 35 (Int32.toNatClampNeg x1)).toInt - 1 := by rw [h35_6, updE, if_pos rfl]; exact T_sub rfl (show (1 : Int32).toInt = 1 from rfl) (by omega)
                      have qm : (F 35 (Int32.toNatClampNeg x1)).toInt - 1 ≤ (F_7 35 (Int32.toNatClampNeg x1)).toInt := by have := hm_7 (Int32.toNatClampNeg x1); omega
                      have hgo : goB T S (Z.2.2.1.getD x2.toInt.toNat (0, 0)).1 = true := goB_st.mpr (Or.inr (Or.inr ⟨by omega, hbt⟩))
                      have hSt9 : RSt n_7 F_7 G_7 lN fo (dpE T S (lN : Int) aN bN x2.toInt.toNat ((Z.2.2.1.getD x2.toInt.toNat (0, 0)).1 + 1) Z) := hs_7
                      have hO9 := oL_tr hO (oL_tr hol_6 hol_7)
                      have hQ9 := (dpE_ok (S := S) (l := (lN : Int)) (a := aN) (b := bN) hokT hvT_ hQ hkl hch).1
                      rw [wkT_y hgo] at hW
                      exact ih left2 x2 (dpE T S (lN : Int) aN bN x2.toInt.toNat ((Z.2.2.1.getD x2.toInt.toNat (0, 0)).1 + 1) Z) _ _ _ _ _ hS_7 (fx_tr (fx_tr hx hx6 (by decide)) hx7 (by decide)) (hR_7) (by rw [hxx.1 0 (by decide)]; exact h0) (by rw [hxx.1 30 (by decide)]; omega) (by omega) (by omega) ((LX_cg (fun r h1 h2 => hxx.2.2.1 r (fun h => by simp only [List.mem_cons, List.not_mem_nil, or_false] at h <;> omega)) hX)) (sRn_cg hsR (show z_7 29 = (z 29) from ((hx7.2.1 29 (by decide)).trans (hx6.2.1 29 (by decide)))) (show G_7 28 = (G 28) from ((hx7.2.2.2 28 (by decide)).trans (hx6.2.2.2 28 (by decide))))) (by rw [hxx.1 0 (by decide)]; exact h0s) (hSt9) (hO9) (hQ9) (hW)
                  · exact absurd c_136 (by decide)
              ·
                refine gz_ev (w := .int 0) (congrArg Value.int hr5) ?_
                refine gz_if_eq (tgt := 131) dX12_day_124 (by decide) (fun c_124 => ?_) (fun c_124 => ?_)
                ·
                  try simp only [mIn_0, lgc_lt, lgc_gt, lgc_le, lgc_ge, lgc_eq] at c_124
                  try simp only [fl_lt, fl_le, fl_eq, fL_w, fL_lt, fL_le, tm1, tm10k, tm9, tm99, Int32.reduceToInt, Int64.reduceToInt, Int.not_lt, Int.not_le] at c_124
                  refine gz_iconst (v := 0) dX12_day_131 (by decide) ?_
                  refine gz_istore (lv' := [(9, .int 0), (8, .int 0), (6, .long fv), (5, .int wv), (4, .int left), (3, .int x2), (2, .int x1), (0, .ref m), (1, .int bf)]) dX12_day_132 (by decide) rfl ?_
                  refine gz_iload dX12_day_134 rfl ?_
                  refine gz_if_ne (tgt := 145) dX12_day_136 (by decide) (fun c_136 => ?_) (fun c_136 => ?_)
                  · exact absurd c_136 (by decide)
                  ·
                    try simp only [mIn_0, lgc_lt, lgc_gt, lgc_le, lgc_ge, lgc_eq] at c_136
                    try simp only [fl_lt, fl_le, fl_eq, fL_w, fL_lt, fL_le, tm1, tm10k, tm9, tm99, Int32.reduceToInt, Int64.reduceToInt, Int.not_lt, Int.not_le] at c_136
                    refine gz_iinc (v := (x2 + 1)) (lv' := [(3, .int (x2 + 1)), (9, .int 0), (8, .int 0), (6, .long fv), (5, .int wv), (4, .int left), (2, .int x1), (0, .ref m), (1, .int bf)]) dX12_day_139 rfl rfl (by decide) rfl ?_
                    refine gz_goto (tgt := 170) dX12_day_142 (by decide) ?_
                    refine gz_iinc (v := (left + (-1))) (lv' := [(4, .int (left + (-1))), (3, .int (x2 + 1)), (9, .int 0), (8, .int 0), (6, .long fv), (5, .int wv), (2, .int x1), (0, .ref m), (1, .int bf)]) dX12_day_170 rfl (congrArg (fun z => left + z) oi_m1) (by decide) rfl ?_
                    refine gz_goto (tgt := 51) dX12_day_173 (by decide) ?_
                    refine gz_sub (lv' := [(4, .int (left + (-1))), (3, .int (x2 + 1)), (2, .int x1), (0, .ref m), (1, .int bf)]) (by simp [List.lookup]) ?_
                    have hxx : fx [1, 38, 43] [29] [35, 36, 39, 40, 41, 42, 44] [28, 34, 37, 45] n z F G n z F G := fx_rf
                    have hdc : (left + (-1)).toInt = left.toInt - 1 := T_dec (by omega) (by omega)
                    generalize left + (-1) = left2 at hdc ⊢
                    have hlm : left.toInt.toNat = left2.toInt.toNat + 1 := by omega
                    rw [hlm] at hW
                    have qx : (x2 + 1).toInt = x2.toInt + 1 := T_add rfl (show (1 : Int32).toInt = 1 from rfl) (by omega)
                    have hgo : goB T S (Z.2.2.1.getD x2.toInt.toNat (0, 0)).1 = false := by
                      cases hgg : goB T S (Z.2.2.1.getD x2.toInt.toNat (0, 0)).1 with
                      | false => rfl
                      | true =>
                        exfalso
                        rcases goB_st.mp hgg with q | q | q
                        · rw [hlp] at q; exact absurd q (by decide)
                        · omega
                        · rw [hbt] at q; exact absurd q.2 (by decide)
                    rw [wkT_n hgo] at hW
                    have hSt9 := hSt
                    have hO9 := hO
                    have hQ9 := hQ
                    exact ih left2 (x2 + 1) Z _ _ _ _ _ hS hx (hR) (by rw [hxx.1 0 (by decide)]; exact h0) (by rw [hxx.1 30 (by decide)]; omega) (by omega) (by omega) ((LX_cg (fun r h1 h2 => hxx.2.2.1 r (fun h => by simp only [List.mem_cons, List.not_mem_nil, or_false] at h <;> omega)) hX)) (sRn_cg hsR (show z 29 = (z 29) from rfl) (show G 28 = (G 28) from rfl)) (by rw [hxx.1 0 (by decide)]; exact h0s) (hSt9) (hO9) (hQ9) ((by rw [show (x2 + 1).toInt.toNat = x2.toInt.toNat + 1 by omega]; exact hW))
                · exact absurd c_124 (by decide)

set_option maxHeartbeats 4000000 in
set_option maxRecDepth 100000 in
theorem l_X12_dayE {l : Launch} {D : va_G} {cy : Nat → ClassId} {b : Nat} {m : Nat} {a : Nat → Nat} {f0 : gMem} {n0 : Nat → Int32} {z0 : Nat → Int64} {F0 : Nat → Nat → Int32} {G0 : Nat → Nat → Int64}  {bf : Int32} {Tf : Nat → List Hd} {S : Sn} {WF : Lw} {PX : Int32 → (Nat → Int32) → (Nat → Nat → Int32) → (Nat → Nat → Int64) → Prop} (hSb : -9000000000000000000 ≤ S.1 ∧ S.1 ≤ 9000000000000000000) (hLX : ∀ f : Nat, (f : Int) < (n0 5).toInt → LX F0 f (Tf f)) (hTf : ∀ f : Nat, (f : Int) < (n0 5).toInt → okT (Tf f) 1 ∧ hvT (Tf f)) (h05 : (n0 5).toInt ≤ 20) (hPX : ∀ (r : Int32) (n2 : Nat → Int32) (F2 : Nat → Nat → Int32) (G2 : Nat → Nat → Int64), RLs n2 F2 G2 WF → r.toInt = (WF.1.length : Int) - bf.toInt → PX r n2 F2 G2) : ∀ (k : Nat) (x1 : Int32) (W : Lw) (n : Nat → Int32) (z : Nat → Int64) (F : Nat → Nat → Int32) (G : Nat → Nat → Int64) (fm : gMem), mS cy m a f0 n z F G fm → fx [0, 1, 38, 43] [29] [35, 36, 39, 40, 41, 42, 44] [28, 34, 37, 45] n0 z0 F0 G0 n z F G → (RI n F) → (n 0 = n0 0 + 1) → (0 ≤ x1.toInt ∧ x1.toInt ≤ 40) → (x1.toInt + (k : Int) = 41) → (sRn S z G) → ((n 0).toInt = S.1) → (RLs n F G W) → (okW (n0 5).toInt Tf W) → (dyT Tf S (W.2.2.length - x1.toInt.toNat) x1.toInt.toNat W = WF) → (0 ≤ bf.toInt ∧ bf.toInt ≤ (W.1.length : Int)) → gG l (gRm 4 0 0) (gQf D b (pI fun r f2 => ∃ (n2 : Nat → Int32) (z2 : Nat → Int64) (F2 : Nat → Nat → Int32) (G2 : Nat → Nat → Int64), mS cy m a f0 n2 z2 F2 G2 f2 ∧ fx [0, 1, 38, 43] [29] [35, 36, 39, 40, 41, 42, 44] [28, 34, 37, 45] n0 z0 F0 G0 n2 z2 F2 G2 ∧ RI n2 F2 ∧ n2 0 = n0 0 + 1 ∧ PX r n2 F2 G2) 0 0) gTt D cy b cX12_day 10 (some .int) RX12 "day" 0 0 fm 33 [(2, .int x1), (0, .ref m), (1, .int bf)] [] := by
  intro k
  induction k with
  | zero =>
    intro x1 W n z F G fm hS hx hR h0 hl hk hsR h0s hs hok hWF hbf
    exfalso; omega
  | succ k ih =>
    intro x1 W n z F G fm hS hx hR h0 hl hk hsR h0s hs hok hWF hbf
    obtain ⟨a0, a4, a5, bA, bW, a30, bL, a38, bP, a53, a47, a88⟩ := id hR
    refine gz_iload_n dX12_day_33 rfl rfl ?_
    refine gz_aload_n dX12_day_34 rfl rfl ?_
    refine mg_394 hS dX12_day_35 ?_
    refine gz_icmp_ge (tgt := 182) dX12_day_38 (by decide) (fun c_38 => ?_) (fun c_38 => ?_)
    ·
      try simp only [mIn_0, lgc_lt, lgc_gt, lgc_le, lgc_ge, lgc_eq] at c_38
      try simp only [fl_lt, fl_le, fl_eq, fL_w, fL_lt, fL_le, tm1, tm10k, tm9, tm99, Int32.reduceToInt, Int64.reduceToInt, Int.not_lt, Int.not_le] at c_38
      refine gz_aload_n dX12_day_182 rfl rfl ?_
      refine mg_364 hS dX12_day_183 ?_
      refine gz_iload_n dX12_day_186 rfl rfl ?_
      refine gz_isub dX12_day_187 ?_
      have hWe : W = WF := by rw [← hWF, show W.2.2.length - x1.toInt.toNat = 0 by have z9 := hs.2.1.1; omega]; rfl
      exact gz_iret rfl dX12_day_188 (Nat.le_of_ble_eq_true rfl) (Nat.le_of_ble_eq_true rfl) (⟨_, rfl, _, _, _, _, hS, hx, hR, h0, hPX _ _ _ _ (by rw [← hWe]; exact hs) (by rw [T_sub hs.1.1.1 (rfl : bf.toInt = bf.toInt) (by have z9 := hs.1.1.2; omega), hWe])⟩)
    ·
      try simp only [mIn_0, lgc_lt, lgc_gt, lgc_le, lgc_ge, lgc_eq] at c_38
      try simp only [fl_lt, fl_le, fl_eq, fL_w, fL_lt, fL_le, tm1, tm10k, tm9, tm99, Int32.reduceToInt, Int64.reduceToInt, Int.not_lt, Int.not_le] at c_38
      refine gz_iconst (v := 0) dX12_day_41 (by decide) ?_
      refine gz_istore_n (lv' := [(3, .int 0), (2, .int x1), (0, .ref m), (1, .int bf)]) dX12_day_42 rfl (by decide) rfl ?_
      refine gz_aload_n dX12_day_43 rfl rfl ?_
      refine mg_109 hS dX12_day_44 ?_
      refine gz_iload_n dX12_day_47 rfl rfl ?_
      refine m_iald 35 hS rfl (N := 40) rfl ((by exact vin_T (rfl : (x1).toInt = (x1).toInt) (by omega) (by omega))) dX12_day_48 ?_
      refine gz_istore (lv' := [(4, .int ((F 35) (Int32.toNatClampNeg x1))), (3, .int 0), (2, .int x1), (0, .ref m), (1, .int bf)]) dX12_day_49 (by decide) rfl ?_
      have qc1 := clI (i := x1) (by omega)
      have qL := bL (Int32.toNatClampNeg x1) (by omega)
      obtain ⟨lN, hlN⟩ : ∃ lN : Nat, x1.toInt = (lN : Int) := ⟨x1.toInt.toNat, by omega⟩
      have hl40 : lN < 40 := by have z9 := hs.2.1; omega
      have hlW : lN < W.2.2.length := by have z9 := hs.2.1.1; omega
      have ecl : (Int32.toNatClampNeg x1) = lN := by omega
      obtain ⟨hfc, hQ0⟩ := hok lN hlW
      have hX := hLX (W.2.2.getD lN lf0).1 hfc
      have hst0 := RLs_get hs hlW
      have hlen : (W.2.2.getD lN lf0).2.2.2.1.length = (F 35 lN).toInt.toNat := by have z9 := hst0.2.1.1; have z8 : (lsW W lN).2.2.1.length = (W.2.2.getD lN lf0).2.2.2.1.length := rfl; omega
      have hok5 := hfc
      have hfin : ∀ (n3 : Nat → Int32) (F3 : Nat → Nat → Int32) (G3 : Nat → Nat → Int64), RSt n3 F3 G3 lN (W.2.2.getD lN lf0).1 (wkT (Tf (W.2.2.getD lN lf0).1) S (lN : Int) (W.2.2.getD lN lf0).2.1 (W.2.2.getD lN lf0).2.2.1 (W.2.2.getD lN lf0).2.2.2.1.length 0 (lsW W lN)) → oL F G F3 G3 lN → n3 30 = n0 30 → (∀ r, r ∈ [31, 32, 33] → F3 r = F0 r) → RLs n3 F3 G3 (lfT Tf S lN W) := fun n3 F3 G3 q1 q2 q3 q4 => RLs_put hs hlW q1 q2 (q3.trans (hx.1 30 (by decide)).symm) (fun r hr => (q4 r hr).trans (hx.2.2.1 r (by revert hr; revert r; decide)).symm)
      have hok9 := lfT_ok (S := S) hTf hok hlW
      have hWF9 : dyT Tf S ((lfT Tf S lN W).2.2.length - (lN + 1)) (lN + 1) (lfT Tf S lN W) = WF := by rw [← hWF, lfT_ln, show x1.toInt.toNat = lN by omega, show W.2.2.length - lN = (W.2.2.length - (lN + 1)) + 1 by omega]; rfl
      refine gz_sub (lv' := [(4, .int ((F 35) (Int32.toNatClampNeg x1))), (3, .int 0), (2, .int x1), (0, .ref m), (1, .int bf)]) (by simp [List.lookup]) ?_
      refine l_X12_day2E (x1 := x1) (bf := bf) (lN := lN) (fo := (W.2.2.getD lN lf0).1) (T := Tf (W.2.2.getD lN lf0).1) (S := S) (aN := (W.2.2.getD lN lf0).2.1) (bN := (W.2.2.getD lN lf0).2.2.1) (ZF := wkT (Tf (W.2.2.getD lN lf0).1) S (lN : Int) (W.2.2.getD lN lf0).2.1 (W.2.2.getD lN lf0).2.2.1 (W.2.2.getD lN lf0).2.2.2.1.length 0 (lsW W lN)) (PX := PX) (F1 := F) (G1 := G) ⟨hlN, hl40⟩ (by omega) hSb ?_ 41 ((F 35) (Int32.toNatClampNeg x1)) 0 (lsW W lN) _ _ _ _ _ hS hx hR h0 (by omega) (by have e0 : (0 : Int32).toInt = 0 := rfl; omega) (by omega) (LX_cg (fun r h1 h2 => hx.2.2.1 r (fun h => by simp only [List.mem_cons, List.not_mem_nil, or_false] at h <;> omega)) hX) hsR h0s hst0 oL_rf hQ0 (by rw [hlen, ← ecl]; rfl)
      clear hS hx hR h0 hl a0 a4 a5 bA bW a30 bL a38 bP a53 a47 a88 qc1 qL hX hsR h0s hlen ecl hQ0 hst0 hs hok hfc hok5
      intro n z F G fm hS hx hR h0 hl hsR h0s hst9 ho9
      have hs9 := hfin n F G hst9 ho9 (hx.1 30 (by decide)) (fun r hr => hx.2.2.1 r (by revert hr; revert r; decide))
      refine gz_iinc (v := (x1 + 1)) (lv' := [(2, .int (x1 + 1)), (0, .ref m), (1, .int bf)]) dX12_day_176 rfl rfl (by decide) rfl ?_
      refine gz_goto (tgt := 33) dX12_day_179 (by decide) ?_
      refine gz_sub (lv' := [(2, .int (x1 + 1)), (0, .ref m), (1, .int bf)]) (by simp [List.lookup]) ?_
      exact ih (x1 + 1) (lfT Tf S lN W) _ _ _ _ _ hS hx (hR) (h0) (by have e1 : (1 : Int32).toInt = 1 := rfl; have q := T_add (rfl : x1.toInt = x1.toInt) e1 (by omega); omega) (by have e1 : (1 : Int32).toInt = 1 := rfl; have q := T_add (rfl : x1.toInt = x1.toInt) e1 (by omega); omega) (hsR) (h0s) (hs9) (hok9.1) (by have e1 : (1 : Int32).toInt = 1 := rfl; have q := T_add (rfl : x1.toInt = x1.toInt) e1 (by omega); rw [show (x1 + 1).toInt.toNat = lN + 1 by omega]; exact hWF9) (⟨hbf.1, by have z9 := hok9.2; omega⟩)

theorem RLs_cg {n n2 : Nat → Int32} {F F2 : Nat → Nat → Int32} {G G2 : Nat → Nat → Int64} {W : Lw} (h : RLs n F G W) (hn : ∀ k, k ∈ [1, 30, 38] → n2 k = n k) (hF : ∀ r, r ∈ [31, 32, 33, 35, 36, 39, 40, 41, 42] → F2 r = F r) (hG : ∀ r, r ∈ [34, 37] → G2 r = G r) : RLs n2 F2 G2 W := by
  obtain ⟨⟨⟨a1, a2⟩, a3, a4⟩, ⟨l1, l2⟩, h3, h4⟩ := h
  refine ⟨⟨⟨by rw [hn 38 (by decide)]; exact a1, a2⟩, by rw [hn 1 (by decide)]; exact a3, fun i hi => ?_⟩, ⟨by rw [hn 30 (by decide)]; exact l1, l2⟩, fun l hl => ?_, fun l h9 h8 => by rw [hF 35 (by decide), hG 34 (by decide)]; exact h4 l h9 h8⟩
  · unfold pmR
    rw [hF 39 (by decide), hF 40 (by decide), hF 41 (by decide), hF 42 (by decide)]
    exact a4 i hi
  · obtain ⟨q1, ⟨b1, b2⟩, b3, b4⟩ := h3 l hl
    refine ⟨by rw [hF 31 (by decide), hF 32 (by decide), hF 33 (by decide)]; exact q1, ⟨by rw [hF 35 (by decide)]; exact b1, b2⟩, by rw [hG 34 (by decide)]; exact b3, fun i hi => ?_⟩
    rw [hF 36 (by decide), hG 37 (by decide)]
    exact b4 i hi

set_option maxHeartbeats 4000000 in
set_option maxRecDepth 100000 in
theorem k_X12_dayE {l : Launch} {D : va_G} {cy : Nat → ClassId} {b : Nat} {f : gMem} {m : Nat} {a : Nat → Nat} {f0 : gMem} {n : Nat → Int32} {z : Nat → Int64} {F : Nat → Nat → Int32} {G : Nat → Nat → Int64}  {Tf : Nat → List Hd} {W : Lw} (hS : mS cy m a f0 n z F G f) (hR : RI n F) (hs : RLs n F G W) (hok : okW (n 5).toInt Tf W) (hLX : ∀ f : Nat, (f : Int) < (n 5).toInt → LX F f (Tf f)) (hTf : ∀ f : Nat, (f : Int) < (n 5).toInt → okT (Tf f) 1 ∧ hvT (Tf f)) : gC l D cy b yX12_day cX12_day 10 (some .int) 4 0 0 [.ref m] f (pI fun r f2 => ∃ (n2 : Nat → Int32) (z2 : Nat → Int64) (F2 : Nat → Nat → Int32) (G2 : Nat → Nat → Int64), mS cy m a f0 n2 z2 F2 G2 f2 ∧ fx [0, 1, 38, 43] [29] [35, 36, 39, 40, 41, 42, 44] [28, 34, 37, 45] n z F G n2 z2 F2 G2 ∧ RI n2 F2 ∧ n2 0 = (if (n 0).toInt = 399 then n 0 else n 0 + 1) ∧ (((n 0).toInt = 399 ∧ r.toInt = -1 ∧ RLs n2 F2 G2 W) ∨ ((n 0).toInt ≠ 399 ∧ RLs n2 F2 G2 (dyA Tf (sNow (n 0 + 1) (F 2)) W) ∧ r.toInt = ((dyA Tf (sNow (n 0 + 1) (F 2)) W).1.length : Int) - (W.1.length : Int)))) := by
  obtain ⟨a0, a4, a5, bA, bW, a30, bL, a38, bP, a53, a47, a88⟩ := id hR
  refine gC_of (by decide) (Nat.le_of_ble_eq_true rfl) ?_
  show gG l _ _ _ D cy b cX12_day 10 _ RX12 "day" 0 0 f 0 [(0, .ref m)] []
  refine gz_aload_n dX12_day_0 rfl rfl ?_
  refine mg_249 hS dX12_day_1 ?_
  refine gz_sipush (v := 399) dX12_day_4 (by decide) ?_
  refine gz_icmp_ne (tgt := 12) dX12_day_7 (by decide) (fun c_7 => ?_) (fun c_7 => ?_)
  ·
    try simp only [mIn_0, lgc_lt, lgc_gt, lgc_le, lgc_ge, lgc_eq] at c_7
    try simp only [fl_lt, fl_le, fl_eq, fL_w, fL_lt, fL_le, tm1, tm10k, tm9, tm99, Int32.reduceToInt, Int64.reduceToInt, Int.not_lt, Int.not_le] at c_7
    refine gz_aload_n dX12_day_12 rfl rfl ?_
    refine gz_dup dX12_day_13 rfl ?_
    refine mg_249 hS dX12_day_14 ?_
    refine gz_iconst (v := 1) dX12_day_17 (by decide) ?_
    refine gz_iadd dX12_day_18 ?_
    refine mp_249 hS dX12_day_19 (fun f_1 hS_1 => ?_)
    refine gz_aload_n dX12_day_22 rfl rfl ?_
    have e0_ : ((va_up n 0 ((n 0) + 1)) 0).toInt = (n 0).toInt + 1 := (by (try rw [(show (va_up n 0 ((n 0) + 1)) 0 = ((n 0) + 1) from rfl)]); have q1_ := (T_add (rfl : ((n 0)).toInt = ((n 0)).toInt) (show (1 : Int32).toInt = 1 from rfl) (by omega)); omega)
    have hR1 : RI (va_up n 0 ((n 0) + 1)) F := RI_cg (fun _ _ => rfl) hR rfl rfl rfl (by rw [e0_]; omega) a4 a53 a47 a88
    refine scX12_400 (k_X12_asNowE hS_1 (by rw [e0_]; omega)) hS_1.1 ⟨(Nat.le_of_ble_eq_true rfl), (Nat.le_of_ble_eq_true rfl)⟩ ⟨(Nat.le_of_ble_eq_true rfl), (Nat.le_of_ble_eq_true rfl)⟩ rfl rfl (Nat.le_of_ble_eq_true rfl) dX12_day_23 ?_
    rintro f_2 ⟨n_2, z_2, F_2, G_2, hS_2, hx2, hsc_2⟩
    have hR2 := RI_fx hR1 hx2 (by decide) (by decide)
    refine gz_aload_n dX12_day_26 rfl rfl ?_
    refine mg_364 hS_2 dX12_day_27 ?_
    refine gz_ev (w := .int (n 38)) (congrArg Value.int (hx2.1 38 (by decide))) ?_
    refine gz_istore_n (lv' := [(1, .int (n 38)), (0, .ref m)]) dX12_day_30 rfl (by decide) rfl ?_
    refine gz_iconst (v := 0) dX12_day_31 (by decide) ?_
    refine gz_istore_n (lv' := [(2, .int 0), (1, .int (n 38)), (0, .ref m)]) dX12_day_32 rfl (by decide) rfl ?_
    have hxx : fx [0, 1, 38, 43] [29] [35, 36, 39, 40, 41, 42, 44] [28, 34, 37, 45] n z F G n_2 z_2 F_2 G_2 := (fx_tr (fx_n fx_rf (by decide)) hx2 (by decide))
    have hxk : fx [0] [29] [] [28] n z F G n_2 z_2 F_2 G_2 := (fx_tr (fx_n fx_rf (by decide)) hx2 (by decide))
    refine gz_sub (lv' := [(2, .int 0), (0, .ref m), (1, .int (n 38))]) (by simp [List.lookup]) ?_
    rw [show (if (n 0).toInt = 399 then n 0 else n 0 + 1) = n 0 + 1 from if_neg (by omega)]
    exact l_X12_dayE (Tf := Tf) (S := sNow (n 0 + 1) (F 2)) (WF := (dyA Tf (sNow (n 0 + 1) (F 2)) W)) (bf := (n 38)) (PX := fun r n2 F2 G2 => (((n 0).toInt = 399 ∧ r.toInt = -1 ∧ RLs n2 F2 G2 W) ∨ ((n 0).toInt ≠ 399 ∧ RLs n2 F2 G2 (dyA Tf (sNow (n 0 + 1) (F 2)) W) ∧ r.toInt = ((dyA Tf (sNow (n 0 + 1) (F 2)) W).1.length : Int) - (W.1.length : Int)))) sNow_b hLX hTf (by omega) (fun r n2 F2 G2 q1 q2 => Or.inr ⟨by omega, q1, by have z9 := hs.1.1.1; omega⟩) 41 0 W _ _ _ _ _ hS_2 hxx hR2 (hx2.1 0 (by decide)) ⟨by decide, by decide⟩ (by decide) hsc_2 (congrArg Int32.toInt (hx2.1 0 (by decide))) (RLs_cg hs (fun k hk => hxk.1 k (by revert hk; revert k; decide)) (fun r hr => hxk.2.2.1 r (by revert hr; revert r; decide)) (fun r hr => hxk.2.2.2 r (by revert hr; revert r; decide))) hok rfl ⟨by have z9 := hs.1.1.1; omega, by have z9 := hs.1.1.1; omega⟩
  ·
    try simp only [mIn_0, lgc_lt, lgc_gt, lgc_le, lgc_ge, lgc_eq] at c_7
    try simp only [fl_lt, fl_le, fl_eq, fL_w, fL_lt, fL_le, tm1, tm10k, tm9, tm99, Int32.reduceToInt, Int64.reduceToInt, Int.not_lt, Int.not_le] at c_7
    refine gz_iconst (v := (-1)) dX12_day_10 (by decide) ?_
    exact gz_iret rfl dX12_day_11 (Nat.le_of_ble_eq_true rfl) (Nat.le_of_ble_eq_true rfl) (⟨_, rfl, _, _, _, _, hS, fx_rf, hR, (if_pos (by omega)).symm, Or.inl ⟨by omega, rfl, hs⟩⟩)
