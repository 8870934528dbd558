/-! copies -/
theorem LRv_ad {F F2 : Nat → Nat → Int32} {f V : Nat} {c : Cn} {x : Vl} {a b d : Int32} (hL : LRv F f c V) (h18 : F2 18 = upd (F 18) (40 * f + V) a) (h19 : F2 19 = upd (F 19) (40 * f + V) b) (h20 : F2 20 = upd (F 20) (40 * f + V) d) (ha : a.toInt = x.1) (hb : b.toInt = x.2.1) (hd : d.toInt = x.2.2) : LRv F2 f (cU (cU (cU c 10 V x.1) 11 V x.2.1) 12 V x.2.2) (V + 1) := by
  intro i hi
  obtain ⟨u1, u2, u3⟩ := cU3 (c := c) (V := V) (i := i) (x := x.1) (y := x.2.1) (z := x.2.2)
  rw [u1, u2, u3, h18, h19, h20, updE, updE, updE]
  by_cases e : i = V
  · rw [if_pos e, if_pos e, if_pos e, if_pos (by omega), if_pos (by omega), if_pos (by omega)]
    exact ⟨ha, hb, hd⟩
  · rw [if_neg e, if_neg e, if_neg e, if_neg (by omega), if_neg (by omega), if_neg (by omega)]
    exact hL i (by omega)

set_option maxHeartbeats 4000000 in
set_option maxRecDepth 100000 in
theorem l_X12_copiesE {l : Launch} {D : va_G} {cy : Nat → ClassId} {b : Nat} {m : Nat} {a : Nat → Nat} {f0 : gMem} {n0 : Nat → Int32} {z0 : Nat → Int64} {F0 : Nat → Nat → Int32} {G0 : Nat → Nat → Int64}  {x1 x2 x3 x4 : Int32} {L : List Vl} {g V : Nat} (hc : (0 ≤ x1.toInt ∧ x1.toInt < 880) ∧ (0 ≤ x2.toInt ∧ x2.toInt ≤ x3.toInt ∧ x3.toInt ≤ 40) ∧ 0 ≤ x4.toInt ∧ x4.toInt ≤ 21) (hA0 : rAll F0) (hv : 0 ≤ (F0 17 (Int32.toNatClampNeg x4)).toInt ∧ (F0 17 (Int32.toNatClampNeg x4)).toInt + (x3.toInt - x2.toInt) ≤ 40) (hN : x3.toInt - x2.toInt = (L.length : Int)) (hg : x4.toInt = (g : Int) ∧ 40 * (x1.toInt.toNat / 40) + 40 ≤ 40 * g) (hV : (F0 17 (Int32.toNatClampNeg x4)).toInt = (V : Int)) (hL : vdM F0 (40 * (x1.toInt.toNat / 40) + x2.toInt.toNat) L) : ∀ (k : Nat) (i : Int32) (j : Nat) (M : List Vl) (n : Nat → Int32) (z : Nat → Int64) (F : Nat → Nat → Int32) (G : Nat → Nat → Int64) (fm : gMem), mS cy m a f0 n z F G fm → fx [] [] [17, 18, 19, 20] [] n0 z0 F0 G0 n z F G → (rAll F) → ((F 17 (Int32.toNatClampNeg x4)).toInt = (F0 17 (Int32.toNatClampNeg x4)).toInt + (i.toInt - x2.toInt)) → (∀ j, j ≠ (Int32.toNatClampNeg x4) → F 17 j = F0 17 j) → (i.toInt = x2.toInt + (j : Int)) → (M.length + j = L.length) → (vdM F0 (40 * (x1.toInt.toNat / 40) + x2.toInt.toNat + j) M) → (∀ c, LRv F0 g c V → ∃ c9, LRv F g c9 (V + j) ∧ putV M (V + j) c9 = putV L V c) → (lo3 F0 F g) → (x3.toInt - i.toInt < (k : Int)) → gG l (gRm 0 0 0) (gQf D b (pI fun r f2 => ∃ (n2 : Nat → Int32) (z2 : Nat → Int64) (F2 : Nat → Nat → Int32) (G2 : Nat → Nat → Int64), mS cy m a f0 n2 z2 F2 G2 f2 ∧ fx [] [] [17, 18, 19, 20] [] n0 z0 F0 G0 n2 z2 F2 G2 ∧ rAll F2 ∧ r = F2 17 (Int32.toNatClampNeg x4) ∧ r.toInt = (F0 17 (Int32.toNatClampNeg x4)).toInt + (x3.toInt - x2.toInt) ∧ (∀ j, j ≠ (Int32.toNatClampNeg x4) → F2 17 j = F0 17 j) ∧ (∀ c, LRv F0 g c V → LRv F2 g (putV L V c) (V + L.length)) ∧ lo3 F0 F2 g) 0 0) gTt D cy b cX12_copies 8 (some .int) RX12 "copies" 0 0 fm 3 [(5, .int i), (0, .ref m), (1, .int x1), (2, .int x2), (3, .int x3), (4, .int x4)] [] := by
  intro k
  induction k with
  | zero =>
    intro i j M n z F G fm hS hx hA h17 ho hij hML hM hC hlo hk
    exfalso; omega
  | succ k ih =>
    intro i j M n z F G fm hS hx hA h17 ho hij hML hM hC hlo hk
    refine gz_iload dX12_copies_3 rfl ?_
    refine gz_iload_n dX12_copies_5 rfl rfl ?_
    refine gz_icmp_ge (tgt := 95) dX12_copies_6 (by decide) (fun c_6 => ?_) (fun c_6 => ?_)
    ·
      try simp only [mIn_0, lgc_lt, lgc_gt, lgc_le, lgc_ge, lgc_eq] at c_6
      try simp only [fl_lt, fl_le, fl_eq, fL_w, fL_lt, fL_le, tm1, tm10k, tm9, tm99, Int32.reduceToInt, Int64.reduceToInt, Int.not_lt, Int.not_le] at c_6
      refine gz_aload_n dX12_copies_95 rfl rfl ?_
      refine mg_50 hS dX12_copies_96 ?_
      refine gz_iload dX12_copies_99 rfl ?_
      refine m_iald 17 hS rfl (N := 22) rfl ((by exact vin_T (rfl : x4.toInt = x4.toInt) (by omega) (by omega))) dX12_copies_101 ?_
      have eM : M = [] := List.eq_nil_of_length_eq_zero (by omega)
      exact gz_iret rfl dX12_copies_102 (Nat.le_of_ble_eq_true rfl) (Nat.le_of_ble_eq_true rfl) (⟨_, rfl, _, _, _, _, hS, hx, hA, rfl, (by omega), ho, (fun c hc0 => by obtain ⟨c8, l8, p8⟩ := hC c hc0; rw [eM, putV_nil] at p8; rw [← p8, show V + L.length = V + j by omega]; exact l8), hlo⟩)
    ·
      try simp only [mIn_0, lgc_lt, lgc_gt, lgc_le, lgc_ge, lgc_eq] at c_6
      try simp only [fl_lt, fl_le, fl_eq, fL_w, fL_lt, fL_le, tm1, tm10k, tm9, tm99, Int32.reduceToInt, Int64.reduceToInt, Int.not_lt, Int.not_le] at c_6
      obtain ⟨zv, M2, eM⟩ : ∃ a b, M = a :: b := by
        cases M with
        | nil => exfalso; rw [List.length_nil] at hML; omega
        | cons a b => exact ⟨a, b, rfl⟩
      subst eM
      rw [List.length_cons] at hML
      obtain ⟨u1, u2, u3, u4⟩ := hM
      refine gz_bipush (v := 40) dX12_copies_9 (by decide) ?_
      refine gz_iload_n dX12_copies_11 rfl rfl ?_
      refine gz_bipush (v := 40) dX12_copies_12 (by decide) ?_
      refine gz_idiv dX12_copies_14 (by decide) ?_
      refine gz_imul dX12_copies_15 ?_
      refine gz_iload dX12_copies_16 rfl ?_
      refine gz_iadd dX12_copies_18 ?_
      obtain ⟨sr, hsr⟩ : ∃ v_, v_ = ((40 * (x1 / 40)) + i) := ⟨_, rfl⟩
      refine gz_ev (w := .int sr) (congrArg Value.int hsr.symm) ?_
      have qs : sr.toInt = 40 * (x1.toInt / 40) + i.toInt := by rw [hsr]; have q := (T_add (T_mul (show (40 : Int32).toInt = 40 from rfl) (T_div (rfl : (x1).toInt = (x1).toInt) (show (40 : Int32).toInt = 40 from rfl) (by omega) (by omega)) (by omega)) (rfl : (i).toInt = (i).toInt) (by omega)); omega
      have esr : Int32.toNatClampNeg sr = 40 * (x1.toInt.toNat / 40) + x2.toInt.toNat + j := by rw [clN]; omega
      refine gz_istore (lv' := [(6, .int sr), (5, .int i), (0, .ref m), (1, .int x1), (2, .int x2), (3, .int x3), (4, .int x4)]) dX12_copies_19 (by decide) rfl ?_
      refine gz_bipush (v := 40) dX12_copies_21 (by decide) ?_
      refine gz_iload dX12_copies_23 rfl ?_
      refine gz_imul dX12_copies_25 ?_
      refine gz_aload_n dX12_copies_26 rfl rfl ?_
      refine mg_50 hS dX12_copies_27 ?_
      refine gz_iload dX12_copies_30 rfl ?_
      refine m_iald 17 hS rfl (N := 22) rfl ((by exact vin_T (rfl : x4.toInt = x4.toInt) (by omega) (by omega))) dX12_copies_32 ?_
      refine gz_iadd dX12_copies_33 ?_
      obtain ⟨ds, hds⟩ : ∃ v_, v_ = ((40 * x4) + ((F 17) (Int32.toNatClampNeg x4))) := ⟨_, rfl⟩
      refine gz_ev (w := .int ds) (congrArg Value.int hds.symm) ?_
      have qd : ds.toInt = 40 * x4.toInt + (F 17 (Int32.toNatClampNeg x4)).toInt := by rw [hds]; have q := (T_add (T_mul (show (40 : Int32).toInt = 40 from rfl) (rfl : (x4).toInt = (x4).toInt) (by omega)) (rfl : (((F 17) (Int32.toNatClampNeg x4))).toInt = (((F 17) (Int32.toNatClampNeg x4))).toInt) (by omega)); omega
      have eds : Int32.toNatClampNeg ds = 40 * g + (V + j) := by rw [clN]; omega
      refine gz_istore (lv' := [(7, .int ds), (6, .int sr), (5, .int i), (0, .ref m), (1, .int x1), (2, .int x2), (3, .int x3), (4, .int x4)]) dX12_copies_34 (by decide) rfl ?_
      refine gz_aload_n dX12_copies_36 rfl rfl ?_
      refine mg_53 hS dX12_copies_37 ?_
      refine gz_iload dX12_copies_40 rfl ?_
      refine gz_aload_n dX12_copies_42 rfl rfl ?_
      refine mg_53 hS dX12_copies_43 ?_
      refine gz_iload dX12_copies_46 rfl ?_
      refine m_iald 18 hS rfl (N := 880) rfl ((by exact vin_T (rfl : sr.toInt = sr.toInt) (by omega) (by omega))) dX12_copies_48 ?_
      refine m_iast 18 hS rfl (N := 880) rfl ((by exact vin_T (rfl : ds.toInt = ds.toInt) (by omega) (by omega))) dX12_copies_49 (fun f_1 hS_1q => ?_)
      have hS_1 : mS cy m a f0 n z (va_up F 18 (upd (F 18) (Int32.toNatClampNeg ds) ((F 18) (Int32.toNatClampNeg sr)))) G f_1 := hS_1q
      refine gz_aload_n dX12_copies_50 rfl rfl ?_
      refine mg_56 hS_1 dX12_copies_51 ?_
      refine gz_iload dX12_copies_54 rfl ?_
      refine gz_aload_n dX12_copies_56 rfl rfl ?_
      refine mg_56 hS_1 dX12_copies_57 ?_
      refine gz_iload dX12_copies_60 rfl ?_
      refine m_iald 19 hS_1 rfl (N := 880) rfl ((by exact vin_T (rfl : sr.toInt = sr.toInt) (by omega) (by omega))) dX12_copies_62 ?_
      refine gz_ev (w := .int ((F 19) (Int32.toNatClampNeg sr))) rfl ?_
      refine m_iast 19 hS_1 rfl (N := 880) rfl ((by exact vin_T (rfl : ds.toInt = ds.toInt) (by omega) (by omega))) dX12_copies_63 (fun f_2 hS_2q => ?_)
      have hS_2 : mS cy m a f0 n z (va_up (va_up F 18 (upd (F 18) (Int32.toNatClampNeg ds) ((F 18) (Int32.toNatClampNeg sr)))) 19 (upd (F 19) (Int32.toNatClampNeg ds) ((F 19) (Int32.toNatClampNeg sr)))) G f_2 := hS_2q
      refine gz_aload_n dX12_copies_64 rfl rfl ?_
      refine mg_59 hS_2 dX12_copies_65 ?_
      refine gz_iload dX12_copies_68 rfl ?_
      refine gz_aload_n dX12_copies_70 rfl rfl ?_
      refine mg_59 hS_2 dX12_copies_71 ?_
      refine gz_iload dX12_copies_74 rfl ?_
      refine m_iald 20 hS_2 rfl (N := 880) rfl ((by exact vin_T (rfl : sr.toInt = sr.toInt) (by omega) (by omega))) dX12_copies_76 ?_
      refine gz_ev (w := .int ((F 20) (Int32.toNatClampNeg sr))) rfl ?_
      refine m_iast 20 hS_2 rfl (N := 880) rfl ((by exact vin_T (rfl : ds.toInt = ds.toInt) (by omega) (by omega))) dX12_copies_77 (fun f_3 hS_3q => ?_)
      have hS_3 : mS cy m a f0 n z (va_up (va_up (va_up F 18 (upd (F 18) (Int32.toNatClampNeg ds) ((F 18) (Int32.toNatClampNeg sr)))) 19 (upd (F 19) (Int32.toNatClampNeg ds) ((F 19) (Int32.toNatClampNeg sr)))) 20 (upd (F 20) (Int32.toNatClampNeg ds) ((F 20) (Int32.toNatClampNeg sr)))) G f_3 := hS_3q
      refine gz_aload_n dX12_copies_78 rfl rfl ?_
      refine mg_50 hS_3 dX12_copies_79 ?_
      refine gz_iload dX12_copies_82 rfl ?_
      refine gz_dup2 dX12_copies_84 rfl rfl ?_
      refine m_iald 17 hS_3 rfl (N := 22) rfl ((by exact vin_T (rfl : x4.toInt = x4.toInt) (by omega) (by omega))) dX12_copies_85 ?_
      refine gz_ev (w := .int ((F 17) (Int32.toNatClampNeg x4))) rfl ?_
      refine gz_iconst (v := 1) dX12_copies_86 (by decide) ?_
      refine gz_iadd dX12_copies_87 ?_
      refine m_iast 17 hS_3 rfl (N := 22) rfl ((by exact vin_T (rfl : x4.toInt = x4.toInt) (by omega) (by omega))) dX12_copies_88 (fun f_4 hS_4q => ?_)
      have hS_4 : mS cy m a f0 n z (va_up (va_up (va_up (va_up F 18 (upd (F 18) (Int32.toNatClampNeg ds) ((F 18) (Int32.toNatClampNeg sr)))) 19 (upd (F 19) (Int32.toNatClampNeg ds) ((F 19) (Int32.toNatClampNeg sr)))) 20 (upd (F 20) (Int32.toNatClampNeg ds) ((F 20) (Int32.toNatClampNeg sr)))) 17 (upd (F 17) (Int32.toNatClampNeg x4) (((F 17) (Int32.toNatClampNeg x4)) + 1))) G f_4 := hS_4q
      refine gz_iinc (v := (i + 1)) (lv' := [(5, .int (i + 1)), (7, .int ds), (6, .int sr), (0, .ref m), (1, .int x1), (2, .int x2), (3, .int x3), (4, .int x4)]) dX12_copies_89 rfl rfl (by decide) rfl ?_
      refine gz_goto (tgt := 3) dX12_copies_92 (by decide) ?_
      refine gz_sub (lv' := [(5, .int (i + 1)), (0, .ref m), (1, .int x1), (2, .int x2), (3, .int x3), (4, .int x4)]) (by simp [List.lookup]) ?_
      have r13_ : (va_up (va_up (va_up (va_up F 18 (upd (F 18) (Int32.toNatClampNeg ds) ((F 18) (Int32.toNatClampNeg sr)))) 19 (upd (F 19) (Int32.toNatClampNeg ds) ((F 19) (Int32.toNatClampNeg sr)))) 20 (upd (F 20) (Int32.toNatClampNeg ds) ((F 20) (Int32.toNatClampNeg sr)))) 17 (upd (F 17) (Int32.toNatClampNeg x4) (((F 17) (Int32.toNatClampNeg x4)) + 1))) 13 = (F 13) := rfl
      have r14_ : (va_up (va_up (va_up (va_up F 18 (upd (F 18) (Int32.toNatClampNeg ds) ((F 18) (Int32.toNatClampNeg sr)))) 19 (upd (F 19) (Int32.toNatClampNeg ds) ((F 19) (Int32.toNatClampNeg sr)))) 20 (upd (F 20) (Int32.toNatClampNeg ds) ((F 20) (Int32.toNatClampNeg sr)))) 17 (upd (F 17) (Int32.toNatClampNeg x4) (((F 17) (Int32.toNatClampNeg x4)) + 1))) 14 = (F 14) := rfl
      have r15_ : (va_up (va_up (va_up (va_up F 18 (upd (F 18) (Int32.toNatClampNeg ds) ((F 18) (Int32.toNatClampNeg sr)))) 19 (upd (F 19) (Int32.toNatClampNeg ds) ((F 19) (Int32.toNatClampNeg sr)))) 20 (upd (F 20) (Int32.toNatClampNeg ds) ((F 20) (Int32.toNatClampNeg sr)))) 17 (upd (F 17) (Int32.toNatClampNeg x4) (((F 17) (Int32.toNatClampNeg x4)) + 1))) 15 = (F 15) := rfl
      have r17_ : (va_up (va_up (va_up (va_up F 18 (upd (F 18) (Int32.toNatClampNeg ds) ((F 18) (Int32.toNatClampNeg sr)))) 19 (upd (F 19) (Int32.toNatClampNeg ds) ((F 19) (Int32.toNatClampNeg sr)))) 20 (upd (F 20) (Int32.toNatClampNeg ds) ((F 20) (Int32.toNatClampNeg sr)))) 17 (upd (F 17) (Int32.toNatClampNeg x4) (((F 17) (Int32.toNatClampNeg x4)) + 1))) 17 = (upd (F 17) (Int32.toNatClampNeg x4) (((F 17) (Int32.toNatClampNeg x4)) + 1)) := rfl
      have r18_ : (va_up (va_up (va_up (va_up F 18 (upd (F 18) (Int32.toNatClampNeg ds) ((F 18) (Int32.toNatClampNeg sr)))) 19 (upd (F 19) (Int32.toNatClampNeg ds) ((F 19) (Int32.toNatClampNeg sr)))) 20 (upd (F 20) (Int32.toNatClampNeg ds) ((F 20) (Int32.toNatClampNeg sr)))) 17 (upd (F 17) (Int32.toNatClampNeg x4) (((F 17) (Int32.toNatClampNeg x4)) + 1))) 18 = (upd (F 18) (Int32.toNatClampNeg ds) ((F 18) (Int32.toNatClampNeg sr))) := rfl
      have r19_ : (va_up (va_up (va_up (va_up F 18 (upd (F 18) (Int32.toNatClampNeg ds) ((F 18) (Int32.toNatClampNeg sr)))) 19 (upd (F 19) (Int32.toNatClampNeg ds) ((F 19) (Int32.toNatClampNeg sr)))) 20 (upd (F 20) (Int32.toNatClampNeg ds) ((F 20) (Int32.toNatClampNeg sr)))) 17 (upd (F 17) (Int32.toNatClampNeg x4) (((F 17) (Int32.toNatClampNeg x4)) + 1))) 19 = (upd (F 19) (Int32.toNatClampNeg ds) ((F 19) (Int32.toNatClampNeg sr))) := rfl
      have r20_ : (va_up (va_up (va_up (va_up F 18 (upd (F 18) (Int32.toNatClampNeg ds) ((F 18) (Int32.toNatClampNeg sr)))) 19 (upd (F 19) (Int32.toNatClampNeg ds) ((F 19) (Int32.toNatClampNeg sr)))) 20 (upd (F 20) (Int32.toNatClampNeg ds) ((F 20) (Int32.toNatClampNeg sr)))) 17 (upd (F 17) (Int32.toNatClampNeg x4) (((F 17) (Int32.toNatClampNeg x4)) + 1))) 20 = (upd (F 20) (Int32.toNatClampNeg ds) ((F 20) (Int32.toNatClampNeg sr))) := rfl
      have hA9 : rAll (va_up (va_up (va_up (va_up F 18 (upd (F 18) (Int32.toNatClampNeg ds) ((F 18) (Int32.toNatClampNeg sr)))) 19 (upd (F 19) (Int32.toNatClampNeg ds) ((F 19) (Int32.toNatClampNeg sr)))) 20 (upd (F 20) (Int32.toNatClampNeg ds) ((F 20) (Int32.toNatClampNeg sr)))) 17 (upd (F 17) (Int32.toNatClampNeg x4) (((F 17) (Int32.toNatClampNeg x4)) + 1))) := by
        intro q hq
        obtain ⟨q1, q2, q3, q4⟩ := hA q hq
        have p4 := (hA (Int32.toNatClampNeg sr) (by rw [clN]; omega)).2.2.2
        rw [r13_, r14_, r15_, r19_]
        refine ⟨q1, q2, q3, ?_⟩
        rw [updE]
        split
        · exact p4
        · exact q4
      have q17 : ((F 17 (Int32.toNatClampNeg x4)) + 1).toInt = (F 17 (Int32.toNatClampNeg x4)).toInt + 1 := T_add (rfl : (F 17 (Int32.toNatClampNeg x4)).toInt = (F 17 (Int32.toNatClampNeg x4)).toInt) (show (1 : Int32).toInt = 1 from rfl) (by omega)
      have hin : (i + 1).toInt = i.toInt + 1 := T_add (rfl : i.toInt = i.toInt) (show (1 : Int32).toInt = 1 from rfl) (by omega)
      have h179 : ((va_up (va_up (va_up (va_up F 18 (upd (F 18) (Int32.toNatClampNeg ds) ((F 18) (Int32.toNatClampNeg sr)))) 19 (upd (F 19) (Int32.toNatClampNeg ds) ((F 19) (Int32.toNatClampNeg sr)))) 20 (upd (F 20) (Int32.toNatClampNeg ds) ((F 20) (Int32.toNatClampNeg sr)))) 17 (upd (F 17) (Int32.toNatClampNeg x4) (((F 17) (Int32.toNatClampNeg x4)) + 1))) 17 (Int32.toNatClampNeg x4)).toInt = (F0 17 (Int32.toNatClampNeg x4)).toInt + ((i + 1).toInt - x2.toInt) := by rw [r17_, updE, if_pos rfl, hin]; omega
      have ho9 : ∀ j, j ≠ (Int32.toNatClampNeg x4) → (va_up (va_up (va_up (va_up F 18 (upd (F 18) (Int32.toNatClampNeg ds) ((F 18) (Int32.toNatClampNeg sr)))) 19 (upd (F 19) (Int32.toNatClampNeg ds) ((F 19) (Int32.toNatClampNeg sr)))) 20 (upd (F 20) (Int32.toNatClampNeg ds) ((F 20) (Int32.toNatClampNeg sr)))) 17 (upd (F 17) (Int32.toNatClampNeg x4) (((F 17) (Int32.toNatClampNeg x4)) + 1))) 17 j = F0 17 j := by intro j hj; rw [r17_, updE, if_neg hj]; exact ho j hj
      have hlt : 40 * (x1.toInt.toNat / 40) + x2.toInt.toNat + j < 40 * g := by omega
      have y18 : (F 18 (Int32.toNatClampNeg sr)).toInt = zv.1 := by rw [esr, (hlo _ hlt).1]; exact u1
      have y19 : (F 19 (Int32.toNatClampNeg sr)).toInt = zv.2.1 := by rw [esr, (hlo _ hlt).2.1]; exact u2
      have y20 : (F 20 (Int32.toNatClampNeg sr)).toInt = zv.2.2 := by rw [esr, (hlo _ hlt).2.2]; exact u3
      have hc9 : ∀ c, LRv F0 g c V → ∃ c9, LRv (va_up (va_up (va_up (va_up F 18 (upd (F 18) (Int32.toNatClampNeg ds) ((F 18) (Int32.toNatClampNeg sr)))) 19 (upd (F 19) (Int32.toNatClampNeg ds) ((F 19) (Int32.toNatClampNeg sr)))) 20 (upd (F 20) (Int32.toNatClampNeg ds) ((F 20) (Int32.toNatClampNeg sr)))) 17 (upd (F 17) (Int32.toNatClampNeg x4) (((F 17) (Int32.toNatClampNeg x4)) + 1))) g c9 (V + (j + 1)) ∧ putV M2 (V + (j + 1)) c9 = putV L V c := fun c hc0 => by
        obtain ⟨c8, l8, p8⟩ := hC c hc0
        refine ⟨_, LRv_ad (V := V + j) (x := zv) l8 (by rw [r18_, eds]) (by rw [r19_, eds]) (by rw [r20_, eds]) y18 y19 y20, ?_⟩
        rw [← p8, putV_cons]
        rfl
      have hlo9 : lo3 F0 (va_up (va_up (va_up (va_up F 18 (upd (F 18) (Int32.toNatClampNeg ds) ((F 18) (Int32.toNatClampNeg sr)))) 19 (upd (F 19) (Int32.toNatClampNeg ds) ((F 19) (Int32.toNatClampNeg sr)))) 20 (upd (F 20) (Int32.toNatClampNeg ds) ((F 20) (Int32.toNatClampNeg sr)))) 17 (upd (F 17) (Int32.toNatClampNeg x4) (((F 17) (Int32.toNatClampNeg x4)) + 1))) g := fun q hq => by rw [r18_, r19_, r20_, updE, updE, updE, if_neg (by omega), if_neg (by omega), if_neg (by omega)]; exact hlo q hq
      exact ih (i + 1) (j + 1) M2 _ _ _ _ _ hS_4 (fx_F (fx_F (fx_F (fx_F hx (by decide)) (by decide)) (by decide)) (by decide)) (hA9) (h179) (ho9) (by omega) (by omega) (by rw [← Nat.add_assoc]; exact u4) (hc9) (hlo9) (by omega)

set_option maxHeartbeats 4000000 in
set_option maxRecDepth 100000 in
theorem k_X12_copiesE {l : Launch} {D : va_G} {cy : Nat → ClassId} {b : Nat} {f : gMem} {m : Nat} {a : Nat → Nat} {f0 : gMem} {n : Nat → Int32} {z : Nat → Int64} {F : Nat → Nat → Int32} {G : Nat → Nat → Int64}  {x1 x2 x3 x4 : Int32} {L : List Vl} {g V : Nat} (hS : mS cy m a f0 n z F G f) (hc : (0 ≤ x1.toInt ∧ x1.toInt < 880) ∧ (0 ≤ x2.toInt ∧ x2.toInt ≤ x3.toInt ∧ x3.toInt ≤ 40) ∧ 0 ≤ x4.toInt ∧ x4.toInt ≤ 21) (hA : rAll F) (hv : 0 ≤ (F 17 (Int32.toNatClampNeg x4)).toInt ∧ (F 17 (Int32.toNatClampNeg x4)).toInt + (x3.toInt - x2.toInt) ≤ 40) (hN : x3.toInt - x2.toInt = (L.length : Int)) (hg : x4.toInt = (g : Int) ∧ 40 * (x1.toInt.toNat / 40) + 40 ≤ 40 * g) (hV : (F 17 (Int32.toNatClampNeg x4)).toInt = (V : Int)) (hL : vdM F (40 * (x1.toInt.toNat / 40) + x2.toInt.toNat) L) : gC l D cy b yX12_copies cX12_copies 8 (some .int) 0 0 0 [.ref m, .int x1, .int x2, .int x3, .int x4] f (pI fun r f2 => ∃ (n2 : Nat → Int32) (z2 : Nat → Int64) (F2 : Nat → Nat → Int32) (G2 : Nat → Nat → Int64), mS cy m a f0 n2 z2 F2 G2 f2 ∧ fx [] [] [17, 18, 19, 20] [] n z F G n2 z2 F2 G2 ∧ rAll F2 ∧ r = F2 17 (Int32.toNatClampNeg x4) ∧ r.toInt = (F 17 (Int32.toNatClampNeg x4)).toInt + (x3.toInt - x2.toInt) ∧ (∀ j, j ≠ (Int32.toNatClampNeg x4) → F2 17 j = F 17 j) ∧ (∀ c, LRv F g c V → LRv F2 g (putV L V c) (V + L.length)) ∧ lo3 F F2 g) := by
  refine gC_of (by decide) (Nat.le_of_ble_eq_true rfl) ?_
  show gG l _ _ _ D cy b cX12_copies 8 _ RX12 "copies" 0 0 f 0 [(0, .ref m), (1, .int x1), (2, .int x2), (3, .int x3), (4, .int x4)] []
  refine gz_iload_n dX12_copies_0 rfl rfl ?_
  refine gz_istore (lv' := [(5, .int x2), (0, .ref m), (1, .int x1), (2, .int x2), (3, .int x3), (4, .int x4)]) dX12_copies_1 (by decide) rfl ?_
  refine gz_sub (lv' := [(5, .int x2), (0, .ref m), (1, .int x1), (2, .int x2), (3, .int x3), (4, .int x4)]) (by simp [List.lookup]) ?_
  exact l_X12_copiesE hc hA hv hN hg hV hL 41 x2 0 L _ _ _ _ _ hS fx_rf hA (by omega) (fun _ _ => rfl) (by omega) (by omega) hL (fun c hc0 => ⟨c, hc0, rfl⟩) (lo3_eq rfl rfl rfl) (by omega)
