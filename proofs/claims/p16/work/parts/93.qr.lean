set_option maxHeartbeats 4000000 in
set_option maxRecDepth 100000 in
theorem l_X12_laysOutE {l : Launch} {D : va_G} {cy : Nat → ClassId} {b : Nat} {m : Nat} {a : Nat → Nat} {f0 : gMem} {n0 : Nat → Int32} {z0 : Nat → Int64} {F0 : Nat → Nat → Int32} {G0 : Nat → Nat → Int64}  {x1 x2 : Int32} {f fo Wn : Nat} {TL : List Hd} {H : Nat → Hd} {fi se : Nat → Nat} {FIN : Cn} {NW NV : Nat} (hf : x2.toInt = (f : Int) ∧ f < 20 ∧ fo < f ∧ Wn ≤ 40) (hE0 : shE F0 fo 0 TL H fi se 0) (hTL : TL.length ≤ 40 ∧ Wn = TL.length) : ∀ (k : Nat) (W T : Nat) (n : Nat → Int32) (z : Nat → Int64) (F : Nat → Nat → Int32) (G : Nat → Nat → Int64) (fm : gMem), mS cy m a f0 n z F G fm → fx [83] [] [6, 7, 8, 9, 10, 11, 12, 13, 14, 15, 16, 17, 18, 19, 20, 84, 85, 86] [] n0 z0 F0 G0 n z F G → (LYJ F0 n F f fo Wn W T) → (LZ F f Wn H fi se FIN NW NV W T) → (lowR F0 F f) → (40 < W + k) → gG l (gRm 1 0 0) (gQf D b (pV fun f2 => ∃ (n2 : Nat → Int32) (z2 : Nat → Int64) (F2 : Nat → Nat → Int32) (G2 : Nat → Nat → Int64), mS cy m a f0 n2 z2 F2 G2 f2 ∧ fx [83] [] [6, 7, 8, 9, 10, 11, 12, 13, 14, 15, 16, 17, 18, 19, 20, 84, 85, 86] [] n0 z0 F0 G0 n2 z2 F2 G2 ∧ rAll F2 ∧ fOK F2 f ∧ (∀ g, g < f → agF F0 F2 g) ∧ (LR F2 f FIN NW NV ∧ (F2 6 f).toInt = (NW : Int) ∧ (F2 17 f).toInt = (NV : Int) ∧ (∀ k, k < NW → ¬ (6 ≤ (F2 7 (40 * f + k)).toInt ∧ (F2 7 (40 * f + k)).toInt ≤ 9) → F2 14 (40 * f + k) = F2 13 (40 * f + k) ∧ F2 15 (40 * f + k) = F2 13 (40 * f + k))) ∧ lowR F0 F2 f) 0 0) gTt D cy b cX12_laysOut 7 none RX12 "laysOut" 0 0 fm 26 [(0, .ref m), (1, .int x1), (2, .int x2)] [] := by
  intro k
  induction k with
  | zero =>
    intro W T n z F G fm hS hx hJ hZ hlw hk
    exfalso; obtain ⟨j1, j2, j3, j4, j5, j6, j7, j8⟩ := id hJ; rcases j3 with ⟨z, _⟩ | ⟨z1, z2⟩; (omega); (have z3 := z2.2.2.1; omega)
  | succ k ih =>
    intro W T n z F G fm hS hx hJ hZ hlw hk
    obtain ⟨j1, j2, j3, j4, j5, j6, j7, j8⟩ := id hJ
    have ecf : Int32.toNatClampNeg x2 = f := by rw [clN]; omega
    have q6 : (F 6 (Int32.toNatClampNeg x2)).toInt = (W : Int) := by rw [ecf]; exact j1
    refine gz_aload_n dX12_laysOut_26 rfl rfl ?_
    refine mg_524 hS dX12_laysOut_27 ?_
    refine gz_if_le (tgt := 393) dX12_laysOut_30 (by decide) (fun c_30 => ?_) (fun c_30 => ?_)
    ·
      try simp only [mIn_0, lgc_lt, lgc_gt, lgc_le, lgc_ge, lgc_eq] at c_30
      try simp only [fl_lt, fl_le, fl_eq, fL_w, fL_lt, fL_le, tm1, tm10k, tm9, tm99, Int32.reduceToInt, Int64.reduceToInt, Int.not_lt, Int.not_le] at c_30
      have eT : T = 0 := by omega
      subst eT
      have hfin : fOK F f := by rcases j3 with ⟨_, z, _⟩ | ⟨z1, z2⟩; (omega); (exact lay_fin z1 j1 z2)
      obtain ⟨y1, y2, y3, y4⟩ := LZ_end hZ
      exact gz_vret rfl dX12_laysOut_393 (Nat.le_of_ble_eq_true rfl) (Nat.le_of_ble_eq_true rfl) (⟨rfl, _, _, _, _, hS, hx, j5, hfin, j8, ⟨y2, (by rw [← y1]; exact j1), y3, y4⟩, hlw⟩)
    ·
      try simp only [mIn_0, lgc_lt, lgc_gt, lgc_le, lgc_ge, lgc_eq] at c_30
      try simp only [fl_lt, fl_le, fl_eq, fL_w, fL_lt, fL_le, tm1, tm10k, tm9, tm99, Int32.reduceToInt, Int64.reduceToInt, Int.not_lt, Int.not_le] at c_30
      obtain ⟨T1, hT1⟩ : ∃ T1 : Nat, T = T1 + 1 := ⟨T - 1, by omega⟩
      subst hT1
      obtain ⟨a_, u1, u2, u3, u4, u5⟩ := LYI_top hf.2.2.2 j3
      refine gz_aload_n dX12_laysOut_33 rfl rfl ?_
      refine gz_dup dX12_laysOut_34 rfl ?_
      refine mg_524 hS dX12_laysOut_35 ?_
      refine gz_iconst (v := 1) dX12_laysOut_38 (by decide) ?_
      refine gz_isub dX12_laysOut_39 ?_
      obtain ⟨tk, htk⟩ : ∃ v_ : Int32, v_ = ((n 83) - 1) := ⟨_, rfl⟩
      refine gz_ev (w := .int tk) (congrArg Value.int htk.symm) ?_
      have qtk : tk.toInt = (T1 : Int) := by rw [htk]; have q := (T_sub (rfl : ((n 83)).toInt = ((n 83)).toInt) (show (1 : Int32).toInt = 1 from rfl) (by omega)); omega
      have ect : Int32.toNatClampNeg tk = T1 := by rw [clN]; omega
      refine mp_524 hS dX12_laysOut_40 (fun f_1 hS_1 => ?_)
      refine gz_aload_n dX12_laysOut_43 rfl rfl ?_
      refine mg_231 hS_1 dX12_laysOut_44 ?_
      refine gz_aload_n dX12_laysOut_47 rfl rfl ?_
      refine mg_524 hS_1 dX12_laysOut_48 ?_
      refine gz_ev (w := .int tk) rfl ?_
      refine m_iald 84 hS_1 rfl (N := 120) rfl ((by exact vin_T (rfl : tk.toInt = tk.toInt) (by omega) (by omega))) dX12_laysOut_51 ?_
      refine gz_ev (w := .int ((F 84) (Int32.toNatClampNeg tk))) rfl ?_
      obtain ⟨nd, hnd⟩ : ∃ v_ : Int32, v_ = ((F 84) (Int32.toNatClampNeg tk)) := ⟨_, rfl⟩
      refine gz_ev (w := .int nd) (congrArg Value.int hnd.symm) ?_
      have end_ : F 84 T1 = nd := by rw [hnd, ect]
      rw [end_] at u1 u4
      have qnd : 0 ≤ nd.toInt ∧ nd.toInt ≤ 40 := by rcases u1.2 with z | ⟨z, z1, z2, z3⟩ <;> omega
      refine gz_istore_n (lv' := [(3, .int nd), (0, .ref m), (1, .int x1), (2, .int x2)]) dX12_laysOut_52 rfl (by decide) rfl ?_
      refine gz_aload_n dX12_laysOut_53 rfl rfl ?_
      refine mg_234 hS_1 dX12_laysOut_54 ?_
      refine gz_aload_n dX12_laysOut_57 rfl rfl ?_
      refine mg_524 hS_1 dX12_laysOut_58 ?_
      refine gz_ev (w := .int tk) rfl ?_
      refine m_iald 85 hS_1 rfl (N := 120) rfl ((by exact vin_T (rfl : tk.toInt = tk.toInt) (by omega) (by omega))) dX12_laysOut_61 ?_
      refine gz_ev (w := .int ((F 85) (Int32.toNatClampNeg tk))) rfl ?_
      obtain ⟨up, hup⟩ : ∃ v_ : Int32, v_ = ((F 85) (Int32.toNatClampNeg tk)) := ⟨_, rfl⟩
      refine gz_ev (w := .int up) (congrArg Value.int hup.symm) ?_
      have eup : F 85 T1 = up := by rw [hup, ect]
      have qup : (up.toInt = -1) ∨ ∃ p : Nat, p < W ∧ up.toInt = 40 * (f : Int) + p := by rcases u5 with ⟨z1, z2, z3, z4⟩ | ⟨p, z1, z2, z3, z4, z5⟩; (rw [eup] at z1; exact Or.inl z1); (rw [eup] at z2; exact Or.inr ⟨p, z1, z2⟩)
      have qur : -1 ≤ up.toInt ∧ up.toInt < 880 := by rcases qup with z | ⟨p, z1, z2⟩ <;> omega
      refine gz_istore (lv' := [(4, .int up), (3, .int nd), (0, .ref m), (1, .int x1), (2, .int x2)]) dX12_laysOut_62 (by decide) rfl ?_
      refine gz_bipush (v := 40) dX12_laysOut_64 (by decide) ?_
      refine gz_iload_n dX12_laysOut_66 rfl rfl ?_
      refine gz_imul dX12_laysOut_67 ?_
      refine gz_aload_n dX12_laysOut_68 rfl rfl ?_
      refine mg_17 hS_1 dX12_laysOut_69 ?_
      refine gz_iload_n dX12_laysOut_72 rfl rfl ?_
      refine m_iald 6 hS_1 rfl (N := 22) rfl ((by exact vin_T (rfl : x2.toInt = x2.toInt) (by omega) (by omega))) dX12_laysOut_73 ?_
      refine gz_ev (w := .int ((F 6) (Int32.toNatClampNeg x2))) rfl ?_
      refine gz_iadd dX12_laysOut_74 ?_
      obtain ⟨iw, hiw⟩ : ∃ v_ : Int32, v_ = ((40 * x2) + ((F 6) (Int32.toNatClampNeg x2))) := ⟨_, rfl⟩
      refine gz_ev (w := .int iw) (congrArg Value.int hiw.symm) ?_
      have qiw : iw.toInt = 40 * (f : Int) + W := by rw [hiw]; have q := (T_add (T_mul (show (40 : Int32).toInt = 40 from rfl) (rfl : (x2).toInt = (x2).toInt) (by omega)) (rfl : (((F 6) (Int32.toNatClampNeg x2))).toInt = (((F 6) (Int32.toNatClampNeg x2))).toInt) (by omega)); omega
      refine gz_istore (lv' := [(5, .int iw), (4, .int up), (3, .int nd), (0, .ref m), (1, .int x1), (2, .int x2)]) dX12_laysOut_75 (by decide) rfl ?_
      refine gz_aload_n dX12_laysOut_77 rfl rfl ?_
      refine mg_17 hS_1 dX12_laysOut_78 ?_
      refine gz_iload_n dX12_laysOut_81 rfl rfl ?_
      refine gz_dup2 dX12_laysOut_82 rfl rfl ?_
      refine m_iald 6 hS_1 rfl (N := 22) rfl ((by exact vin_T (rfl : x2.toInt = x2.toInt) (by omega) (by omega))) dX12_laysOut_83 ?_
      refine gz_ev (w := .int ((F 6) (Int32.toNatClampNeg x2))) rfl ?_
      refine gz_iconst (v := 1) dX12_laysOut_84 (by decide) ?_
      refine gz_iadd dX12_laysOut_85 ?_
      refine m_iast 6 hS_1 rfl (N := 22) rfl ((by exact vin_T (rfl : x2.toInt = x2.toInt) (by omega) (by omega))) dX12_laysOut_86 (fun f_2 hS_2q => ?_)
      have hS_2 : mS cy m a f0 (va_up n 83 tk) z (va_up F 6 (upd (F 6) (Int32.toNatClampNeg x2) (((F 6) (Int32.toNatClampNeg x2)) + 1))) G f_2 := hS_2q
      refine gz_iload dX12_laysOut_87 rfl ?_
      refine gz_if_lt (tgt := 116) dX12_laysOut_89 (by decide) (fun c_89 => ?_) (fun c_89 => ?_)
      ·
        try simp only [mIn_0, lgc_lt, lgc_gt, lgc_le, lgc_ge, lgc_eq] at c_89
        try simp only [fl_lt, fl_le, fl_eq, fL_w, fL_lt, fL_le, tm1, tm10k, tm9, tm99, Int32.reduceToInt, Int64.reduceToInt, Int.not_lt, Int.not_le] at c_89
        refine gz_iload dX12_laysOut_116 rfl ?_
        refine gz_if_lt (tgt := 130) dX12_laysOut_118 (by decide) (fun c_118 => ?_) (fun c_118 => ?_)
        ·
          try simp only [mIn_0, lgc_lt, lgc_gt, lgc_le, lgc_ge, lgc_eq] at c_118
          try simp only [fl_lt, fl_le, fl_eq, fL_w, fL_lt, fL_le, tm1, tm10k, tm9, tm99, Int32.reduceToInt, Int64.reduceToInt, Int.not_lt, Int.not_le] at c_118
          have s6_ : (va_up F 6 (upd (F 6) (Int32.toNatClampNeg x2) (((F 6) (Int32.toNatClampNeg x2)) + 1))) 6 = (upd (F 6) (Int32.toNatClampNeg x2) (((F 6) (Int32.toNatClampNeg x2)) + 1)) := rfl
          have s11_ : (va_up F 6 (upd (F 6) (Int32.toNatClampNeg x2) (((F 6) (Int32.toNatClampNeg x2)) + 1))) 11 = (F 11) := rfl
          have s12_ : (va_up F 6 (upd (F 6) (Int32.toNatClampNeg x2) (((F 6) (Int32.toNatClampNeg x2)) + 1))) 12 = (F 12) := rfl
          have hxx : fx [83] [] [6, 11, 12] [] n z F G (va_up n 83 tk) z (va_up F 6 (upd (F 6) (Int32.toNatClampNeg x2) (((F 6) (Int32.toNatClampNeg x2)) + 1))) G := (fx_F (fx_n fx_rf (by decide)) (by decide))
          have h6 : ((va_up F 6 (upd (F 6) (Int32.toNatClampNeg x2) (((F 6) (Int32.toNatClampNeg x2)) + 1))) 6 f).toInt = (W : Int) + 1 := by rw [s6_, ecf, updE, if_pos rfl]; have q := T_add j1 (show (1 : Int32).toInt = 1 from rfl) (by omega); exact q
          have hg : ∀ g, g < f → agF F (va_up F 6 (upd (F 6) (Int32.toNatClampNeg x2) (((F 6) (Int32.toNatClampNeg x2)) + 1))) g := by
            intro g hgf
            refine ⟨by rw [s6_, ecf, updE, if_neg (by omega)], fun r hr k hk => ?_⟩
            simp only [List.mem_cons, List.not_mem_nil, or_false] at hr
            rcases hr with rfl | rfl | rfl | rfl | rfl | rfl | rfl | rfl
            · exact congrFun (hxx.2.2.1 7 (by decide)) _
            · exact congrFun (hxx.2.2.1 9 (by decide)) _
            · exact congrFun (hxx.2.2.1 10 (by decide)) _
            · rw [s11_]
            · rw [s12_]
            · exact congrFun (hxx.2.2.1 13 (by decide)) _
            · exact congrFun (hxx.2.2.1 14 (by decide)) _
            · exact congrFun (hxx.2.2.1 15 (by decide)) _
          have ho : otL F (va_up F 6 (upd (F 6) (Int32.toNatClampNeg x2) (((F 6) (Int32.toNatClampNeg x2)) + 1))) f W T1 := by
            intro p_ hp_ ep_
            rw [eup] at ep_
            exfalso; omega
          have hc : LYc F0 F f fo Wn W T1 a_ nd up := ⟨j3, u5, ⟨end_, eup⟩, u1, ⟨j4, u4⟩, j5, j6, j7, j8⟩
          have hA2 : rAll (va_up F 6 (upd (F 6) (Int32.toNatClampNeg x2) (((F 6) (Int32.toNatClampNeg x2)) + 1))) := fun q hq => j5 q hq
          have hE : shE F fo 0 TL H fi se 0 := shE_lo hlw.1 hf.2.2.1 (fun r hr => hx.2.2.1 r (fun h => by simp only [List.mem_cons, List.not_mem_nil, or_false] at h hr; omega)) hE0
          refine gz_sub (lv' := [(0, .ref m), (1, .int x1), (2, .int x2), (3, .int nd), (4, .int up), (5, .int iw)]) (by simp [List.lookup]) ?_
          refine l_X12_laysOutBE hf ⟨qiw, by omega, by omega⟩ hc hZ hE hTL hlw ?_ 1 _ _ _ _ _ hS_2 (fx_F (fx_n hx (by decide)) (by decide)) (show ((va_up n 83 tk) 83).toInt = (T1 : Int) from qtk) hA2 ⟨fun r hr => hxx.2.2.1 r hr, h6, hg, ho⟩ (by decide)
          intro T2 n2_ z2_ F2_ G2_ fm2_ hS2_ hx2_ hJ2_ hZ2_ hlw2_
          exact ih (W + 1) T2 n2_ z2_ F2_ G2_ fm2_ hS2_ hx2_ hJ2_ hZ2_ hlw2_ (by omega)
        ·
          try simp only [mIn_0, lgc_lt, lgc_gt, lgc_le, lgc_ge, lgc_eq] at c_118
          try simp only [fl_lt, fl_le, fl_eq, fL_w, fL_lt, fL_le, tm1, tm10k, tm9, tm99, Int32.reduceToInt, Int64.reduceToInt, Int.not_lt, Int.not_le] at c_118
          refine gz_aload_n dX12_laysOut_121 rfl rfl ?_
          refine mg_32 hS_2 dX12_laysOut_122 ?_
          refine gz_iload dX12_laysOut_125 rfl ?_
          refine gz_iload dX12_laysOut_127 rfl ?_
          refine m_iast 11 hS_2 rfl (N := 880) rfl ((by exact vin_T (rfl : up.toInt = up.toInt) (by omega) (by omega))) dX12_laysOut_129 (fun f_3 hS_3q => ?_)
          have hS_3 : mS cy m a f0 (va_up n 83 tk) z (va_up (va_up F 6 (upd (F 6) (Int32.toNatClampNeg x2) (((F 6) (Int32.toNatClampNeg x2)) + 1))) 11 (upd (F 11) (Int32.toNatClampNeg up) iw)) G f_3 := hS_3q
          have s6_ : (va_up (va_up F 6 (upd (F 6) (Int32.toNatClampNeg x2) (((F 6) (Int32.toNatClampNeg x2)) + 1))) 11 (upd (F 11) (Int32.toNatClampNeg up) iw)) 6 = (upd (F 6) (Int32.toNatClampNeg x2) (((F 6) (Int32.toNatClampNeg x2)) + 1)) := rfl
          have s11_ : (va_up (va_up F 6 (upd (F 6) (Int32.toNatClampNeg x2) (((F 6) (Int32.toNatClampNeg x2)) + 1))) 11 (upd (F 11) (Int32.toNatClampNeg up) iw)) 11 = (upd (F 11) (Int32.toNatClampNeg up) iw) := rfl
          have s12_ : (va_up (va_up F 6 (upd (F 6) (Int32.toNatClampNeg x2) (((F 6) (Int32.toNatClampNeg x2)) + 1))) 11 (upd (F 11) (Int32.toNatClampNeg up) iw)) 12 = (F 12) := rfl
          have hxx : fx [83] [] [6, 11, 12] [] n z F G (va_up n 83 tk) z (va_up (va_up F 6 (upd (F 6) (Int32.toNatClampNeg x2) (((F 6) (Int32.toNatClampNeg x2)) + 1))) 11 (upd (F 11) (Int32.toNatClampNeg up) iw)) G := (fx_F (fx_F (fx_n fx_rf (by decide)) (by decide)) (by decide))
          obtain ⟨p, hp1, hp2⟩ : ∃ p : Nat, p < W ∧ up.toInt = 40 * (f : Int) + p := by rcases qup with z | z; (exfalso; omega); (exact z)
          have eu : Int32.toNatClampNeg up = 40 * f + p := by rw [clN]; omega
          have htw : twB F T1 = false := by unfold twB; rw [← ect]; simp only [decide_eq_false_iff_not]; omega
          have h6 : ((va_up (va_up F 6 (upd (F 6) (Int32.toNatClampNeg x2) (((F 6) (Int32.toNatClampNeg x2)) + 1))) 11 (upd (F 11) (Int32.toNatClampNeg up) iw)) 6 f).toInt = (W : Int) + 1 := by rw [s6_, ecf, updE, if_pos rfl]; have q := T_add j1 (show (1 : Int32).toInt = 1 from rfl) (by omega); exact q
          have hg : ∀ g, g < f → agF F (va_up (va_up F 6 (upd (F 6) (Int32.toNatClampNeg x2) (((F 6) (Int32.toNatClampNeg x2)) + 1))) 11 (upd (F 11) (Int32.toNatClampNeg up) iw)) g := by
            intro g hgf
            refine ⟨by rw [s6_, ecf, updE, if_neg (by omega)], fun r hr k hk => ?_⟩
            simp only [List.mem_cons, List.not_mem_nil, or_false] at hr
            rcases hr with rfl | rfl | rfl | rfl | rfl | rfl | rfl | rfl
            · exact congrFun (hxx.2.2.1 7 (by decide)) _
            · exact congrFun (hxx.2.2.1 9 (by decide)) _
            · exact congrFun (hxx.2.2.1 10 (by decide)) _
            · rw [s11_, eu, updE, if_neg (by omega)]
            · rw [s12_]
            · exact congrFun (hxx.2.2.1 13 (by decide)) _
            · exact congrFun (hxx.2.2.1 14 (by decide)) _
            · exact congrFun (hxx.2.2.1 15 (by decide)) _
          have ho : otL F (va_up (va_up F 6 (upd (F 6) (Int32.toNatClampNeg x2) (((F 6) (Int32.toNatClampNeg x2)) + 1))) 11 (upd (F 11) (Int32.toNatClampNeg up) iw)) f W T1 := by
            intro p_ hp_ ep_
            rw [eup] at ep_
            have e_ : p_ = p := by omega
            subst e_
            refine ⟨fun k hk => ?_, fun k hk => ?_⟩
            · rw [s11_, eu, updE]
              by_cases e : k = p_
              · rw [if_pos ⟨e, htw⟩, if_pos (by omega)]; exact qiw
              · rw [if_neg (fun y => e y.1), if_neg (by omega)]
            · rw [if_neg (fun y => by rw [htw] at y; exact absurd y.2 (by decide)), s12_]
          have hc : LYc F0 F f fo Wn W T1 a_ nd up := ⟨j3, u5, ⟨end_, eup⟩, u1, ⟨j4, u4⟩, j5, j6, j7, j8⟩
          have hA2 : rAll (va_up (va_up F 6 (upd (F 6) (Int32.toNatClampNeg x2) (((F 6) (Int32.toNatClampNeg x2)) + 1))) 11 (upd (F 11) (Int32.toNatClampNeg up) iw)) := fun q hq => j5 q hq
          have hE : shE F fo 0 TL H fi se 0 := shE_lo hlw.1 hf.2.2.1 (fun r hr => hx.2.2.1 r (fun h => by simp only [List.mem_cons, List.not_mem_nil, or_false] at h hr; omega)) hE0
          refine gz_sub (lv' := [(0, .ref m), (1, .int x1), (2, .int x2), (3, .int nd), (4, .int up), (5, .int iw)]) (by simp [List.lookup]) ?_
          refine l_X12_laysOutBE hf ⟨qiw, by omega, by omega⟩ hc hZ hE hTL hlw ?_ 1 _ _ _ _ _ hS_3 (fx_F (fx_F (fx_n hx (by decide)) (by decide)) (by decide)) (show ((va_up n 83 tk) 83).toInt = (T1 : Int) from qtk) hA2 ⟨fun r hr => hxx.2.2.1 r hr, h6, hg, ho⟩ (by decide)
          intro T2 n2_ z2_ F2_ G2_ fm2_ hS2_ hx2_ hJ2_ hZ2_ hlw2_
          exact ih (W + 1) T2 n2_ z2_ F2_ G2_ fm2_ hS2_ hx2_ hJ2_ hZ2_ hlw2_ (by omega)
      ·
        try simp only [mIn_0, lgc_lt, lgc_gt, lgc_le, lgc_ge, lgc_eq] at c_89
        try simp only [fl_lt, fl_le, fl_eq, fL_w, fL_lt, fL_le, tm1, tm10k, tm9, tm99, Int32.reduceToInt, Int64.reduceToInt, Int.not_lt, Int.not_le] at c_89
        refine gz_aload_n dX12_laysOut_92 rfl rfl ?_
        refine mg_237 hS_2 dX12_laysOut_93 ?_
        refine gz_aload_n dX12_laysOut_96 rfl rfl ?_
        refine mg_524 hS_2 dX12_laysOut_97 ?_
        refine gz_ev (w := .int tk) rfl ?_
        refine m_zald 86 hS_2 rfl (N := 120) rfl ((by exact vin_T (rfl : tk.toInt = tk.toInt) (by omega) (by omega))) dX12_laysOut_100 ?_
        refine gz_ev (w := .int ((F 86) (Int32.toNatClampNeg tk))) rfl ?_
        refine gz_if_eq (tgt := 116) dX12_laysOut_101 (by decide) (fun c_101 => ?_) (fun c_101 => ?_)
        ·
          try simp only [mIn_0, lgc_lt, lgc_gt, lgc_le, lgc_ge, lgc_eq] at c_101
          try simp only [fl_lt, fl_le, fl_eq, fL_w, fL_lt, fL_le, tm1, tm10k, tm9, tm99, Int32.reduceToInt, Int64.reduceToInt, Int.not_lt, Int.not_le] at c_101
          refine gz_iload dX12_laysOut_116 rfl ?_
          refine gz_if_lt (tgt := 130) dX12_laysOut_118 (by decide) (fun c_118 => ?_) (fun c_118 => ?_)
          ·
            try simp only [mIn_0, lgc_lt, lgc_gt, lgc_le, lgc_ge, lgc_eq] at c_118
            try simp only [fl_lt, fl_le, fl_eq, fL_w, fL_lt, fL_le, tm1, tm10k, tm9, tm99, Int32.reduceToInt, Int64.reduceToInt, Int.not_lt, Int.not_le] at c_118
            have s6_ : (va_up F 6 (upd (F 6) (Int32.toNatClampNeg x2) (((F 6) (Int32.toNatClampNeg x2)) + 1))) 6 = (upd (F 6) (Int32.toNatClampNeg x2) (((F 6) (Int32.toNatClampNeg x2)) + 1)) := rfl
            have s11_ : (va_up F 6 (upd (F 6) (Int32.toNatClampNeg x2) (((F 6) (Int32.toNatClampNeg x2)) + 1))) 11 = (F 11) := rfl
            have s12_ : (va_up F 6 (upd (F 6) (Int32.toNatClampNeg x2) (((F 6) (Int32.toNatClampNeg x2)) + 1))) 12 = (F 12) := rfl
            have hxx : fx [83] [] [6, 11, 12] [] n z F G (va_up n 83 tk) z (va_up F 6 (upd (F 6) (Int32.toNatClampNeg x2) (((F 6) (Int32.toNatClampNeg x2)) + 1))) G := (fx_F (fx_n fx_rf (by decide)) (by decide))
            have h6 : ((va_up F 6 (upd (F 6) (Int32.toNatClampNeg x2) (((F 6) (Int32.toNatClampNeg x2)) + 1))) 6 f).toInt = (W : Int) + 1 := by rw [s6_, ecf, updE, if_pos rfl]; have q := T_add j1 (show (1 : Int32).toInt = 1 from rfl) (by omega); exact q
            have hg : ∀ g, g < f → agF F (va_up F 6 (upd (F 6) (Int32.toNatClampNeg x2) (((F 6) (Int32.toNatClampNeg x2)) + 1))) g := by
              intro g hgf
              refine ⟨by rw [s6_, ecf, updE, if_neg (by omega)], fun r hr k hk => ?_⟩
              simp only [List.mem_cons, List.not_mem_nil, or_false] at hr
              rcases hr with rfl | rfl | rfl | rfl | rfl | rfl | rfl | rfl
              · exact congrFun (hxx.2.2.1 7 (by decide)) _
              · exact congrFun (hxx.2.2.1 9 (by decide)) _
              · exact congrFun (hxx.2.2.1 10 (by decide)) _
              · rw [s11_]
              · rw [s12_]
              · exact congrFun (hxx.2.2.1 13 (by decide)) _
              · exact congrFun (hxx.2.2.1 14 (by decide)) _
              · exact congrFun (hxx.2.2.1 15 (by decide)) _
            have ho : otL F (va_up F 6 (upd (F 6) (Int32.toNatClampNeg x2) (((F 6) (Int32.toNatClampNeg x2)) + 1))) f W T1 := by
              intro p_ hp_ ep_
              rw [eup] at ep_
              exfalso; omega
            have hc : LYc F0 F f fo Wn W T1 a_ nd up := ⟨j3, u5, ⟨end_, eup⟩, u1, ⟨j4, u4⟩, j5, j6, j7, j8⟩
            have hA2 : rAll (va_up F 6 (upd (F 6) (Int32.toNatClampNeg x2) (((F 6) (Int32.toNatClampNeg x2)) + 1))) := fun q hq => j5 q hq
            have hE : shE F fo 0 TL H fi se 0 := shE_lo hlw.1 hf.2.2.1 (fun r hr => hx.2.2.1 r (fun h => by simp only [List.mem_cons, List.not_mem_nil, or_false] at h hr; omega)) hE0
            refine gz_sub (lv' := [(0, .ref m), (1, .int x1), (2, .int x2), (3, .int nd), (4, .int up), (5, .int iw)]) (by simp [List.lookup]) ?_
            refine l_X12_laysOutBE hf ⟨qiw, by omega, by omega⟩ hc hZ hE hTL hlw ?_ 1 _ _ _ _ _ hS_2 (fx_F (fx_n hx (by decide)) (by decide)) (show ((va_up n 83 tk) 83).toInt = (T1 : Int) from qtk) hA2 ⟨fun r hr => hxx.2.2.1 r hr, h6, hg, ho⟩ (by decide)
            intro T2 n2_ z2_ F2_ G2_ fm2_ hS2_ hx2_ hJ2_ hZ2_ hlw2_
            exact ih (W + 1) T2 n2_ z2_ F2_ G2_ fm2_ hS2_ hx2_ hJ2_ hZ2_ hlw2_ (by omega)
          ·
            try simp only [mIn_0, lgc_lt, lgc_gt, lgc_le, lgc_ge, lgc_eq] at c_118
            try simp only [fl_lt, fl_le, fl_eq, fL_w, fL_lt, fL_le, tm1, tm10k, tm9, tm99, Int32.reduceToInt, Int64.reduceToInt, Int.not_lt, Int.not_le] at c_118
            refine gz_aload_n dX12_laysOut_121 rfl rfl ?_
            refine mg_32 hS_2 dX12_laysOut_122 ?_
            refine gz_iload dX12_laysOut_125 rfl ?_
            refine gz_iload dX12_laysOut_127 rfl ?_
            refine m_iast 11 hS_2 rfl (N := 880) rfl ((by exact vin_T (rfl : up.toInt = up.toInt) (by omega) (by omega))) dX12_laysOut_129 (fun f_4 hS_4q => ?_)
            have hS_4 : mS cy m a f0 (va_up n 83 tk) z (va_up (va_up F 6 (upd (F 6) (Int32.toNatClampNeg x2) (((F 6) (Int32.toNatClampNeg x2)) + 1))) 11 (upd (F 11) (Int32.toNatClampNeg up) iw)) G f_4 := hS_4q
            have s6_ : (va_up (va_up F 6 (upd (F 6) (Int32.toNatClampNeg x2) (((F 6) (Int32.toNatClampNeg x2)) + 1))) 11 (upd (F 11) (Int32.toNatClampNeg up) iw)) 6 = (upd (F 6) (Int32.toNatClampNeg x2) (((F 6) (Int32.toNatClampNeg x2)) + 1)) := rfl
            have s11_ : (va_up (va_up F 6 (upd (F 6) (Int32.toNatClampNeg x2) (((F 6) (Int32.toNatClampNeg x2)) + 1))) 11 (upd (F 11) (Int32.toNatClampNeg up) iw)) 11 = (upd (F 11) (Int32.toNatClampNeg up) iw) := rfl
            have s12_ : (va_up (va_up F 6 (upd (F 6) (Int32.toNatClampNeg x2) (((F 6) (Int32.toNatClampNeg x2)) + 1))) 11 (upd (F 11) (Int32.toNatClampNeg up) iw)) 12 = (F 12) := rfl
            have hxx : fx [83] [] [6, 11, 12] [] n z F G (va_up n 83 tk) z (va_up (va_up F 6 (upd (F 6) (Int32.toNatClampNeg x2) (((F 6) (Int32.toNatClampNeg x2)) + 1))) 11 (upd (F 11) (Int32.toNatClampNeg up) iw)) G := (fx_F (fx_F (fx_n fx_rf (by decide)) (by decide)) (by decide))
            obtain ⟨p, hp1, hp2⟩ : ∃ p : Nat, p < W ∧ up.toInt = 40 * (f : Int) + p := by rcases qup with z | z; (exfalso; omega); (exact z)
            have eu : Int32.toNatClampNeg up = 40 * f + p := by rw [clN]; omega
            have htw : twB F T1 = false := by unfold twB; rw [← ect]; simp only [decide_eq_false_iff_not]; omega
            have h6 : ((va_up (va_up F 6 (upd (F 6) (Int32.toNatClampNeg x2) (((F 6) (Int32.toNatClampNeg x2)) + 1))) 11 (upd (F 11) (Int32.toNatClampNeg up) iw)) 6 f).toInt = (W : Int) + 1 := by rw [s6_, ecf, updE, if_pos rfl]; have q := T_add j1 (show (1 : Int32).toInt = 1 from rfl) (by omega); exact q
            have hg : ∀ g, g < f → agF F (va_up (va_up F 6 (upd (F 6) (Int32.toNatClampNeg x2) (((F 6) (Int32.toNatClampNeg x2)) + 1))) 11 (upd (F 11) (Int32.toNatClampNeg up) iw)) g := by
              intro g hgf
              refine ⟨by rw [s6_, ecf, updE, if_neg (by omega)], fun r hr k hk => ?_⟩
              simp only [List.mem_cons, List.not_mem_nil, or_false] at hr
              rcases hr with rfl | rfl | rfl | rfl | rfl | rfl | rfl | rfl
              · exact congrFun (hxx.2.2.1 7 (by decide)) _
              · exact congrFun (hxx.2.2.1 9 (by decide)) _
              · exact congrFun (hxx.2.2.1 10 (by decide)) _
              · rw [s11_, eu, updE, if_neg (by omega)]
              · rw [s12_]
              · exact congrFun (hxx.2.2.1 13 (by decide)) _
              · exact congrFun (hxx.2.2.1 14 (by decide)) _
              · exact congrFun (hxx.2.2.1 15 (by decide)) _
            have ho : otL F (va_up (va_up F 6 (upd (F 6) (Int32.toNatClampNeg x2) (((F 6) (Int32.toNatClampNeg x2)) + 1))) 11 (upd (F 11) (Int32.toNatClampNeg up) iw)) f W T1 := by
              intro p_ hp_ ep_
              rw [eup] at ep_
              have e_ : p_ = p := by omega
              subst e_
              refine ⟨fun k hk => ?_, fun k hk => ?_⟩
              · rw [s11_, eu, updE]
                by_cases e : k = p_
                · rw [if_pos ⟨e, htw⟩, if_pos (by omega)]; exact qiw
                · rw [if_neg (fun y => e y.1), if_neg (by omega)]
              · rw [if_neg (fun y => by rw [htw] at y; exact absurd y.2 (by decide)), s12_]
            have hc : LYc F0 F f fo Wn W T1 a_ nd up := ⟨j3, u5, ⟨end_, eup⟩, u1, ⟨j4, u4⟩, j5, j6, j7, j8⟩
            have hA2 : rAll (va_up (va_up F 6 (upd (F 6) (Int32.toNatClampNeg x2) (((F 6) (Int32.toNatClampNeg x2)) + 1))) 11 (upd (F 11) (Int32.toNatClampNeg up) iw)) := fun q hq => j5 q hq
            have hE : shE F fo 0 TL H fi se 0 := shE_lo hlw.1 hf.2.2.1 (fun r hr => hx.2.2.1 r (fun h => by simp only [List.mem_cons, List.not_mem_nil, or_false] at h hr; omega)) hE0
            refine gz_sub (lv' := [(0, .ref m), (1, .int x1), (2, .int x2), (3, .int nd), (4, .int up), (5, .int iw)]) (by simp [List.lookup]) ?_
            refine l_X12_laysOutBE hf ⟨qiw, by omega, by omega⟩ hc hZ hE hTL hlw ?_ 1 _ _ _ _ _ hS_4 (fx_F (fx_F (fx_n hx (by decide)) (by decide)) (by decide)) (show ((va_up n 83 tk) 83).toInt = (T1 : Int) from qtk) hA2 ⟨fun r hr => hxx.2.2.1 r hr, h6, hg, ho⟩ (by decide)
            intro T2 n2_ z2_ F2_ G2_ fm2_ hS2_ hx2_ hJ2_ hZ2_ hlw2_
            exact ih (W + 1) T2 n2_ z2_ F2_ G2_ fm2_ hS2_ hx2_ hJ2_ hZ2_ hlw2_ (by omega)
        ·
          try simp only [mIn_0, lgc_lt, lgc_gt, lgc_le, lgc_ge, lgc_eq] at c_101
          try simp only [fl_lt, fl_le, fl_eq, fL_w, fL_lt, fL_le, tm1, tm10k, tm9, tm99, Int32.reduceToInt, Int64.reduceToInt, Int.not_lt, Int.not_le] at c_101
          refine gz_aload_n dX12_laysOut_104 rfl rfl ?_
          refine mg_35 hS_2 dX12_laysOut_105 ?_
          refine gz_iload dX12_laysOut_108 rfl ?_
          refine gz_iload dX12_laysOut_110 rfl ?_
          refine m_iast 12 hS_2 rfl (N := 880) rfl ((by exact vin_T (rfl : up.toInt = up.toInt) (by omega) (by omega))) dX12_laysOut_112 (fun f_5 hS_5q => ?_)
          have hS_5 : mS cy m a f0 (va_up n 83 tk) z (va_up (va_up F 6 (upd (F 6) (Int32.toNatClampNeg x2) (((F 6) (Int32.toNatClampNeg x2)) + 1))) 12 (upd (F 12) (Int32.toNatClampNeg up) iw)) G f_5 := hS_5q
          refine gz_goto (tgt := 130) dX12_laysOut_113 (by decide) ?_
          have s6_ : (va_up (va_up F 6 (upd (F 6) (Int32.toNatClampNeg x2) (((F 6) (Int32.toNatClampNeg x2)) + 1))) 12 (upd (F 12) (Int32.toNatClampNeg up) iw)) 6 = (upd (F 6) (Int32.toNatClampNeg x2) (((F 6) (Int32.toNatClampNeg x2)) + 1)) := rfl
          have s11_ : (va_up (va_up F 6 (upd (F 6) (Int32.toNatClampNeg x2) (((F 6) (Int32.toNatClampNeg x2)) + 1))) 12 (upd (F 12) (Int32.toNatClampNeg up) iw)) 11 = (F 11) := rfl
          have s12_ : (va_up (va_up F 6 (upd (F 6) (Int32.toNatClampNeg x2) (((F 6) (Int32.toNatClampNeg x2)) + 1))) 12 (upd (F 12) (Int32.toNatClampNeg up) iw)) 12 = (upd (F 12) (Int32.toNatClampNeg up) iw) := rfl
          have hxx : fx [83] [] [6, 11, 12] [] n z F G (va_up n 83 tk) z (va_up (va_up F 6 (upd (F 6) (Int32.toNatClampNeg x2) (((F 6) (Int32.toNatClampNeg x2)) + 1))) 12 (upd (F 12) (Int32.toNatClampNeg up) iw)) G := (fx_F (fx_F (fx_n fx_rf (by decide)) (by decide)) (by decide))
          obtain ⟨p, hp1, hp2⟩ : ∃ p : Nat, p < W ∧ up.toInt = 40 * (f : Int) + p := by rcases qup with z | z; (exfalso; omega); (exact z)
          have eu : Int32.toNatClampNeg up = 40 * f + p := by rw [clN]; omega
          have htw : twB F T1 = true := by unfold twB; rw [← ect]; simp only [decide_eq_true_eq]; omega
          have h6 : ((va_up (va_up F 6 (upd (F 6) (Int32.toNatClampNeg x2) (((F 6) (Int32.toNatClampNeg x2)) + 1))) 12 (upd (F 12) (Int32.toNatClampNeg up) iw)) 6 f).toInt = (W : Int) + 1 := by rw [s6_, ecf, updE, if_pos rfl]; have q := T_add j1 (show (1 : Int32).toInt = 1 from rfl) (by omega); exact q
          have hg : ∀ g, g < f → agF F (va_up (va_up F 6 (upd (F 6) (Int32.toNatClampNeg x2) (((F 6) (Int32.toNatClampNeg x2)) + 1))) 12 (upd (F 12) (Int32.toNatClampNeg up) iw)) g := by
            intro g hgf
            refine ⟨by rw [s6_, ecf, updE, if_neg (by omega)], fun r hr k hk => ?_⟩
            simp only [List.mem_cons, List.not_mem_nil, or_false] at hr
            rcases hr with rfl | rfl | rfl | rfl | rfl | rfl | rfl | rfl
            · exact congrFun (hxx.2.2.1 7 (by decide)) _
            · exact congrFun (hxx.2.2.1 9 (by decide)) _
            · exact congrFun (hxx.2.2.1 10 (by decide)) _
            · rw [s11_]
            · rw [s12_, eu, updE, if_neg (by omega)]
            · exact congrFun (hxx.2.2.1 13 (by decide)) _
            · exact congrFun (hxx.2.2.1 14 (by decide)) _
            · exact congrFun (hxx.2.2.1 15 (by decide)) _
          have ho : otL F (va_up (va_up F 6 (upd (F 6) (Int32.toNatClampNeg x2) (((F 6) (Int32.toNatClampNeg x2)) + 1))) 12 (upd (F 12) (Int32.toNatClampNeg up) iw)) f W T1 := by
            intro p_ hp_ ep_
            rw [eup] at ep_
            have e_ : p_ = p := by omega
            subst e_
            refine ⟨fun k hk => ?_, fun k hk => ?_⟩
            · rw [if_neg (fun y => by rw [htw] at y; exact absurd y.2 (by decide)), s11_]
            · rw [s12_, eu, updE]
              by_cases e : k = p_
              · rw [if_pos ⟨e, htw⟩, if_pos (by omega)]; exact qiw
              · rw [if_neg (fun y => e y.1), if_neg (by omega)]
          have hc : LYc F0 F f fo Wn W T1 a_ nd up := ⟨j3, u5, ⟨end_, eup⟩, u1, ⟨j4, u4⟩, j5, j6, j7, j8⟩
          have hA2 : rAll (va_up (va_up F 6 (upd (F 6) (Int32.toNatClampNeg x2) (((F 6) (Int32.toNatClampNeg x2)) + 1))) 12 (upd (F 12) (Int32.toNatClampNeg up) iw)) := fun q hq => j5 q hq
          have hE : shE F fo 0 TL H fi se 0 := shE_lo hlw.1 hf.2.2.1 (fun r hr => hx.2.2.1 r (fun h => by simp only [List.mem_cons, List.not_mem_nil, or_false] at h hr; omega)) hE0
          refine gz_sub (lv' := [(0, .ref m), (1, .int x1), (2, .int x2), (3, .int nd), (4, .int up), (5, .int iw)]) (by simp [List.lookup]) ?_
          refine l_X12_laysOutBE hf ⟨qiw, by omega, by omega⟩ hc hZ hE hTL hlw ?_ 1 _ _ _ _ _ hS_5 (fx_F (fx_F (fx_n hx (by decide)) (by decide)) (by decide)) (show ((va_up n 83 tk) 83).toInt = (T1 : Int) from qtk) hA2 ⟨fun r hr => hxx.2.2.1 r hr, h6, hg, ho⟩ (by decide)
          intro T2 n2_ z2_ F2_ G2_ fm2_ hS2_ hx2_ hJ2_ hZ2_ hlw2_
          exact ih (W + 1) T2 n2_ z2_ F2_ G2_ fm2_ hS2_ hx2_ hJ2_ hZ2_ hlw2_ (by omega)

set_option maxHeartbeats 4000000 in
set_option maxRecDepth 100000 in
theorem k_X12_laysOutE {l : Launch} {D : va_G} {cy : Nat → ClassId} {b : Nat} {f : gMem} {m : Nat} {a : Nat → Nat} {f0 : gMem} {n : Nat → Int32} {z : Nat → Int64} {F : Nat → Nat → Int32} {G : Nat → Nat → Int64}  {x1 x2 : Int32} {ff fo Wn : Nat} {TL : List Hd} {H : Nat → Hd} {fi se : Nat → Nat} (hS : mS cy m a f0 n z F G f) (hf : x2.toInt = (ff : Int) ∧ ff < 20 ∧ fo < ff ∧ Wn ≤ 40) (hR : RI n F) (h5 : (n 5).toInt = (ff : Int)) (hW6 : (F 6 fo).toInt = (Wn : Int)) (hP : SHp F fo Wn 0 (-1)) (hr : rN F fo Wn 0 0 x1.toInt) (hE0 : shE F fo 0 TL H fi se 0) (hTL : TL.length ≤ 40 ∧ Wn = TL.length) (hdn : dnN F 0 Wn 0 x1.toInt.toNat) : gC l D cy b yX12_laysOut cX12_laysOut 7 none 1 0 0 [.ref m, .int x1, .int x2] f (pV fun f2 => ∃ (n2 : Nat → Int32) (z2 : Nat → Int64) (F2 : Nat → Nat → Int32) (G2 : Nat → Nat → Int64), mS cy m a f0 n2 z2 F2 G2 f2 ∧ fx [83] [] [6, 7, 8, 9, 10, 11, 12, 13, 14, 15, 16, 17, 18, 19, 20, 84, 85, 86] [] n z F G n2 z2 F2 G2 ∧ rAll F2 ∧ fOK F2 ff ∧ (∀ g, g < ff → agF F F2 g) ∧ (LR F2 ff (tcC (trG H fi se 41 x1.toInt.toNat)) (trG H fi se 41 x1.toInt.toNat).length (nvT (trG H fi se 41 x1.toInt.toNat)) ∧ (F2 6 ff).toInt = ((trG H fi se 41 x1.toInt.toNat).length : Int) ∧ (F2 17 ff).toInt = (nvT (trG H fi se 41 x1.toInt.toNat) : Int) ∧ (∀ k, k < (trG H fi se 41 x1.toInt.toNat).length → ¬ (6 ≤ (F2 7 (40 * ff + k)).toInt ∧ (F2 7 (40 * ff + k)).toInt ≤ 9) → F2 14 (40 * ff + k) = F2 13 (40 * ff + k) ∧ F2 15 (40 * ff + k) = F2 13 (40 * ff + k))) ∧ lowR F F2 ff) := by
  obtain ⟨a0, a4, a5, bA, bW, a30, bL, a38, bP, a53, a47, a88⟩ := id hR
  have ecf : Int32.toNatClampNeg x2 = ff := by rw [clN]; omega
  have q40 := (bW fo (by omega)).1
  have eWn : (F 6 fo).toInt.toNat = Wn := by omega
  refine gC_of (by decide) (Nat.le_of_ble_eq_true rfl) ?_
  show gG l _ _ _ D cy b cX12_laysOut 7 _ RX12 "laysOut" 0 0 f 0 [(0, .ref m), (1, .int x1), (2, .int x2)] []
  refine gz_aload_n dX12_laysOut_0 rfl rfl ?_
  refine mg_17 hS dX12_laysOut_1 ?_
  refine gz_iload_n dX12_laysOut_4 rfl rfl ?_
  refine gz_iconst (v := 0) dX12_laysOut_5 (by decide) ?_
  refine m_iast 6 hS rfl (N := 22) rfl ((by exact vin_T (rfl : x2.toInt = x2.toInt) (by omega) (by omega))) dX12_laysOut_6 (fun f_1 hS_1q => ?_)
  have hS_1 : mS cy m a f0 n z (va_up F 6 (upd (F 6) (Int32.toNatClampNeg x2) 0)) G f_1 := hS_1q
  refine gz_aload_n dX12_laysOut_7 rfl rfl ?_
  refine mg_50 hS_1 dX12_laysOut_8 ?_
  refine gz_iload_n dX12_laysOut_11 rfl rfl ?_
  refine gz_iconst (v := 0) dX12_laysOut_12 (by decide) ?_
  refine m_iast 17 hS_1 rfl (N := 22) rfl ((by exact vin_T (rfl : x2.toInt = x2.toInt) (by omega) (by omega))) dX12_laysOut_13 (fun f_2 hS_2q => ?_)
  have hS_2 : mS cy m a f0 n z (va_up (va_up F 6 (upd (F 6) (Int32.toNatClampNeg x2) 0)) 17 (upd (F 17) (Int32.toNatClampNeg x2) 0)) G f_2 := hS_2q
  refine gz_aload_n dX12_laysOut_14 rfl rfl ?_
  refine gz_iconst (v := 0) dX12_laysOut_15 (by decide) ?_
  refine mp_524 hS_2 dX12_laysOut_16 (fun f_3 hS_3 => ?_)
  refine gz_aload_n dX12_laysOut_19 rfl rfl ?_
  refine gz_iload_n dX12_laysOut_20 rfl rfl ?_
  refine gz_iconst (v := (-1)) dX12_laysOut_21 (by decide) ?_
  refine gz_iconst (v := 0) dX12_laysOut_22 (by decide) ?_
  refine scX12_527 (k_X12_laysT (x1 := x1) (x2 := (-1)) (x3 := 0) hS_3 (show 0 ≤ (0 : Int32).toInt ∧ (0 : Int32).toInt < 120 by decide)) hS_3.1 ⟨(Nat.le_of_ble_eq_true rfl), (Nat.le_of_ble_eq_true rfl)⟩ ⟨(Nat.le_of_ble_eq_true rfl), (Nat.le_of_ble_eq_true rfl)⟩ rfl rfl (Nat.le_of_ble_eq_true rfl) dX12_laysOut_23 ?_
  rintro f_4 ⟨n_4, z_4, F_4, G_4, hS_4, hx4, h83_4, h84_4, h85_4, h86_4⟩
  try simp only [(show (va_up n 83 0) 83 = 0 from rfl)] at h83_4 h84_4 h85_4 h86_4
  have s6_ : F_4 6 = (upd (F 6) (Int32.toNatClampNeg x2) 0) := (hx4.2.2.1 6 (by decide))
  have s17_ : F_4 17 = (upd (F 17) (Int32.toNatClampNeg x2) 0) := (hx4.2.2.1 17 (by decide))
  have hxx : fx [83] [] [6, 17, 84, 85, 86] [] n z F G n_4 z_4 F_4 G_4 := (fx_tr (fx_n (fx_F (fx_F fx_rf (by decide)) (by decide)) (by decide)) hx4 (by decide))
  have v83 : (n_4 83).toInt = ((1 : Nat) : Int) := by rw [h83_4]; rfl
  have v84 : F_4 84 0 = x1 := by rw [h84_4]; exact (updE (i := 0) (j := 0)).trans (if_pos rfl)
  have v85 : (F_4 85 0).toInt = -1 := by rw [h85_4]; rfl
  have v86 : twB F_4 0 = false := by unfold twB; rw [h86_4]; rfl
  have hg : ∀ g, g < ff → agF F F_4 g := by
    intro g hgf
    refine ⟨by rw [s6_, ecf, updE, if_neg (by omega)], fun r hr k hk => congrFun (hxx.2.2.1 r (fun h => ?_)) _⟩
    simp only [List.mem_cons, List.not_mem_nil, or_false] at h hr; omega
  have hag := hg fo hf.2.2.1
  have st := ly_start (fun k hk => by have z := (bW fo (by omega)).2.1 k (by omega); rw [eWn] at z; exact z) (by omega) (by have z := (bW fo (by omega)).2.2; rw [eWn] at z; exact z) hr
  have nd := nd_ag hag hf.2.2.2 st.1
  have hJ : LYJ F n_4 F_4 ff fo Wn 0 1 := ⟨by rw [s6_, ecf, updE, if_pos rfl]; rfl, v83, Or.inl ⟨rfl, rfl, v85, by rw [v84]; exact nd.1, by rw [v84, nd.2.1]; exact st.2.1, by rw [v84, nd.2.2]; exact st.2.2⟩, by rw [s17_, ecf, updE, if_pos rfl]; rfl, (fun q hq => by rw [hxx.2.2.1 13 (by decide), hxx.2.2.1 14 (by decide), hxx.2.2.1 15 (by decide), hxx.2.2.1 19 (by decide)]; exact bA q hq), SHp_ag hag hf.2.2.2 (fun r hr => hxx.2.2.1 r (fun h => by simp only [List.mem_cons, List.not_mem_nil, or_false] at h hr; omega)) hP, fun k hk => wOK_ag hag hf.2.2.2 hk (by have z := (bW fo (by omega)).2.1 k (by omega); rw [eWn] at z; exact z), hg⟩
  have hlw : lowR F F_4 ff := ⟨fun r hr i hi => congrFun (hxx.2.2.1 r (fun h => by simp only [List.mem_cons, List.not_mem_nil, or_false] at h hr; omega)) i, fun q hq => by rw [s17_, ecf, updE, if_neg hq]⟩
  have hx1 : x1.toInt = (x1.toInt.toNat : Int) := by have z := rN_lt (by omega) hr; rcases z with z | ⟨z, z1, z2⟩ <;> omega
  have hdn2 : dnN F_4 0 Wn 0 x1.toInt.toNat := by
    rcases hdn with z | ⟨z1, z2, z3⟩
    · exact Or.inl z
    · exact Or.inr ⟨z1, z2, by unfold fxN at z3 ⊢; rw [hxx.2.2.1 82 (by decide)]; exact z3⟩
  have hZ : LZ F_4 ff Wn H fi se (tcC (trG H fi se 41 x1.toInt.toNat)) (trG H fi se 41 x1.toInt.toNat).length (nvT (trG H fi se 41 x1.toInt.toNat)) 0 1 := LZ_beg (by rw [v84]; exact hx1) hdn2 v85 v86 (by rw [s17_, ecf, updE, if_pos rfl]; rfl)
  refine gz_sub (lv' := [(0, .ref m), (1, .int x1), (2, .int x2)]) (by simp [List.lookup]) ?_
  exact l_X12_laysOutE hf hE0 hTL 41 0 1 _ _ _ _ _ hS_4 (fx_tr (fx_n (fx_F (fx_F fx_rf (by decide)) (by decide)) (by decide)) hx4 (by decide)) hJ hZ hlw (by omega)
