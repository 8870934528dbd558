set_option maxHeartbeats 4000000 in
set_option maxRecDepth 100000 in
theorem l_X12_laysOutC {l : Launch} {D : va_G} {cy : Nat → ClassId} {b : Nat} {m : Nat} {a : Nat → Nat} {f0 : gMem} {n0 : Nat → Int32} {z0 : Nat → Int64} {F0 : Nat → Nat → Int32} {G0 : Nat → Nat → Int64}  {x1 x2 : Int32} {f fo Wn : Nat} {W T : Nat} {a_ : Int} {nd up iw : Int32} {Fs : Nat → Nat → Int32} (hf : x2.toInt = (f : Int) ∧ f < 20 ∧ fo < f ∧ Wn ≤ 40) (hwi : iw.toInt = 40 * (f : Int) + W ∧ W ≤ 39 ∧ T ≤ 39) (hc : LYc F0 Fs f fo Wn W T a_ nd up) (hq_ : ∀ (T2 : Nat) (n : Nat → Int32) (z : Nat → Int64) (F : Nat → Nat → Int32) (G : Nat → Nat → Int64) (fm : gMem), mS cy m a f0 n z F G fm → fx [83] [] [6, 7, 8, 9, 10, 11, 12, 13, 14, 15, 16, 17, 18, 19, 20, 84, 85, 86] [] n0 z0 F0 G0 n z F G → (LYJ F0 n F f fo Wn (W + 1) T2) → gG l (gRm 1 0 0) (gQf D b (pV fun f2 => ∃ (n2 : Nat → Int32) (z2 : Nat → Int64) (F2 : Nat → Nat → Int32) (G2 : Nat → Nat → Int64), mS cy m a f0 n2 z2 F2 G2 f2 ∧ fx [83] [] [6, 7, 8, 9, 10, 11, 12, 13, 14, 15, 16, 17, 18, 19, 20, 84, 85, 86] [] n0 z0 F0 G0 n2 z2 F2 G2 ∧ rAll F2 ∧ fOK F2 f ∧ ∀ g, g < f → agF F0 F2 g) 0 0) gTt D cy b cX12_laysOut 7 none RX12 "laysOut" 0 0 fm 26 [(0, .ref m), (1, .int x1), (2, .int x2)] []) : ∀ (k : Nat)  (n : Nat → Int32) (z : Nat → Int64) (F : Nat → Nat → Int32) (G : Nat → Nat → Int64) (fm : gMem), mS cy m a f0 n z F G fm → fx [83] [] [6, 7, 8, 9, 10, 11, 12, 13, 14, 15, 16, 17, 18, 19, 20, 84, 85, 86] [] n0 z0 F0 G0 n z F G → ((n 83).toInt = (T : Int)) → (rAll F) → (LYb Fs F f W T a_) → (F 7 (40 * f + W) = Fs 76 nd.toInt.toNat) → (2 ≤ (Fs 76 nd.toInt.toNat).toInt) → ((F 13 (40 * f + W)).toInt = (Fs 17 f).toInt) → (0 < (k : Int)) → gG l (gRm 1 0 0) (gQf D b (pV fun f2 => ∃ (n2 : Nat → Int32) (z2 : Nat → Int64) (F2 : Nat → Nat → Int32) (G2 : Nat → Nat → Int64), mS cy m a f0 n2 z2 F2 G2 f2 ∧ fx [83] [] [6, 7, 8, 9, 10, 11, 12, 13, 14, 15, 16, 17, 18, 19, 20, 84, 85, 86] [] n0 z0 F0 G0 n2 z2 F2 G2 ∧ rAll F2 ∧ fOK F2 f ∧ ∀ g, g < f → agF F0 F2 g) 0 0) gTt D cy b cX12_laysOut 7 none RX12 "laysOut" 0 0 fm 253 [(0, .ref m), (1, .int x1), (2, .int x2), (3, .int nd), (4, .int up), (5, .int iw)] [] := by
  intro k
  induction k with
  | zero =>
    intro n z F G fm hS hx h83 hA hb h7 hk2 h13 hk
    exfalso; omega
  | succ k ih =>
    intro n z F G fm hS hx h83 hA hb h7 hk2 h13 hk
    obtain ⟨c1, c2, c3, c4, c5, c6, c7, c8, c9⟩ := id hc
    have eci : Int32.toNatClampNeg iw = 40 * f + W := by rw [clN]; omega
    have ecf : Int32.toNatClampNeg x2 = f := by rw [clN]; omega
    have qnd : 0 ≤ nd.toInt ∧ nd.toInt ≤ 40 := by rcases c4.2 with z | ⟨z, z1, z2, z3⟩ <;> omega
    obtain ⟨j, ej, hj, nn2, n1, ⟨d1, d2, d3⟩, -⟩ := lay_ch hf.2.2.2 c8 c7 c4 hk2
    have q7 : (F 7 (Int32.toNatClampNeg iw)).toInt = (Fs 76 nd.toInt.toNat).toInt := by rw [eci, h7]
    refine gz_aload_n dX12_laysOut_253 rfl rfl ?_
    refine mg_222 hS dX12_laysOut_254 ?_
    refine gz_iload_n dX12_laysOut_257 rfl rfl ?_
    refine m_iald 80 hS rfl (N := 82) rfl ((by exact vin_T (rfl : nd.toInt = nd.toInt) (by omega) (by omega))) dX12_laysOut_258 ?_
    obtain ⟨wd, hwd⟩ : ∃ v_ : Int32, v_ = ((F 80) (Int32.toNatClampNeg nd)) := ⟨_, rfl⟩
    refine gz_ev (w := .int wd) (congrArg Value.int hwd.symm) ?_
    have qwd : wd.toInt = 40 * (fo : Int) + j := by rw [hwd, hb.1 80 (by decide)]; exact n1
    have ecd : Int32.toNatClampNeg wd = 40 * fo + j := by rw [clN]; omega
    have p13 : (F 13 (Int32.toNatClampNeg wd)).toInt = (Fs 13 (40 * fo + j)).toInt := by rw [ecd, (hb.2.2.1 fo (by omega)).2 13 (by decide) j (by omega)]
    have p14 : (F 14 (Int32.toNatClampNeg wd)).toInt = (Fs 14 (40 * fo + j)).toInt := by rw [ecd, (hb.2.2.1 fo (by omega)).2 14 (by decide) j (by omega)]
    have p15 : (F 15 (Int32.toNatClampNeg wd)).toInt = (Fs 15 (40 * fo + j)).toInt := by rw [ecd, (hb.2.2.1 fo (by omega)).2 15 (by decide) j (by omega)]
    have qv := (c8 j hj).2.2.2.2
    have qa := c6 (40 * fo + j) (by omega)
    have p17 : (F 17 (Int32.toNatClampNeg x2)).toInt = (Fs 17 f).toInt := by rw [ecf, hb.1 17 (by decide)]
    have qow : (owK Fs fo j : Int) = (Fs 15 (40 * fo + j)).toInt - (Fs 13 (40 * fo + j)).toInt := by unfold owK; omega
    have hne : Int32.toNatClampNeg wd ≠ Int32.toNatClampNeg iw := by rw [ecd, eci]; omega
    refine gz_istore (lv' := [(6, .int wd), (0, .ref m), (1, .int x1), (2, .int x2), (3, .int nd), (4, .int up), (5, .int iw)]) dX12_laysOut_259 (by decide) rfl ?_
    refine gz_aload_n dX12_laysOut_261 rfl rfl ?_
    refine mg_41 hS dX12_laysOut_262 ?_
    refine gz_iload dX12_laysOut_265 rfl ?_
    refine gz_aload_n dX12_laysOut_267 rfl rfl ?_
    refine gz_iload dX12_laysOut_268 rfl ?_
    refine gz_aload_n dX12_laysOut_270 rfl rfl ?_
    refine mg_38 hS dX12_laysOut_271 ?_
    refine gz_iload dX12_laysOut_274 rfl ?_
    refine m_iald 13 hS rfl (N := 880) rfl ((by exact vin_T (rfl : wd.toInt = wd.toInt) (by omega) (by omega))) dX12_laysOut_276 ?_
    refine gz_aload_n dX12_laysOut_277 rfl rfl ?_
    refine mg_41 hS dX12_laysOut_278 ?_
    refine gz_iload dX12_laysOut_281 rfl ?_
    refine m_iald 14 hS rfl (N := 880) rfl ((by exact vin_T (rfl : wd.toInt = wd.toInt) (by omega) (by omega))) dX12_laysOut_283 ?_
    refine gz_iload_n dX12_laysOut_284 rfl rfl ?_
    refine scX12_531 (k_X12_copies (x1 := wd) (x2 := ((F 13) (Int32.toNatClampNeg wd))) (x3 := ((F 14) (Int32.toNatClampNeg wd))) (x4 := x2) hS (by omega) hA (by omega)) hS.1 ⟨(Nat.le_of_ble_eq_true rfl), (Nat.le_of_ble_eq_true rfl)⟩ ⟨(Nat.le_of_ble_eq_true rfl), (Nat.le_of_ble_eq_true rfl)⟩ rfl rfl (Nat.le_of_ble_eq_true rfl) dX12_laysOut_285 ?_
    rintro r_1 f_1 ⟨n_1, z_1, F_1, G_1, hS_1, hx1, hA_1, hr_1, hq_1, ho_1⟩
    refine m_iast 14 hS_1 rfl (N := 880) rfl ((by exact vin_T (rfl : iw.toInt = iw.toInt) (by omega) (by omega))) dX12_laysOut_288 (fun f_2 hS_2q => ?_)
    have hS_2 : mS cy m a f0 n_1 z_1 (va_up F_1 14 (upd (F 14) (Int32.toNatClampNeg iw) r_1)) G_1 f_2 := (by have e9 := (show F_1 14 = (F 14) from (hx1.2.2.1 14 (by decide))); rw [e9] at hS_2q; exact hS_2q)
    refine gz_aload_n dX12_laysOut_289 rfl rfl ?_
    refine mg_44 hS_2 dX12_laysOut_290 ?_
    refine gz_iload dX12_laysOut_293 rfl ?_
    refine gz_aload_n dX12_laysOut_295 rfl rfl ?_
    refine gz_iload dX12_laysOut_296 rfl ?_
    refine gz_aload_n dX12_laysOut_298 rfl rfl ?_
    refine mg_41 hS_2 dX12_laysOut_299 ?_
    refine gz_iload dX12_laysOut_302 rfl ?_
    refine m_iald 14 hS_2 rfl (N := 880) rfl ((by exact vin_T (rfl : wd.toInt = wd.toInt) (by omega) (by omega))) dX12_laysOut_304 ?_
    refine gz_ev (w := .int ((upd (F 14) (Int32.toNatClampNeg iw) r_1) (Int32.toNatClampNeg wd))) rfl ?_
    refine gz_ev (w := .int (F 14 (Int32.toNatClampNeg wd))) (congrArg Value.int (by rw [updE, if_neg hne])) ?_
    refine gz_aload_n dX12_laysOut_305 rfl rfl ?_
    refine mg_44 hS_2 dX12_laysOut_306 ?_
    refine gz_iload dX12_laysOut_309 rfl ?_
    refine m_iald 15 hS_2 rfl (N := 880) rfl ((by exact vin_T (rfl : wd.toInt = wd.toInt) (by omega) (by omega))) dX12_laysOut_311 ?_
    refine gz_ev (w := .int ((F 15) (Int32.toNatClampNeg wd))) (congrArg Value.int (congrFun (hx1.2.2.1 15 (by decide)) _)) ?_
    refine gz_iload_n dX12_laysOut_312 rfl rfl ?_
    have hA5 : rAll (va_up F_1 14 (upd (F 14) (Int32.toNatClampNeg iw) r_1)) := by
      intro q hq
      obtain ⟨q1, q2, q3, q4⟩ := hA_1 q hq
      refine ⟨q1, ?_, q3, q4⟩
      rw [show (va_up F_1 14 (upd (F 14) (Int32.toNatClampNeg iw) r_1)) 14 = (upd (F 14) (Int32.toNatClampNeg iw) r_1) from rfl, updE]
      split
      · omega
      · have := (hA q hq).2.1; omega
    have e17 : ((va_up F_1 14 (upd (F 14) (Int32.toNatClampNeg iw) r_1)) 17 (Int32.toNatClampNeg x2)).toInt = r_1.toInt := by rw [hr_1]; rfl
    refine scX12_531 (k_X12_copies (x1 := wd) (x2 := (F 14 (Int32.toNatClampNeg wd))) (x3 := ((F 15) (Int32.toNatClampNeg wd))) (x4 := x2) hS_2 (by omega) hA5 (by omega)) hS_2.1 ⟨(Nat.le_of_ble_eq_true rfl), (Nat.le_of_ble_eq_true rfl)⟩ ⟨(Nat.le_of_ble_eq_true rfl), (Nat.le_of_ble_eq_true rfl)⟩ rfl rfl (Nat.le_of_ble_eq_true rfl) dX12_laysOut_313 ?_
    rintro r_3 f_3 ⟨n_3, z_3, F_3, G_3, hS_3, hx3, hA_3, hr_3, hq_3, ho_3⟩
    refine m_iast 15 hS_3 rfl (N := 880) rfl ((by exact vin_T (rfl : iw.toInt = iw.toInt) (by omega) (by omega))) dX12_laysOut_316 (fun f_4 hS_4q => ?_)
    have hS_4 : mS cy m a f0 n_3 z_3 (va_up F_3 15 (upd (F 15) (Int32.toNatClampNeg iw) r_3)) G_3 f_4 := (by have e9 := (show F_3 15 = (F 15) from ((hx3.2.2.1 15 (by decide)).trans (hx1.2.2.1 15 (by decide)))); rw [e9] at hS_4q; exact hS_4q)
    refine gz_aload_n dX12_laysOut_317 rfl rfl ?_
    refine mg_47 hS_4 dX12_laysOut_318 ?_
    refine gz_iload dX12_laysOut_321 rfl ?_
    refine gz_aload_n dX12_laysOut_323 rfl rfl ?_
    refine mg_47 hS_4 dX12_laysOut_324 ?_
    refine gz_iload dX12_laysOut_327 rfl ?_
    refine m_iald 16 hS_4 rfl (N := 880) rfl ((by exact vin_T (rfl : wd.toInt = wd.toInt) (by omega) (by omega))) dX12_laysOut_329 ?_
    refine gz_ev (w := .int ((F 16) (Int32.toNatClampNeg wd))) (congrArg Value.int (congrFun ((hx3.2.2.1 16 (by decide)).trans (hx1.2.2.1 16 (by decide))) _)) ?_
    refine m_iast 16 hS_4 rfl (N := 880) rfl ((by exact vin_T (rfl : iw.toInt = iw.toInt) (by omega) (by omega))) dX12_laysOut_330 (fun f_5 hS_5q => ?_)
    have hS_5 : mS cy m a f0 n_3 z_3 (va_up (va_up F_3 15 (upd (F 15) (Int32.toNatClampNeg iw) r_3)) 16 (upd (F 16) (Int32.toNatClampNeg iw) ((F 16) (Int32.toNatClampNeg wd)))) G_3 f_5 := (by have e9 := (show (va_up F_3 15 (upd (F 15) (Int32.toNatClampNeg iw) r_3)) 16 = (F 16) from ((hx3.2.2.1 16 (by decide)).trans (hx1.2.2.1 16 (by decide)))); rw [e9] at hS_5q; exact hS_5q)
    refine gz_aload_n dX12_laysOut_331 rfl rfl ?_
    refine mg_20 hS_5 dX12_laysOut_332 ?_
    refine gz_iload dX12_laysOut_335 rfl ?_
    refine m_iald 7 hS_5 rfl (N := 880) rfl ((by exact vin_T (rfl : iw.toInt = iw.toInt) (by omega) (by omega))) dX12_laysOut_337 ?_
    refine gz_ev (w := .int ((F 7) (Int32.toNatClampNeg iw))) (congrArg Value.int (congrFun ((hx3.2.2.1 7 (by decide)).trans (hx1.2.2.1 7 (by decide))) _)) ?_
    refine gz_iconst (v := 3) dX12_laysOut_338 (by decide) ?_
    refine gz_icmp_eq (tgt := 364) dX12_laysOut_339 (by decide) (fun c_339 => ?_) (fun c_339 => ?_)
    ·
      try simp only [mIn_0, lgc_lt, lgc_gt, lgc_le, lgc_ge, lgc_eq] at c_339
      try simp only [fl_lt, fl_le, fl_eq, fL_w, fL_lt, fL_le, tm1, tm10k, tm9, tm99, Int32.reduceToInt, Int64.reduceToInt, Int.not_lt, Int.not_le] at c_339
      refine gz_aload_n dX12_laysOut_364 rfl rfl ?_
      refine gz_aload_n dX12_laysOut_365 rfl rfl ?_
      refine mg_219 hS_5 dX12_laysOut_366 ?_
      refine gz_iload_n dX12_laysOut_369 rfl rfl ?_
      refine m_iald 79 hS_5 rfl (N := 82) rfl ((by exact vin_T (rfl : nd.toInt = nd.toInt) (by omega) (by omega))) dX12_laysOut_370 ?_
      refine gz_ev (w := .int ((F 79) (Int32.toNatClampNeg nd))) (congrArg Value.int (congrFun ((hx3.2.2.1 79 (by decide)).trans (hx1.2.2.1 79 (by decide))) _)) ?_
      refine gz_iload dX12_laysOut_371 rfl ?_
      refine gz_iconst (v := 1) dX12_laysOut_373 (by decide) ?_
      refine scX12_527 (k_X12_laysT (x1 := ((F 79) (Int32.toNatClampNeg nd))) (x2 := iw) (x3 := 1) hS_5 (by rw [(show n_3 83 = (n 83) from ((hx3.1 83 (by decide)).trans (hx1.1 83 (by decide))))]; omega)) hS_5.1 ⟨(Nat.le_of_ble_eq_true rfl), (Nat.le_of_ble_eq_true rfl)⟩ ⟨(Nat.le_of_ble_eq_true rfl), (Nat.le_of_ble_eq_true rfl)⟩ rfl rfl (Nat.le_of_ble_eq_true rfl) dX12_laysOut_374 ?_
      rintro f_6 ⟨n_6, z_6, F_6, G_6, hS_6, hx6, h83_6, h84_6, h85_6, h86_6⟩
      try simp only [(show n_3 83 = (n 83) from ((hx3.1 83 (by decide)).trans (hx1.1 83 (by decide))))] at h83_6 h84_6 h85_6 h86_6
      try rw [show n_3 83 = (n 83) from ((hx3.1 83 (by decide)).trans (hx1.1 83 (by decide)))] at h83_6 h84_6 h85_6 h86_6
      try rw [show (va_up (va_up F_3 15 (upd (F 15) (Int32.toNatClampNeg iw) r_3)) 16 (upd (F 16) (Int32.toNatClampNeg iw) ((F 16) (Int32.toNatClampNeg wd)))) 84 = (F 84) from ((hx3.2.2.1 84 (by decide)).trans (hx1.2.2.1 84 (by decide)))] at h84_6
      try rw [show (va_up (va_up F_3 15 (upd (F 15) (Int32.toNatClampNeg iw) r_3)) 16 (upd (F 16) (Int32.toNatClampNeg iw) ((F 16) (Int32.toNatClampNeg wd)))) 85 = (F 85) from ((hx3.2.2.1 85 (by decide)).trans (hx1.2.2.1 85 (by decide)))] at h85_6
      try rw [show (va_up (va_up F_3 15 (upd (F 15) (Int32.toNatClampNeg iw) r_3)) 16 (upd (F 16) (Int32.toNatClampNeg iw) ((F 16) (Int32.toNatClampNeg wd)))) 86 = (F 86) from ((hx3.2.2.1 86 (by decide)).trans (hx1.2.2.1 86 (by decide)))] at h86_6
      refine gz_aload_n dX12_laysOut_377 rfl rfl ?_
      refine gz_aload_n dX12_laysOut_378 rfl rfl ?_
      refine mg_216 hS_6 dX12_laysOut_379 ?_
      refine gz_iload_n dX12_laysOut_382 rfl rfl ?_
      refine m_iald 78 hS_6 rfl (N := 82) rfl ((by exact vin_T (rfl : nd.toInt = nd.toInt) (by omega) (by omega))) dX12_laysOut_383 ?_
      refine gz_ev (w := .int ((F 78) (Int32.toNatClampNeg nd))) (congrArg Value.int (congrFun ((hx6.2.2.1 78 (by decide)).trans ((hx3.2.2.1 78 (by decide)).trans (hx1.2.2.1 78 (by decide)))) _)) ?_
      refine gz_iload dX12_laysOut_384 rfl ?_
      refine gz_iconst (v := 0) dX12_laysOut_386 (by decide) ?_
      refine scX12_527 (k_X12_laysT (x1 := ((F 78) (Int32.toNatClampNeg nd))) (x2 := iw) (x3 := 0) hS_6 (by rw [(show n_6 83 = ((n 83) + 1) from h83_6)]; have q83 := T_add (rfl : (n 83).toInt = (n 83).toInt) (show (1 : Int32).toInt = 1 from rfl) (by omega); omega)) hS_6.1 ⟨(Nat.le_of_ble_eq_true rfl), (Nat.le_of_ble_eq_true rfl)⟩ ⟨(Nat.le_of_ble_eq_true rfl), (Nat.le_of_ble_eq_true rfl)⟩ rfl rfl (Nat.le_of_ble_eq_true rfl) dX12_laysOut_387 ?_
      rintro f_7 ⟨n_7, z_7, F_7, G_7, hS_7, hx7, h83_7, h84_7, h85_7, h86_7⟩
      try simp only [(show n_6 83 = ((n 83) + 1) from h83_6)] at h83_7 h84_7 h85_7 h86_7
      try rw [show n_6 83 = ((n 83) + 1) from h83_6] at h83_7 h84_7 h85_7 h86_7
      try rw [show F_6 84 = (upd (F 84) (Int32.toNatClampNeg (n 83)) ((F 79) (Int32.toNatClampNeg nd))) from h84_6] at h84_7
      try rw [show F_6 85 = (upd (F 85) (Int32.toNatClampNeg (n 83)) iw) from h85_6] at h85_7
      try rw [show F_6 86 = (upd (F 86) (Int32.toNatClampNeg (n 83)) (vp_nar .boolean 1)) from h86_6] at h86_7
      refine gz_goto (tgt := 26) dX12_laysOut_390 (by decide) ?_
      have s6_ : F_7 6 = (F 6) := ((hx7.2.2.1 6 (by decide)).trans ((hx6.2.2.1 6 (by decide)).trans ((hx3.2.2.1 6 (by decide)).trans (hx1.2.2.1 6 (by decide)))))
      have s7_ : F_7 7 = (F 7) := ((hx7.2.2.1 7 (by decide)).trans ((hx6.2.2.1 7 (by decide)).trans ((hx3.2.2.1 7 (by decide)).trans (hx1.2.2.1 7 (by decide)))))
      have s9_ : F_7 9 = (F 9) := ((hx7.2.2.1 9 (by decide)).trans ((hx6.2.2.1 9 (by decide)).trans ((hx3.2.2.1 9 (by decide)).trans (hx1.2.2.1 9 (by decide)))))
      have s10_ : F_7 10 = (F 10) := ((hx7.2.2.1 10 (by decide)).trans ((hx6.2.2.1 10 (by decide)).trans ((hx3.2.2.1 10 (by decide)).trans (hx1.2.2.1 10 (by decide)))))
      have s11_ : F_7 11 = (F 11) := ((hx7.2.2.1 11 (by decide)).trans ((hx6.2.2.1 11 (by decide)).trans ((hx3.2.2.1 11 (by decide)).trans (hx1.2.2.1 11 (by decide)))))
      have s12_ : F_7 12 = (F 12) := ((hx7.2.2.1 12 (by decide)).trans ((hx6.2.2.1 12 (by decide)).trans ((hx3.2.2.1 12 (by decide)).trans (hx1.2.2.1 12 (by decide)))))
      have s13_ : F_7 13 = (F 13) := ((hx7.2.2.1 13 (by decide)).trans ((hx6.2.2.1 13 (by decide)).trans ((hx3.2.2.1 13 (by decide)).trans (hx1.2.2.1 13 (by decide)))))
      have s14_ : F_7 14 = (upd (F 14) (Int32.toNatClampNeg iw) r_1) := ((hx7.2.2.1 14 (by decide)).trans ((hx6.2.2.1 14 (by decide)).trans (hx3.2.2.1 14 (by decide))))
      have s15_ : F_7 15 = (upd (F 15) (Int32.toNatClampNeg iw) r_3) := ((hx7.2.2.1 15 (by decide)).trans (hx6.2.2.1 15 (by decide)))
      have s17_ : F_7 17 = (F_3 17) := ((hx7.2.2.1 17 (by decide)).trans (hx6.2.2.1 17 (by decide)))
      have s19_ : F_7 19 = (F_3 19) := ((hx7.2.2.1 19 (by decide)).trans (hx6.2.2.1 19 (by decide)))
      have s76_ : F_7 76 = (F 76) := ((hx7.2.2.1 76 (by decide)).trans ((hx6.2.2.1 76 (by decide)).trans ((hx3.2.2.1 76 (by decide)).trans (hx1.2.2.1 76 (by decide)))))
      have s78_ : F_7 78 = (F 78) := ((hx7.2.2.1 78 (by decide)).trans ((hx6.2.2.1 78 (by decide)).trans ((hx3.2.2.1 78 (by decide)).trans (hx1.2.2.1 78 (by decide)))))
      have s79_ : F_7 79 = (F 79) := ((hx7.2.2.1 79 (by decide)).trans ((hx6.2.2.1 79 (by decide)).trans ((hx3.2.2.1 79 (by decide)).trans (hx1.2.2.1 79 (by decide)))))
      have s80_ : F_7 80 = (F 80) := ((hx7.2.2.1 80 (by decide)).trans ((hx6.2.2.1 80 (by decide)).trans ((hx3.2.2.1 80 (by decide)).trans (hx1.2.2.1 80 (by decide)))))
      have s82_ : F_7 82 = (F 82) := ((hx7.2.2.1 82 (by decide)).trans ((hx6.2.2.1 82 (by decide)).trans ((hx3.2.2.1 82 (by decide)).trans (hx1.2.2.1 82 (by decide)))))
      have s84_ : F_7 84 = (upd (upd (F 84) (Int32.toNatClampNeg (n 83)) ((F 79) (Int32.toNatClampNeg nd))) (Int32.toNatClampNeg ((n 83) + 1)) ((F 78) (Int32.toNatClampNeg nd))) := h84_7
      have s85_ : F_7 85 = (upd (upd (F 85) (Int32.toNatClampNeg (n 83)) iw) (Int32.toNatClampNeg ((n 83) + 1)) iw) := h85_7
      have s86_ : F_7 86 = (upd (upd (F 86) (Int32.toNatClampNeg (n 83)) (vp_nar .boolean 1)) (Int32.toNatClampNeg ((n 83) + 1)) (vp_nar .boolean 0)) := h86_7
      have qn83 : (n 83 + 1).toInt = (T : Int) + 1 := by have q := T_add (rfl : (n 83).toInt = (n 83).toInt) (show (1 : Int32).toInt = 1 from rfl) (by omega); omega
      have ec0 : Int32.toNatClampNeg (n 83) = T := by rw [clN]; omega
      have ec1 : Int32.toNatClampNeg (n 83 + 1) = T + 1 := by rw [clN]; omega
      have qn84 : (n 83 + 1 + 1).toInt = (T : Int) + 2 := by have q := T_add qn83 (show (1 : Int32).toInt = 1 from rfl) (by omega); omega
      have h83e : (n_7 83).toInt = ((T + 2 : Nat) : Int) := by rw [show n_7 83 = (((n 83) + 1) + 1) from h83_7]; omega
      have v15 : F_7 15 (40 * f + W) = r_3 := by rw [s15_, ← eci, updE, if_pos rfl]
      have v14 : F_7 14 (40 * f + W) = r_1 := by rw [s14_, ← eci, updE, if_pos rfl]
      have v13 : (F_7 13 (40 * f + W)).toInt = (Fs 17 f).toInt := by rw [s13_]; exact h13
      have v17 : (F_7 17 f).toInt = r_3.toInt := by rw [s17_, hr_3, ecf]
      have hA9 : rAll F_7 := by
        intro q hq
        obtain ⟨q1, q2, q3, q4⟩ := hA_3 q hq
        obtain ⟨y1, y2, y3, y4⟩ := hA5 q hq
        obtain ⟨x1_, x2_, x3_, x4_⟩ := hA q hq
        rw [s13_, s14_, s15_, s19_]
        refine ⟨x1_, ?_, ?_, q4⟩
        · rw [updE]; split
          · omega
          · exact x2_
        · rw [updE]; split
          · omega
          · exact x3_
      have same : ∀ r, r ∈ [6, 7, 9, 10, 11, 12, 13, 76, 78, 79, 80, 82] → F_7 r = F r := by
        intro r hr
        simp only [List.mem_cons, List.not_mem_nil, or_false] at hr
        rcases hr with rfl | rfl | rfl | rfl | rfl | rfl | rfl | rfl | rfl | rfl | rfl | rfl
        · exact s6_
        · exact s7_
        · exact s9_
        · exact s10_
        · exact s11_
        · exact s12_
        · exact s13_
        · exact s76_
        · exact s78_
        · exact s79_
        · exact s80_
        · exact s82_
      have off : ∀ r, r ∈ [14, 15] → ∀ i, i ≠ 40 * f + W → F_7 r i = F r i := by
        intro r hr i hi
        rw [← eci] at hi
        simp only [List.mem_cons, List.not_mem_nil, or_false] at hr
        rcases hr with rfl | rfl
        · rw [s14_, updE, if_neg hi]
        · rw [s15_, updE, if_neg hi]
      have h84e : ∀ r, r ∈ [84, 85, 86] → ∀ q, q < T → F_7 r q = F r q := by
        intro r hr q hq
        simp only [List.mem_cons, List.not_mem_nil, or_false] at hr
        rcases hr with rfl | rfl | rfl
        · rw [s84_, ec0, ec1, updE, if_neg (by omega), updE, if_neg (by omega)]
        · rw [s85_, ec0, ec1, updE, if_neg (by omega), updE, if_neg (by omega)]
        · rw [s86_, ec0, ec1, updE, if_neg (by omega), updE, if_neg (by omega)]
      have k7 : F_7 7 (40 * f + W) = Fs 76 nd.toInt.toNat := by rw [s7_]; exact h7
      have htk : tkN Fs F_7 f W T (T + 2) nd.toInt.toNat := Or.inl ⟨(by unfold prK; rw [k7, ← q7]; omega), (by rw [s84_, ec0, ec1, updE, if_neg (by omega), updE, if_pos rfl]; exact congrFun (hb.1 79 (by decide)) _), (by rw [s84_, ec0, ec1, updE, if_pos rfl]; exact congrFun (hb.1 78 (by decide)) _), (by rw [s85_, ec0, ec1, updE, if_neg (by omega), updE, if_pos rfl]; exact hwi.1), (by unfold twB; rw [s86_, ec0, ec1, updE, if_neg (by omega), updE, if_pos rfl]; first | decide | rfl), (by rw [s85_, ec0, ec1, updE, if_pos rfl]; exact hwi.1), (by unfold twB; rw [s86_, ec0, ec1, updE, if_pos rfl]; first | decide | rfl), rfl⟩
      have hJ : LYJ F0 n_7 F_7 f fo Wn (W + 1) (T + 2) := LYJ_deep hf.2.2.1 hf.2.2.2 hc hb same off h84e (by rw [v13, v14, v15]; omega) h83e hA9 h7 hk2 (fun j_ hj_ => by have ej_ : j_ = j := (by omega); subst ej_; rw [v15, v13]; omega) (by rw [v17, v15, v13]; omega) htk
      refine gz_sub (lv' := [(0, .ref m), (1, .int x1), (2, .int x2)]) (by simp [List.lookup]) ?_
      exact hq_ (T + 2) _ _ _ _ _ hS_7 (fx_tr (fx_tr (fx_F (fx_F (fx_tr (fx_F (fx_tr hx hx1 (by decide)) (by decide)) hx3 (by decide)) (by decide)) (by decide)) hx6 (by decide)) hx7 (by decide)) hJ
    ·
      try simp only [mIn_0, lgc_lt, lgc_gt, lgc_le, lgc_ge, lgc_eq] at c_339
      try simp only [fl_lt, fl_le, fl_eq, fL_w, fL_lt, fL_le, tm1, tm10k, tm9, tm99, Int32.reduceToInt, Int64.reduceToInt, Int.not_lt, Int.not_le] at c_339
      refine gz_aload_n dX12_laysOut_342 rfl rfl ?_
      refine mg_20 hS_5 dX12_laysOut_343 ?_
      refine gz_iload dX12_laysOut_346 rfl ?_
      refine m_iald 7 hS_5 rfl (N := 880) rfl ((by exact vin_T (rfl : iw.toInt = iw.toInt) (by omega) (by omega))) dX12_laysOut_348 ?_
      refine gz_ev (w := .int ((F 7) (Int32.toNatClampNeg iw))) (congrArg Value.int (congrFun ((hx3.2.2.1 7 (by decide)).trans (hx1.2.2.1 7 (by decide))) _)) ?_
      refine gz_iconst (v := 4) dX12_laysOut_349 (by decide) ?_
      refine gz_icmp_eq (tgt := 364) dX12_laysOut_350 (by decide) (fun c_350 => ?_) (fun c_350 => ?_)
      ·
        try simp only [mIn_0, lgc_lt, lgc_gt, lgc_le, lgc_ge, lgc_eq] at c_350
        try simp only [fl_lt, fl_le, fl_eq, fL_w, fL_lt, fL_le, tm1, tm10k, tm9, tm99, Int32.reduceToInt, Int64.reduceToInt, Int.not_lt, Int.not_le] at c_350
        refine gz_aload_n dX12_laysOut_364 rfl rfl ?_
        refine gz_aload_n dX12_laysOut_365 rfl rfl ?_
        refine mg_219 hS_5 dX12_laysOut_366 ?_
        refine gz_iload_n dX12_laysOut_369 rfl rfl ?_
        refine m_iald 79 hS_5 rfl (N := 82) rfl ((by exact vin_T (rfl : nd.toInt = nd.toInt) (by omega) (by omega))) dX12_laysOut_370 ?_
        refine gz_ev (w := .int ((F 79) (Int32.toNatClampNeg nd))) (congrArg Value.int (congrFun ((hx3.2.2.1 79 (by decide)).trans (hx1.2.2.1 79 (by decide))) _)) ?_
        refine gz_iload dX12_laysOut_371 rfl ?_
        refine gz_iconst (v := 1) dX12_laysOut_373 (by decide) ?_
        refine scX12_527 (k_X12_laysT (x1 := ((F 79) (Int32.toNatClampNeg nd))) (x2 := iw) (x3 := 1) hS_5 (by rw [(show n_3 83 = (n 83) from ((hx3.1 83 (by decide)).trans (hx1.1 83 (by decide))))]; omega)) hS_5.1 ⟨(Nat.le_of_ble_eq_true rfl), (Nat.le_of_ble_eq_true rfl)⟩ ⟨(Nat.le_of_ble_eq_true rfl), (Nat.le_of_ble_eq_true rfl)⟩ rfl rfl (Nat.le_of_ble_eq_true rfl) dX12_laysOut_374 ?_
        rintro f_8 ⟨n_8, z_8, F_8, G_8, hS_8, hx8, h83_8, h84_8, h85_8, h86_8⟩
        try simp only [(show n_3 83 = (n 83) from ((hx3.1 83 (by decide)).trans (hx1.1 83 (by decide))))] at h83_8 h84_8 h85_8 h86_8
        try rw [show n_3 83 = (n 83) from ((hx3.1 83 (by decide)).trans (hx1.1 83 (by decide)))] at h83_8 h84_8 h85_8 h86_8
        try rw [show (va_up (va_up F_3 15 (upd (F 15) (Int32.toNatClampNeg iw) r_3)) 16 (upd (F 16) (Int32.toNatClampNeg iw) ((F 16) (Int32.toNatClampNeg wd)))) 84 = (F 84) from ((hx3.2.2.1 84 (by decide)).trans (hx1.2.2.1 84 (by decide)))] at h84_8
        try rw [show (va_up (va_up F_3 15 (upd (F 15) (Int32.toNatClampNeg iw) r_3)) 16 (upd (F 16) (Int32.toNatClampNeg iw) ((F 16) (Int32.toNatClampNeg wd)))) 85 = (F 85) from ((hx3.2.2.1 85 (by decide)).trans (hx1.2.2.1 85 (by decide)))] at h85_8
        try rw [show (va_up (va_up F_3 15 (upd (F 15) (Int32.toNatClampNeg iw) r_3)) 16 (upd (F 16) (Int32.toNatClampNeg iw) ((F 16) (Int32.toNatClampNeg wd)))) 86 = (F 86) from ((hx3.2.2.1 86 (by decide)).trans (hx1.2.2.1 86 (by decide)))] at h86_8
        refine gz_aload_n dX12_laysOut_377 rfl rfl ?_
        refine gz_aload_n dX12_laysOut_378 rfl rfl ?_
        refine mg_216 hS_8 dX12_laysOut_379 ?_
        refine gz_iload_n dX12_laysOut_382 rfl rfl ?_
        refine m_iald 78 hS_8 rfl (N := 82) rfl ((by exact vin_T (rfl : nd.toInt = nd.toInt) (by omega) (by omega))) dX12_laysOut_383 ?_
        refine gz_ev (w := .int ((F 78) (Int32.toNatClampNeg nd))) (congrArg Value.int (congrFun ((hx8.2.2.1 78 (by decide)).trans ((hx3.2.2.1 78 (by decide)).trans (hx1.2.2.1 78 (by decide)))) _)) ?_
        refine gz_iload dX12_laysOut_384 rfl ?_
        refine gz_iconst (v := 0) dX12_laysOut_386 (by decide) ?_
        refine scX12_527 (k_X12_laysT (x1 := ((F 78) (Int32.toNatClampNeg nd))) (x2 := iw) (x3 := 0) hS_8 (by rw [(show n_8 83 = ((n 83) + 1) from h83_8)]; have q83 := T_add (rfl : (n 83).toInt = (n 83).toInt) (show (1 : Int32).toInt = 1 from rfl) (by omega); omega)) hS_8.1 ⟨(Nat.le_of_ble_eq_true rfl), (Nat.le_of_ble_eq_true rfl)⟩ ⟨(Nat.le_of_ble_eq_true rfl), (Nat.le_of_ble_eq_true rfl)⟩ rfl rfl (Nat.le_of_ble_eq_true rfl) dX12_laysOut_387 ?_
        rintro f_9 ⟨n_9, z_9, F_9, G_9, hS_9, hx9, h83_9, h84_9, h85_9, h86_9⟩
        try simp only [(show n_8 83 = ((n 83) + 1) from h83_8)] at h83_9 h84_9 h85_9 h86_9
        try rw [show n_8 83 = ((n 83) + 1) from h83_8] at h83_9 h84_9 h85_9 h86_9
        try rw [show F_8 84 = (upd (F 84) (Int32.toNatClampNeg (n 83)) ((F 79) (Int32.toNatClampNeg nd))) from h84_8] at h84_9
        try rw [show F_8 85 = (upd (F 85) (Int32.toNatClampNeg (n 83)) iw) from h85_8] at h85_9
        try rw [show F_8 86 = (upd (F 86) (Int32.toNatClampNeg (n 83)) (vp_nar .boolean 1)) from h86_8] at h86_9
        refine gz_goto (tgt := 26) dX12_laysOut_390 (by decide) ?_
        have s6_ : F_9 6 = (F 6) := ((hx9.2.2.1 6 (by decide)).trans ((hx8.2.2.1 6 (by decide)).trans ((hx3.2.2.1 6 (by decide)).trans (hx1.2.2.1 6 (by decide)))))
        have s7_ : F_9 7 = (F 7) := ((hx9.2.2.1 7 (by decide)).trans ((hx8.2.2.1 7 (by decide)).trans ((hx3.2.2.1 7 (by decide)).trans (hx1.2.2.1 7 (by decide)))))
        have s9_ : F_9 9 = (F 9) := ((hx9.2.2.1 9 (by decide)).trans ((hx8.2.2.1 9 (by decide)).trans ((hx3.2.2.1 9 (by decide)).trans (hx1.2.2.1 9 (by decide)))))
        have s10_ : F_9 10 = (F 10) := ((hx9.2.2.1 10 (by decide)).trans ((hx8.2.2.1 10 (by decide)).trans ((hx3.2.2.1 10 (by decide)).trans (hx1.2.2.1 10 (by decide)))))
        have s11_ : F_9 11 = (F 11) := ((hx9.2.2.1 11 (by decide)).trans ((hx8.2.2.1 11 (by decide)).trans ((hx3.2.2.1 11 (by decide)).trans (hx1.2.2.1 11 (by decide)))))
        have s12_ : F_9 12 = (F 12) := ((hx9.2.2.1 12 (by decide)).trans ((hx8.2.2.1 12 (by decide)).trans ((hx3.2.2.1 12 (by decide)).trans (hx1.2.2.1 12 (by decide)))))
        have s13_ : F_9 13 = (F 13) := ((hx9.2.2.1 13 (by decide)).trans ((hx8.2.2.1 13 (by decide)).trans ((hx3.2.2.1 13 (by decide)).trans (hx1.2.2.1 13 (by decide)))))
        have s14_ : F_9 14 = (upd (F 14) (Int32.toNatClampNeg iw) r_1) := ((hx9.2.2.1 14 (by decide)).trans ((hx8.2.2.1 14 (by decide)).trans (hx3.2.2.1 14 (by decide))))
        have s15_ : F_9 15 = (upd (F 15) (Int32.toNatClampNeg iw) r_3) := ((hx9.2.2.1 15 (by decide)).trans (hx8.2.2.1 15 (by decide)))
        have s17_ : F_9 17 = (F_3 17) := ((hx9.2.2.1 17 (by decide)).trans (hx8.2.2.1 17 (by decide)))
        have s19_ : F_9 19 = (F_3 19) := ((hx9.2.2.1 19 (by decide)).trans (hx8.2.2.1 19 (by decide)))
        have s76_ : F_9 76 = (F 76) := ((hx9.2.2.1 76 (by decide)).trans ((hx8.2.2.1 76 (by decide)).trans ((hx3.2.2.1 76 (by decide)).trans (hx1.2.2.1 76 (by decide)))))
        have s78_ : F_9 78 = (F 78) := ((hx9.2.2.1 78 (by decide)).trans ((hx8.2.2.1 78 (by decide)).trans ((hx3.2.2.1 78 (by decide)).trans (hx1.2.2.1 78 (by decide)))))
        have s79_ : F_9 79 = (F 79) := ((hx9.2.2.1 79 (by decide)).trans ((hx8.2.2.1 79 (by decide)).trans ((hx3.2.2.1 79 (by decide)).trans (hx1.2.2.1 79 (by decide)))))
        have s80_ : F_9 80 = (F 80) := ((hx9.2.2.1 80 (by decide)).trans ((hx8.2.2.1 80 (by decide)).trans ((hx3.2.2.1 80 (by decide)).trans (hx1.2.2.1 80 (by decide)))))
        have s82_ : F_9 82 = (F 82) := ((hx9.2.2.1 82 (by decide)).trans ((hx8.2.2.1 82 (by decide)).trans ((hx3.2.2.1 82 (by decide)).trans (hx1.2.2.1 82 (by decide)))))
        have s84_ : F_9 84 = (upd (upd (F 84) (Int32.toNatClampNeg (n 83)) ((F 79) (Int32.toNatClampNeg nd))) (Int32.toNatClampNeg ((n 83) + 1)) ((F 78) (Int32.toNatClampNeg nd))) := h84_9
        have s85_ : F_9 85 = (upd (upd (F 85) (Int32.toNatClampNeg (n 83)) iw) (Int32.toNatClampNeg ((n 83) + 1)) iw) := h85_9
        have s86_ : F_9 86 = (upd (upd (F 86) (Int32.toNatClampNeg (n 83)) (vp_nar .boolean 1)) (Int32.toNatClampNeg ((n 83) + 1)) (vp_nar .boolean 0)) := h86_9
        have qn83 : (n 83 + 1).toInt = (T : Int) + 1 := by have q := T_add (rfl : (n 83).toInt = (n 83).toInt) (show (1 : Int32).toInt = 1 from rfl) (by omega); omega
        have ec0 : Int32.toNatClampNeg (n 83) = T := by rw [clN]; omega
        have ec1 : Int32.toNatClampNeg (n 83 + 1) = T + 1 := by rw [clN]; omega
        have qn84 : (n 83 + 1 + 1).toInt = (T : Int) + 2 := by have q := T_add qn83 (show (1 : Int32).toInt = 1 from rfl) (by omega); omega
        have h83e : (n_9 83).toInt = ((T + 2 : Nat) : Int) := by rw [show n_9 83 = (((n 83) + 1) + 1) from h83_9]; omega
        have v15 : F_9 15 (40 * f + W) = r_3 := by rw [s15_, ← eci, updE, if_pos rfl]
        have v14 : F_9 14 (40 * f + W) = r_1 := by rw [s14_, ← eci, updE, if_pos rfl]
        have v13 : (F_9 13 (40 * f + W)).toInt = (Fs 17 f).toInt := by rw [s13_]; exact h13
        have v17 : (F_9 17 f).toInt = r_3.toInt := by rw [s17_, hr_3, ecf]
        have hA9 : rAll F_9 := by
          intro q hq
          obtain ⟨q1, q2, q3, q4⟩ := hA_3 q hq
          obtain ⟨y1, y2, y3, y4⟩ := hA5 q hq
          obtain ⟨x1_, x2_, x3_, x4_⟩ := hA q hq
          rw [s13_, s14_, s15_, s19_]
          refine ⟨x1_, ?_, ?_, q4⟩
          · rw [updE]; split
            · omega
            · exact x2_
          · rw [updE]; split
            · omega
            · exact x3_
        have same : ∀ r, r ∈ [6, 7, 9, 10, 11, 12, 13, 76, 78, 79, 80, 82] → F_9 r = F r := by
          intro r hr
          simp only [List.mem_cons, List.not_mem_nil, or_false] at hr
          rcases hr with rfl | rfl | rfl | rfl | rfl | rfl | rfl | rfl | rfl | rfl | rfl | rfl
          · exact s6_
          · exact s7_
          · exact s9_
          · exact s10_
          · exact s11_
          · exact s12_
          · exact s13_
          · exact s76_
          · exact s78_
          · exact s79_
          · exact s80_
          · exact s82_
        have off : ∀ r, r ∈ [14, 15] → ∀ i, i ≠ 40 * f + W → F_9 r i = F r i := by
          intro r hr i hi
          rw [← eci] at hi
          simp only [List.mem_cons, List.not_mem_nil, or_false] at hr
          rcases hr with rfl | rfl
          · rw [s14_, updE, if_neg hi]
          · rw [s15_, updE, if_neg hi]
        have h84e : ∀ r, r ∈ [84, 85, 86] → ∀ q, q < T → F_9 r q = F r q := by
          intro r hr q hq
          simp only [List.mem_cons, List.not_mem_nil, or_false] at hr
          rcases hr with rfl | rfl | rfl
          · rw [s84_, ec0, ec1, updE, if_neg (by omega), updE, if_neg (by omega)]
          · rw [s85_, ec0, ec1, updE, if_neg (by omega), updE, if_neg (by omega)]
          · rw [s86_, ec0, ec1, updE, if_neg (by omega), updE, if_neg (by omega)]
        have k7 : F_9 7 (40 * f + W) = Fs 76 nd.toInt.toNat := by rw [s7_]; exact h7
        have htk : tkN Fs F_9 f W T (T + 2) nd.toInt.toNat := Or.inl ⟨(by unfold prK; rw [k7, ← q7]; omega), (by rw [s84_, ec0, ec1, updE, if_neg (by omega), updE, if_pos rfl]; exact congrFun (hb.1 79 (by decide)) _), (by rw [s84_, ec0, ec1, updE, if_pos rfl]; exact congrFun (hb.1 78 (by decide)) _), (by rw [s85_, ec0, ec1, updE, if_neg (by omega), updE, if_pos rfl]; exact hwi.1), (by unfold twB; rw [s86_, ec0, ec1, updE, if_neg (by omega), updE, if_pos rfl]; first | decide | rfl), (by rw [s85_, ec0, ec1, updE, if_pos rfl]; exact hwi.1), (by unfold twB; rw [s86_, ec0, ec1, updE, if_pos rfl]; first | decide | rfl), rfl⟩
        have hJ : LYJ F0 n_9 F_9 f fo Wn (W + 1) (T + 2) := LYJ_deep hf.2.2.1 hf.2.2.2 hc hb same off h84e (by rw [v13, v14, v15]; omega) h83e hA9 h7 hk2 (fun j_ hj_ => by have ej_ : j_ = j := (by omega); subst ej_; rw [v15, v13]; omega) (by rw [v17, v15, v13]; omega) htk
        refine gz_sub (lv' := [(0, .ref m), (1, .int x1), (2, .int x2)]) (by simp [List.lookup]) ?_
        exact hq_ (T + 2) _ _ _ _ _ hS_9 (fx_tr (fx_tr (fx_F (fx_F (fx_tr (fx_F (fx_tr hx hx1 (by decide)) (by decide)) hx3 (by decide)) (by decide)) (by decide)) hx8 (by decide)) hx9 (by decide)) hJ
      ·
        try simp only [mIn_0, lgc_lt, lgc_gt, lgc_le, lgc_ge, lgc_eq] at c_350
        try simp only [fl_lt, fl_le, fl_eq, fL_w, fL_lt, fL_le, tm1, tm10k, tm9, tm99, Int32.reduceToInt, Int64.reduceToInt, Int.not_lt, Int.not_le] at c_350
        refine gz_aload_n dX12_laysOut_353 rfl rfl ?_
        refine mg_20 hS_5 dX12_laysOut_354 ?_
        refine gz_iload dX12_laysOut_357 rfl ?_
        refine m_iald 7 hS_5 rfl (N := 880) rfl ((by exact vin_T (rfl : iw.toInt = iw.toInt) (by omega) (by omega))) dX12_laysOut_359 ?_
        refine gz_ev (w := .int ((F 7) (Int32.toNatClampNeg iw))) (congrArg Value.int (congrFun ((hx3.2.2.1 7 (by decide)).trans (hx1.2.2.1 7 (by decide))) _)) ?_
        refine gz_iconst (v := 5) dX12_laysOut_360 (by decide) ?_
        refine gz_icmp_ne (tgt := 377) dX12_laysOut_361 (by decide) (fun c_361 => ?_) (fun c_361 => ?_)
        ·
          try simp only [mIn_0, lgc_lt, lgc_gt, lgc_le, lgc_ge, lgc_eq] at c_361
          try simp only [fl_lt, fl_le, fl_eq, fL_w, fL_lt, fL_le, tm1, tm10k, tm9, tm99, Int32.reduceToInt, Int64.reduceToInt, Int.not_lt, Int.not_le] at c_361
          refine gz_aload_n dX12_laysOut_377 rfl rfl ?_
          refine gz_aload_n dX12_laysOut_378 rfl rfl ?_
          refine mg_216 hS_5 dX12_laysOut_379 ?_
          refine gz_iload_n dX12_laysOut_382 rfl rfl ?_
          refine m_iald 78 hS_5 rfl (N := 82) rfl ((by exact vin_T (rfl : nd.toInt = nd.toInt) (by omega) (by omega))) dX12_laysOut_383 ?_
          refine gz_ev (w := .int ((F 78) (Int32.toNatClampNeg nd))) (congrArg Value.int (congrFun ((hx3.2.2.1 78 (by decide)).trans (hx1.2.2.1 78 (by decide))) _)) ?_
          refine gz_iload dX12_laysOut_384 rfl ?_
          refine gz_iconst (v := 0) dX12_laysOut_386 (by decide) ?_
          refine scX12_527 (k_X12_laysT (x1 := ((F 78) (Int32.toNatClampNeg nd))) (x2 := iw) (x3 := 0) hS_5 (by rw [(show n_3 83 = (n 83) from ((hx3.1 83 (by decide)).trans (hx1.1 83 (by decide))))]; omega)) hS_5.1 ⟨(Nat.le_of_ble_eq_true rfl), (Nat.le_of_ble_eq_true rfl)⟩ ⟨(Nat.le_of_ble_eq_true rfl), (Nat.le_of_ble_eq_true rfl)⟩ rfl rfl (Nat.le_of_ble_eq_true rfl) dX12_laysOut_387 ?_
          rintro f_10 ⟨n_10, z_10, F_10, G_10, hS_10, hx10, h83_10, h84_10, h85_10, h86_10⟩
          try simp only [(show n_3 83 = (n 83) from ((hx3.1 83 (by decide)).trans (hx1.1 83 (by decide))))] at h83_10 h84_10 h85_10 h86_10
          try rw [show n_3 83 = (n 83) from ((hx3.1 83 (by decide)).trans (hx1.1 83 (by decide)))] at h83_10 h84_10 h85_10 h86_10
          try rw [show (va_up (va_up F_3 15 (upd (F 15) (Int32.toNatClampNeg iw) r_3)) 16 (upd (F 16) (Int32.toNatClampNeg iw) ((F 16) (Int32.toNatClampNeg wd)))) 84 = (F 84) from ((hx3.2.2.1 84 (by decide)).trans (hx1.2.2.1 84 (by decide)))] at h84_10
          try rw [show (va_up (va_up F_3 15 (upd (F 15) (Int32.toNatClampNeg iw) r_3)) 16 (upd (F 16) (Int32.toNatClampNeg iw) ((F 16) (Int32.toNatClampNeg wd)))) 85 = (F 85) from ((hx3.2.2.1 85 (by decide)).trans (hx1.2.2.1 85 (by decide)))] at h85_10
          try rw [show (va_up (va_up F_3 15 (upd (F 15) (Int32.toNatClampNeg iw) r_3)) 16 (upd (F 16) (Int32.toNatClampNeg iw) ((F 16) (Int32.toNatClampNeg wd)))) 86 = (F 86) from ((hx3.2.2.1 86 (by decide)).trans (hx1.2.2.1 86 (by decide)))] at h86_10
          refine gz_goto (tgt := 26) dX12_laysOut_390 (by decide) ?_
          have s6_ : F_10 6 = (F 6) := ((hx10.2.2.1 6 (by decide)).trans ((hx3.2.2.1 6 (by decide)).trans (hx1.2.2.1 6 (by decide))))
          have s7_ : F_10 7 = (F 7) := ((hx10.2.2.1 7 (by decide)).trans ((hx3.2.2.1 7 (by decide)).trans (hx1.2.2.1 7 (by decide))))
          have s9_ : F_10 9 = (F 9) := ((hx10.2.2.1 9 (by decide)).trans ((hx3.2.2.1 9 (by decide)).trans (hx1.2.2.1 9 (by decide))))
          have s10_ : F_10 10 = (F 10) := ((hx10.2.2.1 10 (by decide)).trans ((hx3.2.2.1 10 (by decide)).trans (hx1.2.2.1 10 (by decide))))
          have s11_ : F_10 11 = (F 11) := ((hx10.2.2.1 11 (by decide)).trans ((hx3.2.2.1 11 (by decide)).trans (hx1.2.2.1 11 (by decide))))
          have s12_ : F_10 12 = (F 12) := ((hx10.2.2.1 12 (by decide)).trans ((hx3.2.2.1 12 (by decide)).trans (hx1.2.2.1 12 (by decide))))
          have s13_ : F_10 13 = (F 13) := ((hx10.2.2.1 13 (by decide)).trans ((hx3.2.2.1 13 (by decide)).trans (hx1.2.2.1 13 (by decide))))
          have s14_ : F_10 14 = (upd (F 14) (Int32.toNatClampNeg iw) r_1) := ((hx10.2.2.1 14 (by decide)).trans (hx3.2.2.1 14 (by decide)))
          have s15_ : F_10 15 = (upd (F 15) (Int32.toNatClampNeg iw) r_3) := (hx10.2.2.1 15 (by decide))
          have s17_ : F_10 17 = (F_3 17) := (hx10.2.2.1 17 (by decide))
          have s19_ : F_10 19 = (F_3 19) := (hx10.2.2.1 19 (by decide))
          have s76_ : F_10 76 = (F 76) := ((hx10.2.2.1 76 (by decide)).trans ((hx3.2.2.1 76 (by decide)).trans (hx1.2.2.1 76 (by decide))))
          have s78_ : F_10 78 = (F 78) := ((hx10.2.2.1 78 (by decide)).trans ((hx3.2.2.1 78 (by decide)).trans (hx1.2.2.1 78 (by decide))))
          have s79_ : F_10 79 = (F 79) := ((hx10.2.2.1 79 (by decide)).trans ((hx3.2.2.1 79 (by decide)).trans (hx1.2.2.1 79 (by decide))))
          have s80_ : F_10 80 = (F 80) := ((hx10.2.2.1 80 (by decide)).trans ((hx3.2.2.1 80 (by decide)).trans (hx1.2.2.1 80 (by decide))))
          have s82_ : F_10 82 = (F 82) := ((hx10.2.2.1 82 (by decide)).trans ((hx3.2.2.1 82 (by decide)).trans (hx1.2.2.1 82 (by decide))))
          have s84_ : F_10 84 = (upd (F 84) (Int32.toNatClampNeg (n 83)) ((F 78) (Int32.toNatClampNeg nd))) := h84_10
          have s85_ : F_10 85 = (upd (F 85) (Int32.toNatClampNeg (n 83)) iw) := h85_10
          have s86_ : F_10 86 = (upd (F 86) (Int32.toNatClampNeg (n 83)) (vp_nar .boolean 0)) := h86_10
          have qn83 : (n 83 + 1).toInt = (T : Int) + 1 := by have q := T_add (rfl : (n 83).toInt = (n 83).toInt) (show (1 : Int32).toInt = 1 from rfl) (by omega); omega
          have ec0 : Int32.toNatClampNeg (n 83) = T := by rw [clN]; omega
          have ec1 : Int32.toNatClampNeg (n 83 + 1) = T + 1 := by rw [clN]; omega
          have h83e : (n_10 83).toInt = ((T + 1 : Nat) : Int) := by rw [show n_10 83 = ((n 83) + 1) from h83_10]; omega
          have v15 : F_10 15 (40 * f + W) = r_3 := by rw [s15_, ← eci, updE, if_pos rfl]
          have v14 : F_10 14 (40 * f + W) = r_1 := by rw [s14_, ← eci, updE, if_pos rfl]
          have v13 : (F_10 13 (40 * f + W)).toInt = (Fs 17 f).toInt := by rw [s13_]; exact h13
          have v17 : (F_10 17 f).toInt = r_3.toInt := by rw [s17_, hr_3, ecf]
          have hA9 : rAll F_10 := by
            intro q hq
            obtain ⟨q1, q2, q3, q4⟩ := hA_3 q hq
            obtain ⟨y1, y2, y3, y4⟩ := hA5 q hq
            obtain ⟨x1_, x2_, x3_, x4_⟩ := hA q hq
            rw [s13_, s14_, s15_, s19_]
            refine ⟨x1_, ?_, ?_, q4⟩
            · rw [updE]; split
              · omega
              · exact x2_
            · rw [updE]; split
              · omega
              · exact x3_
          have same : ∀ r, r ∈ [6, 7, 9, 10, 11, 12, 13, 76, 78, 79, 80, 82] → F_10 r = F r := by
            intro r hr
            simp only [List.mem_cons, List.not_mem_nil, or_false] at hr
            rcases hr with rfl | rfl | rfl | rfl | rfl | rfl | rfl | rfl | rfl | rfl | rfl | rfl
            · exact s6_
            · exact s7_
            · exact s9_
            · exact s10_
            · exact s11_
            · exact s12_
            · exact s13_
            · exact s76_
            · exact s78_
            · exact s79_
            · exact s80_
            · exact s82_
          have off : ∀ r, r ∈ [14, 15] → ∀ i, i ≠ 40 * f + W → F_10 r i = F r i := by
            intro r hr i hi
            rw [← eci] at hi
            simp only [List.mem_cons, List.not_mem_nil, or_false] at hr
            rcases hr with rfl | rfl
            · rw [s14_, updE, if_neg hi]
            · rw [s15_, updE, if_neg hi]
          have h84e : ∀ r, r ∈ [84, 85, 86] → ∀ q, q < T → F_10 r q = F r q := by
            intro r hr q hq
            simp only [List.mem_cons, List.not_mem_nil, or_false] at hr
            rcases hr with rfl | rfl | rfl
            · rw [s84_, ec0, updE, if_neg (by omega)]
            · rw [s85_, ec0, updE, if_neg (by omega)]
            · rw [s86_, ec0, updE, if_neg (by omega)]
          have k7 : F_10 7 (40 * f + W) = Fs 76 nd.toInt.toNat := by rw [s7_]; exact h7
          have htk : tkN Fs F_10 f W T (T + 1) nd.toInt.toNat := Or.inr ⟨(by unfold prK; rw [k7, ← q7]; omega), (by rw [s84_, ec0, updE, if_pos rfl]; exact congrFun (hb.1 78 (by decide)) _), (by rw [s85_, ec0, updE, if_pos rfl]; exact hwi.1), (by unfold twB; rw [s86_, ec0, updE, if_pos rfl]; first | decide | rfl), rfl⟩
          have hJ : LYJ F0 n_10 F_10 f fo Wn (W + 1) (T + 1) := LYJ_deep hf.2.2.1 hf.2.2.2 hc hb same off h84e (by rw [v13, v14, v15]; omega) h83e hA9 h7 hk2 (fun j_ hj_ => by have ej_ : j_ = j := (by omega); subst ej_; rw [v15, v13]; omega) (by rw [v17, v15, v13]; omega) htk
          refine gz_sub (lv' := [(0, .ref m), (1, .int x1), (2, .int x2)]) (by simp [List.lookup]) ?_
          exact hq_ (T + 1) _ _ _ _ _ hS_10 (fx_tr (fx_F (fx_F (fx_tr (fx_F (fx_tr hx hx1 (by decide)) (by decide)) hx3 (by decide)) (by decide)) (by decide)) hx10 (by decide)) hJ
        ·
          try simp only [mIn_0, lgc_lt, lgc_gt, lgc_le, lgc_ge, lgc_eq] at c_361
          try simp only [fl_lt, fl_le, fl_eq, fL_w, fL_lt, fL_le, tm1, tm10k, tm9, tm99, Int32.reduceToInt, Int64.reduceToInt, Int.not_lt, Int.not_le] at c_361
          refine gz_aload_n dX12_laysOut_364 rfl rfl ?_
          refine gz_aload_n dX12_laysOut_365 rfl rfl ?_
          refine mg_219 hS_5 dX12_laysOut_366 ?_
          refine gz_iload_n dX12_laysOut_369 rfl rfl ?_
          refine m_iald 79 hS_5 rfl (N := 82) rfl ((by exact vin_T (rfl : nd.toInt = nd.toInt) (by omega) (by omega))) dX12_laysOut_370 ?_
          refine gz_ev (w := .int ((F 79) (Int32.toNatClampNeg nd))) (congrArg Value.int (congrFun ((hx3.2.2.1 79 (by decide)).trans (hx1.2.2.1 79 (by decide))) _)) ?_
          refine gz_iload dX12_laysOut_371 rfl ?_
          refine gz_iconst (v := 1) dX12_laysOut_373 (by decide) ?_
          refine scX12_527 (k_X12_laysT (x1 := ((F 79) (Int32.toNatClampNeg nd))) (x2 := iw) (x3 := 1) hS_5 (by rw [(show n_3 83 = (n 83) from ((hx3.1 83 (by decide)).trans (hx1.1 83 (by decide))))]; omega)) hS_5.1 ⟨(Nat.le_of_ble_eq_true rfl), (Nat.le_of_ble_eq_true rfl)⟩ ⟨(Nat.le_of_ble_eq_true rfl), (Nat.le_of_ble_eq_true rfl)⟩ rfl rfl (Nat.le_of_ble_eq_true rfl) dX12_laysOut_374 ?_
          rintro f_11 ⟨n_11, z_11, F_11, G_11, hS_11, hx11, h83_11, h84_11, h85_11, h86_11⟩
          try simp only [(show n_3 83 = (n 83) from ((hx3.1 83 (by decide)).trans (hx1.1 83 (by decide))))] at h83_11 h84_11 h85_11 h86_11
          try rw [show n_3 83 = (n 83) from ((hx3.1 83 (by decide)).trans (hx1.1 83 (by decide)))] at h83_11 h84_11 h85_11 h86_11
          try rw [show (va_up (va_up F_3 15 (upd (F 15) (Int32.toNatClampNeg iw) r_3)) 16 (upd (F 16) (Int32.toNatClampNeg iw) ((F 16) (Int32.toNatClampNeg wd)))) 84 = (F 84) from ((hx3.2.2.1 84 (by decide)).trans (hx1.2.2.1 84 (by decide)))] at h84_11
          try rw [show (va_up (va_up F_3 15 (upd (F 15) (Int32.toNatClampNeg iw) r_3)) 16 (upd (F 16) (Int32.toNatClampNeg iw) ((F 16) (Int32.toNatClampNeg wd)))) 85 = (F 85) from ((hx3.2.2.1 85 (by decide)).trans (hx1.2.2.1 85 (by decide)))] at h85_11
          try rw [show (va_up (va_up F_3 15 (upd (F 15) (Int32.toNatClampNeg iw) r_3)) 16 (upd (F 16) (Int32.toNatClampNeg iw) ((F 16) (Int32.toNatClampNeg wd)))) 86 = (F 86) from ((hx3.2.2.1 86 (by decide)).trans (hx1.2.2.1 86 (by decide)))] at h86_11
          refine gz_aload_n dX12_laysOut_377 rfl rfl ?_
          refine gz_aload_n dX12_laysOut_378 rfl rfl ?_
          refine mg_216 hS_11 dX12_laysOut_379 ?_
          refine gz_iload_n dX12_laysOut_382 rfl rfl ?_
          refine m_iald 78 hS_11 rfl (N := 82) rfl ((by exact vin_T (rfl : nd.toInt = nd.toInt) (by omega) (by omega))) dX12_laysOut_383 ?_
          refine gz_ev (w := .int ((F 78) (Int32.toNatClampNeg nd))) (congrArg Value.int (congrFun ((hx11.2.2.1 78 (by decide)).trans ((hx3.2.2.1 78 (by decide)).trans (hx1.2.2.1 78 (by decide)))) _)) ?_
          refine gz_iload dX12_laysOut_384 rfl ?_
          refine gz_iconst (v := 0) dX12_laysOut_386 (by decide) ?_
          refine scX12_527 (k_X12_laysT (x1 := ((F 78) (Int32.toNatClampNeg nd))) (x2 := iw) (x3 := 0) hS_11 (by rw [(show n_11 83 = ((n 83) + 1) from h83_11)]; have q83 := T_add (rfl : (n 83).toInt = (n 83).toInt) (show (1 : Int32).toInt = 1 from rfl) (by omega); omega)) hS_11.1 ⟨(Nat.le_of_ble_eq_true rfl), (Nat.le_of_ble_eq_true rfl)⟩ ⟨(Nat.le_of_ble_eq_true rfl), (Nat.le_of_ble_eq_true rfl)⟩ rfl rfl (Nat.le_of_ble_eq_true rfl) dX12_laysOut_387 ?_
          rintro f_12 ⟨n_12, z_12, F_12, G_12, hS_12, hx12, h83_12, h84_12, h85_12, h86_12⟩
          try simp only [(show n_11 83 = ((n 83) + 1) from h83_11)] at h83_12 h84_12 h85_12 h86_12
          try rw [show n_11 83 = ((n 83) + 1) from h83_11] at h83_12 h84_12 h85_12 h86_12
          try rw [show F_11 84 = (upd (F 84) (Int32.toNatClampNeg (n 83)) ((F 79) (Int32.toNatClampNeg nd))) from h84_11] at h84_12
          try rw [show F_11 85 = (upd (F 85) (Int32.toNatClampNeg (n 83)) iw) from h85_11] at h85_12
          try rw [show F_11 86 = (upd (F 86) (Int32.toNatClampNeg (n 83)) (vp_nar .boolean 1)) from h86_11] at h86_12
          refine gz_goto (tgt := 26) dX12_laysOut_390 (by decide) ?_
          have s6_ : F_12 6 = (F 6) := ((hx12.2.2.1 6 (by decide)).trans ((hx11.2.2.1 6 (by decide)).trans ((hx3.2.2.1 6 (by decide)).trans (hx1.2.2.1 6 (by decide)))))
          have s7_ : F_12 7 = (F 7) := ((hx12.2.2.1 7 (by decide)).trans ((hx11.2.2.1 7 (by decide)).trans ((hx3.2.2.1 7 (by decide)).trans (hx1.2.2.1 7 (by decide)))))
          have s9_ : F_12 9 = (F 9) := ((hx12.2.2.1 9 (by decide)).trans ((hx11.2.2.1 9 (by decide)).trans ((hx3.2.2.1 9 (by decide)).trans (hx1.2.2.1 9 (by decide)))))
          have s10_ : F_12 10 = (F 10) := ((hx12.2.2.1 10 (by decide)).trans ((hx11.2.2.1 10 (by decide)).trans ((hx3.2.2.1 10 (by decide)).trans (hx1.2.2.1 10 (by decide)))))
          have s11_ : F_12 11 = (F 11) := ((hx12.2.2.1 11 (by decide)).trans ((hx11.2.2.1 11 (by decide)).trans ((hx3.2.2.1 11 (by decide)).trans (hx1.2.2.1 11 (by decide)))))
          have s12_ : F_12 12 = (F 12) := ((hx12.2.2.1 12 (by decide)).trans ((hx11.2.2.1 12 (by decide)).trans ((hx3.2.2.1 12 (by decide)).trans (hx1.2.2.1 12 (by decide)))))
          have s13_ : F_12 13 = (F 13) := ((hx12.2.2.1 13 (by decide)).trans ((hx11.2.2.1 13 (by decide)).trans ((hx3.2.2.1 13 (by decide)).trans (hx1.2.2.1 13 (by decide)))))
          have s14_ : F_12 14 = (upd (F 14) (Int32.toNatClampNeg iw) r_1) := ((hx12.2.2.1 14 (by decide)).trans ((hx11.2.2.1 14 (by decide)).trans (hx3.2.2.1 14 (by decide))))
          have s15_ : F_12 15 = (upd (F 15) (Int32.toNatClampNeg iw) r_3) := ((hx12.2.2.1 15 (by decide)).trans (hx11.2.2.1 15 (by decide)))
          have s17_ : F_12 17 = (F_3 17) := ((hx12.2.2.1 17 (by decide)).trans (hx11.2.2.1 17 (by decide)))
          have s19_ : F_12 19 = (F_3 19) := ((hx12.2.2.1 19 (by decide)).trans (hx11.2.2.1 19 (by decide)))
          have s76_ : F_12 76 = (F 76) := ((hx12.2.2.1 76 (by decide)).trans ((hx11.2.2.1 76 (by decide)).trans ((hx3.2.2.1 76 (by decide)).trans (hx1.2.2.1 76 (by decide)))))
          have s78_ : F_12 78 = (F 78) := ((hx12.2.2.1 78 (by decide)).trans ((hx11.2.2.1 78 (by decide)).trans ((hx3.2.2.1 78 (by decide)).trans (hx1.2.2.1 78 (by decide)))))
          have s79_ : F_12 79 = (F 79) := ((hx12.2.2.1 79 (by decide)).trans ((hx11.2.2.1 79 (by decide)).trans ((hx3.2.2.1 79 (by decide)).trans (hx1.2.2.1 79 (by decide)))))
          have s80_ : F_12 80 = (F 80) := ((hx12.2.2.1 80 (by decide)).trans ((hx11.2.2.1 80 (by decide)).trans ((hx3.2.2.1 80 (by decide)).trans (hx1.2.2.1 80 (by decide)))))
          have s82_ : F_12 82 = (F 82) := ((hx12.2.2.1 82 (by decide)).trans ((hx11.2.2.1 82 (by decide)).trans ((hx3.2.2.1 82 (by decide)).trans (hx1.2.2.1 82 (by decide)))))
          have s84_ : F_12 84 = (upd (upd (F 84) (Int32.toNatClampNeg (n 83)) ((F 79) (Int32.toNatClampNeg nd))) (Int32.toNatClampNeg ((n 83) + 1)) ((F 78) (Int32.toNatClampNeg nd))) := h84_12
          have s85_ : F_12 85 = (upd (upd (F 85) (Int32.toNatClampNeg (n 83)) iw) (Int32.toNatClampNeg ((n 83) + 1)) iw) := h85_12
          have s86_ : F_12 86 = (upd (upd (F 86) (Int32.toNatClampNeg (n 83)) (vp_nar .boolean 1)) (Int32.toNatClampNeg ((n 83) + 1)) (vp_nar .boolean 0)) := h86_12
          have qn83 : (n 83 + 1).toInt = (T : Int) + 1 := by have q := T_add (rfl : (n 83).toInt = (n 83).toInt) (show (1 : Int32).toInt = 1 from rfl) (by omega); omega
          have ec0 : Int32.toNatClampNeg (n 83) = T := by rw [clN]; omega
          have ec1 : Int32.toNatClampNeg (n 83 + 1) = T + 1 := by rw [clN]; omega
          have qn84 : (n 83 + 1 + 1).toInt = (T : Int) + 2 := by have q := T_add qn83 (show (1 : Int32).toInt = 1 from rfl) (by omega); omega
          have h83e : (n_12 83).toInt = ((T + 2 : Nat) : Int) := by rw [show n_12 83 = (((n 83) + 1) + 1) from h83_12]; omega
          have v15 : F_12 15 (40 * f + W) = r_3 := by rw [s15_, ← eci, updE, if_pos rfl]
          have v14 : F_12 14 (40 * f + W) = r_1 := by rw [s14_, ← eci, updE, if_pos rfl]
          have v13 : (F_12 13 (40 * f + W)).toInt = (Fs 17 f).toInt := by rw [s13_]; exact h13
          have v17 : (F_12 17 f).toInt = r_3.toInt := by rw [s17_, hr_3, ecf]
          have hA9 : rAll F_12 := by
            intro q hq
            obtain ⟨q1, q2, q3, q4⟩ := hA_3 q hq
            obtain ⟨y1, y2, y3, y4⟩ := hA5 q hq
            obtain ⟨x1_, x2_, x3_, x4_⟩ := hA q hq
            rw [s13_, s14_, s15_, s19_]
            refine ⟨x1_, ?_, ?_, q4⟩
            · rw [updE]; split
              · omega
              · exact x2_
            · rw [updE]; split
              · omega
              · exact x3_
          have same : ∀ r, r ∈ [6, 7, 9, 10, 11, 12, 13, 76, 78, 79, 80, 82] → F_12 r = F r := by
            intro r hr
            simp only [List.mem_cons, List.not_mem_nil, or_false] at hr
            rcases hr with rfl | rfl | rfl | rfl | rfl | rfl | rfl | rfl | rfl | rfl | rfl | rfl
            · exact s6_
            · exact s7_
            · exact s9_
            · exact s10_
            · exact s11_
            · exact s12_
            · exact s13_
            · exact s76_
            · exact s78_
            · exact s79_
            · exact s80_
            · exact s82_
          have off : ∀ r, r ∈ [14, 15] → ∀ i, i ≠ 40 * f + W → F_12 r i = F r i := by
            intro r hr i hi
            rw [← eci] at hi
            simp only [List.mem_cons, List.not_mem_nil, or_false] at hr
            rcases hr with rfl | rfl
            · rw [s14_, updE, if_neg hi]
            · rw [s15_, updE, if_neg hi]
          have h84e : ∀ r, r ∈ [84, 85, 86] → ∀ q, q < T → F_12 r q = F r q := by
            intro r hr q hq
            simp only [List.mem_cons, List.not_mem_nil, or_false] at hr
            rcases hr with rfl | rfl | rfl
            · rw [s84_, ec0, ec1, updE, if_neg (by omega), updE, if_neg (by omega)]
            · rw [s85_, ec0, ec1, updE, if_neg (by omega), updE, if_neg (by omega)]
            · rw [s86_, ec0, ec1, updE, if_neg (by omega), updE, if_neg (by omega)]
          have k7 : F_12 7 (40 * f + W) = Fs 76 nd.toInt.toNat := by rw [s7_]; exact h7
          have htk : tkN Fs F_12 f W T (T + 2) nd.toInt.toNat := Or.inl ⟨(by unfold prK; rw [k7, ← q7]; omega), (by rw [s84_, ec0, ec1, updE, if_neg (by omega), updE, if_pos rfl]; exact congrFun (hb.1 79 (by decide)) _), (by rw [s84_, ec0, ec1, updE, if_pos rfl]; exact congrFun (hb.1 78 (by decide)) _), (by rw [s85_, ec0, ec1, updE, if_neg (by omega), updE, if_pos rfl]; exact hwi.1), (by unfold twB; rw [s86_, ec0, ec1, updE, if_neg (by omega), updE, if_pos rfl]; first | decide | rfl), (by rw [s85_, ec0, ec1, updE, if_pos rfl]; exact hwi.1), (by unfold twB; rw [s86_, ec0, ec1, updE, if_pos rfl]; first | decide | rfl), rfl⟩
          have hJ : LYJ F0 n_12 F_12 f fo Wn (W + 1) (T + 2) := LYJ_deep hf.2.2.1 hf.2.2.2 hc hb same off h84e (by rw [v13, v14, v15]; omega) h83e hA9 h7 hk2 (fun j_ hj_ => by have ej_ : j_ = j := (by omega); subst ej_; rw [v15, v13]; omega) (by rw [v17, v15, v13]; omega) htk
          refine gz_sub (lv' := [(0, .ref m), (1, .int x1), (2, .int x2)]) (by simp [List.lookup]) ?_
          exact hq_ (T + 2) _ _ _ _ _ hS_12 (fx_tr (fx_tr (fx_F (fx_F (fx_tr (fx_F (fx_tr hx hx1 (by decide)) (by decide)) hx3 (by decide)) (by decide)) (by decide)) hx11 (by decide)) hx12 (by decide)) hJ

set_option maxHeartbeats 4000000 in
set_option maxRecDepth 100000 in
theorem l_X12_laysOutB {l : Launch} {D : va_G} {cy : Nat → ClassId} {b : Nat} {m : Nat} {a : Nat → Nat} {f0 : gMem} {n0 : Nat → Int32} {z0 : Nat → Int64} {F0 : Nat → Nat → Int32} {G0 : Nat → Nat → Int64}  {x1 x2 : Int32} {f fo Wn : Nat} {W T : Nat} {a_ : Int} {nd up iw : Int32} {Fs : Nat → Nat → Int32} (hf : x2.toInt = (f : Int) ∧ f < 20 ∧ fo < f ∧ Wn ≤ 40) (hwi : iw.toInt = 40 * (f : Int) + W ∧ W ≤ 39 ∧ T ≤ 39) (hc : LYc F0 Fs f fo Wn W T a_ nd up) (hq_ : ∀ (T2 : Nat) (n : Nat → Int32) (z : Nat → Int64) (F : Nat → Nat → Int32) (G : Nat → Nat → Int64) (fm : gMem), mS cy m a f0 n z F G fm → fx [83] [] [6, 7, 8, 9, 10, 11, 12, 13, 14, 15, 16, 17, 18, 19, 20, 84, 85, 86] [] n0 z0 F0 G0 n z F G → (LYJ F0 n F f fo Wn (W + 1) T2) → gG l (gRm 1 0 0) (gQf D b (pV fun f2 => ∃ (n2 : Nat → Int32) (z2 : Nat → Int64) (F2 : Nat → Nat → Int32) (G2 : Nat → Nat → Int64), mS cy m a f0 n2 z2 F2 G2 f2 ∧ fx [83] [] [6, 7, 8, 9, 10, 11, 12, 13, 14, 15, 16, 17, 18, 19, 20, 84, 85, 86] [] n0 z0 F0 G0 n2 z2 F2 G2 ∧ rAll F2 ∧ fOK F2 f ∧ ∀ g, g < f → agF F0 F2 g) 0 0) gTt D cy b cX12_laysOut 7 none RX12 "laysOut" 0 0 fm 26 [(0, .ref m), (1, .int x1), (2, .int x2)] []) : ∀ (k : Nat)  (n : Nat → Int32) (z : Nat → Int64) (F : Nat → Nat → Int32) (G : Nat → Nat → Int64) (fm : gMem), mS cy m a f0 n z F G fm → fx [83] [] [6, 7, 8, 9, 10, 11, 12, 13, 14, 15, 16, 17, 18, 19, 20, 84, 85, 86] [] n0 z0 F0 G0 n z F G → ((n 83).toInt = (T : Int)) → (rAll F) → (LYa Fs F f W T) → (0 < (k : Int)) → gG l (gRm 1 0 0) (gQf D b (pV fun f2 => ∃ (n2 : Nat → Int32) (z2 : Nat → Int64) (F2 : Nat → Nat → Int32) (G2 : Nat → Nat → Int64), mS cy m a f0 n2 z2 F2 G2 f2 ∧ fx [83] [] [6, 7, 8, 9, 10, 11, 12, 13, 14, 15, 16, 17, 18, 19, 20, 84, 85, 86] [] n0 z0 F0 G0 n2 z2 F2 G2 ∧ rAll F2 ∧ fOK F2 f ∧ ∀ g, g < f → agF F0 F2 g) 0 0) gTt D cy b cX12_laysOut 7 none RX12 "laysOut" 0 0 fm 130 [(0, .ref m), (1, .int x1), (2, .int x2), (3, .int nd), (4, .int up), (5, .int iw)] [] := by
  intro k
  induction k with
  | zero =>
    intro n z F G fm hS hx h83 hA ha hk
    exfalso; omega
  | succ k ih =>
    intro n z F G fm hS hx h83 hA ha hk
    obtain ⟨c1, c2, c3, c4, c5, c6, c7, c8, c9⟩ := id hc
    have eci : Int32.toNatClampNeg iw = 40 * f + W := by rw [clN]; omega
    have ecf : Int32.toNatClampNeg x2 = f := by rw [clN]; omega
    have qnd : 0 ≤ nd.toInt ∧ nd.toInt ≤ 40 := by rcases c4.2 with z | ⟨z, z1, z2, z3⟩ <;> omega
    have qk0 : 0 ≤ (Fs 76 nd.toInt.toNat).toInt := by rcases c4.2 with z | ⟨z, z1, z2, z3⟩; (rw [z, show (40 : Int).toNat = 0 + 40 from rfl, c7.1]; decide); (rw [show nd.toInt.toNat = 0 + z by omega, (c7.2 z (by omega) z2).1.2.1]; exact (c8 z z2).1.1)
    have qup : -1 ≤ up.toInt ∧ up.toInt < 880 := by rcases c2 with ⟨z1, z2, z3, z4⟩ | ⟨p, z1, z2, z3, z4, z5⟩; (rw [c3.2] at z1; omega); (rw [c3.2] at z2; omega)
    refine gz_aload_n dX12_laysOut_130 rfl rfl ?_
    refine mg_20 hS dX12_laysOut_131 ?_
    refine gz_iload dX12_laysOut_134 rfl ?_
    refine gz_aload_n dX12_laysOut_136 rfl rfl ?_
    refine mg_210 hS dX12_laysOut_137 ?_
    refine gz_iload_n dX12_laysOut_140 rfl rfl ?_
    refine m_iald 76 hS rfl (N := 82) rfl ((by exact vin_T (rfl : nd.toInt = nd.toInt) (by omega) (by omega))) dX12_laysOut_141 ?_
    obtain ⟨kd, hkd⟩ : ∃ v_ : Int32, v_ = ((F 76) (Int32.toNatClampNeg nd)) := ⟨_, rfl⟩
    refine gz_ev (w := .int kd) (congrArg Value.int hkd.symm) ?_
    have qkd : kd = Fs 76 nd.toInt.toNat := by rw [hkd]; exact congrFun (ha.1 76 (by decide)) _
    have qk1 : 0 ≤ kd.toInt := by rw [qkd]; exact qk0
    refine m_iast 7 hS rfl (N := 880) rfl ((by exact vin_T (rfl : iw.toInt = iw.toInt) (by omega) (by omega))) dX12_laysOut_142 (fun f_1 hS_1q => ?_)
    have hS_1 : mS cy m a f0 n z (va_up F 7 (upd (F 7) (Int32.toNatClampNeg iw) kd)) G f_1 := hS_1q
    refine gz_aload_n dX12_laysOut_143 rfl rfl ?_
    refine mg_23 hS_1 dX12_laysOut_144 ?_
    refine gz_iload dX12_laysOut_147 rfl ?_
    refine gz_aload_n dX12_laysOut_149 rfl rfl ?_
    refine mg_213 hS_1 dX12_laysOut_150 ?_
    refine gz_iload_n dX12_laysOut_153 rfl rfl ?_
    refine m_iald 77 hS_1 rfl (N := 82) rfl ((by exact vin_T (rfl : nd.toInt = nd.toInt) (by omega) (by omega))) dX12_laysOut_154 ?_
    refine gz_ev (w := .int ((F 77) (Int32.toNatClampNeg nd))) rfl ?_
    refine m_iast 8 hS_1 rfl (N := 880) rfl ((by exact vin_T (rfl : iw.toInt = iw.toInt) (by omega) (by omega))) dX12_laysOut_155 (fun f_2 hS_2q => ?_)
    have hS_2 : mS cy m a f0 n z (va_up (va_up F 7 (upd (F 7) (Int32.toNatClampNeg iw) kd)) 8 (upd (F 8) (Int32.toNatClampNeg iw) ((F 77) (Int32.toNatClampNeg nd)))) G f_2 := hS_2q
    refine gz_aload_n dX12_laysOut_156 rfl rfl ?_
    refine mg_29 hS_2 dX12_laysOut_157 ?_
    refine gz_iload dX12_laysOut_160 rfl ?_
    refine gz_iload dX12_laysOut_162 rfl ?_
    refine m_iast 10 hS_2 rfl (N := 880) rfl ((by exact vin_T (rfl : iw.toInt = iw.toInt) (by omega) (by omega))) dX12_laysOut_164 (fun f_3 hS_3q => ?_)
    have hS_3 : mS cy m a f0 n z (va_up (va_up (va_up F 7 (upd (F 7) (Int32.toNatClampNeg iw) kd)) 8 (upd (F 8) (Int32.toNatClampNeg iw) ((F 77) (Int32.toNatClampNeg nd)))) 10 (upd (F 10) (Int32.toNatClampNeg iw) up)) G f_3 := hS_3q
    refine gz_aload_n dX12_laysOut_165 rfl rfl ?_
    refine mg_26 hS_3 dX12_laysOut_166 ?_
    refine gz_iload dX12_laysOut_169 rfl ?_
    refine gz_iload dX12_laysOut_171 rfl ?_
    refine gz_if_ge (tgt := 180) dX12_laysOut_173 (by decide) (fun c_173 => ?_) (fun c_173 => ?_)
    ·
      try simp only [mIn_0, lgc_lt, lgc_gt, lgc_le, lgc_ge, lgc_eq] at c_173
      try simp only [fl_lt, fl_le, fl_eq, fL_w, fL_lt, fL_le, tm1, tm10k, tm9, tm99, Int32.reduceToInt, Int64.reduceToInt, Int.not_lt, Int.not_le] at c_173
      refine gz_aload_n dX12_laysOut_180 rfl rfl ?_
      refine mg_26 hS_3 dX12_laysOut_181 ?_
      refine gz_iload dX12_laysOut_184 rfl ?_
      refine m_iald 9 hS_3 rfl (N := 880) rfl ((by exact vin_T (rfl : up.toInt = up.toInt) (by omega) (by omega))) dX12_laysOut_186 ?_
      refine gz_ev (w := .int ((F 9) (Int32.toNatClampNeg up))) rfl ?_
      refine gz_iconst (v := 1) dX12_laysOut_187 (by decide) ?_
      refine gz_iadd dX12_laysOut_188 ?_
      obtain ⟨ar, har⟩ : ∃ v_ : Int32, v_ = (((F 9) (Int32.toNatClampNeg up)) + 1) := ⟨_, rfl⟩
      refine gz_ev (w := .int ar) (congrArg Value.int har.symm) ?_
      have qar : ar.toInt = a_ := by
        rcases c2 with ⟨z1, z2, z3, z4⟩ | ⟨p, z1, z2, z3, z4, z5⟩
        · rw [c3.2] at z1; exfalso; omega
        · rw [c3.2] at z2; have eu : Int32.toNatClampNeg up = 40 * f + p := by rw [clN]; omega
          have e9 : (F 9 (Int32.toNatClampNeg up)).toInt = arF Fs f p := by rw [eu, ha.1 9 (by decide)]; rfl
          rw [har]; have q := T_add (rfl : (F 9 (Int32.toNatClampNeg up)).toInt = (F 9 (Int32.toNatClampNeg up)).toInt) (show (1 : Int32).toInt = 1 from rfl) (by omega); omega
      refine m_iast 9 hS_3 rfl (N := 880) rfl ((by exact vin_T (rfl : iw.toInt = iw.toInt) (by omega) (by omega))) dX12_laysOut_189 (fun f_4 hS_4q => ?_)
      have hS_4 : mS cy m a f0 n z (va_up (va_up (va_up (va_up F 7 (upd (F 7) (Int32.toNatClampNeg iw) kd)) 8 (upd (F 8) (Int32.toNatClampNeg iw) ((F 77) (Int32.toNatClampNeg nd)))) 10 (upd (F 10) (Int32.toNatClampNeg iw) up)) 9 (upd (F 9) (Int32.toNatClampNeg iw) ar)) G f_4 := hS_4q
      refine gz_aload_n dX12_laysOut_190 rfl rfl ?_
      refine mg_38 hS_4 dX12_laysOut_191 ?_
      refine gz_iload dX12_laysOut_194 rfl ?_
      refine gz_aload_n dX12_laysOut_196 rfl rfl ?_
      refine mg_50 hS_4 dX12_laysOut_197 ?_
      refine gz_iload_n dX12_laysOut_200 rfl rfl ?_
      refine m_iald 17 hS_4 rfl (N := 22) rfl ((by exact vin_T (rfl : x2.toInt = x2.toInt) (by omega) (by omega))) dX12_laysOut_201 ?_
      refine gz_ev (w := .int ((F 17) (Int32.toNatClampNeg x2))) rfl ?_
      refine m_iast 13 hS_4 rfl (N := 880) rfl ((by exact vin_T (rfl : iw.toInt = iw.toInt) (by omega) (by omega))) dX12_laysOut_202 (fun f_5 hS_5q => ?_)
      have hS_5 : mS cy m a f0 n z (va_up (va_up (va_up (va_up (va_up F 7 (upd (F 7) (Int32.toNatClampNeg iw) kd)) 8 (upd (F 8) (Int32.toNatClampNeg iw) ((F 77) (Int32.toNatClampNeg nd)))) 10 (upd (F 10) (Int32.toNatClampNeg iw) up)) 9 (upd (F 9) (Int32.toNatClampNeg iw) ar)) 13 (upd (F 13) (Int32.toNatClampNeg iw) ((F 17) (Int32.toNatClampNeg x2)))) G f_5 := hS_5q
      refine gz_aload_n dX12_laysOut_203 rfl rfl ?_
      refine mg_41 hS_5 dX12_laysOut_204 ?_
      refine gz_iload dX12_laysOut_207 rfl ?_
      refine gz_aload_n dX12_laysOut_209 rfl rfl ?_
      refine mg_50 hS_5 dX12_laysOut_210 ?_
      refine gz_iload_n dX12_laysOut_213 rfl rfl ?_
      refine m_iald 17 hS_5 rfl (N := 22) rfl ((by exact vin_T (rfl : x2.toInt = x2.toInt) (by omega) (by omega))) dX12_laysOut_214 ?_
      refine gz_ev (w := .int ((F 17) (Int32.toNatClampNeg x2))) rfl ?_
      refine m_iast 14 hS_5 rfl (N := 880) rfl ((by exact vin_T (rfl : iw.toInt = iw.toInt) (by omega) (by omega))) dX12_laysOut_215 (fun f_6 hS_6q => ?_)
      have hS_6 : mS cy m a f0 n z (va_up (va_up (va_up (va_up (va_up (va_up F 7 (upd (F 7) (Int32.toNatClampNeg iw) kd)) 8 (upd (F 8) (Int32.toNatClampNeg iw) ((F 77) (Int32.toNatClampNeg nd)))) 10 (upd (F 10) (Int32.toNatClampNeg iw) up)) 9 (upd (F 9) (Int32.toNatClampNeg iw) ar)) 13 (upd (F 13) (Int32.toNatClampNeg iw) ((F 17) (Int32.toNatClampNeg x2)))) 14 (upd (F 14) (Int32.toNatClampNeg iw) ((F 17) (Int32.toNatClampNeg x2)))) G f_6 := hS_6q
      refine gz_aload_n dX12_laysOut_216 rfl rfl ?_
      refine mg_44 hS_6 dX12_laysOut_217 ?_
      refine gz_iload dX12_laysOut_220 rfl ?_
      refine gz_aload_n dX12_laysOut_222 rfl rfl ?_
      refine mg_50 hS_6 dX12_laysOut_223 ?_
      refine gz_iload_n dX12_laysOut_226 rfl rfl ?_
      refine m_iald 17 hS_6 rfl (N := 22) rfl ((by exact vin_T (rfl : x2.toInt = x2.toInt) (by omega) (by omega))) dX12_laysOut_227 ?_
      refine gz_ev (w := .int ((F 17) (Int32.toNatClampNeg x2))) rfl ?_
      refine m_iast 15 hS_6 rfl (N := 880) rfl ((by exact vin_T (rfl : iw.toInt = iw.toInt) (by omega) (by omega))) dX12_laysOut_228 (fun f_7 hS_7q => ?_)
      have hS_7 : mS cy m a f0 n z (va_up (va_up (va_up (va_up (va_up (va_up (va_up F 7 (upd (F 7) (Int32.toNatClampNeg iw) kd)) 8 (upd (F 8) (Int32.toNatClampNeg iw) ((F 77) (Int32.toNatClampNeg nd)))) 10 (upd (F 10) (Int32.toNatClampNeg iw) up)) 9 (upd (F 9) (Int32.toNatClampNeg iw) ar)) 13 (upd (F 13) (Int32.toNatClampNeg iw) ((F 17) (Int32.toNatClampNeg x2)))) 14 (upd (F 14) (Int32.toNatClampNeg iw) ((F 17) (Int32.toNatClampNeg x2)))) 15 (upd (F 15) (Int32.toNatClampNeg iw) ((F 17) (Int32.toNatClampNeg x2)))) G f_7 := hS_7q
      refine gz_aload_n dX12_laysOut_229 rfl rfl ?_
      refine mg_20 hS_7 dX12_laysOut_230 ?_
      refine gz_iload dX12_laysOut_233 rfl ?_
      refine m_iald 7 hS_7 rfl (N := 880) rfl ((by exact vin_T (rfl : iw.toInt = iw.toInt) (by omega) (by omega))) dX12_laysOut_235 ?_
      refine gz_ev (w := .int ((upd (F 7) (Int32.toNatClampNeg iw) kd) (Int32.toNatClampNeg iw))) rfl ?_
      refine gz_ev (w := .int kd) (congrArg Value.int (by rw [updE, if_pos rfl])) ?_
      refine gz_if_eq (tgt := 26) dX12_laysOut_236 (by decide) (fun c_236 => ?_) (fun c_236 => ?_)
      ·
        try simp only [mIn_0, lgc_lt, lgc_gt, lgc_le, lgc_ge, lgc_eq] at c_236
        try simp only [fl_lt, fl_le, fl_eq, fL_w, fL_lt, fL_le, tm1, tm10k, tm9, tm99, Int32.reduceToInt, Int64.reduceToInt, Int.not_lt, Int.not_le] at c_236
        have hxx : fx [] [] [7, 8, 9, 10, 13, 14, 15] [] n z F G n z (va_up (va_up (va_up (va_up (va_up (va_up (va_up F 7 (upd (F 7) (Int32.toNatClampNeg iw) kd)) 8 (upd (F 8) (Int32.toNatClampNeg iw) ((F 77) (Int32.toNatClampNeg nd)))) 10 (upd (F 10) (Int32.toNatClampNeg iw) up)) 9 (upd (F 9) (Int32.toNatClampNeg iw) ar)) 13 (upd (F 13) (Int32.toNatClampNeg iw) ((F 17) (Int32.toNatClampNeg x2)))) 14 (upd (F 14) (Int32.toNatClampNeg iw) ((F 17) (Int32.toNatClampNeg x2)))) 15 (upd (F 15) (Int32.toNatClampNeg iw) ((F 17) (Int32.toNatClampNeg x2)))) G := (fx_F (fx_F (fx_F (fx_F (fx_F (fx_F (fx_F fx_rf (by decide)) (by decide)) (by decide)) (by decide)) (by decide)) (by decide)) (by decide))
        have s7_ : (va_up (va_up (va_up (va_up (va_up (va_up (va_up F 7 (upd (F 7) (Int32.toNatClampNeg iw) kd)) 8 (upd (F 8) (Int32.toNatClampNeg iw) ((F 77) (Int32.toNatClampNeg nd)))) 10 (upd (F 10) (Int32.toNatClampNeg iw) up)) 9 (upd (F 9) (Int32.toNatClampNeg iw) ar)) 13 (upd (F 13) (Int32.toNatClampNeg iw) ((F 17) (Int32.toNatClampNeg x2)))) 14 (upd (F 14) (Int32.toNatClampNeg iw) ((F 17) (Int32.toNatClampNeg x2)))) 15 (upd (F 15) (Int32.toNatClampNeg iw) ((F 17) (Int32.toNatClampNeg x2)))) 7 = (upd (F 7) (Int32.toNatClampNeg iw) kd) := rfl
        have s8_ : (va_up (va_up (va_up (va_up (va_up (va_up (va_up F 7 (upd (F 7) (Int32.toNatClampNeg iw) kd)) 8 (upd (F 8) (Int32.toNatClampNeg iw) ((F 77) (Int32.toNatClampNeg nd)))) 10 (upd (F 10) (Int32.toNatClampNeg iw) up)) 9 (upd (F 9) (Int32.toNatClampNeg iw) ar)) 13 (upd (F 13) (Int32.toNatClampNeg iw) ((F 17) (Int32.toNatClampNeg x2)))) 14 (upd (F 14) (Int32.toNatClampNeg iw) ((F 17) (Int32.toNatClampNeg x2)))) 15 (upd (F 15) (Int32.toNatClampNeg iw) ((F 17) (Int32.toNatClampNeg x2)))) 8 = (upd (F 8) (Int32.toNatClampNeg iw) ((F 77) (Int32.toNatClampNeg nd))) := rfl
        have s9_ : (va_up (va_up (va_up (va_up (va_up (va_up (va_up F 7 (upd (F 7) (Int32.toNatClampNeg iw) kd)) 8 (upd (F 8) (Int32.toNatClampNeg iw) ((F 77) (Int32.toNatClampNeg nd)))) 10 (upd (F 10) (Int32.toNatClampNeg iw) up)) 9 (upd (F 9) (Int32.toNatClampNeg iw) ar)) 13 (upd (F 13) (Int32.toNatClampNeg iw) ((F 17) (Int32.toNatClampNeg x2)))) 14 (upd (F 14) (Int32.toNatClampNeg iw) ((F 17) (Int32.toNatClampNeg x2)))) 15 (upd (F 15) (Int32.toNatClampNeg iw) ((F 17) (Int32.toNatClampNeg x2)))) 9 = (upd (F 9) (Int32.toNatClampNeg iw) ar) := rfl
        have s10_ : (va_up (va_up (va_up (va_up (va_up (va_up (va_up F 7 (upd (F 7) (Int32.toNatClampNeg iw) kd)) 8 (upd (F 8) (Int32.toNatClampNeg iw) ((F 77) (Int32.toNatClampNeg nd)))) 10 (upd (F 10) (Int32.toNatClampNeg iw) up)) 9 (upd (F 9) (Int32.toNatClampNeg iw) ar)) 13 (upd (F 13) (Int32.toNatClampNeg iw) ((F 17) (Int32.toNatClampNeg x2)))) 14 (upd (F 14) (Int32.toNatClampNeg iw) ((F 17) (Int32.toNatClampNeg x2)))) 15 (upd (F 15) (Int32.toNatClampNeg iw) ((F 17) (Int32.toNatClampNeg x2)))) 10 = (upd (F 10) (Int32.toNatClampNeg iw) up) := rfl
        have s13_ : (va_up (va_up (va_up (va_up (va_up (va_up (va_up F 7 (upd (F 7) (Int32.toNatClampNeg iw) kd)) 8 (upd (F 8) (Int32.toNatClampNeg iw) ((F 77) (Int32.toNatClampNeg nd)))) 10 (upd (F 10) (Int32.toNatClampNeg iw) up)) 9 (upd (F 9) (Int32.toNatClampNeg iw) ar)) 13 (upd (F 13) (Int32.toNatClampNeg iw) ((F 17) (Int32.toNatClampNeg x2)))) 14 (upd (F 14) (Int32.toNatClampNeg iw) ((F 17) (Int32.toNatClampNeg x2)))) 15 (upd (F 15) (Int32.toNatClampNeg iw) ((F 17) (Int32.toNatClampNeg x2)))) 13 = (upd (F 13) (Int32.toNatClampNeg iw) ((F 17) (Int32.toNatClampNeg x2))) := rfl
        have s14_ : (va_up (va_up (va_up (va_up (va_up (va_up (va_up F 7 (upd (F 7) (Int32.toNatClampNeg iw) kd)) 8 (upd (F 8) (Int32.toNatClampNeg iw) ((F 77) (Int32.toNatClampNeg nd)))) 10 (upd (F 10) (Int32.toNatClampNeg iw) up)) 9 (upd (F 9) (Int32.toNatClampNeg iw) ar)) 13 (upd (F 13) (Int32.toNatClampNeg iw) ((F 17) (Int32.toNatClampNeg x2)))) 14 (upd (F 14) (Int32.toNatClampNeg iw) ((F 17) (Int32.toNatClampNeg x2)))) 15 (upd (F 15) (Int32.toNatClampNeg iw) ((F 17) (Int32.toNatClampNeg x2)))) 14 = (upd (F 14) (Int32.toNatClampNeg iw) ((F 17) (Int32.toNatClampNeg x2))) := rfl
        have s15_ : (va_up (va_up (va_up (va_up (va_up (va_up (va_up F 7 (upd (F 7) (Int32.toNatClampNeg iw) kd)) 8 (upd (F 8) (Int32.toNatClampNeg iw) ((F 77) (Int32.toNatClampNeg nd)))) 10 (upd (F 10) (Int32.toNatClampNeg iw) up)) 9 (upd (F 9) (Int32.toNatClampNeg iw) ar)) 13 (upd (F 13) (Int32.toNatClampNeg iw) ((F 17) (Int32.toNatClampNeg x2)))) 14 (upd (F 14) (Int32.toNatClampNeg iw) ((F 17) (Int32.toNatClampNeg x2)))) 15 (upd (F 15) (Int32.toNatClampNeg iw) ((F 17) (Int32.toNatClampNeg x2)))) 15 = (upd (F 15) (Int32.toNatClampNeg iw) ((F 17) (Int32.toNatClampNeg x2))) := rfl
        have s17_ : (va_up (va_up (va_up (va_up (va_up (va_up (va_up F 7 (upd (F 7) (Int32.toNatClampNeg iw) kd)) 8 (upd (F 8) (Int32.toNatClampNeg iw) ((F 77) (Int32.toNatClampNeg nd)))) 10 (upd (F 10) (Int32.toNatClampNeg iw) up)) 9 (upd (F 9) (Int32.toNatClampNeg iw) ar)) 13 (upd (F 13) (Int32.toNatClampNeg iw) ((F 17) (Int32.toNatClampNeg x2)))) 14 (upd (F 14) (Int32.toNatClampNeg iw) ((F 17) (Int32.toNatClampNeg x2)))) 15 (upd (F 15) (Int32.toNatClampNeg iw) ((F 17) (Int32.toNatClampNeg x2)))) 17 = (F 17) := rfl
        have s19_ : (va_up (va_up (va_up (va_up (va_up (va_up (va_up F 7 (upd (F 7) (Int32.toNatClampNeg iw) kd)) 8 (upd (F 8) (Int32.toNatClampNeg iw) ((F 77) (Int32.toNatClampNeg nd)))) 10 (upd (F 10) (Int32.toNatClampNeg iw) up)) 9 (upd (F 9) (Int32.toNatClampNeg iw) ar)) 13 (upd (F 13) (Int32.toNatClampNeg iw) ((F 17) (Int32.toNatClampNeg x2)))) 14 (upd (F 14) (Int32.toNatClampNeg iw) ((F 17) (Int32.toNatClampNeg x2)))) 15 (upd (F 15) (Int32.toNatClampNeg iw) ((F 17) (Int32.toNatClampNeg x2)))) 19 = (F 19) := rfl
        have off : ∀ r, r ∈ [7, 9, 10, 13, 14, 15] → ∀ i, i ≠ 40 * f + W → (va_up (va_up (va_up (va_up (va_up (va_up (va_up F 7 (upd (F 7) (Int32.toNatClampNeg iw) kd)) 8 (upd (F 8) (Int32.toNatClampNeg iw) ((F 77) (Int32.toNatClampNeg nd)))) 10 (upd (F 10) (Int32.toNatClampNeg iw) up)) 9 (upd (F 9) (Int32.toNatClampNeg iw) ar)) 13 (upd (F 13) (Int32.toNatClampNeg iw) ((F 17) (Int32.toNatClampNeg x2)))) 14 (upd (F 14) (Int32.toNatClampNeg iw) ((F 17) (Int32.toNatClampNeg x2)))) 15 (upd (F 15) (Int32.toNatClampNeg iw) ((F 17) (Int32.toNatClampNeg x2)))) r i = F r i := by
          intro r hr i hi
          rw [← eci] at hi
          simp only [List.mem_cons, List.not_mem_nil, or_false] at hr
          rcases hr with rfl | rfl | rfl | rfl | rfl | rfl
          · rw [s7_, updE, if_neg hi]
          · rw [s9_, updE, if_neg hi]
          · rw [s10_, updE, if_neg hi]
          · rw [s13_, updE, if_neg hi]
          · rw [s14_, updE, if_neg hi]
          · rw [s15_, updE, if_neg hi]
        have v7 : (va_up (va_up (va_up (va_up (va_up (va_up (va_up F 7 (upd (F 7) (Int32.toNatClampNeg iw) kd)) 8 (upd (F 8) (Int32.toNatClampNeg iw) ((F 77) (Int32.toNatClampNeg nd)))) 10 (upd (F 10) (Int32.toNatClampNeg iw) up)) 9 (upd (F 9) (Int32.toNatClampNeg iw) ar)) 13 (upd (F 13) (Int32.toNatClampNeg iw) ((F 17) (Int32.toNatClampNeg x2)))) 14 (upd (F 14) (Int32.toNatClampNeg iw) ((F 17) (Int32.toNatClampNeg x2)))) 15 (upd (F 15) (Int32.toNatClampNeg iw) ((F 17) (Int32.toNatClampNeg x2)))) 7 (40 * f + W) = kd := by rw [s7_, ← eci, updE, if_pos rfl]
        have v13 : (va_up (va_up (va_up (va_up (va_up (va_up (va_up F 7 (upd (F 7) (Int32.toNatClampNeg iw) kd)) 8 (upd (F 8) (Int32.toNatClampNeg iw) ((F 77) (Int32.toNatClampNeg nd)))) 10 (upd (F 10) (Int32.toNatClampNeg iw) up)) 9 (upd (F 9) (Int32.toNatClampNeg iw) ar)) 13 (upd (F 13) (Int32.toNatClampNeg iw) ((F 17) (Int32.toNatClampNeg x2)))) 14 (upd (F 14) (Int32.toNatClampNeg iw) ((F 17) (Int32.toNatClampNeg x2)))) 15 (upd (F 15) (Int32.toNatClampNeg iw) ((F 17) (Int32.toNatClampNeg x2)))) 13 (40 * f + W) = F 17 (Int32.toNatClampNeg x2) := by rw [s13_, ← eci, updE, if_pos rfl]
        have v14 : (va_up (va_up (va_up (va_up (va_up (va_up (va_up F 7 (upd (F 7) (Int32.toNatClampNeg iw) kd)) 8 (upd (F 8) (Int32.toNatClampNeg iw) ((F 77) (Int32.toNatClampNeg nd)))) 10 (upd (F 10) (Int32.toNatClampNeg iw) up)) 9 (upd (F 9) (Int32.toNatClampNeg iw) ar)) 13 (upd (F 13) (Int32.toNatClampNeg iw) ((F 17) (Int32.toNatClampNeg x2)))) 14 (upd (F 14) (Int32.toNatClampNeg iw) ((F 17) (Int32.toNatClampNeg x2)))) 15 (upd (F 15) (Int32.toNatClampNeg iw) ((F 17) (Int32.toNatClampNeg x2)))) 14 (40 * f + W) = F 17 (Int32.toNatClampNeg x2) := by rw [s14_, ← eci, updE, if_pos rfl]
        have v15 : (va_up (va_up (va_up (va_up (va_up (va_up (va_up F 7 (upd (F 7) (Int32.toNatClampNeg iw) kd)) 8 (upd (F 8) (Int32.toNatClampNeg iw) ((F 77) (Int32.toNatClampNeg nd)))) 10 (upd (F 10) (Int32.toNatClampNeg iw) up)) 9 (upd (F 9) (Int32.toNatClampNeg iw) ar)) 13 (upd (F 13) (Int32.toNatClampNeg iw) ((F 17) (Int32.toNatClampNeg x2)))) 14 (upd (F 14) (Int32.toNatClampNeg iw) ((F 17) (Int32.toNatClampNeg x2)))) 15 (upd (F 15) (Int32.toNatClampNeg iw) ((F 17) (Int32.toNatClampNeg x2)))) 15 (40 * f + W) = F 17 (Int32.toNatClampNeg x2) := by rw [s15_, ← eci, updE, if_pos rfl]
        have v17 : (F 17 (Int32.toNatClampNeg x2)).toInt = (Fs 17 f).toInt := by rw [ecf, ha.1 17 (by decide)]
        have hb : LYb Fs (va_up (va_up (va_up (va_up (va_up (va_up (va_up F 7 (upd (F 7) (Int32.toNatClampNeg iw) kd)) 8 (upd (F 8) (Int32.toNatClampNeg iw) ((F 77) (Int32.toNatClampNeg nd)))) 10 (upd (F 10) (Int32.toNatClampNeg iw) up)) 9 (upd (F 9) (Int32.toNatClampNeg iw) ar)) 13 (upd (F 13) (Int32.toNatClampNeg iw) ((F 17) (Int32.toNatClampNeg x2)))) 14 (upd (F 14) (Int32.toNatClampNeg iw) ((F 17) (Int32.toNatClampNeg x2)))) 15 (upd (F 15) (Int32.toNatClampNeg iw) ((F 17) (Int32.toNatClampNeg x2)))) f W T a_ := LYb_of ha (fun r hr => hxx.2.2.1 r hr) off (by rw [s10_, ← eci, updE, if_pos rfl, c3.2]) (by unfold arF; rw [s9_, ← eci, updE, if_pos rfl]; exact qar)
        have hA9 : rAll (va_up (va_up (va_up (va_up (va_up (va_up (va_up F 7 (upd (F 7) (Int32.toNatClampNeg iw) kd)) 8 (upd (F 8) (Int32.toNatClampNeg iw) ((F 77) (Int32.toNatClampNeg nd)))) 10 (upd (F 10) (Int32.toNatClampNeg iw) up)) 9 (upd (F 9) (Int32.toNatClampNeg iw) ar)) 13 (upd (F 13) (Int32.toNatClampNeg iw) ((F 17) (Int32.toNatClampNeg x2)))) 14 (upd (F 14) (Int32.toNatClampNeg iw) ((F 17) (Int32.toNatClampNeg x2)))) 15 (upd (F 15) (Int32.toNatClampNeg iw) ((F 17) (Int32.toNatClampNeg x2)))) := by
          intro q hq
          obtain ⟨q1, q2, q3, q4⟩ := hA q hq
          have q40 := c5
          rw [s13_, s14_, s15_, s19_]
          refine ⟨?_, ?_, ?_, q4⟩ <;> (rw [updE]; split <;> omega)
        have hJ : LYJ F0 n (va_up (va_up (va_up (va_up (va_up (va_up (va_up F 7 (upd (F 7) (Int32.toNatClampNeg iw) kd)) 8 (upd (F 8) (Int32.toNatClampNeg iw) ((F 77) (Int32.toNatClampNeg nd)))) 10 (upd (F 10) (Int32.toNatClampNeg iw) up)) 9 (upd (F 9) (Int32.toNatClampNeg iw) ar)) 13 (upd (F 13) (Int32.toNatClampNeg iw) ((F 17) (Int32.toNatClampNeg x2)))) 14 (upd (F 14) (Int32.toNatClampNeg iw) ((F 17) (Int32.toNatClampNeg x2)))) 15 (upd (F 15) (Int32.toNatClampNeg iw) ((F 17) (Int32.toNatClampNeg x2)))) f fo Wn (W + 1) T := LYJ_leaf hf.2.2.1 hf.2.2.2 hc hb h83 hA9 (by rw [v7]; omega) (by rw [v13, v14, v15]; exact ⟨rfl, rfl⟩)
        refine gz_sub (lv' := [(0, .ref m), (1, .int x1), (2, .int x2)]) (by simp [List.lookup]) ?_
        exact hq_ T _ _ _ _ _ hS_7 (fx_F (fx_F (fx_F (fx_F (fx_F (fx_F (fx_F hx (by decide)) (by decide)) (by decide)) (by decide)) (by decide)) (by decide)) (by decide)) hJ
      ·
        try simp only [mIn_0, lgc_lt, lgc_gt, lgc_le, lgc_ge, lgc_eq] at c_236
        try simp only [fl_lt, fl_le, fl_eq, fL_w, fL_lt, fL_le, tm1, tm10k, tm9, tm99, Int32.reduceToInt, Int64.reduceToInt, Int.not_lt, Int.not_le] at c_236
        refine gz_aload_n dX12_laysOut_239 rfl rfl ?_
        refine mg_20 hS_7 dX12_laysOut_240 ?_
        refine gz_iload dX12_laysOut_243 rfl ?_
        refine m_iald 7 hS_7 rfl (N := 880) rfl ((by exact vin_T (rfl : iw.toInt = iw.toInt) (by omega) (by omega))) dX12_laysOut_245 ?_
        refine gz_ev (w := .int ((upd (F 7) (Int32.toNatClampNeg iw) kd) (Int32.toNatClampNeg iw))) rfl ?_
        refine gz_ev (w := .int kd) (congrArg Value.int (by rw [updE, if_pos rfl])) ?_
        refine gz_iconst (v := 1) dX12_laysOut_246 (by decide) ?_
        refine gz_icmp_ne (tgt := 253) dX12_laysOut_247 (by decide) (fun c_247 => ?_) (fun c_247 => ?_)
        ·
          try simp only [mIn_0, lgc_lt, lgc_gt, lgc_le, lgc_ge, lgc_eq] at c_247
          try simp only [fl_lt, fl_le, fl_eq, fL_w, fL_lt, fL_le, tm1, tm10k, tm9, tm99, Int32.reduceToInt, Int64.reduceToInt, Int.not_lt, Int.not_le] at c_247
          have hxx : fx [] [] [7, 8, 9, 10, 13, 14, 15] [] n z F G n z (va_up (va_up (va_up (va_up (va_up (va_up (va_up F 7 (upd (F 7) (Int32.toNatClampNeg iw) kd)) 8 (upd (F 8) (Int32.toNatClampNeg iw) ((F 77) (Int32.toNatClampNeg nd)))) 10 (upd (F 10) (Int32.toNatClampNeg iw) up)) 9 (upd (F 9) (Int32.toNatClampNeg iw) ar)) 13 (upd (F 13) (Int32.toNatClampNeg iw) ((F 17) (Int32.toNatClampNeg x2)))) 14 (upd (F 14) (Int32.toNatClampNeg iw) ((F 17) (Int32.toNatClampNeg x2)))) 15 (upd (F 15) (Int32.toNatClampNeg iw) ((F 17) (Int32.toNatClampNeg x2)))) G := (fx_F (fx_F (fx_F (fx_F (fx_F (fx_F (fx_F fx_rf (by decide)) (by decide)) (by decide)) (by decide)) (by decide)) (by decide)) (by decide))
          have s7_ : (va_up (va_up (va_up (va_up (va_up (va_up (va_up F 7 (upd (F 7) (Int32.toNatClampNeg iw) kd)) 8 (upd (F 8) (Int32.toNatClampNeg iw) ((F 77) (Int32.toNatClampNeg nd)))) 10 (upd (F 10) (Int32.toNatClampNeg iw) up)) 9 (upd (F 9) (Int32.toNatClampNeg iw) ar)) 13 (upd (F 13) (Int32.toNatClampNeg iw) ((F 17) (Int32.toNatClampNeg x2)))) 14 (upd (F 14) (Int32.toNatClampNeg iw) ((F 17) (Int32.toNatClampNeg x2)))) 15 (upd (F 15) (Int32.toNatClampNeg iw) ((F 17) (Int32.toNatClampNeg x2)))) 7 = (upd (F 7) (Int32.toNatClampNeg iw) kd) := rfl
          have s8_ : (va_up (va_up (va_up (va_up (va_up (va_up (va_up F 7 (upd (F 7) (Int32.toNatClampNeg iw) kd)) 8 (upd (F 8) (Int32.toNatClampNeg iw) ((F 77) (Int32.toNatClampNeg nd)))) 10 (upd (F 10) (Int32.toNatClampNeg iw) up)) 9 (upd (F 9) (Int32.toNatClampNeg iw) ar)) 13 (upd (F 13) (Int32.toNatClampNeg iw) ((F 17) (Int32.toNatClampNeg x2)))) 14 (upd (F 14) (Int32.toNatClampNeg iw) ((F 17) (Int32.toNatClampNeg x2)))) 15 (upd (F 15) (Int32.toNatClampNeg iw) ((F 17) (Int32.toNatClampNeg x2)))) 8 = (upd (F 8) (Int32.toNatClampNeg iw) ((F 77) (Int32.toNatClampNeg nd))) := rfl
          have s9_ : (va_up (va_up (va_up (va_up (va_up (va_up (va_up F 7 (upd (F 7) (Int32.toNatClampNeg iw) kd)) 8 (upd (F 8) (Int32.toNatClampNeg iw) ((F 77) (Int32.toNatClampNeg nd)))) 10 (upd (F 10) (Int32.toNatClampNeg iw) up)) 9 (upd (F 9) (Int32.toNatClampNeg iw) ar)) 13 (upd (F 13) (Int32.toNatClampNeg iw) ((F 17) (Int32.toNatClampNeg x2)))) 14 (upd (F 14) (Int32.toNatClampNeg iw) ((F 17) (Int32.toNatClampNeg x2)))) 15 (upd (F 15) (Int32.toNatClampNeg iw) ((F 17) (Int32.toNatClampNeg x2)))) 9 = (upd (F 9) (Int32.toNatClampNeg iw) ar) := rfl
          have s10_ : (va_up (va_up (va_up (va_up (va_up (va_up (va_up F 7 (upd (F 7) (Int32.toNatClampNeg iw) kd)) 8 (upd (F 8) (Int32.toNatClampNeg iw) ((F 77) (Int32.toNatClampNeg nd)))) 10 (upd (F 10) (Int32.toNatClampNeg iw) up)) 9 (upd (F 9) (Int32.toNatClampNeg iw) ar)) 13 (upd (F 13) (Int32.toNatClampNeg iw) ((F 17) (Int32.toNatClampNeg x2)))) 14 (upd (F 14) (Int32.toNatClampNeg iw) ((F 17) (Int32.toNatClampNeg x2)))) 15 (upd (F 15) (Int32.toNatClampNeg iw) ((F 17) (Int32.toNatClampNeg x2)))) 10 = (upd (F 10) (Int32.toNatClampNeg iw) up) := rfl
          have s13_ : (va_up (va_up (va_up (va_up (va_up (va_up (va_up F 7 (upd (F 7) (Int32.toNatClampNeg iw) kd)) 8 (upd (F 8) (Int32.toNatClampNeg iw) ((F 77) (Int32.toNatClampNeg nd)))) 10 (upd (F 10) (Int32.toNatClampNeg iw) up)) 9 (upd (F 9) (Int32.toNatClampNeg iw) ar)) 13 (upd (F 13) (Int32.toNatClampNeg iw) ((F 17) (Int32.toNatClampNeg x2)))) 14 (upd (F 14) (Int32.toNatClampNeg iw) ((F 17) (Int32.toNatClampNeg x2)))) 15 (upd (F 15) (Int32.toNatClampNeg iw) ((F 17) (Int32.toNatClampNeg x2)))) 13 = (upd (F 13) (Int32.toNatClampNeg iw) ((F 17) (Int32.toNatClampNeg x2))) := rfl
          have s14_ : (va_up (va_up (va_up (va_up (va_up (va_up (va_up F 7 (upd (F 7) (Int32.toNatClampNeg iw) kd)) 8 (upd (F 8) (Int32.toNatClampNeg iw) ((F 77) (Int32.toNatClampNeg nd)))) 10 (upd (F 10) (Int32.toNatClampNeg iw) up)) 9 (upd (F 9) (Int32.toNatClampNeg iw) ar)) 13 (upd (F 13) (Int32.toNatClampNeg iw) ((F 17) (Int32.toNatClampNeg x2)))) 14 (upd (F 14) (Int32.toNatClampNeg iw) ((F 17) (Int32.toNatClampNeg x2)))) 15 (upd (F 15) (Int32.toNatClampNeg iw) ((F 17) (Int32.toNatClampNeg x2)))) 14 = (upd (F 14) (Int32.toNatClampNeg iw) ((F 17) (Int32.toNatClampNeg x2))) := rfl
          have s15_ : (va_up (va_up (va_up (va_up (va_up (va_up (va_up F 7 (upd (F 7) (Int32.toNatClampNeg iw) kd)) 8 (upd (F 8) (Int32.toNatClampNeg iw) ((F 77) (Int32.toNatClampNeg nd)))) 10 (upd (F 10) (Int32.toNatClampNeg iw) up)) 9 (upd (F 9) (Int32.toNatClampNeg iw) ar)) 13 (upd (F 13) (Int32.toNatClampNeg iw) ((F 17) (Int32.toNatClampNeg x2)))) 14 (upd (F 14) (Int32.toNatClampNeg iw) ((F 17) (Int32.toNatClampNeg x2)))) 15 (upd (F 15) (Int32.toNatClampNeg iw) ((F 17) (Int32.toNatClampNeg x2)))) 15 = (upd (F 15) (Int32.toNatClampNeg iw) ((F 17) (Int32.toNatClampNeg x2))) := rfl
          have s17_ : (va_up (va_up (va_up (va_up (va_up (va_up (va_up F 7 (upd (F 7) (Int32.toNatClampNeg iw) kd)) 8 (upd (F 8) (Int32.toNatClampNeg iw) ((F 77) (Int32.toNatClampNeg nd)))) 10 (upd (F 10) (Int32.toNatClampNeg iw) up)) 9 (upd (F 9) (Int32.toNatClampNeg iw) ar)) 13 (upd (F 13) (Int32.toNatClampNeg iw) ((F 17) (Int32.toNatClampNeg x2)))) 14 (upd (F 14) (Int32.toNatClampNeg iw) ((F 17) (Int32.toNatClampNeg x2)))) 15 (upd (F 15) (Int32.toNatClampNeg iw) ((F 17) (Int32.toNatClampNeg x2)))) 17 = (F 17) := rfl
          have s19_ : (va_up (va_up (va_up (va_up (va_up (va_up (va_up F 7 (upd (F 7) (Int32.toNatClampNeg iw) kd)) 8 (upd (F 8) (Int32.toNatClampNeg iw) ((F 77) (Int32.toNatClampNeg nd)))) 10 (upd (F 10) (Int32.toNatClampNeg iw) up)) 9 (upd (F 9) (Int32.toNatClampNeg iw) ar)) 13 (upd (F 13) (Int32.toNatClampNeg iw) ((F 17) (Int32.toNatClampNeg x2)))) 14 (upd (F 14) (Int32.toNatClampNeg iw) ((F 17) (Int32.toNatClampNeg x2)))) 15 (upd (F 15) (Int32.toNatClampNeg iw) ((F 17) (Int32.toNatClampNeg x2)))) 19 = (F 19) := rfl
          have off : ∀ r, r ∈ [7, 9, 10, 13, 14, 15] → ∀ i, i ≠ 40 * f + W → (va_up (va_up (va_up (va_up (va_up (va_up (va_up F 7 (upd (F 7) (Int32.toNatClampNeg iw) kd)) 8 (upd (F 8) (Int32.toNatClampNeg iw) ((F 77) (Int32.toNatClampNeg nd)))) 10 (upd (F 10) (Int32.toNatClampNeg iw) up)) 9 (upd (F 9) (Int32.toNatClampNeg iw) ar)) 13 (upd (F 13) (Int32.toNatClampNeg iw) ((F 17) (Int32.toNatClampNeg x2)))) 14 (upd (F 14) (Int32.toNatClampNeg iw) ((F 17) (Int32.toNatClampNeg x2)))) 15 (upd (F 15) (Int32.toNatClampNeg iw) ((F 17) (Int32.toNatClampNeg x2)))) r i = F r i := by
            intro r hr i hi
            rw [← eci] at hi
            simp only [List.mem_cons, List.not_mem_nil, or_false] at hr
            rcases hr with rfl | rfl | rfl | rfl | rfl | rfl
            · rw [s7_, updE, if_neg hi]
            · rw [s9_, updE, if_neg hi]
            · rw [s10_, updE, if_neg hi]
            · rw [s13_, updE, if_neg hi]
            · rw [s14_, updE, if_neg hi]
            · rw [s15_, updE, if_neg hi]
          have v7 : (va_up (va_up (va_up (va_up (va_up (va_up (va_up F 7 (upd (F 7) (Int32.toNatClampNeg iw) kd)) 8 (upd (F 8) (Int32.toNatClampNeg iw) ((F 77) (Int32.toNatClampNeg nd)))) 10 (upd (F 10) (Int32.toNatClampNeg iw) up)) 9 (upd (F 9) (Int32.toNatClampNeg iw) ar)) 13 (upd (F 13) (Int32.toNatClampNeg iw) ((F 17) (Int32.toNatClampNeg x2)))) 14 (upd (F 14) (Int32.toNatClampNeg iw) ((F 17) (Int32.toNatClampNeg x2)))) 15 (upd (F 15) (Int32.toNatClampNeg iw) ((F 17) (Int32.toNatClampNeg x2)))) 7 (40 * f + W) = kd := by rw [s7_, ← eci, updE, if_pos rfl]
          have v13 : (va_up (va_up (va_up (va_up (va_up (va_up (va_up F 7 (upd (F 7) (Int32.toNatClampNeg iw) kd)) 8 (upd (F 8) (Int32.toNatClampNeg iw) ((F 77) (Int32.toNatClampNeg nd)))) 10 (upd (F 10) (Int32.toNatClampNeg iw) up)) 9 (upd (F 9) (Int32.toNatClampNeg iw) ar)) 13 (upd (F 13) (Int32.toNatClampNeg iw) ((F 17) (Int32.toNatClampNeg x2)))) 14 (upd (F 14) (Int32.toNatClampNeg iw) ((F 17) (Int32.toNatClampNeg x2)))) 15 (upd (F 15) (Int32.toNatClampNeg iw) ((F 17) (Int32.toNatClampNeg x2)))) 13 (40 * f + W) = F 17 (Int32.toNatClampNeg x2) := by rw [s13_, ← eci, updE, if_pos rfl]
          have v14 : (va_up (va_up (va_up (va_up (va_up (va_up (va_up F 7 (upd (F 7) (Int32.toNatClampNeg iw) kd)) 8 (upd (F 8) (Int32.toNatClampNeg iw) ((F 77) (Int32.toNatClampNeg nd)))) 10 (upd (F 10) (Int32.toNatClampNeg iw) up)) 9 (upd (F 9) (Int32.toNatClampNeg iw) ar)) 13 (upd (F 13) (Int32.toNatClampNeg iw) ((F 17) (Int32.toNatClampNeg x2)))) 14 (upd (F 14) (Int32.toNatClampNeg iw) ((F 17) (Int32.toNatClampNeg x2)))) 15 (upd (F 15) (Int32.toNatClampNeg iw) ((F 17) (Int32.toNatClampNeg x2)))) 14 (40 * f + W) = F 17 (Int32.toNatClampNeg x2) := by rw [s14_, ← eci, updE, if_pos rfl]
          have v15 : (va_up (va_up (va_up (va_up (va_up (va_up (va_up F 7 (upd (F 7) (Int32.toNatClampNeg iw) kd)) 8 (upd (F 8) (Int32.toNatClampNeg iw) ((F 77) (Int32.toNatClampNeg nd)))) 10 (upd (F 10) (Int32.toNatClampNeg iw) up)) 9 (upd (F 9) (Int32.toNatClampNeg iw) ar)) 13 (upd (F 13) (Int32.toNatClampNeg iw) ((F 17) (Int32.toNatClampNeg x2)))) 14 (upd (F 14) (Int32.toNatClampNeg iw) ((F 17) (Int32.toNatClampNeg x2)))) 15 (upd (F 15) (Int32.toNatClampNeg iw) ((F 17) (Int32.toNatClampNeg x2)))) 15 (40 * f + W) = F 17 (Int32.toNatClampNeg x2) := by rw [s15_, ← eci, updE, if_pos rfl]
          have v17 : (F 17 (Int32.toNatClampNeg x2)).toInt = (Fs 17 f).toInt := by rw [ecf, ha.1 17 (by decide)]
          have hb : LYb Fs (va_up (va_up (va_up (va_up (va_up (va_up (va_up F 7 (upd (F 7) (Int32.toNatClampNeg iw) kd)) 8 (upd (F 8) (Int32.toNatClampNeg iw) ((F 77) (Int32.toNatClampNeg nd)))) 10 (upd (F 10) (Int32.toNatClampNeg iw) up)) 9 (upd (F 9) (Int32.toNatClampNeg iw) ar)) 13 (upd (F 13) (Int32.toNatClampNeg iw) ((F 17) (Int32.toNatClampNeg x2)))) 14 (upd (F 14) (Int32.toNatClampNeg iw) ((F 17) (Int32.toNatClampNeg x2)))) 15 (upd (F 15) (Int32.toNatClampNeg iw) ((F 17) (Int32.toNatClampNeg x2)))) f W T a_ := LYb_of ha (fun r hr => hxx.2.2.1 r hr) off (by rw [s10_, ← eci, updE, if_pos rfl, c3.2]) (by unfold arF; rw [s9_, ← eci, updE, if_pos rfl]; exact qar)
          have hA9 : rAll (va_up (va_up (va_up (va_up (va_up (va_up (va_up F 7 (upd (F 7) (Int32.toNatClampNeg iw) kd)) 8 (upd (F 8) (Int32.toNatClampNeg iw) ((F 77) (Int32.toNatClampNeg nd)))) 10 (upd (F 10) (Int32.toNatClampNeg iw) up)) 9 (upd (F 9) (Int32.toNatClampNeg iw) ar)) 13 (upd (F 13) (Int32.toNatClampNeg iw) ((F 17) (Int32.toNatClampNeg x2)))) 14 (upd (F 14) (Int32.toNatClampNeg iw) ((F 17) (Int32.toNatClampNeg x2)))) 15 (upd (F 15) (Int32.toNatClampNeg iw) ((F 17) (Int32.toNatClampNeg x2)))) := by
            intro q hq
            obtain ⟨q1, q2, q3, q4⟩ := hA q hq
            have q40 := c5
            rw [s13_, s14_, s15_, s19_]
            refine ⟨?_, ?_, ?_, q4⟩ <;> (rw [updE]; split <;> omega)
          refine gz_sub (lv' := [(0, .ref m), (1, .int x1), (2, .int x2), (3, .int nd), (4, .int up), (5, .int iw)]) (by simp [List.lookup]) ?_
          exact l_X12_laysOutC hf hwi hc hq_ 1 _ _ _ _ _ hS_7 (fx_F (fx_F (fx_F (fx_F (fx_F (fx_F (fx_F hx (by decide)) (by decide)) (by decide)) (by decide)) (by decide)) (by decide)) (by decide)) h83 hA9 hb (v7.trans qkd) (by rw [← qkd]; omega) (by rw [v13]; exact v17) (by decide)
        ·
          try simp only [mIn_0, lgc_lt, lgc_gt, lgc_le, lgc_ge, lgc_eq] at c_247
          try simp only [fl_lt, fl_le, fl_eq, fL_w, fL_lt, fL_le, tm1, tm10k, tm9, tm99, Int32.reduceToInt, Int64.reduceToInt, Int.not_lt, Int.not_le] at c_247
          refine gz_goto (tgt := 26) dX12_laysOut_250 (by decide) ?_
          have hxx : fx [] [] [7, 8, 9, 10, 13, 14, 15] [] n z F G n z (va_up (va_up (va_up (va_up (va_up (va_up (va_up F 7 (upd (F 7) (Int32.toNatClampNeg iw) kd)) 8 (upd (F 8) (Int32.toNatClampNeg iw) ((F 77) (Int32.toNatClampNeg nd)))) 10 (upd (F 10) (Int32.toNatClampNeg iw) up)) 9 (upd (F 9) (Int32.toNatClampNeg iw) ar)) 13 (upd (F 13) (Int32.toNatClampNeg iw) ((F 17) (Int32.toNatClampNeg x2)))) 14 (upd (F 14) (Int32.toNatClampNeg iw) ((F 17) (Int32.toNatClampNeg x2)))) 15 (upd (F 15) (Int32.toNatClampNeg iw) ((F 17) (Int32.toNatClampNeg x2)))) G := (fx_F (fx_F (fx_F (fx_F (fx_F (fx_F (fx_F fx_rf (by decide)) (by decide)) (by decide)) (by decide)) (by decide)) (by decide)) (by decide))
          have s7_ : (va_up (va_up (va_up (va_up (va_up (va_up (va_up F 7 (upd (F 7) (Int32.toNatClampNeg iw) kd)) 8 (upd (F 8) (Int32.toNatClampNeg iw) ((F 77) (Int32.toNatClampNeg nd)))) 10 (upd (F 10) (Int32.toNatClampNeg iw) up)) 9 (upd (F 9) (Int32.toNatClampNeg iw) ar)) 13 (upd (F 13) (Int32.toNatClampNeg iw) ((F 17) (Int32.toNatClampNeg x2)))) 14 (upd (F 14) (Int32.toNatClampNeg iw) ((F 17) (Int32.toNatClampNeg x2)))) 15 (upd (F 15) (Int32.toNatClampNeg iw) ((F 17) (Int32.toNatClampNeg x2)))) 7 = (upd (F 7) (Int32.toNatClampNeg iw) kd) := rfl
          have s8_ : (va_up (va_up (va_up (va_up (va_up (va_up (va_up F 7 (upd (F 7) (Int32.toNatClampNeg iw) kd)) 8 (upd (F 8) (Int32.toNatClampNeg iw) ((F 77) (Int32.toNatClampNeg nd)))) 10 (upd (F 10) (Int32.toNatClampNeg iw) up)) 9 (upd (F 9) (Int32.toNatClampNeg iw) ar)) 13 (upd (F 13) (Int32.toNatClampNeg iw) ((F 17) (Int32.toNatClampNeg x2)))) 14 (upd (F 14) (Int32.toNatClampNeg iw) ((F 17) (Int32.toNatClampNeg x2)))) 15 (upd (F 15) (Int32.toNatClampNeg iw) ((F 17) (Int32.toNatClampNeg x2)))) 8 = (upd (F 8) (Int32.toNatClampNeg iw) ((F 77) (Int32.toNatClampNeg nd))) := rfl
          have s9_ : (va_up (va_up (va_up (va_up (va_up (va_up (va_up F 7 (upd (F 7) (Int32.toNatClampNeg iw) kd)) 8 (upd (F 8) (Int32.toNatClampNeg iw) ((F 77) (Int32.toNatClampNeg nd)))) 10 (upd (F 10) (Int32.toNatClampNeg iw) up)) 9 (upd (F 9) (Int32.toNatClampNeg iw) ar)) 13 (upd (F 13) (Int32.toNatClampNeg iw) ((F 17) (Int32.toNatClampNeg x2)))) 14 (upd (F 14) (Int32.toNatClampNeg iw) ((F 17) (Int32.toNatClampNeg x2)))) 15 (upd (F 15) (Int32.toNatClampNeg iw) ((F 17) (Int32.toNatClampNeg x2)))) 9 = (upd (F 9) (Int32.toNatClampNeg iw) ar) := rfl
          have s10_ : (va_up (va_up (va_up (va_up (va_up (va_up (va_up F 7 (upd (F 7) (Int32.toNatClampNeg iw) kd)) 8 (upd (F 8) (Int32.toNatClampNeg iw) ((F 77) (Int32.toNatClampNeg nd)))) 10 (upd (F 10) (Int32.toNatClampNeg iw) up)) 9 (upd (F 9) (Int32.toNatClampNeg iw) ar)) 13 (upd (F 13) (Int32.toNatClampNeg iw) ((F 17) (Int32.toNatClampNeg x2)))) 14 (upd (F 14) (Int32.toNatClampNeg iw) ((F 17) (Int32.toNatClampNeg x2)))) 15 (upd (F 15) (Int32.toNatClampNeg iw) ((F 17) (Int32.toNatClampNeg x2)))) 10 = (upd (F 10) (Int32.toNatClampNeg iw) up) := rfl
          have s13_ : (va_up (va_up (va_up (va_up (va_up (va_up (va_up F 7 (upd (F 7) (Int32.toNatClampNeg iw) kd)) 8 (upd (F 8) (Int32.toNatClampNeg iw) ((F 77) (Int32.toNatClampNeg nd)))) 10 (upd (F 10) (Int32.toNatClampNeg iw) up)) 9 (upd (F 9) (Int32.toNatClampNeg iw) ar)) 13 (upd (F 13) (Int32.toNatClampNeg iw) ((F 17) (Int32.toNatClampNeg x2)))) 14 (upd (F 14) (Int32.toNatClampNeg iw) ((F 17) (Int32.toNatClampNeg x2)))) 15 (upd (F 15) (Int32.toNatClampNeg iw) ((F 17) (Int32.toNatClampNeg x2)))) 13 = (upd (F 13) (Int32.toNatClampNeg iw) ((F 17) (Int32.toNatClampNeg x2))) := rfl
          have s14_ : (va_up (va_up (va_up (va_up (va_up (va_up (va_up F 7 (upd (F 7) (Int32.toNatClampNeg iw) kd)) 8 (upd (F 8) (Int32.toNatClampNeg iw) ((F 77) (Int32.toNatClampNeg nd)))) 10 (upd (F 10) (Int32.toNatClampNeg iw) up)) 9 (upd (F 9) (Int32.toNatClampNeg iw) ar)) 13 (upd (F 13) (Int32.toNatClampNeg iw) ((F 17) (Int32.toNatClampNeg x2)))) 14 (upd (F 14) (Int32.toNatClampNeg iw) ((F 17) (Int32.toNatClampNeg x2)))) 15 (upd (F 15) (Int32.toNatClampNeg iw) ((F 17) (Int32.toNatClampNeg x2)))) 14 = (upd (F 14) (Int32.toNatClampNeg iw) ((F 17) (Int32.toNatClampNeg x2))) := rfl
          have s15_ : (va_up (va_up (va_up (va_up (va_up (va_up (va_up F 7 (upd (F 7) (Int32.toNatClampNeg iw) kd)) 8 (upd (F 8) (Int32.toNatClampNeg iw) ((F 77) (Int32.toNatClampNeg nd)))) 10 (upd (F 10) (Int32.toNatClampNeg iw) up)) 9 (upd (F 9) (Int32.toNatClampNeg iw) ar)) 13 (upd (F 13) (Int32.toNatClampNeg iw) ((F 17) (Int32.toNatClampNeg x2)))) 14 (upd (F 14) (Int32.toNatClampNeg iw) ((F 17) (Int32.toNatClampNeg x2)))) 15 (upd (F 15) (Int32.toNatClampNeg iw) ((F 17) (Int32.toNatClampNeg x2)))) 15 = (upd (F 15) (Int32.toNatClampNeg iw) ((F 17) (Int32.toNatClampNeg x2))) := rfl
          have s17_ : (va_up (va_up (va_up (va_up (va_up (va_up (va_up F 7 (upd (F 7) (Int32.toNatClampNeg iw) kd)) 8 (upd (F 8) (Int32.toNatClampNeg iw) ((F 77) (Int32.toNatClampNeg nd)))) 10 (upd (F 10) (Int32.toNatClampNeg iw) up)) 9 (upd (F 9) (Int32.toNatClampNeg iw) ar)) 13 (upd (F 13) (Int32.toNatClampNeg iw) ((F 17) (Int32.toNatClampNeg x2)))) 14 (upd (F 14) (Int32.toNatClampNeg iw) ((F 17) (Int32.toNatClampNeg x2)))) 15 (upd (F 15) (Int32.toNatClampNeg iw) ((F 17) (Int32.toNatClampNeg x2)))) 17 = (F 17) := rfl
          have s19_ : (va_up (va_up (va_up (va_up (va_up (va_up (va_up F 7 (upd (F 7) (Int32.toNatClampNeg iw) kd)) 8 (upd (F 8) (Int32.toNatClampNeg iw) ((F 77) (Int32.toNatClampNeg nd)))) 10 (upd (F 10) (Int32.toNatClampNeg iw) up)) 9 (upd (F 9) (Int32.toNatClampNeg iw) ar)) 13 (upd (F 13) (Int32.toNatClampNeg iw) ((F 17) (Int32.toNatClampNeg x2)))) 14 (upd (F 14) (Int32.toNatClampNeg iw) ((F 17) (Int32.toNatClampNeg x2)))) 15 (upd (F 15) (Int32.toNatClampNeg iw) ((F 17) (Int32.toNatClampNeg x2)))) 19 = (F 19) := rfl
          have off : ∀ r, r ∈ [7, 9, 10, 13, 14, 15] → ∀ i, i ≠ 40 * f + W → (va_up (va_up (va_up (va_up (va_up (va_up (va_up F 7 (upd (F 7) (Int32.toNatClampNeg iw) kd)) 8 (upd (F 8) (Int32.toNatClampNeg iw) ((F 77) (Int32.toNatClampNeg nd)))) 10 (upd (F 10) (Int32.toNatClampNeg iw) up)) 9 (upd (F 9) (Int32.toNatClampNeg iw) ar)) 13 (upd (F 13) (Int32.toNatClampNeg iw) ((F 17) (Int32.toNatClampNeg x2)))) 14 (upd (F 14) (Int32.toNatClampNeg iw) ((F 17) (Int32.toNatClampNeg x2)))) 15 (upd (F 15) (Int32.toNatClampNeg iw) ((F 17) (Int32.toNatClampNeg x2)))) r i = F r i := by
            intro r hr i hi
            rw [← eci] at hi
            simp only [List.mem_cons, List.not_mem_nil, or_false] at hr
            rcases hr with rfl | rfl | rfl | rfl | rfl | rfl
            · rw [s7_, updE, if_neg hi]
            · rw [s9_, updE, if_neg hi]
            · rw [s10_, updE, if_neg hi]
            · rw [s13_, updE, if_neg hi]
            · rw [s14_, updE, if_neg hi]
            · rw [s15_, updE, if_neg hi]
          have v7 : (va_up (va_up (va_up (va_up (va_up (va_up (va_up F 7 (upd (F 7) (Int32.toNatClampNeg iw) kd)) 8 (upd (F 8) (Int32.toNatClampNeg iw) ((F 77) (Int32.toNatClampNeg nd)))) 10 (upd (F 10) (Int32.toNatClampNeg iw) up)) 9 (upd (F 9) (Int32.toNatClampNeg iw) ar)) 13 (upd (F 13) (Int32.toNatClampNeg iw) ((F 17) (Int32.toNatClampNeg x2)))) 14 (upd (F 14) (Int32.toNatClampNeg iw) ((F 17) (Int32.toNatClampNeg x2)))) 15 (upd (F 15) (Int32.toNatClampNeg iw) ((F 17) (Int32.toNatClampNeg x2)))) 7 (40 * f + W) = kd := by rw [s7_, ← eci, updE, if_pos rfl]
          have v13 : (va_up (va_up (va_up (va_up (va_up (va_up (va_up F 7 (upd (F 7) (Int32.toNatClampNeg iw) kd)) 8 (upd (F 8) (Int32.toNatClampNeg iw) ((F 77) (Int32.toNatClampNeg nd)))) 10 (upd (F 10) (Int32.toNatClampNeg iw) up)) 9 (upd (F 9) (Int32.toNatClampNeg iw) ar)) 13 (upd (F 13) (Int32.toNatClampNeg iw) ((F 17) (Int32.toNatClampNeg x2)))) 14 (upd (F 14) (Int32.toNatClampNeg iw) ((F 17) (Int32.toNatClampNeg x2)))) 15 (upd (F 15) (Int32.toNatClampNeg iw) ((F 17) (Int32.toNatClampNeg x2)))) 13 (40 * f + W) = F 17 (Int32.toNatClampNeg x2) := by rw [s13_, ← eci, updE, if_pos rfl]
          have v14 : (va_up (va_up (va_up (va_up (va_up (va_up (va_up F 7 (upd (F 7) (Int32.toNatClampNeg iw) kd)) 8 (upd (F 8) (Int32.toNatClampNeg iw) ((F 77) (Int32.toNatClampNeg nd)))) 10 (upd (F 10) (Int32.toNatClampNeg iw) up)) 9 (upd (F 9) (Int32.toNatClampNeg iw) ar)) 13 (upd (F 13) (Int32.toNatClampNeg iw) ((F 17) (Int32.toNatClampNeg x2)))) 14 (upd (F 14) (Int32.toNatClampNeg iw) ((F 17) (Int32.toNatClampNeg x2)))) 15 (upd (F 15) (Int32.toNatClampNeg iw) ((F 17) (Int32.toNatClampNeg x2)))) 14 (40 * f + W) = F 17 (Int32.toNatClampNeg x2) := by rw [s14_, ← eci, updE, if_pos rfl]
          have v15 : (va_up (va_up (va_up (va_up (va_up (va_up (va_up F 7 (upd (F 7) (Int32.toNatClampNeg iw) kd)) 8 (upd (F 8) (Int32.toNatClampNeg iw) ((F 77) (Int32.toNatClampNeg nd)))) 10 (upd (F 10) (Int32.toNatClampNeg iw) up)) 9 (upd (F 9) (Int32.toNatClampNeg iw) ar)) 13 (upd (F 13) (Int32.toNatClampNeg iw) ((F 17) (Int32.toNatClampNeg x2)))) 14 (upd (F 14) (Int32.toNatClampNeg iw) ((F 17) (Int32.toNatClampNeg x2)))) 15 (upd (F 15) (Int32.toNatClampNeg iw) ((F 17) (Int32.toNatClampNeg x2)))) 15 (40 * f + W) = F 17 (Int32.toNatClampNeg x2) := by rw [s15_, ← eci, updE, if_pos rfl]
          have v17 : (F 17 (Int32.toNatClampNeg x2)).toInt = (Fs 17 f).toInt := by rw [ecf, ha.1 17 (by decide)]
          have hb : LYb Fs (va_up (va_up (va_up (va_up (va_up (va_up (va_up F 7 (upd (F 7) (Int32.toNatClampNeg iw) kd)) 8 (upd (F 8) (Int32.toNatClampNeg iw) ((F 77) (Int32.toNatClampNeg nd)))) 10 (upd (F 10) (Int32.toNatClampNeg iw) up)) 9 (upd (F 9) (Int32.toNatClampNeg iw) ar)) 13 (upd (F 13) (Int32.toNatClampNeg iw) ((F 17) (Int32.toNatClampNeg x2)))) 14 (upd (F 14) (Int32.toNatClampNeg iw) ((F 17) (Int32.toNatClampNeg x2)))) 15 (upd (F 15) (Int32.toNatClampNeg iw) ((F 17) (Int32.toNatClampNeg x2)))) f W T a_ := LYb_of ha (fun r hr => hxx.2.2.1 r hr) off (by rw [s10_, ← eci, updE, if_pos rfl, c3.2]) (by unfold arF; rw [s9_, ← eci, updE, if_pos rfl]; exact qar)
          have hA9 : rAll (va_up (va_up (va_up (va_up (va_up (va_up (va_up F 7 (upd (F 7) (Int32.toNatClampNeg iw) kd)) 8 (upd (F 8) (Int32.toNatClampNeg iw) ((F 77) (Int32.toNatClampNeg nd)))) 10 (upd (F 10) (Int32.toNatClampNeg iw) up)) 9 (upd (F 9) (Int32.toNatClampNeg iw) ar)) 13 (upd (F 13) (Int32.toNatClampNeg iw) ((F 17) (Int32.toNatClampNeg x2)))) 14 (upd (F 14) (Int32.toNatClampNeg iw) ((F 17) (Int32.toNatClampNeg x2)))) 15 (upd (F 15) (Int32.toNatClampNeg iw) ((F 17) (Int32.toNatClampNeg x2)))) := by
            intro q hq
            obtain ⟨q1, q2, q3, q4⟩ := hA q hq
            have q40 := c5
            rw [s13_, s14_, s15_, s19_]
            refine ⟨?_, ?_, ?_, q4⟩ <;> (rw [updE]; split <;> omega)
          have hJ : LYJ F0 n (va_up (va_up (va_up (va_up (va_up (va_up (va_up F 7 (upd (F 7) (Int32.toNatClampNeg iw) kd)) 8 (upd (F 8) (Int32.toNatClampNeg iw) ((F 77) (Int32.toNatClampNeg nd)))) 10 (upd (F 10) (Int32.toNatClampNeg iw) up)) 9 (upd (F 9) (Int32.toNatClampNeg iw) ar)) 13 (upd (F 13) (Int32.toNatClampNeg iw) ((F 17) (Int32.toNatClampNeg x2)))) 14 (upd (F 14) (Int32.toNatClampNeg iw) ((F 17) (Int32.toNatClampNeg x2)))) 15 (upd (F 15) (Int32.toNatClampNeg iw) ((F 17) (Int32.toNatClampNeg x2)))) f fo Wn (W + 1) T := LYJ_leaf hf.2.2.1 hf.2.2.2 hc hb h83 hA9 (by rw [v7]; omega) (by rw [v13, v14, v15]; exact ⟨rfl, rfl⟩)
          refine gz_sub (lv' := [(0, .ref m), (1, .int x1), (2, .int x2)]) (by simp [List.lookup]) ?_
          exact hq_ T _ _ _ _ _ hS_7 (fx_F (fx_F (fx_F (fx_F (fx_F (fx_F (fx_F hx (by decide)) (by decide)) (by decide)) (by decide)) (by decide)) (by decide)) (by decide)) hJ
    ·
      try simp only [mIn_0, lgc_lt, lgc_gt, lgc_le, lgc_ge, lgc_eq] at c_173
      try simp only [fl_lt, fl_le, fl_eq, fL_w, fL_lt, fL_le, tm1, tm10k, tm9, tm99, Int32.reduceToInt, Int64.reduceToInt, Int.not_lt, Int.not_le] at c_173
      refine gz_iconst (v := 0) dX12_laysOut_176 (by decide) ?_
      refine gz_goto (tgt := 189) dX12_laysOut_177 (by decide) ?_
      obtain ⟨ar, har⟩ : ∃ v_ : Int32, v_ = 0 := ⟨_, rfl⟩
      refine gz_ev (w := .int ar) (congrArg Value.int har.symm) ?_
      have qar : ar.toInt = a_ := by
        rcases c2 with ⟨z1, z2, z3, z4⟩ | ⟨p, z1, z2, z3, z4, z5⟩
        · rw [har, z4]; rfl
        · rw [c3.2] at z2; exfalso; omega
      refine m_iast 9 hS_3 rfl (N := 880) rfl ((by exact vin_T (rfl : iw.toInt = iw.toInt) (by omega) (by omega))) dX12_laysOut_189 (fun f_8 hS_8q => ?_)
      have hS_8 : mS cy m a f0 n z (va_up (va_up (va_up (va_up F 7 (upd (F 7) (Int32.toNatClampNeg iw) kd)) 8 (upd (F 8) (Int32.toNatClampNeg iw) ((F 77) (Int32.toNatClampNeg nd)))) 10 (upd (F 10) (Int32.toNatClampNeg iw) up)) 9 (upd (F 9) (Int32.toNatClampNeg iw) ar)) G f_8 := hS_8q
      refine gz_aload_n dX12_laysOut_190 rfl rfl ?_
      refine mg_38 hS_8 dX12_laysOut_191 ?_
      refine gz_iload dX12_laysOut_194 rfl ?_
      refine gz_aload_n dX12_laysOut_196 rfl rfl ?_
      refine mg_50 hS_8 dX12_laysOut_197 ?_
      refine gz_iload_n dX12_laysOut_200 rfl rfl ?_
      refine m_iald 17 hS_8 rfl (N := 22) rfl ((by exact vin_T (rfl : x2.toInt = x2.toInt) (by omega) (by omega))) dX12_laysOut_201 ?_
      refine gz_ev (w := .int ((F 17) (Int32.toNatClampNeg x2))) rfl ?_
      refine m_iast 13 hS_8 rfl (N := 880) rfl ((by exact vin_T (rfl : iw.toInt = iw.toInt) (by omega) (by omega))) dX12_laysOut_202 (fun f_9 hS_9q => ?_)
      have hS_9 : mS cy m a f0 n z (va_up (va_up (va_up (va_up (va_up F 7 (upd (F 7) (Int32.toNatClampNeg iw) kd)) 8 (upd (F 8) (Int32.toNatClampNeg iw) ((F 77) (Int32.toNatClampNeg nd)))) 10 (upd (F 10) (Int32.toNatClampNeg iw) up)) 9 (upd (F 9) (Int32.toNatClampNeg iw) ar)) 13 (upd (F 13) (Int32.toNatClampNeg iw) ((F 17) (Int32.toNatClampNeg x2)))) G f_9 := hS_9q
      refine gz_aload_n dX12_laysOut_203 rfl rfl ?_
      refine mg_41 hS_9 dX12_laysOut_204 ?_
      refine gz_iload dX12_laysOut_207 rfl ?_
      refine gz_aload_n dX12_laysOut_209 rfl rfl ?_
      refine mg_50 hS_9 dX12_laysOut_210 ?_
      refine gz_iload_n dX12_laysOut_213 rfl rfl ?_
      refine m_iald 17 hS_9 rfl (N := 22) rfl ((by exact vin_T (rfl : x2.toInt = x2.toInt) (by omega) (by omega))) dX12_laysOut_214 ?_
      refine gz_ev (w := .int ((F 17) (Int32.toNatClampNeg x2))) rfl ?_
      refine m_iast 14 hS_9 rfl (N := 880) rfl ((by exact vin_T (rfl : iw.toInt = iw.toInt) (by omega) (by omega))) dX12_laysOut_215 (fun f_10 hS_10q => ?_)
      have hS_10 : mS cy m a f0 n z (va_up (va_up (va_up (va_up (va_up (va_up F 7 (upd (F 7) (Int32.toNatClampNeg iw) kd)) 8 (upd (F 8) (Int32.toNatClampNeg iw) ((F 77) (Int32.toNatClampNeg nd)))) 10 (upd (F 10) (Int32.toNatClampNeg iw) up)) 9 (upd (F 9) (Int32.toNatClampNeg iw) ar)) 13 (upd (F 13) (Int32.toNatClampNeg iw) ((F 17) (Int32.toNatClampNeg x2)))) 14 (upd (F 14) (Int32.toNatClampNeg iw) ((F 17) (Int32.toNatClampNeg x2)))) G f_10 := hS_10q
      refine gz_aload_n dX12_laysOut_216 rfl rfl ?_
      refine mg_44 hS_10 dX12_laysOut_217 ?_
      refine gz_iload dX12_laysOut_220 rfl ?_
      refine gz_aload_n dX12_laysOut_222 rfl rfl ?_
      refine mg_50 hS_10 dX12_laysOut_223 ?_
      refine gz_iload_n dX12_laysOut_226 rfl rfl ?_
      refine m_iald 17 hS_10 rfl (N := 22) rfl ((by exact vin_T (rfl : x2.toInt = x2.toInt) (by omega) (by omega))) dX12_laysOut_227 ?_
      refine gz_ev (w := .int ((F 17) (Int32.toNatClampNeg x2))) rfl ?_
      refine m_iast 15 hS_10 rfl (N := 880) rfl ((by exact vin_T (rfl : iw.toInt = iw.toInt) (by omega) (by omega))) dX12_laysOut_228 (fun f_11 hS_11q => ?_)
      have hS_11 : mS cy m a f0 n z (va_up (va_up (va_up (va_up (va_up (va_up (va_up F 7 (upd (F 7) (Int32.toNatClampNeg iw) kd)) 8 (upd (F 8) (Int32.toNatClampNeg iw) ((F 77) (Int32.toNatClampNeg nd)))) 10 (upd (F 10) (Int32.toNatClampNeg iw) up)) 9 (upd (F 9) (Int32.toNatClampNeg iw) ar)) 13 (upd (F 13) (Int32.toNatClampNeg iw) ((F 17) (Int32.toNatClampNeg x2)))) 14 (upd (F 14) (Int32.toNatClampNeg iw) ((F 17) (Int32.toNatClampNeg x2)))) 15 (upd (F 15) (Int32.toNatClampNeg iw) ((F 17) (Int32.toNatClampNeg x2)))) G f_11 := hS_11q
      refine gz_aload_n dX12_laysOut_229 rfl rfl ?_
      refine mg_20 hS_11 dX12_laysOut_230 ?_
      refine gz_iload dX12_laysOut_233 rfl ?_
      refine m_iald 7 hS_11 rfl (N := 880) rfl ((by exact vin_T (rfl : iw.toInt = iw.toInt) (by omega) (by omega))) dX12_laysOut_235 ?_
      refine gz_ev (w := .int ((upd (F 7) (Int32.toNatClampNeg iw) kd) (Int32.toNatClampNeg iw))) rfl ?_
      refine gz_ev (w := .int kd) (congrArg Value.int (by rw [updE, if_pos rfl])) ?_
      refine gz_if_eq (tgt := 26) dX12_laysOut_236 (by decide) (fun c_236 => ?_) (fun c_236 => ?_)
      ·
        try simp only [mIn_0, lgc_lt, lgc_gt, lgc_le, lgc_ge, lgc_eq] at c_236
        try simp only [fl_lt, fl_le, fl_eq, fL_w, fL_lt, fL_le, tm1, tm10k, tm9, tm99, Int32.reduceToInt, Int64.reduceToInt, Int.not_lt, Int.not_le] at c_236
        have hxx : fx [] [] [7, 8, 9, 10, 13, 14, 15] [] n z F G n z (va_up (va_up (va_up (va_up (va_up (va_up (va_up F 7 (upd (F 7) (Int32.toNatClampNeg iw) kd)) 8 (upd (F 8) (Int32.toNatClampNeg iw) ((F 77) (Int32.toNatClampNeg nd)))) 10 (upd (F 10) (Int32.toNatClampNeg iw) up)) 9 (upd (F 9) (Int32.toNatClampNeg iw) ar)) 13 (upd (F 13) (Int32.toNatClampNeg iw) ((F 17) (Int32.toNatClampNeg x2)))) 14 (upd (F 14) (Int32.toNatClampNeg iw) ((F 17) (Int32.toNatClampNeg x2)))) 15 (upd (F 15) (Int32.toNatClampNeg iw) ((F 17) (Int32.toNatClampNeg x2)))) G := (fx_F (fx_F (fx_F (fx_F (fx_F (fx_F (fx_F fx_rf (by decide)) (by decide)) (by decide)) (by decide)) (by decide)) (by decide)) (by decide))
        have s7_ : (va_up (va_up (va_up (va_up (va_up (va_up (va_up F 7 (upd (F 7) (Int32.toNatClampNeg iw) kd)) 8 (upd (F 8) (Int32.toNatClampNeg iw) ((F 77) (Int32.toNatClampNeg nd)))) 10 (upd (F 10) (Int32.toNatClampNeg iw) up)) 9 (upd (F 9) (Int32.toNatClampNeg iw) ar)) 13 (upd (F 13) (Int32.toNatClampNeg iw) ((F 17) (Int32.toNatClampNeg x2)))) 14 (upd (F 14) (Int32.toNatClampNeg iw) ((F 17) (Int32.toNatClampNeg x2)))) 15 (upd (F 15) (Int32.toNatClampNeg iw) ((F 17) (Int32.toNatClampNeg x2)))) 7 = (upd (F 7) (Int32.toNatClampNeg iw) kd) := rfl
        have s8_ : (va_up (va_up (va_up (va_up (va_up (va_up (va_up F 7 (upd (F 7) (Int32.toNatClampNeg iw) kd)) 8 (upd (F 8) (Int32.toNatClampNeg iw) ((F 77) (Int32.toNatClampNeg nd)))) 10 (upd (F 10) (Int32.toNatClampNeg iw) up)) 9 (upd (F 9) (Int32.toNatClampNeg iw) ar)) 13 (upd (F 13) (Int32.toNatClampNeg iw) ((F 17) (Int32.toNatClampNeg x2)))) 14 (upd (F 14) (Int32.toNatClampNeg iw) ((F 17) (Int32.toNatClampNeg x2)))) 15 (upd (F 15) (Int32.toNatClampNeg iw) ((F 17) (Int32.toNatClampNeg x2)))) 8 = (upd (F 8) (Int32.toNatClampNeg iw) ((F 77) (Int32.toNatClampNeg nd))) := rfl
        have s9_ : (va_up (va_up (va_up (va_up (va_up (va_up (va_up F 7 (upd (F 7) (Int32.toNatClampNeg iw) kd)) 8 (upd (F 8) (Int32.toNatClampNeg iw) ((F 77) (Int32.toNatClampNeg nd)))) 10 (upd (F 10) (Int32.toNatClampNeg iw) up)) 9 (upd (F 9) (Int32.toNatClampNeg iw) ar)) 13 (upd (F 13) (Int32.toNatClampNeg iw) ((F 17) (Int32.toNatClampNeg x2)))) 14 (upd (F 14) (Int32.toNatClampNeg iw) ((F 17) (Int32.toNatClampNeg x2)))) 15 (upd (F 15) (Int32.toNatClampNeg iw) ((F 17) (Int32.toNatClampNeg x2)))) 9 = (upd (F 9) (Int32.toNatClampNeg iw) ar) := rfl
        have s10_ : (va_up (va_up (va_up (va_up (va_up (va_up (va_up F 7 (upd (F 7) (Int32.toNatClampNeg iw) kd)) 8 (upd (F 8) (Int32.toNatClampNeg iw) ((F 77) (Int32.toNatClampNeg nd)))) 10 (upd (F 10) (Int32.toNatClampNeg iw) up)) 9 (upd (F 9) (Int32.toNatClampNeg iw) ar)) 13 (upd (F 13) (Int32.toNatClampNeg iw) ((F 17) (Int32.toNatClampNeg x2)))) 14 (upd (F 14) (Int32.toNatClampNeg iw) ((F 17) (Int32.toNatClampNeg x2)))) 15 (upd (F 15) (Int32.toNatClampNeg iw) ((F 17) (Int32.toNatClampNeg x2)))) 10 = (upd (F 10) (Int32.toNatClampNeg iw) up) := rfl
        have s13_ : (va_up (va_up (va_up (va_up (va_up (va_up (va_up F 7 (upd (F 7) (Int32.toNatClampNeg iw) kd)) 8 (upd (F 8) (Int32.toNatClampNeg iw) ((F 77) (Int32.toNatClampNeg nd)))) 10 (upd (F 10) (Int32.toNatClampNeg iw) up)) 9 (upd (F 9) (Int32.toNatClampNeg iw) ar)) 13 (upd (F 13) (Int32.toNatClampNeg iw) ((F 17) (Int32.toNatClampNeg x2)))) 14 (upd (F 14) (Int32.toNatClampNeg iw) ((F 17) (Int32.toNatClampNeg x2)))) 15 (upd (F 15) (Int32.toNatClampNeg iw) ((F 17) (Int32.toNatClampNeg x2)))) 13 = (upd (F 13) (Int32.toNatClampNeg iw) ((F 17) (Int32.toNatClampNeg x2))) := rfl
        have s14_ : (va_up (va_up (va_up (va_up (va_up (va_up (va_up F 7 (upd (F 7) (Int32.toNatClampNeg iw) kd)) 8 (upd (F 8) (Int32.toNatClampNeg iw) ((F 77) (Int32.toNatClampNeg nd)))) 10 (upd (F 10) (Int32.toNatClampNeg iw) up)) 9 (upd (F 9) (Int32.toNatClampNeg iw) ar)) 13 (upd (F 13) (Int32.toNatClampNeg iw) ((F 17) (Int32.toNatClampNeg x2)))) 14 (upd (F 14) (Int32.toNatClampNeg iw) ((F 17) (Int32.toNatClampNeg x2)))) 15 (upd (F 15) (Int32.toNatClampNeg iw) ((F 17) (Int32.toNatClampNeg x2)))) 14 = (upd (F 14) (Int32.toNatClampNeg iw) ((F 17) (Int32.toNatClampNeg x2))) := rfl
        have s15_ : (va_up (va_up (va_up (va_up (va_up (va_up (va_up F 7 (upd (F 7) (Int32.toNatClampNeg iw) kd)) 8 (upd (F 8) (Int32.toNatClampNeg iw) ((F 77) (Int32.toNatClampNeg nd)))) 10 (upd (F 10) (Int32.toNatClampNeg iw) up)) 9 (upd (F 9) (Int32.toNatClampNeg iw) ar)) 13 (upd (F 13) (Int32.toNatClampNeg iw) ((F 17) (Int32.toNatClampNeg x2)))) 14 (upd (F 14) (Int32.toNatClampNeg iw) ((F 17) (Int32.toNatClampNeg x2)))) 15 (upd (F 15) (Int32.toNatClampNeg iw) ((F 17) (Int32.toNatClampNeg x2)))) 15 = (upd (F 15) (Int32.toNatClampNeg iw) ((F 17) (Int32.toNatClampNeg x2))) := rfl
        have s17_ : (va_up (va_up (va_up (va_up (va_up (va_up (va_up F 7 (upd (F 7) (Int32.toNatClampNeg iw) kd)) 8 (upd (F 8) (Int32.toNatClampNeg iw) ((F 77) (Int32.toNatClampNeg nd)))) 10 (upd (F 10) (Int32.toNatClampNeg iw) up)) 9 (upd (F 9) (Int32.toNatClampNeg iw) ar)) 13 (upd (F 13) (Int32.toNatClampNeg iw) ((F 17) (Int32.toNatClampNeg x2)))) 14 (upd (F 14) (Int32.toNatClampNeg iw) ((F 17) (Int32.toNatClampNeg x2)))) 15 (upd (F 15) (Int32.toNatClampNeg iw) ((F 17) (Int32.toNatClampNeg x2)))) 17 = (F 17) := rfl
        have s19_ : (va_up (va_up (va_up (va_up (va_up (va_up (va_up F 7 (upd (F 7) (Int32.toNatClampNeg iw) kd)) 8 (upd (F 8) (Int32.toNatClampNeg iw) ((F 77) (Int32.toNatClampNeg nd)))) 10 (upd (F 10) (Int32.toNatClampNeg iw) up)) 9 (upd (F 9) (Int32.toNatClampNeg iw) ar)) 13 (upd (F 13) (Int32.toNatClampNeg iw) ((F 17) (Int32.toNatClampNeg x2)))) 14 (upd (F 14) (Int32.toNatClampNeg iw) ((F 17) (Int32.toNatClampNeg x2)))) 15 (upd (F 15) (Int32.toNatClampNeg iw) ((F 17) (Int32.toNatClampNeg x2)))) 19 = (F 19) := rfl
        have off : ∀ r, r ∈ [7, 9, 10, 13, 14, 15] → ∀ i, i ≠ 40 * f + W → (va_up (va_up (va_up (va_up (va_up (va_up (va_up F 7 (upd (F 7) (Int32.toNatClampNeg iw) kd)) 8 (upd (F 8) (Int32.toNatClampNeg iw) ((F 77) (Int32.toNatClampNeg nd)))) 10 (upd (F 10) (Int32.toNatClampNeg iw) up)) 9 (upd (F 9) (Int32.toNatClampNeg iw) ar)) 13 (upd (F 13) (Int32.toNatClampNeg iw) ((F 17) (Int32.toNatClampNeg x2)))) 14 (upd (F 14) (Int32.toNatClampNeg iw) ((F 17) (Int32.toNatClampNeg x2)))) 15 (upd (F 15) (Int32.toNatClampNeg iw) ((F 17) (Int32.toNatClampNeg x2)))) r i = F r i := by
          intro r hr i hi
          rw [← eci] at hi
          simp only [List.mem_cons, List.not_mem_nil, or_false] at hr
          rcases hr with rfl | rfl | rfl | rfl | rfl | rfl
          · rw [s7_, updE, if_neg hi]
          · rw [s9_, updE, if_neg hi]
          · rw [s10_, updE, if_neg hi]
          · rw [s13_, updE, if_neg hi]
          · rw [s14_, updE, if_neg hi]
          · rw [s15_, updE, if_neg hi]
        have v7 : (va_up (va_up (va_up (va_up (va_up (va_up (va_up F 7 (upd (F 7) (Int32.toNatClampNeg iw) kd)) 8 (upd (F 8) (Int32.toNatClampNeg iw) ((F 77) (Int32.toNatClampNeg nd)))) 10 (upd (F 10) (Int32.toNatClampNeg iw) up)) 9 (upd (F 9) (Int32.toNatClampNeg iw) ar)) 13 (upd (F 13) (Int32.toNatClampNeg iw) ((F 17) (Int32.toNatClampNeg x2)))) 14 (upd (F 14) (Int32.toNatClampNeg iw) ((F 17) (Int32.toNatClampNeg x2)))) 15 (upd (F 15) (Int32.toNatClampNeg iw) ((F 17) (Int32.toNatClampNeg x2)))) 7 (40 * f + W) = kd := by rw [s7_, ← eci, updE, if_pos rfl]
        have v13 : (va_up (va_up (va_up (va_up (va_up (va_up (va_up F 7 (upd (F 7) (Int32.toNatClampNeg iw) kd)) 8 (upd (F 8) (Int32.toNatClampNeg iw) ((F 77) (Int32.toNatClampNeg nd)))) 10 (upd (F 10) (Int32.toNatClampNeg iw) up)) 9 (upd (F 9) (Int32.toNatClampNeg iw) ar)) 13 (upd (F 13) (Int32.toNatClampNeg iw) ((F 17) (Int32.toNatClampNeg x2)))) 14 (upd (F 14) (Int32.toNatClampNeg iw) ((F 17) (Int32.toNatClampNeg x2)))) 15 (upd (F 15) (Int32.toNatClampNeg iw) ((F 17) (Int32.toNatClampNeg x2)))) 13 (40 * f + W) = F 17 (Int32.toNatClampNeg x2) := by rw [s13_, ← eci, updE, if_pos rfl]
        have v14 : (va_up (va_up (va_up (va_up (va_up (va_up (va_up F 7 (upd (F 7) (Int32.toNatClampNeg iw) kd)) 8 (upd (F 8) (Int32.toNatClampNeg iw) ((F 77) (Int32.toNatClampNeg nd)))) 10 (upd (F 10) (Int32.toNatClampNeg iw) up)) 9 (upd (F 9) (Int32.toNatClampNeg iw) ar)) 13 (upd (F 13) (Int32.toNatClampNeg iw) ((F 17) (Int32.toNatClampNeg x2)))) 14 (upd (F 14) (Int32.toNatClampNeg iw) ((F 17) (Int32.toNatClampNeg x2)))) 15 (upd (F 15) (Int32.toNatClampNeg iw) ((F 17) (Int32.toNatClampNeg x2)))) 14 (40 * f + W) = F 17 (Int32.toNatClampNeg x2) := by rw [s14_, ← eci, updE, if_pos rfl]
        have v15 : (va_up (va_up (va_up (va_up (va_up (va_up (va_up F 7 (upd (F 7) (Int32.toNatClampNeg iw) kd)) 8 (upd (F 8) (Int32.toNatClampNeg iw) ((F 77) (Int32.toNatClampNeg nd)))) 10 (upd (F 10) (Int32.toNatClampNeg iw) up)) 9 (upd (F 9) (Int32.toNatClampNeg iw) ar)) 13 (upd (F 13) (Int32.toNatClampNeg iw) ((F 17) (Int32.toNatClampNeg x2)))) 14 (upd (F 14) (Int32.toNatClampNeg iw) ((F 17) (Int32.toNatClampNeg x2)))) 15 (upd (F 15) (Int32.toNatClampNeg iw) ((F 17) (Int32.toNatClampNeg x2)))) 15 (40 * f + W) = F 17 (Int32.toNatClampNeg x2) := by rw [s15_, ← eci, updE, if_pos rfl]
        have v17 : (F 17 (Int32.toNatClampNeg x2)).toInt = (Fs 17 f).toInt := by rw [ecf, ha.1 17 (by decide)]
        have hb : LYb Fs (va_up (va_up (va_up (va_up (va_up (va_up (va_up F 7 (upd (F 7) (Int32.toNatClampNeg iw) kd)) 8 (upd (F 8) (Int32.toNatClampNeg iw) ((F 77) (Int32.toNatClampNeg nd)))) 10 (upd (F 10) (Int32.toNatClampNeg iw) up)) 9 (upd (F 9) (Int32.toNatClampNeg iw) ar)) 13 (upd (F 13) (Int32.toNatClampNeg iw) ((F 17) (Int32.toNatClampNeg x2)))) 14 (upd (F 14) (Int32.toNatClampNeg iw) ((F 17) (Int32.toNatClampNeg x2)))) 15 (upd (F 15) (Int32.toNatClampNeg iw) ((F 17) (Int32.toNatClampNeg x2)))) f W T a_ := LYb_of ha (fun r hr => hxx.2.2.1 r hr) off (by rw [s10_, ← eci, updE, if_pos rfl, c3.2]) (by unfold arF; rw [s9_, ← eci, updE, if_pos rfl]; exact qar)
        have hA9 : rAll (va_up (va_up (va_up (va_up (va_up (va_up (va_up F 7 (upd (F 7) (Int32.toNatClampNeg iw) kd)) 8 (upd (F 8) (Int32.toNatClampNeg iw) ((F 77) (Int32.toNatClampNeg nd)))) 10 (upd (F 10) (Int32.toNatClampNeg iw) up)) 9 (upd (F 9) (Int32.toNatClampNeg iw) ar)) 13 (upd (F 13) (Int32.toNatClampNeg iw) ((F 17) (Int32.toNatClampNeg x2)))) 14 (upd (F 14) (Int32.toNatClampNeg iw) ((F 17) (Int32.toNatClampNeg x2)))) 15 (upd (F 15) (Int32.toNatClampNeg iw) ((F 17) (Int32.toNatClampNeg x2)))) := by
          intro q hq
          obtain ⟨q1, q2, q3, q4⟩ := hA q hq
          have q40 := c5
          rw [s13_, s14_, s15_, s19_]
          refine ⟨?_, ?_, ?_, q4⟩ <;> (rw [updE]; split <;> omega)
        have hJ : LYJ F0 n (va_up (va_up (va_up (va_up (va_up (va_up (va_up F 7 (upd (F 7) (Int32.toNatClampNeg iw) kd)) 8 (upd (F 8) (Int32.toNatClampNeg iw) ((F 77) (Int32.toNatClampNeg nd)))) 10 (upd (F 10) (Int32.toNatClampNeg iw) up)) 9 (upd (F 9) (Int32.toNatClampNeg iw) ar)) 13 (upd (F 13) (Int32.toNatClampNeg iw) ((F 17) (Int32.toNatClampNeg x2)))) 14 (upd (F 14) (Int32.toNatClampNeg iw) ((F 17) (Int32.toNatClampNeg x2)))) 15 (upd (F 15) (Int32.toNatClampNeg iw) ((F 17) (Int32.toNatClampNeg x2)))) f fo Wn (W + 1) T := LYJ_leaf hf.2.2.1 hf.2.2.2 hc hb h83 hA9 (by rw [v7]; omega) (by rw [v13, v14, v15]; exact ⟨rfl, rfl⟩)
        refine gz_sub (lv' := [(0, .ref m), (1, .int x1), (2, .int x2)]) (by simp [List.lookup]) ?_
        exact hq_ T _ _ _ _ _ hS_11 (fx_F (fx_F (fx_F (fx_F (fx_F (fx_F (fx_F hx (by decide)) (by decide)) (by decide)) (by decide)) (by decide)) (by decide)) (by decide)) hJ
      ·
        try simp only [mIn_0, lgc_lt, lgc_gt, lgc_le, lgc_ge, lgc_eq] at c_236
        try simp only [fl_lt, fl_le, fl_eq, fL_w, fL_lt, fL_le, tm1, tm10k, tm9, tm99, Int32.reduceToInt, Int64.reduceToInt, Int.not_lt, Int.not_le] at c_236
        refine gz_aload_n dX12_laysOut_239 rfl rfl ?_
        refine mg_20 hS_11 dX12_laysOut_240 ?_
        refine gz_iload dX12_laysOut_243 rfl ?_
        refine m_iald 7 hS_11 rfl (N := 880) rfl ((by exact vin_T (rfl : iw.toInt = iw.toInt) (by omega) (by omega))) dX12_laysOut_245 ?_
        refine gz_ev (w := .int ((upd (F 7) (Int32.toNatClampNeg iw) kd) (Int32.toNatClampNeg iw))) rfl ?_
        refine gz_ev (w := .int kd) (congrArg Value.int (by rw [updE, if_pos rfl])) ?_
        refine gz_iconst (v := 1) dX12_laysOut_246 (by decide) ?_
        refine gz_icmp_ne (tgt := 253) dX12_laysOut_247 (by decide) (fun c_247 => ?_) (fun c_247 => ?_)
        ·
          try simp only [mIn_0, lgc_lt, lgc_gt, lgc_le, lgc_ge, lgc_eq] at c_247
          try simp only [fl_lt, fl_le, fl_eq, fL_w, fL_lt, fL_le, tm1, tm10k, tm9, tm99, Int32.reduceToInt, Int64.reduceToInt, Int.not_lt, Int.not_le] at c_247
          have hxx : fx [] [] [7, 8, 9, 10, 13, 14, 15] [] n z F G n z (va_up (va_up (va_up (va_up (va_up (va_up (va_up F 7 (upd (F 7) (Int32.toNatClampNeg iw) kd)) 8 (upd (F 8) (Int32.toNatClampNeg iw) ((F 77) (Int32.toNatClampNeg nd)))) 10 (upd (F 10) (Int32.toNatClampNeg iw) up)) 9 (upd (F 9) (Int32.toNatClampNeg iw) ar)) 13 (upd (F 13) (Int32.toNatClampNeg iw) ((F 17) (Int32.toNatClampNeg x2)))) 14 (upd (F 14) (Int32.toNatClampNeg iw) ((F 17) (Int32.toNatClampNeg x2)))) 15 (upd (F 15) (Int32.toNatClampNeg iw) ((F 17) (Int32.toNatClampNeg x2)))) G := (fx_F (fx_F (fx_F (fx_F (fx_F (fx_F (fx_F fx_rf (by decide)) (by decide)) (by decide)) (by decide)) (by decide)) (by decide)) (by decide))
          have s7_ : (va_up (va_up (va_up (va_up (va_up (va_up (va_up F 7 (upd (F 7) (Int32.toNatClampNeg iw) kd)) 8 (upd (F 8) (Int32.toNatClampNeg iw) ((F 77) (Int32.toNatClampNeg nd)))) 10 (upd (F 10) (Int32.toNatClampNeg iw) up)) 9 (upd (F 9) (Int32.toNatClampNeg iw) ar)) 13 (upd (F 13) (Int32.toNatClampNeg iw) ((F 17) (Int32.toNatClampNeg x2)))) 14 (upd (F 14) (Int32.toNatClampNeg iw) ((F 17) (Int32.toNatClampNeg x2)))) 15 (upd (F 15) (Int32.toNatClampNeg iw) ((F 17) (Int32.toNatClampNeg x2)))) 7 = (upd (F 7) (Int32.toNatClampNeg iw) kd) := rfl
          have s8_ : (va_up (va_up (va_up (va_up (va_up (va_up (va_up F 7 (upd (F 7) (Int32.toNatClampNeg iw) kd)) 8 (upd (F 8) (Int32.toNatClampNeg iw) ((F 77) (Int32.toNatClampNeg nd)))) 10 (upd (F 10) (Int32.toNatClampNeg iw) up)) 9 (upd (F 9) (Int32.toNatClampNeg iw) ar)) 13 (upd (F 13) (Int32.toNatClampNeg iw) ((F 17) (Int32.toNatClampNeg x2)))) 14 (upd (F 14) (Int32.toNatClampNeg iw) ((F 17) (Int32.toNatClampNeg x2)))) 15 (upd (F 15) (Int32.toNatClampNeg iw) ((F 17) (Int32.toNatClampNeg x2)))) 8 = (upd (F 8) (Int32.toNatClampNeg iw) ((F 77) (Int32.toNatClampNeg nd))) := rfl
          have s9_ : (va_up (va_up (va_up (va_up (va_up (va_up (va_up F 7 (upd (F 7) (Int32.toNatClampNeg iw) kd)) 8 (upd (F 8) (Int32.toNatClampNeg iw) ((F 77) (Int32.toNatClampNeg nd)))) 10 (upd (F 10) (Int32.toNatClampNeg iw) up)) 9 (upd (F 9) (Int32.toNatClampNeg iw) ar)) 13 (upd (F 13) (Int32.toNatClampNeg iw) ((F 17) (Int32.toNatClampNeg x2)))) 14 (upd (F 14) (Int32.toNatClampNeg iw) ((F 17) (Int32.toNatClampNeg x2)))) 15 (upd (F 15) (Int32.toNatClampNeg iw) ((F 17) (Int32.toNatClampNeg x2)))) 9 = (upd (F 9) (Int32.toNatClampNeg iw) ar) := rfl
          have s10_ : (va_up (va_up (va_up (va_up (va_up (va_up (va_up F 7 (upd (F 7) (Int32.toNatClampNeg iw) kd)) 8 (upd (F 8) (Int32.toNatClampNeg iw) ((F 77) (Int32.toNatClampNeg nd)))) 10 (upd (F 10) (Int32.toNatClampNeg iw) up)) 9 (upd (F 9) (Int32.toNatClampNeg iw) ar)) 13 (upd (F 13) (Int32.toNatClampNeg iw) ((F 17) (Int32.toNatClampNeg x2)))) 14 (upd (F 14) (Int32.toNatClampNeg iw) ((F 17) (Int32.toNatClampNeg x2)))) 15 (upd (F 15) (Int32.toNatClampNeg iw) ((F 17) (Int32.toNatClampNeg x2)))) 10 = (upd (F 10) (Int32.toNatClampNeg iw) up) := rfl
          have s13_ : (va_up (va_up (va_up (va_up (va_up (va_up (va_up F 7 (upd (F 7) (Int32.toNatClampNeg iw) kd)) 8 (upd (F 8) (Int32.toNatClampNeg iw) ((F 77) (Int32.toNatClampNeg nd)))) 10 (upd (F 10) (Int32.toNatClampNeg iw) up)) 9 (upd (F 9) (Int32.toNatClampNeg iw) ar)) 13 (upd (F 13) (Int32.toNatClampNeg iw) ((F 17) (Int32.toNatClampNeg x2)))) 14 (upd (F 14) (Int32.toNatClampNeg iw) ((F 17) (Int32.toNatClampNeg x2)))) 15 (upd (F 15) (Int32.toNatClampNeg iw) ((F 17) (Int32.toNatClampNeg x2)))) 13 = (upd (F 13) (Int32.toNatClampNeg iw) ((F 17) (Int32.toNatClampNeg x2))) := rfl
          have s14_ : (va_up (va_up (va_up (va_up (va_up (va_up (va_up F 7 (upd (F 7) (Int32.toNatClampNeg iw) kd)) 8 (upd (F 8) (Int32.toNatClampNeg iw) ((F 77) (Int32.toNatClampNeg nd)))) 10 (upd (F 10) (Int32.toNatClampNeg iw) up)) 9 (upd (F 9) (Int32.toNatClampNeg iw) ar)) 13 (upd (F 13) (Int32.toNatClampNeg iw) ((F 17) (Int32.toNatClampNeg x2)))) 14 (upd (F 14) (Int32.toNatClampNeg iw) ((F 17) (Int32.toNatClampNeg x2)))) 15 (upd (F 15) (Int32.toNatClampNeg iw) ((F 17) (Int32.toNatClampNeg x2)))) 14 = (upd (F 14) (Int32.toNatClampNeg iw) ((F 17) (Int32.toNatClampNeg x2))) := rfl
          have s15_ : (va_up (va_up (va_up (va_up (va_up (va_up (va_up F 7 (upd (F 7) (Int32.toNatClampNeg iw) kd)) 8 (upd (F 8) (Int32.toNatClampNeg iw) ((F 77) (Int32.toNatClampNeg nd)))) 10 (upd (F 10) (Int32.toNatClampNeg iw) up)) 9 (upd (F 9) (Int32.toNatClampNeg iw) ar)) 13 (upd (F 13) (Int32.toNatClampNeg iw) ((F 17) (Int32.toNatClampNeg x2)))) 14 (upd (F 14) (Int32.toNatClampNeg iw) ((F 17) (Int32.toNatClampNeg x2)))) 15 (upd (F 15) (Int32.toNatClampNeg iw) ((F 17) (Int32.toNatClampNeg x2)))) 15 = (upd (F 15) (Int32.toNatClampNeg iw) ((F 17) (Int32.toNatClampNeg x2))) := rfl
          have s17_ : (va_up (va_up (va_up (va_up (va_up (va_up (va_up F 7 (upd (F 7) (Int32.toNatClampNeg iw) kd)) 8 (upd (F 8) (Int32.toNatClampNeg iw) ((F 77) (Int32.toNatClampNeg nd)))) 10 (upd (F 10) (Int32.toNatClampNeg iw) up)) 9 (upd (F 9) (Int32.toNatClampNeg iw) ar)) 13 (upd (F 13) (Int32.toNatClampNeg iw) ((F 17) (Int32.toNatClampNeg x2)))) 14 (upd (F 14) (Int32.toNatClampNeg iw) ((F 17) (Int32.toNatClampNeg x2)))) 15 (upd (F 15) (Int32.toNatClampNeg iw) ((F 17) (Int32.toNatClampNeg x2)))) 17 = (F 17) := rfl
          have s19_ : (va_up (va_up (va_up (va_up (va_up (va_up (va_up F 7 (upd (F 7) (Int32.toNatClampNeg iw) kd)) 8 (upd (F 8) (Int32.toNatClampNeg iw) ((F 77) (Int32.toNatClampNeg nd)))) 10 (upd (F 10) (Int32.toNatClampNeg iw) up)) 9 (upd (F 9) (Int32.toNatClampNeg iw) ar)) 13 (upd (F 13) (Int32.toNatClampNeg iw) ((F 17) (Int32.toNatClampNeg x2)))) 14 (upd (F 14) (Int32.toNatClampNeg iw) ((F 17) (Int32.toNatClampNeg x2)))) 15 (upd (F 15) (Int32.toNatClampNeg iw) ((F 17) (Int32.toNatClampNeg x2)))) 19 = (F 19) := rfl
          have off : ∀ r, r ∈ [7, 9, 10, 13, 14, 15] → ∀ i, i ≠ 40 * f + W → (va_up (va_up (va_up (va_up (va_up (va_up (va_up F 7 (upd (F 7) (Int32.toNatClampNeg iw) kd)) 8 (upd (F 8) (Int32.toNatClampNeg iw) ((F 77) (Int32.toNatClampNeg nd)))) 10 (upd (F 10) (Int32.toNatClampNeg iw) up)) 9 (upd (F 9) (Int32.toNatClampNeg iw) ar)) 13 (upd (F 13) (Int32.toNatClampNeg iw) ((F 17) (Int32.toNatClampNeg x2)))) 14 (upd (F 14) (Int32.toNatClampNeg iw) ((F 17) (Int32.toNatClampNeg x2)))) 15 (upd (F 15) (Int32.toNatClampNeg iw) ((F 17) (Int32.toNatClampNeg x2)))) r i = F r i := by
            intro r hr i hi
            rw [← eci] at hi
            simp only [List.mem_cons, List.not_mem_nil, or_false] at hr
            rcases hr with rfl | rfl | rfl | rfl | rfl | rfl
            · rw [s7_, updE, if_neg hi]
            · rw [s9_, updE, if_neg hi]
            · rw [s10_, updE, if_neg hi]
            · rw [s13_, updE, if_neg hi]
            · rw [s14_, updE, if_neg hi]
            · rw [s15_, updE, if_neg hi]
          have v7 : (va_up (va_up (va_up (va_up (va_up (va_up (va_up F 7 (upd (F 7) (Int32.toNatClampNeg iw) kd)) 8 (upd (F 8) (Int32.toNatClampNeg iw) ((F 77) (Int32.toNatClampNeg nd)))) 10 (upd (F 10) (Int32.toNatClampNeg iw) up)) 9 (upd (F 9) (Int32.toNatClampNeg iw) ar)) 13 (upd (F 13) (Int32.toNatClampNeg iw) ((F 17) (Int32.toNatClampNeg x2)))) 14 (upd (F 14) (Int32.toNatClampNeg iw) ((F 17) (Int32.toNatClampNeg x2)))) 15 (upd (F 15) (Int32.toNatClampNeg iw) ((F 17) (Int32.toNatClampNeg x2)))) 7 (40 * f + W) = kd := by rw [s7_, ← eci, updE, if_pos rfl]
          have v13 : (va_up (va_up (va_up (va_up (va_up (va_up (va_up F 7 (upd (F 7) (Int32.toNatClampNeg iw) kd)) 8 (upd (F 8) (Int32.toNatClampNeg iw) ((F 77) (Int32.toNatClampNeg nd)))) 10 (upd (F 10) (Int32.toNatClampNeg iw) up)) 9 (upd (F 9) (Int32.toNatClampNeg iw) ar)) 13 (upd (F 13) (Int32.toNatClampNeg iw) ((F 17) (Int32.toNatClampNeg x2)))) 14 (upd (F 14) (Int32.toNatClampNeg iw) ((F 17) (Int32.toNatClampNeg x2)))) 15 (upd (F 15) (Int32.toNatClampNeg iw) ((F 17) (Int32.toNatClampNeg x2)))) 13 (40 * f + W) = F 17 (Int32.toNatClampNeg x2) := by rw [s13_, ← eci, updE, if_pos rfl]
          have v14 : (va_up (va_up (va_up (va_up (va_up (va_up (va_up F 7 (upd (F 7) (Int32.toNatClampNeg iw) kd)) 8 (upd (F 8) (Int32.toNatClampNeg iw) ((F 77) (Int32.toNatClampNeg nd)))) 10 (upd (F 10) (Int32.toNatClampNeg iw) up)) 9 (upd (F 9) (Int32.toNatClampNeg iw) ar)) 13 (upd (F 13) (Int32.toNatClampNeg iw) ((F 17) (Int32.toNatClampNeg x2)))) 14 (upd (F 14) (Int32.toNatClampNeg iw) ((F 17) (Int32.toNatClampNeg x2)))) 15 (upd (F 15) (Int32.toNatClampNeg iw) ((F 17) (Int32.toNatClampNeg x2)))) 14 (40 * f + W) = F 17 (Int32.toNatClampNeg x2) := by rw [s14_, ← eci, updE, if_pos rfl]
          have v15 : (va_up (va_up (va_up (va_up (va_up (va_up (va_up F 7 (upd (F 7) (Int32.toNatClampNeg iw) kd)) 8 (upd (F 8) (Int32.toNatClampNeg iw) ((F 77) (Int32.toNatClampNeg nd)))) 10 (upd (F 10) (Int32.toNatClampNeg iw) up)) 9 (upd (F 9) (Int32.toNatClampNeg iw) ar)) 13 (upd (F 13) (Int32.toNatClampNeg iw) ((F 17) (Int32.toNatClampNeg x2)))) 14 (upd (F 14) (Int32.toNatClampNeg iw) ((F 17) (Int32.toNatClampNeg x2)))) 15 (upd (F 15) (Int32.toNatClampNeg iw) ((F 17) (Int32.toNatClampNeg x2)))) 15 (40 * f + W) = F 17 (Int32.toNatClampNeg x2) := by rw [s15_, ← eci, updE, if_pos rfl]
          have v17 : (F 17 (Int32.toNatClampNeg x2)).toInt = (Fs 17 f).toInt := by rw [ecf, ha.1 17 (by decide)]
          have hb : LYb Fs (va_up (va_up (va_up (va_up (va_up (va_up (va_up F 7 (upd (F 7) (Int32.toNatClampNeg iw) kd)) 8 (upd (F 8) (Int32.toNatClampNeg iw) ((F 77) (Int32.toNatClampNeg nd)))) 10 (upd (F 10) (Int32.toNatClampNeg iw) up)) 9 (upd (F 9) (Int32.toNatClampNeg iw) ar)) 13 (upd (F 13) (Int32.toNatClampNeg iw) ((F 17) (Int32.toNatClampNeg x2)))) 14 (upd (F 14) (Int32.toNatClampNeg iw) ((F 17) (Int32.toNatClampNeg x2)))) 15 (upd (F 15) (Int32.toNatClampNeg iw) ((F 17) (Int32.toNatClampNeg x2)))) f W T a_ := LYb_of ha (fun r hr => hxx.2.2.1 r hr) off (by rw [s10_, ← eci, updE, if_pos rfl, c3.2]) (by unfold arF; rw [s9_, ← eci, updE, if_pos rfl]; exact qar)
          have hA9 : rAll (va_up (va_up (va_up (va_up (va_up (va_up (va_up F 7 (upd (F 7) (Int32.toNatClampNeg iw) kd)) 8 (upd (F 8) (Int32.toNatClampNeg iw) ((F 77) (Int32.toNatClampNeg nd)))) 10 (upd (F 10) (Int32.toNatClampNeg iw) up)) 9 (upd (F 9) (Int32.toNatClampNeg iw) ar)) 13 (upd (F 13) (Int32.toNatClampNeg iw) ((F 17) (Int32.toNatClampNeg x2)))) 14 (upd (F 14) (Int32.toNatClampNeg iw) ((F 17) (Int32.toNatClampNeg x2)))) 15 (upd (F 15) (Int32.toNatClampNeg iw) ((F 17) (Int32.toNatClampNeg x2)))) := by
            intro q hq
            obtain ⟨q1, q2, q3, q4⟩ := hA q hq
            have q40 := c5
            rw [s13_, s14_, s15_, s19_]
            refine ⟨?_, ?_, ?_, q4⟩ <;> (rw [updE]; split <;> omega)
          refine gz_sub (lv' := [(0, .ref m), (1, .int x1), (2, .int x2), (3, .int nd), (4, .int up), (5, .int iw)]) (by simp [List.lookup]) ?_
          exact l_X12_laysOutC hf hwi hc hq_ 1 _ _ _ _ _ hS_11 (fx_F (fx_F (fx_F (fx_F (fx_F (fx_F (fx_F hx (by decide)) (by decide)) (by decide)) (by decide)) (by decide)) (by decide)) (by decide)) h83 hA9 hb (v7.trans qkd) (by rw [← qkd]; omega) (by rw [v13]; exact v17) (by decide)
        ·
          try simp only [mIn_0, lgc_lt, lgc_gt, lgc_le, lgc_ge, lgc_eq] at c_247
          try simp only [fl_lt, fl_le, fl_eq, fL_w, fL_lt, fL_le, tm1, tm10k, tm9, tm99, Int32.reduceToInt, Int64.reduceToInt, Int.not_lt, Int.not_le] at c_247
          refine gz_goto (tgt := 26) dX12_laysOut_250 (by decide) ?_
          have hxx : fx [] [] [7, 8, 9, 10, 13, 14, 15] [] n z F G n z (va_up (va_up (va_up (va_up (va_up (va_up (va_up F 7 (upd (F 7) (Int32.toNatClampNeg iw) kd)) 8 (upd (F 8) (Int32.toNatClampNeg iw) ((F 77) (Int32.toNatClampNeg nd)))) 10 (upd (F 10) (Int32.toNatClampNeg iw) up)) 9 (upd (F 9) (Int32.toNatClampNeg iw) ar)) 13 (upd (F 13) (Int32.toNatClampNeg iw) ((F 17) (Int32.toNatClampNeg x2)))) 14 (upd (F 14) (Int32.toNatClampNeg iw) ((F 17) (Int32.toNatClampNeg x2)))) 15 (upd (F 15) (Int32.toNatClampNeg iw) ((F 17) (Int32.toNatClampNeg x2)))) G := (fx_F (fx_F (fx_F (fx_F (fx_F (fx_F (fx_F fx_rf (by decide)) (by decide)) (by decide)) (by decide)) (by decide)) (by decide)) (by decide))
          have s7_ : (va_up (va_up (va_up (va_up (va_up (va_up (va_up F 7 (upd (F 7) (Int32.toNatClampNeg iw) kd)) 8 (upd (F 8) (Int32.toNatClampNeg iw) ((F 77) (Int32.toNatClampNeg nd)))) 10 (upd (F 10) (Int32.toNatClampNeg iw) up)) 9 (upd (F 9) (Int32.toNatClampNeg iw) ar)) 13 (upd (F 13) (Int32.toNatClampNeg iw) ((F 17) (Int32.toNatClampNeg x2)))) 14 (upd (F 14) (Int32.toNatClampNeg iw) ((F 17) (Int32.toNatClampNeg x2)))) 15 (upd (F 15) (Int32.toNatClampNeg iw) ((F 17) (Int32.toNatClampNeg x2)))) 7 = (upd (F 7) (Int32.toNatClampNeg iw) kd) := rfl
          have s8_ : (va_up (va_up (va_up (va_up (va_up (va_up (va_up F 7 (upd (F 7) (Int32.toNatClampNeg iw) kd)) 8 (upd (F 8) (Int32.toNatClampNeg iw) ((F 77) (Int32.toNatClampNeg nd)))) 10 (upd (F 10) (Int32.toNatClampNeg iw) up)) 9 (upd (F 9) (Int32.toNatClampNeg iw) ar)) 13 (upd (F 13) (Int32.toNatClampNeg iw) ((F 17) (Int32.toNatClampNeg x2)))) 14 (upd (F 14) (Int32.toNatClampNeg iw) ((F 17) (Int32.toNatClampNeg x2)))) 15 (upd (F 15) (Int32.toNatClampNeg iw) ((F 17) (Int32.toNatClampNeg x2)))) 8 = (upd (F 8) (Int32.toNatClampNeg iw) ((F 77) (Int32.toNatClampNeg nd))) := rfl
          have s9_ : (va_up (va_up (va_up (va_up (va_up (va_up (va_up F 7 (upd (F 7) (Int32.toNatClampNeg iw) kd)) 8 (upd (F 8) (Int32.toNatClampNeg iw) ((F 77) (Int32.toNatClampNeg nd)))) 10 (upd (F 10) (Int32.toNatClampNeg iw) up)) 9 (upd (F 9) (Int32.toNatClampNeg iw) ar)) 13 (upd (F 13) (Int32.toNatClampNeg iw) ((F 17) (Int32.toNatClampNeg x2)))) 14 (upd (F 14) (Int32.toNatClampNeg iw) ((F 17) (Int32.toNatClampNeg x2)))) 15 (upd (F 15) (Int32.toNatClampNeg iw) ((F 17) (Int32.toNatClampNeg x2)))) 9 = (upd (F 9) (Int32.toNatClampNeg iw) ar) := rfl
          have s10_ : (va_up (va_up (va_up (va_up (va_up (va_up (va_up F 7 (upd (F 7) (Int32.toNatClampNeg iw) kd)) 8 (upd (F 8) (Int32.toNatClampNeg iw) ((F 77) (Int32.toNatClampNeg nd)))) 10 (upd (F 10) (Int32.toNatClampNeg iw) up)) 9 (upd (F 9) (Int32.toNatClampNeg iw) ar)) 13 (upd (F 13) (Int32.toNatClampNeg iw) ((F 17) (Int32.toNatClampNeg x2)))) 14 (upd (F 14) (Int32.toNatClampNeg iw) ((F 17) (Int32.toNatClampNeg x2)))) 15 (upd (F 15) (Int32.toNatClampNeg iw) ((F 17) (Int32.toNatClampNeg x2)))) 10 = (upd (F 10) (Int32.toNatClampNeg iw) up) := rfl
          have s13_ : (va_up (va_up (va_up (va_up (va_up (va_up (va_up F 7 (upd (F 7) (Int32.toNatClampNeg iw) kd)) 8 (upd (F 8) (Int32.toNatClampNeg iw) ((F 77) (Int32.toNatClampNeg nd)))) 10 (upd (F 10) (Int32.toNatClampNeg iw) up)) 9 (upd (F 9) (Int32.toNatClampNeg iw) ar)) 13 (upd (F 13) (Int32.toNatClampNeg iw) ((F 17) (Int32.toNatClampNeg x2)))) 14 (upd (F 14) (Int32.toNatClampNeg iw) ((F 17) (Int32.toNatClampNeg x2)))) 15 (upd (F 15) (Int32.toNatClampNeg iw) ((F 17) (Int32.toNatClampNeg x2)))) 13 = (upd (F 13) (Int32.toNatClampNeg iw) ((F 17) (Int32.toNatClampNeg x2))) := rfl
          have s14_ : (va_up (va_up (va_up (va_up (va_up (va_up (va_up F 7 (upd (F 7) (Int32.toNatClampNeg iw) kd)) 8 (upd (F 8) (Int32.toNatClampNeg iw) ((F 77) (Int32.toNatClampNeg nd)))) 10 (upd (F 10) (Int32.toNatClampNeg iw) up)) 9 (upd (F 9) (Int32.toNatClampNeg iw) ar)) 13 (upd (F 13) (Int32.toNatClampNeg iw) ((F 17) (Int32.toNatClampNeg x2)))) 14 (upd (F 14) (Int32.toNatClampNeg iw) ((F 17) (Int32.toNatClampNeg x2)))) 15 (upd (F 15) (Int32.toNatClampNeg iw) ((F 17) (Int32.toNatClampNeg x2)))) 14 = (upd (F 14) (Int32.toNatClampNeg iw) ((F 17) (Int32.toNatClampNeg x2))) := rfl
          have s15_ : (va_up (va_up (va_up (va_up (va_up (va_up (va_up F 7 (upd (F 7) (Int32.toNatClampNeg iw) kd)) 8 (upd (F 8) (Int32.toNatClampNeg iw) ((F 77) (Int32.toNatClampNeg nd)))) 10 (upd (F 10) (Int32.toNatClampNeg iw) up)) 9 (upd (F 9) (Int32.toNatClampNeg iw) ar)) 13 (upd (F 13) (Int32.toNatClampNeg iw) ((F 17) (Int32.toNatClampNeg x2)))) 14 (upd (F 14) (Int32.toNatClampNeg iw) ((F 17) (Int32.toNatClampNeg x2)))) 15 (upd (F 15) (Int32.toNatClampNeg iw) ((F 17) (Int32.toNatClampNeg x2)))) 15 = (upd (F 15) (Int32.toNatClampNeg iw) ((F 17) (Int32.toNatClampNeg x2))) := rfl
          have s17_ : (va_up (va_up (va_up (va_up (va_up (va_up (va_up F 7 (upd (F 7) (Int32.toNatClampNeg iw) kd)) 8 (upd (F 8) (Int32.toNatClampNeg iw) ((F 77) (Int32.toNatClampNeg nd)))) 10 (upd (F 10) (Int32.toNatClampNeg iw) up)) 9 (upd (F 9) (Int32.toNatClampNeg iw) ar)) 13 (upd (F 13) (Int32.toNatClampNeg iw) ((F 17) (Int32.toNatClampNeg x2)))) 14 (upd (F 14) (Int32.toNatClampNeg iw) ((F 17) (Int32.toNatClampNeg x2)))) 15 (upd (F 15) (Int32.toNatClampNeg iw) ((F 17) (Int32.toNatClampNeg x2)))) 17 = (F 17) := rfl
          have s19_ : (va_up (va_up (va_up (va_up (va_up (va_up (va_up F 7 (upd (F 7) (Int32.toNatClampNeg iw) kd)) 8 (upd (F 8) (Int32.toNatClampNeg iw) ((F 77) (Int32.toNatClampNeg nd)))) 10 (upd (F 10) (Int32.toNatClampNeg iw) up)) 9 (upd (F 9) (Int32.toNatClampNeg iw) ar)) 13 (upd (F 13) (Int32.toNatClampNeg iw) ((F 17) (Int32.toNatClampNeg x2)))) 14 (upd (F 14) (Int32.toNatClampNeg iw) ((F 17) (Int32.toNatClampNeg x2)))) 15 (upd (F 15) (Int32.toNatClampNeg iw) ((F 17) (Int32.toNatClampNeg x2)))) 19 = (F 19) := rfl
          have off : ∀ r, r ∈ [7, 9, 10, 13, 14, 15] → ∀ i, i ≠ 40 * f + W → (va_up (va_up (va_up (va_up (va_up (va_up (va_up F 7 (upd (F 7) (Int32.toNatClampNeg iw) kd)) 8 (upd (F 8) (Int32.toNatClampNeg iw) ((F 77) (Int32.toNatClampNeg nd)))) 10 (upd (F 10) (Int32.toNatClampNeg iw) up)) 9 (upd (F 9) (Int32.toNatClampNeg iw) ar)) 13 (upd (F 13) (Int32.toNatClampNeg iw) ((F 17) (Int32.toNatClampNeg x2)))) 14 (upd (F 14) (Int32.toNatClampNeg iw) ((F 17) (Int32.toNatClampNeg x2)))) 15 (upd (F 15) (Int32.toNatClampNeg iw) ((F 17) (Int32.toNatClampNeg x2)))) r i = F r i := by
            intro r hr i hi
            rw [← eci] at hi
            simp only [List.mem_cons, List.not_mem_nil, or_false] at hr
            rcases hr with rfl | rfl | rfl | rfl | rfl | rfl
            · rw [s7_, updE, if_neg hi]
            · rw [s9_, updE, if_neg hi]
            · rw [s10_, updE, if_neg hi]
            · rw [s13_, updE, if_neg hi]
            · rw [s14_, updE, if_neg hi]
            · rw [s15_, updE, if_neg hi]
          have v7 : (va_up (va_up (va_up (va_up (va_up (va_up (va_up F 7 (upd (F 7) (Int32.toNatClampNeg iw) kd)) 8 (upd (F 8) (Int32.toNatClampNeg iw) ((F 77) (Int32.toNatClampNeg nd)))) 10 (upd (F 10) (Int32.toNatClampNeg iw) up)) 9 (upd (F 9) (Int32.toNatClampNeg iw) ar)) 13 (upd (F 13) (Int32.toNatClampNeg iw) ((F 17) (Int32.toNatClampNeg x2)))) 14 (upd (F 14) (Int32.toNatClampNeg iw) ((F 17) (Int32.toNatClampNeg x2)))) 15 (upd (F 15) (Int32.toNatClampNeg iw) ((F 17) (Int32.toNatClampNeg x2)))) 7 (40 * f + W) = kd := by rw [s7_, ← eci, updE, if_pos rfl]
          have v13 : (va_up (va_up (va_up (va_up (va_up (va_up (va_up F 7 (upd (F 7) (Int32.toNatClampNeg iw) kd)) 8 (upd (F 8) (Int32.toNatClampNeg iw) ((F 77) (Int32.toNatClampNeg nd)))) 10 (upd (F 10) (Int32.toNatClampNeg iw) up)) 9 (upd (F 9) (Int32.toNatClampNeg iw) ar)) 13 (upd (F 13) (Int32.toNatClampNeg iw) ((F 17) (Int32.toNatClampNeg x2)))) 14 (upd (F 14) (Int32.toNatClampNeg iw) ((F 17) (Int32.toNatClampNeg x2)))) 15 (upd (F 15) (Int32.toNatClampNeg iw) ((F 17) (Int32.toNatClampNeg x2)))) 13 (40 * f + W) = F 17 (Int32.toNatClampNeg x2) := by rw [s13_, ← eci, updE, if_pos rfl]
          have v14 : (va_up (va_up (va_up (va_up (va_up (va_up (va_up F 7 (upd (F 7) (Int32.toNatClampNeg iw) kd)) 8 (upd (F 8) (Int32.toNatClampNeg iw) ((F 77) (Int32.toNatClampNeg nd)))) 10 (upd (F 10) (Int32.toNatClampNeg iw) up)) 9 (upd (F 9) (Int32.toNatClampNeg iw) ar)) 13 (upd (F 13) (Int32.toNatClampNeg iw) ((F 17) (Int32.toNatClampNeg x2)))) 14 (upd (F 14) (Int32.toNatClampNeg iw) ((F 17) (Int32.toNatClampNeg x2)))) 15 (upd (F 15) (Int32.toNatClampNeg iw) ((F 17) (Int32.toNatClampNeg x2)))) 14 (40 * f + W) = F 17 (Int32.toNatClampNeg x2) := by rw [s14_, ← eci, updE, if_pos rfl]
          have v15 : (va_up (va_up (va_up (va_up (va_up (va_up (va_up F 7 (upd (F 7) (Int32.toNatClampNeg iw) kd)) 8 (upd (F 8) (Int32.toNatClampNeg iw) ((F 77) (Int32.toNatClampNeg nd)))) 10 (upd (F 10) (Int32.toNatClampNeg iw) up)) 9 (upd (F 9) (Int32.toNatClampNeg iw) ar)) 13 (upd (F 13) (Int32.toNatClampNeg iw) ((F 17) (Int32.toNatClampNeg x2)))) 14 (upd (F 14) (Int32.toNatClampNeg iw) ((F 17) (Int32.toNatClampNeg x2)))) 15 (upd (F 15) (Int32.toNatClampNeg iw) ((F 17) (Int32.toNatClampNeg x2)))) 15 (40 * f + W) = F 17 (Int32.toNatClampNeg x2) := by rw [s15_, ← eci, updE, if_pos rfl]
          have v17 : (F 17 (Int32.toNatClampNeg x2)).toInt = (Fs 17 f).toInt := by rw [ecf, ha.1 17 (by decide)]
          have hb : LYb Fs (va_up (va_up (va_up (va_up (va_up (va_up (va_up F 7 (upd (F 7) (Int32.toNatClampNeg iw) kd)) 8 (upd (F 8) (Int32.toNatClampNeg iw) ((F 77) (Int32.toNatClampNeg nd)))) 10 (upd (F 10) (Int32.toNatClampNeg iw) up)) 9 (upd (F 9) (Int32.toNatClampNeg iw) ar)) 13 (upd (F 13) (Int32.toNatClampNeg iw) ((F 17) (Int32.toNatClampNeg x2)))) 14 (upd (F 14) (Int32.toNatClampNeg iw) ((F 17) (Int32.toNatClampNeg x2)))) 15 (upd (F 15) (Int32.toNatClampNeg iw) ((F 17) (Int32.toNatClampNeg x2)))) f W T a_ := LYb_of ha (fun r hr => hxx.2.2.1 r hr) off (by rw [s10_, ← eci, updE, if_pos rfl, c3.2]) (by unfold arF; rw [s9_, ← eci, updE, if_pos rfl]; exact qar)
          have hA9 : rAll (va_up (va_up (va_up (va_up (va_up (va_up (va_up F 7 (upd (F 7) (Int32.toNatClampNeg iw) kd)) 8 (upd (F 8) (Int32.toNatClampNeg iw) ((F 77) (Int32.toNatClampNeg nd)))) 10 (upd (F 10) (Int32.toNatClampNeg iw) up)) 9 (upd (F 9) (Int32.toNatClampNeg iw) ar)) 13 (upd (F 13) (Int32.toNatClampNeg iw) ((F 17) (Int32.toNatClampNeg x2)))) 14 (upd (F 14) (Int32.toNatClampNeg iw) ((F 17) (Int32.toNatClampNeg x2)))) 15 (upd (F 15) (Int32.toNatClampNeg iw) ((F 17) (Int32.toNatClampNeg x2)))) := by
            intro q hq
            obtain ⟨q1, q2, q3, q4⟩ := hA q hq
            have q40 := c5
            rw [s13_, s14_, s15_, s19_]
            refine ⟨?_, ?_, ?_, q4⟩ <;> (rw [updE]; split <;> omega)
          have hJ : LYJ F0 n (va_up (va_up (va_up (va_up (va_up (va_up (va_up F 7 (upd (F 7) (Int32.toNatClampNeg iw) kd)) 8 (upd (F 8) (Int32.toNatClampNeg iw) ((F 77) (Int32.toNatClampNeg nd)))) 10 (upd (F 10) (Int32.toNatClampNeg iw) up)) 9 (upd (F 9) (Int32.toNatClampNeg iw) ar)) 13 (upd (F 13) (Int32.toNatClampNeg iw) ((F 17) (Int32.toNatClampNeg x2)))) 14 (upd (F 14) (Int32.toNatClampNeg iw) ((F 17) (Int32.toNatClampNeg x2)))) 15 (upd (F 15) (Int32.toNatClampNeg iw) ((F 17) (Int32.toNatClampNeg x2)))) f fo Wn (W + 1) T := LYJ_leaf hf.2.2.1 hf.2.2.2 hc hb h83 hA9 (by rw [v7]; omega) (by rw [v13, v14, v15]; exact ⟨rfl, rfl⟩)
          refine gz_sub (lv' := [(0, .ref m), (1, .int x1), (2, .int x2)]) (by simp [List.lookup]) ?_
          exact hq_ T _ _ _ _ _ hS_11 (fx_F (fx_F (fx_F (fx_F (fx_F (fx_F (fx_F hx (by decide)) (by decide)) (by decide)) (by decide)) (by decide)) (by decide)) (by decide)) hJ
