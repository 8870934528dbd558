theorem mo_top {T : Nat → Int} {q W V : Nat} {c : Cn} (h : moR T 41 [] 0 0 0 = .inr (q, W, V)) : deR T 13 0 0 0 0 = .inr (q, W, V) ∧ moC T 41 [] 0 0 0 c = deC T 13 0 0 0 0 c (-1) false := by
  have m := mo_de (T := T) 13 0 0 0 0 [] rfl (by omega) (by omega) (by omega)
  have mc := mo_deC (T := T) 13 0 0 0 0 [] c rfl (by omega) (by omega) (by omega) ⟨_, h⟩
  rw [show 41 - 0 = 41 from rfl, h] at m
  cases hd : deR T 13 0 0 0 0 with
  | inl d => rw [hd] at m; cases m
  | inr r =>
    obtain ⟨q2, W2, V2⟩ := r
    rw [hd] at m mc
    have m2 : (Sum.inr (q, W, V) : Sum Nat (Nat × Nat × Nat)) = .inr (q2, W2, V2) := m
    cases m2
    exact ⟨rfl, mc⟩
set_option maxHeartbeats 4000000 in
set_option maxRecDepth 100000 in
theorem k_X12_formC {l : Launch} {D : va_G} {cy : Nat → ClassId} {b : Nat} {f : gMem} {m : Nat} {a : Nat → Nat} {f0 : gMem} {n : Nat → Int32} {z : Nat → Int64} {F : Nat → Nat → Int32} {G : Nat → Nat → Int64}   (hS : mS cy m a f0 n z F G f) (hR : RI n F) (hN : NR F) (hB : rB F) (hG : nmG G) : gC l D cy b yX12_form cX12_form 2 (some .int) 7 0 0 [.ref m] f (pI fun r f2 => ∃ (n2 : Nat → Int32) (z2 : Nat → Int64) (F2 : Nat → Nat → Int32) (G2 : Nat → Nat → Int64), mS cy m a f0 n2 z2 F2 G2 f2 ∧ fx [4, 5, 21, 22, 23, 24] [] [6, 7, 8, 9, 10, 11, 12, 13, 14, 15, 16, 17, 18, 19, 20, 25, 26] [] n z F G n2 z2 F2 G2 ∧ RI n2 F2 ∧ NR F2 ∧ r = (if (n 5).toInt = 20 then -1 else if foR (tX (F 3) (n 4)) = 0 then n 5 else (-2) - Int32.ofInt (foR (tX (F 3) (n 4)) : Int)) ∧ (n2 5).toInt = (if (n 5).toInt = 20 then 20 else if foR (tX (F 3) (n 4)) = 0 then (n 5).toInt + 1 else (n 5).toInt) ∧ (n2 4).toInt = (if (n 5).toInt = 20 then (n 4).toInt else 0) ∧ lo3 F F2 (n 5).toInt.toNat ∧ (∀ i, i < 40 * (n 5).toInt.toNat → F2 8 i = F 8 i ∧ F2 16 i = F 16 i) ∧ (∀ g : Nat, (g : Int) < (n 5).toInt → agF F F2 g) ∧ (¬ (n 5).toInt = 20 → foR (tX (F 3) (n 4)) = 0 → ∃ q W V, deR (tX (F 3) (n 4)) 13 0 0 0 0 = .inr (q, W, V) ∧ (F2 6 (n 5).toInt.toNat).toInt = (W : Int) ∧ LR F2 (n 5).toInt.toNat (deC (tX (F 3) (n 4)) 13 0 0 0 0 (fun _ _ => -1) (-1) false) W V ∧ (F2 17 (n 5).toInt.toNat).toInt = (V : Int) ∧ vsF F2 (n 5).toInt.toNat 0 W ≤ V)) := by
  obtain ⟨a0, a4, a5, bA, bW, a30, bL, a38, bP, a53, a47, a88⟩ := id hR
  refine gC_of (by decide) (Nat.le_of_ble_eq_true rfl) ?_
  show gG l _ _ _ D cy b cX12_form 2 _ RX12 "form" 0 0 f 0 [(0, .ref m)] []
  refine gz_aload_n dX12_form_0 rfl rfl ?_
  refine mg_307 hS dX12_form_1 ?_
  refine gz_bipush (v := 20) dX12_form_4 (by decide) ?_
  refine gz_icmp_ne (tgt := 11) dX12_form_6 (by decide) (fun c_6 => ?_) (fun c_6 => ?_)
  ·
    try simp only [mIn_0, lgc_lt, lgc_gt, lgc_le, lgc_ge, lgc_eq] at c_6
    try simp only [fl_lt, fl_le, fl_eq, fL_w, fL_lt, fL_le, tm1, tm10k, tm9, tm99, Int32.reduceToInt, Int64.reduceToInt, Int.not_lt, Int.not_le] at c_6
    refine gz_aload_n dX12_form_11 rfl rfl ?_
    refine gz_iconst (v := 0) dX12_form_12 (by decide) ?_
    refine mp_272 hS dX12_form_13 (fun f_1 hS_1 => ?_)
    refine gz_aload_n dX12_form_16 rfl rfl ?_
    refine gz_iconst (v := 0) dX12_form_17 (by decide) ?_
    refine mp_269 hS_1 dX12_form_18 (fun f_2 hS_2 => ?_)
    refine gz_aload_n dX12_form_21 rfl rfl ?_
    obtain ⟨ff, hff⟩ : ∃ ff : Nat, (n 5).toInt = ff := ⟨(n 5).toInt.toNat, by omega⟩
    refine scX12_334 (k_X12_textC (ff := ff) hS_2 (by (try rw [(show (va_up (va_up n 21 0) 22 0) 21 = 0 from rfl)]); (try rw [(show (va_up (va_up n 21 0) 22 0) 4 = (n 4) from rfl)]); have e0 : (0 : Int32).toInt = 0 := rfl; omega) (by rw [(show (va_up (va_up n 21 0) 22 0) 5 = (n 5) from rfl)]; omega) bA hB (by (try rw [(show (va_up (va_up n 21 0) 22 0) 22 = 0 from rfl)]); have e0 : (0 : Int32).toInt = 0 := rfl; omega) hG (by (try rw [(show (va_up (va_up n 21 0) 22 0) 21 = 0 from rfl)]); have e0 : (0 : Int32).toInt = 0 := rfl; omega)) hS_2.1 ⟨(Nat.le_of_ble_eq_true rfl), (Nat.le_of_ble_eq_true rfl)⟩ ⟨(Nat.le_of_ble_eq_true rfl), (Nat.le_of_ble_eq_true rfl)⟩ rfl rfl (Nat.le_of_ble_eq_true rfl) dX12_form_22 ?_
    rintro r_3 f_3 ⟨n_3, z_3, F_3, G_3, hS_3, hx3, hb_3, hT_3, hA_3, hg_3, hyes_3, hE_3, hl3_3, hl8_3, hCo_3⟩
    try simp only [(show (va_up (va_up n 21 0) 22 0) 21 = 0 from rfl)] at hb_3 hT_3 hA_3 hg_3 hyes_3 hE_3 hl3_3 hl8_3 hCo_3
    try simp only [(show (va_up (va_up n 21 0) 22 0) 22 = 0 from rfl)] at hb_3 hT_3 hA_3 hg_3 hyes_3 hE_3 hl3_3 hl8_3 hCo_3
    try simp only [(show (va_up (va_up n 21 0) 22 0) 23 = (n 23) from rfl)] at hb_3 hT_3 hA_3 hg_3 hyes_3 hE_3 hl3_3 hl8_3 hCo_3
    try simp only [(show (va_up (va_up n 21 0) 22 0) 24 = (n 24) from rfl)] at hb_3 hT_3 hA_3 hg_3 hyes_3 hE_3 hl3_3 hl8_3 hCo_3
    have eff : (n 5).toInt.toNat = ff := by omega
    try rw [show (va_up (va_up n 21 0) 22 0) 4 = n 4 from rfl] at hCo_3
    rw [show (va_up (va_up n 21 0) 22 0) 4 = n 4 from rfl] at hE_3
    refine gz_istore_n (lv' := [(1, .int r_3), (0, .ref m)]) dX12_form_25 rfl (by decide) rfl ?_
    refine gz_aload_n dX12_form_26 rfl rfl ?_
    refine gz_iconst (v := 0) dX12_form_27 (by decide) ?_
    refine mp_262 hS_3 dX12_form_28 (fun f_4 hS_4 => ?_)
    refine gz_iload_n dX12_form_31 rfl rfl ?_
    refine gz_if_ne (tgt := 43) dX12_form_32 (by decide) (fun c_32 => ?_) (fun c_32 => ?_)
    ·
      try simp only [mIn_0, lgc_lt, lgc_gt, lgc_le, lgc_ge, lgc_eq] at c_32
      try simp only [fl_lt, fl_le, fl_eq, fL_w, fL_lt, fL_le, tm1, tm10k, tm9, tm99, Int32.reduceToInt, Int64.reduceToInt, Int.not_lt, Int.not_le] at c_32
      refine gz_aload_n dX12_form_43 rfl rfl ?_
      refine gz_dup dX12_form_44 rfl ?_
      refine mg_307 hS_4 dX12_form_45 ?_
      refine gz_ev (w := .int (n 5)) (congrArg Value.int (hx3.1 5 (by decide))) ?_
      refine gz_iconst (v := 1) dX12_form_48 (by decide) ?_
      refine gz_iadd dX12_form_49 ?_
      refine mp_307 hS_4 dX12_form_50 (fun f_5 hS_5 => ?_)
      refine gz_aload_n dX12_form_53 rfl rfl ?_
      refine mg_307 hS_5 dX12_form_54 ?_
      refine gz_ev (w := .int ((n 5) + 1)) rfl ?_
      refine gz_iconst (v := 1) dX12_form_57 (by decide) ?_
      refine gz_isub dX12_form_58 ?_
      have hxx : fx [4, 5, 21, 22, 23, 24] [] [6, 7, 8, 9, 10, 11, 12, 13, 14, 15, 16, 17, 18, 19, 20, 25, 26] [] n z F G (va_up (va_up n_3 4 0) 5 ((n 5) + 1)) z_3 F_3 G_3 := (fx_n (fx_n (fx_tr (fx_n (fx_n fx_rf (by decide)) (by decide)) hx3 (by decide)) (by decide)) (by decide))
      have hN9 := NR_fx hN hxx (by decide)
      have h20 : ¬ (n 5).toInt = 20 := by omega
      have v5 : ((va_up (va_up n_3 4 0) 5 ((n 5) + 1)) 5).toInt = (ff : Int) + 1 := by rw [(show (va_up (va_up n_3 4 0) 5 ((n 5) + 1)) 5 = ((n 5) + 1) from rfl)]; have q := T_add hff (show (1 : Int32).toInt = 1 from rfl) (by omega); exact q
      have hfin : fOK F_3 ff := hyes_3 (by rcases hb_3 with z | z; (exfalso; have z0 : r_3.toInt = 0 := (by rw [z]; rfl); omega); (exact z))
      have hR8 : RI (va_up (va_up (va_up n_3 4 0) 5 ((n 5) + 1)) 4 (n 4)) F_3 := RI_lay (c := ff) hR hff (by omega) hg_3 hA_3 hfin v5 (fun k hk => by by_cases e : k = 4; (rw [e]; rfl); (rw [va_up_ne _ _ e]; exact hxx.1 k (fun h => by simp only [List.mem_cons, List.not_mem_nil, or_false] at h hk; omega))) (fun k hk => hxx.2.2.1 k (by revert k; decide))
      have hR9 : RI (va_up (va_up n_3 4 0) 5 ((n 5) + 1)) F_3 := RI_n4 hR8 (by show 0 ≤ (0 : Int32).toInt ∧ (0 : Int32).toInt ≤ 400; decide) (fun k hk => (va_up_ne _ _ (fun e => by simp only [List.mem_cons, List.not_mem_nil, or_false] at hk; omega)).symm)
      have hf1 : foR (tX (F 3) (n 4)) = 0 := by
        rcases hE_3 with z | z
        · exact z.1
        · exfalso; have y := congrArg Int32.toInt z.2.1; rw [show ((0 : Int32)).toInt = 0 from rfl] at y; omega
      exact gz_iret rfl dX12_form_59 (Nat.le_of_ble_eq_true rfl) (Nat.le_of_ble_eq_true rfl) (⟨_, rfl, _, _, _, _, hS_5, hxx, hR9, hN9, (by rw [if_neg h20, if_pos hf1]; exact Int32.toInt_inj.mp (by have q := (T_sub (T_add (rfl : ((n 5)).toInt = ((n 5)).toInt) (show (1 : Int32).toInt = 1 from rfl) (by omega)) (show (1 : Int32).toInt = 1 from rfl) (by omega)); omega)), (by rw [if_neg h20, if_pos hf1]; omega), (by rw [if_neg h20]; rfl), (by rw [eff]; exact hl3_3), (by rw [eff]; exact hl8_3), (fun g hgn => hg_3 g (by omega)), (fun _ _ => by
        rw [eff]
        obtain ⟨q, W, V, y1, y2, y3, y6, y7⟩ := hCo_3 (by rcases hb_3 with z | z; (exfalso; have z0 : r_3.toInt = 0 := (by rw [z]; rfl); omega); (exact z))
        obtain ⟨y4, y5⟩ := mo_top (c := fun _ _ => -1) y1
        rw [← y5]; exact ⟨q, W, V, y4, y2, y3, y6, y7⟩)⟩)
    ·
      try simp only [mIn_0, lgc_lt, lgc_gt, lgc_le, lgc_ge, lgc_eq] at c_32
      try simp only [fl_lt, fl_le, fl_eq, fL_w, fL_lt, fL_le, tm1, tm10k, tm9, tm99, Int32.reduceToInt, Int64.reduceToInt, Int.not_lt, Int.not_le] at c_32
      refine gz_bipush (v := (-2)) dX12_form_35 (by decide) ?_
      refine gz_aload_n dX12_form_37 rfl rfl ?_
      refine mg_269 hS_4 dX12_form_38 ?_
      refine gz_ev (w := .int (n_3 22)) rfl ?_
      refine gz_isub dX12_form_41 ?_
      have hxx : fx [4, 5, 21, 22, 23, 24] [] [6, 7, 8, 9, 10, 11, 12, 13, 14, 15, 16, 17, 18, 19, 20, 25, 26] [] n z F G (va_up n_3 4 0) z_3 F_3 G_3 := (fx_n (fx_tr (fx_n (fx_n fx_rf (by decide)) (by decide)) hx3 (by decide)) (by decide))
      have hN9 := NR_fx hN hxx (by decide)
      have h20 : ¬ (n 5).toInt = 20 := by omega
      have e5 : (va_up n_3 4 0) 5 = n 5 := (hx3.1 5 (by decide))
      have hR9 : RI (va_up n_3 4 0) F_3 := RI_old (c := ff) hR hff hg_3 hA_3 (by show 0 ≤ (0 : Int32).toInt ∧ (0 : Int32).toInt ≤ 400; decide) (fun k hk => by by_cases e : k = 5; (rw [e]; exact e5); (exact hxx.1 k (fun h => by simp only [List.mem_cons, List.not_mem_nil, or_false] at h hk; omega))) (fun k hk => hxx.2.2.1 k (by revert k; decide))
      have hf1 : foR (tX (F 3) (n 4)) ≠ 0 ∧ (n_3 22).toInt = (foR (tX (F 3) (n 4)) : Int) := by
        rcases hE_3 with z | z
        · exfalso; have y := congrArg Int32.toInt z.2; rw [show ((1 : Int32)).toInt = 1 from rfl] at y; omega
        · exact ⟨z.1, z.2.2⟩
      exact gz_iret rfl dX12_form_42 (Nat.le_of_ble_eq_true rfl) (Nat.le_of_ble_eq_true rfl) (⟨_, rfl, _, _, _, _, hS_4, hxx, hR9, hN9, (by rw [if_neg h20, if_neg hf1.1, ← hf1.2, Int32.ofInt_toInt]), (by rw [if_neg h20, if_neg hf1.1, e5]), (by rw [if_neg h20]; rfl), (by rw [eff]; exact hl3_3), (by rw [eff]; exact hl8_3), (fun g hgn => hg_3 g (by omega)), (fun _ z => absurd z hf1.1)⟩)
  ·
    try simp only [mIn_0, lgc_lt, lgc_gt, lgc_le, lgc_ge, lgc_eq] at c_6
    try simp only [fl_lt, fl_le, fl_eq, fL_w, fL_lt, fL_le, tm1, tm10k, tm9, tm99, Int32.reduceToInt, Int64.reduceToInt, Int.not_lt, Int.not_le] at c_6
    refine gz_iconst (v := (-1)) dX12_form_9 (by decide) ?_
    exact gz_iret rfl dX12_form_10 (Nat.le_of_ble_eq_true rfl) (Nat.le_of_ble_eq_true rfl) (⟨_, rfl, _, _, _, _, hS, fx_rf, hR, hN, (by rw [if_pos (by omega)]), (by rw [if_pos (by omega)]; omega), (by rw [if_pos (by omega)]), lo3_eq rfl rfl rfl, (fun _ _ => ⟨rfl, rfl⟩), (fun _ _ => ⟨rfl, fun _ _ _ _ => rfl⟩), (fun z => absurd (show (n 5).toInt = 20 by omega) z)⟩)
