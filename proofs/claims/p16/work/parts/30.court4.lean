set_option maxHeartbeats 4000000 in
set_option maxRecDepth 100000 in
theorem k_X1_open {l : Launch} {D : va_G} {cy : Nat → ClassId} {b : Nat} {f : gMem} {co lv sc th lg en ne ge re gv tk am p so fc c1 c2 n1 n2 : Nat} {csz da sz lo gi s v : Int32} {eg g h t : Nat → Int32} {q : Nat} {y1 y2 : Int32} {lvg : Nat → Option Nat} (hco : f co = some (.inr (1, [.ref lv, .ref sc, .ref lg, .int csz]))) (hlv : f lv = some (.inl (cy 5, 40, .inr (.inr (.inr (.inr (lvg))))))) (hp : f p = some (.inr (2, [.ref c1, .ref c2, .int s, .int v]))) (h1 : f c1 = some (.inl (cy 0, n1, .inl (g)))) (h2 : f c2 = some (.inl (cy 0, n2, .inl (h)))) (hsc : f sc = some (.inr (7, [.ref th, .int da]))) (hth : f th = some (.inl (cy 0, 6, .inl (t)))) (hlg : f lg = some (.inr (4, [.ref en, .int sz, .int lo, .ref ge, .ref re, .ref gv, .ref tk, .ref am, .int gi]))) (hen : f en = some (.inl (cy 0, ne, .inl (eg)))) (hs : 0 ≤ s.toInt ∧ 13 * s.toInt ≤ n1 ∧ n1 ≤ 520) (hv : 0 ≤ v.toInt ∧ 2 * v.toInt ≤ n2 ∧ n2 ≤ 80) (hz : 0 ≤ csz.toInt ∧ csz.toInt < 40) (hl : 0 ≤ sz.toInt ∧ sz.toInt ≤ 2000 ∧ 6 * sz.toInt ≤ ne ∧ ne ≤ 24000) (hen3 : en ≠ c1 ∧ en ≠ c2 ∧ en ≠ th) : gU l D cy b yX1_open cX1_open 5 (some .int) 19 (24000 - ne + 3) (2 * (24000 - ne) + 88) [.ref co, .ref p, .int y1, .int y2] f gTt (fun kk nn r f2 => ∃ (q so fc e2 m2 : Nat) (g2 : Nat → Int32) (s2 l2 z2 : Int32) (a2 : Int64) (x2 y3 : Nat → Int32), r = some (.int csz) ∧ f2 co = some (.inr (1, [.ref lv, .ref sc, .ref lg, .int (csz + 1)])) ∧ f2 lv = some (.inl (cy 5, 40, .inr (.inr (.inr (.inr (va_up lvg (Int32.toNatClampNeg csz) (some q))))))) ∧ f2 q = some (.inr (5, [.ref p, .int csz, .int y1, .int y2, .ref so, .ref fc, .int z2, .long a2])) ∧ f2 so = some (.inl (cy 0, 40, .inl (x2))) ∧ f2 fc = some (.inl (cy 0, 40, .inl (y3))) ∧ f2 lg = some (.inr (4, [.ref e2, .int s2, .int l2, .ref ge, .ref re, .ref gv, .ref tk, .ref am, .int gi])) ∧ f2 e2 = some (.inl (cy 0, m2, .inl (g2))) ∧ (0 ≤ s2.toInt ∧ s2.toInt ≤ 2000 ∧ 6 * s2.toInt ≤ m2 ∧ m2 ≤ 24000) ∧ (kk + ne ≤ m2 + 3 ∧ nn + 2 * ne ≤ 2 * m2 + 88) ∧ (e2 = en ∨ f e2 = none) ∧ (f q = none ∧ f so = none ∧ f fc = none ∧ so ≠ fc ∧ e2 ≠ so ∧ e2 ≠ fc) ∧ fr [co, lv, lg, en] f f2) := by
  refine gU_of (by decide) (Nat.le_of_ble_eq_true rfl) ?_
  show gG l _ _ _ D cy b cX1_open 5 _ RX1 "open" 0 0 f 0 [(0, .ref co), (1, .ref p), (2, .int y1), (3, .int y2)] []
  refine gz_aload_n dX1_open_0 rfl rfl ?_
  refine sgX1_25 hco rfl dX1_open_1 ?_
  refine gz_if_lt (tgt := 16) dX1_open_4 (by decide) (fun c_4 => ?_) (fun c_4 => ?_)
  · exfalso; have e0 : (0 : Int32).toInt = 0 := rfl; have e40 : (40 : Int32).toInt = 40 := rfl; simp only [fl_lt] at c_4; omega
  ·
    refine gz_aload_n dX1_open_7 rfl rfl ?_
    refine sgX1_25 hco rfl dX1_open_8 ?_
    refine gz_bipush (v := 40) dX1_open_11 (by decide) ?_
    refine gz_icmp_lt (tgt := 18) dX1_open_13 (by decide) (fun c_13 => ?_) (fun c_13 => ?_)
    ·
      refine snX1_9 (by simp only [gRm]; omega) (by simp only [gRm]; omega) dX1_open_18 (fun q1 hq1n => ?_)
      obtain ⟨f1, hf1⟩ : ∃ gg : gMem, gg = va_up f q1 (some (.inr (5, [.null, .int 0, .int 0, .int 0, .null, .null, .int 0, .long 0]))) := ⟨_, rfl⟩
      refine gz_eq (f2 := f1) hf1.symm rfl rfl rfl ?_
      have hco_1 : f1 co = some (.inr (1, [.ref lv, .ref sc, .ref lg, .int csz])) := by rw [hf1, va_up_ne _ _ (cnn hco hq1n)]; exact hco
      have hlv_1 : f1 lv = some (.inl (cy 5, 40, .inr (.inr (.inr (.inr (lvg)))))) := by rw [hf1, va_up_ne _ _ (cnn hlv hq1n)]; exact hlv
      have hp_1 : f1 p = some (.inr (2, [.ref c1, .ref c2, .int s, .int v])) := by rw [hf1, va_up_ne _ _ (cnn hp hq1n)]; exact hp
      have h1_1 : f1 c1 = some (.inl (cy 0, n1, .inl (g))) := by rw [hf1, va_up_ne _ _ (cnn h1 hq1n)]; exact h1
      have h2_1 : f1 c2 = some (.inl (cy 0, n2, .inl (h))) := by rw [hf1, va_up_ne _ _ (cnn h2 hq1n)]; exact h2
      have hsc_1 : f1 sc = some (.inr (7, [.ref th, .int da])) := by rw [hf1, va_up_ne _ _ (cnn hsc hq1n)]; exact hsc
      have hth_1 : f1 th = some (.inl (cy 0, 6, .inl (t))) := by rw [hf1, va_up_ne _ _ (cnn hth hq1n)]; exact hth
      have hlg_1 : f1 lg = some (.inr (4, [.ref en, .int sz, .int lo, .ref ge, .ref re, .ref gv, .ref tk, .ref am, .int gi])) := by rw [hf1, va_up_ne _ _ (cnn hlg hq1n)]; exact hlg
      have hen_1 : f1 en = some (.inl (cy 0, ne, .inl (eg))) := by rw [hf1, va_up_ne _ _ (cnn hen hq1n)]; exact hen
      have hq1_1 : f1 q1 = some (.inr (5, [.null, .int 0, .int 0, .int 0, .null, .null, .int 0, .long 0])) := by rw [hf1]; exact va_up_self _ _ _
      refine gz_dup dX1_open_21 rfl ?_
      refine gz_aload_n dX1_open_22 rfl rfl ?_
      refine gz_aload_n dX1_open_23 rfl rfl ?_
      refine sgX1_25 hco_1 rfl dX1_open_24 ?_
      refine gz_iload_n dX1_open_27 rfl rfl ?_
      refine gz_iload_n dX1_open_28 rfl rfl ?_
      refine scX1_29 (k_X5_init (p := p) (nu := csz) (ho1 := y1) (ho2 := y2) hq1_1) ⟨(Nat.le_of_ble_eq_true rfl), (Nat.le_of_ble_eq_true rfl)⟩ ⟨(by simp only [gRm]; omega), (by simp only [gRm]; omega)⟩ rfl rfl (Nat.le_of_ble_eq_true rfl) dX1_open_29 ?_
      rintro f2 ⟨so_2, fc_2, hq1_2, hso_2_2, hfc_2_2, hn3_2, hr2⟩
      have hco_2 : f2 co = some (.inr (1, [.ref lv, .ref sc, .ref lg, .int csz])) := hr2 _ _ hco_1 (by simp only [List.mem_cons, List.not_mem_nil, or_false, not_or]; exact cne hco_1 hq1_1 (by simp))
      have hlv_2 : f2 lv = some (.inl (cy 5, 40, .inr (.inr (.inr (.inr (lvg)))))) := hr2 _ _ hlv_1 (by simp only [List.mem_cons, List.not_mem_nil, or_false, not_or]; exact cne hlv_1 hq1_1 (by simp))
      have hp_2 : f2 p = some (.inr (2, [.ref c1, .ref c2, .int s, .int v])) := hr2 _ _ hp_1 (by simp only [List.mem_cons, List.not_mem_nil, or_false, not_or]; exact cne hp_1 hq1_1 (by simp))
      have h1_2 : f2 c1 = some (.inl (cy 0, n1, .inl (g))) := hr2 _ _ h1_1 (by simp only [List.mem_cons, List.not_mem_nil, or_false, not_or]; exact cne h1_1 hq1_1 (by simp))
      have h2_2 : f2 c2 = some (.inl (cy 0, n2, .inl (h))) := hr2 _ _ h2_1 (by simp only [List.mem_cons, List.not_mem_nil, or_false, not_or]; exact cne h2_1 hq1_1 (by simp))
      have hsc_2 : f2 sc = some (.inr (7, [.ref th, .int da])) := hr2 _ _ hsc_1 (by simp only [List.mem_cons, List.not_mem_nil, or_false, not_or]; exact cne hsc_1 hq1_1 (by simp))
      have hth_2 : f2 th = some (.inl (cy 0, 6, .inl (t))) := hr2 _ _ hth_1 (by simp only [List.mem_cons, List.not_mem_nil, or_false, not_or]; exact cne hth_1 hq1_1 (by simp))
      have hlg_2 : f2 lg = some (.inr (4, [.ref en, .int sz, .int lo, .ref ge, .ref re, .ref gv, .ref tk, .ref am, .int gi])) := hr2 _ _ hlg_1 (by simp only [List.mem_cons, List.not_mem_nil, or_false, not_or]; exact cne hlg_1 hq1_1 (by simp))
      have hen_2 : f2 en = some (.inl (cy 0, ne, .inl (eg))) := hr2 _ _ hen_1 (by simp only [List.mem_cons, List.not_mem_nil, or_false, not_or]; exact cne hen_1 hq1_1 (by simp))
      have hn_1 : f so_2 = none := by have z := hn3_2.1; rw [hf1] at z; exact (nb z).2
      have hn_2 : f fc_2 = none := by have z := hn3_2.2.1; rw [hf1] at z; exact (nb z).2
      refine gz_astore (lv' := [(4, .ref q1), (0, .ref co), (1, .ref p), (2, .int y1), (3, .int y2)]) dX1_open_32 (by decide) rfl ?_
      refine gz_aload_n dX1_open_34 rfl rfl ?_
      refine sgX1_11 hco_2 rfl dX1_open_35 ?_
      refine gz_aload_n dX1_open_38 rfl rfl ?_
      refine sgX1_25 hco_2 rfl dX1_open_39 ?_
      refine gz_aload dX1_open_42 rfl ?_
      refine gz_aast5 hlv_2 hq1_2 ((by exact vin_T (rfl : csz.toInt = csz.toInt) hz.1 hz.2)) dX1_open_44 ?_
      obtain ⟨f3, hf3⟩ : ∃ gg : gMem, gg = va_up f2 lv (some (.inl (cy 5, 40, .inr (.inr (.inr (.inr (va_up lvg (Int32.toNatClampNeg csz) (some q1)))))))) := ⟨_, rfl⟩
      refine gz_eq (f2 := f3) hf3.symm rfl rfl rfl ?_
      have hco_3 : f3 co = some (.inr (1, [.ref lv, .ref sc, .ref lg, .int csz])) := by rw [hf3, va_up_ne _ _ (cne hco_2 hlv_2 (by simp))]; exact hco_2
      have hp_3 : f3 p = some (.inr (2, [.ref c1, .ref c2, .int s, .int v])) := by rw [hf3, va_up_ne _ _ (cne hp_2 hlv_2 (by simp))]; exact hp_2
      have h1_3 : f3 c1 = some (.inl (cy 0, n1, .inl (g))) := by rw [hf3, va_up_ne _ _ (cne h1_2 hlv_2 (by simp))]; exact h1_2
      have h2_3 : f3 c2 = some (.inl (cy 0, n2, .inl (h))) := by rw [hf3, va_up_ne _ _ (cne h2_2 hlv_2 (by simp))]; exact h2_2
      have hsc_3 : f3 sc = some (.inr (7, [.ref th, .int da])) := by rw [hf3, va_up_ne _ _ (cne hsc_2 hlv_2 (by simp))]; exact hsc_2
      have hth_3 : f3 th = some (.inl (cy 0, 6, .inl (t))) := by rw [hf3, va_up_ne _ _ (cne hth_2 hlv_2 (by simp))]; exact hth_2
      have hlg_3 : f3 lg = some (.inr (4, [.ref en, .int sz, .int lo, .ref ge, .ref re, .ref gv, .ref tk, .ref am, .int gi])) := by rw [hf3, va_up_ne _ _ (cne hlg_2 hlv_2 (by simp))]; exact hlg_2
      have hen_3 : f3 en = some (.inl (cy 0, ne, .inl (eg))) := by rw [hf3, va_up_ne _ _ (cne hen_2 hlv_2 (by simp))]; exact hen_2
      have hq1_3 : f3 q1 = some (.inr (5, [.ref p, .int csz, .int y1, .int y2, .ref so_2, .ref fc_2, .int 0, .long 0])) := by rw [hf3, va_up_ne _ _ (cne hq1_2 hlv_2 (by simp))]; exact hq1_2
      have hso_3 : f3 so_2 = some (.inl (cy 0, 40, .inl (fun _ => 0))) := by rw [hf3, va_up_ne _ _ (cne hso_2_2 hlv_2 (by simp))]; exact hso_2_2
      have hfc_3 : f3 fc_2 = some (.inl (cy 0, 40, .inl (fun _ => 0))) := by rw [hf3, va_up_ne _ _ (cne hfc_2_2 hlv_2 (by simp))]; exact hfc_2_2
      have hlv_3 : f3 lv = some (.inl (cy 5, 40, .inr (.inr (.inr (.inr (va_up lvg (Int32.toNatClampNeg csz) (some q1))))))) := by rw [hf3]; exact va_up_self _ _ _
      refine gz_aload_n dX1_open_45 rfl rfl ?_
      refine gz_dup dX1_open_46 rfl ?_
      refine sgX1_25 hco_3 rfl dX1_open_47 ?_
      refine gz_iconst (v := 1) dX1_open_50 (by decide) ?_
      refine gz_iadd dX1_open_51 ?_
      refine spX1_25 hco_3  (Nat.le_of_ble_eq_true rfl) dX1_open_52 ?_
      obtain ⟨f4, hf4⟩ : ∃ gg : gMem, gg = va_up f3 co (some (.inr (1, [.ref lv, .ref sc, .ref lg, .int (csz + 1)]))) := ⟨_, rfl⟩
      refine gz_eq (f2 := f4) hf4.symm rfl rfl rfl ?_
      have hp_4 : f4 p = some (.inr (2, [.ref c1, .ref c2, .int s, .int v])) := by rw [hf4, va_up_ne _ _ (cne hp_3 hco_3 (by simp))]; exact hp_3
      have h1_4 : f4 c1 = some (.inl (cy 0, n1, .inl (g))) := by rw [hf4, va_up_ne _ _ (cne h1_3 hco_3 (by simp))]; exact h1_3
      have h2_4 : f4 c2 = some (.inl (cy 0, n2, .inl (h))) := by rw [hf4, va_up_ne _ _ (cne h2_3 hco_3 (by simp))]; exact h2_3
      have hsc_4 : f4 sc = some (.inr (7, [.ref th, .int da])) := by rw [hf4, va_up_ne _ _ (cne hsc_3 hco_3 (by simp))]; exact hsc_3
      have hth_4 : f4 th = some (.inl (cy 0, 6, .inl (t))) := by rw [hf4, va_up_ne _ _ (cne hth_3 hco_3 (by simp))]; exact hth_3
      have hlg_4 : f4 lg = some (.inr (4, [.ref en, .int sz, .int lo, .ref ge, .ref re, .ref gv, .ref tk, .ref am, .int gi])) := by rw [hf4, va_up_ne _ _ (cne hlg_3 hco_3 (by simp))]; exact hlg_3
      have hen_4 : f4 en = some (.inl (cy 0, ne, .inl (eg))) := by rw [hf4, va_up_ne _ _ (cne hen_3 hco_3 (by simp))]; exact hen_3
      have hq1_4 : f4 q1 = some (.inr (5, [.ref p, .int csz, .int y1, .int y2, .ref so_2, .ref fc_2, .int 0, .long 0])) := by rw [hf4, va_up_ne _ _ (cne hq1_3 hco_3 (by simp))]; exact hq1_3
      have hso_4 : f4 so_2 = some (.inl (cy 0, 40, .inl (fun _ => 0))) := by rw [hf4, va_up_ne _ _ (cne hso_3 hco_3 (by simp))]; exact hso_3
      have hfc_4 : f4 fc_2 = some (.inl (cy 0, 40, .inl (fun _ => 0))) := by rw [hf4, va_up_ne _ _ (cne hfc_3 hco_3 (by simp))]; exact hfc_3
      have hlv_4 : f4 lv = some (.inl (cy 5, 40, .inr (.inr (.inr (.inr (va_up lvg (Int32.toNatClampNeg csz) (some q1))))))) := by rw [hf4, va_up_ne _ _ (cne hlv_3 hco_3 (by simp))]; exact hlv_3
      have hco_4 : f4 co = some (.inr (1, [.ref lv, .ref sc, .ref lg, .int (csz + 1)])) := by rw [hf4]; exact va_up_self _ _ _
      refine gz_aload_n dX1_open_55 rfl rfl ?_
      refine gz_aload dX1_open_56 rfl ?_
      refine gz_iconst (v := 0) dX1_open_58 (by decide) ?_
      refine gz_iconst (v := 1) dX1_open_59 (by decide) ?_
      refine gz_iconst (v := 0) dX1_open_60 (by decide) ?_
      refine suX1_32 (k_X1_acquire hs hv ⟨hn3_2.2.2, (Ne.symm (cnn h1 hn_1)), (Ne.symm (cnn h2 hn_1)), (Ne.symm (cnn hth hn_1)), (Ne.symm (cnn h1 hn_2)), (Ne.symm (cnn h2 hn_2)), (Ne.symm (cnn hth hn_2))⟩ 13 0 1 0 en _ _ sz lo 0 0 _ _ _ hco_4 hq1_4 hso_4 hfc_4 hp_4 h1_4 h2_4 hsc_4 hth_4 hlg_4 hen_4 hl ⟨Ne.symm ((Ne.symm (cnn hen hn_1))), Ne.symm ((Ne.symm (cnn hen hn_2))), hen3.1, hen3.2.1, hen3.2.2⟩ (by decide)) hco_4 ⟨(Nat.le_of_ble_eq_true rfl), (Nat.le_of_ble_eq_true rfl)⟩ ⟨(by simp only [gRm]; omega), (by simp only [gRm]; omega)⟩ rfl rfl (Nat.le_of_ble_eq_true rfl) dX1_open_61 ?_
      rintro kk_5 nn_5 r_5 f5 ⟨e_5, m_5, g_5, s_5, l_5, z_5, a_5, x_5, y_5, rfl, hlg_5, he_5, hq1_5, hso_5, hfc_5, hl_5, hu_5, hc_5, hr5⟩
      refine gz_eq (st2 := []) rfl rfl rfl rfl ?_
      have hp_5 : f5 p = some (.inr (2, [.ref c1, .ref c2, .int s, .int v])) := hr5 _ _ hp_4 (by simp only [List.mem_cons, List.not_mem_nil, or_false, not_or]; exact ⟨cne hp_4 hlg_4 (by simp), cne hp_4 hen_4 (by simp), cne hp_4 hq1_4 (by simp), cne hp_4 hso_4 (by simp), cne hp_4 hfc_4 (by simp)⟩)
      have h1_5 : f5 c1 = some (.inl (cy 0, n1, .inl (g))) := hr5 _ _ h1_4 (by simp only [List.mem_cons, List.not_mem_nil, or_false, not_or]; exact ⟨cne h1_4 hlg_4 (by simp), Ne.symm (hen3.1), cne h1_4 hq1_4 (by simp), Ne.symm ((Ne.symm (cnn h1 hn_1))), Ne.symm ((Ne.symm (cnn h1 hn_2)))⟩)
      have h2_5 : f5 c2 = some (.inl (cy 0, n2, .inl (h))) := hr5 _ _ h2_4 (by simp only [List.mem_cons, List.not_mem_nil, or_false, not_or]; exact ⟨cne h2_4 hlg_4 (by simp), Ne.symm (hen3.2.1), cne h2_4 hq1_4 (by simp), Ne.symm ((Ne.symm (cnn h2 hn_1))), Ne.symm ((Ne.symm (cnn h2 hn_2)))⟩)
      have hsc_5 : f5 sc = some (.inr (7, [.ref th, .int da])) := hr5 _ _ hsc_4 (by simp only [List.mem_cons, List.not_mem_nil, or_false, not_or]; exact ⟨cne hsc_4 hlg_4 (by simp), cne hsc_4 hen_4 (by simp), cne hsc_4 hq1_4 (by simp), cne hsc_4 hso_4 (by simp), cne hsc_4 hfc_4 (by simp)⟩)
      have hth_5 : f5 th = some (.inl (cy 0, 6, .inl (t))) := hr5 _ _ hth_4 (by simp only [List.mem_cons, List.not_mem_nil, or_false, not_or]; exact ⟨cne hth_4 hlg_4 (by simp), Ne.symm (hen3.2.2), cne hth_4 hq1_4 (by simp), Ne.symm ((Ne.symm (cnn hth hn_1))), Ne.symm ((Ne.symm (cnn hth hn_2)))⟩)
      have hlv_5 : f5 lv = some (.inl (cy 5, 40, .inr (.inr (.inr (.inr (va_up lvg (Int32.toNatClampNeg csz) (some q1))))))) := hr5 _ _ hlv_4 (by simp only [List.mem_cons, List.not_mem_nil, or_false, not_or]; exact ⟨cne hlv_4 hlg_4 (by simp), cne hlv_4 hen_4 (by simp), cne hlv_4 hq1_4 (by simp), cne hlv_4 hso_4 (by simp), cne hlv_4 hfc_4 (by simp)⟩)
      have hco_5 : f5 co = some (.inr (1, [.ref lv, .ref sc, .ref lg, .int (csz + 1)])) := hr5 _ _ hco_4 (by simp only [List.mem_cons, List.not_mem_nil, or_false, not_or]; exact ⟨cne hco_4 hlg_4 (by simp), cne hco_4 hen_4 (by simp), cne hco_4 hq1_4 (by simp), cne hco_4 hso_4 (by simp), cne hco_4 hfc_4 (by simp)⟩)
      have hcb : e_5 = en ∨ f e_5 = none := enb (S := [co, lv, q1, so_2, fc_2]) hc_5 (by rw [hf4]; exact fr_up (by rw [hf3]; exact fr_up (fr_tr (by rw [hf1]; exact fr_up fr_rf (by simp)) (fr_mo hr2 (by simp))) (by simp)) (by simp)) (by intro z hz2; simp only [List.mem_cons, List.not_mem_nil, or_false] at hz2; rcases hz2 with rfl | rfl | rfl | rfl | rfl; exact Or.inr ⟨_, hco_4⟩; exact Or.inr ⟨_, hlv_4⟩; exact Or.inr ⟨_, hq1_4⟩; exact Or.inr ⟨_, hso_4⟩; exact Or.inr ⟨_, hfc_4⟩)
      refine gz_aload dX1_open_64 rfl ?_
      refine sgX1_36 hq1_5 rfl dX1_open_66 ?_
      exact gz_iretU rfl dX1_open_69 (by omega) (by omega) (⟨_, _, _, _, _, _, _, _, _, _, _, _, rfl, hco_5, hlv_5, hq1_5, hso_5, hfc_5, hlg_5, he_5, hl_5, ⟨by omega, by omega⟩, hcb, ⟨hq1n, hn_1, hn_2, hn3_2.2.2, (enn hc_5 hso_4 (Ne.symm ((Ne.symm (cnn hen hn_1))))), (enn hc_5 hfc_4 (Ne.symm ((Ne.symm (cnn hen hn_2)))))⟩, (fr_le (S := [co, lv, lg, en, q1, so_2, fc_2]) (fr_tr (by rw [hf4]; exact fr_up (by rw [hf3]; exact fr_up (fr_tr (by rw [hf1]; exact fr_up fr_rf (by simp)) (fr_mo hr2 (by simp))) (by simp)) (by simp)) (fr_mo hr5 (by simp))) (by intro z hz2; simp only [List.mem_cons, List.not_mem_nil, or_false] at hz2; rcases hz2 with rfl | rfl | rfl | rfl | rfl | rfl | rfl; exact Or.inl (by simp); exact Or.inl (by simp); exact Or.inl (by simp); exact Or.inl (by simp); exact Or.inr hq1n; exact Or.inr hn_1; exact Or.inr hn_2))⟩)
    · exfalso; have e0 : (0 : Int32).toInt = 0 := rfl; have e40 : (40 : Int32).toInt = 40 := rfl; simp only [fl_lt] at c_13; omega
