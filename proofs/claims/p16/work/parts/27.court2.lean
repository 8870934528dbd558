set_option maxHeartbeats 4000000 in
set_option maxRecDepth 100000 in
theorem k_X1_enter {l : Launch} {D : va_G} {cy : Nat → ClassId} {b : Nat} {f : gMem} {co lv sc th lg en ne ge re gv tk am lf p so fc c1 c2 n1 n2 : Nat} {csz da sz lo gi nu ho1 ho2 fs_ s v k0 fd : Int32} {ga : Int64} {eg sg fg g h t : Nat → Int32} (hco : f co = some (.inr (1, [.ref lv, .ref sc, .ref lg, .int csz]))) (hlf : f lf = some (.inr (5, [.ref p, .int nu, .int ho1, .int ho2, .ref so, .ref fc, .int fs_, .long ga]))) (hso : f so = some (.inl (cy 0, 40, .inl (sg)))) (hfc : f fc = some (.inl (cy 0, 40, .inl (fg)))) (hp : f p = some (.inr (2, [.ref c1, .ref c2, .int s, .int v]))) (h1 : f c1 = some (.inl (cy 0, n1, .inl (g)))) (h2 : f c2 = some (.inl (cy 0, n2, .inl (h)))) (hsc : f sc = some (.inr (7, [.ref th, .int da]))) (hth : f th = some (.inl (cy 0, 6, .inl (t)))) (hlg : f lg = some (.inr (4, [.ref en, .int sz, .int lo, .ref ge, .ref re, .ref gv, .ref tk, .ref am, .int gi]))) (hen : f en = some (.inl (cy 0, ne, .inl (eg)))) (hs : 0 ≤ s.toInt ∧ 13 * s.toInt ≤ n1 ∧ n1 ≤ 520) (hv : 0 ≤ v.toInt ∧ 2 * v.toInt ≤ n2 ∧ n2 ≤ 80) (hne : so ≠ fc ∧ so ≠ c1 ∧ so ≠ c2 ∧ so ≠ th ∧ fc ≠ c1 ∧ fc ≠ c2 ∧ fc ≠ th) (hl : 0 ≤ sz.toInt ∧ sz.toInt ≤ 2000 ∧ 6 * sz.toInt ≤ ne ∧ ne ≤ 24000) (hen2 : en ≠ so ∧ en ≠ fc ∧ en ≠ c1 ∧ en ≠ c2 ∧ en ≠ th) : gU l D cy b yX1_enter cX1_enter 6 none 19 (24000 - ne) (2 * (24000 - ne)) [.ref co, .ref lf, .int k0, .int fd] f gTt (fun kk nn r f2 => ∃ (e2 m2 : Nat) (g2 : Nat → Int32) (s2 l2 z2 : Int32) (a2 : Int64) (x2 y2 : Nat → Int32), r = none ∧ f2 lg = some (.inr (4, [.ref e2, .int s2, .int l2, .ref ge, .ref re, .ref gv, .ref tk, .ref am, .int gi])) ∧ f2 e2 = some (.inl (cy 0, m2, .inl (g2))) ∧ f2 lf = some (.inr (5, [.ref p, .int nu, .int ho1, .int ho2, .ref so, .ref fc, .int z2, .long a2])) ∧ f2 so = some (.inl (cy 0, 40, .inl (x2))) ∧ f2 fc = some (.inl (cy 0, 40, .inl (y2))) ∧ (0 ≤ s2.toInt ∧ s2.toInt ≤ 2000 ∧ 6 * s2.toInt ≤ m2 ∧ m2 ≤ 24000) ∧ (kk + ne ≤ m2 ∧ nn + 2 * ne ≤ 2 * m2) ∧ (e2 = en ∨ f e2 = none) ∧ fr [lg, en, lf, so, fc] f f2) := by
  refine gU_of (by decide) (Nat.le_of_ble_eq_true rfl) ?_
  show gG l _ _ _ D cy b cX1_enter 6 _ RX1 "enter" 0 0 f 0 [(0, .ref co), (1, .ref lf), (2, .int k0), (3, .int fd)] []
  refine gz_aload_n dX1_enter_0 rfl rfl ?_
  refine gz_iload_n dX1_enter_1 rfl rfl ?_
  refine scX1_96 (k_X5_wordAt (k := k0) hlf hso) hlf ⟨(Nat.le_of_ble_eq_true rfl), (Nat.le_of_ble_eq_true rfl)⟩ ⟨(by simp only [gRm]; omega), (by simp only [gRm]; omega)⟩ rfl rfl (Nat.le_of_ble_eq_true rfl) dX1_enter_2 ?_
  intro v9 f9 z9; rw [z9.1, z9.2]
  refine gz_istore (lv' := [(4, .int (wdAF sg fs_ k0)), (0, .ref co), (1, .ref lf), (2, .int k0), (3, .int fd)]) dX1_enter_5 (by decide) rfl ?_
  refine gz_aload_n dX1_enter_7 rfl rfl ?_
  refine gz_iload_n dX1_enter_8 rfl rfl ?_
  refine scX1_107 (k_X5_factorAt (k := k0) hlf hfc) hlf ⟨(Nat.le_of_ble_eq_true rfl), (Nat.le_of_ble_eq_true rfl)⟩ ⟨(by simp only [gRm]; omega), (by simp only [gRm]; omega)⟩ rfl rfl (Nat.le_of_ble_eq_true rfl) dX1_enter_9 ?_
  intro v9 f9 z9; rw [z9.1, z9.2]
  refine gz_istore (lv' := [(5, .int (fcAF fg fs_ k0)), (4, .int (wdAF sg fs_ k0)), (0, .ref co), (1, .ref lf), (2, .int k0), (3, .int fd)]) dX1_enter_12 (by decide) rfl ?_
  refine gz_aload_n dX1_enter_14 rfl rfl ?_
  refine gz_iload_n dX1_enter_15 rfl rfl ?_
  obtain ⟨x1, hx1⟩ : ∃ x0, (drpF sg fg fs_ k0) = x0 := ⟨_, rfl⟩
  refine scX1_110 (k_X5_drop (k0 := k0) hlf hso hfc hne.1) hlf ⟨(Nat.le_of_ble_eq_true rfl), (Nat.le_of_ble_eq_true rfl)⟩ ⟨(by simp only [gRm]; omega), (by simp only [gRm]; omega)⟩ rfl rfl (Nat.le_of_ble_eq_true rfl) dX1_enter_16 ?_
  rintro f1 ⟨hso_1, hfc_1, hlf_1, hr1⟩; rw [hx1] at hso_1 hfc_1 hlf_1
  have hco_1 : f1 co = some (.inr (1, [.ref lv, .ref sc, .ref lg, .int csz])) := hr1 _ _ hco (by simp only [List.mem_cons, List.not_mem_nil, or_false, not_or]; exact ⟨cne hco hlf (by simp), cne hco hso (by simp), cne hco hfc (by simp)⟩)
  have hp_1 : f1 p = some (.inr (2, [.ref c1, .ref c2, .int s, .int v])) := hr1 _ _ hp (by simp only [List.mem_cons, List.not_mem_nil, or_false, not_or]; exact ⟨cne hp hlf (by simp), cne hp hso (by simp), cne hp hfc (by simp)⟩)
  have h1_1 : f1 c1 = some (.inl (cy 0, n1, .inl (g))) := hr1 _ _ h1 (by simp only [List.mem_cons, List.not_mem_nil, or_false, not_or]; exact ⟨cne h1 hlf (by simp), Ne.symm (hne.2.1), Ne.symm (hne.2.2.2.2.1)⟩)
  have h2_1 : f1 c2 = some (.inl (cy 0, n2, .inl (h))) := hr1 _ _ h2 (by simp only [List.mem_cons, List.not_mem_nil, or_false, not_or]; exact ⟨cne h2 hlf (by simp), Ne.symm (hne.2.2.1), Ne.symm (hne.2.2.2.2.2.1)⟩)
  have hsc_1 : f1 sc = some (.inr (7, [.ref th, .int da])) := hr1 _ _ hsc (by simp only [List.mem_cons, List.not_mem_nil, or_false, not_or]; exact ⟨cne hsc hlf (by simp), cne hsc hso (by simp), cne hsc hfc (by simp)⟩)
  have hth_1 : f1 th = some (.inl (cy 0, 6, .inl (t))) := hr1 _ _ hth (by simp only [List.mem_cons, List.not_mem_nil, or_false, not_or]; exact ⟨cne hth hlf (by simp), Ne.symm (hne.2.2.2.1), Ne.symm (hne.2.2.2.2.2.2)⟩)
  have hlg_1 : f1 lg = some (.inr (4, [.ref en, .int sz, .int lo, .ref ge, .ref re, .ref gv, .ref tk, .ref am, .int gi])) := hr1 _ _ hlg (by simp only [List.mem_cons, List.not_mem_nil, or_false, not_or]; exact ⟨cne hlg hlf (by simp), cne hlg hso (by simp), cne hlg hfc (by simp)⟩)
  have hen_1 : f1 en = some (.inl (cy 0, ne, .inl (eg))) := hr1 _ _ hen (by simp only [List.mem_cons, List.not_mem_nil, or_false, not_or]; exact ⟨cne hen hlf (by simp), hen2.1, hen2.2.1⟩)
  refine gz_aload_n dX1_enter_19 rfl rfl ?_
  refine gz_aload_n dX1_enter_20 rfl rfl ?_
  refine gz_aload_n dX1_enter_21 rfl rfl ?_
  refine sgX1_39 hlf_1 rfl dX1_enter_22 ?_
  refine gz_iload dX1_enter_25 rfl ?_
  refine gz_iload_n dX1_enter_27 rfl rfl ?_
  refine scX1_49 (k_X2_field (w := (wdAF sg fs_ k0)) (k := fd) hp_1 h1_1 hs) hp_1 ⟨(Nat.le_of_ble_eq_true rfl), (Nat.le_of_ble_eq_true rfl)⟩ ⟨(by simp only [gRm]; omega), (by simp only [gRm]; omega)⟩ rfl rfl (Nat.le_of_ble_eq_true rfl) dX1_enter_28 ?_
  intro v9 f9 z9; rw [z9.1, z9.2]
  refine gz_iload dX1_enter_31 rfl ?_
  refine gz_iconst (v := 0) dX1_enter_33 (by decide) ?_
  refine suX1_32 (k_X1_acquire hs hv hne 13 (fldF n1 g s (wdAF sg fs_ k0) fd) (fcAF fg fs_ k0) 0 en _ _ sz lo x1.2.2 ga _ _ _ hco_1 hlf_1 hso_1 hfc_1 hp_1 h1_1 h2_1 hsc_1 hth_1 hlg_1 hen_1 hl hen2 (by decide)) hco_1 ⟨(Nat.le_of_ble_eq_true rfl), (Nat.le_of_ble_eq_true rfl)⟩ ⟨(by simp only [gRm]; omega), (by simp only [gRm]; omega)⟩ rfl rfl (Nat.le_of_ble_eq_true rfl) dX1_enter_34 ?_
  rintro kk_2 nn_2 r_2 f2 ⟨e_2, m_2, g_2, s_2, l_2, z_2, a_2, x_2, y_2, rfl, hlg_2, he_2, hlf_2, hso_2, hfc_2, hl_2, hu_2, hc_2, hr2⟩
  refine gz_eq (st2 := []) rfl rfl rfl rfl ?_
  have hco_2 : f2 co = some (.inr (1, [.ref lv, .ref sc, .ref lg, .int csz])) := hr2 _ _ hco_1 (by simp only [List.mem_cons, List.not_mem_nil, or_false, not_or]; exact ⟨cne hco_1 hlg_1 (by simp), cne hco_1 hen_1 (by simp), cne hco_1 hlf_1 (by simp), cne hco_1 hso_1 (by simp), cne hco_1 hfc_1 (by simp)⟩)
  have hp_2 : f2 p = some (.inr (2, [.ref c1, .ref c2, .int s, .int v])) := hr2 _ _ hp_1 (by simp only [List.mem_cons, List.not_mem_nil, or_false, not_or]; exact ⟨cne hp_1 hlg_1 (by simp), cne hp_1 hen_1 (by simp), cne hp_1 hlf_1 (by simp), cne hp_1 hso_1 (by simp), cne hp_1 hfc_1 (by simp)⟩)
  have h1_2 : f2 c1 = some (.inl (cy 0, n1, .inl (g))) := hr2 _ _ h1_1 (by simp only [List.mem_cons, List.not_mem_nil, or_false, not_or]; exact ⟨cne h1_1 hlg_1 (by simp), Ne.symm (hen2.2.2.1), cne h1_1 hlf_1 (by simp), Ne.symm (hne.2.1), Ne.symm (hne.2.2.2.2.1)⟩)
  have h2_2 : f2 c2 = some (.inl (cy 0, n2, .inl (h))) := hr2 _ _ h2_1 (by simp only [List.mem_cons, List.not_mem_nil, or_false, not_or]; exact ⟨cne h2_1 hlg_1 (by simp), Ne.symm (hen2.2.2.2.1), cne h2_1 hlf_1 (by simp), Ne.symm (hne.2.2.1), Ne.symm (hne.2.2.2.2.2.1)⟩)
  have hsc_2 : f2 sc = some (.inr (7, [.ref th, .int da])) := hr2 _ _ hsc_1 (by simp only [List.mem_cons, List.not_mem_nil, or_false, not_or]; exact ⟨cne hsc_1 hlg_1 (by simp), cne hsc_1 hen_1 (by simp), cne hsc_1 hlf_1 (by simp), cne hsc_1 hso_1 (by simp), cne hsc_1 hfc_1 (by simp)⟩)
  have hth_2 : f2 th = some (.inl (cy 0, 6, .inl (t))) := hr2 _ _ hth_1 (by simp only [List.mem_cons, List.not_mem_nil, or_false, not_or]; exact ⟨cne hth_1 hlg_1 (by simp), Ne.symm (hen2.2.2.2.2), cne hth_1 hlf_1 (by simp), Ne.symm (hne.2.2.2.1), Ne.symm (hne.2.2.2.2.2.2)⟩)
  have hcb_2 : e_2 = en ∨ f e_2 = none := enb (S := [lf, so, fc]) hc_2 (fr_tr fr_rf (fr_mo hr1 (by simp))) (by intro z hz2; simp only [List.mem_cons, List.not_mem_nil, or_false] at hz2; rcases hz2 with rfl | rfl | rfl; exact Or.inr ⟨_, hlf_1⟩; exact Or.inr ⟨_, hso_1⟩; exact Or.inr ⟨_, hfc_1⟩)
  exact gz_vretU rfl dX1_enter_37 (by omega) (by omega) (⟨_, _, _, _, _, _, _, _, _, rfl, hlg_2, he_2, hlf_2, hso_2, hfc_2, hl_2, ⟨by omega, by omega⟩, hcb_2, (fr_tr (fr_tr fr_rf (fr_mo hr1 (by simp))) (fr_mo hr2 (by simp)))⟩)

set_option maxHeartbeats 4000000 in
set_option maxRecDepth 100000 in
theorem l_X1_wake {l : Launch} {D : va_G} {cy : Nat → ClassId} {b : Nat} {f : gMem} {co lv sc th lg ge re gv tk am lf p so fc c1 c2 n1 n2 : Nat} {csz da gi nu ho1 ho2 s v : Int32}  {g h t : Nat → Int32} {e0 n0 : Nat}  (hs : 0 ≤ s.toInt ∧ 13 * s.toInt ≤ n1 ∧ n1 ≤ 520) (hv : 0 ≤ v.toInt ∧ 2 * v.toInt ≤ n2 ∧ n2 ≤ 80) (hne : so ≠ fc ∧ so ≠ c1 ∧ so ≠ c2 ∧ so ≠ th ∧ fc ≠ c1 ∧ fc ≠ c2 ∧ fc ≠ th) : ∀ (k : Nat) (i j : Int32) (en ne : Nat) (eg : Nat → Int32) (sz lo fs_ : Int32) (ga : Int64) (sg fg : Nat → Int32) (cu su : Nat) (fm : gMem), fr [lg, e0, lf, so, fc] f fm → (fm co = some (.inr (1, [.ref lv, .ref sc, .ref lg, .int csz]))) → (fm lf = some (.inr (5, [.ref p, .int nu, .int ho1, .int ho2, .ref so, .ref fc, .int fs_, .long ga]))) → (fm so = some (.inl (cy 0, 40, .inl (sg)))) → (fm fc = some (.inl (cy 0, 40, .inl (fg)))) → (fm p = some (.inr (2, [.ref c1, .ref c2, .int s, .int v]))) → (fm c1 = some (.inl (cy 0, n1, .inl (g)))) → (fm c2 = some (.inl (cy 0, n2, .inl (h)))) → (fm sc = some (.inr (7, [.ref th, .int da]))) → (fm th = some (.inl (cy 0, 6, .inl (t)))) → (fm lg = some (.inr (4, [.ref en, .int sz, .int lo, .ref ge, .ref re, .ref gv, .ref tk, .ref am, .int gi]))) → (fm en = some (.inl (cy 0, ne, .inl (eg)))) → (0 ≤ sz.toInt ∧ sz.toInt ≤ 2000 ∧ 6 * sz.toInt ≤ ne ∧ ne ≤ 24000) → (en ≠ so ∧ en ≠ fc ∧ en ≠ c1 ∧ en ≠ c2 ∧ en ≠ th) → (en = e0 ∨ f en = none) → (cu + n0 ≤ ne ∧ su + 2 * n0 ≤ 2 * ne) → (i.toInt ≤ 40 ∧ 0 < k ∧ i.toInt < (k : Int)) → gG l (gRm 20 (24000 - n0) (2 * (24000 - n0))) (gQuf D b (fun kk nn r f2 => ∃ (e2 m2 : Nat) (g2 : Nat → Int32) (s2 l2 z2 : Int32) (a2 : Int64) (x2 y2 : Nat → Int32), r = none ∧ f2 lg = some (.inr (4, [.ref e2, .int s2, .int l2, .ref ge, .ref re, .ref gv, .ref tk, .ref am, .int gi])) ∧ f2 e2 = some (.inl (cy 0, m2, .inl (g2))) ∧ f2 lf = some (.inr (5, [.ref p, .int nu, .int ho1, .int ho2, .ref so, .ref fc, .int z2, .long a2])) ∧ f2 so = some (.inl (cy 0, 40, .inl (x2))) ∧ f2 fc = some (.inl (cy 0, 40, .inl (y2))) ∧ (0 ≤ s2.toInt ∧ s2.toInt ≤ 2000 ∧ 6 * s2.toInt ≤ m2 ∧ m2 ≤ 24000) ∧ (kk + n0 ≤ m2 ∧ nn + 2 * n0 ≤ 2 * m2) ∧ (e2 = e0 ∨ f e2 = none) ∧ fr [lg, e0, lf, so, fc] f f2) (24000 - n0) (2 * (24000 - n0))) gTt D cy b cX1_wake 4 none RX1 "wake" (cu) (su) fm 17 [(3, .int i), (2, .int j), (0, .ref co), (1, .ref lf)] [] := by
  intro k
  induction k with
  | zero =>
    intro i j en ne eg sz lo fs_ ga sg fg cu su fm hfr hco hlf hso hfc hp h1 h2 hsc hth hlg hen hl hen2 hc0 hu0 hk
    exfalso; omega
  | succ k ih =>
    intro i j en ne eg sz lo fs_ ga sg fg cu su fm hfr hco hlf hso hfc hp h1 h2 hsc hth hlg hen hl hen2 hc0 hu0 hk
    refine gz_iload_n dX1_wake_17 rfl rfl ?_
    refine gz_if_le (tgt := 53) dX1_wake_18 (by decide) (fun c_18 => ?_) (fun c_18 => ?_)
    ·
      exact gz_vretU rfl dX1_wake_53 (by omega) (by omega) (⟨_, _, _, _, _, _, _, _, _, rfl, hlg, hen, hlf, hso, hfc, hl, ⟨by omega, by omega⟩, hc0, hfr⟩)
    ·
      refine gz_aload_n dX1_wake_21 rfl rfl ?_
      refine gz_aload_n dX1_wake_22 rfl rfl ?_
      refine gz_aload_n dX1_wake_23 rfl rfl ?_
      refine gz_iload_n dX1_wake_24 rfl rfl ?_
      refine scX1_96 (k_X5_wordAt (k := j) hlf hso) hlf ⟨(by simp only [gRm]; omega), (by simp only [gRm]; omega)⟩ ⟨(by simp only [gRm]; omega), (by simp only [gRm]; omega)⟩ rfl rfl (Nat.le_of_ble_eq_true rfl) dX1_wake_25 ?_
      intro v9 f9 z9; rw [z9.1, z9.2]
      refine scX1_100 (k_X1_rests (wd := (wdAF sg fs_ j)) hco hlf hp h1 h2 hsc hth hs hv) hco ⟨(by simp only [gRm]; omega), (by simp only [gRm]; omega)⟩ ⟨(by simp only [gRm]; omega), (by simp only [gRm]; omega)⟩ rfl rfl (Nat.le_of_ble_eq_true rfl) dX1_wake_28 ?_
      rintro r1 g1 ⟨hb1, hf1⟩; subst hf1
      refine gz_if_eq (tgt := 40) dX1_wake_31 (by decide) (fun c_31 => ?_) (fun c_31 => ?_)
      ·
        refine gz_aload_n dX1_wake_40 rfl rfl ?_
        refine gz_aload_n dX1_wake_41 rfl rfl ?_
        refine gz_iload_n dX1_wake_42 rfl rfl ?_
        refine gz_iconst (v := 3) dX1_wake_43 (by decide) ?_
        refine suX1_104 (k_X1_enter (k0 := j) (fd := 3) hco hlf hso hfc hp h1 h2 hsc hth hlg hen hs hv hne hl hen2) hco ⟨(by simp only [gRm]; omega), (by simp only [gRm]; omega)⟩ ⟨(by simp only [gRm]; omega), (by simp only [gRm]; omega)⟩ rfl rfl (Nat.le_of_ble_eq_true rfl) dX1_wake_44 ?_
        rintro kk_2 nn_2 r_2 f2 ⟨e_2, m_2, g_2, s_2, l_2, z_2, a_2, x_2, y_2, rfl, hlg_2, he_2, hlf_2, hso_2, hfc_2, hl_2, hu_2, hc_2, hr2⟩
        refine gz_eq (st2 := []) rfl rfl rfl rfl ?_
        have hco_2 : f2 co = some (.inr (1, [.ref lv, .ref sc, .ref lg, .int csz])) := hr2 _ _ hco (by simp only [List.mem_cons, List.not_mem_nil, or_false, not_or]; exact ⟨cne hco hlg (by simp), cne hco hen (by simp), cne hco hlf (by simp), cne hco hso (by simp), cne hco hfc (by simp)⟩)
        have hp_2 : f2 p = some (.inr (2, [.ref c1, .ref c2, .int s, .int v])) := hr2 _ _ hp (by simp only [List.mem_cons, List.not_mem_nil, or_false, not_or]; exact ⟨cne hp hlg (by simp), cne hp hen (by simp), cne hp hlf (by simp), cne hp hso (by simp), cne hp hfc (by simp)⟩)
        have h1_2 : f2 c1 = some (.inl (cy 0, n1, .inl (g))) := hr2 _ _ h1 (by simp only [List.mem_cons, List.not_mem_nil, or_false, not_or]; exact ⟨cne h1 hlg (by simp), Ne.symm (hen2.2.2.1), cne h1 hlf (by simp), Ne.symm (hne.2.1), Ne.symm (hne.2.2.2.2.1)⟩)
        have h2_2 : f2 c2 = some (.inl (cy 0, n2, .inl (h))) := hr2 _ _ h2 (by simp only [List.mem_cons, List.not_mem_nil, or_false, not_or]; exact ⟨cne h2 hlg (by simp), Ne.symm (hen2.2.2.2.1), cne h2 hlf (by simp), Ne.symm (hne.2.2.1), Ne.symm (hne.2.2.2.2.2.1)⟩)
        have hsc_2 : f2 sc = some (.inr (7, [.ref th, .int da])) := hr2 _ _ hsc (by simp only [List.mem_cons, List.not_mem_nil, or_false, not_or]; exact ⟨cne hsc hlg (by simp), cne hsc hen (by simp), cne hsc hlf (by simp), cne hsc hso (by simp), cne hsc hfc (by simp)⟩)
        have hth_2 : f2 th = some (.inl (cy 0, 6, .inl (t))) := hr2 _ _ hth (by simp only [List.mem_cons, List.not_mem_nil, or_false, not_or]; exact ⟨cne hth hlg (by simp), Ne.symm (hen2.2.2.2.2), cne hth hlf (by simp), Ne.symm (hne.2.2.2.1), Ne.symm (hne.2.2.2.2.2.2)⟩)
        have hcc_2 : e_2 = e0 ∨ f e_2 = none := eny (S := [lg, e0, lf, so, fc]) hc0 hc_2 hfr (by intro z hz2; simp only [List.mem_cons, List.not_mem_nil, or_false] at hz2; rcases hz2 with rfl | rfl | rfl | rfl | rfl; exact Or.inr ⟨_, hlg⟩; exact Or.inl rfl; exact Or.inr ⟨_, hlf⟩; exact Or.inr ⟨_, hso⟩; exact Or.inr ⟨_, hfc⟩)
        refine gz_iinc (v := (i + (-1))) (lv' := [(3, .int (i + (-1))), (2, .int j), (0, .ref co), (1, .ref lf)]) dX1_wake_47 rfl (congrArg (fun z => i + z) oi_m1) (by decide) rfl ?_
        refine gz_goto (tgt := 17) dX1_wake_50 (by decide) ?_
        refine gz_sub (lv' := [(3, .int (i + (-1))), (2, .int j), (0, .ref co), (1, .ref lf)]) (by simp [List.lookup]) ?_
        have hi2 : 0 < i.toInt := by have e0_ : (0 : Int32).toInt = 0 := rfl; simp only [fl_le] at c_18; omega
        have hi3 : i.toInt ≤ 2147483647 := by omega
        have hi4 : -2147483647 ≤ i.toInt := by omega
        have hx2 : (i + (-1)).toInt = i.toInt - 1 := T_dec hi4 hi3
        generalize i + (-1) = i2 at hx2 ⊢
        exact ih i2 j e_2 m_2 g_2 s_2 l_2 z_2 a_2 x_2 y_2 (cu + kk_2) (su + nn_2) _ (frx hc0 hfr hr2) hco_2 hlf_2 hso_2 hfc_2 hp_2 h1_2 h2_2 hsc_2 hth_2 hlg_2 he_2 (hl_2) (⟨(enn hc_2 hso (hen2.1)), (enn hc_2 hfc (hen2.2.1)), (enn hc_2 h1 (hen2.2.2.1)), (enn hc_2 h2 (hen2.2.2.2.1)), (enn hc_2 hth (hen2.2.2.2.2))⟩) (hcc_2) ((by omega)) ((by omega))
      ·
        refine gz_iinc (v := (j + 1)) (lv' := [(2, .int (j + 1)), (3, .int i), (0, .ref co), (1, .ref lf)]) dX1_wake_34 rfl rfl (by decide) rfl ?_
        refine gz_goto (tgt := 47) dX1_wake_37 (by decide) ?_
        refine gz_iinc (v := (i + (-1))) (lv' := [(3, .int (i + (-1))), (2, .int (j + 1)), (0, .ref co), (1, .ref lf)]) dX1_wake_47 rfl (congrArg (fun z => i + z) oi_m1) (by decide) rfl ?_
        refine gz_goto (tgt := 17) dX1_wake_50 (by decide) ?_
        refine gz_sub (lv' := [(3, .int (i + (-1))), (2, .int (j + 1)), (0, .ref co), (1, .ref lf)]) (by simp [List.lookup]) ?_
        have hi2 : 0 < i.toInt := by have e0_ : (0 : Int32).toInt = 0 := rfl; simp only [fl_le] at c_18; omega
        have hi3 : i.toInt ≤ 2147483647 := by omega
        have hi4 : -2147483647 ≤ i.toInt := by omega
        have hx2 : (i + (-1)).toInt = i.toInt - 1 := T_dec hi4 hi3
        generalize i + (-1) = i2 at hx2 ⊢
        exact ih i2 (j + 1) en ne eg sz lo fs_ ga sg fg cu su _ hfr hco hlf hso hfc hp h1 h2 hsc hth hlg hen (hl) (hen2) (hc0) ((by omega)) ((by omega))

theorem min40 {x : Int32} : (if 40 < x then 40 else x).toInt ≤ 40 := by
  by_cases h : 40 < x
  · rw [if_pos h]; decide
  · rw [if_neg h]; rw [fl_lt] at h; have e0 : (40 : Int32).toInt = 40 := rfl; omega

set_option maxHeartbeats 4000000 in
set_option maxRecDepth 100000 in
theorem k_X1_wake {l : Launch} {D : va_G} {cy : Nat → ClassId} {b : Nat} {f : gMem} {co lv sc th lg en ne ge re gv tk am lf p so fc c1 c2 n1 n2 : Nat} {csz da sz lo gi nu ho1 ho2 fs_ s v : Int32} {ga : Int64} {eg sg fg g h t : Nat → Int32} (hco : f co = some (.inr (1, [.ref lv, .ref sc, .ref lg, .int csz]))) (hlf : f lf = some (.inr (5, [.ref p, .int nu, .int ho1, .int ho2, .ref so, .ref fc, .int fs_, .long ga]))) (hso : f so = some (.inl (cy 0, 40, .inl (sg)))) (hfc : f fc = some (.inl (cy 0, 40, .inl (fg)))) (hp : f p = some (.inr (2, [.ref c1, .ref c2, .int s, .int v]))) (h1 : f c1 = some (.inl (cy 0, n1, .inl (g)))) (h2 : f c2 = some (.inl (cy 0, n2, .inl (h)))) (hsc : f sc = some (.inr (7, [.ref th, .int da]))) (hth : f th = some (.inl (cy 0, 6, .inl (t)))) (hlg : f lg = some (.inr (4, [.ref en, .int sz, .int lo, .ref ge, .ref re, .ref gv, .ref tk, .ref am, .int gi]))) (hen : f en = some (.inl (cy 0, ne, .inl (eg)))) (hs : 0 ≤ s.toInt ∧ 13 * s.toInt ≤ n1 ∧ n1 ≤ 520) (hv : 0 ≤ v.toInt ∧ 2 * v.toInt ≤ n2 ∧ n2 ≤ 80) (hne : so ≠ fc ∧ so ≠ c1 ∧ so ≠ c2 ∧ so ≠ th ∧ fc ≠ c1 ∧ fc ≠ c2 ∧ fc ≠ th) (hl : 0 ≤ sz.toInt ∧ sz.toInt ≤ 2000 ∧ 6 * sz.toInt ≤ ne ∧ ne ≤ 24000) (hen2 : en ≠ so ∧ en ≠ fc ∧ en ≠ c1 ∧ en ≠ c2 ∧ en ≠ th) : gU l D cy b yX1_wake cX1_wake 4 none 20 (24000 - ne) (2 * (24000 - ne)) [.ref co, .ref lf] f gTt (fun kk nn r f2 => ∃ (e2 m2 : Nat) (g2 : Nat → Int32) (s2 l2 z2 : Int32) (a2 : Int64) (x2 y2 : Nat → Int32), r = none ∧ f2 lg = some (.inr (4, [.ref e2, .int s2, .int l2, .ref ge, .ref re, .ref gv, .ref tk, .ref am, .int gi])) ∧ f2 e2 = some (.inl (cy 0, m2, .inl (g2))) ∧ f2 lf = some (.inr (5, [.ref p, .int nu, .int ho1, .int ho2, .ref so, .ref fc, .int z2, .long a2])) ∧ f2 so = some (.inl (cy 0, 40, .inl (x2))) ∧ f2 fc = some (.inl (cy 0, 40, .inl (y2))) ∧ (0 ≤ s2.toInt ∧ s2.toInt ≤ 2000 ∧ 6 * s2.toInt ≤ m2 ∧ m2 ≤ 24000) ∧ (kk + ne ≤ m2 ∧ nn + 2 * ne ≤ 2 * m2) ∧ (e2 = en ∨ f e2 = none) ∧ fr [lg, en, lf, so, fc] f f2) := by
  refine gU_of (by decide) (Nat.le_of_ble_eq_true rfl) ?_
  show gG l _ _ _ D cy b cX1_wake 4 _ RX1 "wake" 0 0 f 0 [(0, .ref co), (1, .ref lf)] []
  refine gz_aload_n dX1_wake_0 rfl rfl ?_
  refine gz_ifnonnull (tgt := 5) dX1_wake_1 (by decide) ?_
  refine gz_iconst (v := 0) dX1_wake_5 (by decide) ?_
  refine gz_istore_n (lv' := [(2, .int 0), (0, .ref co), (1, .ref lf)]) dX1_wake_6 rfl (by decide) rfl ?_
  refine gz_aload_n dX1_wake_7 rfl rfl ?_
  refine scX1_88 (k_X5_size hlf) hlf ⟨(Nat.le_of_ble_eq_true rfl), (Nat.le_of_ble_eq_true rfl)⟩ ⟨(by simp only [gRm]; omega), (by simp only [gRm]; omega)⟩ rfl rfl (Nat.le_of_ble_eq_true rfl) dX1_wake_8 ?_
  intro v9 f9 z9; rw [z9.1, z9.2]
  refine gz_bipush (v := 40) dX1_wake_11 (by decide) ?_
  refine scX1_91 (Nat.le_of_ble_eq_true rfl) (Nat.le_of_ble_eq_true rfl) (by simp only [gRm]; omega) (by simp only [gRm]; omega) (Nat.le_of_ble_eq_true rfl) dX1_wake_13 ?_
  refine gz_istore_n (lv' := [(3, .int (if 40 < fs_ then 40 else fs_)), (2, .int 0), (0, .ref co), (1, .ref lf)]) dX1_wake_16 rfl (by decide) rfl ?_
  refine gz_sub (lv' := [(3, .int (if 40 < fs_ then 40 else fs_)), (2, .int 0), (0, .ref co), (1, .ref lf)]) (by simp [List.lookup]) ?_
  exact l_X1_wake hs hv hne 41 (if 40 < fs_ then 40 else fs_) 0 en ne eg sz lo fs_ ga sg fg 0 0 _ fr_rf hco hlf hso hfc hp h1 h2 hsc hth hlg hen hl hen2 (Or.inl rfl) ⟨by omega, by omega⟩ ⟨min40, by decide, by have := @min40 fs_; omega⟩

set_option maxHeartbeats 4000000 in
set_option maxRecDepth 100000 in
theorem k_X1_wakeN {l : Launch} {D : va_G} {cy : Nat → ClassId} {b : Nat} {f : gMem} {co lv sc lg : Nat} {csz : Int32} (hco : f co = some (.inr (1, [.ref lv, .ref sc, .ref lg, .int csz])))  : gU l D cy b yX1_wake cX1_wake 4 none 0 0 0 [.ref co, .null] f gTt (fun kk nn r f2 => kk = 0 ∧ nn = 0 ∧ r = none ∧ f2 = f) := by
  refine gU_of (by decide) (Nat.le_of_ble_eq_true rfl) ?_
  show gG l _ _ _ D cy b cX1_wake 4 _ RX1 "wake" 0 0 f 0 [(0, .ref co), (1, .null)] []
  refine gz_aload_nN dX1_wake_0 rfl rfl ?_
  refine gz_ifnonnullN dX1_wake_1 ?_
  exact gz_vretU rfl dX1_wake_4 (Nat.le_of_ble_eq_true rfl) (Nat.le_of_ble_eq_true rfl) (⟨rfl, rfl, rfl, rfl⟩)
