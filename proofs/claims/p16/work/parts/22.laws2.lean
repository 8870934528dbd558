theorem cpsL_ok {n1 n2 m1 m2 : Nat} {g h : Nat → Int32} {s v qs x y le_ cl_ st_ : Int32} {m : Int} (hqs : 0 ≤ qs.toInt ∧ 13 * qs.toInt ≤ m1 ∧ m1 ≤ 520) : ∀ (k : Nat) (i : Int32) (hh : Nat → Int32) (qv : Int32) (gq : Nat → Int32), (0 ≤ qv.toInt ∧ 2 * qv.toInt ≤ m2 ∧ m2 ≤ 80) → fI gq m → (0 ≤ (cpsL n1 n2 m1 m2 g h s v qs x y le_ cl_ st_ k i hh qv gq).2.1.toInt ∧ 2 * (cpsL n1 n2 m1 m2 g h s v qs x y le_ cl_ st_ k i hh qv gq).2.1.toInt ≤ m2 ∧ m2 ≤ 80) ∧ fI (cpsL n1 n2 m1 m2 g h s v qs x y le_ cl_ st_ k i hh qv gq).2.2 m
  | 0, i, hh, qv, gq, hqv, hI => ⟨hqv, hI⟩
  | k + 1, i, hh, qv, gq, hqv, hI => by
    have s5 : ∀ (g' : Nat → Int32) (w x : Int32), fI g' m → fI (stF m1 g' qs w 5 x) m := fun g' w x h => fI_st hqs h (Or.inl (by decide))
    have s6 : ∀ (g' : Nat → Int32) (w x : Int32), fI g' m → fI (stF m1 g' qs w 6 x) m := fun g' w x h => fI_st hqs h (Or.inl (by decide))
    have s7 : ∀ (g' : Nat → Int32) (w x : Int32), fI g' m → fI (stF m1 g' qs w 7 x) m := fun g' w x h => fI_st hqs h (Or.inl (by decide))
    have s8 : ∀ (g' : Nat → Int32) (w x : Int32), fI g' m → fI (stF m1 g' qs w 8 x) m := fun g' w x h => fI_st hqs h (Or.inl (by decide))
    unfold cpsL; simp only [lett]
    split
    · with_reducible exact ⟨hqv, s8 _ _ _ (s7 _ _ _ (s6 _ _ _ (s5 _ _ _ hI)))⟩
    · split
      · with_reducible exact ⟨hqv, s8 _ _ _ (s7 _ _ _ (s6 _ _ _ (s5 _ _ _ hI)))⟩
      · with_reducible exact cpsL_ok hqs k _ _ _ _ (addF_ok hqv) hI
theorem cpsF_ok {n1 n2 m1 m2 : Nat} {g h gq hh : Nat → Int32} {s v qs qv x y : Int32} {m : Int} (hqs : 0 ≤ qs.toInt ∧ 13 * qs.toInt ≤ m1 ∧ m1 ≤ 520) (hqv : 0 ≤ qv.toInt ∧ 2 * qv.toInt ≤ m2 ∧ m2 ≤ 80) (hI : fI gq m) : (0 ≤ (cpsF n1 n2 m1 m2 g h gq hh s v qs qv x y).2.1.toInt ∧ 2 * (cpsF n1 n2 m1 m2 g h gq hh s v qs qv x y).2.1.toInt ≤ m2 ∧ m2 ≤ 80) ∧ fI (cpsF n1 n2 m1 m2 g h gq hh s v qs qv x y).2.2 m := by
  unfold cpsF; with_reducible exact cpsL_ok hqs _ _ _ _ _ hqv hI

set_option maxHeartbeats 4000000 in
set_option maxRecDepth 100000 in
theorem k_X3_copyDeed {l : Launch} {D : va_G} {cy : Nat → ClassId} {b : Nat} {p c1 c2 n1 n2 q d1 d2 m1 m2 : Nat} {s v : Int32} {g h : Nat → Int32}   (hs : 0 ≤ s.toInt ∧ 13 * s.toInt ≤ n1 ∧ n1 ≤ 520) (hv : 0 ≤ v.toInt ∧ 2 * v.toInt ≤ n2 ∧ n2 ≤ 80) (hne : p ≠ q ∧ c1 ≠ d1 ∧ c1 ≠ d2 ∧ c2 ≠ d1 ∧ c2 ≠ d2 ∧ d1 ≠ d2) : ∀ (k : Nat) (x ar qs qv : Int32) (gq hh : Nat → Int32) (f : gMem), (f p = some (.inr (2, [.ref c1, .ref c2, .int s, .int v]))) → (f c1 = some (.inl (cy 0, n1, .inl (g)))) → (f c2 = some (.inl (cy 0, n2, .inl (h)))) → (f q = some (.inr (2, [.ref d1, .ref d2, .int qs, .int qv]))) → (f d1 = some (.inl (cy 0, m1, .inl (gq)))) → (f d2 = some (.inl (cy 0, m2, .inl (hh)))) → (0 ≤ qs.toInt ∧ 13 * qs.toInt ≤ m1 ∧ m1 ≤ 520) → (0 ≤ qv.toInt ∧ 2 * qv.toInt ≤ m2 ∧ m2 ≤ 80) → (fI gq qs.toInt) → (40 - qs.toInt < (k : Int)) → gC l D cy b yX3_copyDeed cX3_copyDeed 6 none (4 + 1 * k) 0 0 [.ref p, .int x, .ref q, .int ar] f (pV fun f2 => ∃ (s2 v2 : Int32) (g2 h2 : Nat → Int32), f2 q = some (.inr (2, [.ref d1, .ref d2, .int s2, .int v2])) ∧ f2 d1 = some (.inl (cy 0, m1, .inl (g2))) ∧ f2 d2 = some (.inl (cy 0, m2, .inl (h2))) ∧ (0 ≤ s2.toInt ∧ 13 * s2.toInt ≤ m1 ∧ m1 ≤ 520) ∧ (0 ≤ v2.toInt ∧ 2 * v2.toInt ≤ m2 ∧ m2 ≤ 80) ∧ fI g2 s2.toInt ∧ qs.toInt ≤ s2.toInt ∧ fr [q, d1, d2] f f2) := by
  intro k
  induction k with
  | zero =>
    intro x ar qs qv gq hh f hp h1 h2 hq0 hd1 hd2 hqs hqv hI hk
    exfalso; omega
  | succ k ih =>
    intro x ar qs qv gq hh f hp h1 h2 hq0 hd1 hd2 hqs hqv hI hk
    refine gC_of (by decide) (Nat.le_of_ble_eq_true rfl) ?_
    show gG l _ _ _ D cy b cX3_copyDeed 6 _ RX3 "copyDeed" 0 0 f 0 [(0, .ref p), (1, .int x), (2, .ref q), (3, .int ar)] []
    refine gz_aload_n dX3_copyDeed_0 rfl rfl ?_
    refine gz_iload_n dX3_copyDeed_1 rfl rfl ?_
    refine gz_iconst (v := 0) dX3_copyDeed_2 (by decide) ?_
    refine scX3_52 (k_X2_field (w := x) (k := 0) hp h1 hs) hp ⟨(by simp only [gRm]; omega), (by simp only [gRm]; omega)⟩ ⟨(Nat.le_of_ble_eq_true rfl), (Nat.le_of_ble_eq_true rfl)⟩ rfl rfl (Nat.le_of_ble_eq_true rfl) dX3_copyDeed_3 ?_
    intro v9 f9 z9; rw [z9.1, z9.2]
    refine gz_istore (lv' := [(4, .int (fldF n1 g s x 0)), (0, .ref p), (1, .int x), (2, .ref q), (3, .int ar)]) dX3_copyDeed_6 (by decide) rfl ?_
    refine gz_iload dX3_copyDeed_8 rfl ?_
    refine gz_iconst (v := (-1)) dX3_copyDeed_10 (by decide) ?_
    refine gz_icmp_ne (tgt := 15) dX3_copyDeed_11 (by decide) (fun c_11 => ?_) (fun c_11 => ?_)
    ·
      refine gz_aload_n dX3_copyDeed_15 rfl rfl ?_
      refine gz_iload dX3_copyDeed_16 rfl ?_
      refine gz_iload_n dX3_copyDeed_18 rfl rfl ?_
      obtain ⟨x1, hx1⟩ : ∃ x0, (grwF m1 gq qs (fldF n1 g s x 0) ar) = x0 := ⟨_, rfl⟩
      refine scX3_72 (k_X2_grow (kd := (fldF n1 g s x 0)) (ar := ar) hq0 hd1 hqs) hq0 ⟨(by simp only [gRm]; omega), (by simp only [gRm]; omega)⟩ ⟨(Nat.le_of_ble_eq_true rfl), (Nat.le_of_ble_eq_true rfl)⟩ rfl rfl (Nat.le_of_ble_eq_true rfl) dX3_copyDeed_19 ?_
      rintro r1 f1 ⟨z1, hd1_1, hq0_1, hr1⟩; rw [hx1] at z1 hd1_1 hq0_1; rw [z1]
      have hp_1 : f1 p = some (.inr (2, [.ref c1, .ref c2, .int s, .int v])) := hr1 _ _ hp (by simp only [List.mem_cons, List.not_mem_nil, or_false, not_or]; exact ⟨hne.1, cne hp hd1 (by simp)⟩)
      have h1_1 : f1 c1 = some (.inl (cy 0, n1, .inl (g))) := hr1 _ _ h1 (by simp only [List.mem_cons, List.not_mem_nil, or_false, not_or]; exact ⟨cne h1 hq0 (by simp), hne.2.1⟩)
      have h2_1 : f1 c2 = some (.inl (cy 0, n2, .inl (h))) := hr1 _ _ h2 (by simp only [List.mem_cons, List.not_mem_nil, or_false, not_or]; exact ⟨cne h2 hq0 (by simp), hne.2.2.2.1⟩)
      have hd2_1 : f1 d2 = some (.inl (cy 0, m2, .inl (hh))) := hr1 _ _ hd2 (by simp only [List.mem_cons, List.not_mem_nil, or_false, not_or]; exact ⟨cne hd2 hq0 (by simp), Ne.symm (hne.2.2.2.2.2)⟩)
      have hGx1 := grwF_ok (kd := (fldF n1 g s x 0)) (ar := ar) hqs hI
      rw [hx1] at hGx1
      refine gz_istore (lv' := [(5, .int x1.1), (4, .int (fldF n1 g s x 0)), (0, .ref p), (1, .int x), (2, .ref q), (3, .int ar)]) dX3_copyDeed_22 (by decide) rfl ?_
      refine gz_iload dX3_copyDeed_24 rfl ?_
      refine gz_iconst (v := (-1)) dX3_copyDeed_26 (by decide) ?_
      refine gz_icmp_ne (tgt := 31) dX3_copyDeed_27 (by decide) (fun c_27 => ?_) (fun c_27 => ?_)
      ·
        refine gz_aload_n dX3_copyDeed_31 rfl rfl ?_
        refine gz_iload dX3_copyDeed_32 rfl ?_
        refine gz_iconst (v := 2) dX3_copyDeed_34 (by decide) ?_
        refine gz_aload_n dX3_copyDeed_35 rfl rfl ?_
        refine gz_iload_n dX3_copyDeed_36 rfl rfl ?_
        refine gz_iconst (v := 2) dX3_copyDeed_37 (by decide) ?_
        refine scX3_52 (k_X2_field (w := x) (k := 2) hp_1 h1_1 hs) hp_1 ⟨(by simp only [gRm]; omega), (by simp only [gRm]; omega)⟩ ⟨(Nat.le_of_ble_eq_true rfl), (Nat.le_of_ble_eq_true rfl)⟩ rfl rfl (Nat.le_of_ble_eq_true rfl) dX3_copyDeed_38 ?_
        intro v9 f9 z9; rw [z9.1, z9.2]
        refine scX3_55 (k_X2_setField (w := x1.1) (k := 2) (x := (fldF n1 g s x 2)) hq0_1 hd1_1 hGx1.1) hq0_1 ⟨(by simp only [gRm]; omega), (by simp only [gRm]; omega)⟩ ⟨(Nat.le_of_ble_eq_true rfl), (Nat.le_of_ble_eq_true rfl)⟩ rfl rfl (Nat.le_of_ble_eq_true rfl) dX3_copyDeed_41 ?_
        rintro f2 ⟨hd1_2, hr2⟩
        have hp_2 : f2 p = some (.inr (2, [.ref c1, .ref c2, .int s, .int v])) := hr2 _ _ hp_1 (by simp only [List.mem_cons, List.not_mem_nil, or_false, not_or]; exact cne hp_1 hd1_1 (by simp))
        have h1_2 : f2 c1 = some (.inl (cy 0, n1, .inl (g))) := hr2 _ _ h1_1 (by simp only [List.mem_cons, List.not_mem_nil, or_false, not_or]; exact hne.2.1)
        have h2_2 : f2 c2 = some (.inl (cy 0, n2, .inl (h))) := hr2 _ _ h2_1 (by simp only [List.mem_cons, List.not_mem_nil, or_false, not_or]; exact hne.2.2.2.1)
        have hd2_2 : f2 d2 = some (.inl (cy 0, m2, .inl (hh))) := hr2 _ _ hd2_1 (by simp only [List.mem_cons, List.not_mem_nil, or_false, not_or]; exact Ne.symm (hne.2.2.2.2.2))
        have hq0_2 : f2 q = some (.inr (2, [.ref d1, .ref d2, .int x1.2.2, .int qv])) := hr2 _ _ hq0_1 (by simp only [List.mem_cons, List.not_mem_nil, or_false, not_or]; exact cne hq0_1 hd1_1 (by simp))
        have hI_2 : fI (stF m1 x1.2.1 x1.2.2 x1.1 2 (fldF n1 g s x 2)) x1.2.2.toInt := fI_st hGx1.1 hGx1.2.1 (Or.inl (by decide))
        refine gz_iload dX3_copyDeed_44 rfl ?_
        refine scX3_75 (k_X11_hasSum (x := (fldF n1 g s x 0))) ⟨(by simp only [gRm]; omega), (by simp only [gRm]; omega)⟩ ⟨(Nat.le_of_ble_eq_true rfl), (Nat.le_of_ble_eq_true rfl)⟩ rfl rfl (Nat.le_of_ble_eq_true rfl) dX3_copyDeed_46 ?_
        intro v9 f9 z9; rw [z9.1, z9.2]
        refine gz_if_eq (tgt := 60) dX3_copyDeed_49 (by decide) (fun c_49 => ?_) (fun c_49 => ?_)
        ·
          refine gz_iload dX3_copyDeed_60 rfl ?_
          refine scX3_82 (k_X11_hasDeed (x := (fldF n1 g s x 0))) ⟨(by simp only [gRm]; omega), (by simp only [gRm]; omega)⟩ ⟨(Nat.le_of_ble_eq_true rfl), (Nat.le_of_ble_eq_true rfl)⟩ rfl rfl (Nat.le_of_ble_eq_true rfl) dX3_copyDeed_62 ?_
          intro v9 f9 z9; rw [z9.1, z9.2]
          refine gz_if_eq (tgt := 81) dX3_copyDeed_65 (by decide) (fun c_65 => ?_) (fun c_65 => ?_)
          ·
            refine gz_iload dX3_copyDeed_81 rfl ?_
            refine scX3_85 (k_X11_hasPair (x := (fldF n1 g s x 0))) ⟨(by simp only [gRm]; omega), (by simp only [gRm]; omega)⟩ ⟨(Nat.le_of_ble_eq_true rfl), (Nat.le_of_ble_eq_true rfl)⟩ rfl rfl (Nat.le_of_ble_eq_true rfl) dX3_copyDeed_83 ?_
            intro v9 f9 z9; rw [z9.1, z9.2]
            refine gz_if_eq (tgt := 102) dX3_copyDeed_86 (by decide) (fun c_86 => ?_) (fun c_86 => ?_)
            ·
              exact gz_vret rfl dX3_copyDeed_102 (Nat.le_of_ble_eq_true rfl) (Nat.le_of_ble_eq_true rfl) (⟨rfl, _, _, _, _, hq0_2, hd1_2, hd2_2, hGx1.1, hqv, hI_2, (by rcases hGx1.2.2 with hg1 | hg1 <;> first | (rw [hg1.2]; exact Int.le_refl _) | omega), (fr_tr (fr_tr fr_rf (fr_mo hr1 (by simp))) (fr_mo hr2 (by simp)))⟩)
            ·
              refine gz_aload_n dX3_copyDeed_89 rfl rfl ?_
              refine gz_aload_n dX3_copyDeed_90 rfl rfl ?_
              refine gz_iload_n dX3_copyDeed_91 rfl rfl ?_
              refine gz_iconst (v := 4) dX3_copyDeed_92 (by decide) ?_
              refine scX3_52 (k_X2_field (w := x) (k := 4) hp_2 h1_2 hs) hp_2 ⟨(by simp only [gRm]; omega), (by simp only [gRm]; omega)⟩ ⟨(Nat.le_of_ble_eq_true rfl), (Nat.le_of_ble_eq_true rfl)⟩ rfl rfl (Nat.le_of_ble_eq_true rfl) dX3_copyDeed_93 ?_
              intro v9 f9 z9; rw [z9.1, z9.2]
              refine gz_aload_n dX3_copyDeed_96 rfl rfl ?_
              refine gz_iload dX3_copyDeed_97 rfl ?_
              have hmo : qs.toInt + 1 ≤ x1.2.2.toInt := by rcases hGx1.2.2 with hg1 | hg1 <;> first | exact absurd hg1.1 c_27 | omega
              refine scX3_27 (ih (fldF n1 g s x 4) x1.1 x1.2.2 qv (stF m1 x1.2.1 x1.2.2 x1.1 2 (fldF n1 g s x 2)) hh _ hp_2 h1_2 h2_2 hq0_2 hd1_2 hd2_2 hGx1.1 hqv hI_2 (by have := hmo; have := hGx1.1; omega)) ⟨(by simp only [gRm]; omega), (by simp only [gRm]; omega)⟩ ⟨(Nat.le_of_ble_eq_true rfl), (Nat.le_of_ble_eq_true rfl)⟩ rfl rfl (Nat.le_of_ble_eq_true rfl) dX3_copyDeed_99 ?_
              rintro f3 ⟨s_3, v_3, g_3, h_3, hq0_3, hd1_3, hd2_3, hqs_3, hqv_3, hI_3, hle_3, hr3⟩
              have hp_3 : f3 p = some (.inr (2, [.ref c1, .ref c2, .int s, .int v])) := hr3 _ _ hp_2 (by simp only [List.mem_cons, List.not_mem_nil, or_false, not_or]; exact ⟨hne.1, cne hp_2 hd1_2 (by simp), cne hp_2 hd2_2 (by simp)⟩)
              have h1_3 : f3 c1 = some (.inl (cy 0, n1, .inl (g))) := hr3 _ _ h1_2 (by simp only [List.mem_cons, List.not_mem_nil, or_false, not_or]; exact ⟨cne h1_2 hq0_2 (by simp), hne.2.1, hne.2.2.1⟩)
              have h2_3 : f3 c2 = some (.inl (cy 0, n2, .inl (h))) := hr3 _ _ h2_2 (by simp only [List.mem_cons, List.not_mem_nil, or_false, not_or]; exact ⟨cne h2_2 hq0_2 (by simp), hne.2.2.2.1, hne.2.2.2.2.1⟩)
              have hmo_3 : qs.toInt + 1 ≤ s_3.toInt := by have := hmo; omega
              exact gz_vret rfl dX3_copyDeed_102 (Nat.le_of_ble_eq_true rfl) (Nat.le_of_ble_eq_true rfl) (⟨rfl, _, _, _, _, hq0_3, hd1_3, hd2_3, hqs_3, hqv_3, hI_3, (by have := hmo_3; omega), (fr_tr (fr_tr (fr_tr fr_rf (fr_mo hr1 (by simp))) (fr_mo hr2 (by simp))) (fr_mo hr3 (by simp)))⟩)
          ·
            refine gz_aload_n dX3_copyDeed_68 rfl rfl ?_
            refine gz_aload_n dX3_copyDeed_69 rfl rfl ?_
            refine gz_iload_n dX3_copyDeed_70 rfl rfl ?_
            refine gz_iconst (v := 3) dX3_copyDeed_71 (by decide) ?_
            refine scX3_52 (k_X2_field (w := x) (k := 3) hp_2 h1_2 hs) hp_2 ⟨(by simp only [gRm]; omega), (by simp only [gRm]; omega)⟩ ⟨(Nat.le_of_ble_eq_true rfl), (Nat.le_of_ble_eq_true rfl)⟩ rfl rfl (Nat.le_of_ble_eq_true rfl) dX3_copyDeed_72 ?_
            intro v9 f9 z9; rw [z9.1, z9.2]
            refine gz_aload_n dX3_copyDeed_75 rfl rfl ?_
            refine gz_iload dX3_copyDeed_76 rfl ?_
            have hmo : qs.toInt + 1 ≤ x1.2.2.toInt := by rcases hGx1.2.2 with hg1 | hg1 <;> first | exact absurd hg1.1 c_27 | omega
            refine scX3_27 (ih (fldF n1 g s x 3) x1.1 x1.2.2 qv (stF m1 x1.2.1 x1.2.2 x1.1 2 (fldF n1 g s x 2)) hh _ hp_2 h1_2 h2_2 hq0_2 hd1_2 hd2_2 hGx1.1 hqv hI_2 (by have := hmo; have := hGx1.1; omega)) ⟨(by simp only [gRm]; omega), (by simp only [gRm]; omega)⟩ ⟨(Nat.le_of_ble_eq_true rfl), (Nat.le_of_ble_eq_true rfl)⟩ rfl rfl (Nat.le_of_ble_eq_true rfl) dX3_copyDeed_78 ?_
            rintro f4 ⟨s_4, v_4, g_4, h_4, hq0_4, hd1_4, hd2_4, hqs_4, hqv_4, hI_4, hle_4, hr4⟩
            have hp_4 : f4 p = some (.inr (2, [.ref c1, .ref c2, .int s, .int v])) := hr4 _ _ hp_2 (by simp only [List.mem_cons, List.not_mem_nil, or_false, not_or]; exact ⟨hne.1, cne hp_2 hd1_2 (by simp), cne hp_2 hd2_2 (by simp)⟩)
            have h1_4 : f4 c1 = some (.inl (cy 0, n1, .inl (g))) := hr4 _ _ h1_2 (by simp only [List.mem_cons, List.not_mem_nil, or_false, not_or]; exact ⟨cne h1_2 hq0_2 (by simp), hne.2.1, hne.2.2.1⟩)
            have h2_4 : f4 c2 = some (.inl (cy 0, n2, .inl (h))) := hr4 _ _ h2_2 (by simp only [List.mem_cons, List.not_mem_nil, or_false, not_or]; exact ⟨cne h2_2 hq0_2 (by simp), hne.2.2.2.1, hne.2.2.2.2.1⟩)
            have hmo_4 : qs.toInt + 1 ≤ s_4.toInt := by have := hmo; omega
            refine gz_iload dX3_copyDeed_81 rfl ?_
            refine scX3_85 (k_X11_hasPair (x := (fldF n1 g s x 0))) ⟨(by simp only [gRm]; omega), (by simp only [gRm]; omega)⟩ ⟨(Nat.le_of_ble_eq_true rfl), (Nat.le_of_ble_eq_true rfl)⟩ rfl rfl (Nat.le_of_ble_eq_true rfl) dX3_copyDeed_83 ?_
            intro v9 f9 z9; rw [z9.1, z9.2]
            refine gz_if_eq (tgt := 102) dX3_copyDeed_86 (by decide) (fun c_86 => ?_) (fun c_86 => ?_)
            ·
              exact gz_vret rfl dX3_copyDeed_102 (Nat.le_of_ble_eq_true rfl) (Nat.le_of_ble_eq_true rfl) (⟨rfl, _, _, _, _, hq0_4, hd1_4, hd2_4, hqs_4, hqv_4, hI_4, (by have := hmo_4; omega), (fr_tr (fr_tr (fr_tr fr_rf (fr_mo hr1 (by simp))) (fr_mo hr2 (by simp))) (fr_mo hr4 (by simp)))⟩)
            ·
              refine gz_aload_n dX3_copyDeed_89 rfl rfl ?_
              refine gz_aload_n dX3_copyDeed_90 rfl rfl ?_
              refine gz_iload_n dX3_copyDeed_91 rfl rfl ?_
              refine gz_iconst (v := 4) dX3_copyDeed_92 (by decide) ?_
              refine scX3_52 (k_X2_field (w := x) (k := 4) hp_4 h1_4 hs) hp_4 ⟨(by simp only [gRm]; omega), (by simp only [gRm]; omega)⟩ ⟨(Nat.le_of_ble_eq_true rfl), (Nat.le_of_ble_eq_true rfl)⟩ rfl rfl (Nat.le_of_ble_eq_true rfl) dX3_copyDeed_93 ?_
              intro v9 f9 z9; rw [z9.1, z9.2]
              refine gz_aload_n dX3_copyDeed_96 rfl rfl ?_
              refine gz_iload dX3_copyDeed_97 rfl ?_
              refine scX3_27 (ih (fldF n1 g s x 4) x1.1 s_4 v_4 g_4 h_4 _ hp_4 h1_4 h2_4 hq0_4 hd1_4 hd2_4 hqs_4 hqv_4 hI_4 (by have := hmo_4; have := hqs_4; omega)) ⟨(by simp only [gRm]; omega), (by simp only [gRm]; omega)⟩ ⟨(Nat.le_of_ble_eq_true rfl), (Nat.le_of_ble_eq_true rfl)⟩ rfl rfl (Nat.le_of_ble_eq_true rfl) dX3_copyDeed_99 ?_
              rintro f5 ⟨s_5, v_5, g_5, h_5, hq0_5, hd1_5, hd2_5, hqs_5, hqv_5, hI_5, hle_5, hr5⟩
              have hp_5 : f5 p = some (.inr (2, [.ref c1, .ref c2, .int s, .int v])) := hr5 _ _ hp_4 (by simp only [List.mem_cons, List.not_mem_nil, or_false, not_or]; exact ⟨hne.1, cne hp_4 hd1_4 (by simp), cne hp_4 hd2_4 (by simp)⟩)
              have h1_5 : f5 c1 = some (.inl (cy 0, n1, .inl (g))) := hr5 _ _ h1_4 (by simp only [List.mem_cons, List.not_mem_nil, or_false, not_or]; exact ⟨cne h1_4 hq0_4 (by simp), hne.2.1, hne.2.2.1⟩)
              have h2_5 : f5 c2 = some (.inl (cy 0, n2, .inl (h))) := hr5 _ _ h2_4 (by simp only [List.mem_cons, List.not_mem_nil, or_false, not_or]; exact ⟨cne h2_4 hq0_4 (by simp), hne.2.2.2.1, hne.2.2.2.2.1⟩)
              have hmo_5 : qs.toInt + 1 ≤ s_5.toInt := by have := hmo_4; omega
              exact gz_vret rfl dX3_copyDeed_102 (Nat.le_of_ble_eq_true rfl) (Nat.le_of_ble_eq_true rfl) (⟨rfl, _, _, _, _, hq0_5, hd1_5, hd2_5, hqs_5, hqv_5, hI_5, (by have := hmo_5; omega), (fr_tr (fr_tr (fr_tr (fr_tr fr_rf (fr_mo hr1 (by simp))) (fr_mo hr2 (by simp))) (fr_mo hr4 (by simp))) (fr_mo hr5 (by simp)))⟩)
        ·
          refine gz_aload_n dX3_copyDeed_52 rfl rfl ?_
          refine gz_iload_n dX3_copyDeed_53 rfl rfl ?_
          refine gz_aload_n dX3_copyDeed_54 rfl rfl ?_
          refine gz_iload dX3_copyDeed_55 rfl ?_
          obtain ⟨x2, hx2⟩ : ∃ x0, (cpsF n1 n2 m1 m2 g h (stF m1 x1.2.1 x1.2.2 x1.1 2 (fldF n1 g s x 2)) hh s v x1.2.2 qv x x1.1) = x0 := ⟨_, rfl⟩
          refine scX3_79 (k_X3_copySums (x := x) (y := x1.1) hp_2 h1_2 h2_2 hq0_2 hd1_2 hd2_2 hs hv hGx1.1 hqv hne) ⟨(by simp only [gRm]; omega), (by simp only [gRm]; omega)⟩ ⟨(Nat.le_of_ble_eq_true rfl), (Nat.le_of_ble_eq_true rfl)⟩ rfl rfl (Nat.le_of_ble_eq_true rfl) dX3_copyDeed_57 ?_
          rintro f6 ⟨hd2_6, hq0_6, hd1_6, hr6⟩; rw [hx2] at hd2_6 hq0_6 hd1_6
          have hp_6 : f6 p = some (.inr (2, [.ref c1, .ref c2, .int s, .int v])) := hr6 _ _ hp_2 (by simp only [List.mem_cons, List.not_mem_nil, or_false, not_or]; exact ⟨hne.1, cne hp_2 hd1_2 (by simp), cne hp_2 hd2_2 (by simp)⟩)
          have h1_6 : f6 c1 = some (.inl (cy 0, n1, .inl (g))) := hr6 _ _ h1_2 (by simp only [List.mem_cons, List.not_mem_nil, or_false, not_or]; exact ⟨cne h1_2 hq0_2 (by simp), hne.2.1, hne.2.2.1⟩)
          have h2_6 : f6 c2 = some (.inl (cy 0, n2, .inl (h))) := hr6 _ _ h2_2 (by simp only [List.mem_cons, List.not_mem_nil, or_false, not_or]; exact ⟨cne h2_2 hq0_2 (by simp), hne.2.2.2.1, hne.2.2.2.2.1⟩)
          have hCx2 := cpsF_ok (n1 := n1) (n2 := n2) (g := g) (h := h) (hh := hh) (s := s) (v := v) (x := x) (y := x1.1) hGx1.1 hqv hI_2
          rw [hx2] at hCx2
          refine gz_iload dX3_copyDeed_60 rfl ?_
          refine scX3_82 (k_X11_hasDeed (x := (fldF n1 g s x 0))) ⟨(by simp only [gRm]; omega), (by simp only [gRm]; omega)⟩ ⟨(Nat.le_of_ble_eq_true rfl), (Nat.le_of_ble_eq_true rfl)⟩ rfl rfl (Nat.le_of_ble_eq_true rfl) dX3_copyDeed_62 ?_
          intro v9 f9 z9; rw [z9.1, z9.2]
          refine gz_if_eq (tgt := 81) dX3_copyDeed_65 (by decide) (fun c_65 => ?_) (fun c_65 => ?_)
          ·
            refine gz_iload dX3_copyDeed_81 rfl ?_
            refine scX3_85 (k_X11_hasPair (x := (fldF n1 g s x 0))) ⟨(by simp only [gRm]; omega), (by simp only [gRm]; omega)⟩ ⟨(Nat.le_of_ble_eq_true rfl), (Nat.le_of_ble_eq_true rfl)⟩ rfl rfl (Nat.le_of_ble_eq_true rfl) dX3_copyDeed_83 ?_
            intro v9 f9 z9; rw [z9.1, z9.2]
            refine gz_if_eq (tgt := 102) dX3_copyDeed_86 (by decide) (fun c_86 => ?_) (fun c_86 => ?_)
            ·
              exact gz_vret rfl dX3_copyDeed_102 (Nat.le_of_ble_eq_true rfl) (Nat.le_of_ble_eq_true rfl) (⟨rfl, _, _, _, _, hq0_6, hd1_6, hd2_6, hGx1.1, hCx2.1, hCx2.2, (by rcases hGx1.2.2 with hg1 | hg1 <;> first | (rw [hg1.2]; exact Int.le_refl _) | omega), (fr_tr (fr_tr (fr_tr fr_rf (fr_mo hr1 (by simp))) (fr_mo hr2 (by simp))) (fr_mo hr6 (by simp)))⟩)
            ·
              refine gz_aload_n dX3_copyDeed_89 rfl rfl ?_
              refine gz_aload_n dX3_copyDeed_90 rfl rfl ?_
              refine gz_iload_n dX3_copyDeed_91 rfl rfl ?_
              refine gz_iconst (v := 4) dX3_copyDeed_92 (by decide) ?_
              refine scX3_52 (k_X2_field (w := x) (k := 4) hp_6 h1_6 hs) hp_6 ⟨(by simp only [gRm]; omega), (by simp only [gRm]; omega)⟩ ⟨(Nat.le_of_ble_eq_true rfl), (Nat.le_of_ble_eq_true rfl)⟩ rfl rfl (Nat.le_of_ble_eq_true rfl) dX3_copyDeed_93 ?_
              intro v9 f9 z9; rw [z9.1, z9.2]
              refine gz_aload_n dX3_copyDeed_96 rfl rfl ?_
              refine gz_iload dX3_copyDeed_97 rfl ?_
              have hmo : qs.toInt + 1 ≤ x1.2.2.toInt := by rcases hGx1.2.2 with hg1 | hg1 <;> first | exact absurd hg1.1 c_27 | omega
              refine scX3_27 (ih (fldF n1 g s x 4) x1.1 x1.2.2 x2.2.1 x2.2.2 x2.1 _ hp_6 h1_6 h2_6 hq0_6 hd1_6 hd2_6 hGx1.1 hCx2.1 hCx2.2 (by have := hmo; have := hGx1.1; omega)) ⟨(by simp only [gRm]; omega), (by simp only [gRm]; omega)⟩ ⟨(Nat.le_of_ble_eq_true rfl), (Nat.le_of_ble_eq_true rfl)⟩ rfl rfl (Nat.le_of_ble_eq_true rfl) dX3_copyDeed_99 ?_
              rintro f7 ⟨s_7, v_7, g_7, h_7, hq0_7, hd1_7, hd2_7, hqs_7, hqv_7, hI_7, hle_7, hr7⟩
              have hp_7 : f7 p = some (.inr (2, [.ref c1, .ref c2, .int s, .int v])) := hr7 _ _ hp_6 (by simp only [List.mem_cons, List.not_mem_nil, or_false, not_or]; exact ⟨hne.1, cne hp_6 hd1_6 (by simp), cne hp_6 hd2_6 (by simp)⟩)
              have h1_7 : f7 c1 = some (.inl (cy 0, n1, .inl (g))) := hr7 _ _ h1_6 (by simp only [List.mem_cons, List.not_mem_nil, or_false, not_or]; exact ⟨cne h1_6 hq0_6 (by simp), hne.2.1, hne.2.2.1⟩)
              have h2_7 : f7 c2 = some (.inl (cy 0, n2, .inl (h))) := hr7 _ _ h2_6 (by simp only [List.mem_cons, List.not_mem_nil, or_false, not_or]; exact ⟨cne h2_6 hq0_6 (by simp), hne.2.2.2.1, hne.2.2.2.2.1⟩)
              have hmo_7 : qs.toInt + 1 ≤ s_7.toInt := by have := hmo; omega
              exact gz_vret rfl dX3_copyDeed_102 (Nat.le_of_ble_eq_true rfl) (Nat.le_of_ble_eq_true rfl) (⟨rfl, _, _, _, _, hq0_7, hd1_7, hd2_7, hqs_7, hqv_7, hI_7, (by have := hmo_7; omega), (fr_tr (fr_tr (fr_tr (fr_tr fr_rf (fr_mo hr1 (by simp))) (fr_mo hr2 (by simp))) (fr_mo hr6 (by simp))) (fr_mo hr7 (by simp)))⟩)
          ·
            refine gz_aload_n dX3_copyDeed_68 rfl rfl ?_
            refine gz_aload_n dX3_copyDeed_69 rfl rfl ?_
            refine gz_iload_n dX3_copyDeed_70 rfl rfl ?_
            refine gz_iconst (v := 3) dX3_copyDeed_71 (by decide) ?_
            refine scX3_52 (k_X2_field (w := x) (k := 3) hp_6 h1_6 hs) hp_6 ⟨(by simp only [gRm]; omega), (by simp only [gRm]; omega)⟩ ⟨(Nat.le_of_ble_eq_true rfl), (Nat.le_of_ble_eq_true rfl)⟩ rfl rfl (Nat.le_of_ble_eq_true rfl) dX3_copyDeed_72 ?_
            intro v9 f9 z9; rw [z9.1, z9.2]
            refine gz_aload_n dX3_copyDeed_75 rfl rfl ?_
            refine gz_iload dX3_copyDeed_76 rfl ?_
            have hmo : qs.toInt + 1 ≤ x1.2.2.toInt := by rcases hGx1.2.2 with hg1 | hg1 <;> first | exact absurd hg1.1 c_27 | omega
            refine scX3_27 (ih (fldF n1 g s x 3) x1.1 x1.2.2 x2.2.1 x2.2.2 x2.1 _ hp_6 h1_6 h2_6 hq0_6 hd1_6 hd2_6 hGx1.1 hCx2.1 hCx2.2 (by have := hmo; have := hGx1.1; omega)) ⟨(by simp only [gRm]; omega), (by simp only [gRm]; omega)⟩ ⟨(Nat.le_of_ble_eq_true rfl), (Nat.le_of_ble_eq_true rfl)⟩ rfl rfl (Nat.le_of_ble_eq_true rfl) dX3_copyDeed_78 ?_
            rintro f8 ⟨s_8, v_8, g_8, h_8, hq0_8, hd1_8, hd2_8, hqs_8, hqv_8, hI_8, hle_8, hr8⟩
            have hp_8 : f8 p = some (.inr (2, [.ref c1, .ref c2, .int s, .int v])) := hr8 _ _ hp_6 (by simp only [List.mem_cons, List.not_mem_nil, or_false, not_or]; exact ⟨hne.1, cne hp_6 hd1_6 (by simp), cne hp_6 hd2_6 (by simp)⟩)
            have h1_8 : f8 c1 = some (.inl (cy 0, n1, .inl (g))) := hr8 _ _ h1_6 (by simp only [List.mem_cons, List.not_mem_nil, or_false, not_or]; exact ⟨cne h1_6 hq0_6 (by simp), hne.2.1, hne.2.2.1⟩)
            have h2_8 : f8 c2 = some (.inl (cy 0, n2, .inl (h))) := hr8 _ _ h2_6 (by simp only [List.mem_cons, List.not_mem_nil, or_false, not_or]; exact ⟨cne h2_6 hq0_6 (by simp), hne.2.2.2.1, hne.2.2.2.2.1⟩)
            have hmo_8 : qs.toInt + 1 ≤ s_8.toInt := by have := hmo; omega
            refine gz_iload dX3_copyDeed_81 rfl ?_
            refine scX3_85 (k_X11_hasPair (x := (fldF n1 g s x 0))) ⟨(by simp only [gRm]; omega), (by simp only [gRm]; omega)⟩ ⟨(Nat.le_of_ble_eq_true rfl), (Nat.le_of_ble_eq_true rfl)⟩ rfl rfl (Nat.le_of_ble_eq_true rfl) dX3_copyDeed_83 ?_
            intro v9 f9 z9; rw [z9.1, z9.2]
            refine gz_if_eq (tgt := 102) dX3_copyDeed_86 (by decide) (fun c_86 => ?_) (fun c_86 => ?_)
            ·
              exact gz_vret rfl dX3_copyDeed_102 (Nat.le_of_ble_eq_true rfl) (Nat.le_of_ble_eq_true rfl) (⟨rfl, _, _, _, _, hq0_8, hd1_8, hd2_8, hqs_8, hqv_8, hI_8, (by have := hmo_8; omega), (fr_tr (fr_tr (fr_tr (fr_tr fr_rf (fr_mo hr1 (by simp))) (fr_mo hr2 (by simp))) (fr_mo hr6 (by simp))) (fr_mo hr8 (by simp)))⟩)
            ·
              refine gz_aload_n dX3_copyDeed_89 rfl rfl ?_
              refine gz_aload_n dX3_copyDeed_90 rfl rfl ?_
              refine gz_iload_n dX3_copyDeed_91 rfl rfl ?_
              refine gz_iconst (v := 4) dX3_copyDeed_92 (by decide) ?_
              refine scX3_52 (k_X2_field (w := x) (k := 4) hp_8 h1_8 hs) hp_8 ⟨(by simp only [gRm]; omega), (by simp only [gRm]; omega)⟩ ⟨(Nat.le_of_ble_eq_true rfl), (Nat.le_of_ble_eq_true rfl)⟩ rfl rfl (Nat.le_of_ble_eq_true rfl) dX3_copyDeed_93 ?_
              intro v9 f9 z9; rw [z9.1, z9.2]
              refine gz_aload_n dX3_copyDeed_96 rfl rfl ?_
              refine gz_iload dX3_copyDeed_97 rfl ?_
              refine scX3_27 (ih (fldF n1 g s x 4) x1.1 s_8 v_8 g_8 h_8 _ hp_8 h1_8 h2_8 hq0_8 hd1_8 hd2_8 hqs_8 hqv_8 hI_8 (by have := hmo_8; have := hqs_8; omega)) ⟨(by simp only [gRm]; omega), (by simp only [gRm]; omega)⟩ ⟨(Nat.le_of_ble_eq_true rfl), (Nat.le_of_ble_eq_true rfl)⟩ rfl rfl (Nat.le_of_ble_eq_true rfl) dX3_copyDeed_99 ?_
              rintro f9 ⟨s_9, v_9, g_9, h_9, hq0_9, hd1_9, hd2_9, hqs_9, hqv_9, hI_9, hle_9, hr9⟩
              have hp_9 : f9 p = some (.inr (2, [.ref c1, .ref c2, .int s, .int v])) := hr9 _ _ hp_8 (by simp only [List.mem_cons, List.not_mem_nil, or_false, not_or]; exact ⟨hne.1, cne hp_8 hd1_8 (by simp), cne hp_8 hd2_8 (by simp)⟩)
              have h1_9 : f9 c1 = some (.inl (cy 0, n1, .inl (g))) := hr9 _ _ h1_8 (by simp only [List.mem_cons, List.not_mem_nil, or_false, not_or]; exact ⟨cne h1_8 hq0_8 (by simp), hne.2.1, hne.2.2.1⟩)
              have h2_9 : f9 c2 = some (.inl (cy 0, n2, .inl (h))) := hr9 _ _ h2_8 (by simp only [List.mem_cons, List.not_mem_nil, or_false, not_or]; exact ⟨cne h2_8 hq0_8 (by simp), hne.2.2.2.1, hne.2.2.2.2.1⟩)
              have hmo_9 : qs.toInt + 1 ≤ s_9.toInt := by have := hmo_8; omega
              exact gz_vret rfl dX3_copyDeed_102 (Nat.le_of_ble_eq_true rfl) (Nat.le_of_ble_eq_true rfl) (⟨rfl, _, _, _, _, hq0_9, hd1_9, hd2_9, hqs_9, hqv_9, hI_9, (by have := hmo_9; omega), (fr_tr (fr_tr (fr_tr (fr_tr (fr_tr fr_rf (fr_mo hr1 (by simp))) (fr_mo hr2 (by simp))) (fr_mo hr6 (by simp))) (fr_mo hr8 (by simp))) (fr_mo hr9 (by simp)))⟩)
      ·
        exact gz_vret rfl dX3_copyDeed_30 (Nat.le_of_ble_eq_true rfl) (Nat.le_of_ble_eq_true rfl) (⟨rfl, _, _, _, _, hq0_1, hd1_1, hd2_1, hGx1.1, hqv, hGx1.2.1, (by rcases hGx1.2.2 with hg1 | hg1 <;> first | (rw [hg1.2]; exact Int.le_refl _) | omega), (fr_tr fr_rf (fr_mo hr1 (by simp)))⟩)
    ·
      exact gz_vret rfl dX3_copyDeed_14 (Nat.le_of_ble_eq_true rfl) (Nat.le_of_ble_eq_true rfl) (⟨rfl, _, _, _, _, hq0, hd1, hd2, hqs, hqv, hI, (by omega), fr_rf⟩)

set_option maxHeartbeats 4000000 in
set_option maxRecDepth 100000 in
theorem k_X3_alike {l : Launch} {D : va_G} {cy : Nat → ClassId} {b : Nat} {p c1 c2 n1 n2 q d1 d2 m1 m2 : Nat} {s v qs qv : Int32} {g h gq hh : Nat → Int32}   (hs : 0 ≤ s.toInt ∧ 13 * s.toInt ≤ n1 ∧ n1 ≤ 520) (hv : 0 ≤ v.toInt ∧ 2 * v.toInt ≤ n2 ∧ n2 ≤ 80) (hqs : 0 ≤ qs.toInt ∧ 13 * qs.toInt ≤ m1 ∧ m1 ≤ 520) (hqv : 0 ≤ qv.toInt ∧ 2 * qv.toInt ≤ m2 ∧ m2 ≤ 80) (hI : fI g s.toInt) : ∀ (k : Nat) (x y e : Int32) (f : gMem), (f p = some (.inr (2, [.ref c1, .ref c2, .int s, .int v]))) → (f c1 = some (.inl (cy 0, n1, .inl (g)))) → (f c2 = some (.inl (cy 0, n2, .inl (h)))) → (f q = some (.inr (2, [.ref d1, .ref d2, .int qs, .int qv]))) → (f d1 = some (.inl (cy 0, m1, .inl (gq)))) → (f d2 = some (.inl (cy 0, m2, .inl (hh)))) → (0 < k ∧ (0 ≤ x.toInt → s.toInt - x.toInt < (k : Int))) → gC l D cy b yX3_alike cX3_alike 10 (some .boolean) (3 + 1 * k) 0 0 [.ref p, .int x, .ref q, .int y, .int e] f (pI fun r f2 => (r = 0 ∨ r = 1) ∧ f2 = f) := by
  intro k
  induction k with
  | zero =>
    intro x y e f hp h1 h2 hq0 hd1 hd2 hk
    exfalso; omega
  | succ k ih =>
    intro x y e f hp h1 h2 hq0 hd1 hd2 hk
    refine gC_of (by decide) (Nat.le_of_ble_eq_true rfl) ?_
    show gG l _ _ _ D cy b cX3_alike 10 _ RX3 "alike" 0 0 f 0 [(0, .ref p), (1, .int x), (2, .ref q), (3, .int y), (4, .int e)] []
    refine gz_aload_n dX3_alike_0 rfl rfl ?_
    refine gz_iload_n dX3_alike_1 rfl rfl ?_
    refine gz_iconst (v := 0) dX3_alike_2 (by decide) ?_
    refine scX3_52 (k_X2_field (w := x) (k := 0) hp h1 hs) hp ⟨(by simp only [gRm]; omega), (by simp only [gRm]; omega)⟩ ⟨(Nat.le_of_ble_eq_true rfl), (Nat.le_of_ble_eq_true rfl)⟩ rfl rfl (Nat.le_of_ble_eq_true rfl) dX3_alike_3 ?_
    intro v9 f9 z9; rw [z9.1, z9.2]
    refine gz_istore (lv' := [(5, .int (fldF n1 g s x 0)), (0, .ref p), (1, .int x), (2, .ref q), (3, .int y), (4, .int e)]) dX3_alike_6 (by decide) rfl ?_
    refine gz_iload dX3_alike_8 rfl ?_
    refine gz_iconst (v := (-1)) dX3_alike_10 (by decide) ?_
    refine gz_icmp_eq (tgt := 35) dX3_alike_11 (by decide) (fun c_11 => ?_) (fun c_11 => ?_)
    ·
      refine gz_iconst (v := 0) dX3_alike_35 (by decide) ?_
      exact gz_zret rfl (by first | decide | exact nrb (Or.inl rfl) | (refine nrb ?_; (repeat' split) <;> first | assumption | exact Or.inl rfl | exact Or.inr rfl)) dX3_alike_36 (Nat.le_of_ble_eq_true rfl) (Nat.le_of_ble_eq_true rfl) (⟨_, rfl, (by first | assumption | exact Or.inl rfl | exact Or.inr rfl), rfl⟩)
    ·
      refine gz_iload dX3_alike_14 rfl ?_
      refine gz_aload_n dX3_alike_16 rfl rfl ?_
      refine gz_iload_n dX3_alike_17 rfl rfl ?_
      refine gz_iconst (v := 0) dX3_alike_18 (by decide) ?_
      refine scX3_52 (k_X2_field (w := y) (k := 0) hq0 hd1 hqs) hq0 ⟨(by simp only [gRm]; omega), (by simp only [gRm]; omega)⟩ ⟨(Nat.le_of_ble_eq_true rfl), (Nat.le_of_ble_eq_true rfl)⟩ rfl rfl (Nat.le_of_ble_eq_true rfl) dX3_alike_19 ?_
      intro v9 f9 z9; rw [z9.1, z9.2]
      refine gz_icmp_ne (tgt := 35) dX3_alike_22 (by decide) (fun c_22 => ?_) (fun c_22 => ?_)
      ·
        refine gz_iconst (v := 0) dX3_alike_35 (by decide) ?_
        exact gz_zret rfl (by first | decide | exact nrb (Or.inl rfl) | (refine nrb ?_; (repeat' split) <;> first | assumption | exact Or.inl rfl | exact Or.inr rfl)) dX3_alike_36 (Nat.le_of_ble_eq_true rfl) (Nat.le_of_ble_eq_true rfl) (⟨_, rfl, (by first | assumption | exact Or.inl rfl | exact Or.inr rfl), rfl⟩)
      ·
        refine gz_aload_n dX3_alike_25 rfl rfl ?_
        refine gz_iload_n dX3_alike_26 rfl rfl ?_
        refine gz_aload_n dX3_alike_27 rfl rfl ?_
        refine gz_iload_n dX3_alike_28 rfl rfl ?_
        refine scX3_101 (k_X3_headsAlike (x := x) (y := y) hp h1 h2 hq0 hd1 hd2 hs hv hqs hqv) ⟨(by simp only [gRm]; omega), (by simp only [gRm]; omega)⟩ ⟨(Nat.le_of_ble_eq_true rfl), (Nat.le_of_ble_eq_true rfl)⟩ rfl rfl (Nat.le_of_ble_eq_true rfl) dX3_alike_29 ?_
        intro v9 f9 z9; rw [z9.1, z9.2]
        refine gz_if_ne (tgt := 37) dX3_alike_32 (by decide) (fun c_32 => ?_) (fun c_32 => ?_)
        ·
          refine gz_iload dX3_alike_37 rfl ?_
          refine scX3_82 (k_X11_hasDeed (x := (fldF n1 g s x 0))) ⟨(by simp only [gRm]; omega), (by simp only [gRm]; omega)⟩ ⟨(Nat.le_of_ble_eq_true rfl), (Nat.le_of_ble_eq_true rfl)⟩ rfl rfl (Nat.le_of_ble_eq_true rfl) dX3_alike_39 ?_
          intro v9 f9 z9; rw [z9.1, z9.2]
          refine gz_if_ne (tgt := 47) dX3_alike_42 (by decide) (fun c_42 => ?_) (fun c_42 => ?_)
          ·
            refine gz_aload_n dX3_alike_47 rfl rfl ?_
            refine gz_iload_n dX3_alike_48 rfl rfl ?_
            refine gz_iconst (v := 3) dX3_alike_49 (by decide) ?_
            refine scX3_52 (k_X2_field (w := x) (k := 3) hp h1 hs) hp ⟨(by simp only [gRm]; omega), (by simp only [gRm]; omega)⟩ ⟨(Nat.le_of_ble_eq_true rfl), (Nat.le_of_ble_eq_true rfl)⟩ rfl rfl (Nat.le_of_ble_eq_true rfl) dX3_alike_50 ?_
            intro v9 f9 z9; rw [z9.1, z9.2]
            refine gz_istore (lv' := [(6, .int (fldF n1 g s x 3)), (5, .int (fldF n1 g s x 0)), (0, .ref p), (1, .int x), (2, .ref q), (3, .int y), (4, .int e)]) dX3_alike_53 (by decide) rfl ?_
            refine gz_aload_n dX3_alike_55 rfl rfl ?_
            refine gz_iload_n dX3_alike_56 rfl rfl ?_
            refine gz_iconst (v := 4) dX3_alike_57 (by decide) ?_
            refine scX3_52 (k_X2_field (w := x) (k := 4) hp h1 hs) hp ⟨(by simp only [gRm]; omega), (by simp only [gRm]; omega)⟩ ⟨(Nat.le_of_ble_eq_true rfl), (Nat.le_of_ble_eq_true rfl)⟩ rfl rfl (Nat.le_of_ble_eq_true rfl) dX3_alike_58 ?_
            intro v9 f9 z9; rw [z9.1, z9.2]
            refine gz_istore (lv' := [(7, .int (fldF n1 g s x 4)), (6, .int (fldF n1 g s x 3)), (5, .int (fldF n1 g s x 0)), (0, .ref p), (1, .int x), (2, .ref q), (3, .int y), (4, .int e)]) dX3_alike_61 (by decide) rfl ?_
            refine gz_aload_n dX3_alike_63 rfl rfl ?_
            refine gz_iload_n dX3_alike_64 rfl rfl ?_
            refine gz_iconst (v := 3) dX3_alike_65 (by decide) ?_
            refine scX3_52 (k_X2_field (w := y) (k := 3) hq0 hd1 hqs) hq0 ⟨(by simp only [gRm]; omega), (by simp only [gRm]; omega)⟩ ⟨(Nat.le_of_ble_eq_true rfl), (Nat.le_of_ble_eq_true rfl)⟩ rfl rfl (Nat.le_of_ble_eq_true rfl) dX3_alike_66 ?_
            intro v9 f9 z9; rw [z9.1, z9.2]
            refine gz_istore (lv' := [(8, .int (fldF m1 gq qs y 3)), (7, .int (fldF n1 g s x 4)), (6, .int (fldF n1 g s x 3)), (5, .int (fldF n1 g s x 0)), (0, .ref p), (1, .int x), (2, .ref q), (3, .int y), (4, .int e)]) dX3_alike_69 (by decide) rfl ?_
            refine gz_aload_n dX3_alike_71 rfl rfl ?_
            refine gz_iload_n dX3_alike_72 rfl rfl ?_
            refine gz_iconst (v := 4) dX3_alike_73 (by decide) ?_
            refine scX3_52 (k_X2_field (w := y) (k := 4) hq0 hd1 hqs) hq0 ⟨(by simp only [gRm]; omega), (by simp only [gRm]; omega)⟩ ⟨(Nat.le_of_ble_eq_true rfl), (Nat.le_of_ble_eq_true rfl)⟩ rfl rfl (Nat.le_of_ble_eq_true rfl) dX3_alike_74 ?_
            intro v9 f9 z9; rw [z9.1, z9.2]
            refine gz_istore (lv' := [(9, .int (fldF m1 gq qs y 4)), (8, .int (fldF m1 gq qs y 3)), (7, .int (fldF n1 g s x 4)), (6, .int (fldF n1 g s x 3)), (5, .int (fldF n1 g s x 0)), (0, .ref p), (1, .int x), (2, .ref q), (3, .int y), (4, .int e)]) dX3_alike_77 (by decide) rfl ?_
            refine gz_iload dX3_alike_79 rfl ?_
            refine scX3_85 (k_X11_hasPair (x := (fldF n1 g s x 0))) ⟨(by simp only [gRm]; omega), (by simp only [gRm]; omega)⟩ ⟨(Nat.le_of_ble_eq_true rfl), (Nat.le_of_ble_eq_true rfl)⟩ rfl rfl (Nat.le_of_ble_eq_true rfl) dX3_alike_81 ?_
            intro v9 f9 z9; rw [z9.1, z9.2]
            refine gz_if_ne (tgt := 99) dX3_alike_84 (by decide) (fun c_84 => ?_) (fun c_84 => ?_)
            ·
              refine gz_aload_n dX3_alike_99 rfl rfl ?_
              refine gz_iload dX3_alike_100 rfl ?_
              refine gz_aload_n dX3_alike_102 rfl rfl ?_
              refine gz_iload dX3_alike_103 rfl ?_
              refine gz_iload dX3_alike_105 rfl ?_
              refine scX3_48 (ih (fldF n1 g s x 3) (fldF m1 gq qs y 3) e _ hp h1 h2 hq0 hd1 hd2 (by have hx := fld_kind c_11; have h3 := fI_first (w := x) hs hI; have h4 := fI_second (w := x) hs hI; omega)) ⟨(by simp only [gRm]; omega), (by simp only [gRm]; omega)⟩ ⟨(Nat.le_of_ble_eq_true rfl), (Nat.le_of_ble_eq_true rfl)⟩ rfl rfl (Nat.le_of_ble_eq_true rfl) dX3_alike_107 ?_
              rintro r1 f1 ⟨hb1, hf1⟩; subst hf1
              refine gz_if_eq (tgt := 129) dX3_alike_110 (by decide) (fun c_110 => ?_) (fun c_110 => ?_)
              ·
                refine gz_iload dX3_alike_129 rfl ?_
                refine gz_if_eq (tgt := 170) dX3_alike_131 (by decide) (fun c_131 => ?_) (fun c_131 => ?_)
                ·
                  refine gz_iconst (v := 0) dX3_alike_170 (by decide) ?_
                  exact gz_zret rfl (by first | decide | exact nrb (Or.inl rfl) | (refine nrb ?_; (repeat' split) <;> first | assumption | exact Or.inl rfl | exact Or.inr rfl)) dX3_alike_171 (Nat.le_of_ble_eq_true rfl) (Nat.le_of_ble_eq_true rfl) (⟨_, rfl, (by first | assumption | exact Or.inl rfl | exact Or.inr rfl), rfl⟩)
                ·
                  refine gz_iload dX3_alike_134 rfl ?_
                  refine gz_iconst (v := 3) dX3_alike_136 (by decide) ?_
                  refine gz_icmp_ne (tgt := 170) dX3_alike_137 (by decide) (fun c_137 => ?_) (fun c_137 => ?_)
                  ·
                    refine gz_iconst (v := 0) dX3_alike_170 (by decide) ?_
                    exact gz_zret rfl (by first | decide | exact nrb (Or.inl rfl) | (refine nrb ?_; (repeat' split) <;> first | assumption | exact Or.inl rfl | exact Or.inr rfl)) dX3_alike_171 (Nat.le_of_ble_eq_true rfl) (Nat.le_of_ble_eq_true rfl) (⟨_, rfl, (by first | assumption | exact Or.inl rfl | exact Or.inr rfl), rfl⟩)
                  ·
                    refine gz_aload_n dX3_alike_140 rfl rfl ?_
                    refine gz_iload dX3_alike_141 rfl ?_
                    refine gz_aload_n dX3_alike_143 rfl rfl ?_
                    refine gz_iload dX3_alike_144 rfl ?_
                    refine gz_iconst (v := 1) dX3_alike_146 (by decide) ?_
                    refine scX3_48 (ih (fldF n1 g s x 3) (fldF m1 gq qs y 4) 1 _ hp h1 h2 hq0 hd1 hd2 (by have hx := fld_kind c_11; have h3 := fI_first (w := x) hs hI; have h4 := fI_second (w := x) hs hI; omega)) ⟨(by simp only [gRm]; omega), (by simp only [gRm]; omega)⟩ ⟨(Nat.le_of_ble_eq_true rfl), (Nat.le_of_ble_eq_true rfl)⟩ rfl rfl (Nat.le_of_ble_eq_true rfl) dX3_alike_147 ?_
                    rintro r2 f2 ⟨hb2, hf2⟩; subst hf2
                    refine gz_if_eq (tgt := 170) dX3_alike_150 (by decide) (fun c_150 => ?_) (fun c_150 => ?_)
                    ·
                      refine gz_iconst (v := 0) dX3_alike_170 (by decide) ?_
                      exact gz_zret rfl (by first | decide | exact nrb (Or.inl rfl) | (refine nrb ?_; (repeat' split) <;> first | assumption | exact Or.inl rfl | exact Or.inr rfl)) dX3_alike_171 (Nat.le_of_ble_eq_true rfl) (Nat.le_of_ble_eq_true rfl) (⟨_, rfl, (by first | assumption | exact Or.inl rfl | exact Or.inr rfl), rfl⟩)
                    ·
                      refine gz_aload_n dX3_alike_153 rfl rfl ?_
                      refine gz_iload dX3_alike_154 rfl ?_
                      refine gz_aload_n dX3_alike_156 rfl rfl ?_
                      refine gz_iload dX3_alike_157 rfl ?_
                      refine gz_iconst (v := 1) dX3_alike_159 (by decide) ?_
                      refine scX3_48 (ih (fldF n1 g s x 4) (fldF m1 gq qs y 3) 1 _ hp h1 h2 hq0 hd1 hd2 (by have hx := fld_kind c_11; have h3 := fI_first (w := x) hs hI; have h4 := fI_second (w := x) hs hI; omega)) ⟨(by simp only [gRm]; omega), (by simp only [gRm]; omega)⟩ ⟨(Nat.le_of_ble_eq_true rfl), (Nat.le_of_ble_eq_true rfl)⟩ rfl rfl (Nat.le_of_ble_eq_true rfl) dX3_alike_160 ?_
                      rintro r3 f3 ⟨hb3, hf3⟩; subst hf3
                      refine gz_if_eq (tgt := 170) dX3_alike_163 (by decide) (fun c_163 => ?_) (fun c_163 => ?_)
                      ·
                        refine gz_iconst (v := 0) dX3_alike_170 (by decide) ?_
                        exact gz_zret rfl (by first | decide | exact nrb (Or.inl rfl) | (refine nrb ?_; (repeat' split) <;> first | assumption | exact Or.inl rfl | exact Or.inr rfl)) dX3_alike_171 (Nat.le_of_ble_eq_true rfl) (Nat.le_of_ble_eq_true rfl) (⟨_, rfl, (by first | assumption | exact Or.inl rfl | exact Or.inr rfl), rfl⟩)
                      ·
                        refine gz_iconst (v := 1) dX3_alike_166 (by decide) ?_
                        refine gz_goto (tgt := 171) dX3_alike_167 (by decide) ?_
                        exact gz_zret rfl (by first | decide | exact nrb (Or.inl rfl) | (refine nrb ?_; (repeat' split) <;> first | assumption | exact Or.inl rfl | exact Or.inr rfl)) dX3_alike_171 (Nat.le_of_ble_eq_true rfl) (Nat.le_of_ble_eq_true rfl) (⟨_, rfl, (by first | assumption | exact Or.inl rfl | exact Or.inr rfl), rfl⟩)
              ·
                refine gz_aload_n dX3_alike_113 rfl rfl ?_
                refine gz_iload dX3_alike_114 rfl ?_
                refine gz_aload_n dX3_alike_116 rfl rfl ?_
                refine gz_iload dX3_alike_117 rfl ?_
                refine gz_iload dX3_alike_119 rfl ?_
                refine scX3_48 (ih (fldF n1 g s x 4) (fldF m1 gq qs y 4) e _ hp h1 h2 hq0 hd1 hd2 (by have hx := fld_kind c_11; have h3 := fI_first (w := x) hs hI; have h4 := fI_second (w := x) hs hI; omega)) ⟨(by simp only [gRm]; omega), (by simp only [gRm]; omega)⟩ ⟨(Nat.le_of_ble_eq_true rfl), (Nat.le_of_ble_eq_true rfl)⟩ rfl rfl (Nat.le_of_ble_eq_true rfl) dX3_alike_121 ?_
                rintro r4 f4 ⟨hb4, hf4⟩; subst hf4
                refine gz_if_eq (tgt := 129) dX3_alike_124 (by decide) (fun c_124 => ?_) (fun c_124 => ?_)
                ·
                  refine gz_iload dX3_alike_129 rfl ?_
                  refine gz_if_eq (tgt := 170) dX3_alike_131 (by decide) (fun c_131 => ?_) (fun c_131 => ?_)
                  ·
                    refine gz_iconst (v := 0) dX3_alike_170 (by decide) ?_
                    exact gz_zret rfl (by first | decide | exact nrb (Or.inl rfl) | (refine nrb ?_; (repeat' split) <;> first | assumption | exact Or.inl rfl | exact Or.inr rfl)) dX3_alike_171 (Nat.le_of_ble_eq_true rfl) (Nat.le_of_ble_eq_true rfl) (⟨_, rfl, (by first | assumption | exact Or.inl rfl | exact Or.inr rfl), rfl⟩)
                  ·
                    refine gz_iload dX3_alike_134 rfl ?_
                    refine gz_iconst (v := 3) dX3_alike_136 (by decide) ?_
                    refine gz_icmp_ne (tgt := 170) dX3_alike_137 (by decide) (fun c_137 => ?_) (fun c_137 => ?_)
                    ·
                      refine gz_iconst (v := 0) dX3_alike_170 (by decide) ?_
                      exact gz_zret rfl (by first | decide | exact nrb (Or.inl rfl) | (refine nrb ?_; (repeat' split) <;> first | assumption | exact Or.inl rfl | exact Or.inr rfl)) dX3_alike_171 (Nat.le_of_ble_eq_true rfl) (Nat.le_of_ble_eq_true rfl) (⟨_, rfl, (by first | assumption | exact Or.inl rfl | exact Or.inr rfl), rfl⟩)
                    ·
                      refine gz_aload_n dX3_alike_140 rfl rfl ?_
                      refine gz_iload dX3_alike_141 rfl ?_
                      refine gz_aload_n dX3_alike_143 rfl rfl ?_
                      refine gz_iload dX3_alike_144 rfl ?_
                      refine gz_iconst (v := 1) dX3_alike_146 (by decide) ?_
                      refine scX3_48 (ih (fldF n1 g s x 3) (fldF m1 gq qs y 4) 1 _ hp h1 h2 hq0 hd1 hd2 (by have hx := fld_kind c_11; have h3 := fI_first (w := x) hs hI; have h4 := fI_second (w := x) hs hI; omega)) ⟨(by simp only [gRm]; omega), (by simp only [gRm]; omega)⟩ ⟨(Nat.le_of_ble_eq_true rfl), (Nat.le_of_ble_eq_true rfl)⟩ rfl rfl (Nat.le_of_ble_eq_true rfl) dX3_alike_147 ?_
                      rintro r5 f5 ⟨hb5, hf5⟩; subst hf5
                      refine gz_if_eq (tgt := 170) dX3_alike_150 (by decide) (fun c_150 => ?_) (fun c_150 => ?_)
                      ·
                        refine gz_iconst (v := 0) dX3_alike_170 (by decide) ?_
                        exact gz_zret rfl (by first | decide | exact nrb (Or.inl rfl) | (refine nrb ?_; (repeat' split) <;> first | assumption | exact Or.inl rfl | exact Or.inr rfl)) dX3_alike_171 (Nat.le_of_ble_eq_true rfl) (Nat.le_of_ble_eq_true rfl) (⟨_, rfl, (by first | assumption | exact Or.inl rfl | exact Or.inr rfl), rfl⟩)
                      ·
                        refine gz_aload_n dX3_alike_153 rfl rfl ?_
                        refine gz_iload dX3_alike_154 rfl ?_
                        refine gz_aload_n dX3_alike_156 rfl rfl ?_
                        refine gz_iload dX3_alike_157 rfl ?_
                        refine gz_iconst (v := 1) dX3_alike_159 (by decide) ?_
                        refine scX3_48 (ih (fldF n1 g s x 4) (fldF m1 gq qs y 3) 1 _ hp h1 h2 hq0 hd1 hd2 (by have hx := fld_kind c_11; have h3 := fI_first (w := x) hs hI; have h4 := fI_second (w := x) hs hI; omega)) ⟨(by simp only [gRm]; omega), (by simp only [gRm]; omega)⟩ ⟨(Nat.le_of_ble_eq_true rfl), (Nat.le_of_ble_eq_true rfl)⟩ rfl rfl (Nat.le_of_ble_eq_true rfl) dX3_alike_160 ?_
                        rintro r6 f6 ⟨hb6, hf6⟩; subst hf6
                        refine gz_if_eq (tgt := 170) dX3_alike_163 (by decide) (fun c_163 => ?_) (fun c_163 => ?_)
                        ·
                          refine gz_iconst (v := 0) dX3_alike_170 (by decide) ?_
                          exact gz_zret rfl (by first | decide | exact nrb (Or.inl rfl) | (refine nrb ?_; (repeat' split) <;> first | assumption | exact Or.inl rfl | exact Or.inr rfl)) dX3_alike_171 (Nat.le_of_ble_eq_true rfl) (Nat.le_of_ble_eq_true rfl) (⟨_, rfl, (by first | assumption | exact Or.inl rfl | exact Or.inr rfl), rfl⟩)
                        ·
                          refine gz_iconst (v := 1) dX3_alike_166 (by decide) ?_
                          refine gz_goto (tgt := 171) dX3_alike_167 (by decide) ?_
                          exact gz_zret rfl (by first | decide | exact nrb (Or.inl rfl) | (refine nrb ?_; (repeat' split) <;> first | assumption | exact Or.inl rfl | exact Or.inr rfl)) dX3_alike_171 (Nat.le_of_ble_eq_true rfl) (Nat.le_of_ble_eq_true rfl) (⟨_, rfl, (by first | assumption | exact Or.inl rfl | exact Or.inr rfl), rfl⟩)
                ·
                  refine gz_iconst (v := 1) dX3_alike_127 (by decide) ?_
                  exact gz_zret rfl (by first | decide | exact nrb (Or.inl rfl) | (refine nrb ?_; (repeat' split) <;> first | assumption | exact Or.inl rfl | exact Or.inr rfl)) dX3_alike_128 (Nat.le_of_ble_eq_true rfl) (Nat.le_of_ble_eq_true rfl) (⟨_, rfl, (by first | assumption | exact Or.inl rfl | exact Or.inr rfl), rfl⟩)
            ·
              refine gz_aload_n dX3_alike_87 rfl rfl ?_
              refine gz_iload dX3_alike_88 rfl ?_
              refine gz_aload_n dX3_alike_90 rfl rfl ?_
              refine gz_iload dX3_alike_91 rfl ?_
              refine gz_iload dX3_alike_93 rfl ?_
              refine scX3_48 (ih (fldF n1 g s x 3) (fldF m1 gq qs y 3) e _ hp h1 h2 hq0 hd1 hd2 (by have hx := fld_kind c_11; have h3 := fI_first (w := x) hs hI; have h4 := fI_second (w := x) hs hI; omega)) ⟨(by simp only [gRm]; omega), (by simp only [gRm]; omega)⟩ ⟨(Nat.le_of_ble_eq_true rfl), (Nat.le_of_ble_eq_true rfl)⟩ rfl rfl (Nat.le_of_ble_eq_true rfl) dX3_alike_95 ?_
              rintro r7 f7 ⟨hb7, hf7⟩; subst hf7
              exact gz_zret rfl (by first | decide | exact nrb (Or.inl rfl) | (refine nrb ?_; (repeat' split) <;> first | assumption | exact Or.inl rfl | exact Or.inr rfl)) dX3_alike_98 (Nat.le_of_ble_eq_true rfl) (Nat.le_of_ble_eq_true rfl) (⟨_, rfl, (by first | assumption | exact Or.inl rfl | exact Or.inr rfl), rfl⟩)
          ·
            refine gz_iconst (v := 1) dX3_alike_45 (by decide) ?_
            exact gz_zret rfl (by first | decide | exact nrb (Or.inl rfl) | (refine nrb ?_; (repeat' split) <;> first | assumption | exact Or.inl rfl | exact Or.inr rfl)) dX3_alike_46 (Nat.le_of_ble_eq_true rfl) (Nat.le_of_ble_eq_true rfl) (⟨_, rfl, (by first | assumption | exact Or.inl rfl | exact Or.inr rfl), rfl⟩)
        ·
          refine gz_iconst (v := 0) dX3_alike_35 (by decide) ?_
          exact gz_zret rfl (by first | decide | exact nrb (Or.inl rfl) | (refine nrb ?_; (repeat' split) <;> first | assumption | exact Or.inl rfl | exact Or.inr rfl)) dX3_alike_36 (Nat.le_of_ble_eq_true rfl) (Nat.le_of_ble_eq_true rfl) (⟨_, rfl, (by first | assumption | exact Or.inl rfl | exact Or.inr rfl), rfl⟩)
