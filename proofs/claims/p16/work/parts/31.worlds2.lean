def scI (x : Int32) : Nat := Int32.toNatClampNeg (if 0 < (if 4 < x then 4 else x) then (if 4 < x then 4 else x) else 0)
theorem scI_in {x : Int32} : vp_in (if 0 < (if 4 < x then 4 else x) then (if 4 < x then (4 : Int32) else x) else 0) 5 := by
  have e0 : (0 : Int32).toInt = 0 := rfl
  have e4 : (4 : Int32).toInt = 4 := rfl
  by_cases h : 4 < x
  · rw [if_pos h, if_pos (by decide)]; exact vin_T (rfl : (4 : Int32).toInt = 4) (by decide) (by decide)
  · rw [if_neg h]
    by_cases h2 : 0 < x
    · rw [if_pos h2]; rw [fl_lt] at h h2; exact vin_T (rfl : x.toInt = x.toInt) (by omega) (by omega)
    · rw [if_neg h2]; exact vin_T (rfl : (0 : Int32).toInt = 0) (by decide) (by decide)
theorem scI_eq {x : Int32} (h0 : 0 ≤ x.toInt) (h4 : x.toInt ≤ 4) : scI x = x.toInt.toNat := by
  have e0 : (0 : Int32).toInt = 0 := rfl
  have e4 : (4 : Int32).toInt = 4 := rfl
  unfold scI
  rw [if_neg (show ¬ 4 < x by rw [fl_lt]; omega)]
  by_cases h2 : 0 < x
  · rw [if_pos h2]; exact cl_N rfl h0
  · rw [if_neg h2]; rw [fl_lt] at h2
    rw [show x.toInt.toNat = 0 by omega]; rfl
theorem scI_lt (x : Int32) : scI x < 5 := Nat.not_le.mp fun q => scI_in (x := x) (Or.inr q)

set_option maxHeartbeats 4000000 in
set_option maxRecDepth 100000 in
theorem k_X10_sceneAt {l : Launch} {D : va_G} {cy : Nat → ClassId} {b : Nat} {f : gMem} {wo we stp pa ba td p : Nat} {sz ah go : Int32} {pg : Nat → Option Nat} {st : Int32} (hwo : f wo = some (.inr (10, [.int sz, .ref we, .ref stp, .ref pa, .ref ba, .ref td, .ref p, .int ah, .int go]))) (hpa : f pa = some (.inl (cy 6, 5, .inr (.inr (.inr (.inr (pg)))))))  : gC l D cy b yX10_sceneAt cX10_sceneAt 2 (some (.object "DeedTongue$Scene")) 1 0 0 [.ref wo, .int st] f (pR fun u f2 => u = pg (scI st) ∧ f2 = f) := by
  refine gC_of (by decide) (Nat.le_of_ble_eq_true rfl) ?_
  show gG l _ _ _ D cy b cX10_sceneAt 2 _ RX10 "sceneAt" 0 0 f 0 [(0, .ref wo), (1, .int st)] []
  refine gz_aload_n dX10_sceneAt_0 rfl rfl ?_
  refine sgX10_24 hwo rfl dX10_sceneAt_1 ?_
  refine gz_iconst (v := 0) dX10_sceneAt_4 (by decide) ?_
  refine gz_iload_n dX10_sceneAt_5 rfl rfl ?_
  refine gz_iconst (v := 4) dX10_sceneAt_6 (by decide) ?_
  refine scX10_50 (Nat.le_of_ble_eq_true rfl) (Nat.le_of_ble_eq_true rfl) (Nat.le_of_ble_eq_true rfl) (Nat.le_of_ble_eq_true rfl) (Nat.le_of_ble_eq_true rfl) dX10_sceneAt_7 ?_
  refine scX10_63 (Nat.le_of_ble_eq_true rfl) (Nat.le_of_ble_eq_true rfl) (Nat.le_of_ble_eq_true rfl) (Nat.le_of_ble_eq_true rfl) (Nat.le_of_ble_eq_true rfl) dX10_sceneAt_10 ?_
  refine gz_aald6 hpa (scI_in) dX10_sceneAt_13 ?_
  exact gz_aret rfl (va_rf_or _) dX10_sceneAt_14 (Nat.le_of_ble_eq_true rfl) (Nat.le_of_ble_eq_true rfl) (⟨_, rfl, rfl, rfl⟩)

set_option maxHeartbeats 4000000 in
set_option maxRecDepth 100000 in
theorem l_X10_go {l : Launch} {D : va_G} {cy : Nat → ClassId} {b : Nat} {f : gMem} {wo we stp pa ba td p : Nat} {sz ah go : Int32} {stg : Nat → Int32} {pg : Nat → Option Nat} {a1 b1 a2 b2 : Nat} {st wy da1 : Int32} {u1 : Nat → Int32} (hne : b1 ≠ b2 ∧ a1 ≠ a2 ∧ stp ≠ b2) : ∀ (k : Nat) (i da2 : Int32) (u2 : Nat → Int32) (fm : gMem), fr [a2, b2] f fm → (fm wo = some (.inr (10, [.int sz, .ref we, .ref stp, .ref pa, .ref ba, .ref td, .ref p, .int ah, .int go]))) → (fm stp = some (.inl (cy 0, 18, .inl (stg)))) → (fm pa = some (.inl (cy 6, 5, .inr (.inr (.inr (.inr (pg))))))) → (fm a1 = some (.inr (7, [.ref b1, .int da1]))) → (fm b1 = some (.inl (cy 0, 6, .inl (u1)))) → (fm a2 = some (.inr (7, [.ref b2, .int da2]))) → (fm b2 = some (.inl (cy 0, 6, .inl (u2)))) → (0 ≤ i.toInt ∧ i.toInt ≤ 6 ∧ i.toInt + (k : Int) = 7) → gG l (gRm 2 0 0) (gQf D b (pV fun f2 => ∃ (d2 : Int32) (t2 : Nat → Int32), f2 a2 = some (.inr (7, [.ref b2, .int d2])) ∧ f2 b2 = some (.inl (cy 0, 6, .inl (t2))) ∧ fr [a2, b2] f f2) 0 0) gTt D cy b cX10_go 6 none RX10 "go" (0) (0) fm 30 [(4, .int i), (3, .ref a2), (0, .ref wo), (1, .int st), (2, .int wy)] [] := by
  intro k
  induction k with
  | zero =>
    intro i da2 u2 fm hfr hwo hst hpa ha1 hb1 ha2 hb2 hk
    exfalso; omega
  | succ k ih =>
    intro i da2 u2 fm hfr hwo hst hpa ha1 hb1 ha2 hb2 hk
    refine gz_iload dX10_go_30 rfl ?_
    refine gz_bipush (v := 6) dX10_go_32 (by decide) ?_
    refine gz_icmp_ge (tgt := 80) dX10_go_34 (by decide) (fun c_34 => ?_) (fun c_34 => ?_)
    ·
      exact gz_vret rfl dX10_go_80 (Nat.le_of_ble_eq_true rfl) (Nat.le_of_ble_eq_true rfl) (⟨rfl, _, _, ha2, hb2, hfr⟩)
    ·
      refine gz_iload_n dX10_go_37 rfl rfl ?_
      refine gz_bipush (v := 6) dX10_go_38 (by decide) ?_
      refine gz_imul dX10_go_40 ?_
      refine gz_iload dX10_go_41 rfl ?_
      refine gz_iadd dX10_go_43 ?_
      refine gz_istore (lv' := [(5, .int ((wy * 6) + i)), (4, .int i), (3, .ref a2), (0, .ref wo), (1, .int st), (2, .int wy)]) dX10_go_44 (by decide) rfl ?_
      refine gz_iload dX10_go_46 rfl ?_
      refine gz_if_lt (tgt := 74) dX10_go_48 (by decide) (fun c_48 => ?_) (fun c_48 => ?_)
      ·
        refine gz_iinc (v := (i + 1)) (lv' := [(4, .int (i + 1)), (5, .int ((wy * 6) + i)), (3, .ref a2), (0, .ref wo), (1, .int st), (2, .int wy)]) dX10_go_74 rfl rfl (by decide) rfl ?_
        refine gz_goto (tgt := 30) dX10_go_77 (by decide) ?_
        refine gz_sub (lv' := [(4, .int (i + 1)), (3, .ref a2), (0, .ref wo), (1, .int st), (2, .int wy)]) (by simp [List.lookup]) ?_
        exact ih (i + 1) da2 u2 _ hfr hwo hst hpa ha1 hb1 ha2 hb2 (by have e13 : (13 : Int32).toInt = 13 := rfl; have e0 : (0 : Int32).toInt = 0 := rfl; have e2 : (2 : Int32).toInt = 2 := rfl; have e1 : (1 : Int32).toInt = 1 := rfl; have e6 : (6 : Int32).toInt = 6 := rfl; have em2 : (-2 : Int32).toInt = -2 := rfl; have e3 : (3 : Int32).toInt = 3 := rfl; have e6 : (6 : Int32).toInt = 6 := rfl; have e4 : (4 : Int32).toInt = 4 := rfl; have e18 : (18 : Int32).toInt = 18 := rfl; simp only [fl_le] at c_34; have hx := T_add (rfl : i.toInt = i.toInt) e1 (by omega); omega)
      ·
        refine gz_iload dX10_go_51 rfl ?_
        refine gz_aload_n dX10_go_53 rfl rfl ?_
        refine sgX10_19 hwo rfl dX10_go_54 ?_
        refine gz_alen0 (v := 18) hst (by decide) dX10_go_57 ?_
        refine gz_icmp_ge (tgt := 74) dX10_go_58 (by decide) (fun c_58 => ?_) (fun c_58 => ?_)
        ·
          refine gz_iinc (v := (i + 1)) (lv' := [(4, .int (i + 1)), (5, .int ((wy * 6) + i)), (3, .ref a2), (0, .ref wo), (1, .int st), (2, .int wy)]) dX10_go_74 rfl rfl (by decide) rfl ?_
          refine gz_goto (tgt := 30) dX10_go_77 (by decide) ?_
          refine gz_sub (lv' := [(4, .int (i + 1)), (3, .ref a2), (0, .ref wo), (1, .int st), (2, .int wy)]) (by simp [List.lookup]) ?_
          exact ih (i + 1) da2 u2 _ hfr hwo hst hpa ha1 hb1 ha2 hb2 (by have e13 : (13 : Int32).toInt = 13 := rfl; have e0 : (0 : Int32).toInt = 0 := rfl; have e2 : (2 : Int32).toInt = 2 := rfl; have e1 : (1 : Int32).toInt = 1 := rfl; have e6 : (6 : Int32).toInt = 6 := rfl; have em2 : (-2 : Int32).toInt = -2 := rfl; have e3 : (3 : Int32).toInt = 3 := rfl; have e6 : (6 : Int32).toInt = 6 := rfl; have e4 : (4 : Int32).toInt = 4 := rfl; have e18 : (18 : Int32).toInt = 18 := rfl; simp only [fl_le] at c_34; have hx := T_add (rfl : i.toInt = i.toInt) e1 (by omega); omega)
        ·
          refine gz_aload_n dX10_go_61 rfl rfl ?_
          refine gz_iload dX10_go_62 rfl ?_
          refine gz_aload_n dX10_go_64 rfl rfl ?_
          refine sgX10_19 hwo rfl dX10_go_65 ?_
          refine gz_iload dX10_go_68 rfl ?_
          refine gz_iald hst ((by have e13 : (13 : Int32).toInt = 13 := rfl; have e0 : (0 : Int32).toInt = 0 := rfl; have e2 : (2 : Int32).toInt = 2 := rfl; have e1 : (1 : Int32).toInt = 1 := rfl; have e6 : (6 : Int32).toInt = 6 := rfl; have em2 : (-2 : Int32).toInt = -2 := rfl; have e3 : (3 : Int32).toInt = 3 := rfl; have e6 : (6 : Int32).toInt = 6 := rfl; have e4 : (4 : Int32).toInt = 4 := rfl; have e18 : (18 : Int32).toInt = 18 := rfl; simp only [fl_lt, fl_le] at c_48 c_58; exact vin_T (rfl : ((wy * 6) + i).toInt = _) (by omega) (by omega))) dX10_go_70 ?_
          refine scX10_73 (k_X7_addThing (i := i) (x := (stg (Int32.toNatClampNeg ((wy * 6) + i)))) ha2 hb2) ha2 ⟨(Nat.le_of_ble_eq_true rfl), (Nat.le_of_ble_eq_true rfl)⟩ ⟨(Nat.le_of_ble_eq_true rfl), (Nat.le_of_ble_eq_true rfl)⟩ rfl rfl (Nat.le_of_ble_eq_true rfl) dX10_go_71 ?_
          rintro f1 ⟨hb2_1, hr1⟩
          have hwo_1 : f1 wo = some (.inr (10, [.int sz, .ref we, .ref stp, .ref pa, .ref ba, .ref td, .ref p, .int ah, .int go])) := hr1 _ _ hwo (by simp only [List.mem_cons, List.not_mem_nil, or_false, not_or]; exact cne hwo hb2 (by simp))
          have hst_1 : f1 stp = some (.inl (cy 0, 18, .inl (stg))) := hr1 _ _ hst (by simp only [List.mem_cons, List.not_mem_nil, or_false, not_or]; exact hne.2.2)
          have hpa_1 : f1 pa = some (.inl (cy 6, 5, .inr (.inr (.inr (.inr (pg)))))) := hr1 _ _ hpa (by simp only [List.mem_cons, List.not_mem_nil, or_false, not_or]; exact cne hpa hb2 (by simp))
          have ha1_1 : f1 a1 = some (.inr (7, [.ref b1, .int da1])) := hr1 _ _ ha1 (by simp only [List.mem_cons, List.not_mem_nil, or_false, not_or]; exact cne ha1 hb2 (by simp))
          have hb1_1 : f1 b1 = some (.inl (cy 0, 6, .inl (u1))) := hr1 _ _ hb1 (by simp only [List.mem_cons, List.not_mem_nil, or_false, not_or]; exact hne.1)
          have ha2_1 : f1 a2 = some (.inr (7, [.ref b2, .int da2])) := hr1 _ _ ha2 (by simp only [List.mem_cons, List.not_mem_nil, or_false, not_or]; exact cne ha2 hb2 (by simp))
          refine gz_iinc (v := (i + 1)) (lv' := [(4, .int (i + 1)), (5, .int ((wy * 6) + i)), (3, .ref a2), (0, .ref wo), (1, .int st), (2, .int wy)]) dX10_go_74 rfl rfl (by decide) rfl ?_
          refine gz_goto (tgt := 30) dX10_go_77 (by decide) ?_
          refine gz_sub (lv' := [(4, .int (i + 1)), (3, .ref a2), (0, .ref wo), (1, .int st), (2, .int wy)]) (by simp [List.lookup]) ?_
          exact ih (i + 1) da2 (addTh u2 i (stg (Int32.toNatClampNeg ((wy * 6) + i)))) _ (fr_tr hfr (fr_mo hr1 (by simp))) hwo_1 hst_1 hpa_1 ha1_1 hb1_1 ha2_1 hb2_1 (by have e13 : (13 : Int32).toInt = 13 := rfl; have e0 : (0 : Int32).toInt = 0 := rfl; have e2 : (2 : Int32).toInt = 2 := rfl; have e1 : (1 : Int32).toInt = 1 := rfl; have e6 : (6 : Int32).toInt = 6 := rfl; have em2 : (-2 : Int32).toInt = -2 := rfl; have e3 : (3 : Int32).toInt = 3 := rfl; have e6 : (6 : Int32).toInt = 6 := rfl; have e4 : (4 : Int32).toInt = 4 := rfl; have e18 : (18 : Int32).toInt = 18 := rfl; simp only [fl_le] at c_34; have hx := T_add (rfl : i.toInt = i.toInt) e1 (by omega); omega)

set_option maxHeartbeats 4000000 in
set_option maxRecDepth 100000 in
theorem k_X10_go {l : Launch} {D : va_G} {cy : Nat → ClassId} {b : Nat} {f : gMem} {wo we stp pa ba td p : Nat} {sz ah go : Int32} {stg : Nat → Int32} {pg : Nat → Option Nat} {a1 b1 a2 b2 : Nat} {st wy da1 da2 : Int32} {u1 u2 : Nat → Int32} (hwo : f wo = some (.inr (10, [.int sz, .ref we, .ref stp, .ref pa, .ref ba, .ref td, .ref p, .int ah, .int go]))) (hst : f stp = some (.inl (cy 0, 18, .inl (stg)))) (hpa : f pa = some (.inl (cy 6, 5, .inr (.inr (.inr (.inr (pg))))))) (ha1 : f a1 = some (.inr (7, [.ref b1, .int da1]))) (hb1 : f b1 = some (.inl (cy 0, 6, .inl (u1)))) (ha2 : f a2 = some (.inr (7, [.ref b2, .int da2]))) (hb2 : f b2 = some (.inl (cy 0, 6, .inl (u2)))) (hne : b1 ≠ b2 ∧ a1 ≠ a2 ∧ stp ≠ b2) (g1 : pg (scI st) = some a1) (g2 : pg (scI (st + 1)) = some a2) : gC l D cy b yX10_go cX10_go 6 none 2 0 0 [.ref wo, .int st, .int wy] f (pV fun f2 => ∃ (d2 : Int32) (t2 : Nat → Int32), f2 a2 = some (.inr (7, [.ref b2, .int d2])) ∧ f2 b2 = some (.inl (cy 0, 6, .inl (t2))) ∧ fr [a2, b2] f f2) := by
  refine gC_of (by decide) (Nat.le_of_ble_eq_true rfl) ?_
  show gG l _ _ _ D cy b cX10_go 6 _ RX10 "go" 0 0 f 0 [(0, .ref wo), (1, .int st), (2, .int wy)] []
  refine gz_aload_n dX10_go_0 rfl rfl ?_
  refine gz_iload_n dX10_go_1 rfl rfl ?_
  refine gz_iconst (v := 1) dX10_go_2 (by decide) ?_
  refine gz_iadd dX10_go_3 ?_
  refine scX10_66 (k_X10_sceneAt (st := (st + 1)) hwo hpa) hwo ⟨(Nat.le_of_ble_eq_true rfl), (Nat.le_of_ble_eq_true rfl)⟩ ⟨(Nat.le_of_ble_eq_true rfl), (Nat.le_of_ble_eq_true rfl)⟩ rfl rfl (Nat.le_of_ble_eq_true rfl) dX10_go_4 ?_
  rintro u9 f9 ⟨rfl, rfl⟩
  refine gz_ev (w := .ref a2) (by rw [g2]; rfl) ?_
  refine gz_astore_n (lv' := [(3, .ref a2), (0, .ref wo), (1, .int st), (2, .int wy)]) dX10_go_7 rfl (by decide) rfl ?_
  refine gz_aload_n dX10_go_8 rfl rfl ?_
  refine gz_aload_n dX10_go_9 rfl rfl ?_
  refine gz_iload_n dX10_go_10 rfl rfl ?_
  refine scX10_66 (k_X10_sceneAt (st := st) hwo hpa) hwo ⟨(Nat.le_of_ble_eq_true rfl), (Nat.le_of_ble_eq_true rfl)⟩ ⟨(Nat.le_of_ble_eq_true rfl), (Nat.le_of_ble_eq_true rfl)⟩ rfl rfl (Nat.le_of_ble_eq_true rfl) dX10_go_11 ?_
  rintro u9 f9 ⟨rfl, rfl⟩
  refine gz_ev (w := .ref a1) (by rw [g1]; rfl) ?_
  obtain ⟨x1, hx1⟩ : ∃ x0, (cpyF da1 u1 u2 da2) = x0 := ⟨_, rfl⟩
  refine scX10_59 (k_X7_copyFrom ha2 hb2 ha1 hb1 ⟨Ne.symm hne.1, Ne.symm hne.2.1⟩) ha2 ⟨(Nat.le_of_ble_eq_true rfl), (Nat.le_of_ble_eq_true rfl)⟩ ⟨(Nat.le_of_ble_eq_true rfl), (Nat.le_of_ble_eq_true rfl)⟩ rfl rfl (Nat.le_of_ble_eq_true rfl) dX10_go_14 ?_
  rintro f1 ⟨hb2_1, ha2_1, hr1⟩; rw [hx1] at hb2_1 ha2_1
  have hwo_1 : f1 wo = some (.inr (10, [.int sz, .ref we, .ref stp, .ref pa, .ref ba, .ref td, .ref p, .int ah, .int go])) := hr1 _ _ hwo (by simp only [List.mem_cons, List.not_mem_nil, or_false, not_or]; exact ⟨cne hwo hb2 (by simp), cne hwo ha2 (by simp)⟩)
  have hst_1 : f1 stp = some (.inl (cy 0, 18, .inl (stg))) := hr1 _ _ hst (by simp only [List.mem_cons, List.not_mem_nil, or_false, not_or]; exact ⟨hne.2.2, cne hst ha2 (by simp)⟩)
  have hpa_1 : f1 pa = some (.inl (cy 6, 5, .inr (.inr (.inr (.inr (pg)))))) := hr1 _ _ hpa (by simp only [List.mem_cons, List.not_mem_nil, or_false, not_or]; exact ⟨cne hpa hb2 (by simp), cne hpa ha2 (by simp)⟩)
  have ha1_1 : f1 a1 = some (.inr (7, [.ref b1, .int da1])) := hr1 _ _ ha1 (by simp only [List.mem_cons, List.not_mem_nil, or_false, not_or]; exact ⟨cne ha1 hb2 (by simp), hne.2.1⟩)
  have hb1_1 : f1 b1 = some (.inl (cy 0, 6, .inl (u1))) := hr1 _ _ hb1 (by simp only [List.mem_cons, List.not_mem_nil, or_false, not_or]; exact ⟨hne.1, cne hb1 ha2 (by simp)⟩)
  refine gz_aload_n dX10_go_17 rfl rfl ?_
  refine gz_dup dX10_go_18 rfl ?_
  refine sgX10_70 ha2_1 rfl dX10_go_19 ?_
  refine gz_iconst (v := 1) dX10_go_22 (by decide) ?_
  refine gz_iadd dX10_go_23 ?_
  refine spX10_70 ha2_1  (Nat.le_of_ble_eq_true rfl) dX10_go_24 ?_
  obtain ⟨f2, hf2⟩ : ∃ gg : gMem, gg = va_up f1 a2 (some (.inr (7, [.ref b2, .int (x1.2 + 1)]))) := ⟨_, rfl⟩
  refine gz_eq (f2 := f2) hf2.symm rfl rfl rfl ?_
  have hwo_2 : f2 wo = some (.inr (10, [.int sz, .ref we, .ref stp, .ref pa, .ref ba, .ref td, .ref p, .int ah, .int go])) := by rw [hf2, va_up_ne _ _ (cne hwo_1 ha2_1 (by simp))]; exact hwo_1
  have hst_2 : f2 stp = some (.inl (cy 0, 18, .inl (stg))) := by rw [hf2, va_up_ne _ _ (cne hst_1 ha2_1 (by simp))]; exact hst_1
  have hpa_2 : f2 pa = some (.inl (cy 6, 5, .inr (.inr (.inr (.inr (pg)))))) := by rw [hf2, va_up_ne _ _ (cne hpa_1 ha2_1 (by simp))]; exact hpa_1
  have ha1_2 : f2 a1 = some (.inr (7, [.ref b1, .int da1])) := by rw [hf2, va_up_ne _ _ (hne.2.1)]; exact ha1_1
  have hb1_2 : f2 b1 = some (.inl (cy 0, 6, .inl (u1))) := by rw [hf2, va_up_ne _ _ (cne hb1_1 ha2_1 (by simp))]; exact hb1_1
  have hb2_2 : f2 b2 = some (.inl (cy 0, 6, .inl (x1.1))) := by rw [hf2, va_up_ne _ _ (cne hb2_1 ha2_1 (by simp))]; exact hb2_1
  have ha2_2 : f2 a2 = some (.inr (7, [.ref b2, .int (x1.2 + 1)])) := by rw [hf2]; exact va_up_self _ _ _
  refine gz_iconst (v := 0) dX10_go_27 (by decide) ?_
  refine gz_istore (lv' := [(4, .int 0), (3, .ref a2), (0, .ref wo), (1, .int st), (2, .int wy)]) dX10_go_28 (by decide) rfl ?_
  refine gz_sub (lv' := [(4, .int 0), (3, .ref a2), (0, .ref wo), (1, .int st), (2, .int wy)]) (by simp [List.lookup]) ?_
  exact l_X10_go hne 7 0 (x1.2 + 1) x1.1 _ (by rw [hf2]; exact fr_up (fr_tr fr_rf (fr_mo hr1 (by simp))) (by simp)) hwo_2 hst_2 hpa_2 ha1_2 hb1_2 ha2_2 hb2_2 (⟨by decide, by decide, by decide⟩)
