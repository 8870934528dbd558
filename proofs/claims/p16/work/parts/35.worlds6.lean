set_option maxHeartbeats 4000000 in
set_option maxRecDepth 100000 in
theorem l_X10_isP2 {l : Launch} {D : va_G} {cy : Nat → ClassId} {b : Nat} {f : gMem} {wo we stp pa ba td p c1 c2 n1 n2 : Nat} {sz ah gl s v : Int32} {g h : Nat → Int32} {pg : Nat → Option Nat}  {P Q : Nat → Nat}  {q d1 d2 m1 m2 : Nat} {qs qv : Int32} {gq hh : Nat → Int32} (hs : 0 ≤ s.toInt ∧ 13 * s.toInt ≤ n1 ∧ n1 ≤ 520) (hv : 0 ≤ v.toInt ∧ 2 * v.toInt ≤ n2 ∧ n2 ≤ 80) (hqs : 0 ≤ qs.toInt ∧ 13 * qs.toInt ≤ m1 ∧ m1 ≤ 520) (hqv : 0 ≤ qv.toInt ∧ 2 * qv.toInt ≤ m2 ∧ m2 ≤ 80) (hI : fI g s.toInt) (hIq : fI gq qs.toInt) (ha : ah.toInt ≤ 4) (hpg : ∀ ii : Nat, ii < 5 → pg ii = some (P ii)) (hDb : ba ∉ scL P Q) : ∀ (k : Nat) (i : Int32) (bag : Nat → Int64) (fm : gMem), fr [wo, ba] f fm → (fm wo = some (.inr (10, [.int sz, .ref we, .ref stp, .ref pa, .ref ba, .ref td, .ref q, .int ah, .int gl]))) → (fm ba = some (.inl (cy 2, 5, .inr (.inl (bag))))) → (fm pa = some (.inl (cy 6, 5, .inr (.inr (.inr (.inr (pg))))))) → (fm p = some (.inr (2, [.ref c1, .ref c2, .int s, .int v]))) → (fm c1 = some (.inl (cy 0, n1, .inl (g)))) → (fm c2 = some (.inl (cy 0, n2, .inl (h)))) → (fm q = some (.inr (2, [.ref d1, .ref d2, .int qs, .int qv]))) → (fm d1 = some (.inl (cy 0, m1, .inl (gq)))) → (fm d2 = some (.inl (cy 0, m2, .inl (hh)))) → (0 ≤ i.toInt ∧ i.toInt ≤ 5 ∧ i.toInt + (k : Int) = 6) → gG l (gRm 256 0 0) (gQf D b (pI fun r f2 => (r = 0 ∨ r = 1) ∧ f2 wo = some (.inr (10, [.int sz, .ref we, .ref stp, .ref pa, .ref ba, .ref td, .ref q, .int ah, .int gl])) ∧ (∃ b2 : Nat → Int64, f2 ba = some (.inl (cy 2, 5, .inr (.inl (b2))))) ∧ fr [wo, ba] f f2) 0 0) gTt D cy b cX10_isParting 4 (some .boolean) RX10 "isParting" (0) (0) fm 52 [(3, .int i), (0, .ref wo), (1, .ref p), (2, .ref q)] [] := by
  intro k
  induction k with
  | zero =>
    intro i bag fm hfr hwo hba hpa hp h1 h2 hq0 hd1 hd2 hk
    exfalso; omega
  | succ k ih =>
    intro i bag fm hfr hwo hba hpa hp h1 h2 hq0 hd1 hd2 hk
    refine gz_iload_n dX10_isParting_52 rfl rfl ?_
    refine gz_aload_n dX10_isParting_53 rfl rfl ?_
    refine sgX10_28 hwo rfl dX10_isParting_54 ?_
    refine gz_alen2 (v := 5) hba (by decide) dX10_isParting_57 ?_
    refine gz_icmp_ge (tgt := 80) dX10_isParting_58 (by decide) (fun c_58 => ?_) (fun c_58 => ?_)
    ·
      refine gz_iconst (v := 0) dX10_isParting_80 (by decide) ?_
      exact gz_zret rfl (by first | decide | exact nrb (Or.inl rfl) | (refine nrb ?_; (repeat' split) <;> first | assumption | exact Or.inl rfl | exact Or.inr rfl)) dX10_isParting_81 (Nat.zero_le _) (Nat.zero_le _) (⟨_, rfl, (by first | exact Or.inl rfl | exact Or.inr rfl), hwo, ⟨_, hba⟩, hfr⟩)
    ·
      refine gz_aload_n dX10_isParting_61 rfl rfl ?_
      refine sgX10_28 hwo rfl dX10_isParting_62 ?_
      refine gz_iload_n dX10_isParting_65 rfl rfl ?_
      refine gz_lald hba ((by have e5 : (5 : Int32).toInt = 5 := rfl; simp only [fl_le] at c_58; exact vin_T (rfl : i.toInt = i.toInt) (by omega) (by omega))) dX10_isParting_66 ?_
      refine gz_lconst (v := 0) dX10_isParting_67 (by decide) ?_
      refine gz_lcmp dX10_isParting_68 ?_
      refine gz_if_eq (tgt := 74) dX10_isParting_69 (by decide) (fun c_69 => ?_) (fun c_69 => ?_)
      ·
        refine gz_iinc (v := (i + 1)) (lv' := [(3, .int (i + 1)), (0, .ref wo), (1, .ref p), (2, .ref q)]) dX10_isParting_74 rfl rfl (by decide) rfl ?_
        refine gz_goto (tgt := 52) dX10_isParting_77 (by decide) ?_
        refine gz_sub (lv' := [(3, .int (i + 1)), (0, .ref wo), (1, .ref p), (2, .ref q)]) (by simp [List.lookup]) ?_
        exact ih (i + 1) bag _ hfr hwo hba hpa hp h1 h2 hq0 hd1 hd2 (by have e1 : (1 : Int32).toInt = 1 := rfl; have e5 : (5 : Int32).toInt = 5 := rfl; simp only [fl_le] at c_58; have hx := T_add (rfl : i.toInt = i.toInt) e1 (by omega); omega)
      ·
        refine gz_iconst (v := 1) dX10_isParting_72 (by decide) ?_
        exact gz_zret rfl (by first | decide | exact nrb (Or.inl rfl) | (refine nrb ?_; (repeat' split) <;> first | assumption | exact Or.inl rfl | exact Or.inr rfl)) dX10_isParting_73 (Nat.zero_le _) (Nat.zero_le _) (⟨_, rfl, (by first | exact Or.inl rfl | exact Or.inr rfl), hwo, ⟨_, hba⟩, hfr⟩)

set_option maxHeartbeats 4000000 in
set_option maxRecDepth 100000 in
theorem l_X10_isP1 {l : Launch} {D : va_G} {cy : Nat → ClassId} {b : Nat} {f : gMem} {wo we stp pa ba td p c1 c2 n1 n2 : Nat} {sz ah gl s v : Int32} {g h : Nat → Int32} {pg : Nat → Option Nat}  {P Q : Nat → Nat}  {po q d1 d2 m1 m2 : Nat} {qs qv : Int32} {gq hh : Nat → Int32} (hs : 0 ≤ s.toInt ∧ 13 * s.toInt ≤ n1 ∧ n1 ≤ 520) (hv : 0 ≤ v.toInt ∧ 2 * v.toInt ≤ n2 ∧ n2 ≤ 80) (hqs : 0 ≤ qs.toInt ∧ 13 * qs.toInt ≤ m1 ∧ m1 ≤ 520) (hqv : 0 ≤ qv.toInt ∧ 2 * qv.toInt ≤ m2 ∧ m2 ≤ 80) (hI : fI g s.toInt) (hIq : fI gq qs.toInt) (ha : ah.toInt ≤ 4) (hpg : ∀ ii : Nat, ii < 5 → pg ii = some (P ii)) (hDb : ba ∉ scL P Q) : ∀ (k : Nat) (i : Int32) (bag : Nat → Int64) (fm : gMem), fr [wo, ba] f fm → (fm wo = some (.inr (10, [.int sz, .ref we, .ref stp, .ref pa, .ref ba, .ref td, .ref po, .int ah, .int gl]))) → (fm ba = some (.inl (cy 2, 5, .inr (.inl (bag))))) → (fm pa = some (.inl (cy 6, 5, .inr (.inr (.inr (.inr (pg))))))) → (fm p = some (.inr (2, [.ref c1, .ref c2, .int s, .int v]))) → (fm c1 = some (.inl (cy 0, n1, .inl (g)))) → (fm c2 = some (.inl (cy 0, n2, .inl (h)))) → (fm q = some (.inr (2, [.ref d1, .ref d2, .int qs, .int qv]))) → (fm d1 = some (.inl (cy 0, m1, .inl (gq)))) → (fm d2 = some (.inl (cy 0, m2, .inl (hh)))) → (pF cy P Q fm) → (0 ≤ i.toInt ∧ i.toInt ≤ 5 ∧ i.toInt + (k : Int) = 6) → gG l (gRm 256 0 0) (gQf D b (pI fun r f2 => (r = 0 ∨ r = 1) ∧ f2 wo = some (.inr (10, [.int sz, .ref we, .ref stp, .ref pa, .ref ba, .ref td, .ref q, .int ah, .int gl])) ∧ (∃ b2 : Nat → Int64, f2 ba = some (.inl (cy 2, 5, .inr (.inl (b2))))) ∧ fr [wo, ba] f f2) 0 0) gTt D cy b cX10_isParting 4 (some .boolean) RX10 "isParting" (0) (0) fm 2 [(3, .int i), (0, .ref wo), (1, .ref p), (2, .ref q)] [] := by
  intro k
  induction k with
  | zero =>
    intro i bag fm hfr hwo hba hpa hp h1 h2 hq0 hd1 hd2 hF hk
    exfalso; omega
  | succ k ih =>
    intro i bag fm hfr hwo hba hpa hp h1 h2 hq0 hd1 hd2 hF hk
    refine gz_iload_n dX10_isParting_2 rfl rfl ?_
    refine gz_aload_n dX10_isParting_3 rfl rfl ?_
    refine sgX10_28 hwo rfl dX10_isParting_4 ?_
    refine gz_alen2 (v := 5) hba (by decide) dX10_isParting_7 ?_
    refine gz_icmp_ge (tgt := 24) dX10_isParting_8 (by decide) (fun c_8 => ?_) (fun c_8 => ?_)
    ·
      refine gz_aload_n dX10_isParting_24 rfl rfl ?_
      refine gz_aload_n dX10_isParting_25 rfl rfl ?_
      refine spX10_37 hwo  (Nat.le_of_ble_eq_true rfl) dX10_isParting_26 ?_
      obtain ⟨f1, hf1⟩ : ∃ gg : gMem, gg = va_up fm wo (some (.inr (10, [.int sz, .ref we, .ref stp, .ref pa, .ref ba, .ref td, .ref p, .int ah, .int gl]))) := ⟨_, rfl⟩
      refine gz_eq (f2 := f1) hf1.symm rfl rfl rfl ?_
      have hba_1 : f1 ba = some (.inl (cy 2, 5, .inr (.inl (bag)))) := by rw [hf1, va_up_ne _ _ (cne hba hwo (by simp))]; exact hba
      have hpa_1 : f1 pa = some (.inl (cy 6, 5, .inr (.inr (.inr (.inr (pg)))))) := by rw [hf1, va_up_ne _ _ (cne hpa hwo (by simp))]; exact hpa
      have hp_1 : f1 p = some (.inr (2, [.ref c1, .ref c2, .int s, .int v])) := by rw [hf1, va_up_ne _ _ (cne hp hwo (by simp))]; exact hp
      have h1_1 : f1 c1 = some (.inl (cy 0, n1, .inl (g))) := by rw [hf1, va_up_ne _ _ (cne h1 hwo (by simp))]; exact h1
      have h2_1 : f1 c2 = some (.inl (cy 0, n2, .inl (h))) := by rw [hf1, va_up_ne _ _ (cne h2 hwo (by simp))]; exact h2
      have hq0_1 : f1 q = some (.inr (2, [.ref d1, .ref d2, .int qs, .int qv])) := by rw [hf1, va_up_ne _ _ (cne hq0 hwo (by simp))]; exact hq0
      have hd1_1 : f1 d1 = some (.inl (cy 0, m1, .inl (gq))) := by rw [hf1, va_up_ne _ _ (cne hd1 hwo (by simp))]; exact hd1
      have hd2_1 : f1 d2 = some (.inl (cy 0, m2, .inl (hh))) := by rw [hf1, va_up_ne _ _ (cne hd2 hwo (by simp))]; exact hd2
      have hwo_1 : f1 wo = some (.inr (10, [.int sz, .ref we, .ref stp, .ref pa, .ref ba, .ref td, .ref p, .int ah, .int gl])) := by rw [hf1]; exact va_up_self _ _ _
      refine gz_aload_n dX10_isParting_29 rfl rfl ?_
      refine gz_iconst (v := 0) dX10_isParting_30 (by decide) ?_
      refine gz_iconst (v := 1) dX10_isParting_31 (by decide) ?_
      refine gz_iconst (v := 0) dX10_isParting_32 (by decide) ?_
      refine gz_iconst (v := 1) dX10_isParting_33 (by decide) ?_
      have hFy1 : pF cy P Q f1 := by rw [hf1]; exact pF_wo hF hwo
      refine scX10_144 (k_X10_run (sn := 1) hs hv hI ha hpg hDb 250 0 1 0 bag _ hwo_1 hba_1 hpa_1 hp_1 h1_1 h2_1 hFy1 (by decide) ⟨by decide, fun _ => ⟨by decide, by have e0 : (0 : Int32).toInt = 0 := rfl; omega⟩⟩) hwo_1 ⟨(by simp only [gRm]; omega), (by simp only [gRm]; omega)⟩ ⟨(Nat.zero_le _), (Nat.zero_le _)⟩ rfl rfl (Nat.le_of_ble_eq_true rfl) dX10_isParting_34 ?_
      rintro f2 ⟨b_2, hba_2, hr2⟩
      have hpa_2 : f2 pa = some (.inl (cy 6, 5, .inr (.inr (.inr (.inr (pg)))))) := hr2 _ _ hpa_1 (by simp only [List.mem_cons, List.not_mem_nil, or_false, not_or]; exact cne hpa_1 hba_1 (by simp))
      have hp_2 : f2 p = some (.inr (2, [.ref c1, .ref c2, .int s, .int v])) := hr2 _ _ hp_1 (by simp only [List.mem_cons, List.not_mem_nil, or_false, not_or]; exact cne hp_1 hba_1 (by simp))
      have h1_2 : f2 c1 = some (.inl (cy 0, n1, .inl (g))) := hr2 _ _ h1_1 (by simp only [List.mem_cons, List.not_mem_nil, or_false, not_or]; exact cne h1_1 hba_1 (by simp))
      have h2_2 : f2 c2 = some (.inl (cy 0, n2, .inl (h))) := hr2 _ _ h2_1 (by simp only [List.mem_cons, List.not_mem_nil, or_false, not_or]; exact cne h2_1 hba_1 (by simp))
      have hq0_2 : f2 q = some (.inr (2, [.ref d1, .ref d2, .int qs, .int qv])) := hr2 _ _ hq0_1 (by simp only [List.mem_cons, List.not_mem_nil, or_false, not_or]; exact cne hq0_1 hba_1 (by simp))
      have hd1_2 : f2 d1 = some (.inl (cy 0, m1, .inl (gq))) := hr2 _ _ hd1_1 (by simp only [List.mem_cons, List.not_mem_nil, or_false, not_or]; exact cne hd1_1 hba_1 (by simp))
      have hd2_2 : f2 d2 = some (.inl (cy 0, m2, .inl (hh))) := hr2 _ _ hd2_1 (by simp only [List.mem_cons, List.not_mem_nil, or_false, not_or]; exact cne hd2_1 hba_1 (by simp))
      have hwo_2 : f2 wo = some (.inr (10, [.int sz, .ref we, .ref stp, .ref pa, .ref ba, .ref td, .ref p, .int ah, .int gl])) := hr2 _ _ hwo_1 (by simp only [List.mem_cons, List.not_mem_nil, or_false, not_or]; exact cne hwo_1 hba_1 (by simp))
      have hF2 := pF_fr hFy1 hr2 (by intro z hz2; simp only [List.mem_cons, List.not_mem_nil, or_false] at hz2; rw [hz2]; exact hDb)
      refine gz_aload_n dX10_isParting_37 rfl rfl ?_
      refine gz_aload_n dX10_isParting_38 rfl rfl ?_
      refine spX10_37 hwo_2  (Nat.le_of_ble_eq_true rfl) dX10_isParting_39 ?_
      obtain ⟨f3, hf3⟩ : ∃ gg : gMem, gg = va_up f2 wo (some (.inr (10, [.int sz, .ref we, .ref stp, .ref pa, .ref ba, .ref td, .ref q, .int ah, .int gl]))) := ⟨_, rfl⟩
      refine gz_eq (f2 := f3) hf3.symm rfl rfl rfl ?_
      have hpa_3 : f3 pa = some (.inl (cy 6, 5, .inr (.inr (.inr (.inr (pg)))))) := by rw [hf3, va_up_ne _ _ (cne hpa_2 hwo_2 (by simp))]; exact hpa_2
      have hp_3 : f3 p = some (.inr (2, [.ref c1, .ref c2, .int s, .int v])) := by rw [hf3, va_up_ne _ _ (cne hp_2 hwo_2 (by simp))]; exact hp_2
      have h1_3 : f3 c1 = some (.inl (cy 0, n1, .inl (g))) := by rw [hf3, va_up_ne _ _ (cne h1_2 hwo_2 (by simp))]; exact h1_2
      have h2_3 : f3 c2 = some (.inl (cy 0, n2, .inl (h))) := by rw [hf3, va_up_ne _ _ (cne h2_2 hwo_2 (by simp))]; exact h2_2
      have hq0_3 : f3 q = some (.inr (2, [.ref d1, .ref d2, .int qs, .int qv])) := by rw [hf3, va_up_ne _ _ (cne hq0_2 hwo_2 (by simp))]; exact hq0_2
      have hd1_3 : f3 d1 = some (.inl (cy 0, m1, .inl (gq))) := by rw [hf3, va_up_ne _ _ (cne hd1_2 hwo_2 (by simp))]; exact hd1_2
      have hd2_3 : f3 d2 = some (.inl (cy 0, m2, .inl (hh))) := by rw [hf3, va_up_ne _ _ (cne hd2_2 hwo_2 (by simp))]; exact hd2_2
      have hba_3 : f3 ba = some (.inl (cy 2, 5, .inr (.inl (b_2)))) := by rw [hf3, va_up_ne _ _ (cne hba_2 hwo_2 (by simp))]; exact hba_2
      have hwo_3 : f3 wo = some (.inr (10, [.int sz, .ref we, .ref stp, .ref pa, .ref ba, .ref td, .ref q, .int ah, .int gl])) := by rw [hf3]; exact va_up_self _ _ _
      refine gz_aload_n dX10_isParting_42 rfl rfl ?_
      refine gz_iconst (v := 0) dX10_isParting_43 (by decide) ?_
      refine gz_iconst (v := 1) dX10_isParting_44 (by decide) ?_
      refine gz_iconst (v := 0) dX10_isParting_45 (by decide) ?_
      refine gz_iconst (v := (-1)) dX10_isParting_46 (by decide) ?_
      have hFy2 : pF cy P Q f3 := by rw [hf3]; exact pF_wo hF2 hwo_2
      refine scX10_144 (k_X10_run (sn := (-1)) hqs hqv hIq ha hpg hDb 250 0 1 0 b_2 _ hwo_3 hba_3 hpa_3 hq0_3 hd1_3 hd2_3 hFy2 (by decide) ⟨by decide, fun _ => ⟨by decide, by have e0 : (0 : Int32).toInt = 0 := rfl; omega⟩⟩) hwo_3 ⟨(by simp only [gRm]; omega), (by simp only [gRm]; omega)⟩ ⟨(Nat.zero_le _), (Nat.zero_le _)⟩ rfl rfl (Nat.le_of_ble_eq_true rfl) dX10_isParting_47 ?_
      rintro f4 ⟨b_4, hba_4, hr4⟩
      have hpa_4 : f4 pa = some (.inl (cy 6, 5, .inr (.inr (.inr (.inr (pg)))))) := hr4 _ _ hpa_3 (by simp only [List.mem_cons, List.not_mem_nil, or_false, not_or]; exact cne hpa_3 hba_3 (by simp))
      have hp_4 : f4 p = some (.inr (2, [.ref c1, .ref c2, .int s, .int v])) := hr4 _ _ hp_3 (by simp only [List.mem_cons, List.not_mem_nil, or_false, not_or]; exact cne hp_3 hba_3 (by simp))
      have h1_4 : f4 c1 = some (.inl (cy 0, n1, .inl (g))) := hr4 _ _ h1_3 (by simp only [List.mem_cons, List.not_mem_nil, or_false, not_or]; exact cne h1_3 hba_3 (by simp))
      have h2_4 : f4 c2 = some (.inl (cy 0, n2, .inl (h))) := hr4 _ _ h2_3 (by simp only [List.mem_cons, List.not_mem_nil, or_false, not_or]; exact cne h2_3 hba_3 (by simp))
      have hq0_4 : f4 q = some (.inr (2, [.ref d1, .ref d2, .int qs, .int qv])) := hr4 _ _ hq0_3 (by simp only [List.mem_cons, List.not_mem_nil, or_false, not_or]; exact cne hq0_3 hba_3 (by simp))
      have hd1_4 : f4 d1 = some (.inl (cy 0, m1, .inl (gq))) := hr4 _ _ hd1_3 (by simp only [List.mem_cons, List.not_mem_nil, or_false, not_or]; exact cne hd1_3 hba_3 (by simp))
      have hd2_4 : f4 d2 = some (.inl (cy 0, m2, .inl (hh))) := hr4 _ _ hd2_3 (by simp only [List.mem_cons, List.not_mem_nil, or_false, not_or]; exact cne hd2_3 hba_3 (by simp))
      have hwo_4 : f4 wo = some (.inr (10, [.int sz, .ref we, .ref stp, .ref pa, .ref ba, .ref td, .ref q, .int ah, .int gl])) := hr4 _ _ hwo_3 (by simp only [List.mem_cons, List.not_mem_nil, or_false, not_or]; exact cne hwo_3 hba_3 (by simp))
      have hF4 := pF_fr hFy2 hr4 (by intro z hz2; simp only [List.mem_cons, List.not_mem_nil, or_false] at hz2; rw [hz2]; exact hDb)
      refine gz_iconst (v := 0) dX10_isParting_50 (by decide) ?_
      refine gz_istore_n (lv' := [(3, .int 0), (0, .ref wo), (1, .ref p), (2, .ref q)]) dX10_isParting_51 rfl (by decide) rfl ?_
      refine gz_sub (lv' := [(3, .int 0), (0, .ref wo), (1, .ref p), (2, .ref q)]) (by simp [List.lookup]) ?_
      exact l_X10_isP2 hs hv hqs hqv hI hIq ha hpg hDb 6 0 b_4 _ (fr_tr (by rw [hf3]; exact fr_up (fr_tr (by rw [hf1]; exact fr_up hfr (by simp)) (fr_mo hr2 (by simp))) (by simp)) (fr_mo hr4 (by simp))) hwo_4 hba_4 hpa_4 hp_4 h1_4 h2_4 hq0_4 hd1_4 hd2_4 (⟨by decide, by decide, by decide⟩)
    ·
      refine gz_aload_n dX10_isParting_11 rfl rfl ?_
      refine sgX10_28 hwo rfl dX10_isParting_12 ?_
      refine gz_iload_n dX10_isParting_15 rfl rfl ?_
      refine gz_lconst (v := 0) dX10_isParting_16 (by decide) ?_
      refine gz_last hba ((by have e5 : (5 : Int32).toInt = 5 := rfl; simp only [fl_le] at c_8; exact vin_T (rfl : i.toInt = i.toInt) (by omega) (by omega))) dX10_isParting_17 ?_
      obtain ⟨f5, hf5⟩ : ∃ gg : gMem, gg = va_up fm ba (some (.inl (cy 2, 5, .inr (.inl (vp_updL bag (Int32.toNatClampNeg i) 0))))) := ⟨_, rfl⟩
      refine gz_eq (f2 := f5) hf5.symm rfl rfl rfl ?_
      have hwo_5 : f5 wo = some (.inr (10, [.int sz, .ref we, .ref stp, .ref pa, .ref ba, .ref td, .ref po, .int ah, .int gl])) := by rw [hf5, va_up_ne _ _ (cne hwo hba (by simp))]; exact hwo
      have hpa_5 : f5 pa = some (.inl (cy 6, 5, .inr (.inr (.inr (.inr (pg)))))) := by rw [hf5, va_up_ne _ _ (cne hpa hba (by simp))]; exact hpa
      have hp_5 : f5 p = some (.inr (2, [.ref c1, .ref c2, .int s, .int v])) := by rw [hf5, va_up_ne _ _ (cne hp hba (by simp))]; exact hp
      have h1_5 : f5 c1 = some (.inl (cy 0, n1, .inl (g))) := by rw [hf5, va_up_ne _ _ (cne h1 hba (by simp))]; exact h1
      have h2_5 : f5 c2 = some (.inl (cy 0, n2, .inl (h))) := by rw [hf5, va_up_ne _ _ (cne h2 hba (by simp))]; exact h2
      have hq0_5 : f5 q = some (.inr (2, [.ref d1, .ref d2, .int qs, .int qv])) := by rw [hf5, va_up_ne _ _ (cne hq0 hba (by simp))]; exact hq0
      have hd1_5 : f5 d1 = some (.inl (cy 0, m1, .inl (gq))) := by rw [hf5, va_up_ne _ _ (cne hd1 hba (by simp))]; exact hd1
      have hd2_5 : f5 d2 = some (.inl (cy 0, m2, .inl (hh))) := by rw [hf5, va_up_ne _ _ (cne hd2 hba (by simp))]; exact hd2
      have hba_5 : f5 ba = some (.inl (cy 2, 5, .inr (.inl (vp_updL bag (Int32.toNatClampNeg i) 0)))) := by rw [hf5]; exact va_up_self _ _ _
      refine gz_iinc (v := (i + 1)) (lv' := [(3, .int (i + 1)), (0, .ref wo), (1, .ref p), (2, .ref q)]) dX10_isParting_18 rfl rfl (by decide) rfl ?_
      refine gz_goto (tgt := 2) dX10_isParting_21 (by decide) ?_
      refine gz_sub (lv' := [(3, .int (i + 1)), (0, .ref wo), (1, .ref p), (2, .ref q)]) (by simp [List.lookup]) ?_
      have hFb : pF cy P Q f5 := pF_fr hF (S := [ba]) (by rw [hf5]; exact fr_up fr_rf (by simp)) (by intro z hz2; simp only [List.mem_cons, List.not_mem_nil, or_false] at hz2; rw [hz2]; exact hDb)
      exact ih (i + 1) (vp_updL bag (Int32.toNatClampNeg i) 0) _ (by rw [hf5]; exact fr_up hfr (by simp)) hwo_5 hba_5 hpa_5 hp_5 h1_5 h2_5 hq0_5 hd1_5 hd2_5 (hFb) (by have e1 : (1 : Int32).toInt = 1 := rfl; have e5 : (5 : Int32).toInt = 5 := rfl; simp only [fl_le] at c_8; have hx := T_add (rfl : i.toInt = i.toInt) e1 (by omega); omega)

set_option maxHeartbeats 4000000 in
set_option maxRecDepth 100000 in
theorem k_X10_isParting {l : Launch} {D : va_G} {cy : Nat → ClassId} {b : Nat} {f : gMem} {wo we stp pa ba td p c1 c2 n1 n2 : Nat} {sz ah gl s v : Int32} {g h : Nat → Int32} {pg : Nat → Option Nat} {bag : Nat → Int64} {P Q : Nat → Nat} {po q d1 d2 m1 m2 : Nat} {qs qv : Int32} {gq hh : Nat → Int32} (hwo : f wo = some (.inr (10, [.int sz, .ref we, .ref stp, .ref pa, .ref ba, .ref td, .ref po, .int ah, .int gl]))) (hba : f ba = some (.inl (cy 2, 5, .inr (.inl (bag))))) (hpa : f pa = some (.inl (cy 6, 5, .inr (.inr (.inr (.inr (pg))))))) (hp : f p = some (.inr (2, [.ref c1, .ref c2, .int s, .int v]))) (h1 : f c1 = some (.inl (cy 0, n1, .inl (g)))) (h2 : f c2 = some (.inl (cy 0, n2, .inl (h)))) (hq0 : f q = some (.inr (2, [.ref d1, .ref d2, .int qs, .int qv]))) (hd1 : f d1 = some (.inl (cy 0, m1, .inl (gq)))) (hd2 : f d2 = some (.inl (cy 0, m2, .inl (hh)))) (hs : 0 ≤ s.toInt ∧ 13 * s.toInt ≤ n1 ∧ n1 ≤ 520) (hv : 0 ≤ v.toInt ∧ 2 * v.toInt ≤ n2 ∧ n2 ≤ 80) (hqs : 0 ≤ qs.toInt ∧ 13 * qs.toInt ≤ m1 ∧ m1 ≤ 520) (hqv : 0 ≤ qv.toInt ∧ 2 * qv.toInt ≤ m2 ∧ m2 ≤ 80) (hI : fI g s.toInt) (hIq : fI gq qs.toInt) (ha : ah.toInt ≤ 4) (hpg : ∀ ii : Nat, ii < 5 → pg ii = some (P ii)) (hDb : ba ∉ scL P Q) (hF : pF cy P Q f) : gC l D cy b yX10_isParting cX10_isParting 4 (some .boolean) 256 0 0 [.ref wo, .ref p, .ref q] f (pI fun r f2 => (r = 0 ∨ r = 1) ∧ f2 wo = some (.inr (10, [.int sz, .ref we, .ref stp, .ref pa, .ref ba, .ref td, .ref q, .int ah, .int gl])) ∧ (∃ b2 : Nat → Int64, f2 ba = some (.inl (cy 2, 5, .inr (.inl (b2))))) ∧ fr [wo, ba] f f2) := by
  refine gC_of (by decide) (Nat.le_of_ble_eq_true rfl) ?_
  show gG l _ _ _ D cy b cX10_isParting 4 _ RX10 "isParting" 0 0 f 0 [(0, .ref wo), (1, .ref p), (2, .ref q)] []
  refine gz_iconst (v := 0) dX10_isParting_0 (by decide) ?_
  refine gz_istore_n (lv' := [(3, .int 0), (0, .ref wo), (1, .ref p), (2, .ref q)]) dX10_isParting_1 rfl (by decide) rfl ?_
  refine gz_sub (lv' := [(3, .int 0), (0, .ref wo), (1, .ref p), (2, .ref q)]) (by simp [List.lookup]) ?_
  exact l_X10_isP1 hs hv hqs hqv hI hIq ha hpg hDb 6 0 bag _ fr_rf hwo hba hpa hp h1 h2 hq0 hd1 hd2 (hF) (⟨by decide, by decide, by decide⟩)
