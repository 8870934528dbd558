set_option maxHeartbeats 4000000 in
set_option maxRecDepth 100000 in
theorem k_X8_writeDeed {l : Launch} {D : va_G} {cy : Nat → ClassId} {b : Nat} {te ot ob n p c1 c2 n1 n2 : Nat} {s v : Int32} {g h : Nat → Int32}   (hn : n < 2 ^ 31) (hs : 0 ≤ s.toInt ∧ 13 * s.toInt ≤ n1 ∧ n1 ≤ 520) (hv : 0 ≤ v.toInt ∧ 2 * v.toInt ≤ n2 ∧ n2 ≤ 80) (hne : ob ≠ c1 ∧ ob ≠ c2) : ∀ (k : Nat) (x wi ln : Int32) (og : Nat → Int32) (f : gMem), (f te = some (.inr (8, [.ref ot]))) → (f ot = some (.inr (9, [.ref ob, .int ln]))) → (f ob = some (.inl (cy 1, n, .inl (og)))) → (f p = some (.inr (2, [.ref c1, .ref c2, .int s, .int v]))) → (f c1 = some (.inl (cy 0, n1, .inl (g)))) → (f c2 = some (.inl (cy 0, n2, .inl (h)))) → (0 ≤ wi.toInt ∧ wi.toInt ≤ 12 ∧ 12 - wi.toInt < (k : Int)) → gC l D cy b yX8_writeDeed cX8_writeDeed 5 none (6 + 1 * k) 0 0 [.ref te, .ref p, .int x, .int wi] f (pV fun f2 => ∃ (l2 : Int32) (o2 : Nat → Int32), f2 ot = some (.inr (9, [.ref ob, .int l2])) ∧ f2 ob = some (.inl (cy 1, n, .inl o2)) ∧ fr [ot, ob] f f2) := by
  intro k
  induction k with
  | zero =>
    intro x wi ln og f hte hot hob hp h1 h2 hk
    exfalso; omega
  | succ k ih =>
    intro x wi ln og f hte hot hob hp h1 h2 hk
    refine gC_of (by decide) (Nat.le_of_ble_eq_true rfl) ?_
    show gG l _ _ _ D cy b cX8_writeDeed 5 _ RX8 "writeDeed" 0 0 f 0 [(0, .ref te), (1, .ref p), (2, .int x), (3, .int wi)] []
    refine gz_aload_n dX8_writeDeed_0 rfl rfl ?_
    refine gz_iload_n dX8_writeDeed_1 rfl rfl ?_
    refine gz_iconst (v := 0) dX8_writeDeed_2 (by decide) ?_
    refine scX8_25 (k_X2_field (w := x) (k := 0) hp h1 hs) hp ⟨(by simp only [gRm]; omega), (by simp only [gRm]; omega)⟩ ⟨(Nat.le_of_ble_eq_true rfl), (Nat.le_of_ble_eq_true rfl)⟩ rfl rfl (Nat.le_of_ble_eq_true rfl) dX8_writeDeed_3 ?_
    intro v9 f9 z9; rw [z9.1, z9.2]
    refine gz_istore (lv' := [(4, .int (fldF n1 g s x 0)), (0, .ref te), (1, .ref p), (2, .int x), (3, .int wi)]) dX8_writeDeed_6 (by decide) rfl ?_
    refine gz_iload dX8_writeDeed_8 rfl ?_
    refine gz_iconst (v := (-1)) dX8_writeDeed_10 (by decide) ?_
    refine gz_icmp_eq (tgt := 20) dX8_writeDeed_11 (by decide) (fun c_11 => ?_) (fun c_11 => ?_)
    ·
      exact gz_vret rfl dX8_writeDeed_20 (Nat.le_of_ble_eq_true rfl) (Nat.le_of_ble_eq_true rfl) (⟨rfl, _, _, hot, hob, fr_rf⟩)
    ·
      refine gz_iload_n dX8_writeDeed_14 rfl rfl ?_
      refine gz_bipush (v := 11) dX8_writeDeed_15 (by decide) ?_
      refine gz_icmp_le (tgt := 21) dX8_writeDeed_17 (by decide) (fun c_17 => ?_) (fun c_17 => ?_)
      ·
        refine gz_aload_n dX8_writeDeed_21 rfl rfl ?_
        refine gz_iload dX8_writeDeed_22 rfl ?_
        obtain ⟨x1, hx1⟩ : ∃ x0, (wnmF n ln og (fldF n1 g s x 0)) = x0 := ⟨_, rfl⟩
        refine scX8_31 (k_X8_writeName (x := (fldF n1 g s x 0)) hte hot hob hn) hte ⟨(by simp only [gRm]; omega), (by simp only [gRm]; omega)⟩ ⟨(Nat.le_of_ble_eq_true rfl), (Nat.le_of_ble_eq_true rfl)⟩ rfl rfl (Nat.le_of_ble_eq_true rfl) dX8_writeDeed_24 ?_
        rintro f1 ⟨hot_1, hob_1, hr1⟩; rw [hx1] at hot_1 hob_1
        have hte_1 : f1 te = some (.inr (8, [.ref ot])) := hr1 _ _ hte (by simp only [List.mem_cons, List.not_mem_nil, or_false, not_or]; exact ⟨cne hte hot (by simp), cne hte hob (by simp)⟩)
        have hp_1 : f1 p = some (.inr (2, [.ref c1, .ref c2, .int s, .int v])) := hr1 _ _ hp (by simp only [List.mem_cons, List.not_mem_nil, or_false, not_or]; exact ⟨cne hp hot (by simp), cne hp hob (by simp)⟩)
        have h1_1 : f1 c1 = some (.inl (cy 0, n1, .inl (g))) := hr1 _ _ h1 (by simp only [List.mem_cons, List.not_mem_nil, or_false, not_or]; exact ⟨cne h1 hot (by simp), Ne.symm (hne.1)⟩)
        have h2_1 : f1 c2 = some (.inl (cy 0, n2, .inl (h))) := hr1 _ _ h2 (by simp only [List.mem_cons, List.not_mem_nil, or_false, not_or]; exact ⟨cne h2 hot (by simp), Ne.symm (hne.2)⟩)
        refine gz_aload_n dX8_writeDeed_27 rfl rfl ?_
        refine gz_aload_n dX8_writeDeed_28 rfl rfl ?_
        refine gz_iload_n dX8_writeDeed_29 rfl rfl ?_
        refine gz_iload dX8_writeDeed_30 rfl ?_
        obtain ⟨x2, hx2⟩ : ∃ x0, (wheF n x1.1 x1.2 n1 n2 g h s v x (fldF n1 g s x 0)) = x0 := ⟨_, rfl⟩
        refine scX8_34 (k_X8_writeHead (x := x) (y := (fldF n1 g s x 0)) hte_1 hot_1 hob_1 hp_1 h1_1 h2_1 hn hs hv hne) hte_1 ⟨(by simp only [gRm]; omega), (by simp only [gRm]; omega)⟩ ⟨(Nat.le_of_ble_eq_true rfl), (Nat.le_of_ble_eq_true rfl)⟩ rfl rfl (Nat.le_of_ble_eq_true rfl) dX8_writeDeed_32 ?_
        rintro f2 ⟨hot_2, hob_2, hr2⟩; rw [hx2] at hot_2 hob_2
        have hte_2 : f2 te = some (.inr (8, [.ref ot])) := hr2 _ _ hte_1 (by simp only [List.mem_cons, List.not_mem_nil, or_false, not_or]; exact ⟨cne hte_1 hot_1 (by simp), cne hte_1 hob_1 (by simp)⟩)
        have hp_2 : f2 p = some (.inr (2, [.ref c1, .ref c2, .int s, .int v])) := hr2 _ _ hp_1 (by simp only [List.mem_cons, List.not_mem_nil, or_false, not_or]; exact ⟨cne hp_1 hot_1 (by simp), cne hp_1 hob_1 (by simp)⟩)
        have h1_2 : f2 c1 = some (.inl (cy 0, n1, .inl (g))) := hr2 _ _ h1_1 (by simp only [List.mem_cons, List.not_mem_nil, or_false, not_or]; exact ⟨cne h1_1 hot_1 (by simp), Ne.symm (hne.1)⟩)
        have h2_2 : f2 c2 = some (.inl (cy 0, n2, .inl (h))) := hr2 _ _ h2_1 (by simp only [List.mem_cons, List.not_mem_nil, or_false, not_or]; exact ⟨cne h2_1 hot_1 (by simp), Ne.symm (hne.2)⟩)
        refine gz_iload dX8_writeDeed_35 rfl ?_
        refine scX8_37 (k_X11_hasPair (x := (fldF n1 g s x 0))) ⟨(by simp only [gRm]; omega), (by simp only [gRm]; omega)⟩ ⟨(Nat.le_of_ble_eq_true rfl), (Nat.le_of_ble_eq_true rfl)⟩ rfl rfl (Nat.le_of_ble_eq_true rfl) dX8_writeDeed_37 ?_
        intro v9 f9 z9; rw [z9.1, z9.2]
        refine gz_if_eq (tgt := 101) dX8_writeDeed_40 (by decide) (fun c_40 => ?_) (fun c_40 => ?_)
        ·
          refine gz_iload dX8_writeDeed_101 rfl ?_
          refine scX8_44 (k_X11_hasDeed (x := (fldF n1 g s x 0))) ⟨(by simp only [gRm]; omega), (by simp only [gRm]; omega)⟩ ⟨(Nat.le_of_ble_eq_true rfl), (Nat.le_of_ble_eq_true rfl)⟩ rfl rfl (Nat.le_of_ble_eq_true rfl) dX8_writeDeed_103 ?_
          intro v9 f9 z9; rw [z9.1, z9.2]
          refine gz_if_eq (tgt := 123) dX8_writeDeed_106 (by decide) (fun c_106 => ?_) (fun c_106 => ?_)
          ·
            exact gz_vret rfl dX8_writeDeed_123 (Nat.le_of_ble_eq_true rfl) (Nat.le_of_ble_eq_true rfl) (⟨rfl, _, _, hot_2, hob_2, (fr_tr (fr_tr fr_rf (fr_mo hr1 (by simp))) (fr_mo hr2 (by simp)))⟩)
          ·
            refine gz_aload_n dX8_writeDeed_109 rfl rfl ?_
            refine gz_aload_n dX8_writeDeed_110 rfl rfl ?_
            refine gz_aload_n dX8_writeDeed_111 rfl rfl ?_
            refine gz_iload_n dX8_writeDeed_112 rfl rfl ?_
            refine gz_iconst (v := 3) dX8_writeDeed_113 (by decide) ?_
            refine scX8_25 (k_X2_field (w := x) (k := 3) hp_2 h1_2 hs) hp_2 ⟨(by simp only [gRm]; omega), (by simp only [gRm]; omega)⟩ ⟨(Nat.le_of_ble_eq_true rfl), (Nat.le_of_ble_eq_true rfl)⟩ rfl rfl (Nat.le_of_ble_eq_true rfl) dX8_writeDeed_114 ?_
            intro v9 f9 z9; rw [z9.1, z9.2]
            refine gz_iload_n dX8_writeDeed_117 rfl rfl ?_
            refine gz_iconst (v := 1) dX8_writeDeed_118 (by decide) ?_
            refine gz_iadd dX8_writeDeed_119 ?_
            refine scX8_21 (ih (fldF n1 g s x 3) (wi + 1) x2.1 x2.2 _ hte_2 hot_2 hob_2 hp_2 h1_2 h2_2 (by have e13 : (13 : Int32).toInt = 13 := rfl; have e0 : (0 : Int32).toInt = 0 := rfl; have e2 : (2 : Int32).toInt = 2 := rfl; have e1 : (1 : Int32).toInt = 1 := rfl; have e6 : (6 : Int32).toInt = 6 := rfl; have em2 : (-2 : Int32).toInt = -2 := rfl; have e11 : (11 : Int32).toInt = 11 := rfl; simp only [fl_le] at c_17; have hx := T_add (rfl : wi.toInt = wi.toInt) e1 (by omega); rw [hx]; omega)) hte_2 ⟨(by simp only [gRm]; omega), (by simp only [gRm]; omega)⟩ ⟨(Nat.le_of_ble_eq_true rfl), (Nat.le_of_ble_eq_true rfl)⟩ rfl rfl (Nat.le_of_ble_eq_true rfl) dX8_writeDeed_120 ?_
            rintro f3 ⟨l_3, o_3, hot_3, hob_3, hr3⟩
            have hte_3 : f3 te = some (.inr (8, [.ref ot])) := hr3 _ _ hte_2 (by simp only [List.mem_cons, List.not_mem_nil, or_false, not_or]; exact ⟨cne hte_2 hot_2 (by simp), cne hte_2 hob_2 (by simp)⟩)
            have hp_3 : f3 p = some (.inr (2, [.ref c1, .ref c2, .int s, .int v])) := hr3 _ _ hp_2 (by simp only [List.mem_cons, List.not_mem_nil, or_false, not_or]; exact ⟨cne hp_2 hot_2 (by simp), cne hp_2 hob_2 (by simp)⟩)
            have h1_3 : f3 c1 = some (.inl (cy 0, n1, .inl (g))) := hr3 _ _ h1_2 (by simp only [List.mem_cons, List.not_mem_nil, or_false, not_or]; exact ⟨cne h1_2 hot_2 (by simp), Ne.symm (hne.1)⟩)
            have h2_3 : f3 c2 = some (.inl (cy 0, n2, .inl (h))) := hr3 _ _ h2_2 (by simp only [List.mem_cons, List.not_mem_nil, or_false, not_or]; exact ⟨cne h2_2 hot_2 (by simp), Ne.symm (hne.2)⟩)
            exact gz_vret rfl dX8_writeDeed_123 (Nat.le_of_ble_eq_true rfl) (Nat.le_of_ble_eq_true rfl) (⟨rfl, _, _, hot_3, hob_3, (fr_tr (fr_tr (fr_tr fr_rf (fr_mo hr1 (by simp))) (fr_mo hr2 (by simp))) (fr_mo hr3 (by simp)))⟩)
        ·
          refine gz_aload_n dX8_writeDeed_43 rfl rfl ?_
          refine sgX8_9 hte_2 rfl dX8_writeDeed_44 ?_
          refine gz_bipush (v := 40) dX8_writeDeed_47 (by decide) ?_
          refine scX8_41 (k_X9_put (x := 40) hot_2 hob_2 hn) hot_2 ⟨(by simp only [gRm]; omega), (by simp only [gRm]; omega)⟩ ⟨(Nat.le_of_ble_eq_true rfl), (Nat.le_of_ble_eq_true rfl)⟩ rfl rfl (Nat.le_of_ble_eq_true rfl) dX8_writeDeed_49 ?_
          rintro f4 ⟨hot_4, hob_4, hr4⟩
          have hte_4 : f4 te = some (.inr (8, [.ref ot])) := hr4 _ _ hte_2 (by simp only [List.mem_cons, List.not_mem_nil, or_false, not_or]; exact ⟨cne hte_2 hot_2 (by simp), cne hte_2 hob_2 (by simp)⟩)
          have hp_4 : f4 p = some (.inr (2, [.ref c1, .ref c2, .int s, .int v])) := hr4 _ _ hp_2 (by simp only [List.mem_cons, List.not_mem_nil, or_false, not_or]; exact ⟨cne hp_2 hot_2 (by simp), cne hp_2 hob_2 (by simp)⟩)
          have h1_4 : f4 c1 = some (.inl (cy 0, n1, .inl (g))) := hr4 _ _ h1_2 (by simp only [List.mem_cons, List.not_mem_nil, or_false, not_or]; exact ⟨cne h1_2 hot_2 (by simp), Ne.symm (hne.1)⟩)
          have h2_4 : f4 c2 = some (.inl (cy 0, n2, .inl (h))) := hr4 _ _ h2_2 (by simp only [List.mem_cons, List.not_mem_nil, or_false, not_or]; exact ⟨cne h2_2 hot_2 (by simp), Ne.symm (hne.2)⟩)
          refine gz_aload_n dX8_writeDeed_52 rfl rfl ?_
          refine gz_aload_n dX8_writeDeed_53 rfl rfl ?_
          refine gz_aload_n dX8_writeDeed_54 rfl rfl ?_
          refine gz_iload_n dX8_writeDeed_55 rfl rfl ?_
          refine gz_iconst (v := 3) dX8_writeDeed_56 (by decide) ?_
          refine scX8_25 (k_X2_field (w := x) (k := 3) hp_4 h1_4 hs) hp_4 ⟨(by simp only [gRm]; omega), (by simp only [gRm]; omega)⟩ ⟨(Nat.le_of_ble_eq_true rfl), (Nat.le_of_ble_eq_true rfl)⟩ rfl rfl (Nat.le_of_ble_eq_true rfl) dX8_writeDeed_57 ?_
          intro v9 f9 z9; rw [z9.1, z9.2]
          refine gz_iload_n dX8_writeDeed_60 rfl rfl ?_
          refine gz_iconst (v := 1) dX8_writeDeed_61 (by decide) ?_
          refine gz_iadd dX8_writeDeed_62 ?_
          refine scX8_21 (ih (fldF n1 g s x 3) (wi + 1) (tpL x2.1 n) (tpG x2.1 n x2.2 40) _ hte_4 hot_4 hob_4 hp_4 h1_4 h2_4 (by have e13 : (13 : Int32).toInt = 13 := rfl; have e0 : (0 : Int32).toInt = 0 := rfl; have e2 : (2 : Int32).toInt = 2 := rfl; have e1 : (1 : Int32).toInt = 1 := rfl; have e6 : (6 : Int32).toInt = 6 := rfl; have em2 : (-2 : Int32).toInt = -2 := rfl; have e11 : (11 : Int32).toInt = 11 := rfl; simp only [fl_le] at c_17; have hx := T_add (rfl : wi.toInt = wi.toInt) e1 (by omega); rw [hx]; omega)) hte_4 ⟨(by simp only [gRm]; omega), (by simp only [gRm]; omega)⟩ ⟨(Nat.le_of_ble_eq_true rfl), (Nat.le_of_ble_eq_true rfl)⟩ rfl rfl (Nat.le_of_ble_eq_true rfl) dX8_writeDeed_63 ?_
          rintro f5 ⟨l_5, o_5, hot_5, hob_5, hr5⟩
          have hte_5 : f5 te = some (.inr (8, [.ref ot])) := hr5 _ _ hte_4 (by simp only [List.mem_cons, List.not_mem_nil, or_false, not_or]; exact ⟨cne hte_4 hot_4 (by simp), cne hte_4 hob_4 (by simp)⟩)
          have hp_5 : f5 p = some (.inr (2, [.ref c1, .ref c2, .int s, .int v])) := hr5 _ _ hp_4 (by simp only [List.mem_cons, List.not_mem_nil, or_false, not_or]; exact ⟨cne hp_4 hot_4 (by simp), cne hp_4 hob_4 (by simp)⟩)
          have h1_5 : f5 c1 = some (.inl (cy 0, n1, .inl (g))) := hr5 _ _ h1_4 (by simp only [List.mem_cons, List.not_mem_nil, or_false, not_or]; exact ⟨cne h1_4 hot_4 (by simp), Ne.symm (hne.1)⟩)
          have h2_5 : f5 c2 = some (.inl (cy 0, n2, .inl (h))) := hr5 _ _ h2_4 (by simp only [List.mem_cons, List.not_mem_nil, or_false, not_or]; exact ⟨cne h2_4 hot_4 (by simp), Ne.symm (hne.2)⟩)
          refine gz_aload_n dX8_writeDeed_66 rfl rfl ?_
          refine sgX8_9 hte_5 rfl dX8_writeDeed_67 ?_
          refine gz_bipush (v := 44) dX8_writeDeed_70 (by decide) ?_
          refine scX8_41 (k_X9_put (x := 44) hot_5 hob_5 hn) hot_5 ⟨(by simp only [gRm]; omega), (by simp only [gRm]; omega)⟩ ⟨(Nat.le_of_ble_eq_true rfl), (Nat.le_of_ble_eq_true rfl)⟩ rfl rfl (Nat.le_of_ble_eq_true rfl) dX8_writeDeed_72 ?_
          rintro f6 ⟨hot_6, hob_6, hr6⟩
          have hte_6 : f6 te = some (.inr (8, [.ref ot])) := hr6 _ _ hte_5 (by simp only [List.mem_cons, List.not_mem_nil, or_false, not_or]; exact ⟨cne hte_5 hot_5 (by simp), cne hte_5 hob_5 (by simp)⟩)
          have hp_6 : f6 p = some (.inr (2, [.ref c1, .ref c2, .int s, .int v])) := hr6 _ _ hp_5 (by simp only [List.mem_cons, List.not_mem_nil, or_false, not_or]; exact ⟨cne hp_5 hot_5 (by simp), cne hp_5 hob_5 (by simp)⟩)
          have h1_6 : f6 c1 = some (.inl (cy 0, n1, .inl (g))) := hr6 _ _ h1_5 (by simp only [List.mem_cons, List.not_mem_nil, or_false, not_or]; exact ⟨cne h1_5 hot_5 (by simp), Ne.symm (hne.1)⟩)
          have h2_6 : f6 c2 = some (.inl (cy 0, n2, .inl (h))) := hr6 _ _ h2_5 (by simp only [List.mem_cons, List.not_mem_nil, or_false, not_or]; exact ⟨cne h2_5 hot_5 (by simp), Ne.symm (hne.2)⟩)
          refine gz_aload_n dX8_writeDeed_75 rfl rfl ?_
          refine gz_aload_n dX8_writeDeed_76 rfl rfl ?_
          refine gz_aload_n dX8_writeDeed_77 rfl rfl ?_
          refine gz_iload_n dX8_writeDeed_78 rfl rfl ?_
          refine gz_iconst (v := 4) dX8_writeDeed_79 (by decide) ?_
          refine scX8_25 (k_X2_field (w := x) (k := 4) hp_6 h1_6 hs) hp_6 ⟨(by simp only [gRm]; omega), (by simp only [gRm]; omega)⟩ ⟨(Nat.le_of_ble_eq_true rfl), (Nat.le_of_ble_eq_true rfl)⟩ rfl rfl (Nat.le_of_ble_eq_true rfl) dX8_writeDeed_80 ?_
          intro v9 f9 z9; rw [z9.1, z9.2]
          refine gz_iload_n dX8_writeDeed_83 rfl rfl ?_
          refine gz_iconst (v := 1) dX8_writeDeed_84 (by decide) ?_
          refine gz_iadd dX8_writeDeed_85 ?_
          refine scX8_21 (ih (fldF n1 g s x 4) (wi + 1) (tpL l_5 n) (tpG l_5 n o_5 44) _ hte_6 hot_6 hob_6 hp_6 h1_6 h2_6 (by have e13 : (13 : Int32).toInt = 13 := rfl; have e0 : (0 : Int32).toInt = 0 := rfl; have e2 : (2 : Int32).toInt = 2 := rfl; have e1 : (1 : Int32).toInt = 1 := rfl; have e6 : (6 : Int32).toInt = 6 := rfl; have em2 : (-2 : Int32).toInt = -2 := rfl; have e11 : (11 : Int32).toInt = 11 := rfl; simp only [fl_le] at c_17; have hx := T_add (rfl : wi.toInt = wi.toInt) e1 (by omega); rw [hx]; omega)) hte_6 ⟨(by simp only [gRm]; omega), (by simp only [gRm]; omega)⟩ ⟨(Nat.le_of_ble_eq_true rfl), (Nat.le_of_ble_eq_true rfl)⟩ rfl rfl (Nat.le_of_ble_eq_true rfl) dX8_writeDeed_86 ?_
          rintro f7 ⟨l_7, o_7, hot_7, hob_7, hr7⟩
          have hte_7 : f7 te = some (.inr (8, [.ref ot])) := hr7 _ _ hte_6 (by simp only [List.mem_cons, List.not_mem_nil, or_false, not_or]; exact ⟨cne hte_6 hot_6 (by simp), cne hte_6 hob_6 (by simp)⟩)
          have hp_7 : f7 p = some (.inr (2, [.ref c1, .ref c2, .int s, .int v])) := hr7 _ _ hp_6 (by simp only [List.mem_cons, List.not_mem_nil, or_false, not_or]; exact ⟨cne hp_6 hot_6 (by simp), cne hp_6 hob_6 (by simp)⟩)
          have h1_7 : f7 c1 = some (.inl (cy 0, n1, .inl (g))) := hr7 _ _ h1_6 (by simp only [List.mem_cons, List.not_mem_nil, or_false, not_or]; exact ⟨cne h1_6 hot_6 (by simp), Ne.symm (hne.1)⟩)
          have h2_7 : f7 c2 = some (.inl (cy 0, n2, .inl (h))) := hr7 _ _ h2_6 (by simp only [List.mem_cons, List.not_mem_nil, or_false, not_or]; exact ⟨cne h2_6 hot_6 (by simp), Ne.symm (hne.2)⟩)
          refine gz_aload_n dX8_writeDeed_89 rfl rfl ?_
          refine sgX8_9 hte_7 rfl dX8_writeDeed_90 ?_
          refine gz_bipush (v := 41) dX8_writeDeed_93 (by decide) ?_
          refine scX8_41 (k_X9_put (x := 41) hot_7 hob_7 hn) hot_7 ⟨(by simp only [gRm]; omega), (by simp only [gRm]; omega)⟩ ⟨(Nat.le_of_ble_eq_true rfl), (Nat.le_of_ble_eq_true rfl)⟩ rfl rfl (Nat.le_of_ble_eq_true rfl) dX8_writeDeed_95 ?_
          rintro f8 ⟨hot_8, hob_8, hr8⟩
          have hte_8 : f8 te = some (.inr (8, [.ref ot])) := hr8 _ _ hte_7 (by simp only [List.mem_cons, List.not_mem_nil, or_false, not_or]; exact ⟨cne hte_7 hot_7 (by simp), cne hte_7 hob_7 (by simp)⟩)
          have hp_8 : f8 p = some (.inr (2, [.ref c1, .ref c2, .int s, .int v])) := hr8 _ _ hp_7 (by simp only [List.mem_cons, List.not_mem_nil, or_false, not_or]; exact ⟨cne hp_7 hot_7 (by simp), cne hp_7 hob_7 (by simp)⟩)
          have h1_8 : f8 c1 = some (.inl (cy 0, n1, .inl (g))) := hr8 _ _ h1_7 (by simp only [List.mem_cons, List.not_mem_nil, or_false, not_or]; exact ⟨cne h1_7 hot_7 (by simp), Ne.symm (hne.1)⟩)
          have h2_8 : f8 c2 = some (.inl (cy 0, n2, .inl (h))) := hr8 _ _ h2_7 (by simp only [List.mem_cons, List.not_mem_nil, or_false, not_or]; exact ⟨cne h2_7 hot_7 (by simp), Ne.symm (hne.2)⟩)
          refine gz_goto (tgt := 123) dX8_writeDeed_98 (by decide) ?_
          exact gz_vret rfl dX8_writeDeed_123 (Nat.le_of_ble_eq_true rfl) (Nat.le_of_ble_eq_true rfl) (⟨rfl, _, _, hot_8, hob_8, (fr_tr (fr_tr (fr_tr (fr_tr (fr_tr (fr_tr (fr_tr fr_rf (fr_mo hr1 (by simp))) (fr_mo hr2 (by simp))) (fr_mo hr4 (by simp))) (fr_mo hr5 (by simp))) (fr_mo hr6 (by simp))) (fr_mo hr7 (by simp))) (fr_mo hr8 (by simp)))⟩)
      ·
        exact gz_vret rfl dX8_writeDeed_20 (Nat.le_of_ble_eq_true rfl) (Nat.le_of_ble_eq_true rfl) (⟨rfl, _, _, hot, hob, fr_rf⟩)

set_option maxHeartbeats 4000000 in
set_option maxRecDepth 100000 in
theorem k_X8_write {l : Launch} {D : va_G} {cy : Nat → ClassId} {b : Nat} {f : gMem} {te ot ob n p c1 c2 n1 n2 : Nat} {ln s v : Int32} {og g h : Nat → Int32} (hte : f te = some (.inr (8, [.ref ot]))) (hot : f ot = some (.inr (9, [.ref ob, .int ln]))) (hob : f ob = some (.inl (cy 1, n, .inl (og)))) (hp : f p = some (.inr (2, [.ref c1, .ref c2, .int s, .int v]))) (h1 : f c1 = some (.inl (cy 0, n1, .inl (g)))) (h2 : f c2 = some (.inl (cy 0, n2, .inl (h)))) (hn : n < 2 ^ 31) (hs : 0 ≤ s.toInt ∧ 13 * s.toInt ≤ n1 ∧ n1 ≤ 520) (hv : 0 ≤ v.toInt ∧ 2 * v.toInt ≤ n2 ∧ n2 ≤ 80) (hne : ob ≠ c1 ∧ ob ≠ c2) : gC l D cy b yX8_write cX8_write 2 none 20 0 0 [.ref te, .ref p] f (pV fun f2 => ∃ (l2 : Int32) (o2 : Nat → Int32), f2 ot = some (.inr (9, [.ref ob, .int l2])) ∧ f2 ob = some (.inl (cy 1, n, .inl o2)) ∧ fr [ot, ob] f f2) := by
  refine gC_of (by decide) (Nat.le_of_ble_eq_true rfl) ?_
  show gG l _ _ _ D cy b cX8_write 2 _ RX8 "write" 0 0 f 0 [(0, .ref te), (1, .ref p)] []
  refine gz_aload_n dX8_write_0 rfl rfl ?_
  refine sgX8_9 hte rfl dX8_write_1 ?_
  refine gz_iconst (v := 0) dX8_write_4 (by decide) ?_
  refine scX8_15 (k_X9_cut (x := 0) hot) hot ⟨(Nat.le_of_ble_eq_true rfl), (Nat.le_of_ble_eq_true rfl)⟩ ⟨(Nat.le_of_ble_eq_true rfl), (Nat.le_of_ble_eq_true rfl)⟩ rfl rfl (Nat.le_of_ble_eq_true rfl) dX8_write_5 ?_
  rintro f1 ⟨hot_1, hr1⟩
  have hte_1 : f1 te = some (.inr (8, [.ref ot])) := hr1 _ _ hte (by simp only [List.mem_cons, List.not_mem_nil, or_false, not_or]; exact cne hte hot (by simp))
  have hob_1 : f1 ob = some (.inl (cy 1, n, .inl (og))) := hr1 _ _ hob (by simp only [List.mem_cons, List.not_mem_nil, or_false, not_or]; exact cne hob hot (by simp))
  have hp_1 : f1 p = some (.inr (2, [.ref c1, .ref c2, .int s, .int v])) := hr1 _ _ hp (by simp only [List.mem_cons, List.not_mem_nil, or_false, not_or]; exact cne hp hot (by simp))
  have h1_1 : f1 c1 = some (.inl (cy 0, n1, .inl (g))) := hr1 _ _ h1 (by simp only [List.mem_cons, List.not_mem_nil, or_false, not_or]; exact cne h1 hot (by simp))
  have h2_1 : f1 c2 = some (.inl (cy 0, n2, .inl (h))) := hr1 _ _ h2 (by simp only [List.mem_cons, List.not_mem_nil, or_false, not_or]; exact cne h2 hot (by simp))
  refine gz_aload_n dX8_write_8 rfl rfl ?_
  refine gz_aload_n dX8_write_9 rfl rfl ?_
  refine gz_iconst (v := 0) dX8_write_10 (by decide) ?_
  refine gz_iconst (v := 0) dX8_write_11 (by decide) ?_
  refine scX8_21 (k_X8_writeDeed hn hs hv hne 13 0 0 (tCut ln 0) og _ hte_1 hot_1 hob_1 hp_1 h1_1 h2_1 (by decide)) hte_1 ⟨(Nat.le_of_ble_eq_true rfl), (Nat.le_of_ble_eq_true rfl)⟩ ⟨(Nat.le_of_ble_eq_true rfl), (Nat.le_of_ble_eq_true rfl)⟩ rfl rfl (Nat.le_of_ble_eq_true rfl) dX8_write_12 ?_
  rintro f2 ⟨l_2, o_2, hot_2, hob_2, hr2⟩
  have hte_2 : f2 te = some (.inr (8, [.ref ot])) := hr2 _ _ hte_1 (by simp only [List.mem_cons, List.not_mem_nil, or_false, not_or]; exact ⟨cne hte_1 hot_1 (by simp), cne hte_1 hob_1 (by simp)⟩)
  have hp_2 : f2 p = some (.inr (2, [.ref c1, .ref c2, .int s, .int v])) := hr2 _ _ hp_1 (by simp only [List.mem_cons, List.not_mem_nil, or_false, not_or]; exact ⟨cne hp_1 hot_1 (by simp), cne hp_1 hob_1 (by simp)⟩)
  have h1_2 : f2 c1 = some (.inl (cy 0, n1, .inl (g))) := hr2 _ _ h1_1 (by simp only [List.mem_cons, List.not_mem_nil, or_false, not_or]; exact ⟨cne h1_1 hot_1 (by simp), Ne.symm (hne.1)⟩)
  have h2_2 : f2 c2 = some (.inl (cy 0, n2, .inl (h))) := hr2 _ _ h2_1 (by simp only [List.mem_cons, List.not_mem_nil, or_false, not_or]; exact ⟨cne h2_1 hot_1 (by simp), Ne.symm (hne.2)⟩)
  exact gz_vret rfl dX8_write_15 (Nat.le_of_ble_eq_true rfl) (Nat.le_of_ble_eq_true rfl) (⟨rfl, _, _, hot_2, hob_2, (fr_tr (fr_tr fr_rf (fr_mo hr1 (by simp))) (fr_mo hr2 (by simp)))⟩)

def rdP (l : Launch) (D : va_G) (cy : Nat → ClassId) (b rd tx tb p c1 c2 n n1 n2 : Nat) (len : Int32) (tg : Nat → Int32) (k : Nat) : Prop := ∀ (ar wi pl fa s v : Int32) (g h : Nat → Int32) (f : gMem), (f rd = some (.inr (6, [.ref tx, .ref p, .int pl, .int fa]))) → (f tx = some (.inr (9, [.ref tb, .int len]))) → (f tb = some (.inl (cy 1, n, .inl (tg)))) → (f p = some (.inr (2, [.ref c1, .ref c2, .int s, .int v]))) → (f c1 = some (.inl (cy 0, n1, .inl (g)))) → (f c2 = some (.inl (cy 0, n2, .inl (h)))) → (0 ≤ s.toInt ∧ 13 * s.toInt ≤ n1 ∧ n1 ≤ 520) → (0 ≤ v.toInt ∧ 2 * v.toInt ≤ n2 ∧ n2 ≤ 80) → (fI g s.toInt) → (0 ≤ wi.toInt ∧ wi.toInt ≤ 12 ∧ 12 - wi.toInt < (k : Int)) → gC l D cy b yX6_readDeed cX6_readDeed 7 (some .boolean) (7 + 2 * k) 0 0 [.ref rd, .int ar, .int wi] f (pI fun r f2 => ∃ (pl2 fa2 s2 v2 : Int32) (g2 h2 : Nat → Int32), f2 rd = some (.inr (6, [.ref tx, .ref p, .int pl2, .int fa2])) ∧ f2 p = some (.inr (2, [.ref c1, .ref c2, .int s2, .int v2])) ∧ f2 c1 = some (.inl (cy 0, n1, .inl (g2))) ∧ f2 c2 = some (.inl (cy 0, n2, .inl (h2))) ∧ (r = 0 ∨ r = 1) ∧ (0 ≤ s2.toInt ∧ 13 * s2.toInt ≤ n1 ∧ n1 ≤ 520) ∧ (0 ≤ v2.toInt ∧ 2 * v2.toInt ≤ n2 ∧ n2 ≤ 80) ∧ fI g2 s2.toInt ∧ fr [rd, p, c1, c2] f f2)

set_option maxHeartbeats 4000000 in
set_option maxRecDepth 100000 in
theorem k_X6_readDeeds {l : Launch} {D : va_G} {cy : Nat → ClassId} {b : Nat} {f : gMem} {rd tx tb p c1 c2 n n1 n2 : Nat} {len pl fa s v : Int32} {tg g h : Nat → Int32} {kd wd wi : Int32} {k : Nat} (hrd : f rd = some (.inr (6, [.ref tx, .ref p, .int pl, .int fa]))) (htx : f tx = some (.inr (9, [.ref tb, .int len]))) (htb : f tb = some (.inl (cy 1, n, .inl (tg)))) (hp : f p = some (.inr (2, [.ref c1, .ref c2, .int s, .int v]))) (h1 : f c1 = some (.inl (cy 0, n1, .inl (g)))) (h2 : f c2 = some (.inl (cy 0, n2, .inl (h)))) (hn : n < 2 ^ 31) (hne : tb ≠ c1 ∧ tb ≠ c2 ∧ c1 ≠ c2) (hs : 0 ≤ s.toInt ∧ 13 * s.toInt ≤ n1 ∧ n1 ≤ 520) (hv : 0 ≤ v.toInt ∧ 2 * v.toInt ≤ n2 ∧ n2 ≤ 80) (hI : fI g s.toInt) (hw : 0 ≤ wi.toInt ∧ wi.toInt ≤ 11 ∧ 11 - wi.toInt < (k : Int)) (IH : rdP l D cy b rd tx tb p c1 c2 n n1 n2 len tg k) : gC l D cy b yX6_readDeeds cX6_readDeeds 4 (some .boolean) (7 + 2 * k + 1) 0 0 [.ref rd, .int kd, .int wd, .int wi] f (pI fun r f2 => ∃ (pl2 fa2 s2 v2 : Int32) (g2 h2 : Nat → Int32), f2 rd = some (.inr (6, [.ref tx, .ref p, .int pl2, .int fa2])) ∧ f2 p = some (.inr (2, [.ref c1, .ref c2, .int s2, .int v2])) ∧ f2 c1 = some (.inl (cy 0, n1, .inl (g2))) ∧ f2 c2 = some (.inl (cy 0, n2, .inl (h2))) ∧ (r = 0 ∨ r = 1) ∧ (0 ≤ s2.toInt ∧ 13 * s2.toInt ≤ n1 ∧ n1 ≤ 520) ∧ (0 ≤ v2.toInt ∧ 2 * v2.toInt ≤ n2 ∧ n2 ≤ 80) ∧ fI g2 s2.toInt ∧ fr [rd, p, c1, c2] f f2) := by
  refine gC_of (by decide) (Nat.le_of_ble_eq_true rfl) ?_
  show gG l _ _ _ D cy b cX6_readDeeds 4 _ RX6 "readDeeds" 0 0 f 0 [(0, .ref rd), (1, .int kd), (2, .int wd), (3, .int wi)] []
  refine gz_iload_n dX6_readDeeds_0 rfl rfl ?_
  refine scX6_89 (k_X11_hasDeed (x := kd)) ⟨(by simp only [gRm]; omega), (by simp only [gRm]; omega)⟩ ⟨(Nat.le_of_ble_eq_true rfl), (Nat.le_of_ble_eq_true rfl)⟩ rfl rfl (Nat.le_of_ble_eq_true rfl) dX6_readDeeds_1 ?_
  intro v9 f9 z9; rw [z9.1, z9.2]
  refine gz_if_ne (tgt := 9) dX6_readDeeds_4 (by decide) (fun c_4 => ?_) (fun c_4 => ?_)
  ·
    refine gz_iload_n dX6_readDeeds_9 rfl rfl ?_
    refine scX6_92 (k_X11_hasPair (x := kd)) ⟨(by simp only [gRm]; omega), (by simp only [gRm]; omega)⟩ ⟨(Nat.le_of_ble_eq_true rfl), (Nat.le_of_ble_eq_true rfl)⟩ rfl rfl (Nat.le_of_ble_eq_true rfl) dX6_readDeeds_10 ?_
    intro v9 f9 z9; rw [z9.1, z9.2]
    refine gz_if_ne (tgt := 25) dX6_readDeeds_13 (by decide) (fun c_13 => ?_) (fun c_13 => ?_)
    ·
      refine gz_aload_n dX6_readDeeds_25 rfl rfl ?_
      refine gz_bipush (v := 40) dX6_readDeeds_26 (by decide) ?_
      obtain ⟨x1, hx1⟩ : ∃ x0, (rsgF len n tg pl fa 40) = x0 := ⟨_, rfl⟩
      refine scX6_95 (k_X6_readSign (sg := 40) hrd htx htb hn) hrd ⟨(by simp only [gRm]; omega), (by simp only [gRm]; omega)⟩ ⟨(Nat.le_of_ble_eq_true rfl), (Nat.le_of_ble_eq_true rfl)⟩ rfl rfl (Nat.le_of_ble_eq_true rfl) dX6_readDeeds_28 ?_
      rintro r1 f1 ⟨z1, hrd_1, hr1⟩; rw [hx1] at z1 hrd_1; rw [z1]
      have htx_1 : f1 tx = some (.inr (9, [.ref tb, .int len])) := hr1 _ _ htx (by simp only [List.mem_cons, List.not_mem_nil, or_false, not_or]; exact cne htx hrd (by simp))
      have htb_1 : f1 tb = some (.inl (cy 1, n, .inl (tg))) := hr1 _ _ htb (by simp only [List.mem_cons, List.not_mem_nil, or_false, not_or]; exact cne htb hrd (by simp))
      have hp_1 : f1 p = some (.inr (2, [.ref c1, .ref c2, .int s, .int v])) := hr1 _ _ hp (by simp only [List.mem_cons, List.not_mem_nil, or_false, not_or]; exact cne hp hrd (by simp))
      have h1_1 : f1 c1 = some (.inl (cy 0, n1, .inl (g))) := hr1 _ _ h1 (by simp only [List.mem_cons, List.not_mem_nil, or_false, not_or]; exact cne h1 hrd (by simp))
      have h2_1 : f1 c2 = some (.inl (cy 0, n2, .inl (h))) := hr1 _ _ h2 (by simp only [List.mem_cons, List.not_mem_nil, or_false, not_or]; exact cne h2 hrd (by simp))
      have hbx1 : x1.1 = 0 ∨ x1.1 = 1 := by rw [← hx1]; exact bz_rsgF
      refine gz_if_eq (tgt := 78) dX6_readDeeds_31 (by decide) (fun c_31 => ?_) (fun c_31 => ?_)
      ·
        refine gz_iconst (v := 0) dX6_readDeeds_78 (by decide) ?_
        exact gz_zret rfl (by first | decide | exact nrb (Or.inl rfl) | (refine nrb ?_; (repeat' split) <;> first | assumption | exact Or.inl rfl | exact Or.inr rfl)) dX6_readDeeds_79 (Nat.le_of_ble_eq_true rfl) (Nat.le_of_ble_eq_true rfl) (⟨_, rfl, _, _, _, _, _, _, hrd_1, hp_1, h1_1, h2_1, (by first | assumption | exact Or.inl rfl | exact Or.inr rfl), hs, hv, hI, (fr_tr fr_rf (fr_mo hr1 (by simp)))⟩)
      ·
        refine gz_aload_n dX6_readDeeds_34 rfl rfl ?_
        refine gz_iload_n dX6_readDeeds_35 rfl rfl ?_
        refine gz_iload_n dX6_readDeeds_36 rfl rfl ?_
        refine gz_iconst (v := 1) dX6_readDeeds_37 (by decide) ?_
        refine gz_iadd dX6_readDeeds_38 ?_
        refine scX6_31 (IH wd (wi + 1) x1.2.1 x1.2.2 s v g h _ hrd_1 htx_1 htb_1 hp_1 h1_1 h2_1 hs hv hI (by have e13 : (13 : Int32).toInt = 13 := rfl; have e0 : (0 : Int32).toInt = 0 := rfl; have e2 : (2 : Int32).toInt = 2 := rfl; have e1 : (1 : Int32).toInt = 1 := rfl; have e6 : (6 : Int32).toInt = 6 := rfl; have em2 : (-2 : Int32).toInt = -2 := rfl; have e11 : (11 : Int32).toInt = 11 := rfl; have hx := T_add (rfl : wi.toInt = wi.toInt) e1 (by omega); rw [hx]; omega)) hrd_1 ⟨(by simp only [gRm]; omega), (by simp only [gRm]; omega)⟩ ⟨(Nat.le_of_ble_eq_true rfl), (Nat.le_of_ble_eq_true rfl)⟩ rfl rfl (Nat.le_of_ble_eq_true rfl) dX6_readDeeds_39 ?_
        rintro r2 f2 ⟨pl_2, fa_2, s_2, v_2, g_2, h_2, hrd_2, hp_2, h1_2, h2_2, hb_2, hs_2, hv_2, hI_2, hr2⟩
        have htx_2 : f2 tx = some (.inr (9, [.ref tb, .int len])) := hr2 _ _ htx_1 (by simp only [List.mem_cons, List.not_mem_nil, or_false, not_or]; exact ⟨cne htx_1 hrd_1 (by simp), cne htx_1 hp_1 (by simp), cne htx_1 h1_1 (by simp), cne htx_1 h2_1 (by simp)⟩)
        have htb_2 : f2 tb = some (.inl (cy 1, n, .inl (tg))) := hr2 _ _ htb_1 (by simp only [List.mem_cons, List.not_mem_nil, or_false, not_or]; exact ⟨cne htb_1 hrd_1 (by simp), cne htb_1 hp_1 (by simp), hne.1, hne.2.1⟩)
        refine gz_if_eq (tgt := 78) dX6_readDeeds_42 (by decide) (fun c_42 => ?_) (fun c_42 => ?_)
        ·
          refine gz_iconst (v := 0) dX6_readDeeds_78 (by decide) ?_
          exact gz_zret rfl (by first | decide | exact nrb (Or.inl rfl) | (refine nrb ?_; (repeat' split) <;> first | assumption | exact Or.inl rfl | exact Or.inr rfl)) dX6_readDeeds_79 (Nat.le_of_ble_eq_true rfl) (Nat.le_of_ble_eq_true rfl) (⟨_, rfl, _, _, _, _, _, _, hrd_2, hp_2, h1_2, h2_2, (by first | assumption | exact Or.inl rfl | exact Or.inr rfl), hs_2, hv_2, hI_2, (fr_tr (fr_tr fr_rf (fr_mo hr1 (by simp))) (fr_mo hr2 (by simp)))⟩)
        ·
          refine gz_aload_n dX6_readDeeds_45 rfl rfl ?_
          refine gz_bipush (v := 44) dX6_readDeeds_46 (by decide) ?_
          obtain ⟨x2, hx2⟩ : ∃ x0, (rsgF len n tg pl_2 fa_2 44) = x0 := ⟨_, rfl⟩
          refine scX6_95 (k_X6_readSign (sg := 44) hrd_2 htx_2 htb_2 hn) hrd_2 ⟨(by simp only [gRm]; omega), (by simp only [gRm]; omega)⟩ ⟨(Nat.le_of_ble_eq_true rfl), (Nat.le_of_ble_eq_true rfl)⟩ rfl rfl (Nat.le_of_ble_eq_true rfl) dX6_readDeeds_48 ?_
          rintro r3 f3 ⟨z3, hrd_3, hr3⟩; rw [hx2] at z3 hrd_3; rw [z3]
          have htx_3 : f3 tx = some (.inr (9, [.ref tb, .int len])) := hr3 _ _ htx_2 (by simp only [List.mem_cons, List.not_mem_nil, or_false, not_or]; exact cne htx_2 hrd_2 (by simp))
          have htb_3 : f3 tb = some (.inl (cy 1, n, .inl (tg))) := hr3 _ _ htb_2 (by simp only [List.mem_cons, List.not_mem_nil, or_false, not_or]; exact cne htb_2 hrd_2 (by simp))
          have hp_3 : f3 p = some (.inr (2, [.ref c1, .ref c2, .int s_2, .int v_2])) := hr3 _ _ hp_2 (by simp only [List.mem_cons, List.not_mem_nil, or_false, not_or]; exact cne hp_2 hrd_2 (by simp))
          have h1_3 : f3 c1 = some (.inl (cy 0, n1, .inl (g_2))) := hr3 _ _ h1_2 (by simp only [List.mem_cons, List.not_mem_nil, or_false, not_or]; exact cne h1_2 hrd_2 (by simp))
          have h2_3 : f3 c2 = some (.inl (cy 0, n2, .inl (h_2))) := hr3 _ _ h2_2 (by simp only [List.mem_cons, List.not_mem_nil, or_false, not_or]; exact cne h2_2 hrd_2 (by simp))
          have hbx2 : x2.1 = 0 ∨ x2.1 = 1 := by rw [← hx2]; exact bz_rsgF
          refine gz_if_eq (tgt := 78) dX6_readDeeds_51 (by decide) (fun c_51 => ?_) (fun c_51 => ?_)
          ·
            refine gz_iconst (v := 0) dX6_readDeeds_78 (by decide) ?_
            exact gz_zret rfl (by first | decide | exact nrb (Or.inl rfl) | (refine nrb ?_; (repeat' split) <;> first | assumption | exact Or.inl rfl | exact Or.inr rfl)) dX6_readDeeds_79 (Nat.le_of_ble_eq_true rfl) (Nat.le_of_ble_eq_true rfl) (⟨_, rfl, _, _, _, _, _, _, hrd_3, hp_3, h1_3, h2_3, (by first | assumption | exact Or.inl rfl | exact Or.inr rfl), hs_2, hv_2, hI_2, (fr_tr (fr_tr (fr_tr fr_rf (fr_mo hr1 (by simp))) (fr_mo hr2 (by simp))) (fr_mo hr3 (by simp)))⟩)
          ·
            refine gz_aload_n dX6_readDeeds_54 rfl rfl ?_
            refine gz_iload_n dX6_readDeeds_55 rfl rfl ?_
            refine gz_iload_n dX6_readDeeds_56 rfl rfl ?_
            refine gz_iconst (v := 1) dX6_readDeeds_57 (by decide) ?_
            refine gz_iadd dX6_readDeeds_58 ?_
            refine scX6_31 (IH wd (wi + 1) x2.2.1 x2.2.2 s_2 v_2 g_2 h_2 _ hrd_3 htx_3 htb_3 hp_3 h1_3 h2_3 hs_2 hv_2 hI_2 (by have e13 : (13 : Int32).toInt = 13 := rfl; have e0 : (0 : Int32).toInt = 0 := rfl; have e2 : (2 : Int32).toInt = 2 := rfl; have e1 : (1 : Int32).toInt = 1 := rfl; have e6 : (6 : Int32).toInt = 6 := rfl; have em2 : (-2 : Int32).toInt = -2 := rfl; have e11 : (11 : Int32).toInt = 11 := rfl; have hx := T_add (rfl : wi.toInt = wi.toInt) e1 (by omega); rw [hx]; omega)) hrd_3 ⟨(by simp only [gRm]; omega), (by simp only [gRm]; omega)⟩ ⟨(Nat.le_of_ble_eq_true rfl), (Nat.le_of_ble_eq_true rfl)⟩ rfl rfl (Nat.le_of_ble_eq_true rfl) dX6_readDeeds_59 ?_
            rintro r4 f4 ⟨pl_4, fa_4, s_4, v_4, g_4, h_4, hrd_4, hp_4, h1_4, h2_4, hb_4, hs_4, hv_4, hI_4, hr4⟩
            have htx_4 : f4 tx = some (.inr (9, [.ref tb, .int len])) := hr4 _ _ htx_3 (by simp only [List.mem_cons, List.not_mem_nil, or_false, not_or]; exact ⟨cne htx_3 hrd_3 (by simp), cne htx_3 hp_3 (by simp), cne htx_3 h1_3 (by simp), cne htx_3 h2_3 (by simp)⟩)
            have htb_4 : f4 tb = some (.inl (cy 1, n, .inl (tg))) := hr4 _ _ htb_3 (by simp only [List.mem_cons, List.not_mem_nil, or_false, not_or]; exact ⟨cne htb_3 hrd_3 (by simp), cne htb_3 hp_3 (by simp), hne.1, hne.2.1⟩)
            refine gz_if_eq (tgt := 78) dX6_readDeeds_62 (by decide) (fun c_62 => ?_) (fun c_62 => ?_)
            ·
              refine gz_iconst (v := 0) dX6_readDeeds_78 (by decide) ?_
              exact gz_zret rfl (by first | decide | exact nrb (Or.inl rfl) | (refine nrb ?_; (repeat' split) <;> first | assumption | exact Or.inl rfl | exact Or.inr rfl)) dX6_readDeeds_79 (Nat.le_of_ble_eq_true rfl) (Nat.le_of_ble_eq_true rfl) (⟨_, rfl, _, _, _, _, _, _, hrd_4, hp_4, h1_4, h2_4, (by first | assumption | exact Or.inl rfl | exact Or.inr rfl), hs_4, hv_4, hI_4, (fr_tr (fr_tr (fr_tr (fr_tr fr_rf (fr_mo hr1 (by simp))) (fr_mo hr2 (by simp))) (fr_mo hr3 (by simp))) (fr_mo hr4 (by simp)))⟩)
            ·
              refine gz_aload_n dX6_readDeeds_65 rfl rfl ?_
              refine gz_bipush (v := 41) dX6_readDeeds_66 (by decide) ?_
              obtain ⟨x3, hx3⟩ : ∃ x0, (rsgF len n tg pl_4 fa_4 41) = x0 := ⟨_, rfl⟩
              refine scX6_95 (k_X6_readSign (sg := 41) hrd_4 htx_4 htb_4 hn) hrd_4 ⟨(by simp only [gRm]; omega), (by simp only [gRm]; omega)⟩ ⟨(Nat.le_of_ble_eq_true rfl), (Nat.le_of_ble_eq_true rfl)⟩ rfl rfl (Nat.le_of_ble_eq_true rfl) dX6_readDeeds_68 ?_
              rintro r5 f5 ⟨z5, hrd_5, hr5⟩; rw [hx3] at z5 hrd_5; rw [z5]
              have htx_5 : f5 tx = some (.inr (9, [.ref tb, .int len])) := hr5 _ _ htx_4 (by simp only [List.mem_cons, List.not_mem_nil, or_false, not_or]; exact cne htx_4 hrd_4 (by simp))
              have htb_5 : f5 tb = some (.inl (cy 1, n, .inl (tg))) := hr5 _ _ htb_4 (by simp only [List.mem_cons, List.not_mem_nil, or_false, not_or]; exact cne htb_4 hrd_4 (by simp))
              have hp_5 : f5 p = some (.inr (2, [.ref c1, .ref c2, .int s_4, .int v_4])) := hr5 _ _ hp_4 (by simp only [List.mem_cons, List.not_mem_nil, or_false, not_or]; exact cne hp_4 hrd_4 (by simp))
              have h1_5 : f5 c1 = some (.inl (cy 0, n1, .inl (g_4))) := hr5 _ _ h1_4 (by simp only [List.mem_cons, List.not_mem_nil, or_false, not_or]; exact cne h1_4 hrd_4 (by simp))
              have h2_5 : f5 c2 = some (.inl (cy 0, n2, .inl (h_4))) := hr5 _ _ h2_4 (by simp only [List.mem_cons, List.not_mem_nil, or_false, not_or]; exact cne h2_4 hrd_4 (by simp))
              have hbx3 : x3.1 = 0 ∨ x3.1 = 1 := by rw [← hx3]; exact bz_rsgF
              refine gz_if_eq (tgt := 78) dX6_readDeeds_71 (by decide) (fun c_71 => ?_) (fun c_71 => ?_)
              ·
                refine gz_iconst (v := 0) dX6_readDeeds_78 (by decide) ?_
                exact gz_zret rfl (by first | decide | exact nrb (Or.inl rfl) | (refine nrb ?_; (repeat' split) <;> first | assumption | exact Or.inl rfl | exact Or.inr rfl)) dX6_readDeeds_79 (Nat.le_of_ble_eq_true rfl) (Nat.le_of_ble_eq_true rfl) (⟨_, rfl, _, _, _, _, _, _, hrd_5, hp_5, h1_5, h2_5, (by first | assumption | exact Or.inl rfl | exact Or.inr rfl), hs_4, hv_4, hI_4, (fr_tr (fr_tr (fr_tr (fr_tr (fr_tr fr_rf (fr_mo hr1 (by simp))) (fr_mo hr2 (by simp))) (fr_mo hr3 (by simp))) (fr_mo hr4 (by simp))) (fr_mo hr5 (by simp)))⟩)
              ·
                refine gz_iconst (v := 1) dX6_readDeeds_74 (by decide) ?_
                refine gz_goto (tgt := 79) dX6_readDeeds_75 (by decide) ?_
                exact gz_zret rfl (by first | decide | exact nrb (Or.inl rfl) | (refine nrb ?_; (repeat' split) <;> first | assumption | exact Or.inl rfl | exact Or.inr rfl)) dX6_readDeeds_79 (Nat.le_of_ble_eq_true rfl) (Nat.le_of_ble_eq_true rfl) (⟨_, rfl, _, _, _, _, _, _, hrd_5, hp_5, h1_5, h2_5, (by first | assumption | exact Or.inl rfl | exact Or.inr rfl), hs_4, hv_4, hI_4, (fr_tr (fr_tr (fr_tr (fr_tr (fr_tr fr_rf (fr_mo hr1 (by simp))) (fr_mo hr2 (by simp))) (fr_mo hr3 (by simp))) (fr_mo hr4 (by simp))) (fr_mo hr5 (by simp)))⟩)
    ·
      refine gz_aload_n dX6_readDeeds_16 rfl rfl ?_
      refine gz_iload_n dX6_readDeeds_17 rfl rfl ?_
      refine gz_iload_n dX6_readDeeds_18 rfl rfl ?_
      refine gz_iconst (v := 1) dX6_readDeeds_19 (by decide) ?_
      refine gz_iadd dX6_readDeeds_20 ?_
      refine scX6_31 (IH wd (wi + 1) pl fa s v g h _ hrd htx htb hp h1 h2 hs hv hI (by have e13 : (13 : Int32).toInt = 13 := rfl; have e0 : (0 : Int32).toInt = 0 := rfl; have e2 : (2 : Int32).toInt = 2 := rfl; have e1 : (1 : Int32).toInt = 1 := rfl; have e6 : (6 : Int32).toInt = 6 := rfl; have em2 : (-2 : Int32).toInt = -2 := rfl; have e11 : (11 : Int32).toInt = 11 := rfl; have hx := T_add (rfl : wi.toInt = wi.toInt) e1 (by omega); rw [hx]; omega)) hrd ⟨(by simp only [gRm]; omega), (by simp only [gRm]; omega)⟩ ⟨(Nat.le_of_ble_eq_true rfl), (Nat.le_of_ble_eq_true rfl)⟩ rfl rfl (Nat.le_of_ble_eq_true rfl) dX6_readDeeds_21 ?_
      rintro r6 f6 ⟨pl_6, fa_6, s_6, v_6, g_6, h_6, hrd_6, hp_6, h1_6, h2_6, hb_6, hs_6, hv_6, hI_6, hr6⟩
      have htx_6 : f6 tx = some (.inr (9, [.ref tb, .int len])) := hr6 _ _ htx (by simp only [List.mem_cons, List.not_mem_nil, or_false, not_or]; exact ⟨cne htx hrd (by simp), cne htx hp (by simp), cne htx h1 (by simp), cne htx h2 (by simp)⟩)
      have htb_6 : f6 tb = some (.inl (cy 1, n, .inl (tg))) := hr6 _ _ htb (by simp only [List.mem_cons, List.not_mem_nil, or_false, not_or]; exact ⟨cne htb hrd (by simp), cne htb hp (by simp), hne.1, hne.2.1⟩)
      exact gz_zret rfl (by first | decide | exact nrb (Or.inl rfl) | (refine nrb ?_; (repeat' split) <;> first | assumption | exact Or.inl rfl | exact Or.inr rfl)) dX6_readDeeds_24 (Nat.le_of_ble_eq_true rfl) (Nat.le_of_ble_eq_true rfl) (⟨_, rfl, _, _, _, _, _, _, hrd_6, hp_6, h1_6, h2_6, (by first | assumption | exact Or.inl rfl | exact Or.inr rfl), hs_6, hv_6, hI_6, (fr_tr fr_rf (fr_mo hr6 (by simp)))⟩)
  ·
    refine gz_iconst (v := 1) dX6_readDeeds_7 (by decide) ?_
    exact gz_zret rfl (by first | decide | exact nrb (Or.inl rfl) | (refine nrb ?_; (repeat' split) <;> first | assumption | exact Or.inl rfl | exact Or.inr rfl)) dX6_readDeeds_8 (Nat.le_of_ble_eq_true rfl) (Nat.le_of_ble_eq_true rfl) (⟨_, rfl, _, _, _, _, _, _, hrd, hp, h1, h2, (by first | assumption | exact Or.inl rfl | exact Or.inr rfl), hs, hv, hI, fr_rf⟩)

set_option maxHeartbeats 4000000 in
set_option maxRecDepth 100000 in
theorem k_X6_readDeed {l : Launch} {D : va_G} {cy : Nat → ClassId} {b : Nat} {rd tx tb p c1 c2 n n1 n2 : Nat} {len : Int32} {tg : Nat → Int32}   (hn : n < 2 ^ 31) (hne : tb ≠ c1 ∧ tb ≠ c2 ∧ c1 ≠ c2) : ∀ (k : Nat) (ar wi pl fa s v : Int32) (g h : Nat → Int32) (f : gMem), (f rd = some (.inr (6, [.ref tx, .ref p, .int pl, .int fa]))) → (f tx = some (.inr (9, [.ref tb, .int len]))) → (f tb = some (.inl (cy 1, n, .inl (tg)))) → (f p = some (.inr (2, [.ref c1, .ref c2, .int s, .int v]))) → (f c1 = some (.inl (cy 0, n1, .inl (g)))) → (f c2 = some (.inl (cy 0, n2, .inl (h)))) → (0 ≤ s.toInt ∧ 13 * s.toInt ≤ n1 ∧ n1 ≤ 520) → (0 ≤ v.toInt ∧ 2 * v.toInt ≤ n2 ∧ n2 ≤ 80) → (fI g s.toInt) → (0 ≤ wi.toInt ∧ wi.toInt ≤ 12 ∧ 12 - wi.toInt < (k : Int)) → gC l D cy b yX6_readDeed cX6_readDeed 7 (some .boolean) (7 + 2 * k) 0 0 [.ref rd, .int ar, .int wi] f (pI fun r f2 => ∃ (pl2 fa2 s2 v2 : Int32) (g2 h2 : Nat → Int32), f2 rd = some (.inr (6, [.ref tx, .ref p, .int pl2, .int fa2])) ∧ f2 p = some (.inr (2, [.ref c1, .ref c2, .int s2, .int v2])) ∧ f2 c1 = some (.inl (cy 0, n1, .inl (g2))) ∧ f2 c2 = some (.inl (cy 0, n2, .inl (h2))) ∧ (r = 0 ∨ r = 1) ∧ (0 ≤ s2.toInt ∧ 13 * s2.toInt ≤ n1 ∧ n1 ≤ 520) ∧ (0 ≤ v2.toInt ∧ 2 * v2.toInt ≤ n2 ∧ n2 ≤ 80) ∧ fI g2 s2.toInt ∧ fr [rd, p, c1, c2] f f2) := by
  intro k
  induction k with
  | zero =>
    intro ar wi pl fa s v g h f hrd htx htb hp h1 h2 hs hv hI hk
    exfalso; omega
  | succ k ih =>
    intro ar wi pl fa s v g h f hrd htx htb hp h1 h2 hs hv hI hk
    refine gC_of (by decide) (Nat.le_of_ble_eq_true rfl) ?_
    show gG l _ _ _ D cy b cX6_readDeed 7 _ RX6 "readDeed" 0 0 f 0 [(0, .ref rd), (1, .int ar), (2, .int wi)] []
    refine gz_aload_n dX6_readDeed_0 rfl rfl ?_
    obtain ⟨x1, hx1⟩ : ∃ x0, (upnF len n tg pl) = x0 := ⟨_, rfl⟩
    refine scX6_35 (k_X6_upNext hrd htx htb hn) hrd ⟨(by simp only [gRm]; omega), (by simp only [gRm]; omega)⟩ ⟨(Nat.le_of_ble_eq_true rfl), (Nat.le_of_ble_eq_true rfl)⟩ rfl rfl (Nat.le_of_ble_eq_true rfl) dX6_readDeed_1 ?_
    rintro r1 f1 ⟨z1, hrd_1, hr1⟩; rw [hx1] at z1 hrd_1; rw [z1]
    have htx_1 : f1 tx = some (.inr (9, [.ref tb, .int len])) := hr1 _ _ htx (by simp only [List.mem_cons, List.not_mem_nil, or_false, not_or]; exact cne htx hrd (by simp))
    have htb_1 : f1 tb = some (.inl (cy 1, n, .inl (tg))) := hr1 _ _ htb (by simp only [List.mem_cons, List.not_mem_nil, or_false, not_or]; exact cne htb hrd (by simp))
    have hp_1 : f1 p = some (.inr (2, [.ref c1, .ref c2, .int s, .int v])) := hr1 _ _ hp (by simp only [List.mem_cons, List.not_mem_nil, or_false, not_or]; exact cne hp hrd (by simp))
    have h1_1 : f1 c1 = some (.inl (cy 0, n1, .inl (g))) := hr1 _ _ h1 (by simp only [List.mem_cons, List.not_mem_nil, or_false, not_or]; exact cne h1 hrd (by simp))
    have h2_1 : f1 c2 = some (.inl (cy 0, n2, .inl (h))) := hr1 _ _ h2 (by simp only [List.mem_cons, List.not_mem_nil, or_false, not_or]; exact cne h2 hrd (by simp))
    refine gz_pop dX6_readDeed_4 rfl ?_
    refine gz_aload_n dX6_readDeed_5 rfl rfl ?_
    refine sgX6_19 hrd_1 rfl dX6_readDeed_6 ?_
    refine gz_istore_n (lv' := [(3, .int x1.2), (0, .ref rd), (1, .int ar), (2, .int wi)]) dX6_readDeed_9 rfl (by decide) rfl ?_
    refine gz_aload_n dX6_readDeed_10 rfl rfl ?_
    refine gz_iload_n dX6_readDeed_11 rfl rfl ?_
    refine scX6_65 (k_X6_lettersFrom (x := x1.2) hrd_1 htx_1 htb_1 hn) hrd_1 ⟨(by simp only [gRm]; omega), (by simp only [gRm]; omega)⟩ ⟨(Nat.le_of_ble_eq_true rfl), (Nat.le_of_ble_eq_true rfl)⟩ rfl rfl (Nat.le_of_ble_eq_true rfl) dX6_readDeed_12 ?_
    intro v9 f9 z9; rw [z9.1, z9.2]
    refine gz_istore (lv' := [(4, .int (ltrF len n tg x1.2)), (3, .int x1.2), (0, .ref rd), (1, .int ar), (2, .int wi)]) dX6_readDeed_15 (by decide) rfl ?_
    refine gz_aload_n dX6_readDeed_17 rfl rfl ?_
    refine gz_iload_n dX6_readDeed_18 rfl rfl ?_
    refine gz_iload dX6_readDeed_19 rfl ?_
    refine scX6_68 (k_X6_kindFrom (sa := x1.2) (ln := (ltrF len n tg x1.2)) hrd_1 htx_1 htb_1 hn) hrd_1 ⟨(by simp only [gRm]; omega), (by simp only [gRm]; omega)⟩ ⟨(Nat.le_of_ble_eq_true rfl), (Nat.le_of_ble_eq_true rfl)⟩ rfl rfl (Nat.le_of_ble_eq_true rfl) dX6_readDeed_21 ?_
    intro v9 f9 z9; rw [z9.1, z9.2]
    refine gz_istore (lv' := [(5, .int (kdfF len n tg x1.2 (ltrF len n tg x1.2))), (4, .int (ltrF len n tg x1.2)), (3, .int x1.2), (0, .ref rd), (1, .int ar), (2, .int wi)]) dX6_readDeed_24 (by decide) rfl ?_
    refine gz_iload dX6_readDeed_26 rfl ?_
    refine gz_iconst (v := (-1)) dX6_readDeed_28 (by decide) ?_
    refine gz_icmp_ne (tgt := 39) dX6_readDeed_29 (by decide) (fun c_29 => ?_) (fun c_29 => ?_)
    ·
      refine gz_iload_n dX6_readDeed_39 rfl rfl ?_
      refine gz_bipush (v := 11) dX6_readDeed_40 (by decide) ?_
      refine gz_icmp_le (tgt := 52) dX6_readDeed_42 (by decide) (fun c_42 => ?_) (fun c_42 => ?_)
      ·
        refine gz_aload_n dX6_readDeed_52 rfl rfl ?_
        refine sgX6_15 hrd_1 rfl dX6_readDeed_53 ?_
        refine gz_iload dX6_readDeed_56 rfl ?_
        refine gz_iload_n dX6_readDeed_58 rfl rfl ?_
        obtain ⟨x2, hx2⟩ : ∃ x0, (grwF n1 g s (kdfF len n tg x1.2 (ltrF len n tg x1.2)) ar) = x0 := ⟨_, rfl⟩
        refine scX6_71 (k_X2_grow (kd := (kdfF len n tg x1.2 (ltrF len n tg x1.2))) (ar := ar) hp_1 h1_1 hs) hp_1 ⟨(by simp only [gRm]; omega), (by simp only [gRm]; omega)⟩ ⟨(Nat.le_of_ble_eq_true rfl), (Nat.le_of_ble_eq_true rfl)⟩ rfl rfl (Nat.le_of_ble_eq_true rfl) dX6_readDeed_59 ?_
        rintro r2 f2 ⟨z2, h1_2, hp_2, hr2⟩; rw [hx2] at z2 h1_2 hp_2; rw [z2]
        have htx_2 : f2 tx = some (.inr (9, [.ref tb, .int len])) := hr2 _ _ htx_1 (by simp only [List.mem_cons, List.not_mem_nil, or_false, not_or]; exact ⟨cne htx_1 hp_1 (by simp), cne htx_1 h1_1 (by simp)⟩)
        have htb_2 : f2 tb = some (.inl (cy 1, n, .inl (tg))) := hr2 _ _ htb_1 (by simp only [List.mem_cons, List.not_mem_nil, or_false, not_or]; exact ⟨cne htb_1 hp_1 (by simp), hne.1⟩)
        have h2_2 : f2 c2 = some (.inl (cy 0, n2, .inl (h))) := hr2 _ _ h2_1 (by simp only [List.mem_cons, List.not_mem_nil, or_false, not_or]; exact ⟨cne h2_1 hp_1 (by simp), Ne.symm (hne.2.2)⟩)
        have hrd_2 : f2 rd = some (.inr (6, [.ref tx, .ref p, .int x1.2, .int fa])) := hr2 _ _ hrd_1 (by simp only [List.mem_cons, List.not_mem_nil, or_false, not_or]; exact ⟨cne hrd_1 hp_1 (by simp), cne hrd_1 h1_1 (by simp)⟩)
        have hGx2 := grwF_ok (kd := (kdfF len n tg x1.2 (ltrF len n tg x1.2))) (ar := ar) hs hI
        rw [hx2] at hGx2
        refine gz_istore (lv' := [(6, .int x2.1), (5, .int (kdfF len n tg x1.2 (ltrF len n tg x1.2))), (4, .int (ltrF len n tg x1.2)), (3, .int x1.2), (0, .ref rd), (1, .int ar), (2, .int wi)]) dX6_readDeed_62 (by decide) rfl ?_
        refine gz_iload dX6_readDeed_64 rfl ?_
        refine gz_iconst (v := (-1)) dX6_readDeed_66 (by decide) ?_
        refine gz_icmp_ne (tgt := 77) dX6_readDeed_67 (by decide) (fun c_67 => ?_) (fun c_67 => ?_)
        ·
          refine gz_aload_n dX6_readDeed_77 rfl rfl ?_
          refine gz_iload_n dX6_readDeed_78 rfl rfl ?_
          refine gz_iload dX6_readDeed_79 rfl ?_
          refine gz_iadd dX6_readDeed_81 ?_
          refine spX6_19 hrd_2  (Nat.le_of_ble_eq_true rfl) dX6_readDeed_82 ?_
          obtain ⟨f3, hf3⟩ : ∃ gg : gMem, gg = va_up f2 rd (some (.inr (6, [.ref tx, .ref p, .int (x1.2 + (ltrF len n tg x1.2)), .int fa]))) := ⟨_, rfl⟩
          refine gz_eq (f2 := f3) hf3.symm rfl rfl rfl ?_
          have htx_3 : f3 tx = some (.inr (9, [.ref tb, .int len])) := by rw [hf3, va_up_ne _ _ (cne htx_2 hrd_2 (by simp))]; exact htx_2
          have htb_3 : f3 tb = some (.inl (cy 1, n, .inl (tg))) := by rw [hf3, va_up_ne _ _ (cne htb_2 hrd_2 (by simp))]; exact htb_2
          have h2_3 : f3 c2 = some (.inl (cy 0, n2, .inl (h))) := by rw [hf3, va_up_ne _ _ (cne h2_2 hrd_2 (by simp))]; exact h2_2
          have h1_3 : f3 c1 = some (.inl (cy 0, n1, .inl (x2.2.1))) := by rw [hf3, va_up_ne _ _ (cne h1_2 hrd_2 (by simp))]; exact h1_2
          have hp_3 : f3 p = some (.inr (2, [.ref c1, .ref c2, .int x2.2.2, .int v])) := by rw [hf3, va_up_ne _ _ (cne hp_2 hrd_2 (by simp))]; exact hp_2
          have hrd_3 : f3 rd = some (.inr (6, [.ref tx, .ref p, .int (x1.2 + (ltrF len n tg x1.2)), .int fa])) := by rw [hf3]; exact va_up_self _ _ _
          refine gz_iload dX6_readDeed_85 rfl ?_
          refine scX6_74 (k_X11_hasNumber (x := (kdfF len n tg x1.2 (ltrF len n tg x1.2)))) ⟨(by simp only [gRm]; omega), (by simp only [gRm]; omega)⟩ ⟨(Nat.le_of_ble_eq_true rfl), (Nat.le_of_ble_eq_true rfl)⟩ rfl rfl (Nat.le_of_ble_eq_true rfl) dX6_readDeed_87 ?_
          intro v9 f9 z9; rw [z9.1, z9.2]
          refine gz_if_eq (tgt := 104) dX6_readDeed_90 (by decide) (fun c_90 => ?_) (fun c_90 => ?_)
          ·
            refine gz_iload dX6_readDeed_104 rfl ?_
            refine scX6_80 (k_X11_hasSum (x := (kdfF len n tg x1.2 (ltrF len n tg x1.2)))) ⟨(by simp only [gRm]; omega), (by simp only [gRm]; omega)⟩ ⟨(Nat.le_of_ble_eq_true rfl), (Nat.le_of_ble_eq_true rfl)⟩ rfl rfl (Nat.le_of_ble_eq_true rfl) dX6_readDeed_106 ?_
            intro v9 f9 z9; rw [z9.1, z9.2]
            refine gz_if_eq (tgt := 125) dX6_readDeed_109 (by decide) (fun c_109 => ?_) (fun c_109 => ?_)
            ·
              refine gz_aload_n dX6_readDeed_125 rfl rfl ?_
              refine gz_iload dX6_readDeed_126 rfl ?_
              refine gz_iload dX6_readDeed_128 rfl ?_
              refine gz_iload_n dX6_readDeed_130 rfl rfl ?_
              refine scX6_86 (k_X6_readDeeds (kd := (kdfF len n tg x1.2 (ltrF len n tg x1.2))) (wd := x2.1) (wi := wi) hrd_3 htx_3 htb_3 hp_3 h1_3 h2_3 hn hne hGx2.1 hv hGx2.2.1 (by have e13 : (13 : Int32).toInt = 13 := rfl; have e0 : (0 : Int32).toInt = 0 := rfl; have e2 : (2 : Int32).toInt = 2 := rfl; have e1 : (1 : Int32).toInt = 1 := rfl; have e6 : (6 : Int32).toInt = 6 := rfl; have em2 : (-2 : Int32).toInt = -2 := rfl; have e11 : (11 : Int32).toInt = 11 := rfl; simp only [fl_le] at c_42; omega) ih) hrd_3 ⟨(by simp only [gRm]; omega), (by simp only [gRm]; omega)⟩ ⟨(Nat.le_of_ble_eq_true rfl), (Nat.le_of_ble_eq_true rfl)⟩ rfl rfl (Nat.le_of_ble_eq_true rfl) dX6_readDeed_131 ?_
              rintro r4 f4 ⟨pl_4, fa_4, s_4, v_4, g_4, h_4, hrd_4, hp_4, h1_4, h2_4, hb_4, hs_4, hv_4, hI_4, hr4⟩
              have htx_4 : f4 tx = some (.inr (9, [.ref tb, .int len])) := hr4 _ _ htx_3 (by simp only [List.mem_cons, List.not_mem_nil, or_false, not_or]; exact ⟨cne htx_3 hrd_3 (by simp), cne htx_3 hp_3 (by simp), cne htx_3 h1_3 (by simp), cne htx_3 h2_3 (by simp)⟩)
              have htb_4 : f4 tb = some (.inl (cy 1, n, .inl (tg))) := hr4 _ _ htb_3 (by simp only [List.mem_cons, List.not_mem_nil, or_false, not_or]; exact ⟨cne htb_3 hrd_3 (by simp), cne htb_3 hp_3 (by simp), hne.1, hne.2.1⟩)
              exact gz_zret rfl (by first | decide | exact nrb (Or.inl rfl) | (refine nrb ?_; (repeat' split) <;> first | assumption | exact Or.inl rfl | exact Or.inr rfl)) dX6_readDeed_134 (Nat.le_of_ble_eq_true rfl) (Nat.le_of_ble_eq_true rfl) (⟨_, rfl, _, _, _, _, _, _, hrd_4, hp_4, h1_4, h2_4, (by first | assumption | exact Or.inl rfl | exact Or.inr rfl), hs_4, hv_4, hI_4, (fr_tr (by rw [hf3]; exact fr_up (fr_tr (fr_tr fr_rf (fr_mo hr1 (by simp))) (fr_mo hr2 (by simp))) (by simp)) (fr_mo hr4 (by simp)))⟩)
            ·
              refine gz_aload_n dX6_readDeed_112 rfl rfl ?_
              refine gz_iload dX6_readDeed_113 rfl ?_
              refine gz_iload dX6_readDeed_115 rfl ?_
              obtain ⟨x3, hx3⟩ : ∃ x0, (rssF len n tg (x1.2 + (ltrF len n tg x1.2)) fa n1 n2 x2.2.1 h x2.2.2 v (kdfF len n tg x1.2 (ltrF len n tg x1.2)) x2.1) = x0 := ⟨_, rfl⟩
              refine scX6_83 (k_X6_readSums (kd := (kdfF len n tg x1.2 (ltrF len n tg x1.2))) (wd := x2.1) hrd_3 htx_3 htb_3 hp_3 h1_3 h2_3 hn hGx2.1 hv hne) hrd_3 ⟨(by simp only [gRm]; omega), (by simp only [gRm]; omega)⟩ ⟨(Nat.le_of_ble_eq_true rfl), (Nat.le_of_ble_eq_true rfl)⟩ rfl rfl (Nat.le_of_ble_eq_true rfl) dX6_readDeed_117 ?_
              rintro r5 f5 ⟨z5, hrd_5, hp_5, h2_5, h1_5, hr5⟩; rw [hx3] at z5 hrd_5 hp_5 h2_5 h1_5; rw [z5]
              have htx_5 : f5 tx = some (.inr (9, [.ref tb, .int len])) := hr5 _ _ htx_3 (by simp only [List.mem_cons, List.not_mem_nil, or_false, not_or]; exact ⟨cne htx_3 hrd_3 (by simp), cne htx_3 hp_3 (by simp), cne htx_3 h1_3 (by simp), cne htx_3 h2_3 (by simp)⟩)
              have htb_5 : f5 tb = some (.inl (cy 1, n, .inl (tg))) := hr5 _ _ htb_3 (by simp only [List.mem_cons, List.not_mem_nil, or_false, not_or]; exact ⟨cne htb_3 hrd_3 (by simp), cne htb_3 hp_3 (by simp), hne.1, hne.2.1⟩)
              have hbx3 : x3.1 = 0 ∨ x3.1 = 1 := by rw [← hx3]; exact bz_rssF
              have hIx3 : fI x3.2.2.2.2.2 x2.2.2.toInt := by rw [← hx3]; exact rssF_fi hGx2.1 hGx2.2.1
              have hvx3 : 0 ≤ x3.2.2.2.1.toInt ∧ 2 * x3.2.2.2.1.toInt ≤ n2 ∧ n2 ≤ 80 := by rw [← hx3]; exact rssF_ok hv
              refine gz_if_ne (tgt := 125) dX6_readDeed_120 (by decide) (fun c_120 => ?_) (fun c_120 => ?_)
              ·
                refine gz_aload_n dX6_readDeed_125 rfl rfl ?_
                refine gz_iload dX6_readDeed_126 rfl ?_
                refine gz_iload dX6_readDeed_128 rfl ?_
                refine gz_iload_n dX6_readDeed_130 rfl rfl ?_
                refine scX6_86 (k_X6_readDeeds (kd := (kdfF len n tg x1.2 (ltrF len n tg x1.2))) (wd := x2.1) (wi := wi) hrd_5 htx_5 htb_5 hp_5 h1_5 h2_5 hn hne hGx2.1 hvx3 hIx3 (by have e13 : (13 : Int32).toInt = 13 := rfl; have e0 : (0 : Int32).toInt = 0 := rfl; have e2 : (2 : Int32).toInt = 2 := rfl; have e1 : (1 : Int32).toInt = 1 := rfl; have e6 : (6 : Int32).toInt = 6 := rfl; have em2 : (-2 : Int32).toInt = -2 := rfl; have e11 : (11 : Int32).toInt = 11 := rfl; simp only [fl_le] at c_42; omega) ih) hrd_5 ⟨(by simp only [gRm]; omega), (by simp only [gRm]; omega)⟩ ⟨(Nat.le_of_ble_eq_true rfl), (Nat.le_of_ble_eq_true rfl)⟩ rfl rfl (Nat.le_of_ble_eq_true rfl) dX6_readDeed_131 ?_
                rintro r6 f6 ⟨pl_6, fa_6, s_6, v_6, g_6, h_6, hrd_6, hp_6, h1_6, h2_6, hb_6, hs_6, hv_6, hI_6, hr6⟩
                have htx_6 : f6 tx = some (.inr (9, [.ref tb, .int len])) := hr6 _ _ htx_5 (by simp only [List.mem_cons, List.not_mem_nil, or_false, not_or]; exact ⟨cne htx_5 hrd_5 (by simp), cne htx_5 hp_5 (by simp), cne htx_5 h1_5 (by simp), cne htx_5 h2_5 (by simp)⟩)
                have htb_6 : f6 tb = some (.inl (cy 1, n, .inl (tg))) := hr6 _ _ htb_5 (by simp only [List.mem_cons, List.not_mem_nil, or_false, not_or]; exact ⟨cne htb_5 hrd_5 (by simp), cne htb_5 hp_5 (by simp), hne.1, hne.2.1⟩)
                exact gz_zret rfl (by first | decide | exact nrb (Or.inl rfl) | (refine nrb ?_; (repeat' split) <;> first | assumption | exact Or.inl rfl | exact Or.inr rfl)) dX6_readDeed_134 (Nat.le_of_ble_eq_true rfl) (Nat.le_of_ble_eq_true rfl) (⟨_, rfl, _, _, _, _, _, _, hrd_6, hp_6, h1_6, h2_6, (by first | assumption | exact Or.inl rfl | exact Or.inr rfl), hs_6, hv_6, hI_6, (fr_tr (fr_tr (by rw [hf3]; exact fr_up (fr_tr (fr_tr fr_rf (fr_mo hr1 (by simp))) (fr_mo hr2 (by simp))) (by simp)) (fr_mo hr5 (by simp))) (fr_mo hr6 (by simp)))⟩)
              ·
                refine gz_iconst (v := 0) dX6_readDeed_123 (by decide) ?_
                exact gz_zret rfl (by first | decide | exact nrb (Or.inl rfl) | (refine nrb ?_; (repeat' split) <;> first | assumption | exact Or.inl rfl | exact Or.inr rfl)) dX6_readDeed_124 (Nat.le_of_ble_eq_true rfl) (Nat.le_of_ble_eq_true rfl) (⟨_, rfl, _, _, _, _, _, _, hrd_5, hp_5, h1_5, h2_5, (by first | assumption | exact Or.inl rfl | exact Or.inr rfl), hGx2.1, hvx3, hIx3, (fr_tr (by rw [hf3]; exact fr_up (fr_tr (fr_tr fr_rf (fr_mo hr1 (by simp))) (fr_mo hr2 (by simp))) (by simp)) (fr_mo hr5 (by simp)))⟩)
          ·
            refine gz_aload_n dX6_readDeed_93 rfl rfl ?_
            refine gz_iload dX6_readDeed_94 rfl ?_
            obtain ⟨x4, hx4⟩ : ∃ x0, (rdnF len n tg (x1.2 + (ltrF len n tg x1.2)) fa n1 x2.2.1 x2.2.2 x2.1) = x0 := ⟨_, rfl⟩
            refine scX6_77 (k_X6_readN (wd := x2.1) hrd_3 htx_3 htb_3 hp_3 h1_3 hn hGx2.1 hne.1) hrd_3 ⟨(by simp only [gRm]; omega), (by simp only [gRm]; omega)⟩ ⟨(Nat.le_of_ble_eq_true rfl), (Nat.le_of_ble_eq_true rfl)⟩ rfl rfl (Nat.le_of_ble_eq_true rfl) dX6_readDeed_96 ?_
            rintro r7 f7 ⟨z7, hrd_7, h1_7, hr7⟩; rw [hx4] at z7 hrd_7 h1_7; rw [z7]
            have htx_7 : f7 tx = some (.inr (9, [.ref tb, .int len])) := hr7 _ _ htx_3 (by simp only [List.mem_cons, List.not_mem_nil, or_false, not_or]; exact ⟨cne htx_3 hrd_3 (by simp), cne htx_3 h1_3 (by simp)⟩)
            have htb_7 : f7 tb = some (.inl (cy 1, n, .inl (tg))) := hr7 _ _ htb_3 (by simp only [List.mem_cons, List.not_mem_nil, or_false, not_or]; exact ⟨cne htb_3 hrd_3 (by simp), hne.1⟩)
            have h2_7 : f7 c2 = some (.inl (cy 0, n2, .inl (h))) := hr7 _ _ h2_3 (by simp only [List.mem_cons, List.not_mem_nil, or_false, not_or]; exact ⟨cne h2_3 hrd_3 (by simp), Ne.symm (hne.2.2)⟩)
            have hp_7 : f7 p = some (.inr (2, [.ref c1, .ref c2, .int x2.2.2, .int v])) := hr7 _ _ hp_3 (by simp only [List.mem_cons, List.not_mem_nil, or_false, not_or]; exact ⟨cne hp_3 hrd_3 (by simp), cne hp_3 h1_3 (by simp)⟩)
            have hbx4 : x4.1 = 0 ∨ x4.1 = 1 := by rw [← hx4]; exact bz_rdnF
            have hIx4 : fI x4.2.2.2 x2.2.2.toInt := by rw [← hx4]; exact rdnF_fi hGx2.1 hGx2.2.1
            refine gz_if_ne (tgt := 104) dX6_readDeed_99 (by decide) (fun c_99 => ?_) (fun c_99 => ?_)
            ·
              refine gz_iload dX6_readDeed_104 rfl ?_
              refine scX6_80 (k_X11_hasSum (x := (kdfF len n tg x1.2 (ltrF len n tg x1.2)))) ⟨(by simp only [gRm]; omega), (by simp only [gRm]; omega)⟩ ⟨(Nat.le_of_ble_eq_true rfl), (Nat.le_of_ble_eq_true rfl)⟩ rfl rfl (Nat.le_of_ble_eq_true rfl) dX6_readDeed_106 ?_
              intro v9 f9 z9; rw [z9.1, z9.2]
              refine gz_if_eq (tgt := 125) dX6_readDeed_109 (by decide) (fun c_109 => ?_) (fun c_109 => ?_)
              ·
                refine gz_aload_n dX6_readDeed_125 rfl rfl ?_
                refine gz_iload dX6_readDeed_126 rfl ?_
                refine gz_iload dX6_readDeed_128 rfl ?_
                refine gz_iload_n dX6_readDeed_130 rfl rfl ?_
                refine scX6_86 (k_X6_readDeeds (kd := (kdfF len n tg x1.2 (ltrF len n tg x1.2))) (wd := x2.1) (wi := wi) hrd_7 htx_7 htb_7 hp_7 h1_7 h2_7 hn hne hGx2.1 hv hIx4 (by have e13 : (13 : Int32).toInt = 13 := rfl; have e0 : (0 : Int32).toInt = 0 := rfl; have e2 : (2 : Int32).toInt = 2 := rfl; have e1 : (1 : Int32).toInt = 1 := rfl; have e6 : (6 : Int32).toInt = 6 := rfl; have em2 : (-2 : Int32).toInt = -2 := rfl; have e11 : (11 : Int32).toInt = 11 := rfl; simp only [fl_le] at c_42; omega) ih) hrd_7 ⟨(by simp only [gRm]; omega), (by simp only [gRm]; omega)⟩ ⟨(Nat.le_of_ble_eq_true rfl), (Nat.le_of_ble_eq_true rfl)⟩ rfl rfl (Nat.le_of_ble_eq_true rfl) dX6_readDeed_131 ?_
                rintro r8 f8 ⟨pl_8, fa_8, s_8, v_8, g_8, h_8, hrd_8, hp_8, h1_8, h2_8, hb_8, hs_8, hv_8, hI_8, hr8⟩
                have htx_8 : f8 tx = some (.inr (9, [.ref tb, .int len])) := hr8 _ _ htx_7 (by simp only [List.mem_cons, List.not_mem_nil, or_false, not_or]; exact ⟨cne htx_7 hrd_7 (by simp), cne htx_7 hp_7 (by simp), cne htx_7 h1_7 (by simp), cne htx_7 h2_7 (by simp)⟩)
                have htb_8 : f8 tb = some (.inl (cy 1, n, .inl (tg))) := hr8 _ _ htb_7 (by simp only [List.mem_cons, List.not_mem_nil, or_false, not_or]; exact ⟨cne htb_7 hrd_7 (by simp), cne htb_7 hp_7 (by simp), hne.1, hne.2.1⟩)
                exact gz_zret rfl (by first | decide | exact nrb (Or.inl rfl) | (refine nrb ?_; (repeat' split) <;> first | assumption | exact Or.inl rfl | exact Or.inr rfl)) dX6_readDeed_134 (Nat.le_of_ble_eq_true rfl) (Nat.le_of_ble_eq_true rfl) (⟨_, rfl, _, _, _, _, _, _, hrd_8, hp_8, h1_8, h2_8, (by first | assumption | exact Or.inl rfl | exact Or.inr rfl), hs_8, hv_8, hI_8, (fr_tr (fr_tr (by rw [hf3]; exact fr_up (fr_tr (fr_tr fr_rf (fr_mo hr1 (by simp))) (fr_mo hr2 (by simp))) (by simp)) (fr_mo hr7 (by simp))) (fr_mo hr8 (by simp)))⟩)
              ·
                refine gz_aload_n dX6_readDeed_112 rfl rfl ?_
                refine gz_iload dX6_readDeed_113 rfl ?_
                refine gz_iload dX6_readDeed_115 rfl ?_
                obtain ⟨x5, hx5⟩ : ∃ x0, (rssF len n tg x4.2.1 x4.2.2.1 n1 n2 x4.2.2.2 h x2.2.2 v (kdfF len n tg x1.2 (ltrF len n tg x1.2)) x2.1) = x0 := ⟨_, rfl⟩
                refine scX6_83 (k_X6_readSums (kd := (kdfF len n tg x1.2 (ltrF len n tg x1.2))) (wd := x2.1) hrd_7 htx_7 htb_7 hp_7 h1_7 h2_7 hn hGx2.1 hv hne) hrd_7 ⟨(by simp only [gRm]; omega), (by simp only [gRm]; omega)⟩ ⟨(Nat.le_of_ble_eq_true rfl), (Nat.le_of_ble_eq_true rfl)⟩ rfl rfl (Nat.le_of_ble_eq_true rfl) dX6_readDeed_117 ?_
                rintro r9 f9 ⟨z9, hrd_9, hp_9, h2_9, h1_9, hr9⟩; rw [hx5] at z9 hrd_9 hp_9 h2_9 h1_9; rw [z9]
                have htx_9 : f9 tx = some (.inr (9, [.ref tb, .int len])) := hr9 _ _ htx_7 (by simp only [List.mem_cons, List.not_mem_nil, or_false, not_or]; exact ⟨cne htx_7 hrd_7 (by simp), cne htx_7 hp_7 (by simp), cne htx_7 h1_7 (by simp), cne htx_7 h2_7 (by simp)⟩)
                have htb_9 : f9 tb = some (.inl (cy 1, n, .inl (tg))) := hr9 _ _ htb_7 (by simp only [List.mem_cons, List.not_mem_nil, or_false, not_or]; exact ⟨cne htb_7 hrd_7 (by simp), cne htb_7 hp_7 (by simp), hne.1, hne.2.1⟩)
                have hbx5 : x5.1 = 0 ∨ x5.1 = 1 := by rw [← hx5]; exact bz_rssF
                have hIx5 : fI x5.2.2.2.2.2 x2.2.2.toInt := by rw [← hx5]; exact rssF_fi hGx2.1 hIx4
                have hvx5 : 0 ≤ x5.2.2.2.1.toInt ∧ 2 * x5.2.2.2.1.toInt ≤ n2 ∧ n2 ≤ 80 := by rw [← hx5]; exact rssF_ok hv
                refine gz_if_ne (tgt := 125) dX6_readDeed_120 (by decide) (fun c_120 => ?_) (fun c_120 => ?_)
                ·
                  refine gz_aload_n dX6_readDeed_125 rfl rfl ?_
                  refine gz_iload dX6_readDeed_126 rfl ?_
                  refine gz_iload dX6_readDeed_128 rfl ?_
                  refine gz_iload_n dX6_readDeed_130 rfl rfl ?_
                  refine scX6_86 (k_X6_readDeeds (kd := (kdfF len n tg x1.2 (ltrF len n tg x1.2))) (wd := x2.1) (wi := wi) hrd_9 htx_9 htb_9 hp_9 h1_9 h2_9 hn hne hGx2.1 hvx5 hIx5 (by have e13 : (13 : Int32).toInt = 13 := rfl; have e0 : (0 : Int32).toInt = 0 := rfl; have e2 : (2 : Int32).toInt = 2 := rfl; have e1 : (1 : Int32).toInt = 1 := rfl; have e6 : (6 : Int32).toInt = 6 := rfl; have em2 : (-2 : Int32).toInt = -2 := rfl; have e11 : (11 : Int32).toInt = 11 := rfl; simp only [fl_le] at c_42; omega) ih) hrd_9 ⟨(by simp only [gRm]; omega), (by simp only [gRm]; omega)⟩ ⟨(Nat.le_of_ble_eq_true rfl), (Nat.le_of_ble_eq_true rfl)⟩ rfl rfl (Nat.le_of_ble_eq_true rfl) dX6_readDeed_131 ?_
                  rintro r10 f10 ⟨pl_10, fa_10, s_10, v_10, g_10, h_10, hrd_10, hp_10, h1_10, h2_10, hb_10, hs_10, hv_10, hI_10, hr10⟩
                  have htx_10 : f10 tx = some (.inr (9, [.ref tb, .int len])) := hr10 _ _ htx_9 (by simp only [List.mem_cons, List.not_mem_nil, or_false, not_or]; exact ⟨cne htx_9 hrd_9 (by simp), cne htx_9 hp_9 (by simp), cne htx_9 h1_9 (by simp), cne htx_9 h2_9 (by simp)⟩)
                  have htb_10 : f10 tb = some (.inl (cy 1, n, .inl (tg))) := hr10 _ _ htb_9 (by simp only [List.mem_cons, List.not_mem_nil, or_false, not_or]; exact ⟨cne htb_9 hrd_9 (by simp), cne htb_9 hp_9 (by simp), hne.1, hne.2.1⟩)
                  exact gz_zret rfl (by first | decide | exact nrb (Or.inl rfl) | (refine nrb ?_; (repeat' split) <;> first | assumption | exact Or.inl rfl | exact Or.inr rfl)) dX6_readDeed_134 (Nat.le_of_ble_eq_true rfl) (Nat.le_of_ble_eq_true rfl) (⟨_, rfl, _, _, _, _, _, _, hrd_10, hp_10, h1_10, h2_10, (by first | assumption | exact Or.inl rfl | exact Or.inr rfl), hs_10, hv_10, hI_10, (fr_tr (fr_tr (fr_tr (by rw [hf3]; exact fr_up (fr_tr (fr_tr fr_rf (fr_mo hr1 (by simp))) (fr_mo hr2 (by simp))) (by simp)) (fr_mo hr7 (by simp))) (fr_mo hr9 (by simp))) (fr_mo hr10 (by simp)))⟩)
                ·
                  refine gz_iconst (v := 0) dX6_readDeed_123 (by decide) ?_
                  exact gz_zret rfl (by first | decide | exact nrb (Or.inl rfl) | (refine nrb ?_; (repeat' split) <;> first | assumption | exact Or.inl rfl | exact Or.inr rfl)) dX6_readDeed_124 (Nat.le_of_ble_eq_true rfl) (Nat.le_of_ble_eq_true rfl) (⟨_, rfl, _, _, _, _, _, _, hrd_9, hp_9, h1_9, h2_9, (by first | assumption | exact Or.inl rfl | exact Or.inr rfl), hGx2.1, hvx5, hIx5, (fr_tr (fr_tr (by rw [hf3]; exact fr_up (fr_tr (fr_tr fr_rf (fr_mo hr1 (by simp))) (fr_mo hr2 (by simp))) (by simp)) (fr_mo hr7 (by simp))) (fr_mo hr9 (by simp)))⟩)
            ·
              refine gz_iconst (v := 0) dX6_readDeed_102 (by decide) ?_
              exact gz_zret rfl (by first | decide | exact nrb (Or.inl rfl) | (refine nrb ?_; (repeat' split) <;> first | assumption | exact Or.inl rfl | exact Or.inr rfl)) dX6_readDeed_103 (Nat.le_of_ble_eq_true rfl) (Nat.le_of_ble_eq_true rfl) (⟨_, rfl, _, _, _, _, _, _, hrd_7, hp_7, h1_7, h2_7, (by first | assumption | exact Or.inl rfl | exact Or.inr rfl), hGx2.1, hv, hIx4, (fr_tr (by rw [hf3]; exact fr_up (fr_tr (fr_tr fr_rf (fr_mo hr1 (by simp))) (fr_mo hr2 (by simp))) (by simp)) (fr_mo hr7 (by simp)))⟩)
        ·
          refine gz_aload_n dX6_readDeed_70 rfl rfl ?_
          refine gz_iload_n dX6_readDeed_71 rfl rfl ?_
          refine gz_iconst (v := 3) dX6_readDeed_72 (by decide) ?_
          obtain ⟨x6, hx6⟩ : ∃ x0, (faiF fa x1.2 3) = x0 := ⟨_, rfl⟩
          refine scX6_39 (k_X6_fail (at_ := x1.2) (kd := 3) hrd_2) hrd_2 ⟨(by simp only [gRm]; omega), (by simp only [gRm]; omega)⟩ ⟨(Nat.le_of_ble_eq_true rfl), (Nat.le_of_ble_eq_true rfl)⟩ rfl rfl (Nat.le_of_ble_eq_true rfl) dX6_readDeed_73 ?_
          rintro r11 f11 ⟨z11, hrd_11, hr11⟩; rw [hx6] at z11 hrd_11; rw [z11]
          have htx_11 : f11 tx = some (.inr (9, [.ref tb, .int len])) := hr11 _ _ htx_2 (by simp only [List.mem_cons, List.not_mem_nil, or_false, not_or]; exact cne htx_2 hrd_2 (by simp))
          have htb_11 : f11 tb = some (.inl (cy 1, n, .inl (tg))) := hr11 _ _ htb_2 (by simp only [List.mem_cons, List.not_mem_nil, or_false, not_or]; exact cne htb_2 hrd_2 (by simp))
          have h2_11 : f11 c2 = some (.inl (cy 0, n2, .inl (h))) := hr11 _ _ h2_2 (by simp only [List.mem_cons, List.not_mem_nil, or_false, not_or]; exact cne h2_2 hrd_2 (by simp))
          have h1_11 : f11 c1 = some (.inl (cy 0, n1, .inl (x2.2.1))) := hr11 _ _ h1_2 (by simp only [List.mem_cons, List.not_mem_nil, or_false, not_or]; exact cne h1_2 hrd_2 (by simp))
          have hp_11 : f11 p = some (.inr (2, [.ref c1, .ref c2, .int x2.2.2, .int v])) := hr11 _ _ hp_2 (by simp only [List.mem_cons, List.not_mem_nil, or_false, not_or]; exact cne hp_2 hrd_2 (by simp))
          have hbx6 : x6.1 = 0 ∨ x6.1 = 1 := by rw [← hx6]; exact Or.inl rfl
          exact gz_zret rfl (by first | decide | exact nrb (Or.inl rfl) | (refine nrb ?_; (repeat' split) <;> first | assumption | exact Or.inl rfl | exact Or.inr rfl)) dX6_readDeed_76 (Nat.le_of_ble_eq_true rfl) (Nat.le_of_ble_eq_true rfl) (⟨_, rfl, _, _, _, _, _, _, hrd_11, hp_11, h1_11, h2_11, (by first | assumption | exact Or.inl rfl | exact Or.inr rfl), hGx2.1, hv, hGx2.2.1, (fr_tr (fr_tr (fr_tr fr_rf (fr_mo hr1 (by simp))) (fr_mo hr2 (by simp))) (fr_mo hr11 (by simp)))⟩)
      ·
        refine gz_aload_n dX6_readDeed_45 rfl rfl ?_
        refine gz_iload_n dX6_readDeed_46 rfl rfl ?_
        refine gz_iconst (v := 2) dX6_readDeed_47 (by decide) ?_
        obtain ⟨x7, hx7⟩ : ∃ x0, (faiF fa x1.2 2) = x0 := ⟨_, rfl⟩
        refine scX6_39 (k_X6_fail (at_ := x1.2) (kd := 2) hrd_1) hrd_1 ⟨(by simp only [gRm]; omega), (by simp only [gRm]; omega)⟩ ⟨(Nat.le_of_ble_eq_true rfl), (Nat.le_of_ble_eq_true rfl)⟩ rfl rfl (Nat.le_of_ble_eq_true rfl) dX6_readDeed_48 ?_
        rintro r12 f12 ⟨z12, hrd_12, hr12⟩; rw [hx7] at z12 hrd_12; rw [z12]
        have htx_12 : f12 tx = some (.inr (9, [.ref tb, .int len])) := hr12 _ _ htx_1 (by simp only [List.mem_cons, List.not_mem_nil, or_false, not_or]; exact cne htx_1 hrd_1 (by simp))
        have htb_12 : f12 tb = some (.inl (cy 1, n, .inl (tg))) := hr12 _ _ htb_1 (by simp only [List.mem_cons, List.not_mem_nil, or_false, not_or]; exact cne htb_1 hrd_1 (by simp))
        have hp_12 : f12 p = some (.inr (2, [.ref c1, .ref c2, .int s, .int v])) := hr12 _ _ hp_1 (by simp only [List.mem_cons, List.not_mem_nil, or_false, not_or]; exact cne hp_1 hrd_1 (by simp))
        have h1_12 : f12 c1 = some (.inl (cy 0, n1, .inl (g))) := hr12 _ _ h1_1 (by simp only [List.mem_cons, List.not_mem_nil, or_false, not_or]; exact cne h1_1 hrd_1 (by simp))
        have h2_12 : f12 c2 = some (.inl (cy 0, n2, .inl (h))) := hr12 _ _ h2_1 (by simp only [List.mem_cons, List.not_mem_nil, or_false, not_or]; exact cne h2_1 hrd_1 (by simp))
        have hbx7 : x7.1 = 0 ∨ x7.1 = 1 := by rw [← hx7]; exact Or.inl rfl
        exact gz_zret rfl (by first | decide | exact nrb (Or.inl rfl) | (refine nrb ?_; (repeat' split) <;> first | assumption | exact Or.inl rfl | exact Or.inr rfl)) dX6_readDeed_51 (Nat.le_of_ble_eq_true rfl) (Nat.le_of_ble_eq_true rfl) (⟨_, rfl, _, _, _, _, _, _, hrd_12, hp_12, h1_12, h2_12, (by first | assumption | exact Or.inl rfl | exact Or.inr rfl), hs, hv, hI, (fr_tr (fr_tr fr_rf (fr_mo hr1 (by simp))) (fr_mo hr12 (by simp)))⟩)
    ·
      refine gz_aload_n dX6_readDeed_32 rfl rfl ?_
      refine gz_iload_n dX6_readDeed_33 rfl rfl ?_
      refine gz_iconst (v := 0) dX6_readDeed_34 (by decide) ?_
      obtain ⟨x8, hx8⟩ : ∃ x0, (faiF fa x1.2 0) = x0 := ⟨_, rfl⟩
      refine scX6_39 (k_X6_fail (at_ := x1.2) (kd := 0) hrd_1) hrd_1 ⟨(by simp only [gRm]; omega), (by simp only [gRm]; omega)⟩ ⟨(Nat.le_of_ble_eq_true rfl), (Nat.le_of_ble_eq_true rfl)⟩ rfl rfl (Nat.le_of_ble_eq_true rfl) dX6_readDeed_35 ?_
      rintro r13 f13 ⟨z13, hrd_13, hr13⟩; rw [hx8] at z13 hrd_13; rw [z13]
      have htx_13 : f13 tx = some (.inr (9, [.ref tb, .int len])) := hr13 _ _ htx_1 (by simp only [List.mem_cons, List.not_mem_nil, or_false, not_or]; exact cne htx_1 hrd_1 (by simp))
      have htb_13 : f13 tb = some (.inl (cy 1, n, .inl (tg))) := hr13 _ _ htb_1 (by simp only [List.mem_cons, List.not_mem_nil, or_false, not_or]; exact cne htb_1 hrd_1 (by simp))
      have hp_13 : f13 p = some (.inr (2, [.ref c1, .ref c2, .int s, .int v])) := hr13 _ _ hp_1 (by simp only [List.mem_cons, List.not_mem_nil, or_false, not_or]; exact cne hp_1 hrd_1 (by simp))
      have h1_13 : f13 c1 = some (.inl (cy 0, n1, .inl (g))) := hr13 _ _ h1_1 (by simp only [List.mem_cons, List.not_mem_nil, or_false, not_or]; exact cne h1_1 hrd_1 (by simp))
      have h2_13 : f13 c2 = some (.inl (cy 0, n2, .inl (h))) := hr13 _ _ h2_1 (by simp only [List.mem_cons, List.not_mem_nil, or_false, not_or]; exact cne h2_1 hrd_1 (by simp))
      have hbx8 : x8.1 = 0 ∨ x8.1 = 1 := by rw [← hx8]; exact Or.inl rfl
      exact gz_zret rfl (by first | decide | exact nrb (Or.inl rfl) | (refine nrb ?_; (repeat' split) <;> first | assumption | exact Or.inl rfl | exact Or.inr rfl)) dX6_readDeed_38 (Nat.le_of_ble_eq_true rfl) (Nat.le_of_ble_eq_true rfl) (⟨_, rfl, _, _, _, _, _, _, hrd_13, hp_13, h1_13, h2_13, (by first | assumption | exact Or.inl rfl | exact Or.inr rfl), hs, hv, hI, (fr_tr (fr_tr fr_rf (fr_mo hr1 (by simp))) (fr_mo hr13 (by simp)))⟩)

set_option maxHeartbeats 4000000 in
set_option maxRecDepth 100000 in
theorem k_X6_readTape {l : Launch} {D : va_G} {cy : Nat → ClassId} {b : Nat} {f : gMem} {rd tx tb p c1 c2 n n1 n2 : Nat} {len pl fa s v : Int32} {tg g h : Nat → Int32} (hrd : f rd = some (.inr (6, [.ref tx, .ref p, .int pl, .int fa]))) (htx : f tx = some (.inr (9, [.ref tb, .int len]))) (htb : f tb = some (.inl (cy 1, n, .inl (tg)))) (hp : f p = some (.inr (2, [.ref c1, .ref c2, .int s, .int v]))) (h1 : f c1 = some (.inl (cy 0, n1, .inl (g)))) (h2 : f c2 = some (.inl (cy 0, n2, .inl (h)))) (hn : n < 2 ^ 31) (hne : tb ≠ c1 ∧ tb ≠ c2 ∧ c1 ≠ c2) (h12 : n1 ≤ 520 ∧ n2 ≤ 80) : gC l D cy b yX6_readTape cX6_readTape 1 (some .int) 34 0 0 [.ref rd] f (pI fun r f2 => ∃ (pl2 fa2 s2 v2 : Int32) (g2 h2 : Nat → Int32), f2 rd = some (.inr (6, [.ref tx, .ref p, .int pl2, .int fa2])) ∧ f2 p = some (.inr (2, [.ref c1, .ref c2, .int s2, .int v2])) ∧ f2 c1 = some (.inl (cy 0, n1, .inl (g2))) ∧ f2 c2 = some (.inl (cy 0, n2, .inl (h2))) ∧ (0 ≤ s2.toInt ∧ 13 * s2.toInt ≤ n1 ∧ n1 ≤ 520) ∧ (0 ≤ v2.toInt ∧ 2 * v2.toInt ≤ n2 ∧ n2 ≤ 80) ∧ fI g2 s2.toInt ∧ fr [rd, p, c1, c2] f f2) := by
  refine gC_of (by decide) (Nat.le_of_ble_eq_true rfl) ?_
  show gG l _ _ _ D cy b cX6_readTape 1 _ RX6 "readTape" 0 0 f 0 [(0, .ref rd)] []
  refine gz_aload_n dX6_readTape_0 rfl rfl ?_
  refine gz_iconst (v := 0) dX6_readTape_1 (by decide) ?_
  refine spX6_19 hrd  (Nat.le_of_ble_eq_true rfl) dX6_readTape_2 ?_
  obtain ⟨f1, hf1⟩ : ∃ gg : gMem, gg = va_up f rd (some (.inr (6, [.ref tx, .ref p, .int 0, .int fa]))) := ⟨_, rfl⟩
  refine gz_eq (f2 := f1) hf1.symm rfl rfl rfl ?_
  have htx_1 : f1 tx = some (.inr (9, [.ref tb, .int len])) := by rw [hf1, va_up_ne _ _ (cne htx hrd (by simp))]; exact htx
  have htb_1 : f1 tb = some (.inl (cy 1, n, .inl (tg))) := by rw [hf1, va_up_ne _ _ (cne htb hrd (by simp))]; exact htb
  have hp_1 : f1 p = some (.inr (2, [.ref c1, .ref c2, .int s, .int v])) := by rw [hf1, va_up_ne _ _ (cne hp hrd (by simp))]; exact hp
  have h1_1 : f1 c1 = some (.inl (cy 0, n1, .inl (g))) := by rw [hf1, va_up_ne _ _ (cne h1 hrd (by simp))]; exact h1
  have h2_1 : f1 c2 = some (.inl (cy 0, n2, .inl (h))) := by rw [hf1, va_up_ne _ _ (cne h2 hrd (by simp))]; exact h2
  have hrd_1 : f1 rd = some (.inr (6, [.ref tx, .ref p, .int 0, .int fa])) := by rw [hf1]; exact va_up_self _ _ _
  refine gz_aload_n dX6_readTape_5 rfl rfl ?_
  refine gz_iconst (v := 0) dX6_readTape_6 (by decide) ?_
  refine spX6_23 hrd_1  (Nat.le_of_ble_eq_true rfl) dX6_readTape_7 ?_
  obtain ⟨f2, hf2⟩ : ∃ gg : gMem, gg = va_up f1 rd (some (.inr (6, [.ref tx, .ref p, .int 0, .int 0]))) := ⟨_, rfl⟩
  refine gz_eq (f2 := f2) hf2.symm rfl rfl rfl ?_
  have htx_2 : f2 tx = some (.inr (9, [.ref tb, .int len])) := by rw [hf2, va_up_ne _ _ (cne htx_1 hrd_1 (by simp))]; exact htx_1
  have htb_2 : f2 tb = some (.inl (cy 1, n, .inl (tg))) := by rw [hf2, va_up_ne _ _ (cne htb_1 hrd_1 (by simp))]; exact htb_1
  have hp_2 : f2 p = some (.inr (2, [.ref c1, .ref c2, .int s, .int v])) := by rw [hf2, va_up_ne _ _ (cne hp_1 hrd_1 (by simp))]; exact hp_1
  have h1_2 : f2 c1 = some (.inl (cy 0, n1, .inl (g))) := by rw [hf2, va_up_ne _ _ (cne h1_1 hrd_1 (by simp))]; exact h1_1
  have h2_2 : f2 c2 = some (.inl (cy 0, n2, .inl (h))) := by rw [hf2, va_up_ne _ _ (cne h2_1 hrd_1 (by simp))]; exact h2_1
  have hrd_2 : f2 rd = some (.inr (6, [.ref tx, .ref p, .int 0, .int 0])) := by rw [hf2]; exact va_up_self _ _ _
  refine gz_aload_n dX6_readTape_10 rfl rfl ?_
  refine sgX6_15 hrd_2 rfl dX6_readTape_11 ?_
  refine scX6_26 (k_X2_clear hp_2) hp_2 ⟨(Nat.le_of_ble_eq_true rfl), (Nat.le_of_ble_eq_true rfl)⟩ ⟨(Nat.le_of_ble_eq_true rfl), (Nat.le_of_ble_eq_true rfl)⟩ rfl rfl (Nat.le_of_ble_eq_true rfl) dX6_readTape_14 ?_
  rintro f3 ⟨hp_3, hr3⟩
  have htx_3 : f3 tx = some (.inr (9, [.ref tb, .int len])) := hr3 _ _ htx_2 (by simp only [List.mem_cons, List.not_mem_nil, or_false, not_or]; exact cne htx_2 hp_2 (by simp))
  have htb_3 : f3 tb = some (.inl (cy 1, n, .inl (tg))) := hr3 _ _ htb_2 (by simp only [List.mem_cons, List.not_mem_nil, or_false, not_or]; exact cne htb_2 hp_2 (by simp))
  have h1_3 : f3 c1 = some (.inl (cy 0, n1, .inl (g))) := hr3 _ _ h1_2 (by simp only [List.mem_cons, List.not_mem_nil, or_false, not_or]; exact cne h1_2 hp_2 (by simp))
  have h2_3 : f3 c2 = some (.inl (cy 0, n2, .inl (h))) := hr3 _ _ h2_2 (by simp only [List.mem_cons, List.not_mem_nil, or_false, not_or]; exact cne h2_2 hp_2 (by simp))
  have hrd_3 : f3 rd = some (.inr (6, [.ref tx, .ref p, .int 0, .int 0])) := hr3 _ _ hrd_2 (by simp only [List.mem_cons, List.not_mem_nil, or_false, not_or]; exact cne hrd_2 hp_2 (by simp))
  refine gz_aload_n dX6_readTape_17 rfl rfl ?_
  refine gz_iconst (v := (-1)) dX6_readTape_18 (by decide) ?_
  refine gz_iconst (v := 0) dX6_readTape_19 (by decide) ?_
  have hz : (0 : Int32).toInt = 0 := rfl
  refine scX6_31 (k_X6_readDeed hn hne 13 (-1) 0 0 0 0 0 g h _ hrd_3 htx_3 htb_3 hp_3 h1_3 h2_3 ⟨by omega, by omega, h12.1⟩ ⟨by omega, by omega, h12.2⟩ (fun i hi => absurd hi (by omega)) (by decide)) hrd_3 ⟨(Nat.le_of_ble_eq_true rfl), (Nat.le_of_ble_eq_true rfl)⟩ ⟨(Nat.le_of_ble_eq_true rfl), (Nat.le_of_ble_eq_true rfl)⟩ rfl rfl (Nat.le_of_ble_eq_true rfl) dX6_readTape_20 ?_
  rintro r4 f4 ⟨pl_4, fa_4, s_4, v_4, g_4, h_4, hrd_4, hp_4, h1_4, h2_4, hb_4, hs_4, hv_4, hI_4, hr4⟩
  have htx_4 : f4 tx = some (.inr (9, [.ref tb, .int len])) := hr4 _ _ htx_3 (by simp only [List.mem_cons, List.not_mem_nil, or_false, not_or]; exact ⟨cne htx_3 hrd_3 (by simp), cne htx_3 hp_3 (by simp), cne htx_3 h1_3 (by simp), cne htx_3 h2_3 (by simp)⟩)
  have htb_4 : f4 tb = some (.inl (cy 1, n, .inl (tg))) := hr4 _ _ htb_3 (by simp only [List.mem_cons, List.not_mem_nil, or_false, not_or]; exact ⟨cne htb_3 hrd_3 (by simp), cne htb_3 hp_3 (by simp), hne.1, hne.2.1⟩)
  refine gz_if_eq (tgt := 44) dX6_readTape_23 (by decide) (fun c_23 => ?_) (fun c_23 => ?_)
  ·
    refine gz_aload_n dX6_readTape_44 rfl rfl ?_
    refine sgX6_23 hrd_4 rfl dX6_readTape_45 ?_
    exact gz_iret rfl dX6_readTape_48 (Nat.le_of_ble_eq_true rfl) (Nat.le_of_ble_eq_true rfl) (⟨_, rfl, _, _, _, _, _, _, hrd_4, hp_4, h1_4, h2_4, hs_4, hv_4, hI_4, (fr_tr (fr_tr (by rw [hf2]; exact fr_up (by rw [hf1]; exact fr_up fr_rf (by simp)) (by simp)) (fr_mo hr3 (by simp))) (fr_mo hr4 (by simp)))⟩)
  ·
    refine gz_aload_n dX6_readTape_26 rfl rfl ?_
    obtain ⟨x1, hx1⟩ : ∃ x0, (upnF len n tg pl_4) = x0 := ⟨_, rfl⟩
    refine scX6_35 (k_X6_upNext hrd_4 htx_4 htb_4 hn) hrd_4 ⟨(Nat.le_of_ble_eq_true rfl), (Nat.le_of_ble_eq_true rfl)⟩ ⟨(Nat.le_of_ble_eq_true rfl), (Nat.le_of_ble_eq_true rfl)⟩ rfl rfl (Nat.le_of_ble_eq_true rfl) dX6_readTape_27 ?_
    rintro r5 f5 ⟨z5, hrd_5, hr5⟩; rw [hx1] at z5 hrd_5; rw [z5]
    have htx_5 : f5 tx = some (.inr (9, [.ref tb, .int len])) := hr5 _ _ htx_4 (by simp only [List.mem_cons, List.not_mem_nil, or_false, not_or]; exact cne htx_4 hrd_4 (by simp))
    have htb_5 : f5 tb = some (.inl (cy 1, n, .inl (tg))) := hr5 _ _ htb_4 (by simp only [List.mem_cons, List.not_mem_nil, or_false, not_or]; exact cne htb_4 hrd_4 (by simp))
    have hp_5 : f5 p = some (.inr (2, [.ref c1, .ref c2, .int s_4, .int v_4])) := hr5 _ _ hp_4 (by simp only [List.mem_cons, List.not_mem_nil, or_false, not_or]; exact cne hp_4 hrd_4 (by simp))
    have h1_5 : f5 c1 = some (.inl (cy 0, n1, .inl (g_4))) := hr5 _ _ h1_4 (by simp only [List.mem_cons, List.not_mem_nil, or_false, not_or]; exact cne h1_4 hrd_4 (by simp))
    have h2_5 : f5 c2 = some (.inl (cy 0, n2, .inl (h_4))) := hr5 _ _ h2_4 (by simp only [List.mem_cons, List.not_mem_nil, or_false, not_or]; exact cne h2_4 hrd_4 (by simp))
    refine gz_iconst (v := (-1)) dX6_readTape_30 (by decide) ?_
    refine gz_icmp_eq (tgt := 44) dX6_readTape_31 (by decide) (fun c_31 => ?_) (fun c_31 => ?_)
    ·
      refine gz_aload_n dX6_readTape_44 rfl rfl ?_
      refine sgX6_23 hrd_5 rfl dX6_readTape_45 ?_
      exact gz_iret rfl dX6_readTape_48 (Nat.le_of_ble_eq_true rfl) (Nat.le_of_ble_eq_true rfl) (⟨_, rfl, _, _, _, _, _, _, hrd_5, hp_5, h1_5, h2_5, hs_4, hv_4, hI_4, (fr_tr (fr_tr (fr_tr (by rw [hf2]; exact fr_up (by rw [hf1]; exact fr_up fr_rf (by simp)) (by simp)) (fr_mo hr3 (by simp))) (fr_mo hr4 (by simp))) (fr_mo hr5 (by simp)))⟩)
    ·
      refine gz_aload_n dX6_readTape_34 rfl rfl ?_
      refine gz_aload_n dX6_readTape_35 rfl rfl ?_
      refine sgX6_19 hrd_5 rfl dX6_readTape_36 ?_
      refine gz_iconst (v := 0) dX6_readTape_39 (by decide) ?_
      obtain ⟨x2, hx2⟩ : ∃ x0, (faiF fa_4 x1.2 0) = x0 := ⟨_, rfl⟩
      refine scX6_39 (k_X6_fail (at_ := x1.2) (kd := 0) hrd_5) hrd_5 ⟨(Nat.le_of_ble_eq_true rfl), (Nat.le_of_ble_eq_true rfl)⟩ ⟨(Nat.le_of_ble_eq_true rfl), (Nat.le_of_ble_eq_true rfl)⟩ rfl rfl (Nat.le_of_ble_eq_true rfl) dX6_readTape_40 ?_
      rintro r6 f6 ⟨z6, hrd_6, hr6⟩; rw [hx2] at z6 hrd_6; rw [z6]
      have htx_6 : f6 tx = some (.inr (9, [.ref tb, .int len])) := hr6 _ _ htx_5 (by simp only [List.mem_cons, List.not_mem_nil, or_false, not_or]; exact cne htx_5 hrd_5 (by simp))
      have htb_6 : f6 tb = some (.inl (cy 1, n, .inl (tg))) := hr6 _ _ htb_5 (by simp only [List.mem_cons, List.not_mem_nil, or_false, not_or]; exact cne htb_5 hrd_5 (by simp))
      have hp_6 : f6 p = some (.inr (2, [.ref c1, .ref c2, .int s_4, .int v_4])) := hr6 _ _ hp_5 (by simp only [List.mem_cons, List.not_mem_nil, or_false, not_or]; exact cne hp_5 hrd_5 (by simp))
      have h1_6 : f6 c1 = some (.inl (cy 0, n1, .inl (g_4))) := hr6 _ _ h1_5 (by simp only [List.mem_cons, List.not_mem_nil, or_false, not_or]; exact cne h1_5 hrd_5 (by simp))
      have h2_6 : f6 c2 = some (.inl (cy 0, n2, .inl (h_4))) := hr6 _ _ h2_5 (by simp only [List.mem_cons, List.not_mem_nil, or_false, not_or]; exact cne h2_5 hrd_5 (by simp))
      have hbx2 : x2.1 = 0 ∨ x2.1 = 1 := by rw [← hx2]; exact Or.inl rfl
      refine gz_pop dX6_readTape_43 rfl ?_
      refine gz_aload_n dX6_readTape_44 rfl rfl ?_
      refine sgX6_23 hrd_6 rfl dX6_readTape_45 ?_
      exact gz_iret rfl dX6_readTape_48 (Nat.le_of_ble_eq_true rfl) (Nat.le_of_ble_eq_true rfl) (⟨_, rfl, _, _, _, _, _, _, hrd_6, hp_6, h1_6, h2_6, hs_4, hv_4, hI_4, (fr_tr (fr_tr (fr_tr (fr_tr (by rw [hf2]; exact fr_up (by rw [hf1]; exact fr_up fr_rf (by simp)) (by simp)) (fr_mo hr3 (by simp))) (fr_mo hr4 (by simp))) (fr_mo hr5 (by simp))) (fr_mo hr6 (by simp)))⟩)
