def gapF (n : Nat) (ln : Int32) (og : Nat → Int32)  : (Int32) × (Nat → Int32) := (if ((letF (tAt ln n og (ln - 1))) : Int32) = 0 then (if ((digF (tAt ln n og (ln - 1))) : Int32) = 0 then (ln, (og)) else ((tpL ln n), ((tpG ln n og 32)))) else ((tpL ln n), ((tpG ln n og 32))))
set_option maxHeartbeats 4000000 in
set_option maxRecDepth 100000 in
theorem k_X8_gap {l : Launch} {D : va_G} {cy : Nat → ClassId} {b : Nat} {f : gMem} {te ot ob n : Nat} {ln : Int32} {og : Nat → Int32} (hte : f te = some (.inr (8, [.ref ot]))) (hot : f ot = some (.inr (9, [.ref ob, .int ln]))) (hob : f ob = some (.inl (cy 1, n, .inl (og)))) (hn : n < 2 ^ 31) : gC l D cy b yX8_gap cX8_gap 2 none 1 0 0 [.ref te] f (pV fun f2 => f2 ot = some (.inr (9, [.ref ob, .int (gapF n ln og).1])) ∧ f2 ob = some (.inl (cy 1, n, .inl ((gapF n ln og).2))) ∧ fr [ot, ob] f f2) := by
  refine gC_of (by decide) (Nat.le_of_ble_eq_true rfl) ?_
  show gG l _ _ _ D cy b cX8_gap 2 _ RX8 "gap" 0 0 f 0 [(0, .ref te)] []
  refine gz_aload_n dX8_gap_0 rfl rfl ?_
  refine sgX8_9 hte rfl dX8_gap_1 ?_
  refine gz_aload_n dX8_gap_4 rfl rfl ?_
  refine sgX8_9 hte rfl dX8_gap_5 ?_
  refine scX8_68 (k_X9_size hot) hot ⟨(Nat.le_of_ble_eq_true rfl), (Nat.le_of_ble_eq_true rfl)⟩ ⟨(Nat.le_of_ble_eq_true rfl), (Nat.le_of_ble_eq_true rfl)⟩ rfl rfl (Nat.le_of_ble_eq_true rfl) dX8_gap_8 ?_
  intro v9 f9 z9; rw [z9.1, z9.2]
  refine gz_iconst (v := 1) dX8_gap_11 (by decide) ?_
  refine gz_isub dX8_gap_12 ?_
  refine scX8_72 (k_X9_at (i := (ln - 1)) hot hob hn) hot ⟨(Nat.le_of_ble_eq_true rfl), (Nat.le_of_ble_eq_true rfl)⟩ ⟨(Nat.le_of_ble_eq_true rfl), (Nat.le_of_ble_eq_true rfl)⟩ rfl rfl (Nat.le_of_ble_eq_true rfl) dX8_gap_13 ?_
  intro v9 f9 z9; rw [z9.1, z9.2]
  refine gz_istore_n (lv' := [(1, .int (tAt ln n og (ln - 1))), (0, .ref te)]) dX8_gap_16 rfl (by decide) rfl ?_
  refine gz_iload_n dX8_gap_17 rfl rfl ?_
  refine scX8_76 (k_X11_isLetter (x := (tAt ln n og (ln - 1)))) ⟨(Nat.le_of_ble_eq_true rfl), (Nat.le_of_ble_eq_true rfl)⟩ ⟨(Nat.le_of_ble_eq_true rfl), (Nat.le_of_ble_eq_true rfl)⟩ rfl rfl (Nat.le_of_ble_eq_true rfl) dX8_gap_18 ?_
  intro v9 f9 z9; rw [z9.1, z9.2]
  refine gz_if_ne (tgt := 31) dX8_gap_21 (by decide) (fun c_21 => ?_) (fun c_21 => ?_)
  ·
    refine gz_aload_n dX8_gap_31 rfl rfl ?_
    refine sgX8_9 hte rfl dX8_gap_32 ?_
    refine gz_bipush (v := 32) dX8_gap_35 (by decide) ?_
    refine scX8_41 (k_X9_put (x := 32) hot hob hn) hot ⟨(Nat.le_of_ble_eq_true rfl), (Nat.le_of_ble_eq_true rfl)⟩ ⟨(Nat.le_of_ble_eq_true rfl), (Nat.le_of_ble_eq_true rfl)⟩ rfl rfl (Nat.le_of_ble_eq_true rfl) dX8_gap_37 ?_
    rintro f1 ⟨hot_1, hob_1, hr1⟩
    have hte_1 : f1 te = some (.inr (8, [.ref ot])) := hr1 _ _ hte (by simp only [List.mem_cons, List.not_mem_nil, or_false, not_or]; exact ⟨cne hte hot (by simp), cne hte hob (by simp)⟩)
    exact gz_vret rfl dX8_gap_40 (Nat.le_of_ble_eq_true rfl) (Nat.le_of_ble_eq_true rfl) (⟨rfl, (by rw [(show gapF n ln og = _ from (by unfold gapF; rw [if_neg c_21]))]; exact hot_1), (by rw [(show gapF n ln og = _ from (by unfold gapF; rw [if_neg c_21]))]; exact hob_1), (fr_tr fr_rf (fr_mo hr1 (by simp)))⟩)
  ·
    refine gz_iload_n dX8_gap_24 rfl rfl ?_
    refine scX8_79 (k_X11_isDigit (x := (tAt ln n og (ln - 1)))) ⟨(Nat.le_of_ble_eq_true rfl), (Nat.le_of_ble_eq_true rfl)⟩ ⟨(Nat.le_of_ble_eq_true rfl), (Nat.le_of_ble_eq_true rfl)⟩ rfl rfl (Nat.le_of_ble_eq_true rfl) dX8_gap_25 ?_
    intro v9 f9 z9; rw [z9.1, z9.2]
    refine gz_if_eq (tgt := 40) dX8_gap_28 (by decide) (fun c_28 => ?_) (fun c_28 => ?_)
    ·
      exact gz_vret rfl dX8_gap_40 (Nat.le_of_ble_eq_true rfl) (Nat.le_of_ble_eq_true rfl) (⟨rfl, (by rw [(show gapF n ln og = _ from (by unfold gapF; rw [if_pos c_21, if_pos c_28]))]; exact hot), (by rw [(show gapF n ln og = _ from (by unfold gapF; rw [if_pos c_21, if_pos c_28]))]; exact hob), fr_rf⟩)
    ·
      refine gz_aload_n dX8_gap_31 rfl rfl ?_
      refine sgX8_9 hte rfl dX8_gap_32 ?_
      refine gz_bipush (v := 32) dX8_gap_35 (by decide) ?_
      refine scX8_41 (k_X9_put (x := 32) hot hob hn) hot ⟨(Nat.le_of_ble_eq_true rfl), (Nat.le_of_ble_eq_true rfl)⟩ ⟨(Nat.le_of_ble_eq_true rfl), (Nat.le_of_ble_eq_true rfl)⟩ rfl rfl (Nat.le_of_ble_eq_true rfl) dX8_gap_37 ?_
      rintro f2 ⟨hot_2, hob_2, hr2⟩
      have hte_2 : f2 te = some (.inr (8, [.ref ot])) := hr2 _ _ hte (by simp only [List.mem_cons, List.not_mem_nil, or_false, not_or]; exact ⟨cne hte hot (by simp), cne hte hob (by simp)⟩)
      exact gz_vret rfl dX8_gap_40 (Nat.le_of_ble_eq_true rfl) (Nat.le_of_ble_eq_true rfl) (⟨rfl, (by rw [(show gapF n ln og = _ from (by unfold gapF; rw [if_pos c_21, if_neg c_28]))]; exact hot_2), (by rw [(show gapF n ln og = _ from (by unfold gapF; rw [if_pos c_21, if_neg c_28]))]; exact hob_2), (fr_tr fr_rf (fr_mo hr2 (by simp)))⟩)

def wreF (n : Nat) (ln : Int32) (og : Nat → Int32) (x : Int32) : (Int32) × (Nat → Int32) := (if ((x &&& 1) : Int32) = 0 then (if ((x &&& 4) : Int32) = 0 then (if ((x &&& 2) : Int32) = 0 then (ln, (og)) else ((tpL ln n), ((tpG ln n og 61)))) else (if ((x &&& 2) : Int32) = 0 then ((tpL ln n), ((tpG ln n og 62))) else ((tpL (tpL ln n) n), ((tpG (tpL ln n) n (tpG ln n og 62) 61))))) else (if ((x &&& 4) : Int32) = 0 then (if ((x &&& 2) : Int32) = 0 then ((tpL ln n), ((tpG ln n og 60))) else ((tpL (tpL ln n) n), ((tpG (tpL ln n) n (tpG ln n og 60) 61)))) else (if ((x &&& 2) : Int32) = 0 then ((tpL (tpL ln n) n), ((tpG (tpL ln n) n (tpG ln n og 60) 62))) else ((tpL (tpL (tpL ln n) n) n), ((tpG (tpL (tpL ln n) n) n (tpG (tpL ln n) n (tpG ln n og 60) 62) 61))))))
set_option maxHeartbeats 4000000 in
set_option maxRecDepth 100000 in
theorem k_X8_writeRelation {l : Launch} {D : va_G} {cy : Nat → ClassId} {b : Nat} {f : gMem} {te ot ob n : Nat} {ln : Int32} {og : Nat → Int32} {x : Int32} (hte : f te = some (.inr (8, [.ref ot]))) (hot : f ot = some (.inr (9, [.ref ob, .int ln]))) (hob : f ob = some (.inl (cy 1, n, .inl (og)))) (hn : n < 2 ^ 31) : gC l D cy b yX8_writeRelation cX8_writeRelation 2 none 1 0 0 [.ref te, .int x] f (pV fun f2 => f2 ot = some (.inr (9, [.ref ob, .int (wreF n ln og x).1])) ∧ f2 ob = some (.inl (cy 1, n, .inl ((wreF n ln og x).2))) ∧ fr [ot, ob] f f2) := by
  refine gC_of (by decide) (Nat.le_of_ble_eq_true rfl) ?_
  show gG l _ _ _ D cy b cX8_writeRelation 2 _ RX8 "writeRelation" 0 0 f 0 [(0, .ref te), (1, .int x)] []
  refine gz_iload_n dX8_writeRelation_0 rfl rfl ?_
  refine gz_iconst (v := 1) dX8_writeRelation_1 (by decide) ?_
  refine gz_iand dX8_writeRelation_2 ?_
  refine gz_if_eq (tgt := 15) dX8_writeRelation_3 (by decide) (fun c_3 => ?_) (fun c_3 => ?_)
  ·
    refine gz_iload_n dX8_writeRelation_15 rfl rfl ?_
    refine gz_iconst (v := 4) dX8_writeRelation_16 (by decide) ?_
    refine gz_iand dX8_writeRelation_17 ?_
    refine gz_if_eq (tgt := 30) dX8_writeRelation_18 (by decide) (fun c_18 => ?_) (fun c_18 => ?_)
    ·
      refine gz_iload_n dX8_writeRelation_30 rfl rfl ?_
      refine gz_iconst (v := 2) dX8_writeRelation_31 (by decide) ?_
      refine gz_iand dX8_writeRelation_32 ?_
      refine gz_if_eq (tgt := 45) dX8_writeRelation_33 (by decide) (fun c_33 => ?_) (fun c_33 => ?_)
      ·
        exact gz_vret rfl dX8_writeRelation_45 (Nat.le_of_ble_eq_true rfl) (Nat.le_of_ble_eq_true rfl) (⟨rfl, (by rw [(show wreF n ln og x = _ from (by unfold wreF; rw [if_pos c_3, if_pos c_18, if_pos c_33]))]; exact hot), (by rw [(show wreF n ln og x = _ from (by unfold wreF; rw [if_pos c_3, if_pos c_18, if_pos c_33]))]; exact hob), fr_rf⟩)
      ·
        refine gz_aload_n dX8_writeRelation_36 rfl rfl ?_
        refine sgX8_9 hte rfl dX8_writeRelation_37 ?_
        refine gz_bipush (v := 61) dX8_writeRelation_40 (by decide) ?_
        refine scX8_41 (k_X9_put (x := 61) hot hob hn) hot ⟨(Nat.le_of_ble_eq_true rfl), (Nat.le_of_ble_eq_true rfl)⟩ ⟨(Nat.le_of_ble_eq_true rfl), (Nat.le_of_ble_eq_true rfl)⟩ rfl rfl (Nat.le_of_ble_eq_true rfl) dX8_writeRelation_42 ?_
        rintro f1 ⟨hot_1, hob_1, hr1⟩
        have hte_1 : f1 te = some (.inr (8, [.ref ot])) := hr1 _ _ hte (by simp only [List.mem_cons, List.not_mem_nil, or_false, not_or]; exact ⟨cne hte hot (by simp), cne hte hob (by simp)⟩)
        exact gz_vret rfl dX8_writeRelation_45 (Nat.le_of_ble_eq_true rfl) (Nat.le_of_ble_eq_true rfl) (⟨rfl, (by rw [(show wreF n ln og x = _ from (by unfold wreF; rw [if_pos c_3, if_pos c_18, if_neg c_33]))]; exact hot_1), (by rw [(show wreF n ln og x = _ from (by unfold wreF; rw [if_pos c_3, if_pos c_18, if_neg c_33]))]; exact hob_1), (fr_tr fr_rf (fr_mo hr1 (by simp)))⟩)
    ·
      refine gz_aload_n dX8_writeRelation_21 rfl rfl ?_
      refine sgX8_9 hte rfl dX8_writeRelation_22 ?_
      refine gz_bipush (v := 62) dX8_writeRelation_25 (by decide) ?_
      refine scX8_41 (k_X9_put (x := 62) hot hob hn) hot ⟨(Nat.le_of_ble_eq_true rfl), (Nat.le_of_ble_eq_true rfl)⟩ ⟨(Nat.le_of_ble_eq_true rfl), (Nat.le_of_ble_eq_true rfl)⟩ rfl rfl (Nat.le_of_ble_eq_true rfl) dX8_writeRelation_27 ?_
      rintro f2 ⟨hot_2, hob_2, hr2⟩
      have hte_2 : f2 te = some (.inr (8, [.ref ot])) := hr2 _ _ hte (by simp only [List.mem_cons, List.not_mem_nil, or_false, not_or]; exact ⟨cne hte hot (by simp), cne hte hob (by simp)⟩)
      refine gz_iload_n dX8_writeRelation_30 rfl rfl ?_
      refine gz_iconst (v := 2) dX8_writeRelation_31 (by decide) ?_
      refine gz_iand dX8_writeRelation_32 ?_
      refine gz_if_eq (tgt := 45) dX8_writeRelation_33 (by decide) (fun c_33 => ?_) (fun c_33 => ?_)
      ·
        exact gz_vret rfl dX8_writeRelation_45 (Nat.le_of_ble_eq_true rfl) (Nat.le_of_ble_eq_true rfl) (⟨rfl, (by rw [(show wreF n ln og x = _ from (by unfold wreF; rw [if_pos c_3, if_neg c_18, if_pos c_33]))]; exact hot_2), (by rw [(show wreF n ln og x = _ from (by unfold wreF; rw [if_pos c_3, if_neg c_18, if_pos c_33]))]; exact hob_2), (fr_tr fr_rf (fr_mo hr2 (by simp)))⟩)
      ·
        refine gz_aload_n dX8_writeRelation_36 rfl rfl ?_
        refine sgX8_9 hte_2 rfl dX8_writeRelation_37 ?_
        refine gz_bipush (v := 61) dX8_writeRelation_40 (by decide) ?_
        refine scX8_41 (k_X9_put (x := 61) hot_2 hob_2 hn) hot_2 ⟨(Nat.le_of_ble_eq_true rfl), (Nat.le_of_ble_eq_true rfl)⟩ ⟨(Nat.le_of_ble_eq_true rfl), (Nat.le_of_ble_eq_true rfl)⟩ rfl rfl (Nat.le_of_ble_eq_true rfl) dX8_writeRelation_42 ?_
        rintro f3 ⟨hot_3, hob_3, hr3⟩
        have hte_3 : f3 te = some (.inr (8, [.ref ot])) := hr3 _ _ hte_2 (by simp only [List.mem_cons, List.not_mem_nil, or_false, not_or]; exact ⟨cne hte_2 hot_2 (by simp), cne hte_2 hob_2 (by simp)⟩)
        exact gz_vret rfl dX8_writeRelation_45 (Nat.le_of_ble_eq_true rfl) (Nat.le_of_ble_eq_true rfl) (⟨rfl, (by rw [(show wreF n ln og x = _ from (by unfold wreF; rw [if_pos c_3, if_neg c_18, if_neg c_33]))]; exact hot_3), (by rw [(show wreF n ln og x = _ from (by unfold wreF; rw [if_pos c_3, if_neg c_18, if_neg c_33]))]; exact hob_3), (fr_tr (fr_tr fr_rf (fr_mo hr2 (by simp))) (fr_mo hr3 (by simp)))⟩)
  ·
    refine gz_aload_n dX8_writeRelation_6 rfl rfl ?_
    refine sgX8_9 hte rfl dX8_writeRelation_7 ?_
    refine gz_bipush (v := 60) dX8_writeRelation_10 (by decide) ?_
    refine scX8_41 (k_X9_put (x := 60) hot hob hn) hot ⟨(Nat.le_of_ble_eq_true rfl), (Nat.le_of_ble_eq_true rfl)⟩ ⟨(Nat.le_of_ble_eq_true rfl), (Nat.le_of_ble_eq_true rfl)⟩ rfl rfl (Nat.le_of_ble_eq_true rfl) dX8_writeRelation_12 ?_
    rintro f4 ⟨hot_4, hob_4, hr4⟩
    have hte_4 : f4 te = some (.inr (8, [.ref ot])) := hr4 _ _ hte (by simp only [List.mem_cons, List.not_mem_nil, or_false, not_or]; exact ⟨cne hte hot (by simp), cne hte hob (by simp)⟩)
    refine gz_iload_n dX8_writeRelation_15 rfl rfl ?_
    refine gz_iconst (v := 4) dX8_writeRelation_16 (by decide) ?_
    refine gz_iand dX8_writeRelation_17 ?_
    refine gz_if_eq (tgt := 30) dX8_writeRelation_18 (by decide) (fun c_18 => ?_) (fun c_18 => ?_)
    ·
      refine gz_iload_n dX8_writeRelation_30 rfl rfl ?_
      refine gz_iconst (v := 2) dX8_writeRelation_31 (by decide) ?_
      refine gz_iand dX8_writeRelation_32 ?_
      refine gz_if_eq (tgt := 45) dX8_writeRelation_33 (by decide) (fun c_33 => ?_) (fun c_33 => ?_)
      ·
        exact gz_vret rfl dX8_writeRelation_45 (Nat.le_of_ble_eq_true rfl) (Nat.le_of_ble_eq_true rfl) (⟨rfl, (by rw [(show wreF n ln og x = _ from (by unfold wreF; rw [if_neg c_3, if_pos c_18, if_pos c_33]))]; exact hot_4), (by rw [(show wreF n ln og x = _ from (by unfold wreF; rw [if_neg c_3, if_pos c_18, if_pos c_33]))]; exact hob_4), (fr_tr fr_rf (fr_mo hr4 (by simp)))⟩)
      ·
        refine gz_aload_n dX8_writeRelation_36 rfl rfl ?_
        refine sgX8_9 hte_4 rfl dX8_writeRelation_37 ?_
        refine gz_bipush (v := 61) dX8_writeRelation_40 (by decide) ?_
        refine scX8_41 (k_X9_put (x := 61) hot_4 hob_4 hn) hot_4 ⟨(Nat.le_of_ble_eq_true rfl), (Nat.le_of_ble_eq_true rfl)⟩ ⟨(Nat.le_of_ble_eq_true rfl), (Nat.le_of_ble_eq_true rfl)⟩ rfl rfl (Nat.le_of_ble_eq_true rfl) dX8_writeRelation_42 ?_
        rintro f5 ⟨hot_5, hob_5, hr5⟩
        have hte_5 : f5 te = some (.inr (8, [.ref ot])) := hr5 _ _ hte_4 (by simp only [List.mem_cons, List.not_mem_nil, or_false, not_or]; exact ⟨cne hte_4 hot_4 (by simp), cne hte_4 hob_4 (by simp)⟩)
        exact gz_vret rfl dX8_writeRelation_45 (Nat.le_of_ble_eq_true rfl) (Nat.le_of_ble_eq_true rfl) (⟨rfl, (by rw [(show wreF n ln og x = _ from (by unfold wreF; rw [if_neg c_3, if_pos c_18, if_neg c_33]))]; exact hot_5), (by rw [(show wreF n ln og x = _ from (by unfold wreF; rw [if_neg c_3, if_pos c_18, if_neg c_33]))]; exact hob_5), (fr_tr (fr_tr fr_rf (fr_mo hr4 (by simp))) (fr_mo hr5 (by simp)))⟩)
    ·
      refine gz_aload_n dX8_writeRelation_21 rfl rfl ?_
      refine sgX8_9 hte_4 rfl dX8_writeRelation_22 ?_
      refine gz_bipush (v := 62) dX8_writeRelation_25 (by decide) ?_
      refine scX8_41 (k_X9_put (x := 62) hot_4 hob_4 hn) hot_4 ⟨(Nat.le_of_ble_eq_true rfl), (Nat.le_of_ble_eq_true rfl)⟩ ⟨(Nat.le_of_ble_eq_true rfl), (Nat.le_of_ble_eq_true rfl)⟩ rfl rfl (Nat.le_of_ble_eq_true rfl) dX8_writeRelation_27 ?_
      rintro f6 ⟨hot_6, hob_6, hr6⟩
      have hte_6 : f6 te = some (.inr (8, [.ref ot])) := hr6 _ _ hte_4 (by simp only [List.mem_cons, List.not_mem_nil, or_false, not_or]; exact ⟨cne hte_4 hot_4 (by simp), cne hte_4 hob_4 (by simp)⟩)
      refine gz_iload_n dX8_writeRelation_30 rfl rfl ?_
      refine gz_iconst (v := 2) dX8_writeRelation_31 (by decide) ?_
      refine gz_iand dX8_writeRelation_32 ?_
      refine gz_if_eq (tgt := 45) dX8_writeRelation_33 (by decide) (fun c_33 => ?_) (fun c_33 => ?_)
      ·
        exact gz_vret rfl dX8_writeRelation_45 (Nat.le_of_ble_eq_true rfl) (Nat.le_of_ble_eq_true rfl) (⟨rfl, (by rw [(show wreF n ln og x = _ from (by unfold wreF; rw [if_neg c_3, if_neg c_18, if_pos c_33]))]; exact hot_6), (by rw [(show wreF n ln og x = _ from (by unfold wreF; rw [if_neg c_3, if_neg c_18, if_pos c_33]))]; exact hob_6), (fr_tr (fr_tr fr_rf (fr_mo hr4 (by simp))) (fr_mo hr6 (by simp)))⟩)
      ·
        refine gz_aload_n dX8_writeRelation_36 rfl rfl ?_
        refine sgX8_9 hte_6 rfl dX8_writeRelation_37 ?_
        refine gz_bipush (v := 61) dX8_writeRelation_40 (by decide) ?_
        refine scX8_41 (k_X9_put (x := 61) hot_6 hob_6 hn) hot_6 ⟨(Nat.le_of_ble_eq_true rfl), (Nat.le_of_ble_eq_true rfl)⟩ ⟨(Nat.le_of_ble_eq_true rfl), (Nat.le_of_ble_eq_true rfl)⟩ rfl rfl (Nat.le_of_ble_eq_true rfl) dX8_writeRelation_42 ?_
        rintro f7 ⟨hot_7, hob_7, hr7⟩
        have hte_7 : f7 te = some (.inr (8, [.ref ot])) := hr7 _ _ hte_6 (by simp only [List.mem_cons, List.not_mem_nil, or_false, not_or]; exact ⟨cne hte_6 hot_6 (by simp), cne hte_6 hob_6 (by simp)⟩)
        exact gz_vret rfl dX8_writeRelation_45 (Nat.le_of_ble_eq_true rfl) (Nat.le_of_ble_eq_true rfl) (⟨rfl, (by rw [(show wreF n ln og x = _ from (by unfold wreF; rw [if_neg c_3, if_neg c_18, if_neg c_33]))]; exact hot_7), (by rw [(show wreF n ln og x = _ from (by unfold wreF; rw [if_neg c_3, if_neg c_18, if_neg c_33]))]; exact hob_7), (fr_tr (fr_tr (fr_tr fr_rf (fr_mo hr4 (by simp))) (fr_mo hr6 (by simp))) (fr_mo hr7 (by simp)))⟩)

def wnu2L (n : Nat) (x : Int32) : Nat → (Int32) → (Int32) → (Int32) → (Nat → Int32) → (Int32) × (Nat → Int32)
  | 0, _, _, ln, og => (ln, og)
  | k + 1, i, u, ln, og => (if 5 ≤ (i : Int32) then (ln, (og)) else (if (u : Int32) ≤ 0 then (ln, (og)) else (wnu2L n x k (i + 1) (u / 10) (tpL ln n) ((tpG ln n og (48 + ((x / u) - (x / u) / 10 * 10)))))))
set_option maxHeartbeats 4000000 in
set_option maxRecDepth 100000 in
theorem l_X8_writeNumber2 {l : Launch} {D : va_G} {cy : Nat → ClassId} {b mc ms : Nat} {f : gMem} {Po : Option Value → gMem → Prop} {te ot ob n : Nat}   {x : Int32}  (hn : n < 2 ^ 31) : ∀ (k : Nat) (i : Int32) (u : Int32) (ln : Int32) (og : Nat → Int32) (fm : gMem), fr [ot, ob] f fm → (fm te = some (.inr (8, [.ref ot]))) → (fm ot = some (.inr (9, [.ref ob, .int ln]))) → (fm ob = some (.inl (cy 1, n, .inl (og)))) → (0 ≤ i.toInt ∧ i.toInt ≤ 5 ∧ i.toInt + (k : Int) = 6) → (∀ (f2 : gMem), f2 ot = some (.inr (9, [.ref ob, .int (wnu2L n x k i u ln og).1])) → f2 ob = some (.inl (cy 1, n, .inl ((wnu2L n x k i u ln og).2))) → fr [ot, ob] f f2 → Po none f2) → gG l (gRm 1 mc ms) (gQf D b Po mc ms) gTt D cy b cX8_writeNumber 4 none RX8 "writeNumber" 0 0 fm 34 [(3, .int i), (2, .int u), (0, .ref te), (1, .int x)] [] := by
  intro k
  induction k with
  | zero =>
    intro i u ln og fm hfr hte hot hob hk hq
    exfalso; omega
  | succ k ih =>
    intro i u ln og fm hfr hte hot hob hk hq
    refine gz_iload_n dX8_writeNumber_34 rfl rfl ?_
    refine gz_iconst (v := 5) dX8_writeNumber_35 (by decide) ?_
    refine gz_icmp_ge (tgt := 70) dX8_writeNumber_36 (by decide) (fun c_36 => ?_) (fun c_36 => ?_)
    ·
      exact gz_vret rfl dX8_writeNumber_70 (Nat.zero_le _) (Nat.zero_le _) ((by rw [wnu2L, if_pos c_36] at hq; exact hq _ hot hob hfr))
    ·
      refine gz_iload_n dX8_writeNumber_39 rfl rfl ?_
      refine gz_if_le (tgt := 70) dX8_writeNumber_40 (by decide) (fun c_40 => ?_) (fun c_40 => ?_)
      ·
        exact gz_vret rfl dX8_writeNumber_70 (Nat.zero_le _) (Nat.zero_le _) ((by rw [wnu2L, if_neg c_36, if_pos c_40] at hq; exact hq _ hot hob hfr))
      ·
        refine gz_aload_n dX8_writeNumber_43 rfl rfl ?_
        refine sgX8_9 hte rfl dX8_writeNumber_44 ?_
        refine gz_bipush (v := 48) dX8_writeNumber_47 (by decide) ?_
        refine gz_iload_n dX8_writeNumber_49 rfl rfl ?_
        refine gz_iload_n dX8_writeNumber_50 rfl rfl ?_
        refine gz_idiv dX8_writeNumber_51 (by intro e; rw [e] at c_40; exact c_40 (by decide)) ?_
        refine gz_bipush (v := 10) dX8_writeNumber_52 (by decide) ?_
        refine gz_irem dX8_writeNumber_54 (by decide) ?_
        refine gz_iadd dX8_writeNumber_55 ?_
        refine scX8_41 (k_X9_put (x := (48 + ((x / u) - (x / u) / 10 * 10))) hot hob hn) hot ⟨(Nat.le_of_ble_eq_true rfl), (Nat.le_of_ble_eq_true rfl)⟩ ⟨(Nat.zero_le _), (Nat.zero_le _)⟩ rfl rfl (Nat.le_of_ble_eq_true rfl) dX8_writeNumber_56 ?_
        rintro f1 ⟨hot_1, hob_1, hr1⟩
        have hte_1 : f1 te = some (.inr (8, [.ref ot])) := hr1 _ _ hte (by simp only [List.mem_cons, List.not_mem_nil, or_false, not_or]; exact ⟨cne hte hot (by simp), cne hte hob (by simp)⟩)
        refine gz_iload_n dX8_writeNumber_59 rfl rfl ?_
        refine gz_bipush (v := 10) dX8_writeNumber_60 (by decide) ?_
        refine gz_idiv dX8_writeNumber_62 (by decide) ?_
        refine gz_istore_n (lv' := [(2, .int (u / 10)), (3, .int i), (0, .ref te), (1, .int x)]) dX8_writeNumber_63 rfl (by decide) rfl ?_
        refine gz_iinc (v := (i + 1)) (lv' := [(3, .int (i + 1)), (2, .int (u / 10)), (0, .ref te), (1, .int x)]) dX8_writeNumber_64 rfl rfl (by decide) rfl ?_
        refine gz_goto (tgt := 34) dX8_writeNumber_67 (by decide) ?_
        refine gz_sub (lv' := [(3, .int (i + 1)), (2, .int (u / 10)), (0, .ref te), (1, .int x)]) (by simp [List.lookup]) ?_
        exact ih (i + 1) (u / 10) (tpL ln n) ((tpG ln n og (48 + ((x / u) - (x / u) / 10 * 10)))) _ (fr_tr hfr (fr_mo hr1 (by simp))) hte_1 hot_1 hob_1 (by have e13 : (13 : Int32).toInt = 13 := rfl; have e0 : (0 : Int32).toInt = 0 := rfl; have e2 : (2 : Int32).toInt = 2 := rfl; have e1 : (1 : Int32).toInt = 1 := rfl; have e6 : (6 : Int32).toInt = 6 := rfl; have em2 : (-2 : Int32).toInt = -2 := rfl; have e5 : (5 : Int32).toInt = 5 := rfl; simp only [fl_le] at c_36; have hx := T_add (rfl : i.toInt = i.toInt) e1 (by omega); omega) (by rw [wnu2L, if_neg c_36, if_neg c_40] at hq; exact hq)

def wnu1L (n : Nat) (x : Int32) : Nat → (Int32) → (Int32) → (Int32) → (Nat → Int32) → (Int32) × (Nat → Int32)
  | 0, _, _, ln, og => (ln, og)
  | k + 1, i, u, ln, og => (if 5 ≤ (i : Int32) then (wnu2L n x 6 0 u ln og) else (if (u : Int32) ≤ 0 then (wnu2L n x 6 0 u ln og) else (if ((x / u) : Int32) < 10 then (wnu2L n x 6 0 u ln og) else (wnu1L n x k (i + 1) (u * 10) ln (og)))))
set_option maxHeartbeats 4000000 in
set_option maxRecDepth 100000 in
theorem l_X8_writeNumber {l : Launch} {D : va_G} {cy : Nat → ClassId} {b mc ms : Nat} {f : gMem} {Po : Option Value → gMem → Prop} {te ot ob n : Nat}   {x : Int32}  (hn : n < 2 ^ 31) : ∀ (k : Nat) (i : Int32) (u : Int32) (ln : Int32) (og : Nat → Int32) (fm : gMem), fr [ot, ob] f fm → (fm te = some (.inr (8, [.ref ot]))) → (fm ot = some (.inr (9, [.ref ob, .int ln]))) → (fm ob = some (.inl (cy 1, n, .inl (og)))) → (0 ≤ i.toInt ∧ i.toInt ≤ 5 ∧ i.toInt + (k : Int) = 6) → (∀ (f2 : gMem), f2 ot = some (.inr (9, [.ref ob, .int (wnu1L n x k i u ln og).1])) → f2 ob = some (.inl (cy 1, n, .inl ((wnu1L n x k i u ln og).2))) → fr [ot, ob] f f2 → Po none f2) → gG l (gRm 1 mc ms) (gQf D b Po mc ms) gTt D cy b cX8_writeNumber 4 none RX8 "writeNumber" 0 0 fm 4 [(3, .int i), (2, .int u), (0, .ref te), (1, .int x)] [] := by
  intro k
  induction k with
  | zero =>
    intro i u ln og fm hfr hte hot hob hk hq
    exfalso; omega
  | succ k ih =>
    intro i u ln og fm hfr hte hot hob hk hq
    refine gz_iload_n dX8_writeNumber_4 rfl rfl ?_
    refine gz_iconst (v := 5) dX8_writeNumber_5 (by decide) ?_
    refine gz_icmp_ge (tgt := 32) dX8_writeNumber_6 (by decide) (fun c_6 => ?_) (fun c_6 => ?_)
    ·
      refine gz_iconst (v := 0) dX8_writeNumber_32 (by decide) ?_
      refine gz_istore_n (lv' := [(3, .int 0), (2, .int u), (0, .ref te), (1, .int x)]) dX8_writeNumber_33 rfl (by decide) rfl ?_
      refine gz_sub (lv' := [(3, .int 0), (2, .int u), (0, .ref te), (1, .int x)]) (by simp [List.lookup]) ?_
      exact l_X8_writeNumber2 hn 6 0 u ln og _ hfr hte hot hob ⟨by decide, by decide, by decide⟩ (fun f2 z0 z1 zf => by rw [wnu1L, if_pos c_6] at hq; exact hq f2 z0 z1 zf)
    ·
      refine gz_iload_n dX8_writeNumber_9 rfl rfl ?_
      refine gz_if_le (tgt := 32) dX8_writeNumber_10 (by decide) (fun c_10 => ?_) (fun c_10 => ?_)
      ·
        refine gz_iconst (v := 0) dX8_writeNumber_32 (by decide) ?_
        refine gz_istore_n (lv' := [(3, .int 0), (2, .int u), (0, .ref te), (1, .int x)]) dX8_writeNumber_33 rfl (by decide) rfl ?_
        refine gz_sub (lv' := [(3, .int 0), (2, .int u), (0, .ref te), (1, .int x)]) (by simp [List.lookup]) ?_
        exact l_X8_writeNumber2 hn 6 0 u ln og _ hfr hte hot hob ⟨by decide, by decide, by decide⟩ (fun f2 z0 z1 zf => by rw [wnu1L, if_neg c_6, if_pos c_10] at hq; exact hq f2 z0 z1 zf)
      ·
        refine gz_iload_n dX8_writeNumber_13 rfl rfl ?_
        refine gz_iload_n dX8_writeNumber_14 rfl rfl ?_
        refine gz_idiv dX8_writeNumber_15 (by intro e; rw [e] at c_10; exact c_10 (by decide)) ?_
        refine gz_bipush (v := 10) dX8_writeNumber_16 (by decide) ?_
        refine gz_icmp_lt (tgt := 32) dX8_writeNumber_18 (by decide) (fun c_18 => ?_) (fun c_18 => ?_)
        ·
          refine gz_iconst (v := 0) dX8_writeNumber_32 (by decide) ?_
          refine gz_istore_n (lv' := [(3, .int 0), (2, .int u), (0, .ref te), (1, .int x)]) dX8_writeNumber_33 rfl (by decide) rfl ?_
          refine gz_sub (lv' := [(3, .int 0), (2, .int u), (0, .ref te), (1, .int x)]) (by simp [List.lookup]) ?_
          exact l_X8_writeNumber2 hn 6 0 u ln og _ hfr hte hot hob ⟨by decide, by decide, by decide⟩ (fun f2 z0 z1 zf => by rw [wnu1L, if_neg c_6, if_neg c_10, if_pos c_18] at hq; exact hq f2 z0 z1 zf)
        ·
          refine gz_iload_n dX8_writeNumber_21 rfl rfl ?_
          refine gz_bipush (v := 10) dX8_writeNumber_22 (by decide) ?_
          refine gz_imul dX8_writeNumber_24 ?_
          refine gz_istore_n (lv' := [(2, .int (u * 10)), (3, .int i), (0, .ref te), (1, .int x)]) dX8_writeNumber_25 rfl (by decide) rfl ?_
          refine gz_iinc (v := (i + 1)) (lv' := [(3, .int (i + 1)), (2, .int (u * 10)), (0, .ref te), (1, .int x)]) dX8_writeNumber_26 rfl rfl (by decide) rfl ?_
          refine gz_goto (tgt := 4) dX8_writeNumber_29 (by decide) ?_
          refine gz_sub (lv' := [(3, .int (i + 1)), (2, .int (u * 10)), (0, .ref te), (1, .int x)]) (by simp [List.lookup]) ?_
          exact ih (i + 1) (u * 10) ln (og) _ hfr hte hot hob (by have e13 : (13 : Int32).toInt = 13 := rfl; have e0 : (0 : Int32).toInt = 0 := rfl; have e2 : (2 : Int32).toInt = 2 := rfl; have e1 : (1 : Int32).toInt = 1 := rfl; have e6 : (6 : Int32).toInt = 6 := rfl; have em2 : (-2 : Int32).toInt = -2 := rfl; have e5 : (5 : Int32).toInt = 5 := rfl; simp only [fl_le] at c_6; have hx := T_add (rfl : i.toInt = i.toInt) e1 (by omega); omega) (by rw [wnu1L, if_neg c_6, if_neg c_10, if_neg c_18] at hq; exact hq)

def wnuF (n : Nat) (ln : Int32) (og : Nat → Int32) (x : Int32) : (Int32) × (Nat → Int32) := (wnu1L n x 5 1 1 ln (og))
set_option maxHeartbeats 4000000 in
set_option maxRecDepth 100000 in
theorem k_X8_writeNumber {l : Launch} {D : va_G} {cy : Nat → ClassId} {b : Nat} {f : gMem} {te ot ob n : Nat} {ln : Int32} {og : Nat → Int32} {x : Int32} (hte : f te = some (.inr (8, [.ref ot]))) (hot : f ot = some (.inr (9, [.ref ob, .int ln]))) (hob : f ob = some (.inl (cy 1, n, .inl (og)))) (hn : n < 2 ^ 31) : gC l D cy b yX8_writeNumber cX8_writeNumber 4 none 1 0 0 [.ref te, .int x] f (pV fun f2 => f2 ot = some (.inr (9, [.ref ob, .int (wnuF n ln og x).1])) ∧ f2 ob = some (.inl (cy 1, n, .inl ((wnuF n ln og x).2))) ∧ fr [ot, ob] f f2) := by
  refine gC_of (by decide) (Nat.le_of_ble_eq_true rfl) ?_
  show gG l _ _ _ D cy b cX8_writeNumber 4 _ RX8 "writeNumber" 0 0 f 0 [(0, .ref te), (1, .int x)] []
  refine gz_iconst (v := 1) dX8_writeNumber_0 (by decide) ?_
  refine gz_istore_n (lv' := [(2, .int 1), (0, .ref te), (1, .int x)]) dX8_writeNumber_1 rfl (by decide) rfl ?_
  refine gz_iconst (v := 1) dX8_writeNumber_2 (by decide) ?_
  refine gz_istore_n (lv' := [(3, .int 1), (2, .int 1), (0, .ref te), (1, .int x)]) dX8_writeNumber_3 rfl (by decide) rfl ?_
  exact l_X8_writeNumber hn 5 1 1 ln (og) _ fr_rf hte hot hob (⟨by decide, by decide, by decide⟩) (fun  f2 z0 z1 zf => ⟨rfl, (by rw [(show wnuF n ln og x = _ from (by unfold wnuF; rfl))]; exact z0), (by rw [(show wnuF n ln og x = _ from (by unfold wnuF; rfl))]; exact z1), zf⟩)

def wvaF (n : Nat) (ln : Int32) (og : Nat → Int32) (x : Int32) : (Int32) × (Nat → Int32) := (lett (gapF n ln og) fun x1 => (if (x : Int32) < 0 then (if (x : Int32) = (-1) then ((tpL (tpL (tpL x1.1 n) n) n), ((tpG (tpL (tpL x1.1 n) n) n (tpG (tpL x1.1 n) n (tpG x1.1 n x1.2 100) 97) 121))) else ((tpL (tpL x1.1 n) n), ((tpG (tpL x1.1 n) n (tpG x1.1 n x1.2 115) (46 - x))))) else (lett (wnuF n x1.1 x1.2 x) fun x2 => (x2.1, (x2.2)))))
set_option maxHeartbeats 4000000 in
set_option maxRecDepth 100000 in
theorem k_X8_writeValue {l : Launch} {D : va_G} {cy : Nat → ClassId} {b : Nat} {f : gMem} {te ot ob n : Nat} {ln : Int32} {og : Nat → Int32} {x : Int32} (hte : f te = some (.inr (8, [.ref ot]))) (hot : f ot = some (.inr (9, [.ref ob, .int ln]))) (hob : f ob = some (.inl (cy 1, n, .inl (og)))) (hn : n < 2 ^ 31) : gC l D cy b yX8_writeValue cX8_writeValue 2 none 2 0 0 [.ref te, .int x] f (pV fun f2 => f2 ot = some (.inr (9, [.ref ob, .int (wvaF n ln og x).1])) ∧ f2 ob = some (.inl (cy 1, n, .inl ((wvaF n ln og x).2))) ∧ fr [ot, ob] f f2) := by
  refine gC_of (by decide) (Nat.le_of_ble_eq_true rfl) ?_
  show gG l _ _ _ D cy b cX8_writeValue 2 _ RX8 "writeValue" 0 0 f 0 [(0, .ref te), (1, .int x)] []
  refine gz_aload_n dX8_writeValue_0 rfl rfl ?_
  obtain ⟨x1, hx1⟩ : ∃ x0, (gapF n ln og) = x0 := ⟨_, rfl⟩
  refine scX8_50 (k_X8_gap hte hot hob hn) hte ⟨(Nat.le_of_ble_eq_true rfl), (Nat.le_of_ble_eq_true rfl)⟩ ⟨(Nat.le_of_ble_eq_true rfl), (Nat.le_of_ble_eq_true rfl)⟩ rfl rfl (Nat.le_of_ble_eq_true rfl) dX8_writeValue_1 ?_
  rintro f1 ⟨hot_1, hob_1, hr1⟩; rw [hx1] at hot_1 hob_1
  have hte_1 : f1 te = some (.inr (8, [.ref ot])) := hr1 _ _ hte (by simp only [List.mem_cons, List.not_mem_nil, or_false, not_or]; exact ⟨cne hte hot (by simp), cne hte hob (by simp)⟩)
  refine gz_iload_n dX8_writeValue_4 rfl rfl ?_
  refine gz_if_lt (tgt := 16) dX8_writeValue_5 (by decide) (fun c_5 => ?_) (fun c_5 => ?_)
  ·
    refine gz_iload_n dX8_writeValue_16 rfl rfl ?_
    refine gz_iconst (v := (-1)) dX8_writeValue_17 (by decide) ?_
    refine gz_icmp_ne (tgt := 51) dX8_writeValue_18 (by decide) (fun c_18 => ?_) (fun c_18 => ?_)
    ·
      refine gz_aload_n dX8_writeValue_51 rfl rfl ?_
      refine sgX8_9 hte_1 rfl dX8_writeValue_52 ?_
      refine gz_bipush (v := 115) dX8_writeValue_55 (by decide) ?_
      refine scX8_41 (k_X9_put (x := 115) hot_1 hob_1 hn) hot_1 ⟨(Nat.le_of_ble_eq_true rfl), (Nat.le_of_ble_eq_true rfl)⟩ ⟨(Nat.le_of_ble_eq_true rfl), (Nat.le_of_ble_eq_true rfl)⟩ rfl rfl (Nat.le_of_ble_eq_true rfl) dX8_writeValue_57 ?_
      rintro f2 ⟨hot_2, hob_2, hr2⟩
      have hte_2 : f2 te = some (.inr (8, [.ref ot])) := hr2 _ _ hte_1 (by simp only [List.mem_cons, List.not_mem_nil, or_false, not_or]; exact ⟨cne hte_1 hot_1 (by simp), cne hte_1 hob_1 (by simp)⟩)
      refine gz_aload_n dX8_writeValue_60 rfl rfl ?_
      refine sgX8_9 hte_2 rfl dX8_writeValue_61 ?_
      refine gz_bipush (v := 46) dX8_writeValue_64 (by decide) ?_
      refine gz_iload_n dX8_writeValue_66 rfl rfl ?_
      refine gz_isub dX8_writeValue_67 ?_
      refine scX8_41 (k_X9_put (x := (46 - x)) hot_2 hob_2 hn) hot_2 ⟨(Nat.le_of_ble_eq_true rfl), (Nat.le_of_ble_eq_true rfl)⟩ ⟨(Nat.le_of_ble_eq_true rfl), (Nat.le_of_ble_eq_true rfl)⟩ rfl rfl (Nat.le_of_ble_eq_true rfl) dX8_writeValue_68 ?_
      rintro f3 ⟨hot_3, hob_3, hr3⟩
      have hte_3 : f3 te = some (.inr (8, [.ref ot])) := hr3 _ _ hte_2 (by simp only [List.mem_cons, List.not_mem_nil, or_false, not_or]; exact ⟨cne hte_2 hot_2 (by simp), cne hte_2 hob_2 (by simp)⟩)
      exact gz_vret rfl dX8_writeValue_71 (Nat.le_of_ble_eq_true rfl) (Nat.le_of_ble_eq_true rfl) (⟨rfl, (by rw [(show wvaF n ln og x = _ from (by unfold wvaF; rw [lett_eq hx1, if_pos c_5, if_neg c_18]))]; exact hot_3), (by rw [(show wvaF n ln og x = _ from (by unfold wvaF; rw [lett_eq hx1, if_pos c_5, if_neg c_18]))]; exact hob_3), (fr_tr (fr_tr (fr_tr fr_rf (fr_mo hr1 (by simp))) (fr_mo hr2 (by simp))) (fr_mo hr3 (by simp)))⟩)
    ·
      refine gz_aload_n dX8_writeValue_21 rfl rfl ?_
      refine sgX8_9 hte_1 rfl dX8_writeValue_22 ?_
      refine gz_bipush (v := 100) dX8_writeValue_25 (by decide) ?_
      refine scX8_41 (k_X9_put (x := 100) hot_1 hob_1 hn) hot_1 ⟨(Nat.le_of_ble_eq_true rfl), (Nat.le_of_ble_eq_true rfl)⟩ ⟨(Nat.le_of_ble_eq_true rfl), (Nat.le_of_ble_eq_true rfl)⟩ rfl rfl (Nat.le_of_ble_eq_true rfl) dX8_writeValue_27 ?_
      rintro f4 ⟨hot_4, hob_4, hr4⟩
      have hte_4 : f4 te = some (.inr (8, [.ref ot])) := hr4 _ _ hte_1 (by simp only [List.mem_cons, List.not_mem_nil, or_false, not_or]; exact ⟨cne hte_1 hot_1 (by simp), cne hte_1 hob_1 (by simp)⟩)
      refine gz_aload_n dX8_writeValue_30 rfl rfl ?_
      refine sgX8_9 hte_4 rfl dX8_writeValue_31 ?_
      refine gz_bipush (v := 97) dX8_writeValue_34 (by decide) ?_
      refine scX8_41 (k_X9_put (x := 97) hot_4 hob_4 hn) hot_4 ⟨(Nat.le_of_ble_eq_true rfl), (Nat.le_of_ble_eq_true rfl)⟩ ⟨(Nat.le_of_ble_eq_true rfl), (Nat.le_of_ble_eq_true rfl)⟩ rfl rfl (Nat.le_of_ble_eq_true rfl) dX8_writeValue_36 ?_
      rintro f5 ⟨hot_5, hob_5, hr5⟩
      have hte_5 : f5 te = some (.inr (8, [.ref ot])) := hr5 _ _ hte_4 (by simp only [List.mem_cons, List.not_mem_nil, or_false, not_or]; exact ⟨cne hte_4 hot_4 (by simp), cne hte_4 hob_4 (by simp)⟩)
      refine gz_aload_n dX8_writeValue_39 rfl rfl ?_
      refine sgX8_9 hte_5 rfl dX8_writeValue_40 ?_
      refine gz_bipush (v := 121) dX8_writeValue_43 (by decide) ?_
      refine scX8_41 (k_X9_put (x := 121) hot_5 hob_5 hn) hot_5 ⟨(Nat.le_of_ble_eq_true rfl), (Nat.le_of_ble_eq_true rfl)⟩ ⟨(Nat.le_of_ble_eq_true rfl), (Nat.le_of_ble_eq_true rfl)⟩ rfl rfl (Nat.le_of_ble_eq_true rfl) dX8_writeValue_45 ?_
      rintro f6 ⟨hot_6, hob_6, hr6⟩
      have hte_6 : f6 te = some (.inr (8, [.ref ot])) := hr6 _ _ hte_5 (by simp only [List.mem_cons, List.not_mem_nil, or_false, not_or]; exact ⟨cne hte_5 hot_5 (by simp), cne hte_5 hob_5 (by simp)⟩)
      refine gz_goto (tgt := 71) dX8_writeValue_48 (by decide) ?_
      exact gz_vret rfl dX8_writeValue_71 (Nat.le_of_ble_eq_true rfl) (Nat.le_of_ble_eq_true rfl) (⟨rfl, (by rw [(show wvaF n ln og x = _ from (by unfold wvaF; rw [lett_eq hx1, if_pos c_5, if_pos c_18]))]; exact hot_6), (by rw [(show wvaF n ln og x = _ from (by unfold wvaF; rw [lett_eq hx1, if_pos c_5, if_pos c_18]))]; exact hob_6), (fr_tr (fr_tr (fr_tr (fr_tr fr_rf (fr_mo hr1 (by simp))) (fr_mo hr4 (by simp))) (fr_mo hr5 (by simp))) (fr_mo hr6 (by simp)))⟩)
  ·
    refine gz_aload_n dX8_writeValue_8 rfl rfl ?_
    refine gz_iload_n dX8_writeValue_9 rfl rfl ?_
    obtain ⟨x2, hx2⟩ : ∃ x0, (wnuF n x1.1 x1.2 x) = x0 := ⟨_, rfl⟩
    refine scX8_53 (k_X8_writeNumber (x := x) hte_1 hot_1 hob_1 hn) hte_1 ⟨(Nat.le_of_ble_eq_true rfl), (Nat.le_of_ble_eq_true rfl)⟩ ⟨(Nat.le_of_ble_eq_true rfl), (Nat.le_of_ble_eq_true rfl)⟩ rfl rfl (Nat.le_of_ble_eq_true rfl) dX8_writeValue_10 ?_
    rintro f7 ⟨hot_7, hob_7, hr7⟩; rw [hx2] at hot_7 hob_7
    have hte_7 : f7 te = some (.inr (8, [.ref ot])) := hr7 _ _ hte_1 (by simp only [List.mem_cons, List.not_mem_nil, or_false, not_or]; exact ⟨cne hte_1 hot_1 (by simp), cne hte_1 hob_1 (by simp)⟩)
    refine gz_goto (tgt := 71) dX8_writeValue_13 (by decide) ?_
    exact gz_vret rfl dX8_writeValue_71 (Nat.le_of_ble_eq_true rfl) (Nat.le_of_ble_eq_true rfl) (⟨rfl, (by rw [(show wvaF n ln og x = _ from (by unfold wvaF; rw [lett_eq hx1, if_neg c_5, lett_eq hx2]))]; exact hot_7), (by rw [(show wvaF n ln og x = _ from (by unfold wvaF; rw [lett_eq hx1, if_neg c_5, lett_eq hx2]))]; exact hob_7), (fr_tr (fr_tr fr_rf (fr_mo hr1 (by simp))) (fr_mo hr7 (by simp)))⟩)

def wsmL (n n2 : Nat) (h : Nat → Int32) (v x y : Int32)  : Nat → (Int32) → (Int32) → (Nat → Int32) → (Int32) × (Nat → Int32)
  | 0, _, ln, og => (ln, og)
  | k + 1, i, ln, og => (if y ≤ (i : Int32) then (ln, (og)) else (if v ≤ (i : Int32) then (ln, (og)) else (if (i : Int32) ≤ x then (lett (wvaF n ln og (valF n2 h v i)) fun x1 => (wsmL n n2 h v x y k (i + 1) x1.1 (x1.2))) else (lett (wvaF n (tpL ln n) (tpG ln n og (jntF n2 h v i)) (valF n2 h v i)) fun x2 => (wsmL n n2 h v x y k (i + 1) x2.1 (x2.2))))))
set_option maxHeartbeats 4000000 in
set_option maxRecDepth 100000 in
theorem l_X8_writeSum {l : Launch} {D : va_G} {cy : Nat → ClassId} {b mc ms : Nat} {f : gMem} {Po : Option Value → gMem → Prop} {te ot ob n p c1 c2 n2 : Nat} {s v : Int32} {h : Nat → Int32} {x y : Int32}  (hn : n < 2 ^ 31) (hv : 0 ≤ v.toInt ∧ 2 * v.toInt ≤ n2 ∧ n2 ≤ 80) (hne : ob ≠ c2) : ∀ (k : Nat) (i : Int32) (ln : Int32) (og : Nat → Int32) (fm : gMem), fr [ot, ob] f fm → (fm te = some (.inr (8, [.ref ot]))) → (fm ot = some (.inr (9, [.ref ob, .int ln]))) → (fm ob = some (.inl (cy 1, n, .inl (og)))) → (fm p = some (.inr (2, [.ref c1, .ref c2, .int s, .int v]))) → (fm c2 = some (.inl (cy 0, n2, .inl (h)))) → (0 ≤ i.toInt ∧ 0 < k ∧ (i.toInt < v.toInt → v.toInt - i.toInt < (k : Int))) → (∀ (f2 : gMem), f2 ot = some (.inr (9, [.ref ob, .int (wsmL n n2 h v x y k i ln og).1])) → f2 ob = some (.inl (cy 1, n, .inl ((wsmL n n2 h v x y k i ln og).2))) → fr [ot, ob] f f2 → Po none f2) → gG l (gRm 3 mc ms) (gQf D b Po mc ms) gTt D cy b cX8_writeSum 5 none RX8 "writeSum" 0 0 fm 7 [(4, .int i), (0, .ref te), (1, .ref p), (2, .int x), (3, .int y)] [] := by
  intro k
  induction k with
  | zero =>
    intro i ln og fm hfr hte hot hob hp h2 hk hq
    exfalso; omega
  | succ k ih =>
    intro i ln og fm hfr hte hot hob hp h2 hk hq
    refine gz_iload dX8_writeSum_7 rfl ?_
    refine gz_iload_n dX8_writeSum_9 rfl rfl ?_
    refine gz_icmp_ge (tgt := 57) dX8_writeSum_10 (by decide) (fun c_10 => ?_) (fun c_10 => ?_)
    ·
      exact gz_vret rfl dX8_writeSum_57 (Nat.zero_le _) (Nat.zero_le _) ((by rw [wsmL, if_pos c_10] at hq; exact hq _ hot hob hfr))
    ·
      refine gz_iload dX8_writeSum_13 rfl ?_
      refine gz_aload_n dX8_writeSum_15 rfl rfl ?_
      refine scX8_90 (k_X2_valueCount hp) hp ⟨(Nat.le_of_ble_eq_true rfl), (Nat.le_of_ble_eq_true rfl)⟩ ⟨(Nat.zero_le _), (Nat.zero_le _)⟩ rfl rfl (Nat.le_of_ble_eq_true rfl) dX8_writeSum_16 ?_
      intro v9 f9 z9; rw [z9.1, z9.2]
      refine gz_icmp_ge (tgt := 57) dX8_writeSum_19 (by decide) (fun c_19 => ?_) (fun c_19 => ?_)
      ·
        exact gz_vret rfl dX8_writeSum_57 (Nat.zero_le _) (Nat.zero_le _) ((by rw [wsmL, if_neg c_10, if_pos c_19] at hq; exact hq _ hot hob hfr))
      ·
        refine gz_iload dX8_writeSum_22 rfl ?_
        refine gz_iload_n dX8_writeSum_24 rfl rfl ?_
        refine gz_icmp_le (tgt := 41) dX8_writeSum_25 (by decide) (fun c_25 => ?_) (fun c_25 => ?_)
        ·
          refine gz_aload_n dX8_writeSum_41 rfl rfl ?_
          refine gz_aload_n dX8_writeSum_42 rfl rfl ?_
          refine gz_iload dX8_writeSum_43 rfl ?_
          refine scX8_96 (k_X2_value (i := i) hp h2 hv) hp ⟨(Nat.le_of_ble_eq_true rfl), (Nat.le_of_ble_eq_true rfl)⟩ ⟨(Nat.zero_le _), (Nat.zero_le _)⟩ rfl rfl (Nat.le_of_ble_eq_true rfl) dX8_writeSum_45 ?_
          intro v9 f9 z9; rw [z9.1, z9.2]
          obtain ⟨x1, hx1⟩ : ∃ x0, (wvaF n ln og (valF n2 h v i)) = x0 := ⟨_, rfl⟩
          refine scX8_99 (k_X8_writeValue (x := (valF n2 h v i)) hte hot hob hn) hte ⟨(Nat.le_of_ble_eq_true rfl), (Nat.le_of_ble_eq_true rfl)⟩ ⟨(Nat.zero_le _), (Nat.zero_le _)⟩ rfl rfl (Nat.le_of_ble_eq_true rfl) dX8_writeSum_48 ?_
          rintro f1 ⟨hot_1, hob_1, hr1⟩; rw [hx1] at hot_1 hob_1
          have hte_1 : f1 te = some (.inr (8, [.ref ot])) := hr1 _ _ hte (by simp only [List.mem_cons, List.not_mem_nil, or_false, not_or]; exact ⟨cne hte hot (by simp), cne hte hob (by simp)⟩)
          have hp_1 : f1 p = some (.inr (2, [.ref c1, .ref c2, .int s, .int v])) := hr1 _ _ hp (by simp only [List.mem_cons, List.not_mem_nil, or_false, not_or]; exact ⟨cne hp hot (by simp), cne hp hob (by simp)⟩)
          have h2_1 : f1 c2 = some (.inl (cy 0, n2, .inl (h))) := hr1 _ _ h2 (by simp only [List.mem_cons, List.not_mem_nil, or_false, not_or]; exact ⟨cne h2 hot (by simp), Ne.symm (hne)⟩)
          refine gz_iinc (v := (i + 1)) (lv' := [(4, .int (i + 1)), (0, .ref te), (1, .ref p), (2, .int x), (3, .int y)]) dX8_writeSum_51 rfl rfl (by decide) rfl ?_
          refine gz_goto (tgt := 7) dX8_writeSum_54 (by decide) ?_
          refine gz_sub (lv' := [(4, .int (i + 1)), (0, .ref te), (1, .ref p), (2, .int x), (3, .int y)]) (by simp [List.lookup]) ?_
          exact ih (i + 1) x1.1 (x1.2) _ (fr_tr hfr (fr_mo hr1 (by simp))) hte_1 hot_1 hob_1 hp_1 h2_1 (by have e13 : (13 : Int32).toInt = 13 := rfl; have e0 : (0 : Int32).toInt = 0 := rfl; have e2 : (2 : Int32).toInt = 2 := rfl; have e1 : (1 : Int32).toInt = 1 := rfl; have e6 : (6 : Int32).toInt = 6 := rfl; have em2 : (-2 : Int32).toInt = -2 := rfl; have e5 : (5 : Int32).toInt = 5 := rfl; simp only [fl_le] at c_19; have hx := T_add (rfl : i.toInt = i.toInt) e1 (by omega); omega) (by rw [wsmL, if_neg c_10, if_neg c_19, if_pos c_25, lett_eq hx1] at hq; exact hq)
        ·
          refine gz_aload_n dX8_writeSum_28 rfl rfl ?_
          refine sgX8_9 hte rfl dX8_writeSum_29 ?_
          refine gz_aload_n dX8_writeSum_32 rfl rfl ?_
          refine gz_iload dX8_writeSum_33 rfl ?_
          refine scX8_93 (k_X2_joint (i := i) hp h2 hv) hp ⟨(Nat.le_of_ble_eq_true rfl), (Nat.le_of_ble_eq_true rfl)⟩ ⟨(Nat.zero_le _), (Nat.zero_le _)⟩ rfl rfl (Nat.le_of_ble_eq_true rfl) dX8_writeSum_35 ?_
          intro v9 f9 z9; rw [z9.1, z9.2]
          refine scX8_41 (k_X9_put (x := (jntF n2 h v i)) hot hob hn) hot ⟨(Nat.le_of_ble_eq_true rfl), (Nat.le_of_ble_eq_true rfl)⟩ ⟨(Nat.zero_le _), (Nat.zero_le _)⟩ rfl rfl (Nat.le_of_ble_eq_true rfl) dX8_writeSum_38 ?_
          rintro f2 ⟨hot_2, hob_2, hr2⟩
          have hte_2 : f2 te = some (.inr (8, [.ref ot])) := hr2 _ _ hte (by simp only [List.mem_cons, List.not_mem_nil, or_false, not_or]; exact ⟨cne hte hot (by simp), cne hte hob (by simp)⟩)
          have hp_2 : f2 p = some (.inr (2, [.ref c1, .ref c2, .int s, .int v])) := hr2 _ _ hp (by simp only [List.mem_cons, List.not_mem_nil, or_false, not_or]; exact ⟨cne hp hot (by simp), cne hp hob (by simp)⟩)
          have h2_2 : f2 c2 = some (.inl (cy 0, n2, .inl (h))) := hr2 _ _ h2 (by simp only [List.mem_cons, List.not_mem_nil, or_false, not_or]; exact ⟨cne h2 hot (by simp), Ne.symm (hne)⟩)
          refine gz_aload_n dX8_writeSum_41 rfl rfl ?_
          refine gz_aload_n dX8_writeSum_42 rfl rfl ?_
          refine gz_iload dX8_writeSum_43 rfl ?_
          refine scX8_96 (k_X2_value (i := i) hp_2 h2_2 hv) hp_2 ⟨(Nat.le_of_ble_eq_true rfl), (Nat.le_of_ble_eq_true rfl)⟩ ⟨(Nat.zero_le _), (Nat.zero_le _)⟩ rfl rfl (Nat.le_of_ble_eq_true rfl) dX8_writeSum_45 ?_
          intro v9 f9 z9; rw [z9.1, z9.2]
          obtain ⟨x2, hx2⟩ : ∃ x0, (wvaF n (tpL ln n) (tpG ln n og (jntF n2 h v i)) (valF n2 h v i)) = x0 := ⟨_, rfl⟩
          refine scX8_99 (k_X8_writeValue (x := (valF n2 h v i)) hte_2 hot_2 hob_2 hn) hte_2 ⟨(Nat.le_of_ble_eq_true rfl), (Nat.le_of_ble_eq_true rfl)⟩ ⟨(Nat.zero_le _), (Nat.zero_le _)⟩ rfl rfl (Nat.le_of_ble_eq_true rfl) dX8_writeSum_48 ?_
          rintro f3 ⟨hot_3, hob_3, hr3⟩; rw [hx2] at hot_3 hob_3
          have hte_3 : f3 te = some (.inr (8, [.ref ot])) := hr3 _ _ hte_2 (by simp only [List.mem_cons, List.not_mem_nil, or_false, not_or]; exact ⟨cne hte_2 hot_2 (by simp), cne hte_2 hob_2 (by simp)⟩)
          have hp_3 : f3 p = some (.inr (2, [.ref c1, .ref c2, .int s, .int v])) := hr3 _ _ hp_2 (by simp only [List.mem_cons, List.not_mem_nil, or_false, not_or]; exact ⟨cne hp_2 hot_2 (by simp), cne hp_2 hob_2 (by simp)⟩)
          have h2_3 : f3 c2 = some (.inl (cy 0, n2, .inl (h))) := hr3 _ _ h2_2 (by simp only [List.mem_cons, List.not_mem_nil, or_false, not_or]; exact ⟨cne h2_2 hot_2 (by simp), Ne.symm (hne)⟩)
          refine gz_iinc (v := (i + 1)) (lv' := [(4, .int (i + 1)), (0, .ref te), (1, .ref p), (2, .int x), (3, .int y)]) dX8_writeSum_51 rfl rfl (by decide) rfl ?_
          refine gz_goto (tgt := 7) dX8_writeSum_54 (by decide) ?_
          refine gz_sub (lv' := [(4, .int (i + 1)), (0, .ref te), (1, .ref p), (2, .int x), (3, .int y)]) (by simp [List.lookup]) ?_
          exact ih (i + 1) x2.1 (x2.2) _ (fr_tr (fr_tr hfr (fr_mo hr2 (by simp))) (fr_mo hr3 (by simp))) hte_3 hot_3 hob_3 hp_3 h2_3 (by have e13 : (13 : Int32).toInt = 13 := rfl; have e0 : (0 : Int32).toInt = 0 := rfl; have e2 : (2 : Int32).toInt = 2 := rfl; have e1 : (1 : Int32).toInt = 1 := rfl; have e6 : (6 : Int32).toInt = 6 := rfl; have em2 : (-2 : Int32).toInt = -2 := rfl; have e5 : (5 : Int32).toInt = 5 := rfl; simp only [fl_le] at c_19; have hx := T_add (rfl : i.toInt = i.toInt) e1 (by omega); omega) (by rw [wsmL, if_neg c_10, if_neg c_19, if_neg c_25, lett_eq hx2] at hq; exact hq)

def wsmF (n : Nat) (ln : Int32) (og : Nat → Int32) (n2 : Nat) (h : Nat → Int32) (v x y : Int32)  : (Int32) × (Nat → Int32) := (wsmL n n2 h v x y 41 (if x < 0 then 0 else x) ln (og))
set_option maxHeartbeats 4000000 in
set_option maxRecDepth 100000 in
theorem k_X8_writeSum {l : Launch} {D : va_G} {cy : Nat → ClassId} {b : Nat} {f : gMem} {te ot ob n p c1 c2 n2 : Nat} {ln s v : Int32} {og h : Nat → Int32} {x y : Int32} (hte : f te = some (.inr (8, [.ref ot]))) (hot : f ot = some (.inr (9, [.ref ob, .int ln]))) (hob : f ob = some (.inl (cy 1, n, .inl (og)))) (hp : f p = some (.inr (2, [.ref c1, .ref c2, .int s, .int v]))) (h2 : f c2 = some (.inl (cy 0, n2, .inl (h)))) (hn : n < 2 ^ 31) (hv : 0 ≤ v.toInt ∧ 2 * v.toInt ≤ n2 ∧ n2 ≤ 80) (hne : ob ≠ c2) : gC l D cy b yX8_writeSum cX8_writeSum 5 none 3 0 0 [.ref te, .ref p, .int x, .int y] f (pV fun f2 => f2 ot = some (.inr (9, [.ref ob, .int (wsmF n ln og n2 h v x y).1])) ∧ f2 ob = some (.inl (cy 1, n, .inl ((wsmF n ln og n2 h v x y).2))) ∧ fr [ot, ob] f f2) := by
  refine gC_of (by decide) (Nat.le_of_ble_eq_true rfl) ?_
  show gG l _ _ _ D cy b cX8_writeSum 5 _ RX8 "writeSum" 0 0 f 0 [(0, .ref te), (1, .ref p), (2, .int x), (3, .int y)] []
  refine gz_iload_n dX8_writeSum_0 rfl rfl ?_
  refine gz_iconst (v := 0) dX8_writeSum_1 (by decide) ?_
  refine scX8_85 (Nat.le_of_ble_eq_true rfl) (Nat.le_of_ble_eq_true rfl) (Nat.le_of_ble_eq_true rfl) (Nat.le_of_ble_eq_true rfl) (Nat.le_of_ble_eq_true rfl) dX8_writeSum_2 ?_
  refine gz_istore (lv' := [(4, .int (if x < 0 then 0 else x)), (0, .ref te), (1, .ref p), (2, .int x), (3, .int y)]) dX8_writeSum_5 (by decide) rfl ?_
  exact l_X8_writeSum hn hv hne 41 (if x < 0 then 0 else x) ln (og) _ fr_rf hte hot hob hp h2 (⟨max0, by decide, fun _ => by have := @max0 x; omega⟩) (fun  f2 z0 z1 zf => ⟨rfl, (by rw [(show wsmF n ln og n2 h v x y = _ from (by unfold wsmF; rfl))]; exact z0), (by rw [(show wsmF n ln og n2 h v x y = _ from (by unfold wsmF; rfl))]; exact z1), zf⟩)

def wheF (n : Nat) (ln : Int32) (og : Nat → Int32) (n1 n2 : Nat) (g h : Nat → Int32) (s v x y : Int32)  : (Int32) × (Nat → Int32) := (if ((hnuF y) : Int32) = 0 then (if ((hsuF y) : Int32) = 0 then (if ((htsF y) : Int32) = 0 then (if ((hsuF y) : Int32) = 0 then (ln, (og)) else ((tpL ln n), ((tpG ln n og 58)))) else (lett (wreF n ln og (fldF n1 g s x 8)) fun x1 => (lett (wsmF n x1.1 x1.2 n2 h v (fldF n1 g s x 6) (fldF n1 g s x 7)) fun x2 => (if ((hsuF y) : Int32) = 0 then (x2.1, (x2.2)) else ((tpL x2.1 n), ((tpG x2.1 n x2.2 58))))))) else (lett (wsmF n ln og n2 h v (fldF n1 g s x 5) (fldF n1 g s x 6)) fun x3 => (if ((htsF y) : Int32) = 0 then (if ((hsuF y) : Int32) = 0 then (x3.1, (x3.2)) else ((tpL x3.1 n), ((tpG x3.1 n x3.2 58)))) else (lett (wreF n x3.1 x3.2 (fldF n1 g s x 8)) fun x4 => (lett (wsmF n x4.1 x4.2 n2 h v (fldF n1 g s x 6) (fldF n1 g s x 7)) fun x5 => (if ((hsuF y) : Int32) = 0 then (x5.1, (x5.2)) else ((tpL x5.1 n), ((tpG x5.1 n x5.2 58))))))))) else (lett (gapF n ln og) fun x6 => (lett (wnuF n x6.1 x6.2 (fldF n1 g s x 2)) fun x7 => (if ((hsuF y) : Int32) = 0 then (if ((htsF y) : Int32) = 0 then (if ((hsuF y) : Int32) = 0 then (x7.1, (x7.2)) else ((tpL x7.1 n), ((tpG x7.1 n x7.2 58)))) else (lett (wreF n x7.1 x7.2 (fldF n1 g s x 8)) fun x8 => (lett (wsmF n x8.1 x8.2 n2 h v (fldF n1 g s x 6) (fldF n1 g s x 7)) fun x9 => (if ((hsuF y) : Int32) = 0 then (x9.1, (x9.2)) else ((tpL x9.1 n), ((tpG x9.1 n x9.2 58))))))) else (lett (wsmF n x7.1 x7.2 n2 h v (fldF n1 g s x 5) (fldF n1 g s x 6)) fun x10 => (if ((htsF y) : Int32) = 0 then (if ((hsuF y) : Int32) = 0 then (x10.1, (x10.2)) else ((tpL x10.1 n), ((tpG x10.1 n x10.2 58)))) else (lett (wreF n x10.1 x10.2 (fldF n1 g s x 8)) fun x11 => (lett (wsmF n x11.1 x11.2 n2 h v (fldF n1 g s x 6) (fldF n1 g s x 7)) fun x12 => (if ((hsuF y) : Int32) = 0 then (x12.1, (x12.2)) else ((tpL x12.1 n), ((tpG x12.1 n x12.2 58))))))))))))
set_option maxHeartbeats 4000000 in
set_option maxRecDepth 100000 in
theorem k_X8_writeHead {l : Launch} {D : va_G} {cy : Nat → ClassId} {b : Nat} {f : gMem} {te ot ob n p c1 c2 n1 n2 : Nat} {ln s v : Int32} {og g h : Nat → Int32} {x y : Int32} (hte : f te = some (.inr (8, [.ref ot]))) (hot : f ot = some (.inr (9, [.ref ob, .int ln]))) (hob : f ob = some (.inl (cy 1, n, .inl (og)))) (hp : f p = some (.inr (2, [.ref c1, .ref c2, .int s, .int v]))) (h1 : f c1 = some (.inl (cy 0, n1, .inl (g)))) (h2 : f c2 = some (.inl (cy 0, n2, .inl (h)))) (hn : n < 2 ^ 31) (hs : 0 ≤ s.toInt ∧ 13 * s.toInt ≤ n1 ∧ n1 ≤ 520) (hv : 0 ≤ v.toInt ∧ 2 * v.toInt ≤ n2 ∧ n2 ≤ 80) (hne : ob ≠ c1 ∧ ob ≠ c2) : gC l D cy b yX8_writeHead cX8_writeHead 5 none 4 0 0 [.ref te, .ref p, .int x, .int y] f (pV fun f2 => f2 ot = some (.inr (9, [.ref ob, .int (wheF n ln og n1 n2 g h s v x y).1])) ∧ f2 ob = some (.inl (cy 1, n, .inl ((wheF n ln og n1 n2 g h s v x y).2))) ∧ fr [ot, ob] f f2) := by
  refine gC_of (by decide) (Nat.le_of_ble_eq_true rfl) ?_
  show gG l _ _ _ D cy b cX8_writeHead 5 _ RX8 "writeHead" 0 0 f 0 [(0, .ref te), (1, .ref p), (2, .int x), (3, .int y)] []
  refine gz_aload_n dX8_writeHead_0 rfl rfl ?_
  refine gz_iload_n dX8_writeHead_1 rfl rfl ?_
  refine gz_bipush (v := 6) dX8_writeHead_2 (by decide) ?_
  refine scX8_25 (k_X2_field (w := x) (k := 6) hp h1 hs) hp ⟨(Nat.le_of_ble_eq_true rfl), (Nat.le_of_ble_eq_true rfl)⟩ ⟨(Nat.le_of_ble_eq_true rfl), (Nat.le_of_ble_eq_true rfl)⟩ rfl rfl (Nat.le_of_ble_eq_true rfl) dX8_writeHead_4 ?_
  intro v9 f9 z9; rw [z9.1, z9.2]
  refine gz_istore (lv' := [(4, .int (fldF n1 g s x 6)), (0, .ref te), (1, .ref p), (2, .int x), (3, .int y)]) dX8_writeHead_7 (by decide) rfl ?_
  refine gz_iload_n dX8_writeHead_9 rfl rfl ?_
  refine scX8_47 (k_X11_hasNumber (x := y)) ⟨(Nat.le_of_ble_eq_true rfl), (Nat.le_of_ble_eq_true rfl)⟩ ⟨(Nat.le_of_ble_eq_true rfl), (Nat.le_of_ble_eq_true rfl)⟩ rfl rfl (Nat.le_of_ble_eq_true rfl) dX8_writeHead_10 ?_
  intro v9 f9 z9; rw [z9.1, z9.2]
  refine gz_if_eq (tgt := 30) dX8_writeHead_13 (by decide) (fun c_13 => ?_) (fun c_13 => ?_)
  ·
    refine gz_iload_n dX8_writeHead_30 rfl rfl ?_
    refine scX8_56 (k_X11_hasSum (x := y)) ⟨(Nat.le_of_ble_eq_true rfl), (Nat.le_of_ble_eq_true rfl)⟩ ⟨(Nat.le_of_ble_eq_true rfl), (Nat.le_of_ble_eq_true rfl)⟩ rfl rfl (Nat.le_of_ble_eq_true rfl) dX8_writeHead_31 ?_
    intro v9 f9 z9; rw [z9.1, z9.2]
    refine gz_if_eq (tgt := 50) dX8_writeHead_34 (by decide) (fun c_34 => ?_) (fun c_34 => ?_)
    ·
      refine gz_iload_n dX8_writeHead_50 rfl rfl ?_
      refine scX8_62 (k_X11_hasTest (x := y)) ⟨(Nat.le_of_ble_eq_true rfl), (Nat.le_of_ble_eq_true rfl)⟩ ⟨(Nat.le_of_ble_eq_true rfl), (Nat.le_of_ble_eq_true rfl)⟩ rfl rfl (Nat.le_of_ble_eq_true rfl) dX8_writeHead_51 ?_
      intro v9 f9 z9; rw [z9.1, z9.2]
      refine gz_if_eq (tgt := 82) dX8_writeHead_54 (by decide) (fun c_54 => ?_) (fun c_54 => ?_)
      ·
        refine gz_iload_n dX8_writeHead_82 rfl rfl ?_
        refine scX8_56 (k_X11_hasSum (x := y)) ⟨(Nat.le_of_ble_eq_true rfl), (Nat.le_of_ble_eq_true rfl)⟩ ⟨(Nat.le_of_ble_eq_true rfl), (Nat.le_of_ble_eq_true rfl)⟩ rfl rfl (Nat.le_of_ble_eq_true rfl) dX8_writeHead_83 ?_
        intro v9 f9 z9; rw [z9.1, z9.2]
        refine gz_if_eq (tgt := 98) dX8_writeHead_86 (by decide) (fun c_86 => ?_) (fun c_86 => ?_)
        ·
          exact gz_vret rfl dX8_writeHead_98 (Nat.le_of_ble_eq_true rfl) (Nat.le_of_ble_eq_true rfl) (⟨rfl, (by rw [(show wheF n ln og n1 n2 g h s v x y = _ from (by unfold wheF; rw [if_pos c_13, if_pos c_34, if_pos c_54, if_pos c_86]))]; exact hot), (by rw [(show wheF n ln og n1 n2 g h s v x y = _ from (by unfold wheF; rw [if_pos c_13, if_pos c_34, if_pos c_54, if_pos c_86]))]; exact hob), fr_rf⟩)
        ·
          refine gz_aload_n dX8_writeHead_89 rfl rfl ?_
          refine sgX8_9 hte rfl dX8_writeHead_90 ?_
          refine gz_bipush (v := 58) dX8_writeHead_93 (by decide) ?_
          refine scX8_41 (k_X9_put (x := 58) hot hob hn) hot ⟨(Nat.le_of_ble_eq_true rfl), (Nat.le_of_ble_eq_true rfl)⟩ ⟨(Nat.le_of_ble_eq_true rfl), (Nat.le_of_ble_eq_true rfl)⟩ rfl rfl (Nat.le_of_ble_eq_true rfl) dX8_writeHead_95 ?_
          rintro f1 ⟨hot_1, hob_1, hr1⟩
          have hte_1 : f1 te = some (.inr (8, [.ref ot])) := hr1 _ _ hte (by simp only [List.mem_cons, List.not_mem_nil, or_false, not_or]; exact ⟨cne hte hot (by simp), cne hte hob (by simp)⟩)
          have hp_1 : f1 p = some (.inr (2, [.ref c1, .ref c2, .int s, .int v])) := hr1 _ _ hp (by simp only [List.mem_cons, List.not_mem_nil, or_false, not_or]; exact ⟨cne hp hot (by simp), cne hp hob (by simp)⟩)
          have h1_1 : f1 c1 = some (.inl (cy 0, n1, .inl (g))) := hr1 _ _ h1 (by simp only [List.mem_cons, List.not_mem_nil, or_false, not_or]; exact ⟨cne h1 hot (by simp), Ne.symm (hne.1)⟩)
          have h2_1 : f1 c2 = some (.inl (cy 0, n2, .inl (h))) := hr1 _ _ h2 (by simp only [List.mem_cons, List.not_mem_nil, or_false, not_or]; exact ⟨cne h2 hot (by simp), Ne.symm (hne.2)⟩)
          exact gz_vret rfl dX8_writeHead_98 (Nat.le_of_ble_eq_true rfl) (Nat.le_of_ble_eq_true rfl) (⟨rfl, (by rw [(show wheF n ln og n1 n2 g h s v x y = _ from (by unfold wheF; rw [if_pos c_13, if_pos c_34, if_pos c_54, if_neg c_86]))]; exact hot_1), (by rw [(show wheF n ln og n1 n2 g h s v x y = _ from (by unfold wheF; rw [if_pos c_13, if_pos c_34, if_pos c_54, if_neg c_86]))]; exact hob_1), (fr_tr fr_rf (fr_mo hr1 (by simp)))⟩)
      ·
        refine gz_aload_n dX8_writeHead_57 rfl rfl ?_
        refine gz_aload_n dX8_writeHead_58 rfl rfl ?_
        refine gz_iload_n dX8_writeHead_59 rfl rfl ?_
        refine gz_bipush (v := 8) dX8_writeHead_60 (by decide) ?_
        refine scX8_25 (k_X2_field (w := x) (k := 8) hp h1 hs) hp ⟨(Nat.le_of_ble_eq_true rfl), (Nat.le_of_ble_eq_true rfl)⟩ ⟨(Nat.le_of_ble_eq_true rfl), (Nat.le_of_ble_eq_true rfl)⟩ rfl rfl (Nat.le_of_ble_eq_true rfl) dX8_writeHead_62 ?_
        intro v9 f9 z9; rw [z9.1, z9.2]
        obtain ⟨x1, hx1⟩ : ∃ x0, (wreF n ln og (fldF n1 g s x 8)) = x0 := ⟨_, rfl⟩
        refine scX8_65 (k_X8_writeRelation (x := (fldF n1 g s x 8)) hte hot hob hn) hte ⟨(Nat.le_of_ble_eq_true rfl), (Nat.le_of_ble_eq_true rfl)⟩ ⟨(Nat.le_of_ble_eq_true rfl), (Nat.le_of_ble_eq_true rfl)⟩ rfl rfl (Nat.le_of_ble_eq_true rfl) dX8_writeHead_65 ?_
        rintro f2 ⟨hot_2, hob_2, hr2⟩; rw [hx1] at hot_2 hob_2
        have hte_2 : f2 te = some (.inr (8, [.ref ot])) := hr2 _ _ hte (by simp only [List.mem_cons, List.not_mem_nil, or_false, not_or]; exact ⟨cne hte hot (by simp), cne hte hob (by simp)⟩)
        have hp_2 : f2 p = some (.inr (2, [.ref c1, .ref c2, .int s, .int v])) := hr2 _ _ hp (by simp only [List.mem_cons, List.not_mem_nil, or_false, not_or]; exact ⟨cne hp hot (by simp), cne hp hob (by simp)⟩)
        have h1_2 : f2 c1 = some (.inl (cy 0, n1, .inl (g))) := hr2 _ _ h1 (by simp only [List.mem_cons, List.not_mem_nil, or_false, not_or]; exact ⟨cne h1 hot (by simp), Ne.symm (hne.1)⟩)
        have h2_2 : f2 c2 = some (.inl (cy 0, n2, .inl (h))) := hr2 _ _ h2 (by simp only [List.mem_cons, List.not_mem_nil, or_false, not_or]; exact ⟨cne h2 hot (by simp), Ne.symm (hne.2)⟩)
        refine gz_aload_n dX8_writeHead_68 rfl rfl ?_
        refine gz_aload_n dX8_writeHead_69 rfl rfl ?_
        refine gz_iload dX8_writeHead_70 rfl ?_
        refine gz_aload_n dX8_writeHead_72 rfl rfl ?_
        refine gz_iload_n dX8_writeHead_73 rfl rfl ?_
        refine gz_bipush (v := 7) dX8_writeHead_74 (by decide) ?_
        refine scX8_25 (k_X2_field (w := x) (k := 7) hp_2 h1_2 hs) hp_2 ⟨(Nat.le_of_ble_eq_true rfl), (Nat.le_of_ble_eq_true rfl)⟩ ⟨(Nat.le_of_ble_eq_true rfl), (Nat.le_of_ble_eq_true rfl)⟩ rfl rfl (Nat.le_of_ble_eq_true rfl) dX8_writeHead_76 ?_
        intro v9 f9 z9; rw [z9.1, z9.2]
        obtain ⟨x2, hx2⟩ : ∃ x0, (wsmF n x1.1 x1.2 n2 h v (fldF n1 g s x 6) (fldF n1 g s x 7)) = x0 := ⟨_, rfl⟩
        refine scX8_59 (k_X8_writeSum (x := (fldF n1 g s x 6)) (y := (fldF n1 g s x 7)) hte_2 hot_2 hob_2 hp_2 h2_2 hn hv hne.2) hte_2 ⟨(Nat.le_of_ble_eq_true rfl), (Nat.le_of_ble_eq_true rfl)⟩ ⟨(Nat.le_of_ble_eq_true rfl), (Nat.le_of_ble_eq_true rfl)⟩ rfl rfl (Nat.le_of_ble_eq_true rfl) dX8_writeHead_79 ?_
        rintro f3 ⟨hot_3, hob_3, hr3⟩; rw [hx2] at hot_3 hob_3
        have hte_3 : f3 te = some (.inr (8, [.ref ot])) := hr3 _ _ hte_2 (by simp only [List.mem_cons, List.not_mem_nil, or_false, not_or]; exact ⟨cne hte_2 hot_2 (by simp), cne hte_2 hob_2 (by simp)⟩)
        have hp_3 : f3 p = some (.inr (2, [.ref c1, .ref c2, .int s, .int v])) := hr3 _ _ hp_2 (by simp only [List.mem_cons, List.not_mem_nil, or_false, not_or]; exact ⟨cne hp_2 hot_2 (by simp), cne hp_2 hob_2 (by simp)⟩)
        have h1_3 : f3 c1 = some (.inl (cy 0, n1, .inl (g))) := hr3 _ _ h1_2 (by simp only [List.mem_cons, List.not_mem_nil, or_false, not_or]; exact ⟨cne h1_2 hot_2 (by simp), Ne.symm (hne.1)⟩)
        have h2_3 : f3 c2 = some (.inl (cy 0, n2, .inl (h))) := hr3 _ _ h2_2 (by simp only [List.mem_cons, List.not_mem_nil, or_false, not_or]; exact ⟨cne h2_2 hot_2 (by simp), Ne.symm (hne.2)⟩)
        refine gz_iload_n dX8_writeHead_82 rfl rfl ?_
        refine scX8_56 (k_X11_hasSum (x := y)) ⟨(Nat.le_of_ble_eq_true rfl), (Nat.le_of_ble_eq_true rfl)⟩ ⟨(Nat.le_of_ble_eq_true rfl), (Nat.le_of_ble_eq_true rfl)⟩ rfl rfl (Nat.le_of_ble_eq_true rfl) dX8_writeHead_83 ?_
        intro v9 f9 z9; rw [z9.1, z9.2]
        refine gz_if_eq (tgt := 98) dX8_writeHead_86 (by decide) (fun c_86 => ?_) (fun c_86 => ?_)
        ·
          exact gz_vret rfl dX8_writeHead_98 (Nat.le_of_ble_eq_true rfl) (Nat.le_of_ble_eq_true rfl) (⟨rfl, (by rw [(show wheF n ln og n1 n2 g h s v x y = _ from (by unfold wheF; rw [if_pos c_13, if_pos c_34, if_neg c_54, lett_eq hx1, lett_eq hx2, if_pos c_86]))]; exact hot_3), (by rw [(show wheF n ln og n1 n2 g h s v x y = _ from (by unfold wheF; rw [if_pos c_13, if_pos c_34, if_neg c_54, lett_eq hx1, lett_eq hx2, if_pos c_86]))]; exact hob_3), (fr_tr (fr_tr fr_rf (fr_mo hr2 (by simp))) (fr_mo hr3 (by simp)))⟩)
        ·
          refine gz_aload_n dX8_writeHead_89 rfl rfl ?_
          refine sgX8_9 hte_3 rfl dX8_writeHead_90 ?_
          refine gz_bipush (v := 58) dX8_writeHead_93 (by decide) ?_
          refine scX8_41 (k_X9_put (x := 58) hot_3 hob_3 hn) hot_3 ⟨(Nat.le_of_ble_eq_true rfl), (Nat.le_of_ble_eq_true rfl)⟩ ⟨(Nat.le_of_ble_eq_true rfl), (Nat.le_of_ble_eq_true rfl)⟩ rfl rfl (Nat.le_of_ble_eq_true rfl) dX8_writeHead_95 ?_
          rintro f4 ⟨hot_4, hob_4, hr4⟩
          have hte_4 : f4 te = some (.inr (8, [.ref ot])) := hr4 _ _ hte_3 (by simp only [List.mem_cons, List.not_mem_nil, or_false, not_or]; exact ⟨cne hte_3 hot_3 (by simp), cne hte_3 hob_3 (by simp)⟩)
          have hp_4 : f4 p = some (.inr (2, [.ref c1, .ref c2, .int s, .int v])) := hr4 _ _ hp_3 (by simp only [List.mem_cons, List.not_mem_nil, or_false, not_or]; exact ⟨cne hp_3 hot_3 (by simp), cne hp_3 hob_3 (by simp)⟩)
          have h1_4 : f4 c1 = some (.inl (cy 0, n1, .inl (g))) := hr4 _ _ h1_3 (by simp only [List.mem_cons, List.not_mem_nil, or_false, not_or]; exact ⟨cne h1_3 hot_3 (by simp), Ne.symm (hne.1)⟩)
          have h2_4 : f4 c2 = some (.inl (cy 0, n2, .inl (h))) := hr4 _ _ h2_3 (by simp only [List.mem_cons, List.not_mem_nil, or_false, not_or]; exact ⟨cne h2_3 hot_3 (by simp), Ne.symm (hne.2)⟩)
          exact gz_vret rfl dX8_writeHead_98 (Nat.le_of_ble_eq_true rfl) (Nat.le_of_ble_eq_true rfl) (⟨rfl, (by rw [(show wheF n ln og n1 n2 g h s v x y = _ from (by unfold wheF; rw [if_pos c_13, if_pos c_34, if_neg c_54, lett_eq hx1, lett_eq hx2, if_neg c_86]))]; exact hot_4), (by rw [(show wheF n ln og n1 n2 g h s v x y = _ from (by unfold wheF; rw [if_pos c_13, if_pos c_34, if_neg c_54, lett_eq hx1, lett_eq hx2, if_neg c_86]))]; exact hob_4), (fr_tr (fr_tr (fr_tr fr_rf (fr_mo hr2 (by simp))) (fr_mo hr3 (by simp))) (fr_mo hr4 (by simp)))⟩)
    ·
      refine gz_aload_n dX8_writeHead_37 rfl rfl ?_
      refine gz_aload_n dX8_writeHead_38 rfl rfl ?_
      refine gz_aload_n dX8_writeHead_39 rfl rfl ?_
      refine gz_iload_n dX8_writeHead_40 rfl rfl ?_
      refine gz_iconst (v := 5) dX8_writeHead_41 (by decide) ?_
      refine scX8_25 (k_X2_field (w := x) (k := 5) hp h1 hs) hp ⟨(Nat.le_of_ble_eq_true rfl), (Nat.le_of_ble_eq_true rfl)⟩ ⟨(Nat.le_of_ble_eq_true rfl), (Nat.le_of_ble_eq_true rfl)⟩ rfl rfl (Nat.le_of_ble_eq_true rfl) dX8_writeHead_42 ?_
      intro v9 f9 z9; rw [z9.1, z9.2]
      refine gz_iload dX8_writeHead_45 rfl ?_
      obtain ⟨x3, hx3⟩ : ∃ x0, (wsmF n ln og n2 h v (fldF n1 g s x 5) (fldF n1 g s x 6)) = x0 := ⟨_, rfl⟩
      refine scX8_59 (k_X8_writeSum (x := (fldF n1 g s x 5)) (y := (fldF n1 g s x 6)) hte hot hob hp h2 hn hv hne.2) hte ⟨(Nat.le_of_ble_eq_true rfl), (Nat.le_of_ble_eq_true rfl)⟩ ⟨(Nat.le_of_ble_eq_true rfl), (Nat.le_of_ble_eq_true rfl)⟩ rfl rfl (Nat.le_of_ble_eq_true rfl) dX8_writeHead_47 ?_
      rintro f5 ⟨hot_5, hob_5, hr5⟩; rw [hx3] at hot_5 hob_5
      have hte_5 : f5 te = some (.inr (8, [.ref ot])) := hr5 _ _ hte (by simp only [List.mem_cons, List.not_mem_nil, or_false, not_or]; exact ⟨cne hte hot (by simp), cne hte hob (by simp)⟩)
      have hp_5 : f5 p = some (.inr (2, [.ref c1, .ref c2, .int s, .int v])) := hr5 _ _ hp (by simp only [List.mem_cons, List.not_mem_nil, or_false, not_or]; exact ⟨cne hp hot (by simp), cne hp hob (by simp)⟩)
      have h1_5 : f5 c1 = some (.inl (cy 0, n1, .inl (g))) := hr5 _ _ h1 (by simp only [List.mem_cons, List.not_mem_nil, or_false, not_or]; exact ⟨cne h1 hot (by simp), Ne.symm (hne.1)⟩)
      have h2_5 : f5 c2 = some (.inl (cy 0, n2, .inl (h))) := hr5 _ _ h2 (by simp only [List.mem_cons, List.not_mem_nil, or_false, not_or]; exact ⟨cne h2 hot (by simp), Ne.symm (hne.2)⟩)
      refine gz_iload_n dX8_writeHead_50 rfl rfl ?_
      refine scX8_62 (k_X11_hasTest (x := y)) ⟨(Nat.le_of_ble_eq_true rfl), (Nat.le_of_ble_eq_true rfl)⟩ ⟨(Nat.le_of_ble_eq_true rfl), (Nat.le_of_ble_eq_true rfl)⟩ rfl rfl (Nat.le_of_ble_eq_true rfl) dX8_writeHead_51 ?_
      intro v9 f9 z9; rw [z9.1, z9.2]
      refine gz_if_eq (tgt := 82) dX8_writeHead_54 (by decide) (fun c_54 => ?_) (fun c_54 => ?_)
      ·
        refine gz_iload_n dX8_writeHead_82 rfl rfl ?_
        refine scX8_56 (k_X11_hasSum (x := y)) ⟨(Nat.le_of_ble_eq_true rfl), (Nat.le_of_ble_eq_true rfl)⟩ ⟨(Nat.le_of_ble_eq_true rfl), (Nat.le_of_ble_eq_true rfl)⟩ rfl rfl (Nat.le_of_ble_eq_true rfl) dX8_writeHead_83 ?_
        intro v9 f9 z9; rw [z9.1, z9.2]
        refine gz_if_eq (tgt := 98) dX8_writeHead_86 (by decide) (fun c_86 => ?_) (fun c_86 => ?_)
        ·
          exact gz_vret rfl dX8_writeHead_98 (Nat.le_of_ble_eq_true rfl) (Nat.le_of_ble_eq_true rfl) (⟨rfl, (by rw [(show wheF n ln og n1 n2 g h s v x y = _ from (by unfold wheF; rw [if_pos c_13, if_neg c_34, lett_eq hx3, if_pos c_54, if_pos c_86]))]; exact hot_5), (by rw [(show wheF n ln og n1 n2 g h s v x y = _ from (by unfold wheF; rw [if_pos c_13, if_neg c_34, lett_eq hx3, if_pos c_54, if_pos c_86]))]; exact hob_5), (fr_tr fr_rf (fr_mo hr5 (by simp)))⟩)
        ·
          refine gz_aload_n dX8_writeHead_89 rfl rfl ?_
          refine sgX8_9 hte_5 rfl dX8_writeHead_90 ?_
          refine gz_bipush (v := 58) dX8_writeHead_93 (by decide) ?_
          refine scX8_41 (k_X9_put (x := 58) hot_5 hob_5 hn) hot_5 ⟨(Nat.le_of_ble_eq_true rfl), (Nat.le_of_ble_eq_true rfl)⟩ ⟨(Nat.le_of_ble_eq_true rfl), (Nat.le_of_ble_eq_true rfl)⟩ rfl rfl (Nat.le_of_ble_eq_true rfl) dX8_writeHead_95 ?_
          rintro f6 ⟨hot_6, hob_6, hr6⟩
          have hte_6 : f6 te = some (.inr (8, [.ref ot])) := hr6 _ _ hte_5 (by simp only [List.mem_cons, List.not_mem_nil, or_false, not_or]; exact ⟨cne hte_5 hot_5 (by simp), cne hte_5 hob_5 (by simp)⟩)
          have hp_6 : f6 p = some (.inr (2, [.ref c1, .ref c2, .int s, .int v])) := hr6 _ _ hp_5 (by simp only [List.mem_cons, List.not_mem_nil, or_false, not_or]; exact ⟨cne hp_5 hot_5 (by simp), cne hp_5 hob_5 (by simp)⟩)
          have h1_6 : f6 c1 = some (.inl (cy 0, n1, .inl (g))) := hr6 _ _ h1_5 (by simp only [List.mem_cons, List.not_mem_nil, or_false, not_or]; exact ⟨cne h1_5 hot_5 (by simp), Ne.symm (hne.1)⟩)
          have h2_6 : f6 c2 = some (.inl (cy 0, n2, .inl (h))) := hr6 _ _ h2_5 (by simp only [List.mem_cons, List.not_mem_nil, or_false, not_or]; exact ⟨cne h2_5 hot_5 (by simp), Ne.symm (hne.2)⟩)
          exact gz_vret rfl dX8_writeHead_98 (Nat.le_of_ble_eq_true rfl) (Nat.le_of_ble_eq_true rfl) (⟨rfl, (by rw [(show wheF n ln og n1 n2 g h s v x y = _ from (by unfold wheF; rw [if_pos c_13, if_neg c_34, lett_eq hx3, if_pos c_54, if_neg c_86]))]; exact hot_6), (by rw [(show wheF n ln og n1 n2 g h s v x y = _ from (by unfold wheF; rw [if_pos c_13, if_neg c_34, lett_eq hx3, if_pos c_54, if_neg c_86]))]; exact hob_6), (fr_tr (fr_tr fr_rf (fr_mo hr5 (by simp))) (fr_mo hr6 (by simp)))⟩)
      ·
        refine gz_aload_n dX8_writeHead_57 rfl rfl ?_
        refine gz_aload_n dX8_writeHead_58 rfl rfl ?_
        refine gz_iload_n dX8_writeHead_59 rfl rfl ?_
        refine gz_bipush (v := 8) dX8_writeHead_60 (by decide) ?_
        refine scX8_25 (k_X2_field (w := x) (k := 8) hp_5 h1_5 hs) hp_5 ⟨(Nat.le_of_ble_eq_true rfl), (Nat.le_of_ble_eq_true rfl)⟩ ⟨(Nat.le_of_ble_eq_true rfl), (Nat.le_of_ble_eq_true rfl)⟩ rfl rfl (Nat.le_of_ble_eq_true rfl) dX8_writeHead_62 ?_
        intro v9 f9 z9; rw [z9.1, z9.2]
        obtain ⟨x4, hx4⟩ : ∃ x0, (wreF n x3.1 x3.2 (fldF n1 g s x 8)) = x0 := ⟨_, rfl⟩
        refine scX8_65 (k_X8_writeRelation (x := (fldF n1 g s x 8)) hte_5 hot_5 hob_5 hn) hte_5 ⟨(Nat.le_of_ble_eq_true rfl), (Nat.le_of_ble_eq_true rfl)⟩ ⟨(Nat.le_of_ble_eq_true rfl), (Nat.le_of_ble_eq_true rfl)⟩ rfl rfl (Nat.le_of_ble_eq_true rfl) dX8_writeHead_65 ?_
        rintro f7 ⟨hot_7, hob_7, hr7⟩; rw [hx4] at hot_7 hob_7
        have hte_7 : f7 te = some (.inr (8, [.ref ot])) := hr7 _ _ hte_5 (by simp only [List.mem_cons, List.not_mem_nil, or_false, not_or]; exact ⟨cne hte_5 hot_5 (by simp), cne hte_5 hob_5 (by simp)⟩)
        have hp_7 : f7 p = some (.inr (2, [.ref c1, .ref c2, .int s, .int v])) := hr7 _ _ hp_5 (by simp only [List.mem_cons, List.not_mem_nil, or_false, not_or]; exact ⟨cne hp_5 hot_5 (by simp), cne hp_5 hob_5 (by simp)⟩)
        have h1_7 : f7 c1 = some (.inl (cy 0, n1, .inl (g))) := hr7 _ _ h1_5 (by simp only [List.mem_cons, List.not_mem_nil, or_false, not_or]; exact ⟨cne h1_5 hot_5 (by simp), Ne.symm (hne.1)⟩)
        have h2_7 : f7 c2 = some (.inl (cy 0, n2, .inl (h))) := hr7 _ _ h2_5 (by simp only [List.mem_cons, List.not_mem_nil, or_false, not_or]; exact ⟨cne h2_5 hot_5 (by simp), Ne.symm (hne.2)⟩)
        refine gz_aload_n dX8_writeHead_68 rfl rfl ?_
        refine gz_aload_n dX8_writeHead_69 rfl rfl ?_
        refine gz_iload dX8_writeHead_70 rfl ?_
        refine gz_aload_n dX8_writeHead_72 rfl rfl ?_
        refine gz_iload_n dX8_writeHead_73 rfl rfl ?_
        refine gz_bipush (v := 7) dX8_writeHead_74 (by decide) ?_
        refine scX8_25 (k_X2_field (w := x) (k := 7) hp_7 h1_7 hs) hp_7 ⟨(Nat.le_of_ble_eq_true rfl), (Nat.le_of_ble_eq_true rfl)⟩ ⟨(Nat.le_of_ble_eq_true rfl), (Nat.le_of_ble_eq_true rfl)⟩ rfl rfl (Nat.le_of_ble_eq_true rfl) dX8_writeHead_76 ?_
        intro v9 f9 z9; rw [z9.1, z9.2]
        obtain ⟨x5, hx5⟩ : ∃ x0, (wsmF n x4.1 x4.2 n2 h v (fldF n1 g s x 6) (fldF n1 g s x 7)) = x0 := ⟨_, rfl⟩
        refine scX8_59 (k_X8_writeSum (x := (fldF n1 g s x 6)) (y := (fldF n1 g s x 7)) hte_7 hot_7 hob_7 hp_7 h2_7 hn hv hne.2) hte_7 ⟨(Nat.le_of_ble_eq_true rfl), (Nat.le_of_ble_eq_true rfl)⟩ ⟨(Nat.le_of_ble_eq_true rfl), (Nat.le_of_ble_eq_true rfl)⟩ rfl rfl (Nat.le_of_ble_eq_true rfl) dX8_writeHead_79 ?_
        rintro f8 ⟨hot_8, hob_8, hr8⟩; rw [hx5] at hot_8 hob_8
        have hte_8 : f8 te = some (.inr (8, [.ref ot])) := hr8 _ _ hte_7 (by simp only [List.mem_cons, List.not_mem_nil, or_false, not_or]; exact ⟨cne hte_7 hot_7 (by simp), cne hte_7 hob_7 (by simp)⟩)
        have hp_8 : f8 p = some (.inr (2, [.ref c1, .ref c2, .int s, .int v])) := hr8 _ _ hp_7 (by simp only [List.mem_cons, List.not_mem_nil, or_false, not_or]; exact ⟨cne hp_7 hot_7 (by simp), cne hp_7 hob_7 (by simp)⟩)
        have h1_8 : f8 c1 = some (.inl (cy 0, n1, .inl (g))) := hr8 _ _ h1_7 (by simp only [List.mem_cons, List.not_mem_nil, or_false, not_or]; exact ⟨cne h1_7 hot_7 (by simp), Ne.symm (hne.1)⟩)
        have h2_8 : f8 c2 = some (.inl (cy 0, n2, .inl (h))) := hr8 _ _ h2_7 (by simp only [List.mem_cons, List.not_mem_nil, or_false, not_or]; exact ⟨cne h2_7 hot_7 (by simp), Ne.symm (hne.2)⟩)
        refine gz_iload_n dX8_writeHead_82 rfl rfl ?_
        refine scX8_56 (k_X11_hasSum (x := y)) ⟨(Nat.le_of_ble_eq_true rfl), (Nat.le_of_ble_eq_true rfl)⟩ ⟨(Nat.le_of_ble_eq_true rfl), (Nat.le_of_ble_eq_true rfl)⟩ rfl rfl (Nat.le_of_ble_eq_true rfl) dX8_writeHead_83 ?_
        intro v9 f9 z9; rw [z9.1, z9.2]
        refine gz_if_eq (tgt := 98) dX8_writeHead_86 (by decide) (fun c_86 => ?_) (fun c_86 => ?_)
        ·
          exact gz_vret rfl dX8_writeHead_98 (Nat.le_of_ble_eq_true rfl) (Nat.le_of_ble_eq_true rfl) (⟨rfl, (by rw [(show wheF n ln og n1 n2 g h s v x y = _ from (by unfold wheF; rw [if_pos c_13, if_neg c_34, lett_eq hx3, if_neg c_54, lett_eq hx4, lett_eq hx5, if_pos c_86]))]; exact hot_8), (by rw [(show wheF n ln og n1 n2 g h s v x y = _ from (by unfold wheF; rw [if_pos c_13, if_neg c_34, lett_eq hx3, if_neg c_54, lett_eq hx4, lett_eq hx5, if_pos c_86]))]; exact hob_8), (fr_tr (fr_tr (fr_tr fr_rf (fr_mo hr5 (by simp))) (fr_mo hr7 (by simp))) (fr_mo hr8 (by simp)))⟩)
        ·
          refine gz_aload_n dX8_writeHead_89 rfl rfl ?_
          refine sgX8_9 hte_8 rfl dX8_writeHead_90 ?_
          refine gz_bipush (v := 58) dX8_writeHead_93 (by decide) ?_
          refine scX8_41 (k_X9_put (x := 58) hot_8 hob_8 hn) hot_8 ⟨(Nat.le_of_ble_eq_true rfl), (Nat.le_of_ble_eq_true rfl)⟩ ⟨(Nat.le_of_ble_eq_true rfl), (Nat.le_of_ble_eq_true rfl)⟩ rfl rfl (Nat.le_of_ble_eq_true rfl) dX8_writeHead_95 ?_
          rintro f9 ⟨hot_9, hob_9, hr9⟩
          have hte_9 : f9 te = some (.inr (8, [.ref ot])) := hr9 _ _ hte_8 (by simp only [List.mem_cons, List.not_mem_nil, or_false, not_or]; exact ⟨cne hte_8 hot_8 (by simp), cne hte_8 hob_8 (by simp)⟩)
          have hp_9 : f9 p = some (.inr (2, [.ref c1, .ref c2, .int s, .int v])) := hr9 _ _ hp_8 (by simp only [List.mem_cons, List.not_mem_nil, or_false, not_or]; exact ⟨cne hp_8 hot_8 (by simp), cne hp_8 hob_8 (by simp)⟩)
          have h1_9 : f9 c1 = some (.inl (cy 0, n1, .inl (g))) := hr9 _ _ h1_8 (by simp only [List.mem_cons, List.not_mem_nil, or_false, not_or]; exact ⟨cne h1_8 hot_8 (by simp), Ne.symm (hne.1)⟩)
          have h2_9 : f9 c2 = some (.inl (cy 0, n2, .inl (h))) := hr9 _ _ h2_8 (by simp only [List.mem_cons, List.not_mem_nil, or_false, not_or]; exact ⟨cne h2_8 hot_8 (by simp), Ne.symm (hne.2)⟩)
          exact gz_vret rfl dX8_writeHead_98 (Nat.le_of_ble_eq_true rfl) (Nat.le_of_ble_eq_true rfl) (⟨rfl, (by rw [(show wheF n ln og n1 n2 g h s v x y = _ from (by unfold wheF; rw [if_pos c_13, if_neg c_34, lett_eq hx3, if_neg c_54, lett_eq hx4, lett_eq hx5, if_neg c_86]))]; exact hot_9), (by rw [(show wheF n ln og n1 n2 g h s v x y = _ from (by unfold wheF; rw [if_pos c_13, if_neg c_34, lett_eq hx3, if_neg c_54, lett_eq hx4, lett_eq hx5, if_neg c_86]))]; exact hob_9), (fr_tr (fr_tr (fr_tr (fr_tr fr_rf (fr_mo hr5 (by simp))) (fr_mo hr7 (by simp))) (fr_mo hr8 (by simp))) (fr_mo hr9 (by simp)))⟩)
  ·
    refine gz_aload_n dX8_writeHead_16 rfl rfl ?_
    obtain ⟨x6, hx6⟩ : ∃ x0, (gapF n ln og) = x0 := ⟨_, rfl⟩
    refine scX8_50 (k_X8_gap hte hot hob hn) hte ⟨(Nat.le_of_ble_eq_true rfl), (Nat.le_of_ble_eq_true rfl)⟩ ⟨(Nat.le_of_ble_eq_true rfl), (Nat.le_of_ble_eq_true rfl)⟩ rfl rfl (Nat.le_of_ble_eq_true rfl) dX8_writeHead_17 ?_
    rintro f10 ⟨hot_10, hob_10, hr10⟩; rw [hx6] at hot_10 hob_10
    have hte_10 : f10 te = some (.inr (8, [.ref ot])) := hr10 _ _ hte (by simp only [List.mem_cons, List.not_mem_nil, or_false, not_or]; exact ⟨cne hte hot (by simp), cne hte hob (by simp)⟩)
    have hp_10 : f10 p = some (.inr (2, [.ref c1, .ref c2, .int s, .int v])) := hr10 _ _ hp (by simp only [List.mem_cons, List.not_mem_nil, or_false, not_or]; exact ⟨cne hp hot (by simp), cne hp hob (by simp)⟩)
    have h1_10 : f10 c1 = some (.inl (cy 0, n1, .inl (g))) := hr10 _ _ h1 (by simp only [List.mem_cons, List.not_mem_nil, or_false, not_or]; exact ⟨cne h1 hot (by simp), Ne.symm (hne.1)⟩)
    have h2_10 : f10 c2 = some (.inl (cy 0, n2, .inl (h))) := hr10 _ _ h2 (by simp only [List.mem_cons, List.not_mem_nil, or_false, not_or]; exact ⟨cne h2 hot (by simp), Ne.symm (hne.2)⟩)
    refine gz_aload_n dX8_writeHead_20 rfl rfl ?_
    refine gz_aload_n dX8_writeHead_21 rfl rfl ?_
    refine gz_iload_n dX8_writeHead_22 rfl rfl ?_
    refine gz_iconst (v := 2) dX8_writeHead_23 (by decide) ?_
    refine scX8_25 (k_X2_field (w := x) (k := 2) hp_10 h1_10 hs) hp_10 ⟨(Nat.le_of_ble_eq_true rfl), (Nat.le_of_ble_eq_true rfl)⟩ ⟨(Nat.le_of_ble_eq_true rfl), (Nat.le_of_ble_eq_true rfl)⟩ rfl rfl (Nat.le_of_ble_eq_true rfl) dX8_writeHead_24 ?_
    intro v9 f9 z9; rw [z9.1, z9.2]
    obtain ⟨x7, hx7⟩ : ∃ x0, (wnuF n x6.1 x6.2 (fldF n1 g s x 2)) = x0 := ⟨_, rfl⟩
    refine scX8_53 (k_X8_writeNumber (x := (fldF n1 g s x 2)) hte_10 hot_10 hob_10 hn) hte_10 ⟨(Nat.le_of_ble_eq_true rfl), (Nat.le_of_ble_eq_true rfl)⟩ ⟨(Nat.le_of_ble_eq_true rfl), (Nat.le_of_ble_eq_true rfl)⟩ rfl rfl (Nat.le_of_ble_eq_true rfl) dX8_writeHead_27 ?_
    rintro f11 ⟨hot_11, hob_11, hr11⟩; rw [hx7] at hot_11 hob_11
    have hte_11 : f11 te = some (.inr (8, [.ref ot])) := hr11 _ _ hte_10 (by simp only [List.mem_cons, List.not_mem_nil, or_false, not_or]; exact ⟨cne hte_10 hot_10 (by simp), cne hte_10 hob_10 (by simp)⟩)
    have hp_11 : f11 p = some (.inr (2, [.ref c1, .ref c2, .int s, .int v])) := hr11 _ _ hp_10 (by simp only [List.mem_cons, List.not_mem_nil, or_false, not_or]; exact ⟨cne hp_10 hot_10 (by simp), cne hp_10 hob_10 (by simp)⟩)
    have h1_11 : f11 c1 = some (.inl (cy 0, n1, .inl (g))) := hr11 _ _ h1_10 (by simp only [List.mem_cons, List.not_mem_nil, or_false, not_or]; exact ⟨cne h1_10 hot_10 (by simp), Ne.symm (hne.1)⟩)
    have h2_11 : f11 c2 = some (.inl (cy 0, n2, .inl (h))) := hr11 _ _ h2_10 (by simp only [List.mem_cons, List.not_mem_nil, or_false, not_or]; exact ⟨cne h2_10 hot_10 (by simp), Ne.symm (hne.2)⟩)
    refine gz_iload_n dX8_writeHead_30 rfl rfl ?_
    refine scX8_56 (k_X11_hasSum (x := y)) ⟨(Nat.le_of_ble_eq_true rfl), (Nat.le_of_ble_eq_true rfl)⟩ ⟨(Nat.le_of_ble_eq_true rfl), (Nat.le_of_ble_eq_true rfl)⟩ rfl rfl (Nat.le_of_ble_eq_true rfl) dX8_writeHead_31 ?_
    intro v9 f9 z9; rw [z9.1, z9.2]
    refine gz_if_eq (tgt := 50) dX8_writeHead_34 (by decide) (fun c_34 => ?_) (fun c_34 => ?_)
    ·
      refine gz_iload_n dX8_writeHead_50 rfl rfl ?_
      refine scX8_62 (k_X11_hasTest (x := y)) ⟨(Nat.le_of_ble_eq_true rfl), (Nat.le_of_ble_eq_true rfl)⟩ ⟨(Nat.le_of_ble_eq_true rfl), (Nat.le_of_ble_eq_true rfl)⟩ rfl rfl (Nat.le_of_ble_eq_true rfl) dX8_writeHead_51 ?_
      intro v9 f9 z9; rw [z9.1, z9.2]
      refine gz_if_eq (tgt := 82) dX8_writeHead_54 (by decide) (fun c_54 => ?_) (fun c_54 => ?_)
      ·
        refine gz_iload_n dX8_writeHead_82 rfl rfl ?_
        refine scX8_56 (k_X11_hasSum (x := y)) ⟨(Nat.le_of_ble_eq_true rfl), (Nat.le_of_ble_eq_true rfl)⟩ ⟨(Nat.le_of_ble_eq_true rfl), (Nat.le_of_ble_eq_true rfl)⟩ rfl rfl (Nat.le_of_ble_eq_true rfl) dX8_writeHead_83 ?_
        intro v9 f9 z9; rw [z9.1, z9.2]
        refine gz_if_eq (tgt := 98) dX8_writeHead_86 (by decide) (fun c_86 => ?_) (fun c_86 => ?_)
        ·
          exact gz_vret rfl dX8_writeHead_98 (Nat.le_of_ble_eq_true rfl) (Nat.le_of_ble_eq_true rfl) (⟨rfl, (by rw [(show wheF n ln og n1 n2 g h s v x y = _ from (by unfold wheF; rw [if_neg c_13, lett_eq hx6, lett_eq hx7, if_pos c_34, if_pos c_54, if_pos c_86]))]; exact hot_11), (by rw [(show wheF n ln og n1 n2 g h s v x y = _ from (by unfold wheF; rw [if_neg c_13, lett_eq hx6, lett_eq hx7, if_pos c_34, if_pos c_54, if_pos c_86]))]; exact hob_11), (fr_tr (fr_tr fr_rf (fr_mo hr10 (by simp))) (fr_mo hr11 (by simp)))⟩)
        ·
          refine gz_aload_n dX8_writeHead_89 rfl rfl ?_
          refine sgX8_9 hte_11 rfl dX8_writeHead_90 ?_
          refine gz_bipush (v := 58) dX8_writeHead_93 (by decide) ?_
          refine scX8_41 (k_X9_put (x := 58) hot_11 hob_11 hn) hot_11 ⟨(Nat.le_of_ble_eq_true rfl), (Nat.le_of_ble_eq_true rfl)⟩ ⟨(Nat.le_of_ble_eq_true rfl), (Nat.le_of_ble_eq_true rfl)⟩ rfl rfl (Nat.le_of_ble_eq_true rfl) dX8_writeHead_95 ?_
          rintro f12 ⟨hot_12, hob_12, hr12⟩
          have hte_12 : f12 te = some (.inr (8, [.ref ot])) := hr12 _ _ hte_11 (by simp only [List.mem_cons, List.not_mem_nil, or_false, not_or]; exact ⟨cne hte_11 hot_11 (by simp), cne hte_11 hob_11 (by simp)⟩)
          have hp_12 : f12 p = some (.inr (2, [.ref c1, .ref c2, .int s, .int v])) := hr12 _ _ hp_11 (by simp only [List.mem_cons, List.not_mem_nil, or_false, not_or]; exact ⟨cne hp_11 hot_11 (by simp), cne hp_11 hob_11 (by simp)⟩)
          have h1_12 : f12 c1 = some (.inl (cy 0, n1, .inl (g))) := hr12 _ _ h1_11 (by simp only [List.mem_cons, List.not_mem_nil, or_false, not_or]; exact ⟨cne h1_11 hot_11 (by simp), Ne.symm (hne.1)⟩)
          have h2_12 : f12 c2 = some (.inl (cy 0, n2, .inl (h))) := hr12 _ _ h2_11 (by simp only [List.mem_cons, List.not_mem_nil, or_false, not_or]; exact ⟨cne h2_11 hot_11 (by simp), Ne.symm (hne.2)⟩)
          exact gz_vret rfl dX8_writeHead_98 (Nat.le_of_ble_eq_true rfl) (Nat.le_of_ble_eq_true rfl) (⟨rfl, (by rw [(show wheF n ln og n1 n2 g h s v x y = _ from (by unfold wheF; rw [if_neg c_13, lett_eq hx6, lett_eq hx7, if_pos c_34, if_pos c_54, if_neg c_86]))]; exact hot_12), (by rw [(show wheF n ln og n1 n2 g h s v x y = _ from (by unfold wheF; rw [if_neg c_13, lett_eq hx6, lett_eq hx7, if_pos c_34, if_pos c_54, if_neg c_86]))]; exact hob_12), (fr_tr (fr_tr (fr_tr fr_rf (fr_mo hr10 (by simp))) (fr_mo hr11 (by simp))) (fr_mo hr12 (by simp)))⟩)
      ·
        refine gz_aload_n dX8_writeHead_57 rfl rfl ?_
        refine gz_aload_n dX8_writeHead_58 rfl rfl ?_
        refine gz_iload_n dX8_writeHead_59 rfl rfl ?_
        refine gz_bipush (v := 8) dX8_writeHead_60 (by decide) ?_
        refine scX8_25 (k_X2_field (w := x) (k := 8) hp_11 h1_11 hs) hp_11 ⟨(Nat.le_of_ble_eq_true rfl), (Nat.le_of_ble_eq_true rfl)⟩ ⟨(Nat.le_of_ble_eq_true rfl), (Nat.le_of_ble_eq_true rfl)⟩ rfl rfl (Nat.le_of_ble_eq_true rfl) dX8_writeHead_62 ?_
        intro v9 f9 z9; rw [z9.1, z9.2]
        obtain ⟨x8, hx8⟩ : ∃ x0, (wreF n x7.1 x7.2 (fldF n1 g s x 8)) = x0 := ⟨_, rfl⟩
        refine scX8_65 (k_X8_writeRelation (x := (fldF n1 g s x 8)) hte_11 hot_11 hob_11 hn) hte_11 ⟨(Nat.le_of_ble_eq_true rfl), (Nat.le_of_ble_eq_true rfl)⟩ ⟨(Nat.le_of_ble_eq_true rfl), (Nat.le_of_ble_eq_true rfl)⟩ rfl rfl (Nat.le_of_ble_eq_true rfl) dX8_writeHead_65 ?_
        rintro f13 ⟨hot_13, hob_13, hr13⟩; rw [hx8] at hot_13 hob_13
        have hte_13 : f13 te = some (.inr (8, [.ref ot])) := hr13 _ _ hte_11 (by simp only [List.mem_cons, List.not_mem_nil, or_false, not_or]; exact ⟨cne hte_11 hot_11 (by simp), cne hte_11 hob_11 (by simp)⟩)
        have hp_13 : f13 p = some (.inr (2, [.ref c1, .ref c2, .int s, .int v])) := hr13 _ _ hp_11 (by simp only [List.mem_cons, List.not_mem_nil, or_false, not_or]; exact ⟨cne hp_11 hot_11 (by simp), cne hp_11 hob_11 (by simp)⟩)
        have h1_13 : f13 c1 = some (.inl (cy 0, n1, .inl (g))) := hr13 _ _ h1_11 (by simp only [List.mem_cons, List.not_mem_nil, or_false, not_or]; exact ⟨cne h1_11 hot_11 (by simp), Ne.symm (hne.1)⟩)
        have h2_13 : f13 c2 = some (.inl (cy 0, n2, .inl (h))) := hr13 _ _ h2_11 (by simp only [List.mem_cons, List.not_mem_nil, or_false, not_or]; exact ⟨cne h2_11 hot_11 (by simp), Ne.symm (hne.2)⟩)
        refine gz_aload_n dX8_writeHead_68 rfl rfl ?_
        refine gz_aload_n dX8_writeHead_69 rfl rfl ?_
        refine gz_iload dX8_writeHead_70 rfl ?_
        refine gz_aload_n dX8_writeHead_72 rfl rfl ?_
        refine gz_iload_n dX8_writeHead_73 rfl rfl ?_
        refine gz_bipush (v := 7) dX8_writeHead_74 (by decide) ?_
        refine scX8_25 (k_X2_field (w := x) (k := 7) hp_13 h1_13 hs) hp_13 ⟨(Nat.le_of_ble_eq_true rfl), (Nat.le_of_ble_eq_true rfl)⟩ ⟨(Nat.le_of_ble_eq_true rfl), (Nat.le_of_ble_eq_true rfl)⟩ rfl rfl (Nat.le_of_ble_eq_true rfl) dX8_writeHead_76 ?_
        intro v9 f9 z9; rw [z9.1, z9.2]
        obtain ⟨x9, hx9⟩ : ∃ x0, (wsmF n x8.1 x8.2 n2 h v (fldF n1 g s x 6) (fldF n1 g s x 7)) = x0 := ⟨_, rfl⟩
        refine scX8_59 (k_X8_writeSum (x := (fldF n1 g s x 6)) (y := (fldF n1 g s x 7)) hte_13 hot_13 hob_13 hp_13 h2_13 hn hv hne.2) hte_13 ⟨(Nat.le_of_ble_eq_true rfl), (Nat.le_of_ble_eq_true rfl)⟩ ⟨(Nat.le_of_ble_eq_true rfl), (Nat.le_of_ble_eq_true rfl)⟩ rfl rfl (Nat.le_of_ble_eq_true rfl) dX8_writeHead_79 ?_
        rintro f14 ⟨hot_14, hob_14, hr14⟩; rw [hx9] at hot_14 hob_14
        have hte_14 : f14 te = some (.inr (8, [.ref ot])) := hr14 _ _ hte_13 (by simp only [List.mem_cons, List.not_mem_nil, or_false, not_or]; exact ⟨cne hte_13 hot_13 (by simp), cne hte_13 hob_13 (by simp)⟩)
        have hp_14 : f14 p = some (.inr (2, [.ref c1, .ref c2, .int s, .int v])) := hr14 _ _ hp_13 (by simp only [List.mem_cons, List.not_mem_nil, or_false, not_or]; exact ⟨cne hp_13 hot_13 (by simp), cne hp_13 hob_13 (by simp)⟩)
        have h1_14 : f14 c1 = some (.inl (cy 0, n1, .inl (g))) := hr14 _ _ h1_13 (by simp only [List.mem_cons, List.not_mem_nil, or_false, not_or]; exact ⟨cne h1_13 hot_13 (by simp), Ne.symm (hne.1)⟩)
        have h2_14 : f14 c2 = some (.inl (cy 0, n2, .inl (h))) := hr14 _ _ h2_13 (by simp only [List.mem_cons, List.not_mem_nil, or_false, not_or]; exact ⟨cne h2_13 hot_13 (by simp), Ne.symm (hne.2)⟩)
        refine gz_iload_n dX8_writeHead_82 rfl rfl ?_
        refine scX8_56 (k_X11_hasSum (x := y)) ⟨(Nat.le_of_ble_eq_true rfl), (Nat.le_of_ble_eq_true rfl)⟩ ⟨(Nat.le_of_ble_eq_true rfl), (Nat.le_of_ble_eq_true rfl)⟩ rfl rfl (Nat.le_of_ble_eq_true rfl) dX8_writeHead_83 ?_
        intro v9 f9 z9; rw [z9.1, z9.2]
        refine gz_if_eq (tgt := 98) dX8_writeHead_86 (by decide) (fun c_86 => ?_) (fun c_86 => ?_)
        ·
          exact gz_vret rfl dX8_writeHead_98 (Nat.le_of_ble_eq_true rfl) (Nat.le_of_ble_eq_true rfl) (⟨rfl, (by rw [(show wheF n ln og n1 n2 g h s v x y = _ from (by unfold wheF; rw [if_neg c_13, lett_eq hx6, lett_eq hx7, if_pos c_34, if_neg c_54, lett_eq hx8, lett_eq hx9, if_pos c_86]))]; exact hot_14), (by rw [(show wheF n ln og n1 n2 g h s v x y = _ from (by unfold wheF; rw [if_neg c_13, lett_eq hx6, lett_eq hx7, if_pos c_34, if_neg c_54, lett_eq hx8, lett_eq hx9, if_pos c_86]))]; exact hob_14), (fr_tr (fr_tr (fr_tr (fr_tr fr_rf (fr_mo hr10 (by simp))) (fr_mo hr11 (by simp))) (fr_mo hr13 (by simp))) (fr_mo hr14 (by simp)))⟩)
        ·
          refine gz_aload_n dX8_writeHead_89 rfl rfl ?_
          refine sgX8_9 hte_14 rfl dX8_writeHead_90 ?_
          refine gz_bipush (v := 58) dX8_writeHead_93 (by decide) ?_
          refine scX8_41 (k_X9_put (x := 58) hot_14 hob_14 hn) hot_14 ⟨(Nat.le_of_ble_eq_true rfl), (Nat.le_of_ble_eq_true rfl)⟩ ⟨(Nat.le_of_ble_eq_true rfl), (Nat.le_of_ble_eq_true rfl)⟩ rfl rfl (Nat.le_of_ble_eq_true rfl) dX8_writeHead_95 ?_
          rintro f15 ⟨hot_15, hob_15, hr15⟩
          have hte_15 : f15 te = some (.inr (8, [.ref ot])) := hr15 _ _ hte_14 (by simp only [List.mem_cons, List.not_mem_nil, or_false, not_or]; exact ⟨cne hte_14 hot_14 (by simp), cne hte_14 hob_14 (by simp)⟩)
          have hp_15 : f15 p = some (.inr (2, [.ref c1, .ref c2, .int s, .int v])) := hr15 _ _ hp_14 (by simp only [List.mem_cons, List.not_mem_nil, or_false, not_or]; exact ⟨cne hp_14 hot_14 (by simp), cne hp_14 hob_14 (by simp)⟩)
          have h1_15 : f15 c1 = some (.inl (cy 0, n1, .inl (g))) := hr15 _ _ h1_14 (by simp only [List.mem_cons, List.not_mem_nil, or_false, not_or]; exact ⟨cne h1_14 hot_14 (by simp), Ne.symm (hne.1)⟩)
          have h2_15 : f15 c2 = some (.inl (cy 0, n2, .inl (h))) := hr15 _ _ h2_14 (by simp only [List.mem_cons, List.not_mem_nil, or_false, not_or]; exact ⟨cne h2_14 hot_14 (by simp), Ne.symm (hne.2)⟩)
          exact gz_vret rfl dX8_writeHead_98 (Nat.le_of_ble_eq_true rfl) (Nat.le_of_ble_eq_true rfl) (⟨rfl, (by rw [(show wheF n ln og n1 n2 g h s v x y = _ from (by unfold wheF; rw [if_neg c_13, lett_eq hx6, lett_eq hx7, if_pos c_34, if_neg c_54, lett_eq hx8, lett_eq hx9, if_neg c_86]))]; exact hot_15), (by rw [(show wheF n ln og n1 n2 g h s v x y = _ from (by unfold wheF; rw [if_neg c_13, lett_eq hx6, lett_eq hx7, if_pos c_34, if_neg c_54, lett_eq hx8, lett_eq hx9, if_neg c_86]))]; exact hob_15), (fr_tr (fr_tr (fr_tr (fr_tr (fr_tr fr_rf (fr_mo hr10 (by simp))) (fr_mo hr11 (by simp))) (fr_mo hr13 (by simp))) (fr_mo hr14 (by simp))) (fr_mo hr15 (by simp)))⟩)
    ·
      refine gz_aload_n dX8_writeHead_37 rfl rfl ?_
      refine gz_aload_n dX8_writeHead_38 rfl rfl ?_
      refine gz_aload_n dX8_writeHead_39 rfl rfl ?_
      refine gz_iload_n dX8_writeHead_40 rfl rfl ?_
      refine gz_iconst (v := 5) dX8_writeHead_41 (by decide) ?_
      refine scX8_25 (k_X2_field (w := x) (k := 5) hp_11 h1_11 hs) hp_11 ⟨(Nat.le_of_ble_eq_true rfl), (Nat.le_of_ble_eq_true rfl)⟩ ⟨(Nat.le_of_ble_eq_true rfl), (Nat.le_of_ble_eq_true rfl)⟩ rfl rfl (Nat.le_of_ble_eq_true rfl) dX8_writeHead_42 ?_
      intro v9 f9 z9; rw [z9.1, z9.2]
      refine gz_iload dX8_writeHead_45 rfl ?_
      obtain ⟨x10, hx10⟩ : ∃ x0, (wsmF n x7.1 x7.2 n2 h v (fldF n1 g s x 5) (fldF n1 g s x 6)) = x0 := ⟨_, rfl⟩
      refine scX8_59 (k_X8_writeSum (x := (fldF n1 g s x 5)) (y := (fldF n1 g s x 6)) hte_11 hot_11 hob_11 hp_11 h2_11 hn hv hne.2) hte_11 ⟨(Nat.le_of_ble_eq_true rfl), (Nat.le_of_ble_eq_true rfl)⟩ ⟨(Nat.le_of_ble_eq_true rfl), (Nat.le_of_ble_eq_true rfl)⟩ rfl rfl (Nat.le_of_ble_eq_true rfl) dX8_writeHead_47 ?_
      rintro f16 ⟨hot_16, hob_16, hr16⟩; rw [hx10] at hot_16 hob_16
      have hte_16 : f16 te = some (.inr (8, [.ref ot])) := hr16 _ _ hte_11 (by simp only [List.mem_cons, List.not_mem_nil, or_false, not_or]; exact ⟨cne hte_11 hot_11 (by simp), cne hte_11 hob_11 (by simp)⟩)
      have hp_16 : f16 p = some (.inr (2, [.ref c1, .ref c2, .int s, .int v])) := hr16 _ _ hp_11 (by simp only [List.mem_cons, List.not_mem_nil, or_false, not_or]; exact ⟨cne hp_11 hot_11 (by simp), cne hp_11 hob_11 (by simp)⟩)
      have h1_16 : f16 c1 = some (.inl (cy 0, n1, .inl (g))) := hr16 _ _ h1_11 (by simp only [List.mem_cons, List.not_mem_nil, or_false, not_or]; exact ⟨cne h1_11 hot_11 (by simp), Ne.symm (hne.1)⟩)
      have h2_16 : f16 c2 = some (.inl (cy 0, n2, .inl (h))) := hr16 _ _ h2_11 (by simp only [List.mem_cons, List.not_mem_nil, or_false, not_or]; exact ⟨cne h2_11 hot_11 (by simp), Ne.symm (hne.2)⟩)
      refine gz_iload_n dX8_writeHead_50 rfl rfl ?_
      refine scX8_62 (k_X11_hasTest (x := y)) ⟨(Nat.le_of_ble_eq_true rfl), (Nat.le_of_ble_eq_true rfl)⟩ ⟨(Nat.le_of_ble_eq_true rfl), (Nat.le_of_ble_eq_true rfl)⟩ rfl rfl (Nat.le_of_ble_eq_true rfl) dX8_writeHead_51 ?_
      intro v9 f9 z9; rw [z9.1, z9.2]
      refine gz_if_eq (tgt := 82) dX8_writeHead_54 (by decide) (fun c_54 => ?_) (fun c_54 => ?_)
      ·
        refine gz_iload_n dX8_writeHead_82 rfl rfl ?_
        refine scX8_56 (k_X11_hasSum (x := y)) ⟨(Nat.le_of_ble_eq_true rfl), (Nat.le_of_ble_eq_true rfl)⟩ ⟨(Nat.le_of_ble_eq_true rfl), (Nat.le_of_ble_eq_true rfl)⟩ rfl rfl (Nat.le_of_ble_eq_true rfl) dX8_writeHead_83 ?_
        intro v9 f9 z9; rw [z9.1, z9.2]
        refine gz_if_eq (tgt := 98) dX8_writeHead_86 (by decide) (fun c_86 => ?_) (fun c_86 => ?_)
        ·
          exact gz_vret rfl dX8_writeHead_98 (Nat.le_of_ble_eq_true rfl) (Nat.le_of_ble_eq_true rfl) (⟨rfl, (by rw [(show wheF n ln og n1 n2 g h s v x y = _ from (by unfold wheF; rw [if_neg c_13, lett_eq hx6, lett_eq hx7, if_neg c_34, lett_eq hx10, if_pos c_54, if_pos c_86]))]; exact hot_16), (by rw [(show wheF n ln og n1 n2 g h s v x y = _ from (by unfold wheF; rw [if_neg c_13, lett_eq hx6, lett_eq hx7, if_neg c_34, lett_eq hx10, if_pos c_54, if_pos c_86]))]; exact hob_16), (fr_tr (fr_tr (fr_tr fr_rf (fr_mo hr10 (by simp))) (fr_mo hr11 (by simp))) (fr_mo hr16 (by simp)))⟩)
        ·
          refine gz_aload_n dX8_writeHead_89 rfl rfl ?_
          refine sgX8_9 hte_16 rfl dX8_writeHead_90 ?_
          refine gz_bipush (v := 58) dX8_writeHead_93 (by decide) ?_
          refine scX8_41 (k_X9_put (x := 58) hot_16 hob_16 hn) hot_16 ⟨(Nat.le_of_ble_eq_true rfl), (Nat.le_of_ble_eq_true rfl)⟩ ⟨(Nat.le_of_ble_eq_true rfl), (Nat.le_of_ble_eq_true rfl)⟩ rfl rfl (Nat.le_of_ble_eq_true rfl) dX8_writeHead_95 ?_
          rintro f17 ⟨hot_17, hob_17, hr17⟩
          have hte_17 : f17 te = some (.inr (8, [.ref ot])) := hr17 _ _ hte_16 (by simp only [List.mem_cons, List.not_mem_nil, or_false, not_or]; exact ⟨cne hte_16 hot_16 (by simp), cne hte_16 hob_16 (by simp)⟩)
          have hp_17 : f17 p = some (.inr (2, [.ref c1, .ref c2, .int s, .int v])) := hr17 _ _ hp_16 (by simp only [List.mem_cons, List.not_mem_nil, or_false, not_or]; exact ⟨cne hp_16 hot_16 (by simp), cne hp_16 hob_16 (by simp)⟩)
          have h1_17 : f17 c1 = some (.inl (cy 0, n1, .inl (g))) := hr17 _ _ h1_16 (by simp only [List.mem_cons, List.not_mem_nil, or_false, not_or]; exact ⟨cne h1_16 hot_16 (by simp), Ne.symm (hne.1)⟩)
          have h2_17 : f17 c2 = some (.inl (cy 0, n2, .inl (h))) := hr17 _ _ h2_16 (by simp only [List.mem_cons, List.not_mem_nil, or_false, not_or]; exact ⟨cne h2_16 hot_16 (by simp), Ne.symm (hne.2)⟩)
          exact gz_vret rfl dX8_writeHead_98 (Nat.le_of_ble_eq_true rfl) (Nat.le_of_ble_eq_true rfl) (⟨rfl, (by rw [(show wheF n ln og n1 n2 g h s v x y = _ from (by unfold wheF; rw [if_neg c_13, lett_eq hx6, lett_eq hx7, if_neg c_34, lett_eq hx10, if_pos c_54, if_neg c_86]))]; exact hot_17), (by rw [(show wheF n ln og n1 n2 g h s v x y = _ from (by unfold wheF; rw [if_neg c_13, lett_eq hx6, lett_eq hx7, if_neg c_34, lett_eq hx10, if_pos c_54, if_neg c_86]))]; exact hob_17), (fr_tr (fr_tr (fr_tr (fr_tr fr_rf (fr_mo hr10 (by simp))) (fr_mo hr11 (by simp))) (fr_mo hr16 (by simp))) (fr_mo hr17 (by simp)))⟩)
      ·
        refine gz_aload_n dX8_writeHead_57 rfl rfl ?_
        refine gz_aload_n dX8_writeHead_58 rfl rfl ?_
        refine gz_iload_n dX8_writeHead_59 rfl rfl ?_
        refine gz_bipush (v := 8) dX8_writeHead_60 (by decide) ?_
        refine scX8_25 (k_X2_field (w := x) (k := 8) hp_16 h1_16 hs) hp_16 ⟨(Nat.le_of_ble_eq_true rfl), (Nat.le_of_ble_eq_true rfl)⟩ ⟨(Nat.le_of_ble_eq_true rfl), (Nat.le_of_ble_eq_true rfl)⟩ rfl rfl (Nat.le_of_ble_eq_true rfl) dX8_writeHead_62 ?_
        intro v9 f9 z9; rw [z9.1, z9.2]
        obtain ⟨x11, hx11⟩ : ∃ x0, (wreF n x10.1 x10.2 (fldF n1 g s x 8)) = x0 := ⟨_, rfl⟩
        refine scX8_65 (k_X8_writeRelation (x := (fldF n1 g s x 8)) hte_16 hot_16 hob_16 hn) hte_16 ⟨(Nat.le_of_ble_eq_true rfl), (Nat.le_of_ble_eq_true rfl)⟩ ⟨(Nat.le_of_ble_eq_true rfl), (Nat.le_of_ble_eq_true rfl)⟩ rfl rfl (Nat.le_of_ble_eq_true rfl) dX8_writeHead_65 ?_
        rintro f18 ⟨hot_18, hob_18, hr18⟩; rw [hx11] at hot_18 hob_18
        have hte_18 : f18 te = some (.inr (8, [.ref ot])) := hr18 _ _ hte_16 (by simp only [List.mem_cons, List.not_mem_nil, or_false, not_or]; exact ⟨cne hte_16 hot_16 (by simp), cne hte_16 hob_16 (by simp)⟩)
        have hp_18 : f18 p = some (.inr (2, [.ref c1, .ref c2, .int s, .int v])) := hr18 _ _ hp_16 (by simp only [List.mem_cons, List.not_mem_nil, or_false, not_or]; exact ⟨cne hp_16 hot_16 (by simp), cne hp_16 hob_16 (by simp)⟩)
        have h1_18 : f18 c1 = some (.inl (cy 0, n1, .inl (g))) := hr18 _ _ h1_16 (by simp only [List.mem_cons, List.not_mem_nil, or_false, not_or]; exact ⟨cne h1_16 hot_16 (by simp), Ne.symm (hne.1)⟩)
        have h2_18 : f18 c2 = some (.inl (cy 0, n2, .inl (h))) := hr18 _ _ h2_16 (by simp only [List.mem_cons, List.not_mem_nil, or_false, not_or]; exact ⟨cne h2_16 hot_16 (by simp), Ne.symm (hne.2)⟩)
        refine gz_aload_n dX8_writeHead_68 rfl rfl ?_
        refine gz_aload_n dX8_writeHead_69 rfl rfl ?_
        refine gz_iload dX8_writeHead_70 rfl ?_
        refine gz_aload_n dX8_writeHead_72 rfl rfl ?_
        refine gz_iload_n dX8_writeHead_73 rfl rfl ?_
        refine gz_bipush (v := 7) dX8_writeHead_74 (by decide) ?_
        refine scX8_25 (k_X2_field (w := x) (k := 7) hp_18 h1_18 hs) hp_18 ⟨(Nat.le_of_ble_eq_true rfl), (Nat.le_of_ble_eq_true rfl)⟩ ⟨(Nat.le_of_ble_eq_true rfl), (Nat.le_of_ble_eq_true rfl)⟩ rfl rfl (Nat.le_of_ble_eq_true rfl) dX8_writeHead_76 ?_
        intro v9 f9 z9; rw [z9.1, z9.2]
        obtain ⟨x12, hx12⟩ : ∃ x0, (wsmF n x11.1 x11.2 n2 h v (fldF n1 g s x 6) (fldF n1 g s x 7)) = x0 := ⟨_, rfl⟩
        refine scX8_59 (k_X8_writeSum (x := (fldF n1 g s x 6)) (y := (fldF n1 g s x 7)) hte_18 hot_18 hob_18 hp_18 h2_18 hn hv hne.2) hte_18 ⟨(Nat.le_of_ble_eq_true rfl), (Nat.le_of_ble_eq_true rfl)⟩ ⟨(Nat.le_of_ble_eq_true rfl), (Nat.le_of_ble_eq_true rfl)⟩ rfl rfl (Nat.le_of_ble_eq_true rfl) dX8_writeHead_79 ?_
        rintro f19 ⟨hot_19, hob_19, hr19⟩; rw [hx12] at hot_19 hob_19
        have hte_19 : f19 te = some (.inr (8, [.ref ot])) := hr19 _ _ hte_18 (by simp only [List.mem_cons, List.not_mem_nil, or_false, not_or]; exact ⟨cne hte_18 hot_18 (by simp), cne hte_18 hob_18 (by simp)⟩)
        have hp_19 : f19 p = some (.inr (2, [.ref c1, .ref c2, .int s, .int v])) := hr19 _ _ hp_18 (by simp only [List.mem_cons, List.not_mem_nil, or_false, not_or]; exact ⟨cne hp_18 hot_18 (by simp), cne hp_18 hob_18 (by simp)⟩)
        have h1_19 : f19 c1 = some (.inl (cy 0, n1, .inl (g))) := hr19 _ _ h1_18 (by simp only [List.mem_cons, List.not_mem_nil, or_false, not_or]; exact ⟨cne h1_18 hot_18 (by simp), Ne.symm (hne.1)⟩)
        have h2_19 : f19 c2 = some (.inl (cy 0, n2, .inl (h))) := hr19 _ _ h2_18 (by simp only [List.mem_cons, List.not_mem_nil, or_false, not_or]; exact ⟨cne h2_18 hot_18 (by simp), Ne.symm (hne.2)⟩)
        refine gz_iload_n dX8_writeHead_82 rfl rfl ?_
        refine scX8_56 (k_X11_hasSum (x := y)) ⟨(Nat.le_of_ble_eq_true rfl), (Nat.le_of_ble_eq_true rfl)⟩ ⟨(Nat.le_of_ble_eq_true rfl), (Nat.le_of_ble_eq_true rfl)⟩ rfl rfl (Nat.le_of_ble_eq_true rfl) dX8_writeHead_83 ?_
        intro v9 f9 z9; rw [z9.1, z9.2]
        refine gz_if_eq (tgt := 98) dX8_writeHead_86 (by decide) (fun c_86 => ?_) (fun c_86 => ?_)
        ·
          exact gz_vret rfl dX8_writeHead_98 (Nat.le_of_ble_eq_true rfl) (Nat.le_of_ble_eq_true rfl) (⟨rfl, (by rw [(show wheF n ln og n1 n2 g h s v x y = _ from (by unfold wheF; rw [if_neg c_13, lett_eq hx6, lett_eq hx7, if_neg c_34, lett_eq hx10, if_neg c_54, lett_eq hx11, lett_eq hx12, if_pos c_86]))]; exact hot_19), (by rw [(show wheF n ln og n1 n2 g h s v x y = _ from (by unfold wheF; rw [if_neg c_13, lett_eq hx6, lett_eq hx7, if_neg c_34, lett_eq hx10, if_neg c_54, lett_eq hx11, lett_eq hx12, if_pos c_86]))]; exact hob_19), (fr_tr (fr_tr (fr_tr (fr_tr (fr_tr fr_rf (fr_mo hr10 (by simp))) (fr_mo hr11 (by simp))) (fr_mo hr16 (by simp))) (fr_mo hr18 (by simp))) (fr_mo hr19 (by simp)))⟩)
        ·
          refine gz_aload_n dX8_writeHead_89 rfl rfl ?_
          refine sgX8_9 hte_19 rfl dX8_writeHead_90 ?_
          refine gz_bipush (v := 58) dX8_writeHead_93 (by decide) ?_
          refine scX8_41 (k_X9_put (x := 58) hot_19 hob_19 hn) hot_19 ⟨(Nat.le_of_ble_eq_true rfl), (Nat.le_of_ble_eq_true rfl)⟩ ⟨(Nat.le_of_ble_eq_true rfl), (Nat.le_of_ble_eq_true rfl)⟩ rfl rfl (Nat.le_of_ble_eq_true rfl) dX8_writeHead_95 ?_
          rintro f20 ⟨hot_20, hob_20, hr20⟩
          have hte_20 : f20 te = some (.inr (8, [.ref ot])) := hr20 _ _ hte_19 (by simp only [List.mem_cons, List.not_mem_nil, or_false, not_or]; exact ⟨cne hte_19 hot_19 (by simp), cne hte_19 hob_19 (by simp)⟩)
          have hp_20 : f20 p = some (.inr (2, [.ref c1, .ref c2, .int s, .int v])) := hr20 _ _ hp_19 (by simp only [List.mem_cons, List.not_mem_nil, or_false, not_or]; exact ⟨cne hp_19 hot_19 (by simp), cne hp_19 hob_19 (by simp)⟩)
          have h1_20 : f20 c1 = some (.inl (cy 0, n1, .inl (g))) := hr20 _ _ h1_19 (by simp only [List.mem_cons, List.not_mem_nil, or_false, not_or]; exact ⟨cne h1_19 hot_19 (by simp), Ne.symm (hne.1)⟩)
          have h2_20 : f20 c2 = some (.inl (cy 0, n2, .inl (h))) := hr20 _ _ h2_19 (by simp only [List.mem_cons, List.not_mem_nil, or_false, not_or]; exact ⟨cne h2_19 hot_19 (by simp), Ne.symm (hne.2)⟩)
          exact gz_vret rfl dX8_writeHead_98 (Nat.le_of_ble_eq_true rfl) (Nat.le_of_ble_eq_true rfl) (⟨rfl, (by rw [(show wheF n ln og n1 n2 g h s v x y = _ from (by unfold wheF; rw [if_neg c_13, lett_eq hx6, lett_eq hx7, if_neg c_34, lett_eq hx10, if_neg c_54, lett_eq hx11, lett_eq hx12, if_neg c_86]))]; exact hot_20), (by rw [(show wheF n ln og n1 n2 g h s v x y = _ from (by unfold wheF; rw [if_neg c_13, lett_eq hx6, lett_eq hx7, if_neg c_34, lett_eq hx10, if_neg c_54, lett_eq hx11, lett_eq hx12, if_neg c_86]))]; exact hob_20), (fr_tr (fr_tr (fr_tr (fr_tr (fr_tr (fr_tr fr_rf (fr_mo hr10 (by simp))) (fr_mo hr11 (by simp))) (fr_mo hr16 (by simp))) (fr_mo hr18 (by simp))) (fr_mo hr19 (by simp))) (fr_mo hr20 (by simp)))⟩)
