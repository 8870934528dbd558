set_option maxHeartbeats 4000000 in
set_option maxRecDepth 100000 in
theorem k_X5_size {l : Launch} {D : va_G} {cy : Nat → ClassId} {b : Nat} {f : gMem} {lf p so fc : Nat} {nu ho1 ho2 sz : Int32} {ga : Int64} (hlf : f lf = some (.inr (5, [.ref p, .int nu, .int ho1, .int ho2, .ref so, .ref fc, .int sz, .long ga])))  : gC l D cy b yX5_size cX5_size 1 (some .int) 0 0 0 [.ref lf] f (pI fun r f2 => r = sz ∧ f2 = f) := by
  refine gC_of (by decide) (Nat.le_of_ble_eq_true rfl) ?_
  show gG l _ _ _ D cy b cX5_size 1 _ RX5 "size" 0 0 f 0 [(0, .ref lf)] []
  refine gz_aload_n dX5_size_0 rfl rfl ?_
  refine sgX5_32 hlf rfl dX5_size_1 ?_
  exact gz_iret rfl dX5_size_4 (Nat.le_of_ble_eq_true rfl) (Nat.le_of_ble_eq_true rfl) (⟨_, rfl, rfl, rfl⟩)

def wdAF (sg : Nat → Int32) (sz k : Int32) : Int32 := (if (k : Int32) < 0 then (-1) else (if sz ≤ (k : Int32) then (-1) else (if 40 ≤ (k : Int32) then (-1) else (sg (Int32.toNatClampNeg k)))))
set_option maxHeartbeats 4000000 in
set_option maxRecDepth 100000 in
theorem k_X5_wordAt {l : Launch} {D : va_G} {cy : Nat → ClassId} {b : Nat} {f : gMem} {lf p so fc : Nat} {nu ho1 ho2 sz : Int32} {ga : Int64} {sg : Nat → Int32} {k : Int32} (hlf : f lf = some (.inr (5, [.ref p, .int nu, .int ho1, .int ho2, .ref so, .ref fc, .int sz, .long ga]))) (hso : f so = some (.inl (cy 0, 40, .inl (sg))))  : gC l D cy b yX5_wordAt cX5_wordAt 2 (some .int) 0 0 0 [.ref lf, .int k] f (pI fun r f2 => r = wdAF sg sz k ∧ f2 = f) := by
  refine gC_of (by decide) (Nat.le_of_ble_eq_true rfl) ?_
  show gG l _ _ _ D cy b cX5_wordAt 2 _ RX5 "wordAt" 0 0 f 0 [(0, .ref lf), (1, .int k)] []
  refine gz_iload_n dX5_wordAt_0 rfl rfl ?_
  refine gz_if_lt (tgt := 27) dX5_wordAt_1 (by decide) (fun c_1 => ?_) (fun c_1 => ?_)
  ·
    refine gz_iconst (v := (-1)) dX5_wordAt_27 (by decide) ?_
    exact gz_iret rfl dX5_wordAt_28 (Nat.le_of_ble_eq_true rfl) (Nat.le_of_ble_eq_true rfl) (⟨_, rfl, (show _ = _ from Eq.symm (by unfold wdAF; rw [if_pos c_1])), rfl⟩)
  ·
    refine gz_iload_n dX5_wordAt_4 rfl rfl ?_
    refine gz_aload_n dX5_wordAt_5 rfl rfl ?_
    refine sgX5_32 hlf rfl dX5_wordAt_6 ?_
    refine gz_icmp_ge (tgt := 27) dX5_wordAt_9 (by decide) (fun c_9 => ?_) (fun c_9 => ?_)
    ·
      refine gz_iconst (v := (-1)) dX5_wordAt_27 (by decide) ?_
      exact gz_iret rfl dX5_wordAt_28 (Nat.le_of_ble_eq_true rfl) (Nat.le_of_ble_eq_true rfl) (⟨_, rfl, (show _ = _ from Eq.symm (by unfold wdAF; rw [if_neg c_1, if_pos c_9])), rfl⟩)
    ·
      refine gz_iload_n dX5_wordAt_12 rfl rfl ?_
      refine gz_bipush (v := 40) dX5_wordAt_13 (by decide) ?_
      refine gz_icmp_ge (tgt := 27) dX5_wordAt_15 (by decide) (fun c_15 => ?_) (fun c_15 => ?_)
      ·
        refine gz_iconst (v := (-1)) dX5_wordAt_27 (by decide) ?_
        exact gz_iret rfl dX5_wordAt_28 (Nat.le_of_ble_eq_true rfl) (Nat.le_of_ble_eq_true rfl) (⟨_, rfl, (show _ = _ from Eq.symm (by unfold wdAF; rw [if_neg c_1, if_neg c_9, if_pos c_15])), rfl⟩)
      ·
        refine gz_aload_n dX5_wordAt_18 rfl rfl ?_
        refine sgX5_9 hlf rfl dX5_wordAt_19 ?_
        refine gz_iload_n dX5_wordAt_22 rfl rfl ?_
        refine gz_iald hso ((by have e13 : (13 : Int32).toInt = 13 := rfl; have e0 : (0 : Int32).toInt = 0 := rfl; have e2 : (2 : Int32).toInt = 2 := rfl; have e1 : (1 : Int32).toInt = 1 := rfl; have e6 : (6 : Int32).toInt = 6 := rfl; have em2 : (-2 : Int32).toInt = -2 := rfl; have e40 : (40 : Int32).toInt = 40 := rfl; simp only [fl_lt, fl_le] at c_1 c_9 c_15; exact vin_T (rfl : k.toInt = k.toInt) (by omega) (by omega))) dX5_wordAt_23 ?_
        refine gz_goto (tgt := 28) dX5_wordAt_24 (by decide) ?_
        exact gz_iret rfl dX5_wordAt_28 (Nat.le_of_ble_eq_true rfl) (Nat.le_of_ble_eq_true rfl) (⟨_, rfl, (show _ = _ from Eq.symm (by unfold wdAF; rw [if_neg c_1, if_neg c_9, if_neg c_15])), rfl⟩)

def fcAF (fg : Nat → Int32) (sz k : Int32) : Int32 := (if (k : Int32) < 0 then 0 else (if sz ≤ (k : Int32) then 0 else (if 40 ≤ (k : Int32) then 0 else (fg (Int32.toNatClampNeg k)))))
set_option maxHeartbeats 4000000 in
set_option maxRecDepth 100000 in
theorem k_X5_factorAt {l : Launch} {D : va_G} {cy : Nat → ClassId} {b : Nat} {f : gMem} {lf p so fc : Nat} {nu ho1 ho2 sz : Int32} {ga : Int64} {fg : Nat → Int32} {k : Int32} (hlf : f lf = some (.inr (5, [.ref p, .int nu, .int ho1, .int ho2, .ref so, .ref fc, .int sz, .long ga]))) (hfc : f fc = some (.inl (cy 0, 40, .inl (fg))))  : gC l D cy b yX5_factorAt cX5_factorAt 2 (some .int) 0 0 0 [.ref lf, .int k] f (pI fun r f2 => r = fcAF fg sz k ∧ f2 = f) := by
  refine gC_of (by decide) (Nat.le_of_ble_eq_true rfl) ?_
  show gG l _ _ _ D cy b cX5_factorAt 2 _ RX5 "factorAt" 0 0 f 0 [(0, .ref lf), (1, .int k)] []
  refine gz_iload_n dX5_factorAt_0 rfl rfl ?_
  refine gz_if_lt (tgt := 27) dX5_factorAt_1 (by decide) (fun c_1 => ?_) (fun c_1 => ?_)
  ·
    refine gz_iconst (v := 0) dX5_factorAt_27 (by decide) ?_
    exact gz_iret rfl dX5_factorAt_28 (Nat.le_of_ble_eq_true rfl) (Nat.le_of_ble_eq_true rfl) (⟨_, rfl, (show _ = _ from Eq.symm (by unfold fcAF; rw [if_pos c_1])), rfl⟩)
  ·
    refine gz_iload_n dX5_factorAt_4 rfl rfl ?_
    refine gz_aload_n dX5_factorAt_5 rfl rfl ?_
    refine sgX5_32 hlf rfl dX5_factorAt_6 ?_
    refine gz_icmp_ge (tgt := 27) dX5_factorAt_9 (by decide) (fun c_9 => ?_) (fun c_9 => ?_)
    ·
      refine gz_iconst (v := 0) dX5_factorAt_27 (by decide) ?_
      exact gz_iret rfl dX5_factorAt_28 (Nat.le_of_ble_eq_true rfl) (Nat.le_of_ble_eq_true rfl) (⟨_, rfl, (show _ = _ from Eq.symm (by unfold fcAF; rw [if_neg c_1, if_pos c_9])), rfl⟩)
    ·
      refine gz_iload_n dX5_factorAt_12 rfl rfl ?_
      refine gz_bipush (v := 40) dX5_factorAt_13 (by decide) ?_
      refine gz_icmp_ge (tgt := 27) dX5_factorAt_15 (by decide) (fun c_15 => ?_) (fun c_15 => ?_)
      ·
        refine gz_iconst (v := 0) dX5_factorAt_27 (by decide) ?_
        exact gz_iret rfl dX5_factorAt_28 (Nat.le_of_ble_eq_true rfl) (Nat.le_of_ble_eq_true rfl) (⟨_, rfl, (show _ = _ from Eq.symm (by unfold fcAF; rw [if_neg c_1, if_neg c_9, if_pos c_15])), rfl⟩)
      ·
        refine gz_aload_n dX5_factorAt_18 rfl rfl ?_
        refine sgX5_15 hlf rfl dX5_factorAt_19 ?_
        refine gz_iload_n dX5_factorAt_22 rfl rfl ?_
        refine gz_iald hfc ((by have e13 : (13 : Int32).toInt = 13 := rfl; have e0 : (0 : Int32).toInt = 0 := rfl; have e2 : (2 : Int32).toInt = 2 := rfl; have e1 : (1 : Int32).toInt = 1 := rfl; have e6 : (6 : Int32).toInt = 6 := rfl; have em2 : (-2 : Int32).toInt = -2 := rfl; have e40 : (40 : Int32).toInt = 40 := rfl; simp only [fl_lt, fl_le] at c_1 c_9 c_15; exact vin_T (rfl : k.toInt = k.toInt) (by omega) (by omega))) dX5_factorAt_23 ?_
        refine gz_goto (tgt := 28) dX5_factorAt_24 (by decide) ?_
        exact gz_iret rfl dX5_factorAt_28 (Nat.le_of_ble_eq_true rfl) (Nat.le_of_ble_eq_true rfl) (⟨_, rfl, (show _ = _ from Eq.symm (by unfold fcAF; rw [if_neg c_1, if_neg c_9, if_neg c_15])), rfl⟩)

def stdF (sg fg : Nat → Int32) (sz x y : Int32) : (Int32) × (Nat → Int32) × (Nat → Int32) × (Int32) := (if (sz : Int32) < 0 then (0, (sg), (fg), sz) else (if (sz : Int32) < 40 then (1, (upd sg (Int32.toNatClampNeg sz) x), (upd fg (Int32.toNatClampNeg sz) y), (sz + 1)) else (0, (sg), (fg), sz)))
set_option maxHeartbeats 4000000 in
set_option maxRecDepth 100000 in
theorem k_X5_stand {l : Launch} {D : va_G} {cy : Nat → ClassId} {b : Nat} {f : gMem} {lf p so fc : Nat} {nu ho1 ho2 sz : Int32} {ga : Int64} {sg fg : Nat → Int32} {x y : Int32} (hlf : f lf = some (.inr (5, [.ref p, .int nu, .int ho1, .int ho2, .ref so, .ref fc, .int sz, .long ga]))) (hso : f so = some (.inl (cy 0, 40, .inl (sg)))) (hfc : f fc = some (.inl (cy 0, 40, .inl (fg)))) (hne : so ≠ fc) : gC l D cy b yX5_stand cX5_stand 3 (some .boolean) 0 0 0 [.ref lf, .int x, .int y] f (pI fun r f2 => r = (stdF sg fg sz x y).1 ∧ f2 so = some (.inl (cy 0, 40, .inl ((stdF sg fg sz x y).2.1))) ∧ f2 fc = some (.inl (cy 0, 40, .inl ((stdF sg fg sz x y).2.2.1))) ∧ f2 lf = some (.inr (5, [.ref p, .int nu, .int ho1, .int ho2, .ref so, .ref fc, .int (stdF sg fg sz x y).2.2.2, .long ga])) ∧ fr [lf, so, fc] f f2) := by
  refine gC_of (by decide) (Nat.le_of_ble_eq_true rfl) ?_
  show gG l _ _ _ D cy b cX5_stand 3 _ RX5 "stand" 0 0 f 0 [(0, .ref lf), (1, .int x), (2, .int y)] []
  refine gz_aload_n dX5_stand_0 rfl rfl ?_
  refine sgX5_32 hlf rfl dX5_stand_1 ?_
  refine gz_if_lt (tgt := 16) dX5_stand_4 (by decide) (fun c_4 => ?_) (fun c_4 => ?_)
  ·
    refine gz_iconst (v := 0) dX5_stand_16 (by decide) ?_
    exact gz_zret rfl (by first | decide | exact nrb (Or.inl rfl) | (refine nrb ?_; (repeat' split) <;> first | assumption | exact Or.inl rfl | exact Or.inr rfl)) dX5_stand_17 (Nat.le_of_ble_eq_true rfl) (Nat.le_of_ble_eq_true rfl) (⟨_, rfl, (by rw [(show stdF sg fg sz x y = _ from (by unfold stdF; rw [if_pos c_4]))]), (by rw [(show stdF sg fg sz x y = _ from (by unfold stdF; rw [if_pos c_4]))]; exact hso), (by rw [(show stdF sg fg sz x y = _ from (by unfold stdF; rw [if_pos c_4]))]; exact hfc), (by rw [(show stdF sg fg sz x y = _ from (by unfold stdF; rw [if_pos c_4]))]; exact hlf), fr_rf⟩)
  ·
    refine gz_aload_n dX5_stand_7 rfl rfl ?_
    refine sgX5_32 hlf rfl dX5_stand_8 ?_
    refine gz_bipush (v := 40) dX5_stand_11 (by decide) ?_
    refine gz_icmp_lt (tgt := 18) dX5_stand_13 (by decide) (fun c_13 => ?_) (fun c_13 => ?_)
    ·
      refine gz_aload_n dX5_stand_18 rfl rfl ?_
      refine sgX5_9 hlf rfl dX5_stand_19 ?_
      refine gz_aload_n dX5_stand_22 rfl rfl ?_
      refine sgX5_32 hlf rfl dX5_stand_23 ?_
      refine gz_iload_n dX5_stand_26 rfl rfl ?_
      refine gz_iast hso ((by have e13 : (13 : Int32).toInt = 13 := rfl; have e0 : (0 : Int32).toInt = 0 := rfl; have e2 : (2 : Int32).toInt = 2 := rfl; have e1 : (1 : Int32).toInt = 1 := rfl; have e6 : (6 : Int32).toInt = 6 := rfl; have em2 : (-2 : Int32).toInt = -2 := rfl; have e40 : (40 : Int32).toInt = 40 := rfl; simp only [fl_lt] at c_4 c_13; exact vin_T (rfl : sz.toInt = sz.toInt) (by omega) (by omega))) dX5_stand_27 ?_
      obtain ⟨f1, hf1⟩ : ∃ gg : gMem, gg = va_up f so (some (.inl (cy 0, 40, .inl (upd sg (Int32.toNatClampNeg sz) x)))) := ⟨_, rfl⟩
      refine gz_eq (f2 := f1) hf1.symm rfl rfl rfl ?_
      have hlf_1 : f1 lf = some (.inr (5, [.ref p, .int nu, .int ho1, .int ho2, .ref so, .ref fc, .int sz, .long ga])) := by rw [hf1, va_up_ne _ _ (cne hlf hso (by simp))]; exact hlf
      have hfc_1 : f1 fc = some (.inl (cy 0, 40, .inl (fg))) := by rw [hf1, va_up_ne _ _ (Ne.symm (hne))]; exact hfc
      have hso_1 : f1 so = some (.inl (cy 0, 40, .inl (upd sg (Int32.toNatClampNeg sz) x))) := by rw [hf1]; exact va_up_self _ _ _
      refine gz_aload_n dX5_stand_28 rfl rfl ?_
      refine sgX5_15 hlf_1 rfl dX5_stand_29 ?_
      refine gz_aload_n dX5_stand_32 rfl rfl ?_
      refine sgX5_32 hlf_1 rfl dX5_stand_33 ?_
      refine gz_iload_n dX5_stand_36 rfl rfl ?_
      refine gz_iast hfc_1 ((by have e13 : (13 : Int32).toInt = 13 := rfl; have e0 : (0 : Int32).toInt = 0 := rfl; have e2 : (2 : Int32).toInt = 2 := rfl; have e1 : (1 : Int32).toInt = 1 := rfl; have e6 : (6 : Int32).toInt = 6 := rfl; have em2 : (-2 : Int32).toInt = -2 := rfl; have e40 : (40 : Int32).toInt = 40 := rfl; simp only [fl_lt] at c_4 c_13; exact vin_T (rfl : sz.toInt = sz.toInt) (by omega) (by omega))) dX5_stand_37 ?_
      obtain ⟨f2, hf2⟩ : ∃ gg : gMem, gg = va_up f1 fc (some (.inl (cy 0, 40, .inl (upd fg (Int32.toNatClampNeg sz) y)))) := ⟨_, rfl⟩
      refine gz_eq (f2 := f2) hf2.symm rfl rfl rfl ?_
      have hlf_2 : f2 lf = some (.inr (5, [.ref p, .int nu, .int ho1, .int ho2, .ref so, .ref fc, .int sz, .long ga])) := by rw [hf2, va_up_ne _ _ (cne hlf_1 hfc_1 (by simp))]; exact hlf_1
      have hso_2 : f2 so = some (.inl (cy 0, 40, .inl (upd sg (Int32.toNatClampNeg sz) x))) := by rw [hf2, va_up_ne _ _ (hne)]; exact hso_1
      have hfc_2 : f2 fc = some (.inl (cy 0, 40, .inl (upd fg (Int32.toNatClampNeg sz) y))) := by rw [hf2]; exact va_up_self _ _ _
      refine gz_aload_n dX5_stand_38 rfl rfl ?_
      refine gz_dup dX5_stand_39 rfl ?_
      refine sgX5_32 hlf_2 rfl dX5_stand_40 ?_
      refine gz_iconst (v := 1) dX5_stand_43 (by decide) ?_
      refine gz_iadd dX5_stand_44 ?_
      refine spX5_32 hlf_2  (Nat.le_of_ble_eq_true rfl) dX5_stand_45 ?_
      obtain ⟨f3, hf3⟩ : ∃ gg : gMem, gg = va_up f2 lf (some (.inr (5, [.ref p, .int nu, .int ho1, .int ho2, .ref so, .ref fc, .int (sz + 1), .long ga]))) := ⟨_, rfl⟩
      refine gz_eq (f2 := f3) hf3.symm rfl rfl rfl ?_
      have hso_3 : f3 so = some (.inl (cy 0, 40, .inl (upd sg (Int32.toNatClampNeg sz) x))) := by rw [hf3, va_up_ne _ _ (cne hso_2 hlf_2 (by simp))]; exact hso_2
      have hfc_3 : f3 fc = some (.inl (cy 0, 40, .inl (upd fg (Int32.toNatClampNeg sz) y))) := by rw [hf3, va_up_ne _ _ (cne hfc_2 hlf_2 (by simp))]; exact hfc_2
      have hlf_3 : f3 lf = some (.inr (5, [.ref p, .int nu, .int ho1, .int ho2, .ref so, .ref fc, .int (sz + 1), .long ga])) := by rw [hf3]; exact va_up_self _ _ _
      refine gz_iconst (v := 1) dX5_stand_48 (by decide) ?_
      exact gz_zret rfl (by first | decide | exact nrb (Or.inl rfl) | (refine nrb ?_; (repeat' split) <;> first | assumption | exact Or.inl rfl | exact Or.inr rfl)) dX5_stand_49 (Nat.le_of_ble_eq_true rfl) (Nat.le_of_ble_eq_true rfl) (⟨_, rfl, (by rw [(show stdF sg fg sz x y = _ from (by unfold stdF; rw [if_neg c_4, if_pos c_13]))]), (by rw [(show stdF sg fg sz x y = _ from (by unfold stdF; rw [if_neg c_4, if_pos c_13]))]; exact hso_3), (by rw [(show stdF sg fg sz x y = _ from (by unfold stdF; rw [if_neg c_4, if_pos c_13]))]; exact hfc_3), (by rw [(show stdF sg fg sz x y = _ from (by unfold stdF; rw [if_neg c_4, if_pos c_13]))]; exact hlf_3), (by rw [hf3]; exact fr_up (by rw [hf2]; exact fr_up (by rw [hf1]; exact fr_up fr_rf (by simp)) (by simp)) (by simp))⟩)
    ·
      refine gz_iconst (v := 0) dX5_stand_16 (by decide) ?_
      exact gz_zret rfl (by first | decide | exact nrb (Or.inl rfl) | (refine nrb ?_; (repeat' split) <;> first | assumption | exact Or.inl rfl | exact Or.inr rfl)) dX5_stand_17 (Nat.le_of_ble_eq_true rfl) (Nat.le_of_ble_eq_true rfl) (⟨_, rfl, (by rw [(show stdF sg fg sz x y = _ from (by unfold stdF; rw [if_neg c_4, if_neg c_13]))]), (by rw [(show stdF sg fg sz x y = _ from (by unfold stdF; rw [if_neg c_4, if_neg c_13]))]; exact hso), (by rw [(show stdF sg fg sz x y = _ from (by unfold stdF; rw [if_neg c_4, if_neg c_13]))]; exact hfc), (by rw [(show stdF sg fg sz x y = _ from (by unfold stdF; rw [if_neg c_4, if_neg c_13]))]; exact hlf), fr_rf⟩)

theorem bz_stdF {sg fg : Nat → Int32} {sz x y : Int32} : (stdF sg fg sz x y).1 = 0 ∨ (stdF sg fg sz x y).1 = 1 := by
  unfold stdF; try simp only [lett]
  (repeat' split) <;> first | with_reducible exact Or.inl rfl | with_reducible exact Or.inr rfl | exact Or.inl rfl

def drpL  : Nat → (Int32) → (Nat → Int32) → (Nat → Int32) → (Int32) → (Nat → Int32) × (Nat → Int32) × (Int32)
  | 0, _, sg, fg, sz => (sg, fg, sz)
  | k + 1, i, sg, fg, sz => (if sz ≤ ((i + 1) : Int32) then ((sg), (fg), (sz - 1)) else (drpL  k (i + 1) (upd sg (Int32.toNatClampNeg i) (sg (Int32.toNatClampNeg (i + 1)))) (upd fg (Int32.toNatClampNeg i) (fg (Int32.toNatClampNeg (i + 1)))) sz))
set_option maxHeartbeats 4000000 in
set_option maxRecDepth 100000 in
theorem l_X5_drop {l : Launch} {D : va_G} {cy : Nat → ClassId} {b mc ms : Nat} {f : gMem} {Po : Option Value → gMem → Prop} {lf p so fc : Nat} {nu ho1 ho2 : Int32} {ga : Int64}  {k0 : Int32}  (hne : so ≠ fc) : ∀ (k : Nat) (i : Int32) (sg : Nat → Int32) (fg : Nat → Int32) (sz : Int32) (fm : gMem), fr [lf, so, fc] f fm → (fm lf = some (.inr (5, [.ref p, .int nu, .int ho1, .int ho2, .ref so, .ref fc, .int sz, .long ga]))) → (fm so = some (.inl (cy 0, 40, .inl (sg)))) → (fm fc = some (.inl (cy 0, 40, .inl (fg)))) → (0 ≤ i.toInt ∧ sz.toInt ≤ 40 ∧ i.toInt < sz.toInt ∧ sz.toInt - i.toInt ≤ (k : Int)) → (∀ (f2 : gMem), f2 so = some (.inl (cy 0, 40, .inl ((drpL  k i sg fg sz).1))) → f2 fc = some (.inl (cy 0, 40, .inl ((drpL  k i sg fg sz).2.1))) → f2 lf = some (.inr (5, [.ref p, .int nu, .int ho1, .int ho2, .ref so, .ref fc, .int (drpL  k i sg fg sz).2.2, .long ga])) → fr [lf, so, fc] f f2 → Po none f2) → gG l (gRm 0 mc ms) (gQf D b Po mc ms) gTt D cy b cX5_drop 3 none RX5 "drop" 0 0 fm 24 [(2, .int i), (0, .ref lf), (1, .int k0)] [] := by
  intro k
  induction k with
  | zero =>
    intro i sg fg sz fm hfr hlf hso hfc hk hq
    exfalso; omega
  | succ k ih =>
    intro i sg fg sz fm hfr hlf hso hfc hk hq
    refine gz_iload_n dX5_drop_24 rfl rfl ?_
    refine gz_iconst (v := 1) dX5_drop_25 (by decide) ?_
    refine gz_iadd dX5_drop_26 ?_
    refine gz_aload_n dX5_drop_27 rfl rfl ?_
    refine sgX5_32 hlf rfl dX5_drop_28 ?_
    refine gz_icmp_ge (tgt := 68) dX5_drop_31 (by decide) (fun c_31 => ?_) (fun c_31 => ?_)
    ·
      refine gz_aload_n dX5_drop_68 rfl rfl ?_
      refine gz_dup dX5_drop_69 rfl ?_
      refine sgX5_32 hlf rfl dX5_drop_70 ?_
      refine gz_iconst (v := 1) dX5_drop_73 (by decide) ?_
      refine gz_isub dX5_drop_74 ?_
      refine spX5_32 hlf  (Nat.le_of_ble_eq_true rfl) dX5_drop_75 ?_
      obtain ⟨f1, hf1⟩ : ∃ gg : gMem, gg = va_up fm lf (some (.inr (5, [.ref p, .int nu, .int ho1, .int ho2, .ref so, .ref fc, .int (sz - 1), .long ga]))) := ⟨_, rfl⟩
      refine gz_eq (f2 := f1) hf1.symm rfl rfl rfl ?_
      have hso_1 : f1 so = some (.inl (cy 0, 40, .inl (sg))) := by rw [hf1, va_up_ne _ _ (cne hso hlf (by simp))]; exact hso
      have hfc_1 : f1 fc = some (.inl (cy 0, 40, .inl (fg))) := by rw [hf1, va_up_ne _ _ (cne hfc hlf (by simp))]; exact hfc
      have hlf_1 : f1 lf = some (.inr (5, [.ref p, .int nu, .int ho1, .int ho2, .ref so, .ref fc, .int (sz - 1), .long ga])) := by rw [hf1]; exact va_up_self _ _ _
      exact gz_vret rfl dX5_drop_78 (Nat.zero_le _) (Nat.zero_le _) ((by rw [drpL, if_pos c_31] at hq; exact hq _ hso_1 hfc_1 hlf_1 (by rw [hf1]; exact fr_up hfr (by simp))))
    ·
      refine gz_aload_n dX5_drop_34 rfl rfl ?_
      refine sgX5_9 hlf rfl dX5_drop_35 ?_
      refine gz_iload_n dX5_drop_38 rfl rfl ?_
      refine gz_aload_n dX5_drop_39 rfl rfl ?_
      refine sgX5_9 hlf rfl dX5_drop_40 ?_
      refine gz_iload_n dX5_drop_43 rfl rfl ?_
      refine gz_iconst (v := 1) dX5_drop_44 (by decide) ?_
      refine gz_iadd dX5_drop_45 ?_
      refine gz_iald hso ((by have e13 : (13 : Int32).toInt = 13 := rfl; have e0 : (0 : Int32).toInt = 0 := rfl; have e2 : (2 : Int32).toInt = 2 := rfl; have e1 : (1 : Int32).toInt = 1 := rfl; have e6 : (6 : Int32).toInt = 6 := rfl; have em2 : (-2 : Int32).toInt = -2 := rfl; have e40 : (40 : Int32).toInt = 40 := rfl; have hx := T_add (rfl : i.toInt = i.toInt) e1 (by omega); simp only [fl_le] at c_31; rw [hx] at c_31; exact vin_T hx (by omega) (by omega))) dX5_drop_46 ?_
      refine gz_iast hso ((by have e13 : (13 : Int32).toInt = 13 := rfl; have e0 : (0 : Int32).toInt = 0 := rfl; have e2 : (2 : Int32).toInt = 2 := rfl; have e1 : (1 : Int32).toInt = 1 := rfl; have e6 : (6 : Int32).toInt = 6 := rfl; have em2 : (-2 : Int32).toInt = -2 := rfl; have e40 : (40 : Int32).toInt = 40 := rfl; have hx := T_add (rfl : i.toInt = i.toInt) e1 (by omega); simp only [fl_le] at c_31; rw [hx] at c_31; exact vin_T (rfl : i.toInt = i.toInt) (by omega) (by omega))) dX5_drop_47 ?_
      obtain ⟨f2, hf2⟩ : ∃ gg : gMem, gg = va_up fm so (some (.inl (cy 0, 40, .inl (upd sg (Int32.toNatClampNeg i) (sg (Int32.toNatClampNeg (i + 1))))))) := ⟨_, rfl⟩
      refine gz_eq (f2 := f2) hf2.symm rfl rfl rfl ?_
      have hlf_2 : f2 lf = some (.inr (5, [.ref p, .int nu, .int ho1, .int ho2, .ref so, .ref fc, .int sz, .long ga])) := by rw [hf2, va_up_ne _ _ (cne hlf hso (by simp))]; exact hlf
      have hfc_2 : f2 fc = some (.inl (cy 0, 40, .inl (fg))) := by rw [hf2, va_up_ne _ _ (Ne.symm (hne))]; exact hfc
      have hso_2 : f2 so = some (.inl (cy 0, 40, .inl (upd sg (Int32.toNatClampNeg i) (sg (Int32.toNatClampNeg (i + 1)))))) := by rw [hf2]; exact va_up_self _ _ _
      refine gz_aload_n dX5_drop_48 rfl rfl ?_
      refine sgX5_15 hlf_2 rfl dX5_drop_49 ?_
      refine gz_iload_n dX5_drop_52 rfl rfl ?_
      refine gz_aload_n dX5_drop_53 rfl rfl ?_
      refine sgX5_15 hlf_2 rfl dX5_drop_54 ?_
      refine gz_iload_n dX5_drop_57 rfl rfl ?_
      refine gz_iconst (v := 1) dX5_drop_58 (by decide) ?_
      refine gz_iadd dX5_drop_59 ?_
      refine gz_iald hfc_2 ((by have e13 : (13 : Int32).toInt = 13 := rfl; have e0 : (0 : Int32).toInt = 0 := rfl; have e2 : (2 : Int32).toInt = 2 := rfl; have e1 : (1 : Int32).toInt = 1 := rfl; have e6 : (6 : Int32).toInt = 6 := rfl; have em2 : (-2 : Int32).toInt = -2 := rfl; have e40 : (40 : Int32).toInt = 40 := rfl; have hx := T_add (rfl : i.toInt = i.toInt) e1 (by omega); simp only [fl_le] at c_31; rw [hx] at c_31; exact vin_T hx (by omega) (by omega))) dX5_drop_60 ?_
      refine gz_iast hfc_2 ((by have e13 : (13 : Int32).toInt = 13 := rfl; have e0 : (0 : Int32).toInt = 0 := rfl; have e2 : (2 : Int32).toInt = 2 := rfl; have e1 : (1 : Int32).toInt = 1 := rfl; have e6 : (6 : Int32).toInt = 6 := rfl; have em2 : (-2 : Int32).toInt = -2 := rfl; have e40 : (40 : Int32).toInt = 40 := rfl; have hx := T_add (rfl : i.toInt = i.toInt) e1 (by omega); simp only [fl_le] at c_31; rw [hx] at c_31; exact vin_T (rfl : i.toInt = i.toInt) (by omega) (by omega))) dX5_drop_61 ?_
      obtain ⟨f3, hf3⟩ : ∃ gg : gMem, gg = va_up f2 fc (some (.inl (cy 0, 40, .inl (upd fg (Int32.toNatClampNeg i) (fg (Int32.toNatClampNeg (i + 1))))))) := ⟨_, rfl⟩
      refine gz_eq (f2 := f3) hf3.symm rfl rfl rfl ?_
      have hlf_3 : f3 lf = some (.inr (5, [.ref p, .int nu, .int ho1, .int ho2, .ref so, .ref fc, .int sz, .long ga])) := by rw [hf3, va_up_ne _ _ (cne hlf_2 hfc_2 (by simp))]; exact hlf_2
      have hso_3 : f3 so = some (.inl (cy 0, 40, .inl (upd sg (Int32.toNatClampNeg i) (sg (Int32.toNatClampNeg (i + 1)))))) := by rw [hf3, va_up_ne _ _ (hne)]; exact hso_2
      have hfc_3 : f3 fc = some (.inl (cy 0, 40, .inl (upd fg (Int32.toNatClampNeg i) (fg (Int32.toNatClampNeg (i + 1)))))) := by rw [hf3]; exact va_up_self _ _ _
      refine gz_iinc (v := (i + 1)) (lv' := [(2, .int (i + 1)), (0, .ref lf), (1, .int k0)]) dX5_drop_62 rfl rfl (by decide) rfl ?_
      refine gz_goto (tgt := 24) dX5_drop_65 (by decide) ?_
      refine gz_sub (lv' := [(2, .int (i + 1)), (0, .ref lf), (1, .int k0)]) (by simp [List.lookup]) ?_
      exact ih (i + 1) (upd sg (Int32.toNatClampNeg i) (sg (Int32.toNatClampNeg (i + 1)))) (upd fg (Int32.toNatClampNeg i) (fg (Int32.toNatClampNeg (i + 1)))) sz _ (by rw [hf3]; exact fr_up (by rw [hf2]; exact fr_up hfr (by simp)) (by simp)) hlf_3 hso_3 hfc_3 (by have e13 : (13 : Int32).toInt = 13 := rfl; have e0 : (0 : Int32).toInt = 0 := rfl; have e2 : (2 : Int32).toInt = 2 := rfl; have e1 : (1 : Int32).toInt = 1 := rfl; have e6 : (6 : Int32).toInt = 6 := rfl; have em2 : (-2 : Int32).toInt = -2 := rfl; have e40 : (40 : Int32).toInt = 40 := rfl; have hx := T_add (rfl : i.toInt = i.toInt) e1 (by omega); simp only [fl_le] at c_31; rw [hx] at c_31; omega) (by rw [drpL, if_neg c_31] at hq; exact hq)

def drpF (sg fg : Nat → Int32) (sz k0 : Int32) : (Nat → Int32) × (Nat → Int32) × (Int32) := (if (k0 : Int32) < 0 then ((sg), (fg), sz) else (if sz ≤ (k0 : Int32) then ((sg), (fg), sz) else (if (sz : Int32) ≤ 40 then (drpL  41 k0 (sg) (fg) sz) else ((sg), (fg), sz))))
set_option maxHeartbeats 4000000 in
set_option maxRecDepth 100000 in
theorem k_X5_drop {l : Launch} {D : va_G} {cy : Nat → ClassId} {b : Nat} {f : gMem} {lf p so fc : Nat} {nu ho1 ho2 sz : Int32} {ga : Int64} {sg fg : Nat → Int32} {k0 : Int32} (hlf : f lf = some (.inr (5, [.ref p, .int nu, .int ho1, .int ho2, .ref so, .ref fc, .int sz, .long ga]))) (hso : f so = some (.inl (cy 0, 40, .inl (sg)))) (hfc : f fc = some (.inl (cy 0, 40, .inl (fg)))) (hne : so ≠ fc) : gC l D cy b yX5_drop cX5_drop 3 none 0 0 0 [.ref lf, .int k0] f (pV fun f2 => f2 so = some (.inl (cy 0, 40, .inl ((drpF sg fg sz k0).1))) ∧ f2 fc = some (.inl (cy 0, 40, .inl ((drpF sg fg sz k0).2.1))) ∧ f2 lf = some (.inr (5, [.ref p, .int nu, .int ho1, .int ho2, .ref so, .ref fc, .int (drpF sg fg sz k0).2.2, .long ga])) ∧ fr [lf, so, fc] f f2) := by
  refine gC_of (by decide) (Nat.le_of_ble_eq_true rfl) ?_
  show gG l _ _ _ D cy b cX5_drop 3 _ RX5 "drop" 0 0 f 0 [(0, .ref lf), (1, .int k0)] []
  refine gz_iload_n dX5_drop_0 rfl rfl ?_
  refine gz_if_lt (tgt := 21) dX5_drop_1 (by decide) (fun c_1 => ?_) (fun c_1 => ?_)
  ·
    exact gz_vret rfl dX5_drop_21 (Nat.le_of_ble_eq_true rfl) (Nat.le_of_ble_eq_true rfl) (⟨rfl, (by rw [(show drpF sg fg sz k0 = _ from (by unfold drpF; rw [if_pos c_1]))]; exact hso), (by rw [(show drpF sg fg sz k0 = _ from (by unfold drpF; rw [if_pos c_1]))]; exact hfc), (by rw [(show drpF sg fg sz k0 = _ from (by unfold drpF; rw [if_pos c_1]))]; exact hlf), fr_rf⟩)
  ·
    refine gz_iload_n dX5_drop_4 rfl rfl ?_
    refine gz_aload_n dX5_drop_5 rfl rfl ?_
    refine sgX5_32 hlf rfl dX5_drop_6 ?_
    refine gz_icmp_ge (tgt := 21) dX5_drop_9 (by decide) (fun c_9 => ?_) (fun c_9 => ?_)
    ·
      exact gz_vret rfl dX5_drop_21 (Nat.le_of_ble_eq_true rfl) (Nat.le_of_ble_eq_true rfl) (⟨rfl, (by rw [(show drpF sg fg sz k0 = _ from (by unfold drpF; rw [if_neg c_1, if_pos c_9]))]; exact hso), (by rw [(show drpF sg fg sz k0 = _ from (by unfold drpF; rw [if_neg c_1, if_pos c_9]))]; exact hfc), (by rw [(show drpF sg fg sz k0 = _ from (by unfold drpF; rw [if_neg c_1, if_pos c_9]))]; exact hlf), fr_rf⟩)
    ·
      refine gz_aload_n dX5_drop_12 rfl rfl ?_
      refine sgX5_32 hlf rfl dX5_drop_13 ?_
      refine gz_bipush (v := 40) dX5_drop_16 (by decide) ?_
      refine gz_icmp_le (tgt := 22) dX5_drop_18 (by decide) (fun c_18 => ?_) (fun c_18 => ?_)
      ·
        refine gz_iload_n dX5_drop_22 rfl rfl ?_
        refine gz_istore_n (lv' := [(2, .int k0), (0, .ref lf), (1, .int k0)]) dX5_drop_23 rfl (by decide) rfl ?_
        exact l_X5_drop hne 41 k0 (sg) (fg) sz _ fr_rf hlf hso hfc (by have e13 : (13 : Int32).toInt = 13 := rfl; have e0 : (0 : Int32).toInt = 0 := rfl; have e2 : (2 : Int32).toInt = 2 := rfl; have e1 : (1 : Int32).toInt = 1 := rfl; have e6 : (6 : Int32).toInt = 6 := rfl; have em2 : (-2 : Int32).toInt = -2 := rfl; have e40 : (40 : Int32).toInt = 40 := rfl; simp only [fl_lt, fl_le] at c_1 c_9 c_18; omega) (fun  f2 z0 z1 z2 zf => ⟨rfl, (by rw [(show drpF sg fg sz k0 = _ from (by unfold drpF; rw [if_neg c_1, if_neg c_9, if_pos c_18]))]; exact z0), (by rw [(show drpF sg fg sz k0 = _ from (by unfold drpF; rw [if_neg c_1, if_neg c_9, if_pos c_18]))]; exact z1), (by rw [(show drpF sg fg sz k0 = _ from (by unfold drpF; rw [if_neg c_1, if_neg c_9, if_pos c_18]))]; exact z2), zf⟩)
      ·
        exact gz_vret rfl dX5_drop_21 (Nat.le_of_ble_eq_true rfl) (Nat.le_of_ble_eq_true rfl) (⟨rfl, (by rw [(show drpF sg fg sz k0 = _ from (by unfold drpF; rw [if_neg c_1, if_neg c_9, if_neg c_18]))]; exact hso), (by rw [(show drpF sg fg sz k0 = _ from (by unfold drpF; rw [if_neg c_1, if_neg c_9, if_neg c_18]))]; exact hfc), (by rw [(show drpF sg fg sz k0 = _ from (by unfold drpF; rw [if_neg c_1, if_neg c_9, if_neg c_18]))]; exact hlf), fr_rf⟩)

def choF (n1 : Nat) (g : Nat → Int32) (s ho1 ho2 x : Int32) : Int32 := (if ((fldF n1 g s x 10) : Int32) = 0 then ho1 else ho2)
set_option maxHeartbeats 4000000 in
set_option maxRecDepth 100000 in
theorem k_X5_chooser {l : Launch} {D : va_G} {cy : Nat → ClassId} {b : Nat} {f : gMem} {lf p so fc c1 c2 n1 : Nat} {nu ho1 ho2 sz s v : Int32} {ga : Int64} {g : Nat → Int32} {x : Int32} (hlf : f lf = some (.inr (5, [.ref p, .int nu, .int ho1, .int ho2, .ref so, .ref fc, .int sz, .long ga]))) (hp : f p = some (.inr (2, [.ref c1, .ref c2, .int s, .int v]))) (h1 : f c1 = some (.inl (cy 0, n1, .inl (g)))) (hs : 0 ≤ s.toInt ∧ 13 * s.toInt ≤ n1 ∧ n1 ≤ 520) : gC l D cy b yX5_chooser cX5_chooser 2 (some .int) 1 0 0 [.ref lf, .int x] f (pI fun r f2 => r = choF n1 g s ho1 ho2 x ∧ f2 = f) := by
  refine gC_of (by decide) (Nat.le_of_ble_eq_true rfl) ?_
  show gG l _ _ _ D cy b cX5_chooser 2 _ RX5 "chooser" 0 0 f 0 [(0, .ref lf), (1, .int x)] []
  refine gz_aload_n dX5_chooser_0 rfl rfl ?_
  refine sgX5_18 hlf rfl dX5_chooser_1 ?_
  refine gz_iload_n dX5_chooser_4 rfl rfl ?_
  refine gz_bipush (v := 10) dX5_chooser_5 (by decide) ?_
  refine scX5_35 (k_X2_field (w := x) (k := 10) hp h1 hs) hp ⟨(Nat.le_of_ble_eq_true rfl), (Nat.le_of_ble_eq_true rfl)⟩ ⟨(Nat.le_of_ble_eq_true rfl), (Nat.le_of_ble_eq_true rfl)⟩ rfl rfl (Nat.le_of_ble_eq_true rfl) dX5_chooser_7 ?_
  intro v9 f9 z9; rw [z9.1, z9.2]
  refine gz_if_ne (tgt := 20) dX5_chooser_10 (by decide) (fun c_10 => ?_) (fun c_10 => ?_)
  ·
    refine gz_aload_n dX5_chooser_20 rfl rfl ?_
    refine sgX5_29 hlf rfl dX5_chooser_21 ?_
    exact gz_iret rfl dX5_chooser_24 (Nat.le_of_ble_eq_true rfl) (Nat.le_of_ble_eq_true rfl) (⟨_, rfl, (show _ = _ from Eq.symm (by unfold choF; rw [if_neg c_10])), rfl⟩)
  ·
    refine gz_aload_n dX5_chooser_13 rfl rfl ?_
    refine sgX5_26 hlf rfl dX5_chooser_14 ?_
    refine gz_goto (tgt := 24) dX5_chooser_17 (by decide) ?_
    exact gz_iret rfl dX5_chooser_24 (Nat.le_of_ble_eq_true rfl) (Nat.le_of_ble_eq_true rfl) (⟨_, rfl, (show _ = _ from Eq.symm (by unfold choF; rw [if_pos c_10])), rfl⟩)

def aboF (n1 n2 : Nat) (g h : Nat → Int32) (s v : Int32) (t : Nat → Int32) (da : Int32) (sg fg : Nat → Int32) (sz ho1 ho2 k wh : Int32) : Int32 := (if ((wdAF sg sz k) : Int32) = (-1) then (-1) else (if (wh : Int32) = 0 then (wdAF sg sz k) else (if (wh : Int32) = 1 then (fldF n1 g s (wdAF sg sz k) 0) else (if (wh : Int32) = 2 then (choF n1 g s ho1 ho2 (wdAF sg sz k)) else (if (wh : Int32) = 3 then (fcAF fg sz k) else (if (wh : Int32) = 4 then (fldF n1 g s (wdAF sg sz k) 9) else (if (wh : Int32) = 5 then (fldF n1 g s (wdAF sg sz k) 12) else (if (wh : Int32) = 6 then (if ((fldF n1 g s (wdAF sg sz k) 0) : Int32) = 4 then 1 else (if ((hldF n1 n2 g h s v t da (wdAF sg sz k)) : Int32) = 0 then 0 else 1)) else (-1)))))))))
set_option maxHeartbeats 4000000 in
set_option maxRecDepth 100000 in
theorem k_X5_about {l : Launch} {D : va_G} {cy : Nat → ClassId} {b : Nat} {f : gMem} {lf p so fc c1 c2 n1 n2 sc th : Nat} {nu ho1 ho2 sz s v da : Int32} {ga : Int64} {sg fg g h t : Nat → Int32} {k wh : Int32} (hlf : f lf = some (.inr (5, [.ref p, .int nu, .int ho1, .int ho2, .ref so, .ref fc, .int sz, .long ga]))) (hso : f so = some (.inl (cy 0, 40, .inl (sg)))) (hfc : f fc = some (.inl (cy 0, 40, .inl (fg)))) (hp : f p = some (.inr (2, [.ref c1, .ref c2, .int s, .int v]))) (h1 : f c1 = some (.inl (cy 0, n1, .inl (g)))) (h2 : f c2 = some (.inl (cy 0, n2, .inl (h)))) (hsc : f sc = some (.inr (7, [.ref th, .int da]))) (hth : f th = some (.inl (cy 0, 6, .inl (t)))) (hs : 0 ≤ s.toInt ∧ 13 * s.toInt ≤ n1 ∧ n1 ≤ 520) (hv : 0 ≤ v.toInt ∧ 2 * v.toInt ≤ n2 ∧ n2 ≤ 80) : gC l D cy b yX5_about cX5_about 5 (some .int) 3 0 0 [.ref lf, .int k, .int wh, .ref sc] f (pI fun r f2 => r = aboF n1 n2 g h s v t da sg fg sz ho1 ho2 k wh ∧ f2 = f) := by
  refine gC_of (by decide) (Nat.le_of_ble_eq_true rfl) ?_
  show gG l _ _ _ D cy b cX5_about 5 _ RX5 "about" 0 0 f 0 [(0, .ref lf), (1, .int k), (2, .int wh), (3, .ref sc)] []
  refine gz_aload_n dX5_about_0 rfl rfl ?_
  refine gz_iload_n dX5_about_1 rfl rfl ?_
  refine scX5_41 (k_X5_wordAt (k := k) hlf hso) hlf ⟨(Nat.le_of_ble_eq_true rfl), (Nat.le_of_ble_eq_true rfl)⟩ ⟨(Nat.le_of_ble_eq_true rfl), (Nat.le_of_ble_eq_true rfl)⟩ rfl rfl (Nat.le_of_ble_eq_true rfl) dX5_about_2 ?_
  intro v9 f9 z9; rw [z9.1, z9.2]
  refine gz_istore (lv' := [(4, .int (wdAF sg sz k)), (0, .ref lf), (1, .int k), (2, .int wh), (3, .ref sc)]) dX5_about_5 (by decide) rfl ?_
  refine gz_iload dX5_about_7 rfl ?_
  refine gz_iconst (v := (-1)) dX5_about_9 (by decide) ?_
  refine gz_icmp_ne (tgt := 15) dX5_about_10 (by decide) (fun c_10 => ?_) (fun c_10 => ?_)
  ·
    refine gz_iload_n dX5_about_15 rfl rfl ?_
    by_cases hw_16_0 : wh = 0
    ·
      refine gz_ev (w := .int 0) (congrArg Value.int hw_16_0) ?_
      refine gz_tableIn (off := 44) (tgt := 60) dX5_about_16 (by decide) (by decide) rfl (by decide) ?_
      refine gz_iload dX5_about_60 rfl ?_
      exact gz_iret rfl dX5_about_62 (Nat.le_of_ble_eq_true rfl) (Nat.le_of_ble_eq_true rfl) (⟨_, rfl, (show _ = _ from Eq.symm (by unfold aboF; rw [if_neg c_10, if_pos hw_16_0])), rfl⟩)
    ·
      by_cases hw_16_1 : wh = 1
      ·
        refine gz_ev (w := .int 1) (congrArg Value.int hw_16_1) ?_
        refine gz_tableIn (off := 47) (tgt := 63) dX5_about_16 (by decide) (by decide) rfl (by decide) ?_
        refine gz_aload_n dX5_about_63 rfl rfl ?_
        refine sgX5_18 hlf rfl dX5_about_64 ?_
        refine gz_iload dX5_about_67 rfl ?_
        refine gz_iconst (v := 0) dX5_about_69 (by decide) ?_
        refine scX5_35 (k_X2_field (w := (wdAF sg sz k)) (k := 0) hp h1 hs) hp ⟨(Nat.le_of_ble_eq_true rfl), (Nat.le_of_ble_eq_true rfl)⟩ ⟨(Nat.le_of_ble_eq_true rfl), (Nat.le_of_ble_eq_true rfl)⟩ rfl rfl (Nat.le_of_ble_eq_true rfl) dX5_about_70 ?_
        intro v9 f9 z9; rw [z9.1, z9.2]
        exact gz_iret rfl dX5_about_73 (Nat.le_of_ble_eq_true rfl) (Nat.le_of_ble_eq_true rfl) (⟨_, rfl, (show _ = _ from Eq.symm (by unfold aboF; rw [if_neg c_10, if_neg hw_16_0, if_pos hw_16_1])), rfl⟩)
      ·
        by_cases hw_16_2 : wh = 2
        ·
          refine gz_ev (w := .int 2) (congrArg Value.int hw_16_2) ?_
          refine gz_tableIn (off := 58) (tgt := 74) dX5_about_16 (by decide) (by decide) rfl (by decide) ?_
          refine gz_aload_n dX5_about_74 rfl rfl ?_
          refine gz_iload dX5_about_75 rfl ?_
          refine scX5_45 (k_X5_chooser (x := (wdAF sg sz k)) hlf hp h1 hs) hlf ⟨(Nat.le_of_ble_eq_true rfl), (Nat.le_of_ble_eq_true rfl)⟩ ⟨(Nat.le_of_ble_eq_true rfl), (Nat.le_of_ble_eq_true rfl)⟩ rfl rfl (Nat.le_of_ble_eq_true rfl) dX5_about_77 ?_
          intro v9 f9 z9; rw [z9.1, z9.2]
          exact gz_iret rfl dX5_about_80 (Nat.le_of_ble_eq_true rfl) (Nat.le_of_ble_eq_true rfl) (⟨_, rfl, (show _ = _ from Eq.symm (by unfold aboF; rw [if_neg c_10, if_neg hw_16_0, if_neg hw_16_1, if_pos hw_16_2])), rfl⟩)
        ·
          by_cases hw_16_3 : wh = 3
          ·
            refine gz_ev (w := .int 3) (congrArg Value.int hw_16_3) ?_
            refine gz_tableIn (off := 65) (tgt := 81) dX5_about_16 (by decide) (by decide) rfl (by decide) ?_
            refine gz_aload_n dX5_about_81 rfl rfl ?_
            refine gz_iload_n dX5_about_82 rfl rfl ?_
            refine scX5_48 (k_X5_factorAt (k := k) hlf hfc) hlf ⟨(Nat.le_of_ble_eq_true rfl), (Nat.le_of_ble_eq_true rfl)⟩ ⟨(Nat.le_of_ble_eq_true rfl), (Nat.le_of_ble_eq_true rfl)⟩ rfl rfl (Nat.le_of_ble_eq_true rfl) dX5_about_83 ?_
            intro v9 f9 z9; rw [z9.1, z9.2]
            exact gz_iret rfl dX5_about_86 (Nat.le_of_ble_eq_true rfl) (Nat.le_of_ble_eq_true rfl) (⟨_, rfl, (show _ = _ from Eq.symm (by unfold aboF; rw [if_neg c_10, if_neg hw_16_0, if_neg hw_16_1, if_neg hw_16_2, if_pos hw_16_3])), rfl⟩)
          ·
            by_cases hw_16_4 : wh = 4
            ·
              refine gz_ev (w := .int 4) (congrArg Value.int hw_16_4) ?_
              refine gz_tableIn (off := 71) (tgt := 87) dX5_about_16 (by decide) (by decide) rfl (by decide) ?_
              refine gz_aload_n dX5_about_87 rfl rfl ?_
              refine sgX5_18 hlf rfl dX5_about_88 ?_
              refine gz_iload dX5_about_91 rfl ?_
              refine gz_bipush (v := 9) dX5_about_93 (by decide) ?_
              refine scX5_35 (k_X2_field (w := (wdAF sg sz k)) (k := 9) hp h1 hs) hp ⟨(Nat.le_of_ble_eq_true rfl), (Nat.le_of_ble_eq_true rfl)⟩ ⟨(Nat.le_of_ble_eq_true rfl), (Nat.le_of_ble_eq_true rfl)⟩ rfl rfl (Nat.le_of_ble_eq_true rfl) dX5_about_95 ?_
              intro v9 f9 z9; rw [z9.1, z9.2]
              exact gz_iret rfl dX5_about_98 (Nat.le_of_ble_eq_true rfl) (Nat.le_of_ble_eq_true rfl) (⟨_, rfl, (show _ = _ from Eq.symm (by unfold aboF; rw [if_neg c_10, if_neg hw_16_0, if_neg hw_16_1, if_neg hw_16_2, if_neg hw_16_3, if_pos hw_16_4])), rfl⟩)
            ·
              by_cases hw_16_5 : wh = 5
              ·
                refine gz_ev (w := .int 5) (congrArg Value.int hw_16_5) ?_
                refine gz_tableIn (off := 83) (tgt := 99) dX5_about_16 (by decide) (by decide) rfl (by decide) ?_
                refine gz_aload_n dX5_about_99 rfl rfl ?_
                refine sgX5_18 hlf rfl dX5_about_100 ?_
                refine gz_iload dX5_about_103 rfl ?_
                refine gz_bipush (v := 12) dX5_about_105 (by decide) ?_
                refine scX5_35 (k_X2_field (w := (wdAF sg sz k)) (k := 12) hp h1 hs) hp ⟨(Nat.le_of_ble_eq_true rfl), (Nat.le_of_ble_eq_true rfl)⟩ ⟨(Nat.le_of_ble_eq_true rfl), (Nat.le_of_ble_eq_true rfl)⟩ rfl rfl (Nat.le_of_ble_eq_true rfl) dX5_about_107 ?_
                intro v9 f9 z9; rw [z9.1, z9.2]
                exact gz_iret rfl dX5_about_110 (Nat.le_of_ble_eq_true rfl) (Nat.le_of_ble_eq_true rfl) (⟨_, rfl, (show _ = _ from Eq.symm (by unfold aboF; rw [if_neg c_10, if_neg hw_16_0, if_neg hw_16_1, if_neg hw_16_2, if_neg hw_16_3, if_neg hw_16_4, if_pos hw_16_5])), rfl⟩)
              ·
                by_cases hw_16_6 : wh = 6
                ·
                  refine gz_ev (w := .int 6) (congrArg Value.int hw_16_6) ?_
                  refine gz_tableIn (off := 95) (tgt := 111) dX5_about_16 (by decide) (by decide) rfl (by decide) ?_
                  refine gz_aload_n dX5_about_111 rfl rfl ?_
                  refine sgX5_18 hlf rfl dX5_about_112 ?_
                  refine gz_iload dX5_about_115 rfl ?_
                  refine gz_iconst (v := 0) dX5_about_117 (by decide) ?_
                  refine scX5_35 (k_X2_field (w := (wdAF sg sz k)) (k := 0) hp h1 hs) hp ⟨(Nat.le_of_ble_eq_true rfl), (Nat.le_of_ble_eq_true rfl)⟩ ⟨(Nat.le_of_ble_eq_true rfl), (Nat.le_of_ble_eq_true rfl)⟩ rfl rfl (Nat.le_of_ble_eq_true rfl) dX5_about_118 ?_
                  intro v9 f9 z9; rw [z9.1, z9.2]
                  refine gz_iconst (v := 4) dX5_about_121 (by decide) ?_
                  refine gz_icmp_eq (tgt := 138) dX5_about_122 (by decide) (fun c_122 => ?_) (fun c_122 => ?_)
                  ·
                    refine gz_iconst (v := 1) dX5_about_138 (by decide) ?_
                    refine gz_goto (tgt := 143) dX5_about_139 (by decide) ?_
                    exact gz_iret rfl dX5_about_143 (Nat.le_of_ble_eq_true rfl) (Nat.le_of_ble_eq_true rfl) (⟨_, rfl, (show _ = _ from Eq.symm (by unfold aboF; rw [if_neg c_10, if_neg hw_16_0, if_neg hw_16_1, if_neg hw_16_2, if_neg hw_16_3, if_neg hw_16_4, if_neg hw_16_5, if_pos hw_16_6, if_pos c_122])), rfl⟩)
                  ·
                    refine gz_aload_n dX5_about_125 rfl rfl ?_
                    refine sgX5_18 hlf rfl dX5_about_126 ?_
                    refine gz_iload dX5_about_129 rfl ?_
                    refine gz_aload_n dX5_about_131 rfl rfl ?_
                    refine scX5_51 (k_X2_holds (w := (wdAF sg sz k)) hp h1 h2 hsc hth hs hv) hp ⟨(Nat.le_of_ble_eq_true rfl), (Nat.le_of_ble_eq_true rfl)⟩ ⟨(Nat.le_of_ble_eq_true rfl), (Nat.le_of_ble_eq_true rfl)⟩ rfl rfl (Nat.le_of_ble_eq_true rfl) dX5_about_132 ?_
                    intro v9 f9 z9; rw [z9.1, z9.2]
                    refine gz_if_eq (tgt := 142) dX5_about_135 (by decide) (fun c_135 => ?_) (fun c_135 => ?_)
                    ·
                      refine gz_iconst (v := 0) dX5_about_142 (by decide) ?_
                      exact gz_iret rfl dX5_about_143 (Nat.le_of_ble_eq_true rfl) (Nat.le_of_ble_eq_true rfl) (⟨_, rfl, (show _ = _ from Eq.symm (by unfold aboF; rw [if_neg c_10, if_neg hw_16_0, if_neg hw_16_1, if_neg hw_16_2, if_neg hw_16_3, if_neg hw_16_4, if_neg hw_16_5, if_pos hw_16_6, if_neg c_122, if_pos c_135])), rfl⟩)
                    ·
                      refine gz_iconst (v := 1) dX5_about_138 (by decide) ?_
                      refine gz_goto (tgt := 143) dX5_about_139 (by decide) ?_
                      exact gz_iret rfl dX5_about_143 (Nat.le_of_ble_eq_true rfl) (Nat.le_of_ble_eq_true rfl) (⟨_, rfl, (show _ = _ from Eq.symm (by unfold aboF; rw [if_neg c_10, if_neg hw_16_0, if_neg hw_16_1, if_neg hw_16_2, if_neg hw_16_3, if_neg hw_16_4, if_neg hw_16_5, if_pos hw_16_6, if_neg c_122, if_neg c_135])), rfl⟩)
                ·
                  refine gz_tableOut (tgt := 144) dX5_about_16 (by have g0 : wh.toInt ≠ 0 := fun e => hw_16_0 (Int32.toInt_inj.mp (e.trans rfl)); have g1 : wh.toInt ≠ 1 := fun e => hw_16_1 (Int32.toInt_inj.mp (e.trans rfl)); have g2 : wh.toInt ≠ 2 := fun e => hw_16_2 (Int32.toInt_inj.mp (e.trans rfl)); have g3 : wh.toInt ≠ 3 := fun e => hw_16_3 (Int32.toInt_inj.mp (e.trans rfl)); have g4 : wh.toInt ≠ 4 := fun e => hw_16_4 (Int32.toInt_inj.mp (e.trans rfl)); have g5 : wh.toInt ≠ 5 := fun e => hw_16_5 (Int32.toInt_inj.mp (e.trans rfl)); have g6 : wh.toInt ≠ 6 := fun e => hw_16_6 (Int32.toInt_inj.mp (e.trans rfl)); omega) (by decide) ?_
                  refine gz_iconst (v := (-1)) dX5_about_144 (by decide) ?_
                  exact gz_iret rfl dX5_about_145 (Nat.le_of_ble_eq_true rfl) (Nat.le_of_ble_eq_true rfl) (⟨_, rfl, (show _ = _ from Eq.symm (by unfold aboF; rw [if_neg c_10, if_neg hw_16_0, if_neg hw_16_1, if_neg hw_16_2, if_neg hw_16_3, if_neg hw_16_4, if_neg hw_16_5, if_neg hw_16_6])), rfl⟩)
  ·
    refine gz_iconst (v := (-1)) dX5_about_13 (by decide) ?_
    exact gz_iret rfl dX5_about_14 (Nat.le_of_ble_eq_true rfl) (Nat.le_of_ble_eq_true rfl) (⟨_, rfl, (show _ = _ from Eq.symm (by unfold aboF; rw [if_pos c_10])), rfl⟩)
