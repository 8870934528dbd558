set_option maxHeartbeats 4000000 in
set_option maxRecDepth 100000 in
theorem k_X10_size {l : Launch} {D : va_G} {cy : Nat → ClassId} {b : Nat} {f : gMem} {wo we stp pa ba td p : Nat} {sz ah go : Int32} (hwo : f wo = some (.inr (10, [.int sz, .ref we, .ref stp, .ref pa, .ref ba, .ref td, .ref p, .int ah, .int go])))  : gC l D cy b yX10_size cX10_size 1 (some .int) 0 0 0 [.ref wo] f (pI fun r f2 => r = sz ∧ f2 = f) := by
  refine gC_of (by decide) (Nat.le_of_ble_eq_true rfl) ?_
  show gG l _ _ _ D cy b cX10_size 1 _ RX10 "size" 0 0 f 0 [(0, .ref wo)] []
  refine gz_aload_n dX10_size_0 rfl rfl ?_
  refine sgX10_9 hwo rfl dX10_size_1 ?_
  exact gz_iret rfl dX10_size_4 (Nat.le_of_ble_eq_true rfl) (Nat.le_of_ble_eq_true rfl) (⟨_, rfl, rfl, rfl⟩)

def wghF (weg : Nat → Int32) (sz x y : Int32) : (Int32) × (Nat → Int32) := (if (x : Int32) < 0 then (0, (weg)) else (if sz ≤ (x : Int32) then (0, (weg)) else (if 3 ≤ (x : Int32) then (0, (weg)) else (if (y : Int32) < 1 then (0, (weg)) else (if (y : Int32) ≤ 4 then (1, (upd weg (Int32.toNatClampNeg x) y)) else (0, (weg)))))))
set_option maxHeartbeats 4000000 in
set_option maxRecDepth 100000 in
theorem k_X10_weigh {l : Launch} {D : va_G} {cy : Nat → ClassId} {b : Nat} {f : gMem} {wo we stp pa ba td p : Nat} {sz ah go : Int32} {weg : Nat → Int32} {x y : Int32} (hwo : f wo = some (.inr (10, [.int sz, .ref we, .ref stp, .ref pa, .ref ba, .ref td, .ref p, .int ah, .int go]))) (hwe : f we = some (.inl (cy 0, 3, .inl (weg))))  : gC l D cy b yX10_weigh cX10_weigh 3 (some .boolean) 0 0 0 [.ref wo, .int x, .int y] f (pI fun r f2 => r = (wghF weg sz x y).1 ∧ f2 we = some (.inl (cy 0, 3, .inl ((wghF weg sz x y).2))) ∧ fr [we] f f2) := by
  refine gC_of (by decide) (Nat.le_of_ble_eq_true rfl) ?_
  show gG l _ _ _ D cy b cX10_weigh 3 _ RX10 "weigh" 0 0 f 0 [(0, .ref wo), (1, .int x), (2, .int y)] []
  refine gz_iload_n dX10_weigh_0 rfl rfl ?_
  refine gz_if_lt (tgt := 27) dX10_weigh_1 (by decide) (fun c_1 => ?_) (fun c_1 => ?_)
  ·
    refine gz_iconst (v := 0) dX10_weigh_27 (by decide) ?_
    exact gz_zret rfl (by first | decide | exact nrb (Or.inl rfl) | (refine nrb ?_; (repeat' split) <;> first | assumption | exact Or.inl rfl | exact Or.inr rfl)) dX10_weigh_28 (Nat.le_of_ble_eq_true rfl) (Nat.le_of_ble_eq_true rfl) (⟨_, rfl, (by rw [(show wghF weg sz x y = _ from (by unfold wghF; rw [if_pos c_1]))]), (by rw [(show wghF weg sz x y = _ from (by unfold wghF; rw [if_pos c_1]))]; exact hwe), fr_rf⟩)
  ·
    refine gz_iload_n dX10_weigh_4 rfl rfl ?_
    refine gz_aload_n dX10_weigh_5 rfl rfl ?_
    refine sgX10_9 hwo rfl dX10_weigh_6 ?_
    refine gz_icmp_ge (tgt := 27) dX10_weigh_9 (by decide) (fun c_9 => ?_) (fun c_9 => ?_)
    ·
      refine gz_iconst (v := 0) dX10_weigh_27 (by decide) ?_
      exact gz_zret rfl (by first | decide | exact nrb (Or.inl rfl) | (refine nrb ?_; (repeat' split) <;> first | assumption | exact Or.inl rfl | exact Or.inr rfl)) dX10_weigh_28 (Nat.le_of_ble_eq_true rfl) (Nat.le_of_ble_eq_true rfl) (⟨_, rfl, (by rw [(show wghF weg sz x y = _ from (by unfold wghF; rw [if_neg c_1, if_pos c_9]))]), (by rw [(show wghF weg sz x y = _ from (by unfold wghF; rw [if_neg c_1, if_pos c_9]))]; exact hwe), fr_rf⟩)
    ·
      refine gz_iload_n dX10_weigh_12 rfl rfl ?_
      refine gz_iconst (v := 3) dX10_weigh_13 (by decide) ?_
      refine gz_icmp_ge (tgt := 27) dX10_weigh_14 (by decide) (fun c_14 => ?_) (fun c_14 => ?_)
      ·
        refine gz_iconst (v := 0) dX10_weigh_27 (by decide) ?_
        exact gz_zret rfl (by first | decide | exact nrb (Or.inl rfl) | (refine nrb ?_; (repeat' split) <;> first | assumption | exact Or.inl rfl | exact Or.inr rfl)) dX10_weigh_28 (Nat.le_of_ble_eq_true rfl) (Nat.le_of_ble_eq_true rfl) (⟨_, rfl, (by rw [(show wghF weg sz x y = _ from (by unfold wghF; rw [if_neg c_1, if_neg c_9, if_pos c_14]))]), (by rw [(show wghF weg sz x y = _ from (by unfold wghF; rw [if_neg c_1, if_neg c_9, if_pos c_14]))]; exact hwe), fr_rf⟩)
      ·
        refine gz_iload_n dX10_weigh_17 rfl rfl ?_
        refine gz_iconst (v := 1) dX10_weigh_18 (by decide) ?_
        refine gz_icmp_lt (tgt := 27) dX10_weigh_19 (by decide) (fun c_19 => ?_) (fun c_19 => ?_)
        ·
          refine gz_iconst (v := 0) dX10_weigh_27 (by decide) ?_
          exact gz_zret rfl (by first | decide | exact nrb (Or.inl rfl) | (refine nrb ?_; (repeat' split) <;> first | assumption | exact Or.inl rfl | exact Or.inr rfl)) dX10_weigh_28 (Nat.le_of_ble_eq_true rfl) (Nat.le_of_ble_eq_true rfl) (⟨_, rfl, (by rw [(show wghF weg sz x y = _ from (by unfold wghF; rw [if_neg c_1, if_neg c_9, if_neg c_14, if_pos c_19]))]), (by rw [(show wghF weg sz x y = _ from (by unfold wghF; rw [if_neg c_1, if_neg c_9, if_neg c_14, if_pos c_19]))]; exact hwe), fr_rf⟩)
        ·
          refine gz_iload_n dX10_weigh_22 rfl rfl ?_
          refine gz_iconst (v := 4) dX10_weigh_23 (by decide) ?_
          refine gz_icmp_le (tgt := 29) dX10_weigh_24 (by decide) (fun c_24 => ?_) (fun c_24 => ?_)
          ·
            refine gz_aload_n dX10_weigh_29 rfl rfl ?_
            refine sgX10_15 hwo rfl dX10_weigh_30 ?_
            refine gz_iload_n dX10_weigh_33 rfl rfl ?_
            refine gz_iload_n dX10_weigh_34 rfl rfl ?_
            refine gz_iast hwe ((by have e13 : (13 : Int32).toInt = 13 := rfl; have e0 : (0 : Int32).toInt = 0 := rfl; have e2 : (2 : Int32).toInt = 2 := rfl; have e1 : (1 : Int32).toInt = 1 := rfl; have e6 : (6 : Int32).toInt = 6 := rfl; have em2 : (-2 : Int32).toInt = -2 := rfl; have e3 : (3 : Int32).toInt = 3 := rfl; have e6 : (6 : Int32).toInt = 6 := rfl; have e4 : (4 : Int32).toInt = 4 := rfl; have e18 : (18 : Int32).toInt = 18 := rfl; simp only [fl_lt, fl_le] at c_1 c_14; exact vin_T (rfl : x.toInt = x.toInt) (by omega) (by omega))) dX10_weigh_35 ?_
            obtain ⟨f1, hf1⟩ : ∃ gg : gMem, gg = va_up f we (some (.inl (cy 0, 3, .inl (upd weg (Int32.toNatClampNeg x) y)))) := ⟨_, rfl⟩
            refine gz_eq (f2 := f1) hf1.symm rfl rfl rfl ?_
            have hwo_1 : f1 wo = some (.inr (10, [.int sz, .ref we, .ref stp, .ref pa, .ref ba, .ref td, .ref p, .int ah, .int go])) := by rw [hf1, va_up_ne _ _ (cne hwo hwe (by simp))]; exact hwo
            have hwe_1 : f1 we = some (.inl (cy 0, 3, .inl (upd weg (Int32.toNatClampNeg x) y))) := by rw [hf1]; exact va_up_self _ _ _
            refine gz_iconst (v := 1) dX10_weigh_36 (by decide) ?_
            exact gz_zret rfl (by first | decide | exact nrb (Or.inl rfl) | (refine nrb ?_; (repeat' split) <;> first | assumption | exact Or.inl rfl | exact Or.inr rfl)) dX10_weigh_37 (Nat.le_of_ble_eq_true rfl) (Nat.le_of_ble_eq_true rfl) (⟨_, rfl, (by rw [(show wghF weg sz x y = _ from (by unfold wghF; rw [if_neg c_1, if_neg c_9, if_neg c_14, if_neg c_19, if_pos c_24]))]), (by rw [(show wghF weg sz x y = _ from (by unfold wghF; rw [if_neg c_1, if_neg c_9, if_neg c_14, if_neg c_19, if_pos c_24]))]; exact hwe_1), (by rw [hf1]; exact fr_up fr_rf (by simp))⟩)
          ·
            refine gz_iconst (v := 0) dX10_weigh_27 (by decide) ?_
            exact gz_zret rfl (by first | decide | exact nrb (Or.inl rfl) | (refine nrb ?_; (repeat' split) <;> first | assumption | exact Or.inl rfl | exact Or.inr rfl)) dX10_weigh_28 (Nat.le_of_ble_eq_true rfl) (Nat.le_of_ble_eq_true rfl) (⟨_, rfl, (by rw [(show wghF weg sz x y = _ from (by unfold wghF; rw [if_neg c_1, if_neg c_9, if_neg c_14, if_neg c_19, if_neg c_24]))]), (by rw [(show wghF weg sz x y = _ from (by unfold wghF; rw [if_neg c_1, if_neg c_9, if_neg c_14, if_neg c_19, if_neg c_24]))]; exact hwe), fr_rf⟩)

theorem bz_wghF {weg : Nat → Int32} {sz x y : Int32} : (wghF weg sz x y).1 = 0 ∨ (wghF weg sz x y).1 = 1 := by
  unfold wghF; try simp only [lett]
  (repeat' split) <;> first | with_reducible exact Or.inl rfl | with_reducible exact Or.inr rfl | exact Or.inl rfl

def shfF (stg : Nat → Int32) (sz x y u : Int32) : (Int32) × (Nat → Int32) := (if (x : Int32) < 0 then (0, (stg)) else (if sz ≤ (x : Int32) then (0, (stg)) else (if 3 ≤ (x : Int32) then (0, (stg)) else (if (y : Int32) < 0 then (0, (stg)) else (if (y : Int32) < 6 then (if (u : Int32) < (-99) then (0, (stg)) else (if (u : Int32) ≤ 99 then (1, (upd stg (Int32.toNatClampNeg ((x * 6) + y)) u)) else (0, (stg)))) else (0, (stg)))))))
set_option maxHeartbeats 4000000 in
set_option maxRecDepth 100000 in
theorem k_X10_shift {l : Launch} {D : va_G} {cy : Nat → ClassId} {b : Nat} {f : gMem} {wo we stp pa ba td p : Nat} {sz ah go : Int32} {stg : Nat → Int32} {x y u : Int32} (hwo : f wo = some (.inr (10, [.int sz, .ref we, .ref stp, .ref pa, .ref ba, .ref td, .ref p, .int ah, .int go]))) (hst : f stp = some (.inl (cy 0, 18, .inl (stg))))  : gC l D cy b yX10_shift cX10_shift 4 (some .boolean) 0 0 0 [.ref wo, .int x, .int y, .int u] f (pI fun r f2 => r = (shfF stg sz x y u).1 ∧ f2 stp = some (.inl (cy 0, 18, .inl ((shfF stg sz x y u).2))) ∧ fr [stp] f f2) := by
  refine gC_of (by decide) (Nat.le_of_ble_eq_true rfl) ?_
  show gG l _ _ _ D cy b cX10_shift 4 _ RX10 "shift" 0 0 f 0 [(0, .ref wo), (1, .int x), (2, .int y), (3, .int u)] []
  refine gz_iload_n dX10_shift_0 rfl rfl ?_
  refine gz_if_lt (tgt := 27) dX10_shift_1 (by decide) (fun c_1 => ?_) (fun c_1 => ?_)
  ·
    refine gz_iconst (v := 0) dX10_shift_27 (by decide) ?_
    exact gz_zret rfl (by first | decide | exact nrb (Or.inl rfl) | (refine nrb ?_; (repeat' split) <;> first | assumption | exact Or.inl rfl | exact Or.inr rfl)) dX10_shift_28 (Nat.le_of_ble_eq_true rfl) (Nat.le_of_ble_eq_true rfl) (⟨_, rfl, (by rw [(show shfF stg sz x y u = _ from (by unfold shfF; rw [if_pos c_1]))]), (by rw [(show shfF stg sz x y u = _ from (by unfold shfF; rw [if_pos c_1]))]; exact hst), fr_rf⟩)
  ·
    refine gz_iload_n dX10_shift_4 rfl rfl ?_
    refine gz_aload_n dX10_shift_5 rfl rfl ?_
    refine sgX10_9 hwo rfl dX10_shift_6 ?_
    refine gz_icmp_ge (tgt := 27) dX10_shift_9 (by decide) (fun c_9 => ?_) (fun c_9 => ?_)
    ·
      refine gz_iconst (v := 0) dX10_shift_27 (by decide) ?_
      exact gz_zret rfl (by first | decide | exact nrb (Or.inl rfl) | (refine nrb ?_; (repeat' split) <;> first | assumption | exact Or.inl rfl | exact Or.inr rfl)) dX10_shift_28 (Nat.le_of_ble_eq_true rfl) (Nat.le_of_ble_eq_true rfl) (⟨_, rfl, (by rw [(show shfF stg sz x y u = _ from (by unfold shfF; rw [if_neg c_1, if_pos c_9]))]), (by rw [(show shfF stg sz x y u = _ from (by unfold shfF; rw [if_neg c_1, if_pos c_9]))]; exact hst), fr_rf⟩)
    ·
      refine gz_iload_n dX10_shift_12 rfl rfl ?_
      refine gz_iconst (v := 3) dX10_shift_13 (by decide) ?_
      refine gz_icmp_ge (tgt := 27) dX10_shift_14 (by decide) (fun c_14 => ?_) (fun c_14 => ?_)
      ·
        refine gz_iconst (v := 0) dX10_shift_27 (by decide) ?_
        exact gz_zret rfl (by first | decide | exact nrb (Or.inl rfl) | (refine nrb ?_; (repeat' split) <;> first | assumption | exact Or.inl rfl | exact Or.inr rfl)) dX10_shift_28 (Nat.le_of_ble_eq_true rfl) (Nat.le_of_ble_eq_true rfl) (⟨_, rfl, (by rw [(show shfF stg sz x y u = _ from (by unfold shfF; rw [if_neg c_1, if_neg c_9, if_pos c_14]))]), (by rw [(show shfF stg sz x y u = _ from (by unfold shfF; rw [if_neg c_1, if_neg c_9, if_pos c_14]))]; exact hst), fr_rf⟩)
      ·
        refine gz_iload_n dX10_shift_17 rfl rfl ?_
        refine gz_if_lt (tgt := 27) dX10_shift_18 (by decide) (fun c_18 => ?_) (fun c_18 => ?_)
        ·
          refine gz_iconst (v := 0) dX10_shift_27 (by decide) ?_
          exact gz_zret rfl (by first | decide | exact nrb (Or.inl rfl) | (refine nrb ?_; (repeat' split) <;> first | assumption | exact Or.inl rfl | exact Or.inr rfl)) dX10_shift_28 (Nat.le_of_ble_eq_true rfl) (Nat.le_of_ble_eq_true rfl) (⟨_, rfl, (by rw [(show shfF stg sz x y u = _ from (by unfold shfF; rw [if_neg c_1, if_neg c_9, if_neg c_14, if_pos c_18]))]), (by rw [(show shfF stg sz x y u = _ from (by unfold shfF; rw [if_neg c_1, if_neg c_9, if_neg c_14, if_pos c_18]))]; exact hst), fr_rf⟩)
        ·
          refine gz_iload_n dX10_shift_21 rfl rfl ?_
          refine gz_bipush (v := 6) dX10_shift_22 (by decide) ?_
          refine gz_icmp_lt (tgt := 29) dX10_shift_24 (by decide) (fun c_24 => ?_) (fun c_24 => ?_)
          ·
            refine gz_iload_n dX10_shift_29 rfl rfl ?_
            refine gz_bipush (v := (-99)) dX10_shift_30 (by decide) ?_
            refine gz_icmp_lt (tgt := 41) dX10_shift_32 (by decide) (fun c_32 => ?_) (fun c_32 => ?_)
            ·
              refine gz_iconst (v := 0) dX10_shift_41 (by decide) ?_
              exact gz_zret rfl (by first | decide | exact nrb (Or.inl rfl) | (refine nrb ?_; (repeat' split) <;> first | assumption | exact Or.inl rfl | exact Or.inr rfl)) dX10_shift_42 (Nat.le_of_ble_eq_true rfl) (Nat.le_of_ble_eq_true rfl) (⟨_, rfl, (by rw [(show shfF stg sz x y u = _ from (by unfold shfF; rw [if_neg c_1, if_neg c_9, if_neg c_14, if_neg c_18, if_pos c_24, if_pos c_32]))]), (by rw [(show shfF stg sz x y u = _ from (by unfold shfF; rw [if_neg c_1, if_neg c_9, if_neg c_14, if_neg c_18, if_pos c_24, if_pos c_32]))]; exact hst), fr_rf⟩)
            ·
              refine gz_iload_n dX10_shift_35 rfl rfl ?_
              refine gz_bipush (v := 99) dX10_shift_36 (by decide) ?_
              refine gz_icmp_le (tgt := 43) dX10_shift_38 (by decide) (fun c_38 => ?_) (fun c_38 => ?_)
              ·
                refine gz_aload_n dX10_shift_43 rfl rfl ?_
                refine sgX10_19 hwo rfl dX10_shift_44 ?_
                refine gz_iload_n dX10_shift_47 rfl rfl ?_
                refine gz_bipush (v := 6) dX10_shift_48 (by decide) ?_
                refine gz_imul dX10_shift_50 ?_
                refine gz_iload_n dX10_shift_51 rfl rfl ?_
                refine gz_iadd dX10_shift_52 ?_
                refine gz_iload_n dX10_shift_53 rfl rfl ?_
                refine gz_iast hst ((by have e13 : (13 : Int32).toInt = 13 := rfl; have e0 : (0 : Int32).toInt = 0 := rfl; have e2 : (2 : Int32).toInt = 2 := rfl; have e1 : (1 : Int32).toInt = 1 := rfl; have e6 : (6 : Int32).toInt = 6 := rfl; have em2 : (-2 : Int32).toInt = -2 := rfl; have e3 : (3 : Int32).toInt = 3 := rfl; have e6 : (6 : Int32).toInt = 6 := rfl; have e4 : (4 : Int32).toInt = 4 := rfl; have e18 : (18 : Int32).toInt = 18 := rfl; simp only [fl_lt, fl_le] at c_1 c_14 c_18 c_24; exact vin_T (T_add (T_mul (rfl : x.toInt = x.toInt) e6 (by omega)) (rfl : y.toInt = y.toInt) (by omega)) (by omega) (by omega))) dX10_shift_54 ?_
                obtain ⟨f1, hf1⟩ : ∃ gg : gMem, gg = va_up f stp (some (.inl (cy 0, 18, .inl (upd stg (Int32.toNatClampNeg ((x * 6) + y)) u)))) := ⟨_, rfl⟩
                refine gz_eq (f2 := f1) hf1.symm rfl rfl rfl ?_
                have hwo_1 : f1 wo = some (.inr (10, [.int sz, .ref we, .ref stp, .ref pa, .ref ba, .ref td, .ref p, .int ah, .int go])) := by rw [hf1, va_up_ne _ _ (cne hwo hst (by simp))]; exact hwo
                have hst_1 : f1 stp = some (.inl (cy 0, 18, .inl (upd stg (Int32.toNatClampNeg ((x * 6) + y)) u))) := by rw [hf1]; exact va_up_self _ _ _
                refine gz_iconst (v := 1) dX10_shift_55 (by decide) ?_
                exact gz_zret rfl (by first | decide | exact nrb (Or.inl rfl) | (refine nrb ?_; (repeat' split) <;> first | assumption | exact Or.inl rfl | exact Or.inr rfl)) dX10_shift_56 (Nat.le_of_ble_eq_true rfl) (Nat.le_of_ble_eq_true rfl) (⟨_, rfl, (by rw [(show shfF stg sz x y u = _ from (by unfold shfF; rw [if_neg c_1, if_neg c_9, if_neg c_14, if_neg c_18, if_pos c_24, if_neg c_32, if_pos c_38]))]), (by rw [(show shfF stg sz x y u = _ from (by unfold shfF; rw [if_neg c_1, if_neg c_9, if_neg c_14, if_neg c_18, if_pos c_24, if_neg c_32, if_pos c_38]))]; exact hst_1), (by rw [hf1]; exact fr_up fr_rf (by simp))⟩)
              ·
                refine gz_iconst (v := 0) dX10_shift_41 (by decide) ?_
                exact gz_zret rfl (by first | decide | exact nrb (Or.inl rfl) | (refine nrb ?_; (repeat' split) <;> first | assumption | exact Or.inl rfl | exact Or.inr rfl)) dX10_shift_42 (Nat.le_of_ble_eq_true rfl) (Nat.le_of_ble_eq_true rfl) (⟨_, rfl, (by rw [(show shfF stg sz x y u = _ from (by unfold shfF; rw [if_neg c_1, if_neg c_9, if_neg c_14, if_neg c_18, if_pos c_24, if_neg c_32, if_neg c_38]))]), (by rw [(show shfF stg sz x y u = _ from (by unfold shfF; rw [if_neg c_1, if_neg c_9, if_neg c_14, if_neg c_18, if_pos c_24, if_neg c_32, if_neg c_38]))]; exact hst), fr_rf⟩)
          ·
            refine gz_iconst (v := 0) dX10_shift_27 (by decide) ?_
            exact gz_zret rfl (by first | decide | exact nrb (Or.inl rfl) | (refine nrb ?_; (repeat' split) <;> first | assumption | exact Or.inl rfl | exact Or.inr rfl)) dX10_shift_28 (Nat.le_of_ble_eq_true rfl) (Nat.le_of_ble_eq_true rfl) (⟨_, rfl, (by rw [(show shfF stg sz x y u = _ from (by unfold shfF; rw [if_neg c_1, if_neg c_9, if_neg c_14, if_neg c_18, if_neg c_24]))]), (by rw [(show shfF stg sz x y u = _ from (by unfold shfF; rw [if_neg c_1, if_neg c_9, if_neg c_14, if_neg c_18, if_neg c_24]))]; exact hst), fr_rf⟩)

theorem bz_shfF {stg : Nat → Int32} {sz x y u : Int32} : (shfF stg sz x y u).1 = 0 ∨ (shfF stg sz x y u).1 = 1 := by
  unfold shfF; try simp only [lett]
  (repeat' split) <;> first | with_reducible exact Or.inl rfl | with_reducible exact Or.inr rfl | exact Or.inl rfl

def wgoF (weg : Nat → Int32) (x : Int32) : Int64 := (if (x : Int32) < 0 then 0 else (if 3 ≤ (x : Int32) then 0 else (weg (Int32.toNatClampNeg x)).toInt64))
set_option maxHeartbeats 4000000 in
set_option maxRecDepth 100000 in
theorem k_X10_weightOf {l : Launch} {D : va_G} {cy : Nat → ClassId} {b : Nat} {f : gMem} {wo we stp pa ba td p : Nat} {sz ah go : Int32} {weg : Nat → Int32} {x : Int32} (hwo : f wo = some (.inr (10, [.int sz, .ref we, .ref stp, .ref pa, .ref ba, .ref td, .ref p, .int ah, .int go]))) (hwe : f we = some (.inl (cy 0, 3, .inl (weg))))  : gC l D cy b yX10_weightOf cX10_weightOf 2 (some .long) 0 0 0 [.ref wo, .int x] f (pL fun r f2 => r = wgoF weg x ∧ f2 = f) := by
  refine gC_of (by decide) (Nat.le_of_ble_eq_true rfl) ?_
  show gG l _ _ _ D cy b cX10_weightOf 2 _ RX10 "weightOf" 0 0 f 0 [(0, .ref wo), (1, .int x)] []
  refine gz_iload_n dX10_weightOf_0 rfl rfl ?_
  refine gz_if_lt (tgt := 19) dX10_weightOf_1 (by decide) (fun c_1 => ?_) (fun c_1 => ?_)
  ·
    refine gz_lconst (v := 0) dX10_weightOf_19 (by decide) ?_
    exact gz_lret rfl dX10_weightOf_20 (Nat.le_of_ble_eq_true rfl) (Nat.le_of_ble_eq_true rfl) (⟨_, rfl, (show _ = _ from Eq.symm (by unfold wgoF; rw [if_pos c_1])), rfl⟩)
  ·
    refine gz_iload_n dX10_weightOf_4 rfl rfl ?_
    refine gz_iconst (v := 3) dX10_weightOf_5 (by decide) ?_
    refine gz_icmp_ge (tgt := 19) dX10_weightOf_6 (by decide) (fun c_6 => ?_) (fun c_6 => ?_)
    ·
      refine gz_lconst (v := 0) dX10_weightOf_19 (by decide) ?_
      exact gz_lret rfl dX10_weightOf_20 (Nat.le_of_ble_eq_true rfl) (Nat.le_of_ble_eq_true rfl) (⟨_, rfl, (show _ = _ from Eq.symm (by unfold wgoF; rw [if_neg c_1, if_pos c_6])), rfl⟩)
    ·
      refine gz_aload_n dX10_weightOf_9 rfl rfl ?_
      refine sgX10_15 hwo rfl dX10_weightOf_10 ?_
      refine gz_iload_n dX10_weightOf_13 rfl rfl ?_
      refine gz_iald hwe ((by have e13 : (13 : Int32).toInt = 13 := rfl; have e0 : (0 : Int32).toInt = 0 := rfl; have e2 : (2 : Int32).toInt = 2 := rfl; have e1 : (1 : Int32).toInt = 1 := rfl; have e6 : (6 : Int32).toInt = 6 := rfl; have em2 : (-2 : Int32).toInt = -2 := rfl; have e3 : (3 : Int32).toInt = 3 := rfl; have e6 : (6 : Int32).toInt = 6 := rfl; have e4 : (4 : Int32).toInt = 4 := rfl; have e18 : (18 : Int32).toInt = 18 := rfl; simp only [fl_lt, fl_le] at c_1 c_6; exact vin_T (rfl : x.toInt = x.toInt) (by omega) (by omega))) dX10_weightOf_14 ?_
      refine gz_i2l dX10_weightOf_15 ?_
      refine gz_goto (tgt := 20) dX10_weightOf_16 (by decide) ?_
      exact gz_lret rfl dX10_weightOf_20 (Nat.le_of_ble_eq_true rfl) (Nat.le_of_ble_eq_true rfl) (⟨_, rfl, (show _ = _ from Eq.symm (by unfold wgoF; rw [if_neg c_1, if_neg c_6])), rfl⟩)

def betF (n1 : Nat) (g : Nat → Int32) (s x : Int32) (y u : Int64) : Int64 := (if ((fldF n1 g s x 10) : Int32) = 0 then (if u < y then y else u) else (if u < y then u else y))
set_option maxHeartbeats 4000000 in
set_option maxRecDepth 100000 in
theorem k_X10_better {l : Launch} {D : va_G} {cy : Nat → ClassId} {b : Nat} {f : gMem} {wo we stp pa ba td p c1 c2 n1 : Nat} {sz ah go s v : Int32} {g : Nat → Int32} {x : Int32} {y u : Int64} (hwo : f wo = some (.inr (10, [.int sz, .ref we, .ref stp, .ref pa, .ref ba, .ref td, .ref p, .int ah, .int go]))) (hp : f p = some (.inr (2, [.ref c1, .ref c2, .int s, .int v]))) (h1 : f c1 = some (.inl (cy 0, n1, .inl (g)))) (hs : 0 ≤ s.toInt ∧ 13 * s.toInt ≤ n1 ∧ n1 ≤ 520) : gC l D cy b yX10_better cX10_better 6 (some .long) 1 0 0 [.ref wo, .int x, .long y, .long u] f (pL fun r f2 => r = betF n1 g s x y u ∧ f2 = f) := by
  refine gC_of (by decide) (Nat.le_of_ble_eq_true rfl) ?_
  show gG l _ _ _ D cy b cX10_better 6 _ RX10 "better" 0 0 f 0 [(0, .ref wo), (1, .int x), (2, .long y), (4, .long u)] []
  refine gz_aload_n dX10_better_0 rfl rfl ?_
  refine sgX10_37 hwo rfl dX10_better_1 ?_
  refine gz_iload_n dX10_better_4 rfl rfl ?_
  refine gz_bipush (v := 10) dX10_better_5 (by decide) ?_
  refine scX10_91 (k_X2_field (w := x) (k := 10) hp h1 hs) hp ⟨(Nat.le_of_ble_eq_true rfl), (Nat.le_of_ble_eq_true rfl)⟩ ⟨(Nat.le_of_ble_eq_true rfl), (Nat.le_of_ble_eq_true rfl)⟩ rfl rfl (Nat.le_of_ble_eq_true rfl) dX10_better_7 ?_
  intro v9 f9 z9; rw [z9.1, z9.2]
  refine gz_if_ne (tgt := 22) dX10_better_10 (by decide) (fun c_10 => ?_) (fun c_10 => ?_)
  ·
    refine gz_lload_n dX10_better_22 rfl rfl ?_
    refine gz_lload dX10_better_23 rfl ?_
    refine scX10_124 (Nat.le_of_ble_eq_true rfl) (Nat.le_of_ble_eq_true rfl) (Nat.le_of_ble_eq_true rfl) (Nat.le_of_ble_eq_true rfl) (Nat.le_of_ble_eq_true rfl) dX10_better_25 ?_
    exact gz_lret rfl dX10_better_28 (Nat.le_of_ble_eq_true rfl) (Nat.le_of_ble_eq_true rfl) (⟨_, rfl, (show _ = _ from Eq.symm (by unfold betF; rw [if_neg c_10])), rfl⟩)
  ·
    refine gz_lload_n dX10_better_13 rfl rfl ?_
    refine gz_lload dX10_better_14 rfl ?_
    refine scX10_121 (Nat.le_of_ble_eq_true rfl) (Nat.le_of_ble_eq_true rfl) (Nat.le_of_ble_eq_true rfl) (Nat.le_of_ble_eq_true rfl) (Nat.le_of_ble_eq_true rfl) dX10_better_16 ?_
    refine gz_goto (tgt := 28) dX10_better_19 (by decide) ?_
    exact gz_lret rfl dX10_better_28 (Nat.le_of_ble_eq_true rfl) (Nat.le_of_ble_eq_true rfl) (⟨_, rfl, (show _ = _ from Eq.symm (by unfold betF; rw [if_pos c_10])), rfl⟩)

def pwr2L (x : Int32) (al : Int64) : Nat → Int32 → Int64 → Int64
  | 0, _, _ => 0
  | k + 1, i, pw => (if x ≤ (i : Int32) then pw else (if 4 ≤ (i : Int32) then pw else pwr2L x al k (i + 1) (pw * al)))
set_option maxHeartbeats 4000000 in
set_option maxRecDepth 100000 in
theorem l_X10_power2 {l : Launch} {D : va_G} {cy : Nat → ClassId} {b mc ms : Nat} {f : gMem} {Po : Option Value → gMem → Prop} {wo we stp pa ba td p : Nat} {sz ah go : Int32} {weg : Nat → Int32} {x : Int32} {al : Int64}  (hwo : f wo = some (.inr (10, [.int sz, .ref we, .ref stp, .ref pa, .ref ba, .ref td, .ref p, .int ah, .int go]))) (hwe : f we = some (.inl (cy 0, 3, .inl (weg))))  : ∀ (k : Nat) (i : Int32) (pw : Int64), (0 ≤ i.toInt ∧ i.toInt ≤ 4 ∧ i.toInt + (k : Int) = 5) → (Po (some (.long (pwr2L x al k i pw))) f) → gG l (gRm 1 mc ms) (gQf D b Po mc ms) gTt D cy b cX10_power 7 (some .long) RX10 "power" 0 0 f 35 [(6, .int i), (4, .long pw), (2, .long al), (0, .ref wo), (1, .int x)] [] := by
  intro k
  induction k with
  | zero =>
    intro i pw hk hq
    exfalso; omega
  | succ k ih =>
    intro i pw hk hq
    refine gz_iload dX10_power_35 rfl ?_
    refine gz_iload_n dX10_power_37 rfl rfl ?_
    refine gz_icmp_ge (tgt := 59) dX10_power_38 (by decide) (fun c_38 => ?_) (fun c_38 => ?_)
    ·
      refine gz_lload dX10_power_59 rfl ?_
      exact gz_lret rfl dX10_power_61 (Nat.zero_le _) (Nat.zero_le _) ((by rw [pwr2L, if_pos c_38] at hq; exact hq))
    ·
      refine gz_iload dX10_power_41 rfl ?_
      refine gz_iconst (v := 4) dX10_power_43 (by decide) ?_
      refine gz_icmp_ge (tgt := 59) dX10_power_44 (by decide) (fun c_44 => ?_) (fun c_44 => ?_)
      ·
        refine gz_lload dX10_power_59 rfl ?_
        exact gz_lret rfl dX10_power_61 (Nat.zero_le _) (Nat.zero_le _) ((by rw [pwr2L, if_neg c_38, if_pos c_44] at hq; exact hq))
      ·
        refine gz_lload dX10_power_47 rfl ?_
        refine gz_lload_n dX10_power_49 rfl rfl ?_
        refine gz_lmul dX10_power_50 ?_
        refine gz_lstore (lv' := [(4, .long (pw * al)), (6, .int i), (2, .long al), (0, .ref wo), (1, .int x)]) dX10_power_51 (by decide) rfl ?_
        refine gz_iinc (v := (i + 1)) (lv' := [(6, .int (i + 1)), (4, .long (pw * al)), (2, .long al), (0, .ref wo), (1, .int x)]) dX10_power_53 rfl rfl (by decide) rfl ?_
        refine gz_goto (tgt := 35) dX10_power_56 (by decide) ?_
        refine gz_sub (lv' := [(6, .int (i + 1)), (4, .long (pw * al)), (2, .long al), (0, .ref wo), (1, .int x)]) (by simp [List.lookup]) ?_
        exact ih (i + 1) (pw * al) (by have e13 : (13 : Int32).toInt = 13 := rfl; have e0 : (0 : Int32).toInt = 0 := rfl; have e2 : (2 : Int32).toInt = 2 := rfl; have e1 : (1 : Int32).toInt = 1 := rfl; have e6 : (6 : Int32).toInt = 6 := rfl; have em2 : (-2 : Int32).toInt = -2 := rfl; have e3 : (3 : Int32).toInt = 3 := rfl; have e6 : (6 : Int32).toInt = 6 := rfl; have e4 : (4 : Int32).toInt = 4 := rfl; have e18 : (18 : Int32).toInt = 18 := rfl; simp only [fl_le] at c_44; have hx := T_add (rfl : i.toInt = i.toInt) e1 (by omega); omega) (by rw [pwr2L, if_neg c_38, if_neg c_44] at hq; exact hq)

def pwr1L (weg : Nat → Int32) (sz x : Int32) : Nat → Int32 → Int64 → Int64
  | 0, _, _ => 0
  | k + 1, i, al => (if sz ≤ (i : Int32) then (pwr2L x al 5 0 1) else pwr1L weg sz x k (i + 1) (al + (wgoF weg i)))
set_option maxHeartbeats 4000000 in
set_option maxRecDepth 100000 in
theorem l_X10_power {l : Launch} {D : va_G} {cy : Nat → ClassId} {b mc ms : Nat} {f : gMem} {Po : Option Value → gMem → Prop} {wo we stp pa ba td p : Nat} {sz ah go : Int32} {weg : Nat → Int32} {x : Int32}  (hwo : f wo = some (.inr (10, [.int sz, .ref we, .ref stp, .ref pa, .ref ba, .ref td, .ref p, .int ah, .int go]))) (hwe : f we = some (.inl (cy 0, 3, .inl (weg)))) (hz : sz.toInt ≤ 3) : ∀ (k : Nat) (i : Int32) (al : Int64), (0 ≤ i.toInt ∧ 0 < k ∧ (i.toInt < sz.toInt → sz.toInt - i.toInt < (k : Int))) → (Po (some (.long (pwr1L weg sz x k i al))) f) → gG l (gRm 1 mc ms) (gQf D b Po mc ms) gTt D cy b cX10_power 7 (some .long) RX10 "power" 0 0 f 5 [(4, .int i), (2, .long al), (0, .ref wo), (1, .int x)] [] := by
  intro k
  induction k with
  | zero =>
    intro i al hk hq
    exfalso; omega
  | succ k ih =>
    intro i al hk hq
    refine gz_iload dX10_power_5 rfl ?_
    refine gz_aload_n dX10_power_7 rfl rfl ?_
    refine sgX10_9 hwo rfl dX10_power_8 ?_
    refine gz_icmp_ge (tgt := 29) dX10_power_11 (by decide) (fun c_11 => ?_) (fun c_11 => ?_)
    ·
      refine gz_lconst (v := 1) dX10_power_29 (by decide) ?_
      refine gz_lstore (lv' := [(4, .long 1), (2, .long al), (0, .ref wo), (1, .int x)]) dX10_power_30 (by decide) rfl ?_
      refine gz_iconst (v := 0) dX10_power_32 (by decide) ?_
      refine gz_istore (lv' := [(6, .int 0), (4, .long 1), (2, .long al), (0, .ref wo), (1, .int x)]) dX10_power_33 (by decide) rfl ?_
      refine gz_sub (lv' := [(6, .int 0), (4, .long 1), (2, .long al), (0, .ref wo), (1, .int x)]) (by simp [List.lookup]) ?_
      exact l_X10_power2 hwo hwe 5 0 1 ⟨by decide, by decide, by decide⟩ (by rw [pwr1L, if_pos c_11] at hq; exact hq)
    ·
      refine gz_lload_n dX10_power_14 rfl rfl ?_
      refine gz_aload_n dX10_power_15 rfl rfl ?_
      refine gz_iload dX10_power_16 rfl ?_
      refine scX10_46 (k_X10_weightOf (x := i) hwo hwe) hwo ⟨(Nat.le_of_ble_eq_true rfl), (Nat.le_of_ble_eq_true rfl)⟩ ⟨(Nat.zero_le _), (Nat.zero_le _)⟩ rfl rfl (Nat.le_of_ble_eq_true rfl) dX10_power_18 ?_
      intro v9 f9 z9; rw [z9.1, z9.2]
      refine gz_ladd dX10_power_21 ?_
      refine gz_lstore_n (lv' := [(2, .long (al + (wgoF weg i))), (4, .int i), (0, .ref wo), (1, .int x)]) dX10_power_22 rfl (by decide) rfl ?_
      refine gz_iinc (v := (i + 1)) (lv' := [(4, .int (i + 1)), (2, .long (al + (wgoF weg i))), (0, .ref wo), (1, .int x)]) dX10_power_23 rfl rfl (by decide) rfl ?_
      refine gz_goto (tgt := 5) dX10_power_26 (by decide) ?_
      refine gz_sub (lv' := [(4, .int (i + 1)), (2, .long (al + (wgoF weg i))), (0, .ref wo), (1, .int x)]) (by simp [List.lookup]) ?_
      exact ih (i + 1) (al + (wgoF weg i)) (by have e13 : (13 : Int32).toInt = 13 := rfl; have e0 : (0 : Int32).toInt = 0 := rfl; have e2 : (2 : Int32).toInt = 2 := rfl; have e1 : (1 : Int32).toInt = 1 := rfl; have e6 : (6 : Int32).toInt = 6 := rfl; have em2 : (-2 : Int32).toInt = -2 := rfl; have e3 : (3 : Int32).toInt = 3 := rfl; have e6 : (6 : Int32).toInt = 6 := rfl; have e4 : (4 : Int32).toInt = 4 := rfl; have e18 : (18 : Int32).toInt = 18 := rfl; simp only [fl_le] at c_11; have hx := T_add (rfl : i.toInt = i.toInt) e1 (by omega); omega) (by rw [pwr1L, if_neg c_11] at hq; exact hq)

def pwrF (weg : Nat → Int32) (sz x : Int32) : Int64 := pwr1L weg sz x 4 0 0
set_option maxHeartbeats 4000000 in
set_option maxRecDepth 100000 in
theorem k_X10_power {l : Launch} {D : va_G} {cy : Nat → ClassId} {b : Nat} {f : gMem} {wo we stp pa ba td p : Nat} {sz ah go : Int32} {weg : Nat → Int32} {x : Int32} (hwo : f wo = some (.inr (10, [.int sz, .ref we, .ref stp, .ref pa, .ref ba, .ref td, .ref p, .int ah, .int go]))) (hwe : f we = some (.inl (cy 0, 3, .inl (weg)))) (hz : sz.toInt ≤ 3) : gC l D cy b yX10_power cX10_power 7 (some .long) 1 0 0 [.ref wo, .int x] f (pL fun r f2 => r = pwrF weg sz x ∧ f2 = f) := by
  refine gC_of (by decide) (Nat.le_of_ble_eq_true rfl) ?_
  show gG l _ _ _ D cy b cX10_power 7 _ RX10 "power" 0 0 f 0 [(0, .ref wo), (1, .int x)] []
  refine gz_lconst (v := 0) dX10_power_0 (by decide) ?_
  refine gz_lstore_n (lv' := [(2, .long 0), (0, .ref wo), (1, .int x)]) dX10_power_1 rfl (by decide) rfl ?_
  refine gz_iconst (v := 0) dX10_power_2 (by decide) ?_
  refine gz_istore (lv' := [(4, .int 0), (2, .long 0), (0, .ref wo), (1, .int x)]) dX10_power_3 (by decide) rfl ?_
  refine gz_sub (lv' := [(4, .int 0), (2, .long 0), (0, .ref wo), (1, .int x)]) (by simp [List.lookup]) ?_
  exact l_X10_power hwo hwe hz 4 0 0 ⟨by decide, by decide, fun _ => by have e0 : (0 : Int32).toInt = 0 := rfl; omega⟩ ⟨_, rfl, rfl, rfl⟩

def rnw2L  : Nat → (Int32) → (Nat → Int32) → (Nat → Int32)
  | 0, _, stg => stg
  | k + 1, i, stg => (if 18 ≤ (i : Int32) then (stg) else (rnw2L  k (i + 1) (upd stg (Int32.toNatClampNeg i) 0)))
set_option maxHeartbeats 4000000 in
set_option maxRecDepth 100000 in
theorem l_X10_renew2 {l : Launch} {D : va_G} {cy : Nat → ClassId} {b mc ms : Nat} {f : gMem} {Po : Option Value → gMem → Prop} {wo we stp pa ba td p : Nat} {sz ah go : Int32}  {x : Int32}   : ∀ (k : Nat) (i : Int32) (stg : Nat → Int32) (fm : gMem), fr [stp] f fm → (fm wo = some (.inr (10, [.int sz, .ref we, .ref stp, .ref pa, .ref ba, .ref td, .ref p, .int ah, .int go]))) → (fm stp = some (.inl (cy 0, 18, .inl (stg)))) → (0 ≤ i.toInt ∧ i.toInt ≤ 18 ∧ i.toInt + (k : Int) = 19) → (∀ (f2 : gMem), f2 stp = some (.inl (cy 0, 18, .inl ((rnw2L  k i stg)))) → fr [stp] f f2 → Po none f2) → gG l (gRm 0 mc ms) (gQf D b Po mc ms) gTt D cy b cX10_renew 3 none RX10 "renew" 0 0 fm 27 [(2, .int i), (0, .ref wo), (1, .int x)] [] := by
  intro k
  induction k with
  | zero =>
    intro i stg fm hfr hwo hst hk hq
    exfalso; omega
  | succ k ih =>
    intro i stg fm hfr hwo hst hk hq
    refine gz_iload_n dX10_renew_27 rfl rfl ?_
    refine gz_aload_n dX10_renew_28 rfl rfl ?_
    refine sgX10_19 hwo rfl dX10_renew_29 ?_
    refine gz_alen0 (v := 18) hst (by decide) dX10_renew_32 ?_
    refine gz_icmp_ge (tgt := 49) dX10_renew_33 (by decide) (fun c_33 => ?_) (fun c_33 => ?_)
    ·
      exact gz_vret rfl dX10_renew_49 (Nat.zero_le _) (Nat.zero_le _) ((by rw [rnw2L, if_pos c_33] at hq; exact hq _ hst hfr))
    ·
      refine gz_aload_n dX10_renew_36 rfl rfl ?_
      refine sgX10_19 hwo rfl dX10_renew_37 ?_
      refine gz_iload_n dX10_renew_40 rfl rfl ?_
      refine gz_iconst (v := 0) dX10_renew_41 (by decide) ?_
      refine gz_iast hst ((by have e13 : (13 : Int32).toInt = 13 := rfl; have e0 : (0 : Int32).toInt = 0 := rfl; have e2 : (2 : Int32).toInt = 2 := rfl; have e1 : (1 : Int32).toInt = 1 := rfl; have e6 : (6 : Int32).toInt = 6 := rfl; have em2 : (-2 : Int32).toInt = -2 := rfl; have e3 : (3 : Int32).toInt = 3 := rfl; have e6 : (6 : Int32).toInt = 6 := rfl; have e4 : (4 : Int32).toInt = 4 := rfl; have e18 : (18 : Int32).toInt = 18 := rfl; simp only [fl_le] at c_33; exact vin_T (rfl : i.toInt = i.toInt) (by omega) (by omega))) dX10_renew_42 ?_
      obtain ⟨f1, hf1⟩ : ∃ gg : gMem, gg = va_up fm stp (some (.inl (cy 0, 18, .inl (upd stg (Int32.toNatClampNeg i) 0)))) := ⟨_, rfl⟩
      refine gz_eq (f2 := f1) hf1.symm rfl rfl rfl ?_
      have hwo_1 : f1 wo = some (.inr (10, [.int sz, .ref we, .ref stp, .ref pa, .ref ba, .ref td, .ref p, .int ah, .int go])) := by rw [hf1, va_up_ne _ _ (cne hwo hst (by simp))]; exact hwo
      have hst_1 : f1 stp = some (.inl (cy 0, 18, .inl (upd stg (Int32.toNatClampNeg i) 0))) := by rw [hf1]; exact va_up_self _ _ _
      refine gz_iinc (v := (i + 1)) (lv' := [(2, .int (i + 1)), (0, .ref wo), (1, .int x)]) dX10_renew_43 rfl rfl (by decide) rfl ?_
      refine gz_goto (tgt := 27) dX10_renew_46 (by decide) ?_
      refine gz_sub (lv' := [(2, .int (i + 1)), (0, .ref wo), (1, .int x)]) (by simp [List.lookup]) ?_
      exact ih (i + 1) (upd stg (Int32.toNatClampNeg i) 0) _ (by rw [hf1]; exact fr_up hfr (by simp)) hwo_1 hst_1 (by have e13 : (13 : Int32).toInt = 13 := rfl; have e0 : (0 : Int32).toInt = 0 := rfl; have e2 : (2 : Int32).toInt = 2 := rfl; have e1 : (1 : Int32).toInt = 1 := rfl; have e6 : (6 : Int32).toInt = 6 := rfl; have em2 : (-2 : Int32).toInt = -2 := rfl; have e3 : (3 : Int32).toInt = 3 := rfl; have e6 : (6 : Int32).toInt = 6 := rfl; have e4 : (4 : Int32).toInt = 4 := rfl; have e18 : (18 : Int32).toInt = 18 := rfl; simp only [fl_le] at c_33; have hx := T_add (rfl : i.toInt = i.toInt) e1 (by omega); omega) (by rw [rnw2L, if_neg c_33] at hq; exact hq)

def rnw1L  : Nat → (Int32) → (Nat → Int32) → (Nat → Int32) → (Nat → Int32) × (Nat → Int32)
  | 0, _, weg, stg => (weg, stg)
  | k + 1, i, weg, stg => (if 3 ≤ (i : Int32) then ((weg), (rnw2L 19 0 stg)) else (rnw1L  k (i + 1) (upd weg (Int32.toNatClampNeg i) 1) (stg)))
set_option maxHeartbeats 4000000 in
set_option maxRecDepth 100000 in
theorem l_X10_renew {l : Launch} {D : va_G} {cy : Nat → ClassId} {b mc ms : Nat} {f : gMem} {Po : Option Value → gMem → Prop} {wo we stp pa ba td p : Nat} {sz ah go : Int32}  {x : Int32}  (hne : we ≠ stp) : ∀ (k : Nat) (i : Int32) (weg : Nat → Int32) (stg : Nat → Int32) (fm : gMem), fr [we, stp] f fm → (fm wo = some (.inr (10, [.int sz, .ref we, .ref stp, .ref pa, .ref ba, .ref td, .ref p, .int ah, .int go]))) → (fm we = some (.inl (cy 0, 3, .inl (weg)))) → (fm stp = some (.inl (cy 0, 18, .inl (stg)))) → (0 ≤ i.toInt ∧ i.toInt ≤ 3 ∧ i.toInt + (k : Int) = 4) → (∀ (f2 : gMem), f2 we = some (.inl (cy 0, 3, .inl ((rnw1L  k i weg stg).1))) → f2 stp = some (.inl (cy 0, 18, .inl ((rnw1L  k i weg stg).2))) → fr [we, stp] f f2 → Po none f2) → gG l (gRm 0 mc ms) (gQf D b Po mc ms) gTt D cy b cX10_renew 3 none RX10 "renew" 0 0 fm 7 [(2, .int i), (0, .ref wo), (1, .int x)] [] := by
  intro k
  induction k with
  | zero =>
    intro i weg stg fm hfr hwo hwe hst hk hq
    exfalso; omega
  | succ k ih =>
    intro i weg stg fm hfr hwo hwe hst hk hq
    refine gz_iload_n dX10_renew_7 rfl rfl ?_
    refine gz_iconst (v := 3) dX10_renew_8 (by decide) ?_
    refine gz_icmp_ge (tgt := 25) dX10_renew_9 (by decide) (fun c_9 => ?_) (fun c_9 => ?_)
    ·
      refine gz_iconst (v := 0) dX10_renew_25 (by decide) ?_
      refine gz_istore_n (lv' := [(2, .int 0), (0, .ref wo), (1, .int x)]) dX10_renew_26 rfl (by decide) rfl ?_
      refine gz_sub (lv' := [(2, .int 0), (0, .ref wo), (1, .int x)]) (by simp [List.lookup]) ?_
      exact l_X10_renew2 19 0 stg _ fr_rf hwo hst ⟨by decide, by decide, by decide⟩ (fun f2 z0 zf => by rw [rnw1L, if_pos c_9] at hq; exact hq f2 (zf _ _ hwe (by simp only [List.mem_cons, List.not_mem_nil, or_false, not_or]; exact hne)) z0 (fr_tr hfr (fr_mo zf (by simp))))
    ·
      refine gz_aload_n dX10_renew_12 rfl rfl ?_
      refine sgX10_15 hwo rfl dX10_renew_13 ?_
      refine gz_iload_n dX10_renew_16 rfl rfl ?_
      refine gz_iconst (v := 1) dX10_renew_17 (by decide) ?_
      refine gz_iast hwe ((by have e13 : (13 : Int32).toInt = 13 := rfl; have e0 : (0 : Int32).toInt = 0 := rfl; have e2 : (2 : Int32).toInt = 2 := rfl; have e1 : (1 : Int32).toInt = 1 := rfl; have e6 : (6 : Int32).toInt = 6 := rfl; have em2 : (-2 : Int32).toInt = -2 := rfl; have e3 : (3 : Int32).toInt = 3 := rfl; have e6 : (6 : Int32).toInt = 6 := rfl; have e4 : (4 : Int32).toInt = 4 := rfl; have e18 : (18 : Int32).toInt = 18 := rfl; simp only [fl_le] at c_9; exact vin_T (rfl : i.toInt = i.toInt) (by omega) (by omega))) dX10_renew_18 ?_
      obtain ⟨f1, hf1⟩ : ∃ gg : gMem, gg = va_up fm we (some (.inl (cy 0, 3, .inl (upd weg (Int32.toNatClampNeg i) 1)))) := ⟨_, rfl⟩
      refine gz_eq (f2 := f1) hf1.symm rfl rfl rfl ?_
      have hwo_1 : f1 wo = some (.inr (10, [.int sz, .ref we, .ref stp, .ref pa, .ref ba, .ref td, .ref p, .int ah, .int go])) := by rw [hf1, va_up_ne _ _ (cne hwo hwe (by simp))]; exact hwo
      have hst_1 : f1 stp = some (.inl (cy 0, 18, .inl (stg))) := by rw [hf1, va_up_ne _ _ (Ne.symm (hne))]; exact hst
      have hwe_1 : f1 we = some (.inl (cy 0, 3, .inl (upd weg (Int32.toNatClampNeg i) 1))) := by rw [hf1]; exact va_up_self _ _ _
      refine gz_iinc (v := (i + 1)) (lv' := [(2, .int (i + 1)), (0, .ref wo), (1, .int x)]) dX10_renew_19 rfl rfl (by decide) rfl ?_
      refine gz_goto (tgt := 7) dX10_renew_22 (by decide) ?_
      refine gz_sub (lv' := [(2, .int (i + 1)), (0, .ref wo), (1, .int x)]) (by simp [List.lookup]) ?_
      exact ih (i + 1) (upd weg (Int32.toNatClampNeg i) 1) (stg) _ (by rw [hf1]; exact fr_up hfr (by simp)) hwo_1 hwe_1 hst_1 (by have e13 : (13 : Int32).toInt = 13 := rfl; have e0 : (0 : Int32).toInt = 0 := rfl; have e2 : (2 : Int32).toInt = 2 := rfl; have e1 : (1 : Int32).toInt = 1 := rfl; have e6 : (6 : Int32).toInt = 6 := rfl; have em2 : (-2 : Int32).toInt = -2 := rfl; have e3 : (3 : Int32).toInt = 3 := rfl; have e6 : (6 : Int32).toInt = 6 := rfl; have e4 : (4 : Int32).toInt = 4 := rfl; have e18 : (18 : Int32).toInt = 18 := rfl; simp only [fl_le] at c_9; have hx := T_add (rfl : i.toInt = i.toInt) e1 (by omega); omega) (by rw [rnw1L, if_neg c_9] at hq; exact hq)

set_option maxHeartbeats 4000000 in
set_option maxRecDepth 100000 in
theorem k_X10_renew {l : Launch} {D : va_G} {cy : Nat → ClassId} {b : Nat} {f : gMem} {wo we stp pa ba td p : Nat} {sz ah go : Int32} {weg stg : Nat → Int32} {x : Int32} (hwo : f wo = some (.inr (10, [.int sz, .ref we, .ref stp, .ref pa, .ref ba, .ref td, .ref p, .int ah, .int go]))) (hwe : f we = some (.inl (cy 0, 3, .inl (weg)))) (hst : f stp = some (.inl (cy 0, 18, .inl (stg)))) (hne : we ≠ stp) : gC l D cy b yX10_renew cX10_renew 3 none 0 0 0 [.ref wo, .int x] f (pV fun f2 => f2 wo = some (.inr (10, [.int x, .ref we, .ref stp, .ref pa, .ref ba, .ref td, .ref p, .int ah, .int go])) ∧ f2 we = some (.inl (cy 0, 3, .inl ((rnw1L 4 0 weg stg).1))) ∧ f2 stp = some (.inl (cy 0, 18, .inl ((rnw1L 4 0 weg stg).2))) ∧ fr [wo, we, stp] f f2) := by
  refine gC_of (by decide) (Nat.le_of_ble_eq_true rfl) ?_
  show gG l _ _ _ D cy b cX10_renew 3 _ RX10 "renew" 0 0 f 0 [(0, .ref wo), (1, .int x)] []
  refine gz_aload_n dX10_renew_0 rfl rfl ?_
  refine gz_iload_n dX10_renew_1 rfl rfl ?_
  refine spX10_9 hwo  (Nat.le_of_ble_eq_true rfl) dX10_renew_2 ?_
  obtain ⟨f1, hf1⟩ : ∃ gg : gMem, gg = va_up f wo (some (.inr (10, [.int x, .ref we, .ref stp, .ref pa, .ref ba, .ref td, .ref p, .int ah, .int go]))) := ⟨_, rfl⟩
  refine gz_eq (f2 := f1) hf1.symm rfl rfl rfl ?_
  have hwe_1 : f1 we = some (.inl (cy 0, 3, .inl (weg))) := by rw [hf1, va_up_ne _ _ (cne hwe hwo (by simp))]; exact hwe
  have hst_1 : f1 stp = some (.inl (cy 0, 18, .inl (stg))) := by rw [hf1, va_up_ne _ _ (cne hst hwo (by simp))]; exact hst
  have hwo_1 : f1 wo = some (.inr (10, [.int x, .ref we, .ref stp, .ref pa, .ref ba, .ref td, .ref p, .int ah, .int go])) := by rw [hf1]; exact va_up_self _ _ _
  refine gz_iconst (v := 0) dX10_renew_5 (by decide) ?_
  refine gz_istore_n (lv' := [(2, .int 0), (0, .ref wo), (1, .int x)]) dX10_renew_6 rfl (by decide) rfl ?_
  refine gz_sub (lv' := [(2, .int 0), (0, .ref wo), (1, .int x)]) (by simp [List.lookup]) ?_
  exact l_X10_renew hne 4 0 weg stg _ fr_rf hwo_1 hwe_1 hst_1 ⟨by decide, by decide, by decide⟩ (fun f2 z0 z1 zf => ⟨rfl, zf _ _ hwo_1 (by simp only [List.mem_cons, List.not_mem_nil, or_false, not_or]; exact ⟨cne hwo_1 hwe_1 (by simp), cne hwo_1 hst_1 (by simp)⟩), z0, z1, fr_tr (by rw [hf1]; exact fr_up fr_rf (by simp)) (fr_mo zf (by simp))⟩)
