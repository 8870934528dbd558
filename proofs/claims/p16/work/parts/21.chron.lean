theorem T_dec {i : Int32} (h : -2147483647 ≤ i.toInt) (h2 : i.toInt ≤ 2147483647) : (i + (-1)).toInt = i.toInt - 1 := by
  have e1 : (1 : Int32).toInt = 1 := rfl
  have hx := T_sub (rfl : i.toInt = i.toInt) e1 (by omega)
  rw [← hx, Int32.sub_eq_add_neg]

def trnF (da : Int32) : (Int32) × (Int32) := (if (da : Int32) < 399 then (1, (da + 1)) else (0, da))
set_option maxHeartbeats 4000000 in
set_option maxRecDepth 100000 in
theorem k_X0_turn {l : Launch} {D : va_G} {cy : Nat → ClassId} {b : Nat} {f : gMem} {ch tl sc th : Nat} {da : Int32} (hch : f ch = some (.inr (0, [.ref tl, .ref sc]))) (hsc : f sc = some (.inr (7, [.ref th, .int da])))  : gC l D cy b yX0_turn cX0_turn 1 (some .boolean) 0 0 0 [.ref ch] f (pI fun r f2 => r = (trnF da).1 ∧ f2 sc = some (.inr (7, [.ref th, .int (trnF da).2])) ∧ fr [sc] f f2) := by
  refine gC_of (by decide) (Nat.le_of_ble_eq_true rfl) ?_
  show gG l _ _ _ D cy b cX0_turn 1 _ RX0 "turn" 0 0 f 0 [(0, .ref ch)] []
  refine gz_aload_n dX0_turn_0 rfl rfl ?_
  refine sgX0_18 hch rfl dX0_turn_1 ?_
  refine sgX0_22 hsc rfl dX0_turn_4 ?_
  refine gz_sipush (v := 399) dX0_turn_7 (by decide) ?_
  refine gz_icmp_lt (tgt := 15) dX0_turn_10 (by decide) (fun c_10 => ?_) (fun c_10 => ?_)
  ·
    refine gz_aload_n dX0_turn_15 rfl rfl ?_
    refine sgX0_18 hch rfl dX0_turn_16 ?_
    refine gz_dup dX0_turn_19 rfl ?_
    refine sgX0_22 hsc rfl dX0_turn_20 ?_
    refine gz_iconst (v := 1) dX0_turn_23 (by decide) ?_
    refine gz_iadd dX0_turn_24 ?_
    refine spX0_22 hsc  (Nat.le_of_ble_eq_true rfl) dX0_turn_25 ?_
    obtain ⟨f1, hf1⟩ : ∃ gg : gMem, gg = va_up f sc (some (.inr (7, [.ref th, .int (da + 1)]))) := ⟨_, rfl⟩
    refine gz_eq (f2 := f1) hf1.symm rfl rfl rfl ?_
    have hch_1 : f1 ch = some (.inr (0, [.ref tl, .ref sc])) := by rw [hf1, va_up_ne _ _ (cne hch hsc (by simp))]; exact hch
    have hsc_1 : f1 sc = some (.inr (7, [.ref th, .int (da + 1)])) := by rw [hf1]; exact va_up_self _ _ _
    refine gz_iconst (v := 1) dX0_turn_28 (by decide) ?_
    exact gz_zret rfl (by first | decide | exact nrb (Or.inl rfl) | (refine nrb ?_; (repeat' split) <;> first | assumption | exact Or.inl rfl | exact Or.inr rfl)) dX0_turn_29 (Nat.le_of_ble_eq_true rfl) (Nat.le_of_ble_eq_true rfl) (⟨_, rfl, (by rw [(show trnF da = _ from (by unfold trnF; rw [if_pos c_10]))]), (by rw [(show trnF da = _ from (by unfold trnF; rw [if_pos c_10]))]; exact hsc_1), (by rw [hf1]; exact fr_up fr_rf (by simp))⟩)
  ·
    refine gz_iconst (v := 0) dX0_turn_13 (by decide) ?_
    exact gz_zret rfl (by first | decide | exact nrb (Or.inl rfl) | (refine nrb ?_; (repeat' split) <;> first | assumption | exact Or.inl rfl | exact Or.inr rfl)) dX0_turn_14 (Nat.le_of_ble_eq_true rfl) (Nat.le_of_ble_eq_true rfl) (⟨_, rfl, (by rw [(show trnF da = _ from (by unfold trnF; rw [if_neg c_10]))]), (by rw [(show trnF da = _ from (by unfold trnF; rw [if_neg c_10]))]; exact hsc), fr_rf⟩)

theorem bz_trnF {da : Int32} : (trnF da).1 = 0 ∨ (trnF da).1 = 1 := by
  unfold trnF; try simp only [lett]
  (repeat' split) <;> first | with_reducible exact Or.inl rfl | with_reducible exact Or.inr rfl | exact Or.inl rfl

def redL (tg : Nat → Int32) (x : Int32) : Nat → Int32 → Int32
  | 0, _ => 0
  | k + 1, i => (if (i : Int32) < 0 then 0 else (if ((tg (Int32.toNatClampNeg ((x * 400) + i))) : Int32) ≤ 0 then redL tg x k (i + (-1)) else ((tg (Int32.toNatClampNeg ((x * 400) + i))) + (-10000))))
set_option maxHeartbeats 4000000 in
set_option maxRecDepth 100000 in
theorem l_X0_read {l : Launch} {D : va_G} {cy : Nat → ClassId} {b mc ms : Nat} {f : gMem} {Po : Option Value → gMem → Prop} {ch tl sc : Nat} {tg : Nat → Int32} {x y : Int32}  (hch : f ch = some (.inr (0, [.ref tl, .ref sc]))) (htl : f tl = some (.inl (cy 0, 2400, .inl (tg)))) (hx : 0 ≤ x.toInt ∧ x.toInt < 6) : ∀ (k : Nat) (i : Int32), (0 ≤ i.toInt + 1 ∧ i.toInt < 400 ∧ i.toInt + 2 = (k : Int)) → (Po (some (.int (redL tg x k i))) f) → gG l (gRm 0 mc ms) (gQf D b Po mc ms) gTt D cy b cX0_read 5 (some .int) RX0 "read" 0 0 f 27 [(3, .int i), (0, .ref ch), (1, .int x), (2, .int y)] [] := by
  intro k
  induction k with
  | zero =>
    intro i hk hq
    exfalso; omega
  | succ k ih =>
    intro i hk hq
    refine gz_iload_n dX0_read_27 rfl rfl ?_
    refine gz_if_lt (tgt := 63) dX0_read_28 (by decide) (fun c_28 => ?_) (fun c_28 => ?_)
    ·
      refine gz_iconst (v := 0) dX0_read_63 (by decide) ?_
      exact gz_iret rfl dX0_read_64 (Nat.zero_le _) (Nat.zero_le _) ((by rw [redL, if_pos c_28] at hq; exact hq))
    ·
      refine gz_aload_n dX0_read_31 rfl rfl ?_
      refine sgX0_9 hch rfl dX0_read_32 ?_
      refine gz_iload_n dX0_read_35 rfl rfl ?_
      refine gz_sipush (v := 400) dX0_read_36 (by decide) ?_
      refine gz_imul dX0_read_39 ?_
      refine gz_iload_n dX0_read_40 rfl rfl ?_
      refine gz_iadd dX0_read_41 ?_
      refine gz_iald htl ((by have e13 : (13 : Int32).toInt = 13 := rfl; have e0 : (0 : Int32).toInt = 0 := rfl; have e2 : (2 : Int32).toInt = 2 := rfl; have e1 : (1 : Int32).toInt = 1 := rfl; have e6 : (6 : Int32).toInt = 6 := rfl; have em2 : (-2 : Int32).toInt = -2 := rfl; have e6 : (6 : Int32).toInt = 6 := rfl; have e400 : (400 : Int32).toInt = 400 := rfl; simp only [fl_lt] at c_28; exact vin_T (T_add (T_mul (rfl : x.toInt = x.toInt) e400 (by omega)) (rfl : i.toInt = i.toInt) (by omega)) (by omega) (by omega))) dX0_read_42 ?_
      refine gz_istore (lv' := [(4, .int (tg (Int32.toNatClampNeg ((x * 400) + i)))), (3, .int i), (0, .ref ch), (1, .int x), (2, .int y)]) dX0_read_43 (by decide) rfl ?_
      refine gz_iload dX0_read_45 rfl ?_
      refine gz_if_le (tgt := 57) dX0_read_47 (by decide) (fun c_47 => ?_) (fun c_47 => ?_)
      ·
        refine gz_iinc (v := (i + (-1))) (lv' := [(3, .int (i + (-1))), (4, .int (tg (Int32.toNatClampNeg ((x * 400) + i)))), (0, .ref ch), (1, .int x), (2, .int y)]) dX0_read_57 rfl (congrArg (fun z => i + z) oi_m1) (by decide) rfl ?_
        refine gz_goto (tgt := 27) dX0_read_60 (by decide) ?_
        refine gz_sub (lv' := [(3, .int (i + (-1))), (0, .ref ch), (1, .int x), (2, .int y)]) (by simp [List.lookup]) ?_
        exact ih (i + (-1)) (by have e0 : (0 : Int32).toInt = 0 := rfl; simp only [fl_lt] at c_28; have hx2 := T_dec (i := i) (by omega) (by omega); rw [hx2]; omega) (by rw [redL, if_neg c_28, if_pos c_47] at hq; exact hq)
      ·
        refine gz_iload dX0_read_50 rfl ?_
        refine gz_sipush (v := (-10000)) dX0_read_52 (by decide) ?_
        refine gz_iadd dX0_read_55 ?_
        exact gz_iret rfl dX0_read_56 (Nat.zero_le _) (Nat.zero_le _) ((by rw [redL, if_neg c_28, if_neg c_47] at hq; exact hq))

def redF (tg : Nat → Int32) (x y : Int32) : Int32 := (if (x : Int32) < 0 then (-10000) else (if 6 ≤ (x : Int32) then (-10000) else (if (y : Int32) < 0 then (-10000) else (if (y : Int32) < 400 then (redL tg x (y.toInt + 2).toNat y) else (-10000)))))
set_option maxHeartbeats 4000000 in
set_option maxRecDepth 100000 in
theorem k_X0_read {l : Launch} {D : va_G} {cy : Nat → ClassId} {b : Nat} {f : gMem} {ch tl sc : Nat} {tg : Nat → Int32} {x y : Int32} (hch : f ch = some (.inr (0, [.ref tl, .ref sc]))) (htl : f tl = some (.inl (cy 0, 2400, .inl (tg))))  : gC l D cy b yX0_read cX0_read 5 (some .int) 0 0 0 [.ref ch, .int x, .int y] f (pI fun r f2 => r = redF tg x y ∧ f2 = f) := by
  refine gC_of (by decide) (Nat.le_of_ble_eq_true rfl) ?_
  show gG l _ _ _ D cy b cX0_read 5 _ RX0 "read" 0 0 f 0 [(0, .ref ch), (1, .int x), (2, .int y)] []
  refine gz_iload_n dX0_read_0 rfl rfl ?_
  refine gz_if_lt (tgt := 21) dX0_read_1 (by decide) (fun c_1 => ?_) (fun c_1 => ?_)
  ·
    refine gz_sipush (v := (-10000)) dX0_read_21 (by decide) ?_
    exact gz_iret rfl dX0_read_24 (Nat.le_of_ble_eq_true rfl) (Nat.le_of_ble_eq_true rfl) (⟨_, rfl, (show _ = _ from Eq.symm (by unfold redF; rw [if_pos c_1])), rfl⟩)
  ·
    refine gz_iload_n dX0_read_4 rfl rfl ?_
    refine gz_bipush (v := 6) dX0_read_5 (by decide) ?_
    refine gz_icmp_ge (tgt := 21) dX0_read_7 (by decide) (fun c_7 => ?_) (fun c_7 => ?_)
    ·
      refine gz_sipush (v := (-10000)) dX0_read_21 (by decide) ?_
      exact gz_iret rfl dX0_read_24 (Nat.le_of_ble_eq_true rfl) (Nat.le_of_ble_eq_true rfl) (⟨_, rfl, (show _ = _ from Eq.symm (by unfold redF; rw [if_neg c_1, if_pos c_7])), rfl⟩)
    ·
      refine gz_iload_n dX0_read_10 rfl rfl ?_
      refine gz_if_lt (tgt := 21) dX0_read_11 (by decide) (fun c_11 => ?_) (fun c_11 => ?_)
      ·
        refine gz_sipush (v := (-10000)) dX0_read_21 (by decide) ?_
        exact gz_iret rfl dX0_read_24 (Nat.le_of_ble_eq_true rfl) (Nat.le_of_ble_eq_true rfl) (⟨_, rfl, (show _ = _ from Eq.symm (by unfold redF; rw [if_neg c_1, if_neg c_7, if_pos c_11])), rfl⟩)
      ·
        refine gz_iload_n dX0_read_14 rfl rfl ?_
        refine gz_sipush (v := 400) dX0_read_15 (by decide) ?_
        refine gz_icmp_lt (tgt := 25) dX0_read_18 (by decide) (fun c_18 => ?_) (fun c_18 => ?_)
        ·
          refine gz_iload_n dX0_read_25 rfl rfl ?_
          refine gz_istore_n (lv' := [(3, .int y), (0, .ref ch), (1, .int x), (2, .int y)]) dX0_read_26 rfl (by decide) rfl ?_
          refine gz_sub (lv' := [(3, .int y), (0, .ref ch), (1, .int x), (2, .int y)]) (by simp [List.lookup]) ?_
          exact l_X0_read hch htl (by have e13 : (13 : Int32).toInt = 13 := rfl; have e0 : (0 : Int32).toInt = 0 := rfl; have e2 : (2 : Int32).toInt = 2 := rfl; have e1 : (1 : Int32).toInt = 1 := rfl; have e6 : (6 : Int32).toInt = 6 := rfl; have em2 : (-2 : Int32).toInt = -2 := rfl; have e6 : (6 : Int32).toInt = 6 := rfl; have e400 : (400 : Int32).toInt = 400 := rfl; simp only [fl_lt, fl_le] at c_1 c_7; omega) (y.toInt + 2).toNat y (by have e13 : (13 : Int32).toInt = 13 := rfl; have e0 : (0 : Int32).toInt = 0 := rfl; have e2 : (2 : Int32).toInt = 2 := rfl; have e1 : (1 : Int32).toInt = 1 := rfl; have e6 : (6 : Int32).toInt = 6 := rfl; have em2 : (-2 : Int32).toInt = -2 := rfl; have e6 : (6 : Int32).toInt = 6 := rfl; have e400 : (400 : Int32).toInt = 400 := rfl; simp only [fl_lt, fl_le] at c_11 c_18; omega) ⟨_, rfl, (show _ = _ from Eq.symm (by unfold redF; rw [if_neg c_1, if_neg c_7, if_neg c_11, if_pos c_18])), rfl⟩
        ·
          refine gz_sipush (v := (-10000)) dX0_read_21 (by decide) ?_
          exact gz_iret rfl dX0_read_24 (Nat.le_of_ble_eq_true rfl) (Nat.le_of_ble_eq_true rfl) (⟨_, rfl, (show _ = _ from Eq.symm (by unfold redF; rw [if_neg c_1, if_neg c_7, if_neg c_11, if_neg c_18])), rfl⟩)

def wrtF (tg t : Nat → Int32) (da x y u : Int32) : (Int32) × (Nat → Int32) × (Nat → Int32) := (if (x : Int32) < 0 then (0, (tg), (t)) else (if 6 ≤ (x : Int32) then (0, (tg), (t)) else (if (y : Int32) < 0 then (0, (tg), (t)) else (if 400 ≤ (y : Int32) then (0, (tg), (t)) else (if (y : Int32) ≤ da then (if (u : Int32) < (-9999) then (0, (tg), (t)) else (if (u : Int32) ≤ 9999 then (1, (upd tg (Int32.toNatClampNeg ((x * 400) + y)) (u - (-10000))), (setT t x (redF (upd tg (Int32.toNatClampNeg ((x * 400) + y)) (u - (-10000))) x da))) else (0, (tg), (t)))) else (0, (tg), (t)))))))
set_option maxHeartbeats 4000000 in
set_option maxRecDepth 100000 in
theorem k_X0_write {l : Launch} {D : va_G} {cy : Nat → ClassId} {b : Nat} {f : gMem} {ch tl sc th : Nat} {da : Int32} {tg t : Nat → Int32} {x y u : Int32} (hch : f ch = some (.inr (0, [.ref tl, .ref sc]))) (htl : f tl = some (.inl (cy 0, 2400, .inl (tg)))) (hsc : f sc = some (.inr (7, [.ref th, .int da]))) (hth : f th = some (.inl (cy 0, 6, .inl (t)))) (hne : tl ≠ th) : gC l D cy b yX0_write cX0_write 4 (some .boolean) 1 0 0 [.ref ch, .int x, .int y, .int u] f (pI fun r f2 => r = (wrtF tg t da x y u).1 ∧ f2 tl = some (.inl (cy 0, 2400, .inl ((wrtF tg t da x y u).2.1))) ∧ f2 th = some (.inl (cy 0, 6, .inl ((wrtF tg t da x y u).2.2))) ∧ fr [tl, th] f f2) := by
  refine gC_of (by decide) (Nat.le_of_ble_eq_true rfl) ?_
  show gG l _ _ _ D cy b cX0_write 4 _ RX0 "write" 0 0 f 0 [(0, .ref ch), (1, .int x), (2, .int y), (3, .int u)] []
  refine gz_iload_n dX0_write_0 rfl rfl ?_
  refine gz_if_lt (tgt := 32) dX0_write_1 (by decide) (fun c_1 => ?_) (fun c_1 => ?_)
  ·
    refine gz_iconst (v := 0) dX0_write_32 (by decide) ?_
    exact gz_zret rfl (by first | decide | exact nrb (Or.inl rfl) | (refine nrb ?_; (repeat' split) <;> first | assumption | exact Or.inl rfl | exact Or.inr rfl)) dX0_write_33 (Nat.le_of_ble_eq_true rfl) (Nat.le_of_ble_eq_true rfl) (⟨_, rfl, (by rw [(show wrtF tg t da x y u = _ from (by unfold wrtF; rw [if_pos c_1]))]), (by rw [(show wrtF tg t da x y u = _ from (by unfold wrtF; rw [if_pos c_1]))]; exact htl), (by rw [(show wrtF tg t da x y u = _ from (by unfold wrtF; rw [if_pos c_1]))]; exact hth), fr_rf⟩)
  ·
    refine gz_iload_n dX0_write_4 rfl rfl ?_
    refine gz_bipush (v := 6) dX0_write_5 (by decide) ?_
    refine gz_icmp_ge (tgt := 32) dX0_write_7 (by decide) (fun c_7 => ?_) (fun c_7 => ?_)
    ·
      refine gz_iconst (v := 0) dX0_write_32 (by decide) ?_
      exact gz_zret rfl (by first | decide | exact nrb (Or.inl rfl) | (refine nrb ?_; (repeat' split) <;> first | assumption | exact Or.inl rfl | exact Or.inr rfl)) dX0_write_33 (Nat.le_of_ble_eq_true rfl) (Nat.le_of_ble_eq_true rfl) (⟨_, rfl, (by rw [(show wrtF tg t da x y u = _ from (by unfold wrtF; rw [if_neg c_1, if_pos c_7]))]), (by rw [(show wrtF tg t da x y u = _ from (by unfold wrtF; rw [if_neg c_1, if_pos c_7]))]; exact htl), (by rw [(show wrtF tg t da x y u = _ from (by unfold wrtF; rw [if_neg c_1, if_pos c_7]))]; exact hth), fr_rf⟩)
    ·
      refine gz_iload_n dX0_write_10 rfl rfl ?_
      refine gz_if_lt (tgt := 32) dX0_write_11 (by decide) (fun c_11 => ?_) (fun c_11 => ?_)
      ·
        refine gz_iconst (v := 0) dX0_write_32 (by decide) ?_
        exact gz_zret rfl (by first | decide | exact nrb (Or.inl rfl) | (refine nrb ?_; (repeat' split) <;> first | assumption | exact Or.inl rfl | exact Or.inr rfl)) dX0_write_33 (Nat.le_of_ble_eq_true rfl) (Nat.le_of_ble_eq_true rfl) (⟨_, rfl, (by rw [(show wrtF tg t da x y u = _ from (by unfold wrtF; rw [if_neg c_1, if_neg c_7, if_pos c_11]))]), (by rw [(show wrtF tg t da x y u = _ from (by unfold wrtF; rw [if_neg c_1, if_neg c_7, if_pos c_11]))]; exact htl), (by rw [(show wrtF tg t da x y u = _ from (by unfold wrtF; rw [if_neg c_1, if_neg c_7, if_pos c_11]))]; exact hth), fr_rf⟩)
      ·
        refine gz_iload_n dX0_write_14 rfl rfl ?_
        refine gz_sipush (v := 400) dX0_write_15 (by decide) ?_
        refine gz_icmp_ge (tgt := 32) dX0_write_18 (by decide) (fun c_18 => ?_) (fun c_18 => ?_)
        ·
          refine gz_iconst (v := 0) dX0_write_32 (by decide) ?_
          exact gz_zret rfl (by first | decide | exact nrb (Or.inl rfl) | (refine nrb ?_; (repeat' split) <;> first | assumption | exact Or.inl rfl | exact Or.inr rfl)) dX0_write_33 (Nat.le_of_ble_eq_true rfl) (Nat.le_of_ble_eq_true rfl) (⟨_, rfl, (by rw [(show wrtF tg t da x y u = _ from (by unfold wrtF; rw [if_neg c_1, if_neg c_7, if_neg c_11, if_pos c_18]))]), (by rw [(show wrtF tg t da x y u = _ from (by unfold wrtF; rw [if_neg c_1, if_neg c_7, if_neg c_11, if_pos c_18]))]; exact htl), (by rw [(show wrtF tg t da x y u = _ from (by unfold wrtF; rw [if_neg c_1, if_neg c_7, if_neg c_11, if_pos c_18]))]; exact hth), fr_rf⟩)
        ·
          refine gz_iload_n dX0_write_21 rfl rfl ?_
          refine gz_aload_n dX0_write_22 rfl rfl ?_
          refine sgX0_18 hch rfl dX0_write_23 ?_
          refine sgX0_22 hsc rfl dX0_write_26 ?_
          refine gz_icmp_le (tgt := 34) dX0_write_29 (by decide) (fun c_29 => ?_) (fun c_29 => ?_)
          ·
            refine gz_iload_n dX0_write_34 rfl rfl ?_
            refine gz_sipush (v := (-9999)) dX0_write_35 (by decide) ?_
            refine gz_icmp_lt (tgt := 48) dX0_write_38 (by decide) (fun c_38 => ?_) (fun c_38 => ?_)
            ·
              refine gz_iconst (v := 0) dX0_write_48 (by decide) ?_
              exact gz_zret rfl (by first | decide | exact nrb (Or.inl rfl) | (refine nrb ?_; (repeat' split) <;> first | assumption | exact Or.inl rfl | exact Or.inr rfl)) dX0_write_49 (Nat.le_of_ble_eq_true rfl) (Nat.le_of_ble_eq_true rfl) (⟨_, rfl, (by rw [(show wrtF tg t da x y u = _ from (by unfold wrtF; rw [if_neg c_1, if_neg c_7, if_neg c_11, if_neg c_18, if_pos c_29, if_pos c_38]))]), (by rw [(show wrtF tg t da x y u = _ from (by unfold wrtF; rw [if_neg c_1, if_neg c_7, if_neg c_11, if_neg c_18, if_pos c_29, if_pos c_38]))]; exact htl), (by rw [(show wrtF tg t da x y u = _ from (by unfold wrtF; rw [if_neg c_1, if_neg c_7, if_neg c_11, if_neg c_18, if_pos c_29, if_pos c_38]))]; exact hth), fr_rf⟩)
            ·
              refine gz_iload_n dX0_write_41 rfl rfl ?_
              refine gz_sipush (v := 9999) dX0_write_42 (by decide) ?_
              refine gz_icmp_le (tgt := 50) dX0_write_45 (by decide) (fun c_45 => ?_) (fun c_45 => ?_)
              ·
                refine gz_aload_n dX0_write_50 rfl rfl ?_
                refine sgX0_9 hch rfl dX0_write_51 ?_
                refine gz_iload_n dX0_write_54 rfl rfl ?_
                refine gz_sipush (v := 400) dX0_write_55 (by decide) ?_
                refine gz_imul dX0_write_58 ?_
                refine gz_iload_n dX0_write_59 rfl rfl ?_
                refine gz_iadd dX0_write_60 ?_
                refine gz_iload_n dX0_write_61 rfl rfl ?_
                refine gz_sipush (v := (-10000)) dX0_write_62 (by decide) ?_
                refine gz_isub dX0_write_65 ?_
                refine gz_iast htl ((by have e13 : (13 : Int32).toInt = 13 := rfl; have e0 : (0 : Int32).toInt = 0 := rfl; have e2 : (2 : Int32).toInt = 2 := rfl; have e1 : (1 : Int32).toInt = 1 := rfl; have e6 : (6 : Int32).toInt = 6 := rfl; have em2 : (-2 : Int32).toInt = -2 := rfl; have e6 : (6 : Int32).toInt = 6 := rfl; have e400 : (400 : Int32).toInt = 400 := rfl; simp only [fl_lt, fl_le] at c_1 c_7 c_11 c_18; exact vin_T (T_add (T_mul (rfl : x.toInt = x.toInt) e400 (by omega)) (rfl : y.toInt = y.toInt) (by omega)) (by omega) (by omega))) dX0_write_66 ?_
                obtain ⟨f1, hf1⟩ : ∃ gg : gMem, gg = va_up f tl (some (.inl (cy 0, 2400, .inl (upd tg (Int32.toNatClampNeg ((x * 400) + y)) (u - (-10000)))))) := ⟨_, rfl⟩
                refine gz_eq (f2 := f1) hf1.symm rfl rfl rfl ?_
                have hch_1 : f1 ch = some (.inr (0, [.ref tl, .ref sc])) := by rw [hf1, va_up_ne _ _ (cne hch htl (by simp))]; exact hch
                have hsc_1 : f1 sc = some (.inr (7, [.ref th, .int da])) := by rw [hf1, va_up_ne _ _ (cne hsc htl (by simp))]; exact hsc
                have hth_1 : f1 th = some (.inl (cy 0, 6, .inl (t))) := by rw [hf1, va_up_ne _ _ (Ne.symm (hne))]; exact hth
                have htl_1 : f1 tl = some (.inl (cy 0, 2400, .inl (upd tg (Int32.toNatClampNeg ((x * 400) + y)) (u - (-10000))))) := by rw [hf1]; exact va_up_self _ _ _
                refine gz_aload_n dX0_write_67 rfl rfl ?_
                refine sgX0_18 hch_1 rfl dX0_write_68 ?_
                refine gz_iload_n dX0_write_71 rfl rfl ?_
                refine gz_aload_n dX0_write_72 rfl rfl ?_
                refine gz_iload_n dX0_write_73 rfl rfl ?_
                refine gz_aload_n dX0_write_74 rfl rfl ?_
                refine sgX0_18 hch_1 rfl dX0_write_75 ?_
                refine sgX0_22 hsc_1 rfl dX0_write_78 ?_
                refine scX0_26 (k_X0_read (x := x) (y := da) hch_1 htl_1) hch_1 ⟨(Nat.le_of_ble_eq_true rfl), (Nat.le_of_ble_eq_true rfl)⟩ ⟨(Nat.le_of_ble_eq_true rfl), (Nat.le_of_ble_eq_true rfl)⟩ rfl rfl (Nat.le_of_ble_eq_true rfl) dX0_write_81 ?_
                intro v9 f9 z9; rw [z9.1, z9.2]
                refine scX0_30 (k_X7_setThing (i := x) (x := (redF (upd tg (Int32.toNatClampNeg ((x * 400) + y)) (u - (-10000))) x da)) hsc_1 hth_1) hsc_1 ⟨(Nat.le_of_ble_eq_true rfl), (Nat.le_of_ble_eq_true rfl)⟩ ⟨(Nat.le_of_ble_eq_true rfl), (Nat.le_of_ble_eq_true rfl)⟩ rfl rfl (Nat.le_of_ble_eq_true rfl) dX0_write_84 ?_
                rintro f2 ⟨hth_2, hr2⟩
                have hch_2 : f2 ch = some (.inr (0, [.ref tl, .ref sc])) := hr2 _ _ hch_1 (by simp only [List.mem_cons, List.not_mem_nil, or_false, not_or]; exact cne hch_1 hth_1 (by simp))
                have hsc_2 : f2 sc = some (.inr (7, [.ref th, .int da])) := hr2 _ _ hsc_1 (by simp only [List.mem_cons, List.not_mem_nil, or_false, not_or]; exact cne hsc_1 hth_1 (by simp))
                have htl_2 : f2 tl = some (.inl (cy 0, 2400, .inl (upd tg (Int32.toNatClampNeg ((x * 400) + y)) (u - (-10000))))) := hr2 _ _ htl_1 (by simp only [List.mem_cons, List.not_mem_nil, or_false, not_or]; exact hne)
                refine gz_iconst (v := 1) dX0_write_87 (by decide) ?_
                exact gz_zret rfl (by first | decide | exact nrb (Or.inl rfl) | (refine nrb ?_; (repeat' split) <;> first | assumption | exact Or.inl rfl | exact Or.inr rfl)) dX0_write_88 (Nat.le_of_ble_eq_true rfl) (Nat.le_of_ble_eq_true rfl) (⟨_, rfl, (by rw [(show wrtF tg t da x y u = _ from (by unfold wrtF; rw [if_neg c_1, if_neg c_7, if_neg c_11, if_neg c_18, if_pos c_29, if_neg c_38, if_pos c_45]))]), (by rw [(show wrtF tg t da x y u = _ from (by unfold wrtF; rw [if_neg c_1, if_neg c_7, if_neg c_11, if_neg c_18, if_pos c_29, if_neg c_38, if_pos c_45]))]; exact htl_2), (by rw [(show wrtF tg t da x y u = _ from (by unfold wrtF; rw [if_neg c_1, if_neg c_7, if_neg c_11, if_neg c_18, if_pos c_29, if_neg c_38, if_pos c_45]))]; exact hth_2), (fr_tr (by rw [hf1]; exact fr_up fr_rf (by simp)) (fr_mo hr2 (by simp)))⟩)
              ·
                refine gz_iconst (v := 0) dX0_write_48 (by decide) ?_
                exact gz_zret rfl (by first | decide | exact nrb (Or.inl rfl) | (refine nrb ?_; (repeat' split) <;> first | assumption | exact Or.inl rfl | exact Or.inr rfl)) dX0_write_49 (Nat.le_of_ble_eq_true rfl) (Nat.le_of_ble_eq_true rfl) (⟨_, rfl, (by rw [(show wrtF tg t da x y u = _ from (by unfold wrtF; rw [if_neg c_1, if_neg c_7, if_neg c_11, if_neg c_18, if_pos c_29, if_neg c_38, if_neg c_45]))]), (by rw [(show wrtF tg t da x y u = _ from (by unfold wrtF; rw [if_neg c_1, if_neg c_7, if_neg c_11, if_neg c_18, if_pos c_29, if_neg c_38, if_neg c_45]))]; exact htl), (by rw [(show wrtF tg t da x y u = _ from (by unfold wrtF; rw [if_neg c_1, if_neg c_7, if_neg c_11, if_neg c_18, if_pos c_29, if_neg c_38, if_neg c_45]))]; exact hth), fr_rf⟩)
          ·
            refine gz_iconst (v := 0) dX0_write_32 (by decide) ?_
            exact gz_zret rfl (by first | decide | exact nrb (Or.inl rfl) | (refine nrb ?_; (repeat' split) <;> first | assumption | exact Or.inl rfl | exact Or.inr rfl)) dX0_write_33 (Nat.le_of_ble_eq_true rfl) (Nat.le_of_ble_eq_true rfl) (⟨_, rfl, (by rw [(show wrtF tg t da x y u = _ from (by unfold wrtF; rw [if_neg c_1, if_neg c_7, if_neg c_11, if_neg c_18, if_neg c_29]))]), (by rw [(show wrtF tg t da x y u = _ from (by unfold wrtF; rw [if_neg c_1, if_neg c_7, if_neg c_11, if_neg c_18, if_neg c_29]))]; exact htl), (by rw [(show wrtF tg t da x y u = _ from (by unfold wrtF; rw [if_neg c_1, if_neg c_7, if_neg c_11, if_neg c_18, if_neg c_29]))]; exact hth), fr_rf⟩)

theorem bz_wrtF {tg t : Nat → Int32} {da x y u : Int32} : (wrtF tg t da x y u).1 = 0 ∨ (wrtF tg t da x y u).1 = 1 := by
  unfold wrtF; try simp only [lett]
  (repeat' split) <;> first | with_reducible exact Or.inl rfl | with_reducible exact Or.inr rfl | exact Or.inl rfl
