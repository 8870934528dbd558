set_option maxHeartbeats 4000000 in
set_option maxRecDepth 100000 in
theorem k_X2_size {l : Launch} {D : va_G} {cy : Nat → ClassId} {b : Nat} {f : gMem} {p c1 c2 : Nat} {s v : Int32} (hp : f p = some (.inr (2, [.ref c1, .ref c2, .int s, .int v])))  : gC l D cy b yX2_size cX2_size 1 (some .int) 0 0 0 [.ref p] f (pI fun r f2 => r = s ∧ f2 = f) := by
  refine gC_of (by decide) (Nat.le_of_ble_eq_true rfl) ?_
  show gG l _ _ _ D cy b cX2_size 1 _ RX2 "size" 0 0 f 0 [(0, .ref p)] []
  refine gz_aload_n dX2_size_0 rfl rfl ?_
  refine sgX2_24 hp rfl dX2_size_1 ?_
  exact gz_iret rfl dX2_size_4 (Nat.le_of_ble_eq_true rfl) (Nat.le_of_ble_eq_true rfl) (⟨_, rfl, rfl, rfl⟩)

set_option maxHeartbeats 4000000 in
set_option maxRecDepth 100000 in
theorem k_X2_valueCount {l : Launch} {D : va_G} {cy : Nat → ClassId} {b : Nat} {f : gMem} {p c1 c2 : Nat} {s v : Int32} (hp : f p = some (.inr (2, [.ref c1, .ref c2, .int s, .int v])))  : gC l D cy b yX2_valueCount cX2_valueCount 1 (some .int) 0 0 0 [.ref p] f (pI fun r f2 => r = v ∧ f2 = f) := by
  refine gC_of (by decide) (Nat.le_of_ble_eq_true rfl) ?_
  show gG l _ _ _ D cy b cX2_valueCount 1 _ RX2 "valueCount" 0 0 f 0 [(0, .ref p)] []
  refine gz_aload_n dX2_valueCount_0 rfl rfl ?_
  refine sgX2_28 hp rfl dX2_valueCount_1 ?_
  exact gz_iret rfl dX2_valueCount_4 (Nat.le_of_ble_eq_true rfl) (Nat.le_of_ble_eq_true rfl) (⟨_, rfl, rfl, rfl⟩)

set_option maxHeartbeats 4000000 in
set_option maxRecDepth 100000 in
theorem k_X2_clear {l : Launch} {D : va_G} {cy : Nat → ClassId} {b : Nat} {f : gMem} {p c1 c2 : Nat} {s v : Int32} (hp : f p = some (.inr (2, [.ref c1, .ref c2, .int s, .int v])))  : gC l D cy b yX2_clear cX2_clear 1 none 0 0 0 [.ref p] f (pV fun f2 => f2 p = some (.inr (2, [.ref c1, .ref c2, .int 0, .int 0])) ∧ fr [p] f f2) := by
  refine gC_of (by decide) (Nat.le_of_ble_eq_true rfl) ?_
  show gG l _ _ _ D cy b cX2_clear 1 _ RX2 "clear" 0 0 f 0 [(0, .ref p)] []
  refine gz_aload_n dX2_clear_0 rfl rfl ?_
  refine gz_iconst (v := 0) dX2_clear_1 (by decide) ?_
  refine spX2_24 hp  (Nat.le_of_ble_eq_true rfl) dX2_clear_2 ?_
  obtain ⟨f1, hf1⟩ : ∃ gg : gMem, gg = va_up f p (some (.inr (2, [.ref c1, .ref c2, .int 0, .int v]))) := ⟨_, rfl⟩
  refine gz_eq (f2 := f1) hf1.symm rfl rfl rfl ?_
  have hp_1 : f1 p = some (.inr (2, [.ref c1, .ref c2, .int 0, .int v])) := by rw [hf1]; exact va_up_self _ _ _
  refine gz_aload_n dX2_clear_5 rfl rfl ?_
  refine gz_iconst (v := 0) dX2_clear_6 (by decide) ?_
  refine spX2_28 hp_1  (Nat.le_of_ble_eq_true rfl) dX2_clear_7 ?_
  obtain ⟨f2, hf2⟩ : ∃ gg : gMem, gg = va_up f1 p (some (.inr (2, [.ref c1, .ref c2, .int 0, .int 0]))) := ⟨_, rfl⟩
  refine gz_eq (f2 := f2) hf2.symm rfl rfl rfl ?_
  have hp_2 : f2 p = some (.inr (2, [.ref c1, .ref c2, .int 0, .int 0])) := by rw [hf2]; exact va_up_self _ _ _
  exact gz_vret rfl dX2_clear_10 (Nat.le_of_ble_eq_true rfl) (Nat.le_of_ble_eq_true rfl) (⟨rfl, hp_2, by rw [hf2, hf1]; exact fr_up (fr_up fr_rf (by simp)) (by simp)⟩)

def fldF (n1 : Nat) (g : Nat → Int32) (s w k : Int32) : Int32 := (if (w : Int32) < 0 then (-1) else (if s ≤ (w : Int32) then (-1) else (if (k : Int32) < 0 then (-1) else (if (k : Int32) < 13 then (if (Int32.ofNat n1) ≤ (((w * 13) + k) : Int32) then (-1) else (g (Int32.toNatClampNeg ((w * 13) + k)))) else (-1)))))
set_option maxHeartbeats 4000000 in
set_option maxRecDepth 100000 in
theorem k_X2_field {l : Launch} {D : va_G} {cy : Nat → ClassId} {b : Nat} {f : gMem} {p c1 c2 n1 : Nat} {s v : Int32} {g : Nat → Int32} {w k : Int32} (hp : f p = some (.inr (2, [.ref c1, .ref c2, .int s, .int v]))) (h1 : f c1 = some (.inl (cy 0, n1, .inl (g)))) (hs : 0 ≤ s.toInt ∧ 13 * s.toInt ≤ n1 ∧ n1 ≤ 520) : gC l D cy b yX2_field cX2_field 4 (some .int) 0 0 0 [.ref p, .int w, .int k] f (pI fun r f2 => r = fldF n1 g s w k ∧ f2 = f) := by
  refine gC_of (by decide) (Nat.le_of_ble_eq_true rfl) ?_
  show gG l _ _ _ D cy b cX2_field 4 _ RX2 "field" 0 0 f 0 [(0, .ref p), (1, .int w), (2, .int k)] []
  refine gz_iload_n dX2_field_0 rfl rfl ?_
  refine gz_if_lt (tgt := 22) dX2_field_1 (by decide) (fun c_1 => ?_) (fun c_1 => ?_)
  ·
    refine gz_iconst (v := (-1)) dX2_field_22 (by decide) ?_
    exact gz_iret rfl dX2_field_23 (Nat.le_of_ble_eq_true rfl) (Nat.le_of_ble_eq_true rfl) (⟨_, rfl, (show _ = _ from Eq.symm (by unfold fldF; rw [if_pos c_1])), rfl⟩)
  ·
    refine gz_iload_n dX2_field_4 rfl rfl ?_
    refine gz_aload_n dX2_field_5 rfl rfl ?_
    refine sgX2_24 hp rfl dX2_field_6 ?_
    refine gz_icmp_ge (tgt := 22) dX2_field_9 (by decide) (fun c_9 => ?_) (fun c_9 => ?_)
    ·
      refine gz_iconst (v := (-1)) dX2_field_22 (by decide) ?_
      exact gz_iret rfl dX2_field_23 (Nat.le_of_ble_eq_true rfl) (Nat.le_of_ble_eq_true rfl) (⟨_, rfl, (show _ = _ from Eq.symm (by unfold fldF; rw [if_neg c_1, if_pos c_9])), rfl⟩)
    ·
      refine gz_iload_n dX2_field_12 rfl rfl ?_
      refine gz_if_lt (tgt := 22) dX2_field_13 (by decide) (fun c_13 => ?_) (fun c_13 => ?_)
      ·
        refine gz_iconst (v := (-1)) dX2_field_22 (by decide) ?_
        exact gz_iret rfl dX2_field_23 (Nat.le_of_ble_eq_true rfl) (Nat.le_of_ble_eq_true rfl) (⟨_, rfl, (show _ = _ from Eq.symm (by unfold fldF; rw [if_neg c_1, if_neg c_9, if_pos c_13])), rfl⟩)
      ·
        refine gz_iload_n dX2_field_16 rfl rfl ?_
        refine gz_bipush (v := 13) dX2_field_17 (by decide) ?_
        refine gz_icmp_lt (tgt := 24) dX2_field_19 (by decide) (fun c_19 => ?_) (fun c_19 => ?_)
        ·
          refine gz_iload_n dX2_field_24 rfl rfl ?_
          refine gz_bipush (v := 13) dX2_field_25 (by decide) ?_
          refine gz_imul dX2_field_27 ?_
          refine gz_iload_n dX2_field_28 rfl rfl ?_
          refine gz_iadd dX2_field_29 ?_
          refine gz_istore_n (lv' := [(3, .int ((w * 13) + k)), (0, .ref p), (1, .int w), (2, .int k)]) dX2_field_30 rfl (by decide) rfl ?_
          refine gz_iload_n dX2_field_31 rfl rfl ?_
          refine gz_aload_n dX2_field_32 rfl rfl ?_
          refine sgX2_15 hp rfl dX2_field_33 ?_
          refine gz_alen0 (v := Int32.ofNat n1) h1 rfl dX2_field_36 ?_
          refine gz_icmp_ge (tgt := 49) dX2_field_37 (by decide) (fun c_37 => ?_) (fun c_37 => ?_)
          ·
            refine gz_iconst (v := (-1)) dX2_field_49 (by decide) ?_
            exact gz_iret rfl dX2_field_50 (Nat.le_of_ble_eq_true rfl) (Nat.le_of_ble_eq_true rfl) (⟨_, rfl, (show _ = _ from Eq.symm (by unfold fldF; rw [if_neg c_1, if_neg c_9, if_neg c_13, if_pos c_19, if_pos c_37])), rfl⟩)
          ·
            refine gz_aload_n dX2_field_40 rfl rfl ?_
            refine sgX2_15 hp rfl dX2_field_41 ?_
            refine gz_iload_n dX2_field_44 rfl rfl ?_
            refine gz_iald h1 ((by have e13 : (13 : Int32).toInt = 13 := rfl; have e0 : (0 : Int32).toInt = 0 := rfl; have e2 : (2 : Int32).toInt = 2 := rfl; have e1 : (1 : Int32).toInt = 1 := rfl; have e6 : (6 : Int32).toInt = 6 := rfl; have em2 : (-2 : Int32).toInt = -2 := rfl; simp only [fl_lt, fl_le] at c_1 c_9 c_13 c_19 c_37; have eN : (Int32.ofNat n1).toInt = n1 := ofN_toInt (by omega); exact vin_T (T_add (T_mul (rfl : w.toInt = w.toInt) e13 (by omega)) (rfl : k.toInt = k.toInt) (by omega)) (by omega) (by have hx := T_add (T_mul (rfl : w.toInt = w.toInt) e13 (by omega)) (rfl : k.toInt = k.toInt) (by omega); rw [hx] at c_37; omega))) dX2_field_45 ?_
            refine gz_goto (tgt := 50) dX2_field_46 (by decide) ?_
            exact gz_iret rfl dX2_field_50 (Nat.le_of_ble_eq_true rfl) (Nat.le_of_ble_eq_true rfl) (⟨_, rfl, (show _ = _ from Eq.symm (by unfold fldF; rw [if_neg c_1, if_neg c_9, if_neg c_13, if_pos c_19, if_neg c_37])), rfl⟩)
        ·
          refine gz_iconst (v := (-1)) dX2_field_22 (by decide) ?_
          exact gz_iret rfl dX2_field_23 (Nat.le_of_ble_eq_true rfl) (Nat.le_of_ble_eq_true rfl) (⟨_, rfl, (show _ = _ from Eq.symm (by unfold fldF; rw [if_neg c_1, if_neg c_9, if_neg c_13, if_neg c_19])), rfl⟩)

def stF (n1 : Nat) (g : Nat → Int32) (s w k x : Int32) : Nat → Int32 := (if (w : Int32) < 0 then (g) else (if s ≤ (w : Int32) then (g) else (if (k : Int32) < 0 then (g) else (if (k : Int32) < 13 then (if (Int32.ofNat n1) ≤ (((w * 13) + k) : Int32) then (g) else (upd g (Int32.toNatClampNeg ((w * 13) + k)) x)) else (g)))))
set_option maxHeartbeats 4000000 in
set_option maxRecDepth 100000 in
theorem k_X2_setField {l : Launch} {D : va_G} {cy : Nat → ClassId} {b : Nat} {f : gMem} {p c1 c2 n1 : Nat} {s v : Int32} {g : Nat → Int32} {w k x : Int32} (hp : f p = some (.inr (2, [.ref c1, .ref c2, .int s, .int v]))) (h1 : f c1 = some (.inl (cy 0, n1, .inl (g)))) (hs : 0 ≤ s.toInt ∧ 13 * s.toInt ≤ n1 ∧ n1 ≤ 520) : gC l D cy b yX2_setField cX2_setField 5 none 0 0 0 [.ref p, .int w, .int k, .int x] f (pV fun f2 => f2 c1 = some (.inl (cy 0, n1, .inl (stF n1 g s w k x))) ∧ fr [c1] f f2) := by
  refine gC_of (by decide) (Nat.le_of_ble_eq_true rfl) ?_
  show gG l _ _ _ D cy b cX2_setField 5 _ RX2 "setField" 0 0 f 0 [(0, .ref p), (1, .int w), (2, .int k), (3, .int x)] []
  refine gz_iload_n dX2_setField_0 rfl rfl ?_
  refine gz_if_lt (tgt := 22) dX2_setField_1 (by decide) (fun c_1 => ?_) (fun c_1 => ?_)
  ·
    exact gz_vret rfl dX2_setField_22 (Nat.le_of_ble_eq_true rfl) (Nat.le_of_ble_eq_true rfl) (⟨rfl, (by rw [show stF n1 g s w k x = _ from (by unfold stF; rw [if_pos c_1])]; exact h1), fr_rf⟩)
  ·
    refine gz_iload_n dX2_setField_4 rfl rfl ?_
    refine gz_aload_n dX2_setField_5 rfl rfl ?_
    refine sgX2_24 hp rfl dX2_setField_6 ?_
    refine gz_icmp_ge (tgt := 22) dX2_setField_9 (by decide) (fun c_9 => ?_) (fun c_9 => ?_)
    ·
      exact gz_vret rfl dX2_setField_22 (Nat.le_of_ble_eq_true rfl) (Nat.le_of_ble_eq_true rfl) (⟨rfl, (by rw [show stF n1 g s w k x = _ from (by unfold stF; rw [if_neg c_1, if_pos c_9])]; exact h1), fr_rf⟩)
    ·
      refine gz_iload_n dX2_setField_12 rfl rfl ?_
      refine gz_if_lt (tgt := 22) dX2_setField_13 (by decide) (fun c_13 => ?_) (fun c_13 => ?_)
      ·
        exact gz_vret rfl dX2_setField_22 (Nat.le_of_ble_eq_true rfl) (Nat.le_of_ble_eq_true rfl) (⟨rfl, (by rw [show stF n1 g s w k x = _ from (by unfold stF; rw [if_neg c_1, if_neg c_9, if_pos c_13])]; exact h1), fr_rf⟩)
      ·
        refine gz_iload_n dX2_setField_16 rfl rfl ?_
        refine gz_bipush (v := 13) dX2_setField_17 (by decide) ?_
        refine gz_icmp_lt (tgt := 23) dX2_setField_19 (by decide) (fun c_19 => ?_) (fun c_19 => ?_)
        ·
          refine gz_iload_n dX2_setField_23 rfl rfl ?_
          refine gz_bipush (v := 13) dX2_setField_24 (by decide) ?_
          refine gz_imul dX2_setField_26 ?_
          refine gz_iload_n dX2_setField_27 rfl rfl ?_
          refine gz_iadd dX2_setField_28 ?_
          refine gz_istore (lv' := [(4, .int ((w * 13) + k)), (0, .ref p), (1, .int w), (2, .int k), (3, .int x)]) dX2_setField_29 (by decide) rfl ?_
          refine gz_iload dX2_setField_31 rfl ?_
          refine gz_aload_n dX2_setField_33 rfl rfl ?_
          refine sgX2_15 hp rfl dX2_setField_34 ?_
          refine gz_alen0 (v := Int32.ofNat n1) h1 rfl dX2_setField_37 ?_
          refine gz_icmp_ge (tgt := 49) dX2_setField_38 (by decide) (fun c_38 => ?_) (fun c_38 => ?_)
          ·
            exact gz_vret rfl dX2_setField_49 (Nat.le_of_ble_eq_true rfl) (Nat.le_of_ble_eq_true rfl) (⟨rfl, (by rw [show stF n1 g s w k x = _ from (by unfold stF; rw [if_neg c_1, if_neg c_9, if_neg c_13, if_pos c_19, if_pos c_38])]; exact h1), fr_rf⟩)
          ·
            refine gz_aload_n dX2_setField_41 rfl rfl ?_
            refine sgX2_15 hp rfl dX2_setField_42 ?_
            refine gz_iload dX2_setField_45 rfl ?_
            refine gz_iload_n dX2_setField_47 rfl rfl ?_
            refine gz_iast h1 ((by have e13 : (13 : Int32).toInt = 13 := rfl; have e0 : (0 : Int32).toInt = 0 := rfl; have e2 : (2 : Int32).toInt = 2 := rfl; have e1 : (1 : Int32).toInt = 1 := rfl; have e6 : (6 : Int32).toInt = 6 := rfl; have em2 : (-2 : Int32).toInt = -2 := rfl; simp only [fl_lt, fl_le] at c_1 c_9 c_13 c_19 c_38; have eN : (Int32.ofNat n1).toInt = n1 := ofN_toInt (by omega); have hx := T_add (T_mul (rfl : w.toInt = w.toInt) e13 (by omega)) (rfl : k.toInt = k.toInt) (by omega); rw [hx] at c_38; exact vin_T hx (by omega) (by omega))) dX2_setField_48 ?_
            obtain ⟨f1, hf1⟩ : ∃ gg : gMem, gg = va_up f c1 (some (.inl (cy 0, n1, .inl (upd g (Int32.toNatClampNeg ((w * 13) + k)) x)))) := ⟨_, rfl⟩
            refine gz_eq (f2 := f1) hf1.symm rfl rfl rfl ?_
            have hp_1 : f1 p = some (.inr (2, [.ref c1, .ref c2, .int s, .int v])) := by rw [hf1, va_up_ne _ _ (cne hp h1 (by simp))]; exact hp
            have h1_1 : f1 c1 = some (.inl (cy 0, n1, .inl (upd g (Int32.toNatClampNeg ((w * 13) + k)) x))) := by rw [hf1]; exact va_up_self _ _ _
            exact gz_vret rfl dX2_setField_49 (Nat.le_of_ble_eq_true rfl) (Nat.le_of_ble_eq_true rfl) (⟨rfl, (by rw [show stF n1 g s w k x = _ from (by unfold stF; rw [if_neg c_1, if_neg c_9, if_neg c_13, if_pos c_19, if_neg c_38])]; exact h1_1), by rw [hf1]; exact fr_up fr_rf (by simp)⟩)
        ·
          exact gz_vret rfl dX2_setField_22 (Nat.le_of_ble_eq_true rfl) (Nat.le_of_ble_eq_true rfl) (⟨rfl, (by rw [show stF n1 g s w k x = _ from (by unfold stF; rw [if_neg c_1, if_neg c_9, if_neg c_13, if_neg c_19])]; exact h1), fr_rf⟩)

def jntF (n2 : Nat) (h : Nat → Int32) (v i : Int32) : Int32 := (if (i : Int32) < 0 then (-1) else (if v ≤ (i : Int32) then (-1) else (if (Int32.ofNat n2) ≤ ((i * 2) : Int32) then (-1) else (h (Int32.toNatClampNeg (i * 2))))))
set_option maxHeartbeats 4000000 in
set_option maxRecDepth 100000 in
theorem k_X2_joint {l : Launch} {D : va_G} {cy : Nat → ClassId} {b : Nat} {f : gMem} {p c1 c2 n2 : Nat} {s v : Int32} {h : Nat → Int32} {i : Int32} (hp : f p = some (.inr (2, [.ref c1, .ref c2, .int s, .int v]))) (h2 : f c2 = some (.inl (cy 0, n2, .inl (h)))) (hv : 0 ≤ v.toInt ∧ 2 * v.toInt ≤ n2 ∧ n2 ≤ 80) : gC l D cy b yX2_joint cX2_joint 3 (some .int) 0 0 0 [.ref p, .int i] f (pI fun r f2 => r = jntF n2 h v i ∧ f2 = f) := by
  refine gC_of (by decide) (Nat.le_of_ble_eq_true rfl) ?_
  show gG l _ _ _ D cy b cX2_joint 3 _ RX2 "joint" 0 0 f 0 [(0, .ref p), (1, .int i)] []
  refine gz_iload_n dX2_joint_0 rfl rfl ?_
  refine gz_iconst (v := 2) dX2_joint_1 (by decide) ?_
  refine gz_imul dX2_joint_2 ?_
  refine gz_istore_n (lv' := [(2, .int (i * 2)), (0, .ref p), (1, .int i)]) dX2_joint_3 rfl (by decide) rfl ?_
  refine gz_iload_n dX2_joint_4 rfl rfl ?_
  refine gz_if_lt (tgt := 34) dX2_joint_5 (by decide) (fun c_5 => ?_) (fun c_5 => ?_)
  ·
    refine gz_iconst (v := (-1)) dX2_joint_34 (by decide) ?_
    exact gz_iret rfl dX2_joint_35 (Nat.le_of_ble_eq_true rfl) (Nat.le_of_ble_eq_true rfl) (⟨_, rfl, (show _ = _ from Eq.symm (by unfold jntF; rw [if_pos c_5])), rfl⟩)
  ·
    refine gz_iload_n dX2_joint_8 rfl rfl ?_
    refine gz_aload_n dX2_joint_9 rfl rfl ?_
    refine sgX2_28 hp rfl dX2_joint_10 ?_
    refine gz_icmp_ge (tgt := 34) dX2_joint_13 (by decide) (fun c_13 => ?_) (fun c_13 => ?_)
    ·
      refine gz_iconst (v := (-1)) dX2_joint_34 (by decide) ?_
      exact gz_iret rfl dX2_joint_35 (Nat.le_of_ble_eq_true rfl) (Nat.le_of_ble_eq_true rfl) (⟨_, rfl, (show _ = _ from Eq.symm (by unfold jntF; rw [if_neg c_5, if_pos c_13])), rfl⟩)
    ·
      refine gz_iload_n dX2_joint_16 rfl rfl ?_
      refine gz_aload_n dX2_joint_17 rfl rfl ?_
      refine sgX2_21 hp rfl dX2_joint_18 ?_
      refine gz_alen0 (v := Int32.ofNat n2) h2 rfl dX2_joint_21 ?_
      refine gz_icmp_ge (tgt := 34) dX2_joint_22 (by decide) (fun c_22 => ?_) (fun c_22 => ?_)
      ·
        refine gz_iconst (v := (-1)) dX2_joint_34 (by decide) ?_
        exact gz_iret rfl dX2_joint_35 (Nat.le_of_ble_eq_true rfl) (Nat.le_of_ble_eq_true rfl) (⟨_, rfl, (show _ = _ from Eq.symm (by unfold jntF; rw [if_neg c_5, if_neg c_13, if_pos c_22])), rfl⟩)
      ·
        refine gz_aload_n dX2_joint_25 rfl rfl ?_
        refine sgX2_21 hp rfl dX2_joint_26 ?_
        refine gz_iload_n dX2_joint_29 rfl rfl ?_
        refine gz_iald h2 ((by have e13 : (13 : Int32).toInt = 13 := rfl; have e0 : (0 : Int32).toInt = 0 := rfl; have e2 : (2 : Int32).toInt = 2 := rfl; have e1 : (1 : Int32).toInt = 1 := rfl; have e6 : (6 : Int32).toInt = 6 := rfl; have em2 : (-2 : Int32).toInt = -2 := rfl; simp only [fl_lt, fl_le] at c_5 c_13 c_22; have eN : (Int32.ofNat n2).toInt = n2 := ofN_toInt (by omega); have hx := T_mul (rfl : i.toInt = i.toInt) e2 (by omega); rw [hx] at c_22; exact vin_T hx (by omega) (by omega))) dX2_joint_30 ?_
        refine gz_goto (tgt := 35) dX2_joint_31 (by decide) ?_
        exact gz_iret rfl dX2_joint_35 (Nat.le_of_ble_eq_true rfl) (Nat.le_of_ble_eq_true rfl) (⟨_, rfl, (show _ = _ from Eq.symm (by unfold jntF; rw [if_neg c_5, if_neg c_13, if_neg c_22])), rfl⟩)

def valF (n2 : Nat) (h : Nat → Int32) (v i : Int32) : Int32 := (if (i : Int32) < 0 then (-1) else (if v ≤ (i : Int32) then (-1) else (if (Int32.ofNat n2) ≤ (((i * 2) + 1) : Int32) then (-1) else (h (Int32.toNatClampNeg ((i * 2) + 1))))))
set_option maxHeartbeats 4000000 in
set_option maxRecDepth 100000 in
theorem k_X2_value {l : Launch} {D : va_G} {cy : Nat → ClassId} {b : Nat} {f : gMem} {p c1 c2 n2 : Nat} {s v : Int32} {h : Nat → Int32} {i : Int32} (hp : f p = some (.inr (2, [.ref c1, .ref c2, .int s, .int v]))) (h2 : f c2 = some (.inl (cy 0, n2, .inl (h)))) (hv : 0 ≤ v.toInt ∧ 2 * v.toInt ≤ n2 ∧ n2 ≤ 80) : gC l D cy b yX2_value cX2_value 3 (some .int) 0 0 0 [.ref p, .int i] f (pI fun r f2 => r = valF n2 h v i ∧ f2 = f) := by
  refine gC_of (by decide) (Nat.le_of_ble_eq_true rfl) ?_
  show gG l _ _ _ D cy b cX2_value 3 _ RX2 "value" 0 0 f 0 [(0, .ref p), (1, .int i)] []
  refine gz_iload_n dX2_value_0 rfl rfl ?_
  refine gz_iconst (v := 2) dX2_value_1 (by decide) ?_
  refine gz_imul dX2_value_2 ?_
  refine gz_iconst (v := 1) dX2_value_3 (by decide) ?_
  refine gz_iadd dX2_value_4 ?_
  refine gz_istore_n (lv' := [(2, .int ((i * 2) + 1)), (0, .ref p), (1, .int i)]) dX2_value_5 rfl (by decide) rfl ?_
  refine gz_iload_n dX2_value_6 rfl rfl ?_
  refine gz_if_lt (tgt := 36) dX2_value_7 (by decide) (fun c_7 => ?_) (fun c_7 => ?_)
  ·
    refine gz_iconst (v := (-1)) dX2_value_36 (by decide) ?_
    exact gz_iret rfl dX2_value_37 (Nat.le_of_ble_eq_true rfl) (Nat.le_of_ble_eq_true rfl) (⟨_, rfl, (show _ = _ from Eq.symm (by unfold valF; rw [if_pos c_7])), rfl⟩)
  ·
    refine gz_iload_n dX2_value_10 rfl rfl ?_
    refine gz_aload_n dX2_value_11 rfl rfl ?_
    refine sgX2_28 hp rfl dX2_value_12 ?_
    refine gz_icmp_ge (tgt := 36) dX2_value_15 (by decide) (fun c_15 => ?_) (fun c_15 => ?_)
    ·
      refine gz_iconst (v := (-1)) dX2_value_36 (by decide) ?_
      exact gz_iret rfl dX2_value_37 (Nat.le_of_ble_eq_true rfl) (Nat.le_of_ble_eq_true rfl) (⟨_, rfl, (show _ = _ from Eq.symm (by unfold valF; rw [if_neg c_7, if_pos c_15])), rfl⟩)
    ·
      refine gz_iload_n dX2_value_18 rfl rfl ?_
      refine gz_aload_n dX2_value_19 rfl rfl ?_
      refine sgX2_21 hp rfl dX2_value_20 ?_
      refine gz_alen0 (v := Int32.ofNat n2) h2 rfl dX2_value_23 ?_
      refine gz_icmp_ge (tgt := 36) dX2_value_24 (by decide) (fun c_24 => ?_) (fun c_24 => ?_)
      ·
        refine gz_iconst (v := (-1)) dX2_value_36 (by decide) ?_
        exact gz_iret rfl dX2_value_37 (Nat.le_of_ble_eq_true rfl) (Nat.le_of_ble_eq_true rfl) (⟨_, rfl, (show _ = _ from Eq.symm (by unfold valF; rw [if_neg c_7, if_neg c_15, if_pos c_24])), rfl⟩)
      ·
        refine gz_aload_n dX2_value_27 rfl rfl ?_
        refine sgX2_21 hp rfl dX2_value_28 ?_
        refine gz_iload_n dX2_value_31 rfl rfl ?_
        refine gz_iald h2 ((by have e13 : (13 : Int32).toInt = 13 := rfl; have e0 : (0 : Int32).toInt = 0 := rfl; have e2 : (2 : Int32).toInt = 2 := rfl; have e1 : (1 : Int32).toInt = 1 := rfl; have e6 : (6 : Int32).toInt = 6 := rfl; have em2 : (-2 : Int32).toInt = -2 := rfl; simp only [fl_lt, fl_le] at c_7 c_15 c_24; have eN : (Int32.ofNat n2).toInt = n2 := ofN_toInt (by omega); have hx := T_add (T_mul (rfl : i.toInt = i.toInt) e2 (by omega)) e1 (by omega); rw [hx] at c_24; exact vin_T hx (by omega) (by omega))) dX2_value_32 ?_
        refine gz_goto (tgt := 37) dX2_value_33 (by decide) ?_
        exact gz_iret rfl dX2_value_37 (Nat.le_of_ble_eq_true rfl) (Nat.le_of_ble_eq_true rfl) (⟨_, rfl, (show _ = _ from Eq.symm (by unfold valF; rw [if_neg c_7, if_neg c_15, if_neg c_24])), rfl⟩)

def vofF (t : Nat → Int32) (da x : Int32) : Int32 := (if (x : Int32) < 0 then (if (((-2) - x) : Int32) < 0 then da else (if 6 ≤ (((-2) - x) : Int32) then da else (t (Int32.toNatClampNeg ((-2) - x))))) else x)
set_option maxHeartbeats 4000000 in
set_option maxRecDepth 100000 in
theorem k_X7_valueOf {l : Launch} {D : va_G} {cy : Nat → ClassId} {b : Nat} {f : gMem} {sc th : Nat} {da : Int32} {t : Nat → Int32} {x : Int32} (hsc : f sc = some (.inr (7, [.ref th, .int da]))) (hth : f th = some (.inl (cy 0, 6, .inl (t))))  : gC l D cy b yX7_valueOf cX7_valueOf 3 (some .int) 0 0 0 [.ref sc, .int x] f (pI fun r f2 => r = vofF t da x ∧ f2 = f) := by
  refine gC_of (by decide) (Nat.le_of_ble_eq_true rfl) ?_
  show gG l _ _ _ D cy b cX7_valueOf 3 _ RX7 "valueOf" 0 0 f 0 [(0, .ref sc), (1, .int x)] []
  refine gz_iload_n dX7_valueOf_0 rfl rfl ?_
  refine gz_if_lt (tgt := 6) dX7_valueOf_1 (by decide) (fun c_1 => ?_) (fun c_1 => ?_)
  ·
    refine gz_bipush (v := (-2)) dX7_valueOf_6 (by decide) ?_
    refine gz_iload_n dX7_valueOf_8 rfl rfl ?_
    refine gz_isub dX7_valueOf_9 ?_
    refine gz_istore_n (lv' := [(2, .int ((-2) - x)), (0, .ref sc), (1, .int x)]) dX7_valueOf_10 rfl (by decide) rfl ?_
    refine gz_iload_n dX7_valueOf_11 rfl rfl ?_
    refine gz_if_lt (tgt := 30) dX7_valueOf_12 (by decide) (fun c_12 => ?_) (fun c_12 => ?_)
    ·
      refine gz_aload_n dX7_valueOf_30 rfl rfl ?_
      refine sgX7_15 hsc rfl dX7_valueOf_31 ?_
      exact gz_iret rfl dX7_valueOf_34 (Nat.le_of_ble_eq_true rfl) (Nat.le_of_ble_eq_true rfl) (⟨_, rfl, (show _ = _ from Eq.symm (by unfold vofF; rw [if_pos c_1, if_pos c_12])), rfl⟩)
    ·
      refine gz_iload_n dX7_valueOf_15 rfl rfl ?_
      refine gz_bipush (v := 6) dX7_valueOf_16 (by decide) ?_
      refine gz_icmp_ge (tgt := 30) dX7_valueOf_18 (by decide) (fun c_18 => ?_) (fun c_18 => ?_)
      ·
        refine gz_aload_n dX7_valueOf_30 rfl rfl ?_
        refine sgX7_15 hsc rfl dX7_valueOf_31 ?_
        exact gz_iret rfl dX7_valueOf_34 (Nat.le_of_ble_eq_true rfl) (Nat.le_of_ble_eq_true rfl) (⟨_, rfl, (show _ = _ from Eq.symm (by unfold vofF; rw [if_pos c_1, if_neg c_12, if_pos c_18])), rfl⟩)
      ·
        refine gz_aload_n dX7_valueOf_21 rfl rfl ?_
        refine sgX7_9 hsc rfl dX7_valueOf_22 ?_
        refine gz_iload_n dX7_valueOf_25 rfl rfl ?_
        refine gz_iald hth (vin c_12 c_18 rfl) dX7_valueOf_26 ?_
        refine gz_goto (tgt := 34) dX7_valueOf_27 (by decide) ?_
        exact gz_iret rfl dX7_valueOf_34 (Nat.le_of_ble_eq_true rfl) (Nat.le_of_ble_eq_true rfl) (⟨_, rfl, (show _ = _ from Eq.symm (by unfold vofF; rw [if_pos c_1, if_neg c_12, if_neg c_18])), rfl⟩)
  ·
    refine gz_iload_n dX7_valueOf_4 rfl rfl ?_
    exact gz_iret rfl dX7_valueOf_5 (Nat.le_of_ble_eq_true rfl) (Nat.le_of_ble_eq_true rfl) (⟨_, rfl, (show _ = _ from Eq.symm (by unfold vofF; rw [if_neg c_1])), rfl⟩)

def setT (t : Nat → Int32) (i x : Int32) : Nat → Int32 := (if (i : Int32) < 0 then (t) else (if 6 ≤ (i : Int32) then (t) else (upd t (Int32.toNatClampNeg i) x)))
set_option maxHeartbeats 4000000 in
set_option maxRecDepth 100000 in
theorem k_X7_setThing {l : Launch} {D : va_G} {cy : Nat → ClassId} {b : Nat} {f : gMem} {sc th : Nat} {da : Int32} {t : Nat → Int32} {i x : Int32} (hsc : f sc = some (.inr (7, [.ref th, .int da]))) (hth : f th = some (.inl (cy 0, 6, .inl (t))))  : gC l D cy b yX7_setThing cX7_setThing 3 none 0 0 0 [.ref sc, .int i, .int x] f (pV fun f2 => f2 th = some (.inl (cy 0, 6, .inl (setT t i x))) ∧ fr [th] f f2) := by
  refine gC_of (by decide) (Nat.le_of_ble_eq_true rfl) ?_
  show gG l _ _ _ D cy b cX7_setThing 3 _ RX7 "setThing" 0 0 f 0 [(0, .ref sc), (1, .int i), (2, .int x)] []
  refine gz_iload_n dX7_setThing_0 rfl rfl ?_
  refine gz_if_lt (tgt := 17) dX7_setThing_1 (by decide) (fun c_1 => ?_) (fun c_1 => ?_)
  ·
    exact gz_vret rfl dX7_setThing_17 (Nat.le_of_ble_eq_true rfl) (Nat.le_of_ble_eq_true rfl) (⟨rfl, (by rw [show setT t i x = _ from (by unfold setT; rw [if_pos c_1])]; exact hth), fr_rf⟩)
  ·
    refine gz_iload_n dX7_setThing_4 rfl rfl ?_
    refine gz_bipush (v := 6) dX7_setThing_5 (by decide) ?_
    refine gz_icmp_ge (tgt := 17) dX7_setThing_7 (by decide) (fun c_7 => ?_) (fun c_7 => ?_)
    ·
      exact gz_vret rfl dX7_setThing_17 (Nat.le_of_ble_eq_true rfl) (Nat.le_of_ble_eq_true rfl) (⟨rfl, (by rw [show setT t i x = _ from (by unfold setT; rw [if_neg c_1, if_pos c_7])]; exact hth), fr_rf⟩)
    ·
      refine gz_aload_n dX7_setThing_10 rfl rfl ?_
      refine sgX7_9 hsc rfl dX7_setThing_11 ?_
      refine gz_iload_n dX7_setThing_14 rfl rfl ?_
      refine gz_iload_n dX7_setThing_15 rfl rfl ?_
      refine gz_iast hth (vin c_1 c_7 rfl) dX7_setThing_16 ?_
      obtain ⟨f1, hf1⟩ : ∃ gg : gMem, gg = va_up f th (some (.inl (cy 0, 6, .inl (upd t (Int32.toNatClampNeg i) x)))) := ⟨_, rfl⟩
      refine gz_eq (f2 := f1) hf1.symm rfl rfl rfl ?_
      have hsc_1 : f1 sc = some (.inr (7, [.ref th, .int da])) := by rw [hf1, va_up_ne _ _ (cne hsc hth (by simp))]; exact hsc
      have hth_1 : f1 th = some (.inl (cy 0, 6, .inl (upd t (Int32.toNatClampNeg i) x))) := by rw [hf1]; exact va_up_self _ _ _
      exact gz_vret rfl dX7_setThing_17 (Nat.le_of_ble_eq_true rfl) (Nat.le_of_ble_eq_true rfl) (⟨rfl, (by rw [show setT t i x = _ from (by unfold setT; rw [if_neg c_1, if_neg c_7])]; exact hth_1), by rw [hf1]; exact fr_up fr_rf (by simp)⟩)

def addTh (t : Nat → Int32) (i x : Int32) : Nat → Int32 := (if (i : Int32) < 0 then (t) else (if 6 ≤ (i : Int32) then (t) else (upd t (Int32.toNatClampNeg i) ((t (Int32.toNatClampNeg i)) + x))))
set_option maxHeartbeats 4000000 in
set_option maxRecDepth 100000 in
theorem k_X7_addThing {l : Launch} {D : va_G} {cy : Nat → ClassId} {b : Nat} {f : gMem} {sc th : Nat} {da : Int32} {t : Nat → Int32} {i x : Int32} (hsc : f sc = some (.inr (7, [.ref th, .int da]))) (hth : f th = some (.inl (cy 0, 6, .inl (t))))  : gC l D cy b yX7_addThing cX7_addThing 3 none 0 0 0 [.ref sc, .int i, .int x] f (pV fun f2 => f2 th = some (.inl (cy 0, 6, .inl (addTh t i x))) ∧ fr [th] f f2) := by
  refine gC_of (by decide) (Nat.le_of_ble_eq_true rfl) ?_
  show gG l _ _ _ D cy b cX7_addThing 3 _ RX7 "addThing" 0 0 f 0 [(0, .ref sc), (1, .int i), (2, .int x)] []
  refine gz_iload_n dX7_addThing_0 rfl rfl ?_
  refine gz_if_lt (tgt := 20) dX7_addThing_1 (by decide) (fun c_1 => ?_) (fun c_1 => ?_)
  ·
    exact gz_vret rfl dX7_addThing_20 (Nat.le_of_ble_eq_true rfl) (Nat.le_of_ble_eq_true rfl) (⟨rfl, (by rw [show addTh t i x = _ from (by unfold addTh; rw [if_pos c_1])]; exact hth), fr_rf⟩)
  ·
    refine gz_iload_n dX7_addThing_4 rfl rfl ?_
    refine gz_bipush (v := 6) dX7_addThing_5 (by decide) ?_
    refine gz_icmp_ge (tgt := 20) dX7_addThing_7 (by decide) (fun c_7 => ?_) (fun c_7 => ?_)
    ·
      exact gz_vret rfl dX7_addThing_20 (Nat.le_of_ble_eq_true rfl) (Nat.le_of_ble_eq_true rfl) (⟨rfl, (by rw [show addTh t i x = _ from (by unfold addTh; rw [if_neg c_1, if_pos c_7])]; exact hth), fr_rf⟩)
    ·
      refine gz_aload_n dX7_addThing_10 rfl rfl ?_
      refine sgX7_9 hsc rfl dX7_addThing_11 ?_
      refine gz_iload_n dX7_addThing_14 rfl rfl ?_
      refine gz_dup2 dX7_addThing_15 rfl rfl ?_
      refine gz_iald hth (vin c_1 c_7 rfl) dX7_addThing_16 ?_
      refine gz_iload_n dX7_addThing_17 rfl rfl ?_
      refine gz_iadd dX7_addThing_18 ?_
      refine gz_iast hth (vin c_1 c_7 rfl) dX7_addThing_19 ?_
      obtain ⟨f1, hf1⟩ : ∃ gg : gMem, gg = va_up f th (some (.inl (cy 0, 6, .inl (upd t (Int32.toNatClampNeg i) ((t (Int32.toNatClampNeg i)) + x))))) := ⟨_, rfl⟩
      refine gz_eq (f2 := f1) hf1.symm rfl rfl rfl ?_
      have hsc_1 : f1 sc = some (.inr (7, [.ref th, .int da])) := by rw [hf1, va_up_ne _ _ (cne hsc hth (by simp))]; exact hsc
      have hth_1 : f1 th = some (.inl (cy 0, 6, .inl (upd t (Int32.toNatClampNeg i) ((t (Int32.toNatClampNeg i)) + x)))) := by rw [hf1]; exact va_up_self _ _ _
      exact gz_vret rfl dX7_addThing_20 (Nat.le_of_ble_eq_true rfl) (Nat.le_of_ble_eq_true rfl) (⟨rfl, (by rw [show addTh t i x = _ from (by unfold addTh; rw [if_neg c_1, if_neg c_7])]; exact hth_1), by rw [hf1]; exact fr_up fr_rf (by simp)⟩)

def addF (n2 : Nat) (h : Nat → Int32) (v j x : Int32) : (Int32) × (Nat → Int32) × (Int32) := (if ((v * 2) : Int32) < 0 then (0, (h), v) else (if (((v * 2) + 1) : Int32) < (Int32.ofNat n2) then (1, (upd (upd h (Int32.toNatClampNeg (v * 2)) j) (Int32.toNatClampNeg ((v * 2) + 1)) x), (v + 1)) else (0, (h), v)))
set_option maxHeartbeats 4000000 in
set_option maxRecDepth 100000 in
theorem k_X2_addValue {l : Launch} {D : va_G} {cy : Nat → ClassId} {b : Nat} {f : gMem} {p c1 c2 n2 : Nat} {s v : Int32} {h : Nat → Int32} {j x : Int32} (hp : f p = some (.inr (2, [.ref c1, .ref c2, .int s, .int v]))) (h2 : f c2 = some (.inl (cy 0, n2, .inl (h)))) (hv : 0 ≤ v.toInt ∧ 2 * v.toInt ≤ n2 ∧ n2 ≤ 80) : gC l D cy b yX2_addValue cX2_addValue 4 (some .boolean) 0 0 0 [.ref p, .int j, .int x] f (pI fun r f2 => r = (addF n2 h v j x).1 ∧ f2 c2 = some (.inl (cy 0, n2, .inl ((addF n2 h v j x).2.1))) ∧ f2 p = some (.inr (2, [.ref c1, .ref c2, .int s, .int (addF n2 h v j x).2.2])) ∧ fr [p, c2] f f2) := by
  refine gC_of (by decide) (Nat.le_of_ble_eq_true rfl) ?_
  show gG l _ _ _ D cy b cX2_addValue 4 _ RX2 "addValue" 0 0 f 0 [(0, .ref p), (1, .int j), (2, .int x)] []
  refine gz_aload_n dX2_addValue_0 rfl rfl ?_
  refine sgX2_28 hp rfl dX2_addValue_1 ?_
  refine gz_iconst (v := 2) dX2_addValue_4 (by decide) ?_
  refine gz_imul dX2_addValue_5 ?_
  refine gz_istore_n (lv' := [(3, .int (v * 2)), (0, .ref p), (1, .int j), (2, .int x)]) dX2_addValue_6 rfl (by decide) rfl ?_
  refine gz_iload_n dX2_addValue_7 rfl rfl ?_
  refine gz_if_lt (tgt := 22) dX2_addValue_8 (by decide) (fun c_8 => ?_) (fun c_8 => ?_)
  ·
    refine gz_iconst (v := 0) dX2_addValue_22 (by decide) ?_
    exact gz_zret rfl (by first | decide | exact nrb (Or.inl rfl) | (refine nrb ?_; (repeat' split) <;> first | assumption | exact Or.inl rfl | exact Or.inr rfl)) dX2_addValue_23 (Nat.le_of_ble_eq_true rfl) (Nat.le_of_ble_eq_true rfl) (⟨_, rfl, (by rw [(show addF n2 h v j x = _ from (by unfold addF; rw [if_pos c_8]))]), (by rw [(show addF n2 h v j x = _ from (by unfold addF; rw [if_pos c_8]))]; exact h2), (by rw [(show addF n2 h v j x = _ from (by unfold addF; rw [if_pos c_8]))]; exact hp), fr_rf⟩)
  ·
    refine gz_iload_n dX2_addValue_11 rfl rfl ?_
    refine gz_iconst (v := 1) dX2_addValue_12 (by decide) ?_
    refine gz_iadd dX2_addValue_13 ?_
    refine gz_aload_n dX2_addValue_14 rfl rfl ?_
    refine sgX2_21 hp rfl dX2_addValue_15 ?_
    refine gz_alen0 (v := Int32.ofNat n2) h2 rfl dX2_addValue_18 ?_
    refine gz_icmp_lt (tgt := 24) dX2_addValue_19 (by decide) (fun c_19 => ?_) (fun c_19 => ?_)
    ·
      refine gz_aload_n dX2_addValue_24 rfl rfl ?_
      refine sgX2_21 hp rfl dX2_addValue_25 ?_
      refine gz_iload_n dX2_addValue_28 rfl rfl ?_
      refine gz_iload_n dX2_addValue_29 rfl rfl ?_
      refine gz_iast h2 ((by have e13 : (13 : Int32).toInt = 13 := rfl; have e0 : (0 : Int32).toInt = 0 := rfl; have e2 : (2 : Int32).toInt = 2 := rfl; have e1 : (1 : Int32).toInt = 1 := rfl; have e6 : (6 : Int32).toInt = 6 := rfl; have em2 : (-2 : Int32).toInt = -2 := rfl; simp only [fl_lt, fl_le] at c_8 c_19; have eN : (Int32.ofNat n2).toInt = n2 := ofN_toInt (by omega); have hx := T_mul (rfl : v.toInt = v.toInt) e2 (by omega); have hy := T_add hx e1 (by omega); rw [hy] at c_19; exact vin_T hx (by omega) (by omega))) dX2_addValue_30 ?_
      obtain ⟨f1, hf1⟩ : ∃ gg : gMem, gg = va_up f c2 (some (.inl (cy 0, n2, .inl (upd h (Int32.toNatClampNeg (v * 2)) j)))) := ⟨_, rfl⟩
      refine gz_eq (f2 := f1) hf1.symm rfl rfl rfl ?_
      have hp_1 : f1 p = some (.inr (2, [.ref c1, .ref c2, .int s, .int v])) := by rw [hf1, va_up_ne _ _ (cne hp h2 (by simp))]; exact hp
      have h2_1 : f1 c2 = some (.inl (cy 0, n2, .inl (upd h (Int32.toNatClampNeg (v * 2)) j))) := by rw [hf1]; exact va_up_self _ _ _
      refine gz_aload_n dX2_addValue_31 rfl rfl ?_
      refine sgX2_21 hp_1 rfl dX2_addValue_32 ?_
      refine gz_iload_n dX2_addValue_35 rfl rfl ?_
      refine gz_iconst (v := 1) dX2_addValue_36 (by decide) ?_
      refine gz_iadd dX2_addValue_37 ?_
      refine gz_iload_n dX2_addValue_38 rfl rfl ?_
      refine gz_iast h2_1 ((by have e13 : (13 : Int32).toInt = 13 := rfl; have e0 : (0 : Int32).toInt = 0 := rfl; have e2 : (2 : Int32).toInt = 2 := rfl; have e1 : (1 : Int32).toInt = 1 := rfl; have e6 : (6 : Int32).toInt = 6 := rfl; have em2 : (-2 : Int32).toInt = -2 := rfl; simp only [fl_lt, fl_le] at c_8 c_19; have eN : (Int32.ofNat n2).toInt = n2 := ofN_toInt (by omega); have hx := T_mul (rfl : v.toInt = v.toInt) e2 (by omega); have hy := T_add hx e1 (by omega); rw [hy] at c_19; exact vin_T hy (by omega) (by omega))) dX2_addValue_39 ?_
      obtain ⟨f2, hf2⟩ : ∃ gg : gMem, gg = va_up f1 c2 (some (.inl (cy 0, n2, .inl (upd (upd h (Int32.toNatClampNeg (v * 2)) j) (Int32.toNatClampNeg ((v * 2) + 1)) x)))) := ⟨_, rfl⟩
      refine gz_eq (f2 := f2) hf2.symm rfl rfl rfl ?_
      have hp_2 : f2 p = some (.inr (2, [.ref c1, .ref c2, .int s, .int v])) := by rw [hf2, va_up_ne _ _ (cne hp_1 h2_1 (by simp))]; exact hp_1
      have h2_2 : f2 c2 = some (.inl (cy 0, n2, .inl (upd (upd h (Int32.toNatClampNeg (v * 2)) j) (Int32.toNatClampNeg ((v * 2) + 1)) x))) := by rw [hf2]; exact va_up_self _ _ _
      refine gz_aload_n dX2_addValue_40 rfl rfl ?_
      refine gz_dup dX2_addValue_41 rfl ?_
      refine sgX2_28 hp_2 rfl dX2_addValue_42 ?_
      refine gz_iconst (v := 1) dX2_addValue_45 (by decide) ?_
      refine gz_iadd dX2_addValue_46 ?_
      refine spX2_28 hp_2  (Nat.le_of_ble_eq_true rfl) dX2_addValue_47 ?_
      obtain ⟨f3, hf3⟩ : ∃ gg : gMem, gg = va_up f2 p (some (.inr (2, [.ref c1, .ref c2, .int s, .int (v + 1)]))) := ⟨_, rfl⟩
      refine gz_eq (f2 := f3) hf3.symm rfl rfl rfl ?_
      have h2_3 : f3 c2 = some (.inl (cy 0, n2, .inl (upd (upd h (Int32.toNatClampNeg (v * 2)) j) (Int32.toNatClampNeg ((v * 2) + 1)) x))) := by rw [hf3, va_up_ne _ _ (cne h2_2 hp_2 (by simp))]; exact h2_2
      have hp_3 : f3 p = some (.inr (2, [.ref c1, .ref c2, .int s, .int (v + 1)])) := by rw [hf3]; exact va_up_self _ _ _
      refine gz_iconst (v := 1) dX2_addValue_50 (by decide) ?_
      exact gz_zret rfl (by first | decide | exact nrb (Or.inl rfl) | (refine nrb ?_; (repeat' split) <;> first | assumption | exact Or.inl rfl | exact Or.inr rfl)) dX2_addValue_51 (Nat.le_of_ble_eq_true rfl) (Nat.le_of_ble_eq_true rfl) (⟨_, rfl, (by rw [(show addF n2 h v j x = _ from (by unfold addF; rw [if_neg c_8, if_pos c_19]))]), (by rw [(show addF n2 h v j x = _ from (by unfold addF; rw [if_neg c_8, if_pos c_19]))]; exact h2_3), (by rw [(show addF n2 h v j x = _ from (by unfold addF; rw [if_neg c_8, if_pos c_19]))]; exact hp_3), (by rw [hf3]; exact fr_up (by rw [hf2]; exact fr_up (by rw [hf1]; exact fr_up fr_rf (by simp)) (by simp)) (by simp))⟩)
    ·
      refine gz_iconst (v := 0) dX2_addValue_22 (by decide) ?_
      exact gz_zret rfl (by first | decide | exact nrb (Or.inl rfl) | (refine nrb ?_; (repeat' split) <;> first | assumption | exact Or.inl rfl | exact Or.inr rfl)) dX2_addValue_23 (Nat.le_of_ble_eq_true rfl) (Nat.le_of_ble_eq_true rfl) (⟨_, rfl, (by rw [(show addF n2 h v j x = _ from (by unfold addF; rw [if_neg c_8, if_neg c_19]))]), (by rw [(show addF n2 h v j x = _ from (by unfold addF; rw [if_neg c_8, if_neg c_19]))]; exact h2), (by rw [(show addF n2 h v j x = _ from (by unfold addF; rw [if_neg c_8, if_neg c_19]))]; exact hp), fr_rf⟩)

def inhF (n1 : Nat) (g : Nat → Int32) (s wd ar : Int32) : (Nat → Int32) := (stF n1 (stF n1 (stF n1 (stF n1 (stF n1 (stF n1 g s ar (if ((fldF n1 g s ar 3) : Int32) = (-1) then 3 else 4) wd) s wd 1 ((fldF n1 (stF n1 g s ar (if ((fldF n1 g s ar 3) : Int32) = (-1) then 3 else 4) wd) s ar 1) + 1)) s wd 10 (if ((fldF n1 g s ar 0) : Int32) = 2 then (1 - (fldF n1 g s ar 10)) else (fldF n1 g s ar 10))) s wd 9 (if ((fldF n1 g s ar 0) : Int32) = 10 then (if ((fldF n1 g s ar 9) : Int32) = (-1) then (fldF n1 g s ar 2) else (if (fldF n1 g s ar 2) < (fldF n1 g s ar 9) then (fldF n1 g s ar 2) else (fldF n1 g s ar 9))) else (fldF n1 g s ar 9))) s wd 11 (if ((fldF n1 g s ar 0) : Int32) = 8 then ar else (fldF n1 (stF n1 (stF n1 (stF n1 (stF n1 g s ar (if ((fldF n1 g s ar 3) : Int32) = (-1) then 3 else 4) wd) s wd 1 ((fldF n1 (stF n1 g s ar (if ((fldF n1 g s ar 3) : Int32) = (-1) then 3 else 4) wd) s ar 1) + 1)) s wd 10 (if ((fldF n1 g s ar 0) : Int32) = 2 then (1 - (fldF n1 g s ar 10)) else (fldF n1 g s ar 10))) s wd 9 (if ((fldF n1 g s ar 0) : Int32) = 10 then (if ((fldF n1 g s ar 9) : Int32) = (-1) then (fldF n1 g s ar 2) else (if (fldF n1 g s ar 2) < (fldF n1 g s ar 9) then (fldF n1 g s ar 2) else (fldF n1 g s ar 9))) else (fldF n1 g s ar 9))) s ar 11))) s wd 12 ((fldF n1 (stF n1 (stF n1 (stF n1 (stF n1 (stF n1 g s ar (if ((fldF n1 g s ar 3) : Int32) = (-1) then 3 else 4) wd) s wd 1 ((fldF n1 (stF n1 g s ar (if ((fldF n1 g s ar 3) : Int32) = (-1) then 3 else 4) wd) s ar 1) + 1)) s wd 10 (if ((fldF n1 g s ar 0) : Int32) = 2 then (1 - (fldF n1 g s ar 10)) else (fldF n1 g s ar 10))) s wd 9 (if ((fldF n1 g s ar 0) : Int32) = 10 then (if ((fldF n1 g s ar 9) : Int32) = (-1) then (fldF n1 g s ar 2) else (if (fldF n1 g s ar 2) < (fldF n1 g s ar 9) then (fldF n1 g s ar 2) else (fldF n1 g s ar 9))) else (fldF n1 g s ar 9))) s wd 11 (if ((fldF n1 g s ar 0) : Int32) = 8 then ar else (fldF n1 (stF n1 (stF n1 (stF n1 (stF n1 g s ar (if ((fldF n1 g s ar 3) : Int32) = (-1) then 3 else 4) wd) s wd 1 ((fldF n1 (stF n1 g s ar (if ((fldF n1 g s ar 3) : Int32) = (-1) then 3 else 4) wd) s ar 1) + 1)) s wd 10 (if ((fldF n1 g s ar 0) : Int32) = 2 then (1 - (fldF n1 g s ar 10)) else (fldF n1 g s ar 10))) s wd 9 (if ((fldF n1 g s ar 0) : Int32) = 10 then (if ((fldF n1 g s ar 9) : Int32) = (-1) then (fldF n1 g s ar 2) else (if (fldF n1 g s ar 2) < (fldF n1 g s ar 9) then (fldF n1 g s ar 2) else (fldF n1 g s ar 9))) else (fldF n1 g s ar 9))) s ar 11))) s ar 12) + (if ((fldF n1 g s ar 0) : Int32) = 8 then 1 else 0)))
set_option maxHeartbeats 4000000 in
set_option maxRecDepth 100000 in
theorem k_X2_inherit {l : Launch} {D : va_G} {cy : Nat → ClassId} {b : Nat} {f : gMem} {p c1 c2 n1 : Nat} {s v : Int32} {g : Nat → Int32} {wd ar : Int32} (hp : f p = some (.inr (2, [.ref c1, .ref c2, .int s, .int v]))) (h1 : f c1 = some (.inl (cy 0, n1, .inl (g)))) (hs : 0 ≤ s.toInt ∧ 13 * s.toInt ≤ n1 ∧ n1 ≤ 520) : gC l D cy b yX2_inherit cX2_inherit 7 none 1 0 0 [.ref p, .int wd, .int ar] f (pV fun f2 => f2 c1 = some (.inl (cy 0, n1, .inl ((inhF n1 g s wd ar)))) ∧ fr [c1] f f2) := by
  refine gC_of (by decide) (Nat.le_of_ble_eq_true rfl) ?_
  show gG l _ _ _ D cy b cX2_inherit 7 _ RX2 "inherit" 0 0 f 0 [(0, .ref p), (1, .int wd), (2, .int ar)] []
  refine gz_aload_n dX2_inherit_0 rfl rfl ?_
  refine gz_iload_n dX2_inherit_1 rfl rfl ?_
  refine gz_iconst (v := 0) dX2_inherit_2 (by decide) ?_
  refine scX2_31 (k_X2_field (w := ar) (k := 0) hp h1 hs) hp ⟨(Nat.le_of_ble_eq_true rfl), (Nat.le_of_ble_eq_true rfl)⟩ ⟨(Nat.le_of_ble_eq_true rfl), (Nat.le_of_ble_eq_true rfl)⟩ rfl rfl (Nat.le_of_ble_eq_true rfl) dX2_inherit_3 ?_
  intro v9 f9 z9; rw [z9.1, z9.2]
  refine gz_istore_n (lv' := [(3, .int (fldF n1 g s ar 0)), (0, .ref p), (1, .int wd), (2, .int ar)]) dX2_inherit_6 rfl (by decide) rfl ?_
  refine gz_aload_n dX2_inherit_7 rfl rfl ?_
  refine gz_iload_n dX2_inherit_8 rfl rfl ?_
  refine gz_bipush (v := 10) dX2_inherit_9 (by decide) ?_
  refine scX2_31 (k_X2_field (w := ar) (k := 10) hp h1 hs) hp ⟨(Nat.le_of_ble_eq_true rfl), (Nat.le_of_ble_eq_true rfl)⟩ ⟨(Nat.le_of_ble_eq_true rfl), (Nat.le_of_ble_eq_true rfl)⟩ rfl rfl (Nat.le_of_ble_eq_true rfl) dX2_inherit_11 ?_
  intro v9 f9 z9; rw [z9.1, z9.2]
  refine gz_istore (lv' := [(4, .int (fldF n1 g s ar 10)), (3, .int (fldF n1 g s ar 0)), (0, .ref p), (1, .int wd), (2, .int ar)]) dX2_inherit_14 (by decide) rfl ?_
  refine gz_aload_n dX2_inherit_16 rfl rfl ?_
  refine gz_iload_n dX2_inherit_17 rfl rfl ?_
  refine gz_bipush (v := 9) dX2_inherit_18 (by decide) ?_
  refine scX2_31 (k_X2_field (w := ar) (k := 9) hp h1 hs) hp ⟨(Nat.le_of_ble_eq_true rfl), (Nat.le_of_ble_eq_true rfl)⟩ ⟨(Nat.le_of_ble_eq_true rfl), (Nat.le_of_ble_eq_true rfl)⟩ rfl rfl (Nat.le_of_ble_eq_true rfl) dX2_inherit_20 ?_
  intro v9 f9 z9; rw [z9.1, z9.2]
  refine gz_istore (lv' := [(5, .int (fldF n1 g s ar 9)), (4, .int (fldF n1 g s ar 10)), (3, .int (fldF n1 g s ar 0)), (0, .ref p), (1, .int wd), (2, .int ar)]) dX2_inherit_23 (by decide) rfl ?_
  refine gz_aload_n dX2_inherit_25 rfl rfl ?_
  refine gz_iload_n dX2_inherit_26 rfl rfl ?_
  refine gz_iconst (v := 2) dX2_inherit_27 (by decide) ?_
  refine scX2_31 (k_X2_field (w := ar) (k := 2) hp h1 hs) hp ⟨(Nat.le_of_ble_eq_true rfl), (Nat.le_of_ble_eq_true rfl)⟩ ⟨(Nat.le_of_ble_eq_true rfl), (Nat.le_of_ble_eq_true rfl)⟩ rfl rfl (Nat.le_of_ble_eq_true rfl) dX2_inherit_28 ?_
  intro v9 f9 z9; rw [z9.1, z9.2]
  refine gz_istore (lv' := [(6, .int (fldF n1 g s ar 2)), (5, .int (fldF n1 g s ar 9)), (4, .int (fldF n1 g s ar 10)), (3, .int (fldF n1 g s ar 0)), (0, .ref p), (1, .int wd), (2, .int ar)]) dX2_inherit_31 (by decide) rfl ?_
  refine gz_aload_n dX2_inherit_33 rfl rfl ?_
  refine gz_iload_n dX2_inherit_34 rfl rfl ?_
  refine gz_aload_n dX2_inherit_35 rfl rfl ?_
  refine gz_iload_n dX2_inherit_36 rfl rfl ?_
  refine gz_iconst (v := 3) dX2_inherit_37 (by decide) ?_
  refine scX2_31 (k_X2_field (w := ar) (k := 3) hp h1 hs) hp ⟨(Nat.le_of_ble_eq_true rfl), (Nat.le_of_ble_eq_true rfl)⟩ ⟨(Nat.le_of_ble_eq_true rfl), (Nat.le_of_ble_eq_true rfl)⟩ rfl rfl (Nat.le_of_ble_eq_true rfl) dX2_inherit_38 ?_
  intro v9 f9 z9; rw [z9.1, z9.2]
  refine gz_iconst (v := (-1)) dX2_inherit_41 (by decide) ?_
  refine gz_mrg (f2 := f) (pc2 := 50) (lv2 := [(6, .int (fldF n1 g s ar 2)), (5, .int (fldF n1 g s ar 9)), (4, .int (fldF n1 g s ar 10)), (3, .int (fldF n1 g s ar 0)), (0, .ref p), (1, .int wd), (2, .int ar)]) (st2 := [.int (if ((fldF n1 g s ar 3) : Int32) = (-1) then 3 else 4), .int ar, .ref p]) ?_ (fun hj42 => ?_)
  ·
    refine gz_iload_n dX2_inherit_50 rfl rfl ?_
    refine scX2_34 (k_X2_setField (w := ar) (k := (if ((fldF n1 g s ar 3) : Int32) = (-1) then 3 else 4)) (x := wd) hp h1 hs) hp ⟨(Nat.le_of_ble_eq_true rfl), (Nat.le_of_ble_eq_true rfl)⟩ ⟨(Nat.le_of_ble_eq_true rfl), (Nat.le_of_ble_eq_true rfl)⟩ rfl rfl (Nat.le_of_ble_eq_true rfl) dX2_inherit_51 ?_
    rintro f1 ⟨h1_1, hr1⟩
    have hp_1 : f1 p = some (.inr (2, [.ref c1, .ref c2, .int s, .int v])) := hr1 _ _ hp (by simp only [List.mem_cons, List.not_mem_nil, or_false, not_or]; exact cne hp h1 (by simp))
    refine gz_aload_n dX2_inherit_54 rfl rfl ?_
    refine gz_iload_n dX2_inherit_55 rfl rfl ?_
    refine gz_iconst (v := 1) dX2_inherit_56 (by decide) ?_
    refine gz_aload_n dX2_inherit_57 rfl rfl ?_
    refine gz_iload_n dX2_inherit_58 rfl rfl ?_
    refine gz_iconst (v := 1) dX2_inherit_59 (by decide) ?_
    refine scX2_31 (k_X2_field (w := ar) (k := 1) hp_1 h1_1 hs) hp_1 ⟨(Nat.le_of_ble_eq_true rfl), (Nat.le_of_ble_eq_true rfl)⟩ ⟨(Nat.le_of_ble_eq_true rfl), (Nat.le_of_ble_eq_true rfl)⟩ rfl rfl (Nat.le_of_ble_eq_true rfl) dX2_inherit_60 ?_
    intro v9 f9 z9; rw [z9.1, z9.2]
    refine gz_iconst (v := 1) dX2_inherit_63 (by decide) ?_
    refine gz_iadd dX2_inherit_64 ?_
    refine scX2_34 (k_X2_setField (w := wd) (k := 1) (x := ((fldF n1 (stF n1 g s ar (if ((fldF n1 g s ar 3) : Int32) = (-1) then 3 else 4) wd) s ar 1) + 1)) hp_1 h1_1 hs) hp_1 ⟨(Nat.le_of_ble_eq_true rfl), (Nat.le_of_ble_eq_true rfl)⟩ ⟨(Nat.le_of_ble_eq_true rfl), (Nat.le_of_ble_eq_true rfl)⟩ rfl rfl (Nat.le_of_ble_eq_true rfl) dX2_inherit_65 ?_
    rintro f2 ⟨h1_2, hr2⟩
    have hp_2 : f2 p = some (.inr (2, [.ref c1, .ref c2, .int s, .int v])) := hr2 _ _ hp_1 (by simp only [List.mem_cons, List.not_mem_nil, or_false, not_or]; exact cne hp_1 h1_1 (by simp))
    refine gz_aload_n dX2_inherit_68 rfl rfl ?_
    refine gz_iload_n dX2_inherit_69 rfl rfl ?_
    refine gz_bipush (v := 10) dX2_inherit_70 (by decide) ?_
    refine gz_iload_n dX2_inherit_72 rfl rfl ?_
    refine gz_iconst (v := 2) dX2_inherit_73 (by decide) ?_
    refine gz_mrg (f2 := f2) (pc2 := 86) (lv2 := [(6, .int (fldF n1 g s ar 2)), (5, .int (fldF n1 g s ar 9)), (4, .int (fldF n1 g s ar 10)), (3, .int (fldF n1 g s ar 0)), (0, .ref p), (1, .int wd), (2, .int ar)]) (st2 := [.int (if ((fldF n1 g s ar 0) : Int32) = 2 then (1 - (fldF n1 g s ar 10)) else (fldF n1 g s ar 10)), .int 10, .int wd, .ref p]) ?_ (fun hj74 => ?_)
    ·
      refine scX2_34 (k_X2_setField (w := wd) (k := 10) (x := (if ((fldF n1 g s ar 0) : Int32) = 2 then (1 - (fldF n1 g s ar 10)) else (fldF n1 g s ar 10))) hp_2 h1_2 hs) hp_2 ⟨(Nat.le_of_ble_eq_true rfl), (Nat.le_of_ble_eq_true rfl)⟩ ⟨(Nat.le_of_ble_eq_true rfl), (Nat.le_of_ble_eq_true rfl)⟩ rfl rfl (Nat.le_of_ble_eq_true rfl) dX2_inherit_86 ?_
      rintro f3 ⟨h1_3, hr3⟩
      have hp_3 : f3 p = some (.inr (2, [.ref c1, .ref c2, .int s, .int v])) := hr3 _ _ hp_2 (by simp only [List.mem_cons, List.not_mem_nil, or_false, not_or]; exact cne hp_2 h1_2 (by simp))
      refine gz_iload_n dX2_inherit_89 rfl rfl ?_
      refine gz_bipush (v := 10) dX2_inherit_90 (by decide) ?_
      refine gz_mrg (f2 := f3) (pc2 := 115) (lv2 := [(6, .int (fldF n1 g s ar 2)), (5, .int (if ((fldF n1 g s ar 0) : Int32) = 10 then (if ((fldF n1 g s ar 9) : Int32) = (-1) then (fldF n1 g s ar 2) else (if (fldF n1 g s ar 2) < (fldF n1 g s ar 9) then (fldF n1 g s ar 2) else (fldF n1 g s ar 9))) else (fldF n1 g s ar 9))), (4, .int (fldF n1 g s ar 10)), (3, .int (fldF n1 g s ar 0)), (0, .ref p), (1, .int wd), (2, .int ar)]) (st2 := []) ?_ (fun hj92 => ?_)
      ·
        refine gz_aload_n dX2_inherit_115 rfl rfl ?_
        refine gz_iload_n dX2_inherit_116 rfl rfl ?_
        refine gz_bipush (v := 9) dX2_inherit_117 (by decide) ?_
        refine gz_iload dX2_inherit_119 rfl ?_
        refine scX2_34 (k_X2_setField (w := wd) (k := 9) (x := (if ((fldF n1 g s ar 0) : Int32) = 10 then (if ((fldF n1 g s ar 9) : Int32) = (-1) then (fldF n1 g s ar 2) else (if (fldF n1 g s ar 2) < (fldF n1 g s ar 9) then (fldF n1 g s ar 2) else (fldF n1 g s ar 9))) else (fldF n1 g s ar 9))) hp_3 h1_3 hs) hp_3 ⟨(Nat.le_of_ble_eq_true rfl), (Nat.le_of_ble_eq_true rfl)⟩ ⟨(Nat.le_of_ble_eq_true rfl), (Nat.le_of_ble_eq_true rfl)⟩ rfl rfl (Nat.le_of_ble_eq_true rfl) dX2_inherit_121 ?_
        rintro f4 ⟨h1_4, hr4⟩
        have hp_4 : f4 p = some (.inr (2, [.ref c1, .ref c2, .int s, .int v])) := hr4 _ _ hp_3 (by simp only [List.mem_cons, List.not_mem_nil, or_false, not_or]; exact cne hp_3 h1_3 (by simp))
        refine gz_aload_n dX2_inherit_124 rfl rfl ?_
        refine gz_iload_n dX2_inherit_125 rfl rfl ?_
        refine gz_bipush (v := 11) dX2_inherit_126 (by decide) ?_
        refine gz_iload_n dX2_inherit_128 rfl rfl ?_
        refine gz_bipush (v := 8) dX2_inherit_129 (by decide) ?_
        refine gz_mrg (f2 := f4) (pc2 := 145) (lv2 := [(6, .int (fldF n1 g s ar 2)), (5, .int (if ((fldF n1 g s ar 0) : Int32) = 10 then (if ((fldF n1 g s ar 9) : Int32) = (-1) then (fldF n1 g s ar 2) else (if (fldF n1 g s ar 2) < (fldF n1 g s ar 9) then (fldF n1 g s ar 2) else (fldF n1 g s ar 9))) else (fldF n1 g s ar 9))), (4, .int (fldF n1 g s ar 10)), (3, .int (fldF n1 g s ar 0)), (0, .ref p), (1, .int wd), (2, .int ar)]) (st2 := [.int (if ((fldF n1 g s ar 0) : Int32) = 8 then ar else (fldF n1 (stF n1 (stF n1 (stF n1 (stF n1 g s ar (if ((fldF n1 g s ar 3) : Int32) = (-1) then 3 else 4) wd) s wd 1 ((fldF n1 (stF n1 g s ar (if ((fldF n1 g s ar 3) : Int32) = (-1) then 3 else 4) wd) s ar 1) + 1)) s wd 10 (if ((fldF n1 g s ar 0) : Int32) = 2 then (1 - (fldF n1 g s ar 10)) else (fldF n1 g s ar 10))) s wd 9 (if ((fldF n1 g s ar 0) : Int32) = 10 then (if ((fldF n1 g s ar 9) : Int32) = (-1) then (fldF n1 g s ar 2) else (if (fldF n1 g s ar 2) < (fldF n1 g s ar 9) then (fldF n1 g s ar 2) else (fldF n1 g s ar 9))) else (fldF n1 g s ar 9))) s ar 11)), .int 11, .int wd, .ref p]) ?_ (fun hj131 => ?_)
        ·
          refine scX2_34 (k_X2_setField (w := wd) (k := 11) (x := (if ((fldF n1 g s ar 0) : Int32) = 8 then ar else (fldF n1 (stF n1 (stF n1 (stF n1 (stF n1 g s ar (if ((fldF n1 g s ar 3) : Int32) = (-1) then 3 else 4) wd) s wd 1 ((fldF n1 (stF n1 g s ar (if ((fldF n1 g s ar 3) : Int32) = (-1) then 3 else 4) wd) s ar 1) + 1)) s wd 10 (if ((fldF n1 g s ar 0) : Int32) = 2 then (1 - (fldF n1 g s ar 10)) else (fldF n1 g s ar 10))) s wd 9 (if ((fldF n1 g s ar 0) : Int32) = 10 then (if ((fldF n1 g s ar 9) : Int32) = (-1) then (fldF n1 g s ar 2) else (if (fldF n1 g s ar 2) < (fldF n1 g s ar 9) then (fldF n1 g s ar 2) else (fldF n1 g s ar 9))) else (fldF n1 g s ar 9))) s ar 11))) hp_4 h1_4 hs) hp_4 ⟨(Nat.le_of_ble_eq_true rfl), (Nat.le_of_ble_eq_true rfl)⟩ ⟨(Nat.le_of_ble_eq_true rfl), (Nat.le_of_ble_eq_true rfl)⟩ rfl rfl (Nat.le_of_ble_eq_true rfl) dX2_inherit_145 ?_
          rintro f5 ⟨h1_5, hr5⟩
          have hp_5 : f5 p = some (.inr (2, [.ref c1, .ref c2, .int s, .int v])) := hr5 _ _ hp_4 (by simp only [List.mem_cons, List.not_mem_nil, or_false, not_or]; exact cne hp_4 h1_4 (by simp))
          refine gz_aload_n dX2_inherit_148 rfl rfl ?_
          refine gz_iload_n dX2_inherit_149 rfl rfl ?_
          refine gz_bipush (v := 12) dX2_inherit_150 (by decide) ?_
          refine gz_aload_n dX2_inherit_152 rfl rfl ?_
          refine gz_iload_n dX2_inherit_153 rfl rfl ?_
          refine gz_bipush (v := 12) dX2_inherit_154 (by decide) ?_
          refine scX2_31 (k_X2_field (w := ar) (k := 12) hp_5 h1_5 hs) hp_5 ⟨(Nat.le_of_ble_eq_true rfl), (Nat.le_of_ble_eq_true rfl)⟩ ⟨(Nat.le_of_ble_eq_true rfl), (Nat.le_of_ble_eq_true rfl)⟩ rfl rfl (Nat.le_of_ble_eq_true rfl) dX2_inherit_156 ?_
          intro v9 f9 z9; rw [z9.1, z9.2]
          refine gz_iload_n dX2_inherit_159 rfl rfl ?_
          refine gz_bipush (v := 8) dX2_inherit_160 (by decide) ?_
          refine gz_mrg (f2 := f5) (pc2 := 170) (lv2 := [(6, .int (fldF n1 g s ar 2)), (5, .int (if ((fldF n1 g s ar 0) : Int32) = 10 then (if ((fldF n1 g s ar 9) : Int32) = (-1) then (fldF n1 g s ar 2) else (if (fldF n1 g s ar 2) < (fldF n1 g s ar 9) then (fldF n1 g s ar 2) else (fldF n1 g s ar 9))) else (fldF n1 g s ar 9))), (4, .int (fldF n1 g s ar 10)), (3, .int (fldF n1 g s ar 0)), (0, .ref p), (1, .int wd), (2, .int ar)]) (st2 := [.int (if ((fldF n1 g s ar 0) : Int32) = 8 then 1 else 0), .int (fldF n1 (stF n1 (stF n1 (stF n1 (stF n1 (stF n1 g s ar (if ((fldF n1 g s ar 3) : Int32) = (-1) then 3 else 4) wd) s wd 1 ((fldF n1 (stF n1 g s ar (if ((fldF n1 g s ar 3) : Int32) = (-1) then 3 else 4) wd) s ar 1) + 1)) s wd 10 (if ((fldF n1 g s ar 0) : Int32) = 2 then (1 - (fldF n1 g s ar 10)) else (fldF n1 g s ar 10))) s wd 9 (if ((fldF n1 g s ar 0) : Int32) = 10 then (if ((fldF n1 g s ar 9) : Int32) = (-1) then (fldF n1 g s ar 2) else (if (fldF n1 g s ar 2) < (fldF n1 g s ar 9) then (fldF n1 g s ar 2) else (fldF n1 g s ar 9))) else (fldF n1 g s ar 9))) s wd 11 (if ((fldF n1 g s ar 0) : Int32) = 8 then ar else (fldF n1 (stF n1 (stF n1 (stF n1 (stF n1 g s ar (if ((fldF n1 g s ar 3) : Int32) = (-1) then 3 else 4) wd) s wd 1 ((fldF n1 (stF n1 g s ar (if ((fldF n1 g s ar 3) : Int32) = (-1) then 3 else 4) wd) s ar 1) + 1)) s wd 10 (if ((fldF n1 g s ar 0) : Int32) = 2 then (1 - (fldF n1 g s ar 10)) else (fldF n1 g s ar 10))) s wd 9 (if ((fldF n1 g s ar 0) : Int32) = 10 then (if ((fldF n1 g s ar 9) : Int32) = (-1) then (fldF n1 g s ar 2) else (if (fldF n1 g s ar 2) < (fldF n1 g s ar 9) then (fldF n1 g s ar 2) else (fldF n1 g s ar 9))) else (fldF n1 g s ar 9))) s ar 11))) s ar 12), .int 12, .int wd, .ref p]) ?_ (fun hj162 => ?_)
          ·
            refine gz_iadd dX2_inherit_170 ?_
            refine scX2_34 (k_X2_setField (w := wd) (k := 12) (x := ((fldF n1 (stF n1 (stF n1 (stF n1 (stF n1 (stF n1 g s ar (if ((fldF n1 g s ar 3) : Int32) = (-1) then 3 else 4) wd) s wd 1 ((fldF n1 (stF n1 g s ar (if ((fldF n1 g s ar 3) : Int32) = (-1) then 3 else 4) wd) s ar 1) + 1)) s wd 10 (if ((fldF n1 g s ar 0) : Int32) = 2 then (1 - (fldF n1 g s ar 10)) else (fldF n1 g s ar 10))) s wd 9 (if ((fldF n1 g s ar 0) : Int32) = 10 then (if ((fldF n1 g s ar 9) : Int32) = (-1) then (fldF n1 g s ar 2) else (if (fldF n1 g s ar 2) < (fldF n1 g s ar 9) then (fldF n1 g s ar 2) else (fldF n1 g s ar 9))) else (fldF n1 g s ar 9))) s wd 11 (if ((fldF n1 g s ar 0) : Int32) = 8 then ar else (fldF n1 (stF n1 (stF n1 (stF n1 (stF n1 g s ar (if ((fldF n1 g s ar 3) : Int32) = (-1) then 3 else 4) wd) s wd 1 ((fldF n1 (stF n1 g s ar (if ((fldF n1 g s ar 3) : Int32) = (-1) then 3 else 4) wd) s ar 1) + 1)) s wd 10 (if ((fldF n1 g s ar 0) : Int32) = 2 then (1 - (fldF n1 g s ar 10)) else (fldF n1 g s ar 10))) s wd 9 (if ((fldF n1 g s ar 0) : Int32) = 10 then (if ((fldF n1 g s ar 9) : Int32) = (-1) then (fldF n1 g s ar 2) else (if (fldF n1 g s ar 2) < (fldF n1 g s ar 9) then (fldF n1 g s ar 2) else (fldF n1 g s ar 9))) else (fldF n1 g s ar 9))) s ar 11))) s ar 12) + (if ((fldF n1 g s ar 0) : Int32) = 8 then 1 else 0))) hp_5 h1_5 hs) hp_5 ⟨(Nat.le_of_ble_eq_true rfl), (Nat.le_of_ble_eq_true rfl)⟩ ⟨(Nat.le_of_ble_eq_true rfl), (Nat.le_of_ble_eq_true rfl)⟩ rfl rfl (Nat.le_of_ble_eq_true rfl) dX2_inherit_171 ?_
            rintro f6 ⟨h1_6, hr6⟩
            have hp_6 : f6 p = some (.inr (2, [.ref c1, .ref c2, .int s, .int v])) := hr6 _ _ hp_5 (by simp only [List.mem_cons, List.not_mem_nil, or_false, not_or]; exact cne hp_5 h1_5 (by simp))
            exact gz_vret rfl dX2_inherit_174 (Nat.le_of_ble_eq_true rfl) (Nat.le_of_ble_eq_true rfl) (⟨rfl, (by rw [(show inhF n1 g s wd ar = _ from (by unfold inhF; rfl))]; exact h1_6), (fr_tr (fr_tr (fr_tr (fr_tr (fr_tr (fr_tr fr_rf (fr_mo hr1 (by simp))) (fr_mo hr2 (by simp))) (fr_mo hr3 (by simp))) (fr_mo hr4 (by simp))) (fr_mo hr5 (by simp))) (fr_mo hr6 (by simp)))⟩)
          ·
            refine gz_icmp_ne (tgt := 169) dX2_inherit_162 (by decide) (fun c_162_1 => ?_) (fun c_162_1 => ?_)
            ·
              refine gz_iconst (v := 0) dX2_inherit_169 (by decide) ?_
              exact gz_eq rfl rfl (rfl) (by first | (rw [if_neg c_162_1]; done) | (simp only [if_neg c_162_1]; done)) hj162
            ·
              refine gz_iconst (v := 1) dX2_inherit_165 (by decide) ?_
              refine gz_goto (tgt := 170) dX2_inherit_166 (by decide) ?_
              exact gz_eq rfl rfl (rfl) (by first | (rw [if_pos c_162_1]; done) | (simp only [if_pos c_162_1]; done)) hj162
        ·
          refine gz_icmp_ne (tgt := 138) dX2_inherit_131 (by decide) (fun c_131_2 => ?_) (fun c_131_2 => ?_)
          ·
            refine gz_aload_n dX2_inherit_138 rfl rfl ?_
            refine gz_iload_n dX2_inherit_139 rfl rfl ?_
            refine gz_bipush (v := 11) dX2_inherit_140 (by decide) ?_
            refine scX2_31 (k_X2_field (w := ar) (k := 11) hp_4 h1_4 hs) hp_4 ⟨(Nat.le_of_ble_eq_true rfl), (Nat.le_of_ble_eq_true rfl)⟩ ⟨(Nat.le_of_ble_eq_true rfl), (Nat.le_of_ble_eq_true rfl)⟩ rfl rfl (Nat.le_of_ble_eq_true rfl) dX2_inherit_142 ?_
            intro v9 f9 z9; rw [z9.1, z9.2]
            exact gz_eq rfl rfl (rfl) (by first | (rw [if_neg c_131_2]; done) | (simp only [if_neg c_131_2]; done)) hj131
          ·
            refine gz_iload_n dX2_inherit_134 rfl rfl ?_
            refine gz_goto (tgt := 145) dX2_inherit_135 (by decide) ?_
            exact gz_eq rfl rfl (rfl) (by first | (rw [if_pos c_131_2]; done) | (simp only [if_pos c_131_2]; done)) hj131
      ·
        refine gz_icmp_ne (tgt := 115) dX2_inherit_92 (by decide) (fun c_92_3 => ?_) (fun c_92_3 => ?_)
        ·
          exact gz_eq rfl rfl (by first | (rw [if_neg c_92_3]; done) | (simp only [if_neg c_92_3]; done)) (rfl) hj92
        ·
          refine gz_iload dX2_inherit_95 rfl ?_
          refine gz_iconst (v := (-1)) dX2_inherit_97 (by decide) ?_
          refine gz_icmp_ne (tgt := 106) dX2_inherit_98 (by decide) (fun c_98 => ?_) (fun c_98 => ?_)
          ·
            refine gz_iload dX2_inherit_106 rfl ?_
            refine gz_iload dX2_inherit_108 rfl ?_
            refine scX2_42 (Nat.le_of_ble_eq_true rfl) (Nat.le_of_ble_eq_true rfl) (Nat.le_of_ble_eq_true rfl) (Nat.le_of_ble_eq_true rfl) (Nat.le_of_ble_eq_true rfl) dX2_inherit_110 ?_
            refine gz_istore (lv' := [(5, .int (if (fldF n1 g s ar 2) < (fldF n1 g s ar 9) then (fldF n1 g s ar 2) else (fldF n1 g s ar 9))), (6, .int (fldF n1 g s ar 2)), (4, .int (fldF n1 g s ar 10)), (3, .int (fldF n1 g s ar 0)), (0, .ref p), (1, .int wd), (2, .int ar)]) dX2_inherit_113 (by decide) rfl ?_
            refine gz_sub (lv' := [(6, .int (fldF n1 g s ar 2)), (5, .int (if (fldF n1 g s ar 2) < (fldF n1 g s ar 9) then (fldF n1 g s ar 2) else (fldF n1 g s ar 9))), (4, .int (fldF n1 g s ar 10)), (3, .int (fldF n1 g s ar 0)), (0, .ref p), (1, .int wd), (2, .int ar)]) (by simp [List.lookup]) ?_
            exact gz_eq rfl rfl (by first | (rw [if_pos c_92_3, if_neg c_98]; done) | (simp only [if_pos c_92_3, if_neg c_98]; done)) (rfl) hj92
          ·
            refine gz_iload dX2_inherit_101 rfl ?_
            refine gz_goto (tgt := 113) dX2_inherit_103 (by decide) ?_
            refine gz_istore (lv' := [(5, .int (fldF n1 g s ar 2)), (6, .int (fldF n1 g s ar 2)), (4, .int (fldF n1 g s ar 10)), (3, .int (fldF n1 g s ar 0)), (0, .ref p), (1, .int wd), (2, .int ar)]) dX2_inherit_113 (by decide) rfl ?_
            refine gz_sub (lv' := [(6, .int (fldF n1 g s ar 2)), (5, .int (fldF n1 g s ar 2)), (4, .int (fldF n1 g s ar 10)), (3, .int (fldF n1 g s ar 0)), (0, .ref p), (1, .int wd), (2, .int ar)]) (by simp [List.lookup]) ?_
            exact gz_eq rfl rfl (by first | (rw [if_pos c_92_3, if_pos c_98]; done) | (simp only [if_pos c_92_3, if_pos c_98]; done)) (rfl) hj92
    ·
      refine gz_icmp_ne (tgt := 84) dX2_inherit_74 (by decide) (fun c_74_4 => ?_) (fun c_74_4 => ?_)
      ·
        refine gz_iload dX2_inherit_84 rfl ?_
        exact gz_eq rfl rfl (rfl) (by first | (rw [if_neg c_74_4]; done) | (simp only [if_neg c_74_4]; done)) hj74
      ·
        refine gz_iconst (v := 1) dX2_inherit_77 (by decide) ?_
        refine gz_iload dX2_inherit_78 rfl ?_
        refine gz_isub dX2_inherit_80 ?_
        refine gz_goto (tgt := 86) dX2_inherit_81 (by decide) ?_
        exact gz_eq rfl rfl (rfl) (by first | (rw [if_pos c_74_4]; done) | (simp only [if_pos c_74_4]; done)) hj74
  ·
    refine gz_icmp_ne (tgt := 49) dX2_inherit_42 (by decide) (fun c_42_5 => ?_) (fun c_42_5 => ?_)
    ·
      refine gz_iconst (v := 4) dX2_inherit_49 (by decide) ?_
      exact gz_eq rfl rfl (rfl) (by first | (rw [if_neg c_42_5]; done) | (simp only [if_neg c_42_5]; done)) hj42
    ·
      refine gz_iconst (v := 3) dX2_inherit_45 (by decide) ?_
      refine gz_goto (tgt := 50) dX2_inherit_46 (by decide) ?_
      exact gz_eq rfl rfl (rfl) (by first | (rw [if_pos c_42_5]; done) | (simp only [if_pos c_42_5]; done)) hj42

def grwF (n1 : Nat) (g : Nat → Int32) (s kd ar : Int32) : (Int32) × (Nat → Int32) × (Int32) := (if (s : Int32) < 0 then ((-1), (g), s) else (if (Int32.ofNat n1) < (((s + 1) * 13) : Int32) then ((-1), (g), s) else (if ((fldF n1 g s ar 1) : Int32) < 11 then (if (ar : Int32) < 0 then (s, (stF n1 (stF n1 (stF n1 (stF n1 (stF n1 (stF n1 (stF n1 (stF n1 (stF n1 (stF n1 (stF n1 (stF n1 (stF n1 (stF n1 (stF n1 (stF n1 (stF n1 g (s + 1) s 0 (-1)) (s + 1) s 1 (-1)) (s + 1) s 2 (-1)) (s + 1) s 3 (-1)) (s + 1) s 4 (-1)) (s + 1) s 5 (-1)) (s + 1) s 6 (-1)) (s + 1) s 7 (-1)) (s + 1) s 8 (-1)) (s + 1) s 9 (-1)) (s + 1) s 10 (-1)) (s + 1) s 11 (-1)) (s + 1) s 12 (-1)) (s + 1) s 0 kd) (s + 1) s 1 0) (s + 1) s 10 0) (s + 1) s 12 0), (s + 1)) else (if s ≤ (ar : Int32) then (s, (stF n1 (stF n1 (stF n1 (stF n1 (stF n1 (stF n1 (stF n1 (stF n1 (stF n1 (stF n1 (stF n1 (stF n1 (stF n1 (stF n1 (stF n1 (stF n1 (stF n1 g (s + 1) s 0 (-1)) (s + 1) s 1 (-1)) (s + 1) s 2 (-1)) (s + 1) s 3 (-1)) (s + 1) s 4 (-1)) (s + 1) s 5 (-1)) (s + 1) s 6 (-1)) (s + 1) s 7 (-1)) (s + 1) s 8 (-1)) (s + 1) s 9 (-1)) (s + 1) s 10 (-1)) (s + 1) s 11 (-1)) (s + 1) s 12 (-1)) (s + 1) s 0 kd) (s + 1) s 1 0) (s + 1) s 10 0) (s + 1) s 12 0), (s + 1)) else (s, (inhF n1 (stF n1 (stF n1 (stF n1 (stF n1 (stF n1 (stF n1 (stF n1 (stF n1 (stF n1 (stF n1 (stF n1 (stF n1 (stF n1 (stF n1 (stF n1 (stF n1 (stF n1 g (s + 1) s 0 (-1)) (s + 1) s 1 (-1)) (s + 1) s 2 (-1)) (s + 1) s 3 (-1)) (s + 1) s 4 (-1)) (s + 1) s 5 (-1)) (s + 1) s 6 (-1)) (s + 1) s 7 (-1)) (s + 1) s 8 (-1)) (s + 1) s 9 (-1)) (s + 1) s 10 (-1)) (s + 1) s 11 (-1)) (s + 1) s 12 (-1)) (s + 1) s 0 kd) (s + 1) s 1 0) (s + 1) s 10 0) (s + 1) s 12 0) (s + 1) s ar), (s + 1)))) else ((-1), (g), s))))
set_option maxHeartbeats 4000000 in
set_option maxRecDepth 100000 in
theorem k_X2_grow {l : Launch} {D : va_G} {cy : Nat → ClassId} {b : Nat} {f : gMem} {p c1 c2 n1 : Nat} {s v : Int32} {g : Nat → Int32} {kd ar : Int32} (hp : f p = some (.inr (2, [.ref c1, .ref c2, .int s, .int v]))) (h1 : f c1 = some (.inl (cy 0, n1, .inl (g)))) (hs : 0 ≤ s.toInt ∧ 13 * s.toInt ≤ n1 ∧ n1 ≤ 520) : gC l D cy b yX2_grow cX2_grow 5 (some .int) 2 0 0 [.ref p, .int kd, .int ar] f (pI fun r f2 => r = (grwF n1 g s kd ar).1 ∧ f2 c1 = some (.inl (cy 0, n1, .inl ((grwF n1 g s kd ar).2.1))) ∧ f2 p = some (.inr (2, [.ref c1, .ref c2, .int (grwF n1 g s kd ar).2.2, .int v])) ∧ fr [p, c1] f f2) := by
  refine gC_of (by decide) (Nat.le_of_ble_eq_true rfl) ?_
  show gG l _ _ _ D cy b cX2_grow 5 _ RX2 "grow" 0 0 f 0 [(0, .ref p), (1, .int kd), (2, .int ar)] []
  refine gz_aload_n dX2_grow_0 rfl rfl ?_
  refine sgX2_24 hp rfl dX2_grow_1 ?_
  refine gz_istore_n (lv' := [(3, .int s), (0, .ref p), (1, .int kd), (2, .int ar)]) dX2_grow_4 rfl (by decide) rfl ?_
  refine gz_iload_n dX2_grow_5 rfl rfl ?_
  refine gz_if_lt (tgt := 34) dX2_grow_6 (by decide) (fun c_6 => ?_) (fun c_6 => ?_)
  ·
    refine gz_iconst (v := (-1)) dX2_grow_34 (by decide) ?_
    exact gz_iret rfl dX2_grow_35 (Nat.le_of_ble_eq_true rfl) (Nat.le_of_ble_eq_true rfl) (⟨_, rfl, (by rw [(show grwF n1 g s kd ar = _ from (by unfold grwF; rw [if_pos c_6]))]), (by rw [(show grwF n1 g s kd ar = _ from (by unfold grwF; rw [if_pos c_6]))]; exact h1), (by rw [(show grwF n1 g s kd ar = _ from (by unfold grwF; rw [if_pos c_6]))]; exact hp), fr_rf⟩)
  ·
    refine gz_iload_n dX2_grow_9 rfl rfl ?_
    refine gz_iconst (v := 1) dX2_grow_10 (by decide) ?_
    refine gz_iadd dX2_grow_11 ?_
    refine gz_bipush (v := 13) dX2_grow_12 (by decide) ?_
    refine gz_imul dX2_grow_14 ?_
    refine gz_aload_n dX2_grow_15 rfl rfl ?_
    refine sgX2_15 hp rfl dX2_grow_16 ?_
    refine gz_alen0 (v := Int32.ofNat n1) h1 rfl dX2_grow_19 ?_
    refine gz_icmp_gt (tgt := 34) dX2_grow_20 (by decide) (fun c_20 => ?_) (fun c_20 => ?_)
    ·
      refine gz_iconst (v := (-1)) dX2_grow_34 (by decide) ?_
      exact gz_iret rfl dX2_grow_35 (Nat.le_of_ble_eq_true rfl) (Nat.le_of_ble_eq_true rfl) (⟨_, rfl, (by rw [(show grwF n1 g s kd ar = _ from (by unfold grwF; rw [if_neg c_6, if_pos c_20]))]), (by rw [(show grwF n1 g s kd ar = _ from (by unfold grwF; rw [if_neg c_6, if_pos c_20]))]; exact h1), (by rw [(show grwF n1 g s kd ar = _ from (by unfold grwF; rw [if_neg c_6, if_pos c_20]))]; exact hp), fr_rf⟩)
    ·
      refine gz_aload_n dX2_grow_23 rfl rfl ?_
      refine gz_iload_n dX2_grow_24 rfl rfl ?_
      refine gz_iconst (v := 1) dX2_grow_25 (by decide) ?_
      refine scX2_31 (k_X2_field (w := ar) (k := 1) hp h1 hs) hp ⟨(Nat.le_of_ble_eq_true rfl), (Nat.le_of_ble_eq_true rfl)⟩ ⟨(Nat.le_of_ble_eq_true rfl), (Nat.le_of_ble_eq_true rfl)⟩ rfl rfl (Nat.le_of_ble_eq_true rfl) dX2_grow_26 ?_
      intro v9 f9 z9; rw [z9.1, z9.2]
      refine gz_bipush (v := 11) dX2_grow_29 (by decide) ?_
      refine gz_icmp_lt (tgt := 36) dX2_grow_31 (by decide) (fun c_31 => ?_) (fun c_31 => ?_)
      ·
        refine gz_aload_n dX2_grow_36 rfl rfl ?_
        refine gz_dup dX2_grow_37 rfl ?_
        refine sgX2_24 hp rfl dX2_grow_38 ?_
        refine gz_iconst (v := 1) dX2_grow_41 (by decide) ?_
        refine gz_iadd dX2_grow_42 ?_
        refine spX2_24 hp  (Nat.le_of_ble_eq_true rfl) dX2_grow_43 ?_
        obtain ⟨f1, hf1⟩ : ∃ gg : gMem, gg = va_up f p (some (.inr (2, [.ref c1, .ref c2, .int (s + 1), .int v]))) := ⟨_, rfl⟩
        refine gz_eq (f2 := f1) hf1.symm rfl rfl rfl ?_
        have h1_1 : f1 c1 = some (.inl (cy 0, n1, .inl (g))) := by rw [hf1, va_up_ne _ _ (cne h1 hp (by simp))]; exact h1
        have hp_1 : f1 p = some (.inr (2, [.ref c1, .ref c2, .int (s + 1), .int v])) := by rw [hf1]; exact va_up_self _ _ _
        have hs1 : 0 ≤ (s + 1).toInt ∧ 13 * (s + 1).toInt ≤ n1 ∧ n1 ≤ 520 := by have e13 : (13 : Int32).toInt = 13 := rfl; have e0 : (0 : Int32).toInt = 0 := rfl; have e2 : (2 : Int32).toInt = 2 := rfl; have e1 : (1 : Int32).toInt = 1 := rfl; have e6 : (6 : Int32).toInt = 6 := rfl; have em2 : (-2 : Int32).toInt = -2 := rfl; simp only [fl_lt] at c_6 c_20; have eN : (Int32.ofNat n1).toInt = n1 := ofN_toInt (by omega); have hx := T_add (rfl : s.toInt = s.toInt) e1 (by omega); have hy := T_mul hx e13 (by omega); rw [hy] at c_20; rw [hx]; omega
        refine gz_iconst (v := 0) dX2_grow_46 (by decide) ?_
        refine gz_istore (lv' := [(4, .int 0), (3, .int s), (0, .ref p), (1, .int kd), (2, .int ar)]) dX2_grow_47 (by decide) rfl ?_
        refine gz_iload dX2_grow_49 rfl ?_
        refine gz_bipush (v := 13) dX2_grow_51 (by decide) ?_
        refine gz_icmp_ge (tgt := 70) dX2_grow_53 (by decide) (fun c_53 => ?_) (fun c_53 => ?_)
        · exact absurd c_53 (by decide)
        ·
          refine gz_aload_n dX2_grow_56 rfl rfl ?_
          refine gz_iload_n dX2_grow_57 rfl rfl ?_
          refine gz_iload dX2_grow_58 rfl ?_
          refine gz_iconst (v := (-1)) dX2_grow_60 (by decide) ?_
          refine scX2_34 (k_X2_setField (w := s) (k := 0) (x := (-1)) hp_1 h1_1 hs1) hp_1 ⟨(Nat.le_of_ble_eq_true rfl), (Nat.le_of_ble_eq_true rfl)⟩ ⟨(Nat.le_of_ble_eq_true rfl), (Nat.le_of_ble_eq_true rfl)⟩ rfl rfl (Nat.le_of_ble_eq_true rfl) dX2_grow_61 ?_
          rintro f2 ⟨h1_2, hr2⟩
          have hp_2 : f2 p = some (.inr (2, [.ref c1, .ref c2, .int (s + 1), .int v])) := hr2 _ _ hp_1 (by simp only [List.mem_cons, List.not_mem_nil, or_false, not_or]; exact cne hp_1 h1_1 (by simp))
          refine gz_iinc (v := 1) (lv' := [(4, .int 1), (3, .int s), (0, .ref p), (1, .int kd), (2, .int ar)]) dX2_grow_64 rfl (by decide) (by decide) rfl ?_
          refine gz_goto (tgt := 49) dX2_grow_67 (by decide) ?_
          refine gz_iload dX2_grow_49 rfl ?_
          refine gz_bipush (v := 13) dX2_grow_51 (by decide) ?_
          refine gz_icmp_ge (tgt := 70) dX2_grow_53 (by decide) (fun c_53_1 => ?_) (fun c_53_1 => ?_)
          · exact absurd c_53_1 (by decide)
          ·
            refine gz_aload_n dX2_grow_56 rfl rfl ?_
            refine gz_iload_n dX2_grow_57 rfl rfl ?_
            refine gz_iload dX2_grow_58 rfl ?_
            refine gz_iconst (v := (-1)) dX2_grow_60 (by decide) ?_
            refine scX2_34 (k_X2_setField (w := s) (k := 1) (x := (-1)) hp_2 h1_2 hs1) hp_2 ⟨(Nat.le_of_ble_eq_true rfl), (Nat.le_of_ble_eq_true rfl)⟩ ⟨(Nat.le_of_ble_eq_true rfl), (Nat.le_of_ble_eq_true rfl)⟩ rfl rfl (Nat.le_of_ble_eq_true rfl) dX2_grow_61 ?_
            rintro f3 ⟨h1_3, hr3⟩
            have hp_3 : f3 p = some (.inr (2, [.ref c1, .ref c2, .int (s + 1), .int v])) := hr3 _ _ hp_2 (by simp only [List.mem_cons, List.not_mem_nil, or_false, not_or]; exact cne hp_2 h1_2 (by simp))
            refine gz_iinc (v := 2) (lv' := [(4, .int 2), (3, .int s), (0, .ref p), (1, .int kd), (2, .int ar)]) dX2_grow_64 rfl (by decide) (by decide) rfl ?_
            refine gz_goto (tgt := 49) dX2_grow_67 (by decide) ?_
            refine gz_iload dX2_grow_49 rfl ?_
            refine gz_bipush (v := 13) dX2_grow_51 (by decide) ?_
            refine gz_icmp_ge (tgt := 70) dX2_grow_53 (by decide) (fun c_53_2 => ?_) (fun c_53_2 => ?_)
            · exact absurd c_53_2 (by decide)
            ·
              refine gz_aload_n dX2_grow_56 rfl rfl ?_
              refine gz_iload_n dX2_grow_57 rfl rfl ?_
              refine gz_iload dX2_grow_58 rfl ?_
              refine gz_iconst (v := (-1)) dX2_grow_60 (by decide) ?_
              refine scX2_34 (k_X2_setField (w := s) (k := 2) (x := (-1)) hp_3 h1_3 hs1) hp_3 ⟨(Nat.le_of_ble_eq_true rfl), (Nat.le_of_ble_eq_true rfl)⟩ ⟨(Nat.le_of_ble_eq_true rfl), (Nat.le_of_ble_eq_true rfl)⟩ rfl rfl (Nat.le_of_ble_eq_true rfl) dX2_grow_61 ?_
              rintro f4 ⟨h1_4, hr4⟩
              have hp_4 : f4 p = some (.inr (2, [.ref c1, .ref c2, .int (s + 1), .int v])) := hr4 _ _ hp_3 (by simp only [List.mem_cons, List.not_mem_nil, or_false, not_or]; exact cne hp_3 h1_3 (by simp))
              refine gz_iinc (v := 3) (lv' := [(4, .int 3), (3, .int s), (0, .ref p), (1, .int kd), (2, .int ar)]) dX2_grow_64 rfl (by decide) (by decide) rfl ?_
              refine gz_goto (tgt := 49) dX2_grow_67 (by decide) ?_
              refine gz_iload dX2_grow_49 rfl ?_
              refine gz_bipush (v := 13) dX2_grow_51 (by decide) ?_
              refine gz_icmp_ge (tgt := 70) dX2_grow_53 (by decide) (fun c_53_3 => ?_) (fun c_53_3 => ?_)
              · exact absurd c_53_3 (by decide)
              ·
                refine gz_aload_n dX2_grow_56 rfl rfl ?_
                refine gz_iload_n dX2_grow_57 rfl rfl ?_
                refine gz_iload dX2_grow_58 rfl ?_
                refine gz_iconst (v := (-1)) dX2_grow_60 (by decide) ?_
                refine scX2_34 (k_X2_setField (w := s) (k := 3) (x := (-1)) hp_4 h1_4 hs1) hp_4 ⟨(Nat.le_of_ble_eq_true rfl), (Nat.le_of_ble_eq_true rfl)⟩ ⟨(Nat.le_of_ble_eq_true rfl), (Nat.le_of_ble_eq_true rfl)⟩ rfl rfl (Nat.le_of_ble_eq_true rfl) dX2_grow_61 ?_
                rintro f5 ⟨h1_5, hr5⟩
                have hp_5 : f5 p = some (.inr (2, [.ref c1, .ref c2, .int (s + 1), .int v])) := hr5 _ _ hp_4 (by simp only [List.mem_cons, List.not_mem_nil, or_false, not_or]; exact cne hp_4 h1_4 (by simp))
                refine gz_iinc (v := 4) (lv' := [(4, .int 4), (3, .int s), (0, .ref p), (1, .int kd), (2, .int ar)]) dX2_grow_64 rfl (by decide) (by decide) rfl ?_
                refine gz_goto (tgt := 49) dX2_grow_67 (by decide) ?_
                refine gz_iload dX2_grow_49 rfl ?_
                refine gz_bipush (v := 13) dX2_grow_51 (by decide) ?_
                refine gz_icmp_ge (tgt := 70) dX2_grow_53 (by decide) (fun c_53_4 => ?_) (fun c_53_4 => ?_)
                · exact absurd c_53_4 (by decide)
                ·
                  refine gz_aload_n dX2_grow_56 rfl rfl ?_
                  refine gz_iload_n dX2_grow_57 rfl rfl ?_
                  refine gz_iload dX2_grow_58 rfl ?_
                  refine gz_iconst (v := (-1)) dX2_grow_60 (by decide) ?_
                  refine scX2_34 (k_X2_setField (w := s) (k := 4) (x := (-1)) hp_5 h1_5 hs1) hp_5 ⟨(Nat.le_of_ble_eq_true rfl), (Nat.le_of_ble_eq_true rfl)⟩ ⟨(Nat.le_of_ble_eq_true rfl), (Nat.le_of_ble_eq_true rfl)⟩ rfl rfl (Nat.le_of_ble_eq_true rfl) dX2_grow_61 ?_
                  rintro f6 ⟨h1_6, hr6⟩
                  have hp_6 : f6 p = some (.inr (2, [.ref c1, .ref c2, .int (s + 1), .int v])) := hr6 _ _ hp_5 (by simp only [List.mem_cons, List.not_mem_nil, or_false, not_or]; exact cne hp_5 h1_5 (by simp))
                  refine gz_iinc (v := 5) (lv' := [(4, .int 5), (3, .int s), (0, .ref p), (1, .int kd), (2, .int ar)]) dX2_grow_64 rfl (by decide) (by decide) rfl ?_
                  refine gz_goto (tgt := 49) dX2_grow_67 (by decide) ?_
                  refine gz_iload dX2_grow_49 rfl ?_
                  refine gz_bipush (v := 13) dX2_grow_51 (by decide) ?_
                  refine gz_icmp_ge (tgt := 70) dX2_grow_53 (by decide) (fun c_53_5 => ?_) (fun c_53_5 => ?_)
                  · exact absurd c_53_5 (by decide)
                  ·
                    refine gz_aload_n dX2_grow_56 rfl rfl ?_
                    refine gz_iload_n dX2_grow_57 rfl rfl ?_
                    refine gz_iload dX2_grow_58 rfl ?_
                    refine gz_iconst (v := (-1)) dX2_grow_60 (by decide) ?_
                    refine scX2_34 (k_X2_setField (w := s) (k := 5) (x := (-1)) hp_6 h1_6 hs1) hp_6 ⟨(Nat.le_of_ble_eq_true rfl), (Nat.le_of_ble_eq_true rfl)⟩ ⟨(Nat.le_of_ble_eq_true rfl), (Nat.le_of_ble_eq_true rfl)⟩ rfl rfl (Nat.le_of_ble_eq_true rfl) dX2_grow_61 ?_
                    rintro f7 ⟨h1_7, hr7⟩
                    have hp_7 : f7 p = some (.inr (2, [.ref c1, .ref c2, .int (s + 1), .int v])) := hr7 _ _ hp_6 (by simp only [List.mem_cons, List.not_mem_nil, or_false, not_or]; exact cne hp_6 h1_6 (by simp))
                    refine gz_iinc (v := 6) (lv' := [(4, .int 6), (3, .int s), (0, .ref p), (1, .int kd), (2, .int ar)]) dX2_grow_64 rfl (by decide) (by decide) rfl ?_
                    refine gz_goto (tgt := 49) dX2_grow_67 (by decide) ?_
                    refine gz_iload dX2_grow_49 rfl ?_
                    refine gz_bipush (v := 13) dX2_grow_51 (by decide) ?_
                    refine gz_icmp_ge (tgt := 70) dX2_grow_53 (by decide) (fun c_53_6 => ?_) (fun c_53_6 => ?_)
                    · exact absurd c_53_6 (by decide)
                    ·
                      refine gz_aload_n dX2_grow_56 rfl rfl ?_
                      refine gz_iload_n dX2_grow_57 rfl rfl ?_
                      refine gz_iload dX2_grow_58 rfl ?_
                      refine gz_iconst (v := (-1)) dX2_grow_60 (by decide) ?_
                      refine scX2_34 (k_X2_setField (w := s) (k := 6) (x := (-1)) hp_7 h1_7 hs1) hp_7 ⟨(Nat.le_of_ble_eq_true rfl), (Nat.le_of_ble_eq_true rfl)⟩ ⟨(Nat.le_of_ble_eq_true rfl), (Nat.le_of_ble_eq_true rfl)⟩ rfl rfl (Nat.le_of_ble_eq_true rfl) dX2_grow_61 ?_
                      rintro f8 ⟨h1_8, hr8⟩
                      have hp_8 : f8 p = some (.inr (2, [.ref c1, .ref c2, .int (s + 1), .int v])) := hr8 _ _ hp_7 (by simp only [List.mem_cons, List.not_mem_nil, or_false, not_or]; exact cne hp_7 h1_7 (by simp))
                      refine gz_iinc (v := 7) (lv' := [(4, .int 7), (3, .int s), (0, .ref p), (1, .int kd), (2, .int ar)]) dX2_grow_64 rfl (by decide) (by decide) rfl ?_
                      refine gz_goto (tgt := 49) dX2_grow_67 (by decide) ?_
                      refine gz_iload dX2_grow_49 rfl ?_
                      refine gz_bipush (v := 13) dX2_grow_51 (by decide) ?_
                      refine gz_icmp_ge (tgt := 70) dX2_grow_53 (by decide) (fun c_53_7 => ?_) (fun c_53_7 => ?_)
                      · exact absurd c_53_7 (by decide)
                      ·
                        refine gz_aload_n dX2_grow_56 rfl rfl ?_
                        refine gz_iload_n dX2_grow_57 rfl rfl ?_
                        refine gz_iload dX2_grow_58 rfl ?_
                        refine gz_iconst (v := (-1)) dX2_grow_60 (by decide) ?_
                        refine scX2_34 (k_X2_setField (w := s) (k := 7) (x := (-1)) hp_8 h1_8 hs1) hp_8 ⟨(Nat.le_of_ble_eq_true rfl), (Nat.le_of_ble_eq_true rfl)⟩ ⟨(Nat.le_of_ble_eq_true rfl), (Nat.le_of_ble_eq_true rfl)⟩ rfl rfl (Nat.le_of_ble_eq_true rfl) dX2_grow_61 ?_
                        rintro f9 ⟨h1_9, hr9⟩
                        have hp_9 : f9 p = some (.inr (2, [.ref c1, .ref c2, .int (s + 1), .int v])) := hr9 _ _ hp_8 (by simp only [List.mem_cons, List.not_mem_nil, or_false, not_or]; exact cne hp_8 h1_8 (by simp))
                        refine gz_iinc (v := 8) (lv' := [(4, .int 8), (3, .int s), (0, .ref p), (1, .int kd), (2, .int ar)]) dX2_grow_64 rfl (by decide) (by decide) rfl ?_
                        refine gz_goto (tgt := 49) dX2_grow_67 (by decide) ?_
                        refine gz_iload dX2_grow_49 rfl ?_
                        refine gz_bipush (v := 13) dX2_grow_51 (by decide) ?_
                        refine gz_icmp_ge (tgt := 70) dX2_grow_53 (by decide) (fun c_53_8 => ?_) (fun c_53_8 => ?_)
                        · exact absurd c_53_8 (by decide)
                        ·
                          refine gz_aload_n dX2_grow_56 rfl rfl ?_
                          refine gz_iload_n dX2_grow_57 rfl rfl ?_
                          refine gz_iload dX2_grow_58 rfl ?_
                          refine gz_iconst (v := (-1)) dX2_grow_60 (by decide) ?_
                          refine scX2_34 (k_X2_setField (w := s) (k := 8) (x := (-1)) hp_9 h1_9 hs1) hp_9 ⟨(Nat.le_of_ble_eq_true rfl), (Nat.le_of_ble_eq_true rfl)⟩ ⟨(Nat.le_of_ble_eq_true rfl), (Nat.le_of_ble_eq_true rfl)⟩ rfl rfl (Nat.le_of_ble_eq_true rfl) dX2_grow_61 ?_
                          rintro f10 ⟨h1_10, hr10⟩
                          have hp_10 : f10 p = some (.inr (2, [.ref c1, .ref c2, .int (s + 1), .int v])) := hr10 _ _ hp_9 (by simp only [List.mem_cons, List.not_mem_nil, or_false, not_or]; exact cne hp_9 h1_9 (by simp))
                          refine gz_iinc (v := 9) (lv' := [(4, .int 9), (3, .int s), (0, .ref p), (1, .int kd), (2, .int ar)]) dX2_grow_64 rfl (by decide) (by decide) rfl ?_
                          refine gz_goto (tgt := 49) dX2_grow_67 (by decide) ?_
                          refine gz_iload dX2_grow_49 rfl ?_
                          refine gz_bipush (v := 13) dX2_grow_51 (by decide) ?_
                          refine gz_icmp_ge (tgt := 70) dX2_grow_53 (by decide) (fun c_53_9 => ?_) (fun c_53_9 => ?_)
                          · exact absurd c_53_9 (by decide)
                          ·
                            refine gz_aload_n dX2_grow_56 rfl rfl ?_
                            refine gz_iload_n dX2_grow_57 rfl rfl ?_
                            refine gz_iload dX2_grow_58 rfl ?_
                            refine gz_iconst (v := (-1)) dX2_grow_60 (by decide) ?_
                            refine scX2_34 (k_X2_setField (w := s) (k := 9) (x := (-1)) hp_10 h1_10 hs1) hp_10 ⟨(Nat.le_of_ble_eq_true rfl), (Nat.le_of_ble_eq_true rfl)⟩ ⟨(Nat.le_of_ble_eq_true rfl), (Nat.le_of_ble_eq_true rfl)⟩ rfl rfl (Nat.le_of_ble_eq_true rfl) dX2_grow_61 ?_
                            rintro f11 ⟨h1_11, hr11⟩
                            have hp_11 : f11 p = some (.inr (2, [.ref c1, .ref c2, .int (s + 1), .int v])) := hr11 _ _ hp_10 (by simp only [List.mem_cons, List.not_mem_nil, or_false, not_or]; exact cne hp_10 h1_10 (by simp))
                            refine gz_iinc (v := 10) (lv' := [(4, .int 10), (3, .int s), (0, .ref p), (1, .int kd), (2, .int ar)]) dX2_grow_64 rfl (by decide) (by decide) rfl ?_
                            refine gz_goto (tgt := 49) dX2_grow_67 (by decide) ?_
                            refine gz_iload dX2_grow_49 rfl ?_
                            refine gz_bipush (v := 13) dX2_grow_51 (by decide) ?_
                            refine gz_icmp_ge (tgt := 70) dX2_grow_53 (by decide) (fun c_53_10 => ?_) (fun c_53_10 => ?_)
                            · exact absurd c_53_10 (by decide)
                            ·
                              refine gz_aload_n dX2_grow_56 rfl rfl ?_
                              refine gz_iload_n dX2_grow_57 rfl rfl ?_
                              refine gz_iload dX2_grow_58 rfl ?_
                              refine gz_iconst (v := (-1)) dX2_grow_60 (by decide) ?_
                              refine scX2_34 (k_X2_setField (w := s) (k := 10) (x := (-1)) hp_11 h1_11 hs1) hp_11 ⟨(Nat.le_of_ble_eq_true rfl), (Nat.le_of_ble_eq_true rfl)⟩ ⟨(Nat.le_of_ble_eq_true rfl), (Nat.le_of_ble_eq_true rfl)⟩ rfl rfl (Nat.le_of_ble_eq_true rfl) dX2_grow_61 ?_
                              rintro f12 ⟨h1_12, hr12⟩
                              have hp_12 : f12 p = some (.inr (2, [.ref c1, .ref c2, .int (s + 1), .int v])) := hr12 _ _ hp_11 (by simp only [List.mem_cons, List.not_mem_nil, or_false, not_or]; exact cne hp_11 h1_11 (by simp))
                              refine gz_iinc (v := 11) (lv' := [(4, .int 11), (3, .int s), (0, .ref p), (1, .int kd), (2, .int ar)]) dX2_grow_64 rfl (by decide) (by decide) rfl ?_
                              refine gz_goto (tgt := 49) dX2_grow_67 (by decide) ?_
                              refine gz_iload dX2_grow_49 rfl ?_
                              refine gz_bipush (v := 13) dX2_grow_51 (by decide) ?_
                              refine gz_icmp_ge (tgt := 70) dX2_grow_53 (by decide) (fun c_53_11 => ?_) (fun c_53_11 => ?_)
                              · exact absurd c_53_11 (by decide)
                              ·
                                refine gz_aload_n dX2_grow_56 rfl rfl ?_
                                refine gz_iload_n dX2_grow_57 rfl rfl ?_
                                refine gz_iload dX2_grow_58 rfl ?_
                                refine gz_iconst (v := (-1)) dX2_grow_60 (by decide) ?_
                                refine scX2_34 (k_X2_setField (w := s) (k := 11) (x := (-1)) hp_12 h1_12 hs1) hp_12 ⟨(Nat.le_of_ble_eq_true rfl), (Nat.le_of_ble_eq_true rfl)⟩ ⟨(Nat.le_of_ble_eq_true rfl), (Nat.le_of_ble_eq_true rfl)⟩ rfl rfl (Nat.le_of_ble_eq_true rfl) dX2_grow_61 ?_
                                rintro f13 ⟨h1_13, hr13⟩
                                have hp_13 : f13 p = some (.inr (2, [.ref c1, .ref c2, .int (s + 1), .int v])) := hr13 _ _ hp_12 (by simp only [List.mem_cons, List.not_mem_nil, or_false, not_or]; exact cne hp_12 h1_12 (by simp))
                                refine gz_iinc (v := 12) (lv' := [(4, .int 12), (3, .int s), (0, .ref p), (1, .int kd), (2, .int ar)]) dX2_grow_64 rfl (by decide) (by decide) rfl ?_
                                refine gz_goto (tgt := 49) dX2_grow_67 (by decide) ?_
                                refine gz_iload dX2_grow_49 rfl ?_
                                refine gz_bipush (v := 13) dX2_grow_51 (by decide) ?_
                                refine gz_icmp_ge (tgt := 70) dX2_grow_53 (by decide) (fun c_53_12 => ?_) (fun c_53_12 => ?_)
                                · exact absurd c_53_12 (by decide)
                                ·
                                  refine gz_aload_n dX2_grow_56 rfl rfl ?_
                                  refine gz_iload_n dX2_grow_57 rfl rfl ?_
                                  refine gz_iload dX2_grow_58 rfl ?_
                                  refine gz_iconst (v := (-1)) dX2_grow_60 (by decide) ?_
                                  refine scX2_34 (k_X2_setField (w := s) (k := 12) (x := (-1)) hp_13 h1_13 hs1) hp_13 ⟨(Nat.le_of_ble_eq_true rfl), (Nat.le_of_ble_eq_true rfl)⟩ ⟨(Nat.le_of_ble_eq_true rfl), (Nat.le_of_ble_eq_true rfl)⟩ rfl rfl (Nat.le_of_ble_eq_true rfl) dX2_grow_61 ?_
                                  rintro f14 ⟨h1_14, hr14⟩
                                  have hp_14 : f14 p = some (.inr (2, [.ref c1, .ref c2, .int (s + 1), .int v])) := hr14 _ _ hp_13 (by simp only [List.mem_cons, List.not_mem_nil, or_false, not_or]; exact cne hp_13 h1_13 (by simp))
                                  refine gz_iinc (v := 13) (lv' := [(4, .int 13), (3, .int s), (0, .ref p), (1, .int kd), (2, .int ar)]) dX2_grow_64 rfl (by decide) (by decide) rfl ?_
                                  refine gz_goto (tgt := 49) dX2_grow_67 (by decide) ?_
                                  refine gz_iload dX2_grow_49 rfl ?_
                                  refine gz_bipush (v := 13) dX2_grow_51 (by decide) ?_
                                  refine gz_icmp_ge (tgt := 70) dX2_grow_53 (by decide) (fun c_53_13 => ?_) (fun c_53_13 => ?_)
                                  ·
                                    refine gz_aload_n dX2_grow_70 rfl rfl ?_
                                    refine gz_iload_n dX2_grow_71 rfl rfl ?_
                                    refine gz_iconst (v := 0) dX2_grow_72 (by decide) ?_
                                    refine gz_iload_n dX2_grow_73 rfl rfl ?_
                                    refine scX2_34 (k_X2_setField (w := s) (k := 0) (x := kd) hp_14 h1_14 hs1) hp_14 ⟨(Nat.le_of_ble_eq_true rfl), (Nat.le_of_ble_eq_true rfl)⟩ ⟨(Nat.le_of_ble_eq_true rfl), (Nat.le_of_ble_eq_true rfl)⟩ rfl rfl (Nat.le_of_ble_eq_true rfl) dX2_grow_74 ?_
                                    rintro f15 ⟨h1_15, hr15⟩
                                    have hp_15 : f15 p = some (.inr (2, [.ref c1, .ref c2, .int (s + 1), .int v])) := hr15 _ _ hp_14 (by simp only [List.mem_cons, List.not_mem_nil, or_false, not_or]; exact cne hp_14 h1_14 (by simp))
                                    refine gz_aload_n dX2_grow_77 rfl rfl ?_
                                    refine gz_iload_n dX2_grow_78 rfl rfl ?_
                                    refine gz_iconst (v := 1) dX2_grow_79 (by decide) ?_
                                    refine gz_iconst (v := 0) dX2_grow_80 (by decide) ?_
                                    refine scX2_34 (k_X2_setField (w := s) (k := 1) (x := 0) hp_15 h1_15 hs1) hp_15 ⟨(Nat.le_of_ble_eq_true rfl), (Nat.le_of_ble_eq_true rfl)⟩ ⟨(Nat.le_of_ble_eq_true rfl), (Nat.le_of_ble_eq_true rfl)⟩ rfl rfl (Nat.le_of_ble_eq_true rfl) dX2_grow_81 ?_
                                    rintro f16 ⟨h1_16, hr16⟩
                                    have hp_16 : f16 p = some (.inr (2, [.ref c1, .ref c2, .int (s + 1), .int v])) := hr16 _ _ hp_15 (by simp only [List.mem_cons, List.not_mem_nil, or_false, not_or]; exact cne hp_15 h1_15 (by simp))
                                    refine gz_aload_n dX2_grow_84 rfl rfl ?_
                                    refine gz_iload_n dX2_grow_85 rfl rfl ?_
                                    refine gz_bipush (v := 10) dX2_grow_86 (by decide) ?_
                                    refine gz_iconst (v := 0) dX2_grow_88 (by decide) ?_
                                    refine scX2_34 (k_X2_setField (w := s) (k := 10) (x := 0) hp_16 h1_16 hs1) hp_16 ⟨(Nat.le_of_ble_eq_true rfl), (Nat.le_of_ble_eq_true rfl)⟩ ⟨(Nat.le_of_ble_eq_true rfl), (Nat.le_of_ble_eq_true rfl)⟩ rfl rfl (Nat.le_of_ble_eq_true rfl) dX2_grow_89 ?_
                                    rintro f17 ⟨h1_17, hr17⟩
                                    have hp_17 : f17 p = some (.inr (2, [.ref c1, .ref c2, .int (s + 1), .int v])) := hr17 _ _ hp_16 (by simp only [List.mem_cons, List.not_mem_nil, or_false, not_or]; exact cne hp_16 h1_16 (by simp))
                                    refine gz_aload_n dX2_grow_92 rfl rfl ?_
                                    refine gz_iload_n dX2_grow_93 rfl rfl ?_
                                    refine gz_bipush (v := 12) dX2_grow_94 (by decide) ?_
                                    refine gz_iconst (v := 0) dX2_grow_96 (by decide) ?_
                                    refine scX2_34 (k_X2_setField (w := s) (k := 12) (x := 0) hp_17 h1_17 hs1) hp_17 ⟨(Nat.le_of_ble_eq_true rfl), (Nat.le_of_ble_eq_true rfl)⟩ ⟨(Nat.le_of_ble_eq_true rfl), (Nat.le_of_ble_eq_true rfl)⟩ rfl rfl (Nat.le_of_ble_eq_true rfl) dX2_grow_97 ?_
                                    rintro f18 ⟨h1_18, hr18⟩
                                    have hp_18 : f18 p = some (.inr (2, [.ref c1, .ref c2, .int (s + 1), .int v])) := hr18 _ _ hp_17 (by simp only [List.mem_cons, List.not_mem_nil, or_false, not_or]; exact cne hp_17 h1_17 (by simp))
                                    refine gz_iload_n dX2_grow_100 rfl rfl ?_
                                    refine gz_if_lt (tgt := 115) dX2_grow_101 (by decide) (fun c_101 => ?_) (fun c_101 => ?_)
                                    ·
                                      refine gz_iload_n dX2_grow_115 rfl rfl ?_
                                      exact gz_iret rfl dX2_grow_116 (Nat.le_of_ble_eq_true rfl) (Nat.le_of_ble_eq_true rfl) (⟨_, rfl, (by rw [(show grwF n1 g s kd ar = _ from (by unfold grwF; rw [if_neg c_6, if_neg c_20, if_pos c_31, if_pos c_101]))]), (by rw [(show grwF n1 g s kd ar = _ from (by unfold grwF; rw [if_neg c_6, if_neg c_20, if_pos c_31, if_pos c_101]))]; exact h1_18), (by rw [(show grwF n1 g s kd ar = _ from (by unfold grwF; rw [if_neg c_6, if_neg c_20, if_pos c_31, if_pos c_101]))]; exact hp_18), (fr_tr (fr_tr (fr_tr (fr_tr (fr_tr (fr_tr (fr_tr (fr_tr (fr_tr (fr_tr (fr_tr (fr_tr (fr_tr (fr_tr (fr_tr (fr_tr (fr_tr (by rw [hf1]; exact fr_up fr_rf (by simp)) (fr_mo hr2 (by simp))) (fr_mo hr3 (by simp))) (fr_mo hr4 (by simp))) (fr_mo hr5 (by simp))) (fr_mo hr6 (by simp))) (fr_mo hr7 (by simp))) (fr_mo hr8 (by simp))) (fr_mo hr9 (by simp))) (fr_mo hr10 (by simp))) (fr_mo hr11 (by simp))) (fr_mo hr12 (by simp))) (fr_mo hr13 (by simp))) (fr_mo hr14 (by simp))) (fr_mo hr15 (by simp))) (fr_mo hr16 (by simp))) (fr_mo hr17 (by simp))) (fr_mo hr18 (by simp)))⟩)
                                    ·
                                      refine gz_iload_n dX2_grow_104 rfl rfl ?_
                                      refine gz_iload_n dX2_grow_105 rfl rfl ?_
                                      refine gz_icmp_ge (tgt := 115) dX2_grow_106 (by decide) (fun c_106 => ?_) (fun c_106 => ?_)
                                      ·
                                        refine gz_iload_n dX2_grow_115 rfl rfl ?_
                                        exact gz_iret rfl dX2_grow_116 (Nat.le_of_ble_eq_true rfl) (Nat.le_of_ble_eq_true rfl) (⟨_, rfl, (by rw [(show grwF n1 g s kd ar = _ from (by unfold grwF; rw [if_neg c_6, if_neg c_20, if_pos c_31, if_neg c_101, if_pos c_106]))]), (by rw [(show grwF n1 g s kd ar = _ from (by unfold grwF; rw [if_neg c_6, if_neg c_20, if_pos c_31, if_neg c_101, if_pos c_106]))]; exact h1_18), (by rw [(show grwF n1 g s kd ar = _ from (by unfold grwF; rw [if_neg c_6, if_neg c_20, if_pos c_31, if_neg c_101, if_pos c_106]))]; exact hp_18), (fr_tr (fr_tr (fr_tr (fr_tr (fr_tr (fr_tr (fr_tr (fr_tr (fr_tr (fr_tr (fr_tr (fr_tr (fr_tr (fr_tr (fr_tr (fr_tr (fr_tr (by rw [hf1]; exact fr_up fr_rf (by simp)) (fr_mo hr2 (by simp))) (fr_mo hr3 (by simp))) (fr_mo hr4 (by simp))) (fr_mo hr5 (by simp))) (fr_mo hr6 (by simp))) (fr_mo hr7 (by simp))) (fr_mo hr8 (by simp))) (fr_mo hr9 (by simp))) (fr_mo hr10 (by simp))) (fr_mo hr11 (by simp))) (fr_mo hr12 (by simp))) (fr_mo hr13 (by simp))) (fr_mo hr14 (by simp))) (fr_mo hr15 (by simp))) (fr_mo hr16 (by simp))) (fr_mo hr17 (by simp))) (fr_mo hr18 (by simp)))⟩)
                                      ·
                                        refine gz_aload_n dX2_grow_109 rfl rfl ?_
                                        refine gz_iload_n dX2_grow_110 rfl rfl ?_
                                        refine gz_iload_n dX2_grow_111 rfl rfl ?_
                                        refine scX2_38 (k_X2_inherit (wd := s) (ar := ar) hp_18 h1_18 hs1) hp_18 ⟨(Nat.le_of_ble_eq_true rfl), (Nat.le_of_ble_eq_true rfl)⟩ ⟨(Nat.le_of_ble_eq_true rfl), (Nat.le_of_ble_eq_true rfl)⟩ rfl rfl (Nat.le_of_ble_eq_true rfl) dX2_grow_112 ?_
                                        rintro f19 ⟨h1_19, hr19⟩
                                        have hp_19 : f19 p = some (.inr (2, [.ref c1, .ref c2, .int (s + 1), .int v])) := hr19 _ _ hp_18 (by simp only [List.mem_cons, List.not_mem_nil, or_false, not_or]; exact cne hp_18 h1_18 (by simp))
                                        refine gz_iload_n dX2_grow_115 rfl rfl ?_
                                        exact gz_iret rfl dX2_grow_116 (Nat.le_of_ble_eq_true rfl) (Nat.le_of_ble_eq_true rfl) (⟨_, rfl, (by rw [(show grwF n1 g s kd ar = _ from (by unfold grwF; rw [if_neg c_6, if_neg c_20, if_pos c_31, if_neg c_101, if_neg c_106]))]), (by rw [(show grwF n1 g s kd ar = _ from (by unfold grwF; rw [if_neg c_6, if_neg c_20, if_pos c_31, if_neg c_101, if_neg c_106]))]; exact h1_19), (by rw [(show grwF n1 g s kd ar = _ from (by unfold grwF; rw [if_neg c_6, if_neg c_20, if_pos c_31, if_neg c_101, if_neg c_106]))]; exact hp_19), (fr_tr (fr_tr (fr_tr (fr_tr (fr_tr (fr_tr (fr_tr (fr_tr (fr_tr (fr_tr (fr_tr (fr_tr (fr_tr (fr_tr (fr_tr (fr_tr (fr_tr (fr_tr (by rw [hf1]; exact fr_up fr_rf (by simp)) (fr_mo hr2 (by simp))) (fr_mo hr3 (by simp))) (fr_mo hr4 (by simp))) (fr_mo hr5 (by simp))) (fr_mo hr6 (by simp))) (fr_mo hr7 (by simp))) (fr_mo hr8 (by simp))) (fr_mo hr9 (by simp))) (fr_mo hr10 (by simp))) (fr_mo hr11 (by simp))) (fr_mo hr12 (by simp))) (fr_mo hr13 (by simp))) (fr_mo hr14 (by simp))) (fr_mo hr15 (by simp))) (fr_mo hr16 (by simp))) (fr_mo hr17 (by simp))) (fr_mo hr18 (by simp))) (fr_mo hr19 (by simp)))⟩)
                                  · exact absurd c_53_13 (by decide)
      ·
        refine gz_iconst (v := (-1)) dX2_grow_34 (by decide) ?_
        exact gz_iret rfl dX2_grow_35 (Nat.le_of_ble_eq_true rfl) (Nat.le_of_ble_eq_true rfl) (⟨_, rfl, (by rw [(show grwF n1 g s kd ar = _ from (by unfold grwF; rw [if_neg c_6, if_neg c_20, if_neg c_31]))]), (by rw [(show grwF n1 g s kd ar = _ from (by unfold grwF; rw [if_neg c_6, if_neg c_20, if_neg c_31]))]; exact h1), (by rw [(show grwF n1 g s kd ar = _ from (by unfold grwF; rw [if_neg c_6, if_neg c_20, if_neg c_31]))]; exact hp), fr_rf⟩)

theorem max0 {x : Int32} : 0 ≤ (if x < 0 then 0 else x).toInt := by
  by_cases h : x < 0
  · rw [if_pos h]; decide
  · rw [if_neg h]; rw [fl_lt] at h; have e0 : (0 : Int32).toInt = 0 := rfl; omega

def sumL (n2 : Nat) (h : Nat → Int32) (v : Int32) (t : Nat → Int32) (da a2 : Int32) : Nat → Int32 → Int64 → Int64 → Int64
  | 0, _, _, _ => 0
  | k + 1, i, tot, pr => (if a2 ≤ (i : Int32) then (tot + pr) else (if v ≤ (i : Int32) then (tot + pr) else (if ((jntF n2 h v i) : Int32) = 42 then sumL n2 h v t da a2 k (i + 1) tot (pr * ((vofF t da (valF n2 h v i)).toInt64)) else (if ((jntF n2 h v i) : Int32) = 45 then sumL n2 h v t da a2 k (i + 1) (tot + pr) (-((vofF t da (valF n2 h v i)).toInt64)) else sumL n2 h v t da a2 k (i + 1) (tot + pr) ((vofF t da (valF n2 h v i)).toInt64)))))
set_option maxHeartbeats 4000000 in
set_option maxRecDepth 100000 in
theorem l_X2_sum {l : Launch} {D : va_G} {cy : Nat → ClassId} {b mc ms : Nat} {f : gMem} {Po : Option Value → gMem → Prop} {p c1 c2 n2 : Nat} {s v : Int32} {h : Nat → Int32} {sc th : Nat} {da : Int32} {t : Nat → Int32} {a1 a2 : Int32}  (hp : f p = some (.inr (2, [.ref c1, .ref c2, .int s, .int v]))) (h2 : f c2 = some (.inl (cy 0, n2, .inl (h)))) (hsc : f sc = some (.inr (7, [.ref th, .int da]))) (hth : f th = some (.inl (cy 0, 6, .inl (t)))) (hv : 0 ≤ v.toInt ∧ 2 * v.toInt ≤ n2 ∧ n2 ≤ 80) : ∀ (k : Nat) (i : Int32) (tot : Int64) (pr : Int64), (0 ≤ i.toInt) → (0 < k ∧ (i.toInt < v.toInt → v.toInt - i.toInt < (k : Int))) → (Po (some (.long (sumL n2 h v t da a2 k i tot pr))) f) → gG l (gRm 1 mc ms) (gQf D b Po mc ms) gTt D cy b cX2_sum 11 (some .long) RX2 "sum" 0 0 f 13 [(8, .int i), (6, .long pr), (4, .long tot), (0, .ref p), (1, .int a1), (2, .int a2), (3, .ref sc)] [] := by
  intro k
  induction k with
  | zero =>
    intro i tot pr h0 hk hq
    exfalso; omega
  | succ k ih =>
    intro i tot pr h0 hk hq
    refine gz_iload dX2_sum_13 rfl ?_
    refine gz_iload_n dX2_sum_15 rfl rfl ?_
    refine gz_icmp_ge (tgt := 96) dX2_sum_16 (by decide) (fun c_16 => ?_) (fun c_16 => ?_)
    ·
      refine gz_lload dX2_sum_96 rfl ?_
      refine gz_lload dX2_sum_98 rfl ?_
      refine gz_ladd dX2_sum_100 ?_
      exact gz_lret rfl dX2_sum_101 (Nat.zero_le _) (Nat.zero_le _) ((by rw [sumL, if_pos c_16] at hq; exact hq))
    ·
      refine gz_iload dX2_sum_19 rfl ?_
      refine gz_aload_n dX2_sum_21 rfl rfl ?_
      refine sgX2_28 hp rfl dX2_sum_22 ?_
      refine gz_icmp_ge (tgt := 96) dX2_sum_25 (by decide) (fun c_25 => ?_) (fun c_25 => ?_)
      ·
        refine gz_lload dX2_sum_96 rfl ?_
        refine gz_lload dX2_sum_98 rfl ?_
        refine gz_ladd dX2_sum_100 ?_
        exact gz_lret rfl dX2_sum_101 (Nat.zero_le _) (Nat.zero_le _) ((by rw [sumL, if_neg c_16, if_pos c_25] at hq; exact hq))
      ·
        refine gz_aload_n dX2_sum_28 rfl rfl ?_
        refine gz_aload_n dX2_sum_29 rfl rfl ?_
        refine gz_iload dX2_sum_30 rfl ?_
        refine scX2_45 (k_X2_value (i := i) hp h2 hv) hp ⟨(Nat.le_of_ble_eq_true rfl), (Nat.le_of_ble_eq_true rfl)⟩ ⟨(Nat.zero_le _), (Nat.zero_le _)⟩ rfl rfl (Nat.le_of_ble_eq_true rfl) dX2_sum_32 ?_
        intro v9 f9 z9; rw [z9.1, z9.2]
        refine scX2_49 (k_X7_valueOf (x := (valF n2 h v i)) hsc hth) hsc ⟨(Nat.le_of_ble_eq_true rfl), (Nat.le_of_ble_eq_true rfl)⟩ ⟨(Nat.zero_le _), (Nat.zero_le _)⟩ rfl rfl (Nat.le_of_ble_eq_true rfl) dX2_sum_35 ?_
        intro v9 f9 z9; rw [z9.1, z9.2]
        refine gz_i2l dX2_sum_38 ?_
        refine gz_lstore (lv' := [(9, .long (vofF t da (valF n2 h v i)).toInt64), (8, .int i), (6, .long pr), (4, .long tot), (0, .ref p), (1, .int a1), (2, .int a2), (3, .ref sc)]) dX2_sum_39 (by decide) rfl ?_
        refine gz_aload_n dX2_sum_41 rfl rfl ?_
        refine gz_iload dX2_sum_42 rfl ?_
        refine scX2_54 (k_X2_joint (i := i) hp h2 hv) hp ⟨(Nat.le_of_ble_eq_true rfl), (Nat.le_of_ble_eq_true rfl)⟩ ⟨(Nat.zero_le _), (Nat.zero_le _)⟩ rfl rfl (Nat.le_of_ble_eq_true rfl) dX2_sum_44 ?_
        intro v9 f9 z9; rw [z9.1, z9.2]
        refine gz_bipush (v := 42) dX2_sum_47 (by decide) ?_
        refine gz_icmp_ne (tgt := 62) dX2_sum_49 (by decide) (fun c_49 => ?_) (fun c_49 => ?_)
        ·
          refine gz_lload dX2_sum_62 rfl ?_
          refine gz_lload dX2_sum_64 rfl ?_
          refine gz_ladd dX2_sum_66 ?_
          refine gz_lstore (lv' := [(4, .long (tot + pr)), (9, .long (vofF t da (valF n2 h v i)).toInt64), (8, .int i), (6, .long pr), (0, .ref p), (1, .int a1), (2, .int a2), (3, .ref sc)]) dX2_sum_67 (by decide) rfl ?_
          refine gz_aload_n dX2_sum_69 rfl rfl ?_
          refine gz_iload dX2_sum_70 rfl ?_
          refine scX2_54 (k_X2_joint (i := i) hp h2 hv) hp ⟨(Nat.le_of_ble_eq_true rfl), (Nat.le_of_ble_eq_true rfl)⟩ ⟨(Nat.zero_le _), (Nat.zero_le _)⟩ rfl rfl (Nat.le_of_ble_eq_true rfl) dX2_sum_72 ?_
          intro v9 f9 z9; rw [z9.1, z9.2]
          refine gz_bipush (v := 45) dX2_sum_75 (by decide) ?_
          refine gz_icmp_ne (tgt := 86) dX2_sum_77 (by decide) (fun c_77 => ?_) (fun c_77 => ?_)
          ·
            refine gz_lload dX2_sum_86 rfl ?_
            refine gz_lstore (lv' := [(6, .long (vofF t da (valF n2 h v i)).toInt64), (4, .long (tot + pr)), (9, .long (vofF t da (valF n2 h v i)).toInt64), (8, .int i), (0, .ref p), (1, .int a1), (2, .int a2), (3, .ref sc)]) dX2_sum_88 (by decide) rfl ?_
            refine gz_iinc (v := (i + 1)) (lv' := [(8, .int (i + 1)), (6, .long (vofF t da (valF n2 h v i)).toInt64), (4, .long (tot + pr)), (9, .long (vofF t da (valF n2 h v i)).toInt64), (0, .ref p), (1, .int a1), (2, .int a2), (3, .ref sc)]) dX2_sum_90 rfl rfl (by decide) rfl ?_
            refine gz_goto (tgt := 13) dX2_sum_93 (by decide) ?_
            refine gz_sub (lv' := [(8, .int (i + 1)), (6, .long (vofF t da (valF n2 h v i)).toInt64), (4, .long (tot + pr)), (0, .ref p), (1, .int a1), (2, .int a2), (3, .ref sc)]) (by simp [List.lookup]) ?_
            exact ih (i + 1) (tot + pr) ((vofF t da (valF n2 h v i)).toInt64) (by have e13 : (13 : Int32).toInt = 13 := rfl; have e0 : (0 : Int32).toInt = 0 := rfl; have e2 : (2 : Int32).toInt = 2 := rfl; have e1 : (1 : Int32).toInt = 1 := rfl; have e6 : (6 : Int32).toInt = 6 := rfl; have em2 : (-2 : Int32).toInt = -2 := rfl; simp only [fl_lt, fl_le] at c_25; have hx := T_add (rfl : i.toInt = i.toInt) (rfl : (1 : Int32).toInt = 1) (by omega); omega) (by have e13 : (13 : Int32).toInt = 13 := rfl; have e0 : (0 : Int32).toInt = 0 := rfl; have e2 : (2 : Int32).toInt = 2 := rfl; have e1 : (1 : Int32).toInt = 1 := rfl; have e6 : (6 : Int32).toInt = 6 := rfl; have em2 : (-2 : Int32).toInt = -2 := rfl; simp only [fl_lt, fl_le] at c_25; have hx := T_add (rfl : i.toInt = i.toInt) (rfl : (1 : Int32).toInt = 1) (by omega); omega) (by rw [sumL, if_neg c_16, if_neg c_25, if_neg c_49, if_neg c_77] at hq; exact hq)
          ·
            refine gz_lload dX2_sum_80 rfl ?_
            refine gz_lneg dX2_sum_82 ?_
            refine gz_goto (tgt := 88) dX2_sum_83 (by decide) ?_
            refine gz_lstore (lv' := [(6, .long (-((vofF t da (valF n2 h v i)).toInt64))), (4, .long (tot + pr)), (9, .long (vofF t da (valF n2 h v i)).toInt64), (8, .int i), (0, .ref p), (1, .int a1), (2, .int a2), (3, .ref sc)]) dX2_sum_88 (by decide) rfl ?_
            refine gz_iinc (v := (i + 1)) (lv' := [(8, .int (i + 1)), (6, .long (-((vofF t da (valF n2 h v i)).toInt64))), (4, .long (tot + pr)), (9, .long (vofF t da (valF n2 h v i)).toInt64), (0, .ref p), (1, .int a1), (2, .int a2), (3, .ref sc)]) dX2_sum_90 rfl rfl (by decide) rfl ?_
            refine gz_goto (tgt := 13) dX2_sum_93 (by decide) ?_
            refine gz_sub (lv' := [(8, .int (i + 1)), (6, .long (-((vofF t da (valF n2 h v i)).toInt64))), (4, .long (tot + pr)), (0, .ref p), (1, .int a1), (2, .int a2), (3, .ref sc)]) (by simp [List.lookup]) ?_
            exact ih (i + 1) (tot + pr) (-((vofF t da (valF n2 h v i)).toInt64)) (by have e13 : (13 : Int32).toInt = 13 := rfl; have e0 : (0 : Int32).toInt = 0 := rfl; have e2 : (2 : Int32).toInt = 2 := rfl; have e1 : (1 : Int32).toInt = 1 := rfl; have e6 : (6 : Int32).toInt = 6 := rfl; have em2 : (-2 : Int32).toInt = -2 := rfl; simp only [fl_lt, fl_le] at c_25; have hx := T_add (rfl : i.toInt = i.toInt) (rfl : (1 : Int32).toInt = 1) (by omega); omega) (by have e13 : (13 : Int32).toInt = 13 := rfl; have e0 : (0 : Int32).toInt = 0 := rfl; have e2 : (2 : Int32).toInt = 2 := rfl; have e1 : (1 : Int32).toInt = 1 := rfl; have e6 : (6 : Int32).toInt = 6 := rfl; have em2 : (-2 : Int32).toInt = -2 := rfl; simp only [fl_lt, fl_le] at c_25; have hx := T_add (rfl : i.toInt = i.toInt) (rfl : (1 : Int32).toInt = 1) (by omega); omega) (by rw [sumL, if_neg c_16, if_neg c_25, if_neg c_49, if_pos c_77] at hq; exact hq)
        ·
          refine gz_lload dX2_sum_52 rfl ?_
          refine gz_lload dX2_sum_54 rfl ?_
          refine gz_lmul dX2_sum_56 ?_
          refine gz_lstore (lv' := [(6, .long (pr * ((vofF t da (valF n2 h v i)).toInt64))), (9, .long (vofF t da (valF n2 h v i)).toInt64), (8, .int i), (4, .long tot), (0, .ref p), (1, .int a1), (2, .int a2), (3, .ref sc)]) dX2_sum_57 (by decide) rfl ?_
          refine gz_goto (tgt := 90) dX2_sum_59 (by decide) ?_
          refine gz_iinc (v := (i + 1)) (lv' := [(8, .int (i + 1)), (6, .long (pr * ((vofF t da (valF n2 h v i)).toInt64))), (9, .long (vofF t da (valF n2 h v i)).toInt64), (4, .long tot), (0, .ref p), (1, .int a1), (2, .int a2), (3, .ref sc)]) dX2_sum_90 rfl rfl (by decide) rfl ?_
          refine gz_goto (tgt := 13) dX2_sum_93 (by decide) ?_
          refine gz_sub (lv' := [(8, .int (i + 1)), (6, .long (pr * ((vofF t da (valF n2 h v i)).toInt64))), (4, .long tot), (0, .ref p), (1, .int a1), (2, .int a2), (3, .ref sc)]) (by simp [List.lookup]) ?_
          exact ih (i + 1) tot (pr * ((vofF t da (valF n2 h v i)).toInt64)) (by have e13 : (13 : Int32).toInt = 13 := rfl; have e0 : (0 : Int32).toInt = 0 := rfl; have e2 : (2 : Int32).toInt = 2 := rfl; have e1 : (1 : Int32).toInt = 1 := rfl; have e6 : (6 : Int32).toInt = 6 := rfl; have em2 : (-2 : Int32).toInt = -2 := rfl; simp only [fl_lt, fl_le] at c_25; have hx := T_add (rfl : i.toInt = i.toInt) (rfl : (1 : Int32).toInt = 1) (by omega); omega) (by have e13 : (13 : Int32).toInt = 13 := rfl; have e0 : (0 : Int32).toInt = 0 := rfl; have e2 : (2 : Int32).toInt = 2 := rfl; have e1 : (1 : Int32).toInt = 1 := rfl; have e6 : (6 : Int32).toInt = 6 := rfl; have em2 : (-2 : Int32).toInt = -2 := rfl; simp only [fl_lt, fl_le] at c_25; have hx := T_add (rfl : i.toInt = i.toInt) (rfl : (1 : Int32).toInt = 1) (by omega); omega) (by rw [sumL, if_neg c_16, if_neg c_25, if_pos c_49] at hq; exact hq)

def sumF (n2 : Nat) (h : Nat → Int32) (v : Int32) (t : Nat → Int32) (da a1 a2 : Int32) : Int64 := sumL n2 h v t da a2 41 (if a1 < 0 then 0 else a1) 0 0
set_option maxHeartbeats 4000000 in
set_option maxRecDepth 100000 in
theorem k_X2_sum {l : Launch} {D : va_G} {cy : Nat → ClassId} {b : Nat} {f : gMem} {p c1 c2 n2 : Nat} {s v : Int32} {h : Nat → Int32} {sc th : Nat} {da : Int32} {t : Nat → Int32} {a1 a2 : Int32} (hp : f p = some (.inr (2, [.ref c1, .ref c2, .int s, .int v]))) (h2 : f c2 = some (.inl (cy 0, n2, .inl (h)))) (hsc : f sc = some (.inr (7, [.ref th, .int da]))) (hth : f th = some (.inl (cy 0, 6, .inl (t)))) (hv : 0 ≤ v.toInt ∧ 2 * v.toInt ≤ n2 ∧ n2 ≤ 80) : gC l D cy b yX2_sum cX2_sum 11 (some .long) 1 0 0 [.ref p, .int a1, .int a2, .ref sc] f (pL fun r f2 => r = sumF n2 h v t da a1 a2 ∧ f2 = f) := by
  refine gC_of (by decide) (Nat.le_of_ble_eq_true rfl) ?_
  show gG l _ _ _ D cy b cX2_sum 11 _ RX2 "sum" 0 0 f 0 [(0, .ref p), (1, .int a1), (2, .int a2), (3, .ref sc)] []
  refine gz_lconst (v := 0) dX2_sum_0 (by decide) ?_
  refine gz_lstore (lv' := [(4, .long 0), (0, .ref p), (1, .int a1), (2, .int a2), (3, .ref sc)]) dX2_sum_1 (by decide) rfl ?_
  refine gz_lconst (v := 0) dX2_sum_3 (by decide) ?_
  refine gz_lstore (lv' := [(6, .long 0), (4, .long 0), (0, .ref p), (1, .int a1), (2, .int a2), (3, .ref sc)]) dX2_sum_4 (by decide) rfl ?_
  refine gz_iload_n dX2_sum_6 rfl rfl ?_
  refine gz_iconst (v := 0) dX2_sum_7 (by decide) ?_
  refine scX2_9 (Nat.le_of_ble_eq_true rfl) (Nat.le_of_ble_eq_true rfl) (Nat.le_of_ble_eq_true rfl) (Nat.le_of_ble_eq_true rfl) (Nat.le_of_ble_eq_true rfl) dX2_sum_8 ?_
  refine gz_istore (lv' := [(8, .int (if a1 < 0 then 0 else a1)), (6, .long 0), (4, .long 0), (0, .ref p), (1, .int a1), (2, .int a2), (3, .ref sc)]) dX2_sum_11 (by decide) rfl ?_
  refine gz_sub (lv' := [(8, .int (if a1 < 0 then 0 else a1)), (6, .long 0), (4, .long 0), (0, .ref p), (1, .int a1), (2, .int a2), (3, .ref sc)]) (by simp [List.lookup]) ?_
  exact l_X2_sum hp h2 hsc hth hv 41 _ _ _ max0 ⟨by decide, fun _ => by have := @max0 a1; omega⟩ ⟨_, rfl, rfl, rfl⟩

def hldF (n1 n2 : Nat) (g h : Nat → Int32) (s v : Int32) (t : Nat → Int32) (da : Int32) (w : Int32) : Int32 := (if 0 ≤ ((lg_cmp (sumF n2 h v t da (fldF n1 g s w 5) (fldF n1 g s w 6)) (sumF n2 h v t da (fldF n1 g s w 6) (fldF n1 g s w 7))) : Int32) then (if ((lg_cmp (sumF n2 h v t da (fldF n1 g s w 5) (fldF n1 g s w 6)) (sumF n2 h v t da (fldF n1 g s w 6) (fldF n1 g s w 7))) : Int32) = 0 then (if ((fldF n1 g s w 8) : Int32) ≤ 0 then 0 else (if (((fldF n1 g s w 8) &&& 2) : Int32) = 0 then 0 else 1)) else (if ((fldF n1 g s w 8) : Int32) ≤ 0 then 0 else (if (((fldF n1 g s w 8) &&& 4) : Int32) = 0 then 0 else 1))) else (if ((fldF n1 g s w 8) : Int32) ≤ 0 then 0 else (if (((fldF n1 g s w 8) &&& 1) : Int32) = 0 then 0 else 1)))
set_option maxHeartbeats 4000000 in
set_option maxRecDepth 100000 in
theorem k_X2_holds {l : Launch} {D : va_G} {cy : Nat → ClassId} {b : Nat} {f : gMem} {p c1 c2 n1 n2 : Nat} {s v : Int32} {g h : Nat → Int32} {sc th : Nat} {da : Int32} {t : Nat → Int32} {w : Int32} (hp : f p = some (.inr (2, [.ref c1, .ref c2, .int s, .int v]))) (h1 : f c1 = some (.inl (cy 0, n1, .inl (g)))) (h2 : f c2 = some (.inl (cy 0, n2, .inl (h)))) (hsc : f sc = some (.inr (7, [.ref th, .int da]))) (hth : f th = some (.inl (cy 0, 6, .inl (t)))) (hs : 0 ≤ s.toInt ∧ 13 * s.toInt ≤ n1 ∧ n1 ≤ 520) (hv : 0 ≤ v.toInt ∧ 2 * v.toInt ≤ n2 ∧ n2 ≤ 80) : gC l D cy b yX2_holds cX2_holds 10 (some .boolean) 2 0 0 [.ref p, .int w, .ref sc] f (pI fun r f2 => r = hldF n1 n2 g h s v t da w ∧ f2 = f) := by
  refine gC_of (by decide) (Nat.le_of_ble_eq_true rfl) ?_
  show gG l _ _ _ D cy b cX2_holds 10 _ RX2 "holds" 0 0 f 0 [(0, .ref p), (1, .int w), (2, .ref sc)] []
  refine gz_aload_n dX2_holds_0 rfl rfl ?_
  refine gz_iload_n dX2_holds_1 rfl rfl ?_
  refine gz_bipush (v := 6) dX2_holds_2 (by decide) ?_
  refine scX2_31 (k_X2_field (w := w) (k := 6) hp h1 hs) hp ⟨(Nat.le_of_ble_eq_true rfl), (Nat.le_of_ble_eq_true rfl)⟩ ⟨(Nat.le_of_ble_eq_true rfl), (Nat.le_of_ble_eq_true rfl)⟩ rfl rfl (Nat.le_of_ble_eq_true rfl) dX2_holds_4 ?_
  intro v9 f9 z9; rw [z9.1, z9.2]
  refine gz_istore_n (lv' := [(3, .int (fldF n1 g s w 6)), (0, .ref p), (1, .int w), (2, .ref sc)]) dX2_holds_7 rfl (by decide) rfl ?_
  refine gz_aload_n dX2_holds_8 rfl rfl ?_
  refine gz_aload_n dX2_holds_9 rfl rfl ?_
  refine gz_iload_n dX2_holds_10 rfl rfl ?_
  refine gz_iconst (v := 5) dX2_holds_11 (by decide) ?_
  refine scX2_31 (k_X2_field (w := w) (k := 5) hp h1 hs) hp ⟨(Nat.le_of_ble_eq_true rfl), (Nat.le_of_ble_eq_true rfl)⟩ ⟨(Nat.le_of_ble_eq_true rfl), (Nat.le_of_ble_eq_true rfl)⟩ rfl rfl (Nat.le_of_ble_eq_true rfl) dX2_holds_12 ?_
  intro v9 f9 z9; rw [z9.1, z9.2]
  refine gz_iload_n dX2_holds_15 rfl rfl ?_
  refine gz_aload_n dX2_holds_16 rfl rfl ?_
  refine scX2_57 (k_X2_sum (a1 := (fldF n1 g s w 5)) (a2 := (fldF n1 g s w 6)) hp h2 hsc hth hv) hp ⟨(Nat.le_of_ble_eq_true rfl), (Nat.le_of_ble_eq_true rfl)⟩ ⟨(Nat.le_of_ble_eq_true rfl), (Nat.le_of_ble_eq_true rfl)⟩ rfl rfl (Nat.le_of_ble_eq_true rfl) dX2_holds_17 ?_
  intro v9 f9 z9; rw [z9.1, z9.2]
  refine gz_lstore (lv' := [(4, .long (sumF n2 h v t da (fldF n1 g s w 5) (fldF n1 g s w 6))), (3, .int (fldF n1 g s w 6)), (0, .ref p), (1, .int w), (2, .ref sc)]) dX2_holds_20 (by decide) rfl ?_
  refine gz_aload_n dX2_holds_22 rfl rfl ?_
  refine gz_iload_n dX2_holds_23 rfl rfl ?_
  refine gz_aload_n dX2_holds_24 rfl rfl ?_
  refine gz_iload_n dX2_holds_25 rfl rfl ?_
  refine gz_bipush (v := 7) dX2_holds_26 (by decide) ?_
  refine scX2_31 (k_X2_field (w := w) (k := 7) hp h1 hs) hp ⟨(Nat.le_of_ble_eq_true rfl), (Nat.le_of_ble_eq_true rfl)⟩ ⟨(Nat.le_of_ble_eq_true rfl), (Nat.le_of_ble_eq_true rfl)⟩ rfl rfl (Nat.le_of_ble_eq_true rfl) dX2_holds_28 ?_
  intro v9 f9 z9; rw [z9.1, z9.2]
  refine gz_aload_n dX2_holds_31 rfl rfl ?_
  refine scX2_57 (k_X2_sum (a1 := (fldF n1 g s w 6)) (a2 := (fldF n1 g s w 7)) hp h2 hsc hth hv) hp ⟨(Nat.le_of_ble_eq_true rfl), (Nat.le_of_ble_eq_true rfl)⟩ ⟨(Nat.le_of_ble_eq_true rfl), (Nat.le_of_ble_eq_true rfl)⟩ rfl rfl (Nat.le_of_ble_eq_true rfl) dX2_holds_32 ?_
  intro v9 f9 z9; rw [z9.1, z9.2]
  refine gz_lstore (lv' := [(6, .long (sumF n2 h v t da (fldF n1 g s w 6) (fldF n1 g s w 7))), (4, .long (sumF n2 h v t da (fldF n1 g s w 5) (fldF n1 g s w 6))), (3, .int (fldF n1 g s w 6)), (0, .ref p), (1, .int w), (2, .ref sc)]) dX2_holds_35 (by decide) rfl ?_
  refine gz_lload dX2_holds_37 rfl ?_
  refine gz_lload dX2_holds_39 rfl ?_
  refine gz_lcmp dX2_holds_41 ?_
  refine gz_if_ge (tgt := 49) dX2_holds_42 (by decide) (fun c_42 => ?_) (fun c_42 => ?_)
  ·
    refine gz_lload dX2_holds_49 rfl ?_
    refine gz_lload dX2_holds_51 rfl ?_
    refine gz_lcmp dX2_holds_53 ?_
    refine gz_if_ne (tgt := 61) dX2_holds_54 (by decide) (fun c_54 => ?_) (fun c_54 => ?_)
    ·
      refine gz_iconst (v := 4) dX2_holds_61 (by decide) ?_
      refine gz_istore (lv' := [(8, .int 4), (6, .long (sumF n2 h v t da (fldF n1 g s w 6) (fldF n1 g s w 7))), (4, .long (sumF n2 h v t da (fldF n1 g s w 5) (fldF n1 g s w 6))), (3, .int (fldF n1 g s w 6)), (0, .ref p), (1, .int w), (2, .ref sc)]) dX2_holds_62 (by decide) rfl ?_
      refine gz_aload_n dX2_holds_64 rfl rfl ?_
      refine gz_iload_n dX2_holds_65 rfl rfl ?_
      refine gz_bipush (v := 8) dX2_holds_66 (by decide) ?_
      refine scX2_31 (k_X2_field (w := w) (k := 8) hp h1 hs) hp ⟨(Nat.le_of_ble_eq_true rfl), (Nat.le_of_ble_eq_true rfl)⟩ ⟨(Nat.le_of_ble_eq_true rfl), (Nat.le_of_ble_eq_true rfl)⟩ rfl rfl (Nat.le_of_ble_eq_true rfl) dX2_holds_68 ?_
      intro v9 f9 z9; rw [z9.1, z9.2]
      refine gz_istore (lv' := [(9, .int (fldF n1 g s w 8)), (8, .int 4), (6, .long (sumF n2 h v t da (fldF n1 g s w 6) (fldF n1 g s w 7))), (4, .long (sumF n2 h v t da (fldF n1 g s w 5) (fldF n1 g s w 6))), (3, .int (fldF n1 g s w 6)), (0, .ref p), (1, .int w), (2, .ref sc)]) dX2_holds_71 (by decide) rfl ?_
      refine gz_iload dX2_holds_73 rfl ?_
      refine gz_if_le (tgt := 90) dX2_holds_75 (by decide) (fun c_75 => ?_) (fun c_75 => ?_)
      ·
        refine gz_iconst (v := 0) dX2_holds_90 (by decide) ?_
        exact gz_zret rfl (by first | decide | exact nrb (Or.inl rfl) | (refine nrb ?_; (repeat' split) <;> first | assumption | exact Or.inl rfl | exact Or.inr rfl)) dX2_holds_91 (Nat.le_of_ble_eq_true rfl) (Nat.le_of_ble_eq_true rfl) (⟨_, rfl, (show _ = _ from Eq.symm (by unfold hldF; rw [if_pos c_42, if_neg c_54, if_pos c_75])), rfl⟩)
      ·
        refine gz_iload dX2_holds_78 rfl ?_
        refine gz_iload dX2_holds_80 rfl ?_
        refine gz_iand dX2_holds_82 ?_
        refine gz_if_eq (tgt := 90) dX2_holds_83 (by decide) (fun c_83 => ?_) (fun c_83 => ?_)
        ·
          refine gz_iconst (v := 0) dX2_holds_90 (by decide) ?_
          exact gz_zret rfl (by first | decide | exact nrb (Or.inl rfl) | (refine nrb ?_; (repeat' split) <;> first | assumption | exact Or.inl rfl | exact Or.inr rfl)) dX2_holds_91 (Nat.le_of_ble_eq_true rfl) (Nat.le_of_ble_eq_true rfl) (⟨_, rfl, (show _ = _ from Eq.symm (by unfold hldF; rw [if_pos c_42, if_neg c_54, if_neg c_75, if_pos c_83])), rfl⟩)
        ·
          refine gz_iconst (v := 1) dX2_holds_86 (by decide) ?_
          refine gz_goto (tgt := 91) dX2_holds_87 (by decide) ?_
          exact gz_zret rfl (by first | decide | exact nrb (Or.inl rfl) | (refine nrb ?_; (repeat' split) <;> first | assumption | exact Or.inl rfl | exact Or.inr rfl)) dX2_holds_91 (Nat.le_of_ble_eq_true rfl) (Nat.le_of_ble_eq_true rfl) (⟨_, rfl, (show _ = _ from Eq.symm (by unfold hldF; rw [if_pos c_42, if_neg c_54, if_neg c_75, if_neg c_83])), rfl⟩)
    ·
      refine gz_iconst (v := 2) dX2_holds_57 (by decide) ?_
      refine gz_goto (tgt := 62) dX2_holds_58 (by decide) ?_
      refine gz_istore (lv' := [(8, .int 2), (6, .long (sumF n2 h v t da (fldF n1 g s w 6) (fldF n1 g s w 7))), (4, .long (sumF n2 h v t da (fldF n1 g s w 5) (fldF n1 g s w 6))), (3, .int (fldF n1 g s w 6)), (0, .ref p), (1, .int w), (2, .ref sc)]) dX2_holds_62 (by decide) rfl ?_
      refine gz_aload_n dX2_holds_64 rfl rfl ?_
      refine gz_iload_n dX2_holds_65 rfl rfl ?_
      refine gz_bipush (v := 8) dX2_holds_66 (by decide) ?_
      refine scX2_31 (k_X2_field (w := w) (k := 8) hp h1 hs) hp ⟨(Nat.le_of_ble_eq_true rfl), (Nat.le_of_ble_eq_true rfl)⟩ ⟨(Nat.le_of_ble_eq_true rfl), (Nat.le_of_ble_eq_true rfl)⟩ rfl rfl (Nat.le_of_ble_eq_true rfl) dX2_holds_68 ?_
      intro v9 f9 z9; rw [z9.1, z9.2]
      refine gz_istore (lv' := [(9, .int (fldF n1 g s w 8)), (8, .int 2), (6, .long (sumF n2 h v t da (fldF n1 g s w 6) (fldF n1 g s w 7))), (4, .long (sumF n2 h v t da (fldF n1 g s w 5) (fldF n1 g s w 6))), (3, .int (fldF n1 g s w 6)), (0, .ref p), (1, .int w), (2, .ref sc)]) dX2_holds_71 (by decide) rfl ?_
      refine gz_iload dX2_holds_73 rfl ?_
      refine gz_if_le (tgt := 90) dX2_holds_75 (by decide) (fun c_75 => ?_) (fun c_75 => ?_)
      ·
        refine gz_iconst (v := 0) dX2_holds_90 (by decide) ?_
        exact gz_zret rfl (by first | decide | exact nrb (Or.inl rfl) | (refine nrb ?_; (repeat' split) <;> first | assumption | exact Or.inl rfl | exact Or.inr rfl)) dX2_holds_91 (Nat.le_of_ble_eq_true rfl) (Nat.le_of_ble_eq_true rfl) (⟨_, rfl, (show _ = _ from Eq.symm (by unfold hldF; rw [if_pos c_42, if_pos c_54, if_pos c_75])), rfl⟩)
      ·
        refine gz_iload dX2_holds_78 rfl ?_
        refine gz_iload dX2_holds_80 rfl ?_
        refine gz_iand dX2_holds_82 ?_
        refine gz_if_eq (tgt := 90) dX2_holds_83 (by decide) (fun c_83 => ?_) (fun c_83 => ?_)
        ·
          refine gz_iconst (v := 0) dX2_holds_90 (by decide) ?_
          exact gz_zret rfl (by first | decide | exact nrb (Or.inl rfl) | (refine nrb ?_; (repeat' split) <;> first | assumption | exact Or.inl rfl | exact Or.inr rfl)) dX2_holds_91 (Nat.le_of_ble_eq_true rfl) (Nat.le_of_ble_eq_true rfl) (⟨_, rfl, (show _ = _ from Eq.symm (by unfold hldF; rw [if_pos c_42, if_pos c_54, if_neg c_75, if_pos c_83])), rfl⟩)
        ·
          refine gz_iconst (v := 1) dX2_holds_86 (by decide) ?_
          refine gz_goto (tgt := 91) dX2_holds_87 (by decide) ?_
          exact gz_zret rfl (by first | decide | exact nrb (Or.inl rfl) | (refine nrb ?_; (repeat' split) <;> first | assumption | exact Or.inl rfl | exact Or.inr rfl)) dX2_holds_91 (Nat.le_of_ble_eq_true rfl) (Nat.le_of_ble_eq_true rfl) (⟨_, rfl, (show _ = _ from Eq.symm (by unfold hldF; rw [if_pos c_42, if_pos c_54, if_neg c_75, if_neg c_83])), rfl⟩)
  ·
    refine gz_iconst (v := 1) dX2_holds_45 (by decide) ?_
    refine gz_goto (tgt := 62) dX2_holds_46 (by decide) ?_
    refine gz_istore (lv' := [(8, .int 1), (6, .long (sumF n2 h v t da (fldF n1 g s w 6) (fldF n1 g s w 7))), (4, .long (sumF n2 h v t da (fldF n1 g s w 5) (fldF n1 g s w 6))), (3, .int (fldF n1 g s w 6)), (0, .ref p), (1, .int w), (2, .ref sc)]) dX2_holds_62 (by decide) rfl ?_
    refine gz_aload_n dX2_holds_64 rfl rfl ?_
    refine gz_iload_n dX2_holds_65 rfl rfl ?_
    refine gz_bipush (v := 8) dX2_holds_66 (by decide) ?_
    refine scX2_31 (k_X2_field (w := w) (k := 8) hp h1 hs) hp ⟨(Nat.le_of_ble_eq_true rfl), (Nat.le_of_ble_eq_true rfl)⟩ ⟨(Nat.le_of_ble_eq_true rfl), (Nat.le_of_ble_eq_true rfl)⟩ rfl rfl (Nat.le_of_ble_eq_true rfl) dX2_holds_68 ?_
    intro v9 f9 z9; rw [z9.1, z9.2]
    refine gz_istore (lv' := [(9, .int (fldF n1 g s w 8)), (8, .int 1), (6, .long (sumF n2 h v t da (fldF n1 g s w 6) (fldF n1 g s w 7))), (4, .long (sumF n2 h v t da (fldF n1 g s w 5) (fldF n1 g s w 6))), (3, .int (fldF n1 g s w 6)), (0, .ref p), (1, .int w), (2, .ref sc)]) dX2_holds_71 (by decide) rfl ?_
    refine gz_iload dX2_holds_73 rfl ?_
    refine gz_if_le (tgt := 90) dX2_holds_75 (by decide) (fun c_75 => ?_) (fun c_75 => ?_)
    ·
      refine gz_iconst (v := 0) dX2_holds_90 (by decide) ?_
      exact gz_zret rfl (by first | decide | exact nrb (Or.inl rfl) | (refine nrb ?_; (repeat' split) <;> first | assumption | exact Or.inl rfl | exact Or.inr rfl)) dX2_holds_91 (Nat.le_of_ble_eq_true rfl) (Nat.le_of_ble_eq_true rfl) (⟨_, rfl, (show _ = _ from Eq.symm (by unfold hldF; rw [if_neg c_42, if_pos c_75])), rfl⟩)
    ·
      refine gz_iload dX2_holds_78 rfl ?_
      refine gz_iload dX2_holds_80 rfl ?_
      refine gz_iand dX2_holds_82 ?_
      refine gz_if_eq (tgt := 90) dX2_holds_83 (by decide) (fun c_83 => ?_) (fun c_83 => ?_)
      ·
        refine gz_iconst (v := 0) dX2_holds_90 (by decide) ?_
        exact gz_zret rfl (by first | decide | exact nrb (Or.inl rfl) | (refine nrb ?_; (repeat' split) <;> first | assumption | exact Or.inl rfl | exact Or.inr rfl)) dX2_holds_91 (Nat.le_of_ble_eq_true rfl) (Nat.le_of_ble_eq_true rfl) (⟨_, rfl, (show _ = _ from Eq.symm (by unfold hldF; rw [if_neg c_42, if_neg c_75, if_pos c_83])), rfl⟩)
      ·
        refine gz_iconst (v := 1) dX2_holds_86 (by decide) ?_
        refine gz_goto (tgt := 91) dX2_holds_87 (by decide) ?_
        exact gz_zret rfl (by first | decide | exact nrb (Or.inl rfl) | (refine nrb ?_; (repeat' split) <;> first | assumption | exact Or.inl rfl | exact Or.inr rfl)) dX2_holds_91 (Nat.le_of_ble_eq_true rfl) (Nat.le_of_ble_eq_true rfl) (⟨_, rfl, (show _ = _ from Eq.symm (by unfold hldF; rw [if_neg c_42, if_neg c_75, if_neg c_83])), rfl⟩)

def lpsL (n1 n2 : Nat) (g h : Nat → Int32) (s v : Int32) (t : Nat → Int32) (da : Int32)  : Nat → Int32 → Int32 → Int32
  | 0, _, _ => 0
  | k + 1, i, u => (if 40 ≤ (i : Int32) then 0 else (if (u : Int32) < 0 then 0 else (if ((hldF n1 n2 g h s v t da u) : Int32) = 0 then lpsL n1 n2 g h s v t da k (i + 1) (fldF n1 g s u 11) else 1)))
set_option maxHeartbeats 4000000 in
set_option maxRecDepth 100000 in
theorem l_X2_lapsed {l : Launch} {D : va_G} {cy : Nat → ClassId} {b mc ms : Nat} {f : gMem} {Po : Option Value → gMem → Prop} {p c1 c2 n1 n2 : Nat} {s v : Int32} {g h : Nat → Int32} {sc th : Nat} {da : Int32} {t : Nat → Int32} {w : Int32}  (hp : f p = some (.inr (2, [.ref c1, .ref c2, .int s, .int v]))) (h1 : f c1 = some (.inl (cy 0, n1, .inl (g)))) (h2 : f c2 = some (.inl (cy 0, n2, .inl (h)))) (hsc : f sc = some (.inr (7, [.ref th, .int da]))) (hth : f th = some (.inl (cy 0, 6, .inl (t)))) (hs : 0 ≤ s.toInt ∧ 13 * s.toInt ≤ n1 ∧ n1 ≤ 520) (hv : 0 ≤ v.toInt ∧ 2 * v.toInt ≤ n2 ∧ n2 ≤ 80) : ∀ (k : Nat) (i : Int32) (u : Int32), (0 ≤ i.toInt ∧ i.toInt ≤ 40 ∧ i.toInt + (k : Int) = 41) → (Po (some (.int (lpsL n1 n2 g h s v t da k i u))) f) → gG l (gRm 3 mc ms) (gQf D b Po mc ms) gTt D cy b cX2_lapsed 5 (some .boolean) RX2 "lapsed" 0 0 f 11 [(4, .int i), (3, .int u), (0, .ref p), (1, .int w), (2, .ref sc)] [] := by
  intro k
  induction k with
  | zero =>
    intro i u hk hq
    exfalso; omega
  | succ k ih =>
    intro i u hk hq
    refine gz_iload dX2_lapsed_11 rfl ?_
    refine gz_bipush (v := 40) dX2_lapsed_13 (by decide) ?_
    refine gz_icmp_ge (tgt := 47) dX2_lapsed_15 (by decide) (fun c_15 => ?_) (fun c_15 => ?_)
    ·
      refine gz_iconst (v := 0) dX2_lapsed_47 (by decide) ?_
      exact gz_zret rfl (by first | decide | exact nrb (Or.inl rfl) | (refine nrb ?_; (repeat' split) <;> first | assumption | exact Or.inl rfl | exact Or.inr rfl)) dX2_lapsed_48 (Nat.zero_le _) (Nat.zero_le _) ((by rw [lpsL, if_pos c_15] at hq; exact hq))
    ·
      refine gz_iload_n dX2_lapsed_18 rfl rfl ?_
      refine gz_if_lt (tgt := 47) dX2_lapsed_19 (by decide) (fun c_19 => ?_) (fun c_19 => ?_)
      ·
        refine gz_iconst (v := 0) dX2_lapsed_47 (by decide) ?_
        exact gz_zret rfl (by first | decide | exact nrb (Or.inl rfl) | (refine nrb ?_; (repeat' split) <;> first | assumption | exact Or.inl rfl | exact Or.inr rfl)) dX2_lapsed_48 (Nat.zero_le _) (Nat.zero_le _) ((by rw [lpsL, if_neg c_15, if_pos c_19] at hq; exact hq))
      ·
        refine gz_aload_n dX2_lapsed_22 rfl rfl ?_
        refine gz_iload_n dX2_lapsed_23 rfl rfl ?_
        refine gz_aload_n dX2_lapsed_24 rfl rfl ?_
        refine scX2_61 (k_X2_holds (w := u) hp h1 h2 hsc hth hs hv) hp ⟨(Nat.le_of_ble_eq_true rfl), (Nat.le_of_ble_eq_true rfl)⟩ ⟨(Nat.zero_le _), (Nat.zero_le _)⟩ rfl rfl (Nat.le_of_ble_eq_true rfl) dX2_lapsed_25 ?_
        intro v9 f9 z9; rw [z9.1, z9.2]
        refine gz_if_eq (tgt := 33) dX2_lapsed_28 (by decide) (fun c_28 => ?_) (fun c_28 => ?_)
        ·
          refine gz_aload_n dX2_lapsed_33 rfl rfl ?_
          refine gz_iload_n dX2_lapsed_34 rfl rfl ?_
          refine gz_bipush (v := 11) dX2_lapsed_35 (by decide) ?_
          refine scX2_31 (k_X2_field (w := u) (k := 11) hp h1 hs) hp ⟨(Nat.le_of_ble_eq_true rfl), (Nat.le_of_ble_eq_true rfl)⟩ ⟨(Nat.zero_le _), (Nat.zero_le _)⟩ rfl rfl (Nat.le_of_ble_eq_true rfl) dX2_lapsed_37 ?_
          intro v9 f9 z9; rw [z9.1, z9.2]
          refine gz_istore_n (lv' := [(3, .int (fldF n1 g s u 11)), (4, .int i), (0, .ref p), (1, .int w), (2, .ref sc)]) dX2_lapsed_40 rfl (by decide) rfl ?_
          refine gz_iinc (v := (i + 1)) (lv' := [(4, .int (i + 1)), (3, .int (fldF n1 g s u 11)), (0, .ref p), (1, .int w), (2, .ref sc)]) dX2_lapsed_41 rfl rfl (by decide) rfl ?_
          refine gz_goto (tgt := 11) dX2_lapsed_44 (by decide) ?_
          refine gz_sub (lv' := [(4, .int (i + 1)), (3, .int (fldF n1 g s u 11)), (0, .ref p), (1, .int w), (2, .ref sc)]) (by simp [List.lookup]) ?_
          exact ih (i + 1) (fldF n1 g s u 11) (by have e13 : (13 : Int32).toInt = 13 := rfl; have e0 : (0 : Int32).toInt = 0 := rfl; have e2 : (2 : Int32).toInt = 2 := rfl; have e1 : (1 : Int32).toInt = 1 := rfl; have e6 : (6 : Int32).toInt = 6 := rfl; have em2 : (-2 : Int32).toInt = -2 := rfl; have e40 : (40 : Int32).toInt = 40 := rfl; simp only [fl_le] at c_15; have hx := T_add (rfl : i.toInt = i.toInt) (rfl : (1 : Int32).toInt = 1) (by omega); omega) (by rw [lpsL, if_neg c_15, if_neg c_19, if_pos c_28] at hq; exact hq)
        ·
          refine gz_iconst (v := 1) dX2_lapsed_31 (by decide) ?_
          exact gz_zret rfl (by first | decide | exact nrb (Or.inl rfl) | (refine nrb ?_; (repeat' split) <;> first | assumption | exact Or.inl rfl | exact Or.inr rfl)) dX2_lapsed_32 (Nat.zero_le _) (Nat.zero_le _) ((by rw [lpsL, if_neg c_15, if_neg c_19, if_neg c_28] at hq; exact hq))

def lpsF (n1 n2 : Nat) (g h : Nat → Int32) (s v : Int32) (t : Nat → Int32) (da : Int32) (w : Int32) : Int32 := lpsL n1 n2 g h s v t da 41 0 (fldF n1 g s w 11)
set_option maxHeartbeats 4000000 in
set_option maxRecDepth 100000 in
theorem k_X2_lapsed {l : Launch} {D : va_G} {cy : Nat → ClassId} {b : Nat} {f : gMem} {p c1 c2 n1 n2 : Nat} {s v : Int32} {g h : Nat → Int32} {sc th : Nat} {da : Int32} {t : Nat → Int32} {w : Int32} (hp : f p = some (.inr (2, [.ref c1, .ref c2, .int s, .int v]))) (h1 : f c1 = some (.inl (cy 0, n1, .inl (g)))) (h2 : f c2 = some (.inl (cy 0, n2, .inl (h)))) (hsc : f sc = some (.inr (7, [.ref th, .int da]))) (hth : f th = some (.inl (cy 0, 6, .inl (t)))) (hs : 0 ≤ s.toInt ∧ 13 * s.toInt ≤ n1 ∧ n1 ≤ 520) (hv : 0 ≤ v.toInt ∧ 2 * v.toInt ≤ n2 ∧ n2 ≤ 80) : gC l D cy b yX2_lapsed cX2_lapsed 5 (some .boolean) 3 0 0 [.ref p, .int w, .ref sc] f (pI fun r f2 => r = lpsF n1 n2 g h s v t da w ∧ f2 = f) := by
  refine gC_of (by decide) (Nat.le_of_ble_eq_true rfl) ?_
  show gG l _ _ _ D cy b cX2_lapsed 5 _ RX2 "lapsed" 0 0 f 0 [(0, .ref p), (1, .int w), (2, .ref sc)] []
  refine gz_aload_n dX2_lapsed_0 rfl rfl ?_
  refine gz_iload_n dX2_lapsed_1 rfl rfl ?_
  refine gz_bipush (v := 11) dX2_lapsed_2 (by decide) ?_
  refine scX2_31 (k_X2_field (w := w) (k := 11) hp h1 hs) hp ⟨(Nat.le_of_ble_eq_true rfl), (Nat.le_of_ble_eq_true rfl)⟩ ⟨(Nat.le_of_ble_eq_true rfl), (Nat.le_of_ble_eq_true rfl)⟩ rfl rfl (Nat.le_of_ble_eq_true rfl) dX2_lapsed_4 ?_
  intro v9 f9 z9; rw [z9.1, z9.2]
  refine gz_istore_n (lv' := [(3, .int (fldF n1 g s w 11)), (0, .ref p), (1, .int w), (2, .ref sc)]) dX2_lapsed_7 rfl (by decide) rfl ?_
  refine gz_iconst (v := 0) dX2_lapsed_8 (by decide) ?_
  refine gz_istore (lv' := [(4, .int 0), (3, .int (fldF n1 g s w 11)), (0, .ref p), (1, .int w), (2, .ref sc)]) dX2_lapsed_9 (by decide) rfl ?_
  refine gz_sub (lv' := [(4, .int 0), (3, .int (fldF n1 g s w 11)), (0, .ref p), (1, .int w), (2, .ref sc)]) (by simp [List.lookup]) ?_
  exact l_X2_lapsed hp h1 h2 hsc hth hs hv 41 _ _ ⟨by decide, by decide, by decide⟩ ⟨_, rfl, rfl, rfl⟩

def pasF (n1 n2 : Nat) (g h : Nat → Int32) (s v : Int32) (t : Nat → Int32) (da : Int32) (w x : Int32) : Int32 := (if ((fldF n1 g s w 0) : Int32) = 2 then (-x) else (if ((fldF n1 g s w 0) : Int32) = 9 then (if (if (x.toInt64 * (sumF n2 h v t da (fldF n1 g s w 5) (fldF n1 g s w 6))) < (1000000) then (x.toInt64 * (sumF n2 h v t da (fldF n1 g s w 5) (fldF n1 g s w 6))) else (1000000)) < (-1000000) then (-1000000) else (if (x.toInt64 * (sumF n2 h v t da (fldF n1 g s w 5) (fldF n1 g s w 6))) < (1000000) then (x.toInt64 * (sumF n2 h v t da (fldF n1 g s w 5) (fldF n1 g s w 6))) else (1000000))).toInt32 else x))
set_option maxHeartbeats 4000000 in
set_option maxRecDepth 100000 in
theorem k_X2_passed {l : Launch} {D : va_G} {cy : Nat → ClassId} {b : Nat} {f : gMem} {p c1 c2 n1 n2 : Nat} {s v : Int32} {g h : Nat → Int32} {sc th : Nat} {da : Int32} {t : Nat → Int32} {w x : Int32} (hp : f p = some (.inr (2, [.ref c1, .ref c2, .int s, .int v]))) (h1 : f c1 = some (.inl (cy 0, n1, .inl (g)))) (h2 : f c2 = some (.inl (cy 0, n2, .inl (h)))) (hsc : f sc = some (.inr (7, [.ref th, .int da]))) (hth : f th = some (.inl (cy 0, 6, .inl (t)))) (hs : 0 ≤ s.toInt ∧ 13 * s.toInt ≤ n1 ∧ n1 ≤ 520) (hv : 0 ≤ v.toInt ∧ 2 * v.toInt ≤ n2 ∧ n2 ≤ 80) : gC l D cy b yX2_passed cX2_passed 7 (some .int) 2 0 0 [.ref p, .int w, .int x, .ref sc] f (pI fun r f2 => r = pasF n1 n2 g h s v t da w x ∧ f2 = f) := by
  refine gC_of (by decide) (Nat.le_of_ble_eq_true rfl) ?_
  show gG l _ _ _ D cy b cX2_passed 7 _ RX2 "passed" 0 0 f 0 [(0, .ref p), (1, .int w), (2, .int x), (3, .ref sc)] []
  refine gz_aload_n dX2_passed_0 rfl rfl ?_
  refine gz_iload_n dX2_passed_1 rfl rfl ?_
  refine gz_iconst (v := 0) dX2_passed_2 (by decide) ?_
  refine scX2_31 (k_X2_field (w := w) (k := 0) hp h1 hs) hp ⟨(Nat.le_of_ble_eq_true rfl), (Nat.le_of_ble_eq_true rfl)⟩ ⟨(Nat.le_of_ble_eq_true rfl), (Nat.le_of_ble_eq_true rfl)⟩ rfl rfl (Nat.le_of_ble_eq_true rfl) dX2_passed_3 ?_
  intro v9 f9 z9; rw [z9.1, z9.2]
  refine gz_istore (lv' := [(4, .int (fldF n1 g s w 0)), (0, .ref p), (1, .int w), (2, .int x), (3, .ref sc)]) dX2_passed_6 (by decide) rfl ?_
  refine gz_iload dX2_passed_8 rfl ?_
  refine gz_iconst (v := 2) dX2_passed_10 (by decide) ?_
  refine gz_icmp_ne (tgt := 17) dX2_passed_11 (by decide) (fun c_11 => ?_) (fun c_11 => ?_)
  ·
    refine gz_iload dX2_passed_17 rfl ?_
    refine gz_bipush (v := 9) dX2_passed_19 (by decide) ?_
    refine gz_icmp_eq (tgt := 26) dX2_passed_21 (by decide) (fun c_21 => ?_) (fun c_21 => ?_)
    ·
      refine gz_iload_n dX2_passed_26 rfl rfl ?_
      refine gz_i2l dX2_passed_27 ?_
      refine gz_aload_n dX2_passed_28 rfl rfl ?_
      refine gz_aload_n dX2_passed_29 rfl rfl ?_
      refine gz_iload_n dX2_passed_30 rfl rfl ?_
      refine gz_iconst (v := 5) dX2_passed_31 (by decide) ?_
      refine scX2_31 (k_X2_field (w := w) (k := 5) hp h1 hs) hp ⟨(Nat.le_of_ble_eq_true rfl), (Nat.le_of_ble_eq_true rfl)⟩ ⟨(Nat.le_of_ble_eq_true rfl), (Nat.le_of_ble_eq_true rfl)⟩ rfl rfl (Nat.le_of_ble_eq_true rfl) dX2_passed_32 ?_
      intro v9 f9 z9; rw [z9.1, z9.2]
      refine gz_aload_n dX2_passed_35 rfl rfl ?_
      refine gz_iload_n dX2_passed_36 rfl rfl ?_
      refine gz_bipush (v := 6) dX2_passed_37 (by decide) ?_
      refine scX2_31 (k_X2_field (w := w) (k := 6) hp h1 hs) hp ⟨(Nat.le_of_ble_eq_true rfl), (Nat.le_of_ble_eq_true rfl)⟩ ⟨(Nat.le_of_ble_eq_true rfl), (Nat.le_of_ble_eq_true rfl)⟩ rfl rfl (Nat.le_of_ble_eq_true rfl) dX2_passed_39 ?_
      intro v9 f9 z9; rw [z9.1, z9.2]
      refine gz_aload_n dX2_passed_42 rfl rfl ?_
      refine scX2_57 (k_X2_sum (a1 := (fldF n1 g s w 5)) (a2 := (fldF n1 g s w 6)) hp h2 hsc hth hv) hp ⟨(Nat.le_of_ble_eq_true rfl), (Nat.le_of_ble_eq_true rfl)⟩ ⟨(Nat.le_of_ble_eq_true rfl), (Nat.le_of_ble_eq_true rfl)⟩ rfl rfl (Nat.le_of_ble_eq_true rfl) dX2_passed_43 ?_
      intro v9 f9 z9; rw [z9.1, z9.2]
      refine gz_lmul dX2_passed_46 ?_
      refine gz_lstore (lv' := [(5, .long (x.toInt64 * (sumF n2 h v t da (fldF n1 g s w 5) (fldF n1 g s w 6)))), (4, .int (fldF n1 g s w 0)), (0, .ref p), (1, .int w), (2, .int x), (3, .ref sc)]) dX2_passed_47 (by decide) rfl ?_
      refine gz_ldc2 (v := (-1000000)) wd_150 dX2_passed_49 ?_
      refine gz_ldc2 (v := (1000000)) wd_151 dX2_passed_52 ?_
      refine gz_lload dX2_passed_55 rfl ?_
      refine scX2_69 (Nat.le_of_ble_eq_true rfl) (Nat.le_of_ble_eq_true rfl) (Nat.le_of_ble_eq_true rfl) (Nat.le_of_ble_eq_true rfl) (Nat.le_of_ble_eq_true rfl) dX2_passed_57 ?_
      refine scX2_72 (Nat.le_of_ble_eq_true rfl) (Nat.le_of_ble_eq_true rfl) (Nat.le_of_ble_eq_true rfl) (Nat.le_of_ble_eq_true rfl) (Nat.le_of_ble_eq_true rfl) dX2_passed_60 ?_
      refine gz_l2i dX2_passed_63 ?_
      exact gz_iret rfl dX2_passed_64 (Nat.le_of_ble_eq_true rfl) (Nat.le_of_ble_eq_true rfl) (⟨_, rfl, (show _ = _ from Eq.symm (by unfold pasF; rw [if_neg c_11, if_pos c_21])), rfl⟩)
    ·
      refine gz_iload_n dX2_passed_24 rfl rfl ?_
      exact gz_iret rfl dX2_passed_25 (Nat.le_of_ble_eq_true rfl) (Nat.le_of_ble_eq_true rfl) (⟨_, rfl, (show _ = _ from Eq.symm (by unfold pasF; rw [if_neg c_11, if_neg c_21])), rfl⟩)
  ·
    refine gz_iload_n dX2_passed_14 rfl rfl ?_
    refine gz_ineg dX2_passed_15 ?_
    exact gz_iret rfl dX2_passed_16 (Nat.le_of_ble_eq_true rfl) (Nat.le_of_ble_eq_true rfl) (⟨_, rfl, (show _ = _ from Eq.symm (by unfold pasF; rw [if_pos c_11])), rfl⟩)

def heldF (n1 : Nat) (g : Nat → Int32) (s w x : Int32) : Int32 := (if ((fldF n1 g s w 9) : Int32) = (-1) then x else (if (-(fldF n1 g s w 9)) < (if x < (fldF n1 g s w 9) then x else (fldF n1 g s w 9)) then (if x < (fldF n1 g s w 9) then x else (fldF n1 g s w 9)) else (-(fldF n1 g s w 9))))
set_option maxHeartbeats 4000000 in
set_option maxRecDepth 100000 in
theorem k_X2_held {l : Launch} {D : va_G} {cy : Nat → ClassId} {b : Nat} {f : gMem} {p c1 c2 n1 : Nat} {s v : Int32} {g : Nat → Int32} {w x : Int32} (hp : f p = some (.inr (2, [.ref c1, .ref c2, .int s, .int v]))) (h1 : f c1 = some (.inl (cy 0, n1, .inl (g)))) (hs : 0 ≤ s.toInt ∧ 13 * s.toInt ≤ n1 ∧ n1 ≤ 520) : gC l D cy b yX2_held cX2_held 4 (some .int) 1 0 0 [.ref p, .int w, .int x] f (pI fun r f2 => r = heldF n1 g s w x ∧ f2 = f) := by
  refine gC_of (by decide) (Nat.le_of_ble_eq_true rfl) ?_
  show gG l _ _ _ D cy b cX2_held 4 _ RX2 "held" 0 0 f 0 [(0, .ref p), (1, .int w), (2, .int x)] []
  refine gz_aload_n dX2_held_0 rfl rfl ?_
  refine gz_iload_n dX2_held_1 rfl rfl ?_
  refine gz_bipush (v := 9) dX2_held_2 (by decide) ?_
  refine scX2_31 (k_X2_field (w := w) (k := 9) hp h1 hs) hp ⟨(Nat.le_of_ble_eq_true rfl), (Nat.le_of_ble_eq_true rfl)⟩ ⟨(Nat.le_of_ble_eq_true rfl), (Nat.le_of_ble_eq_true rfl)⟩ rfl rfl (Nat.le_of_ble_eq_true rfl) dX2_held_4 ?_
  intro v9 f9 z9; rw [z9.1, z9.2]
  refine gz_istore_n (lv' := [(3, .int (fldF n1 g s w 9)), (0, .ref p), (1, .int w), (2, .int x)]) dX2_held_7 rfl (by decide) rfl ?_
  refine gz_iload_n dX2_held_8 rfl rfl ?_
  refine gz_iconst (v := (-1)) dX2_held_9 (by decide) ?_
  refine gz_icmp_ne (tgt := 17) dX2_held_10 (by decide) (fun c_10 => ?_) (fun c_10 => ?_)
  ·
    refine gz_iload_n dX2_held_17 rfl rfl ?_
    refine gz_ineg dX2_held_18 ?_
    refine gz_iload_n dX2_held_19 rfl rfl ?_
    refine gz_iload_n dX2_held_20 rfl rfl ?_
    refine scX2_42 (Nat.le_of_ble_eq_true rfl) (Nat.le_of_ble_eq_true rfl) (Nat.le_of_ble_eq_true rfl) (Nat.le_of_ble_eq_true rfl) (Nat.le_of_ble_eq_true rfl) dX2_held_21 ?_
    refine scX2_9 (Nat.le_of_ble_eq_true rfl) (Nat.le_of_ble_eq_true rfl) (Nat.le_of_ble_eq_true rfl) (Nat.le_of_ble_eq_true rfl) (Nat.le_of_ble_eq_true rfl) dX2_held_24 ?_
    exact gz_iret rfl dX2_held_27 (Nat.le_of_ble_eq_true rfl) (Nat.le_of_ble_eq_true rfl) (⟨_, rfl, (show _ = _ from Eq.symm (by unfold heldF; rw [if_neg c_10])), rfl⟩)
  ·
    refine gz_iload_n dX2_held_13 rfl rfl ?_
    refine gz_goto (tgt := 27) dX2_held_14 (by decide) ?_
    exact gz_iret rfl dX2_held_27 (Nat.le_of_ble_eq_true rfl) (Nat.le_of_ble_eq_true rfl) (⟨_, rfl, (show _ = _ from Eq.symm (by unfold heldF; rw [if_pos c_10])), rfl⟩)

def nxtF (n1 : Nat) (g : Nat → Int32) (s da w : Int32) : Int32 := (if ((fldF n1 g s w 0) : Int32) = 5 then (if (da : Int32) < (fldF n1 g s w 2) then (fldF n1 g s w 3) else (fldF n1 g s w 4)) else (fldF n1 g s w 3))
set_option maxHeartbeats 4000000 in
set_option maxRecDepth 100000 in
theorem k_X2_nextDeed {l : Launch} {D : va_G} {cy : Nat → ClassId} {b : Nat} {f : gMem} {p c1 c2 n1 : Nat} {s v : Int32} {g : Nat → Int32} {sc th : Nat} {da : Int32} {w : Int32} (hp : f p = some (.inr (2, [.ref c1, .ref c2, .int s, .int v]))) (h1 : f c1 = some (.inl (cy 0, n1, .inl (g)))) (hsc : f sc = some (.inr (7, [.ref th, .int da]))) (hs : 0 ≤ s.toInt ∧ 13 * s.toInt ≤ n1 ∧ n1 ≤ 520) : gC l D cy b yX2_nextDeed cX2_nextDeed 4 (some .int) 1 0 0 [.ref p, .int w, .ref sc] f (pI fun r f2 => r = nxtF n1 g s da w ∧ f2 = f) := by
  refine gC_of (by decide) (Nat.le_of_ble_eq_true rfl) ?_
  show gG l _ _ _ D cy b cX2_nextDeed 4 _ RX2 "nextDeed" 0 0 f 0 [(0, .ref p), (1, .int w), (2, .ref sc)] []
  refine gz_aload_n dX2_nextDeed_0 rfl rfl ?_
  refine gz_iload_n dX2_nextDeed_1 rfl rfl ?_
  refine gz_iconst (v := 0) dX2_nextDeed_2 (by decide) ?_
  refine scX2_31 (k_X2_field (w := w) (k := 0) hp h1 hs) hp ⟨(Nat.le_of_ble_eq_true rfl), (Nat.le_of_ble_eq_true rfl)⟩ ⟨(Nat.le_of_ble_eq_true rfl), (Nat.le_of_ble_eq_true rfl)⟩ rfl rfl (Nat.le_of_ble_eq_true rfl) dX2_nextDeed_3 ?_
  intro v9 f9 z9; rw [z9.1, z9.2]
  refine gz_iconst (v := 5) dX2_nextDeed_6 (by decide) ?_
  refine gz_icmp_ne (tgt := 27) dX2_nextDeed_7 (by decide) (fun c_7 => ?_) (fun c_7 => ?_)
  ·
    refine gz_iconst (v := 0) dX2_nextDeed_27 (by decide) ?_
    refine gz_istore_n (lv' := [(3, .int 0), (0, .ref p), (1, .int w), (2, .ref sc)]) dX2_nextDeed_28 rfl (by decide) rfl ?_
    refine gz_aload_n dX2_nextDeed_29 rfl rfl ?_
    refine gz_iload_n dX2_nextDeed_30 rfl rfl ?_
    refine gz_iload_n dX2_nextDeed_31 rfl rfl ?_
    refine gz_if_eq (tgt := 39) dX2_nextDeed_32 (by decide) (fun c_32 => ?_) (fun c_32 => ?_)
    ·
      refine gz_iconst (v := 3) dX2_nextDeed_39 (by decide) ?_
      refine scX2_31 (k_X2_field (w := w) (k := 3) hp h1 hs) hp ⟨(Nat.le_of_ble_eq_true rfl), (Nat.le_of_ble_eq_true rfl)⟩ ⟨(Nat.le_of_ble_eq_true rfl), (Nat.le_of_ble_eq_true rfl)⟩ rfl rfl (Nat.le_of_ble_eq_true rfl) dX2_nextDeed_40 ?_
      intro v9 f9 z9; rw [z9.1, z9.2]
      exact gz_iret rfl dX2_nextDeed_43 (Nat.le_of_ble_eq_true rfl) (Nat.le_of_ble_eq_true rfl) (⟨_, rfl, (show _ = _ from Eq.symm (by unfold nxtF; rw [if_neg c_7])), rfl⟩)
    · exact absurd c_32 (by decide)
  ·
    refine gz_aload_n dX2_nextDeed_10 rfl rfl ?_
    refine sgX2_74 hsc rfl dX2_nextDeed_11 ?_
    refine gz_aload_n dX2_nextDeed_14 rfl rfl ?_
    refine gz_iload_n dX2_nextDeed_15 rfl rfl ?_
    refine gz_iconst (v := 2) dX2_nextDeed_16 (by decide) ?_
    refine scX2_31 (k_X2_field (w := w) (k := 2) hp h1 hs) hp ⟨(Nat.le_of_ble_eq_true rfl), (Nat.le_of_ble_eq_true rfl)⟩ ⟨(Nat.le_of_ble_eq_true rfl), (Nat.le_of_ble_eq_true rfl)⟩ rfl rfl (Nat.le_of_ble_eq_true rfl) dX2_nextDeed_17 ?_
    intro v9 f9 z9; rw [z9.1, z9.2]
    refine gz_icmp_lt (tgt := 27) dX2_nextDeed_20 (by decide) (fun c_20 => ?_) (fun c_20 => ?_)
    ·
      refine gz_iconst (v := 0) dX2_nextDeed_27 (by decide) ?_
      refine gz_istore_n (lv' := [(3, .int 0), (0, .ref p), (1, .int w), (2, .ref sc)]) dX2_nextDeed_28 rfl (by decide) rfl ?_
      refine gz_aload_n dX2_nextDeed_29 rfl rfl ?_
      refine gz_iload_n dX2_nextDeed_30 rfl rfl ?_
      refine gz_iload_n dX2_nextDeed_31 rfl rfl ?_
      refine gz_if_eq (tgt := 39) dX2_nextDeed_32 (by decide) (fun c_32 => ?_) (fun c_32 => ?_)
      ·
        refine gz_iconst (v := 3) dX2_nextDeed_39 (by decide) ?_
        refine scX2_31 (k_X2_field (w := w) (k := 3) hp h1 hs) hp ⟨(Nat.le_of_ble_eq_true rfl), (Nat.le_of_ble_eq_true rfl)⟩ ⟨(Nat.le_of_ble_eq_true rfl), (Nat.le_of_ble_eq_true rfl)⟩ rfl rfl (Nat.le_of_ble_eq_true rfl) dX2_nextDeed_40 ?_
        intro v9 f9 z9; rw [z9.1, z9.2]
        exact gz_iret rfl dX2_nextDeed_43 (Nat.le_of_ble_eq_true rfl) (Nat.le_of_ble_eq_true rfl) (⟨_, rfl, (show _ = _ from Eq.symm (by unfold nxtF; rw [if_pos c_7, if_pos c_20])), rfl⟩)
      · exact absurd c_32 (by decide)
    ·
      refine gz_iconst (v := 1) dX2_nextDeed_23 (by decide) ?_
      refine gz_goto (tgt := 28) dX2_nextDeed_24 (by decide) ?_
      refine gz_istore_n (lv' := [(3, .int 1), (0, .ref p), (1, .int w), (2, .ref sc)]) dX2_nextDeed_28 rfl (by decide) rfl ?_
      refine gz_aload_n dX2_nextDeed_29 rfl rfl ?_
      refine gz_iload_n dX2_nextDeed_30 rfl rfl ?_
      refine gz_iload_n dX2_nextDeed_31 rfl rfl ?_
      refine gz_if_eq (tgt := 39) dX2_nextDeed_32 (by decide) (fun c_32 => ?_) (fun c_32 => ?_)
      · exact absurd c_32 (by decide)
      ·
        refine gz_iconst (v := 4) dX2_nextDeed_35 (by decide) ?_
        refine gz_goto (tgt := 40) dX2_nextDeed_36 (by decide) ?_
        refine scX2_31 (k_X2_field (w := w) (k := 4) hp h1 hs) hp ⟨(Nat.le_of_ble_eq_true rfl), (Nat.le_of_ble_eq_true rfl)⟩ ⟨(Nat.le_of_ble_eq_true rfl), (Nat.le_of_ble_eq_true rfl)⟩ rfl rfl (Nat.le_of_ble_eq_true rfl) dX2_nextDeed_40 ?_
        intro v9 f9 z9; rw [z9.1, z9.2]
        exact gz_iret rfl dX2_nextDeed_43 (Nat.le_of_ble_eq_true rfl) (Nat.le_of_ble_eq_true rfl) (⟨_, rfl, (show _ = _ from Eq.symm (by unfold nxtF; rw [if_pos c_7, if_neg c_20])), rfl⟩)

def hasL (n1 : Nat) (g : Nat → Int32) (s : Int32) : Nat → Int32 → Int32
  | 0, _ => 0
  | k + 1, i => (if s ≤ (i : Int32) then 0 else (if ((fldF n1 g s i 0) : Int32) = 4 then 1 else (if ((fldF n1 g s i 0) : Int32) = 7 then 1 else hasL n1 g s k (i + 1))))
set_option maxHeartbeats 4000000 in
set_option maxRecDepth 100000 in
theorem l_X2_hasChoices {l : Launch} {D : va_G} {cy : Nat → ClassId} {b mc ms : Nat} {f : gMem} {Po : Option Value → gMem → Prop} {p c1 c2 n1 : Nat} {s v : Int32} {g : Nat → Int32}  (hp : f p = some (.inr (2, [.ref c1, .ref c2, .int s, .int v]))) (h1 : f c1 = some (.inl (cy 0, n1, .inl (g)))) (hs : 0 ≤ s.toInt ∧ 13 * s.toInt ≤ n1 ∧ n1 ≤ 520) : ∀ (k : Nat) (i : Int32), (0 ≤ i.toInt) → (0 < k ∧ (i.toInt < s.toInt → s.toInt - i.toInt < (k : Int))) → (Po (some (.int (hasL n1 g s k i))) f) → gG l (gRm 1 mc ms) (gQf D b Po mc ms) gTt D cy b cX2_hasChoices 3 (some .boolean) RX2 "hasChoices" 0 0 f 2 [(1, .int i), (0, .ref p)] [] := by
  intro k
  induction k with
  | zero =>
    intro i h0 hk hq
    exfalso; omega
  | succ k ih =>
    intro i h0 hk hq
    refine gz_iload_n dX2_hasChoices_2 rfl rfl ?_
    refine gz_aload_n dX2_hasChoices_3 rfl rfl ?_
    refine sgX2_24 hp rfl dX2_hasChoices_4 ?_
    refine gz_icmp_ge (tgt := 36) dX2_hasChoices_7 (by decide) (fun c_7 => ?_) (fun c_7 => ?_)
    ·
      refine gz_iconst (v := 0) dX2_hasChoices_36 (by decide) ?_
      exact gz_zret rfl (by first | decide | exact nrb (Or.inl rfl) | (refine nrb ?_; (repeat' split) <;> first | assumption | exact Or.inl rfl | exact Or.inr rfl)) dX2_hasChoices_37 (Nat.zero_le _) (Nat.zero_le _) ((by rw [hasL, if_pos c_7] at hq; exact hq))
    ·
      refine gz_aload_n dX2_hasChoices_10 rfl rfl ?_
      refine gz_iload_n dX2_hasChoices_11 rfl rfl ?_
      refine gz_iconst (v := 0) dX2_hasChoices_12 (by decide) ?_
      refine scX2_31 (k_X2_field (w := i) (k := 0) hp h1 hs) hp ⟨(Nat.le_of_ble_eq_true rfl), (Nat.le_of_ble_eq_true rfl)⟩ ⟨(Nat.zero_le _), (Nat.zero_le _)⟩ rfl rfl (Nat.le_of_ble_eq_true rfl) dX2_hasChoices_13 ?_
      intro v9 f9 z9; rw [z9.1, z9.2]
      refine gz_istore_n (lv' := [(2, .int (fldF n1 g s i 0)), (1, .int i), (0, .ref p)]) dX2_hasChoices_16 rfl (by decide) rfl ?_
      refine gz_iload_n dX2_hasChoices_17 rfl rfl ?_
      refine gz_iconst (v := 4) dX2_hasChoices_18 (by decide) ?_
      refine gz_icmp_eq (tgt := 28) dX2_hasChoices_19 (by decide) (fun c_19 => ?_) (fun c_19 => ?_)
      ·
        refine gz_iconst (v := 1) dX2_hasChoices_28 (by decide) ?_
        exact gz_zret rfl (by first | decide | exact nrb (Or.inl rfl) | (refine nrb ?_; (repeat' split) <;> first | assumption | exact Or.inl rfl | exact Or.inr rfl)) dX2_hasChoices_29 (Nat.zero_le _) (Nat.zero_le _) ((by rw [hasL, if_neg c_7, if_pos c_19] at hq; exact hq))
      ·
        refine gz_iload_n dX2_hasChoices_22 rfl rfl ?_
        refine gz_bipush (v := 7) dX2_hasChoices_23 (by decide) ?_
        refine gz_icmp_ne (tgt := 30) dX2_hasChoices_25 (by decide) (fun c_25 => ?_) (fun c_25 => ?_)
        ·
          refine gz_iinc (v := (i + 1)) (lv' := [(1, .int (i + 1)), (2, .int (fldF n1 g s i 0)), (0, .ref p)]) dX2_hasChoices_30 rfl rfl (by decide) rfl ?_
          refine gz_goto (tgt := 2) dX2_hasChoices_33 (by decide) ?_
          refine gz_sub (lv' := [(1, .int (i + 1)), (0, .ref p)]) (by simp [List.lookup]) ?_
          exact ih (i + 1) (by have e13 : (13 : Int32).toInt = 13 := rfl; have e0 : (0 : Int32).toInt = 0 := rfl; have e2 : (2 : Int32).toInt = 2 := rfl; have e1 : (1 : Int32).toInt = 1 := rfl; have e6 : (6 : Int32).toInt = 6 := rfl; have em2 : (-2 : Int32).toInt = -2 := rfl; simp only [fl_le] at c_7; have hx := T_add (rfl : i.toInt = i.toInt) (rfl : (1 : Int32).toInt = 1) (by omega); omega) (by have e13 : (13 : Int32).toInt = 13 := rfl; have e0 : (0 : Int32).toInt = 0 := rfl; have e2 : (2 : Int32).toInt = 2 := rfl; have e1 : (1 : Int32).toInt = 1 := rfl; have e6 : (6 : Int32).toInt = 6 := rfl; have em2 : (-2 : Int32).toInt = -2 := rfl; simp only [fl_le] at c_7; have hx := T_add (rfl : i.toInt = i.toInt) (rfl : (1 : Int32).toInt = 1) (by omega); omega) (by rw [hasL, if_neg c_7, if_neg c_19, if_neg c_25] at hq; exact hq)
        ·
          refine gz_iconst (v := 1) dX2_hasChoices_28 (by decide) ?_
          exact gz_zret rfl (by first | decide | exact nrb (Or.inl rfl) | (refine nrb ?_; (repeat' split) <;> first | assumption | exact Or.inl rfl | exact Or.inr rfl)) dX2_hasChoices_29 (Nat.zero_le _) (Nat.zero_le _) ((by rw [hasL, if_neg c_7, if_neg c_19, if_pos c_25] at hq; exact hq))

def hasF (n1 : Nat) (g : Nat → Int32) (s : Int32) : Int32 := hasL n1 g s 41 0
set_option maxHeartbeats 4000000 in
set_option maxRecDepth 100000 in
theorem k_X2_hasChoices {l : Launch} {D : va_G} {cy : Nat → ClassId} {b : Nat} {f : gMem} {p c1 c2 n1 : Nat} {s v : Int32} {g : Nat → Int32} (hp : f p = some (.inr (2, [.ref c1, .ref c2, .int s, .int v]))) (h1 : f c1 = some (.inl (cy 0, n1, .inl (g)))) (hs : 0 ≤ s.toInt ∧ 13 * s.toInt ≤ n1 ∧ n1 ≤ 520) : gC l D cy b yX2_hasChoices cX2_hasChoices 3 (some .boolean) 1 0 0 [.ref p] f (pI fun r f2 => r = hasF n1 g s ∧ f2 = f) := by
  refine gC_of (by decide) (Nat.le_of_ble_eq_true rfl) ?_
  show gG l _ _ _ D cy b cX2_hasChoices 3 _ RX2 "hasChoices" 0 0 f 0 [(0, .ref p)] []
  refine gz_iconst (v := 0) dX2_hasChoices_0 (by decide) ?_
  refine gz_istore_n (lv' := [(1, .int 0), (0, .ref p)]) dX2_hasChoices_1 rfl (by decide) rfl ?_
  exact l_X2_hasChoices hp h1 hs 41 0 (by decide) ⟨by decide, fun _ => by have e0 : (0 : Int32).toInt = 0 := rfl; omega⟩ ⟨_, rfl, rfl, rfl⟩
