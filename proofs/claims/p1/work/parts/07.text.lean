def tAt (len : Int32) (n : Nat) (g : Nat → Int32) (i : Int32) : Int32 := if i < 0 then -1 else if len ≤ i then -1 else if Int32.ofNat n ≤ i then -1 else g i.toNatClampNeg &&& 255
def tpL (len : Int32) (n : Nat) : Int32 := if len < 0 then len else if Int32.ofNat n ≤ len then len else len + 1
def tpG (len : Int32) (n : Nat) (g : Nat → Int32) (x : Int32) : Nat → Int32 := if len < 0 then g else if Int32.ofNat n ≤ len then g else upd g len.toNatClampNeg (vp_nar .byte x.toInt8.toInt32)
def tCut (len n : Int32) : Int32 := if n < 0 then len else if len < n then len else n

set_option maxHeartbeats 4000000 in
set_option maxRecDepth 100000 in
theorem k_X9_size {l : Launch} {D : va_G} {cy : Nat → ClassId} {b : Nat} {f : gMem} {a c : Nat} {len : Int32} (ha : f a = some (.inr (9, [.ref c, .int len])))  : gC l D cy b yX9_size cX9_size 1 (some .int) 0 0 0 [.ref a] f (pI fun v f2 => v = len ∧ f2 = f) := by
  refine gC_of (by decide) (Nat.le_of_ble_eq_true rfl) ?_
  show gG l _ _ _ D cy b cX9_size 1 _ RX9 "size" 0 0 f 0 [(0, .ref a)] []
  refine gz_aload_n dX9_size_0 rfl rfl ?_
  refine sgX9_21 ha rfl dX9_size_1 ?_
  exact gz_iret rfl dX9_size_4 (Nat.le_of_ble_eq_true rfl) (Nat.le_of_ble_eq_true rfl) (⟨_, rfl, rfl, rfl⟩)

set_option maxHeartbeats 4000000 in
set_option maxRecDepth 100000 in
theorem k_X9_at {l : Launch} {D : va_G} {cy : Nat → ClassId} {b : Nat} {f : gMem} {a c n : Nat} {len : Int32} {g : Nat → Int32} {i : Int32} (ha : f a = some (.inr (9, [.ref c, .int len]))) (hc : f c = some (.inl (cy 1, n, .inl (g)))) (hn : n < 2 ^ 31) : gC l D cy b yX9_at cX9_at 2 (some .int) 0 0 0 [.ref a, .int i] f (pI fun v f2 => v = tAt len n g i ∧ f2 = f) := by
  refine gC_of (by decide) (Nat.le_of_ble_eq_true rfl) ?_
  show gG l _ _ _ D cy b cX9_at 2 _ RX9 "at" 0 0 f 0 [(0, .ref a), (1, .int i)] []
  refine gz_iload_n dX9_at_0 rfl rfl ?_
  refine gz_if_lt (tgt := 34) dX9_at_1 (by decide) (fun c_1 => ?_) (fun c_1 => ?_)
  ·
    refine gz_iconst (v := (-1)) dX9_at_34 (by decide) ?_
    exact gz_iret rfl dX9_at_35 (Nat.le_of_ble_eq_true rfl) (Nat.le_of_ble_eq_true rfl) (⟨_, rfl, by simp [tAt, c_1], rfl⟩)
  ·
    refine gz_iload_n dX9_at_4 rfl rfl ?_
    refine gz_aload_n dX9_at_5 rfl rfl ?_
    refine sgX9_21 ha rfl dX9_at_6 ?_
    refine gz_icmp_ge (tgt := 34) dX9_at_9 (by decide) (fun c_9 => ?_) (fun c_9 => ?_)
    ·
      refine gz_iconst (v := (-1)) dX9_at_34 (by decide) ?_
      exact gz_iret rfl dX9_at_35 (Nat.le_of_ble_eq_true rfl) (Nat.le_of_ble_eq_true rfl) (⟨_, rfl, by simp [tAt, c_1, c_9], rfl⟩)
    ·
      refine gz_iload_n dX9_at_12 rfl rfl ?_
      refine gz_aload_n dX9_at_13 rfl rfl ?_
      refine sgX9_15 ha rfl dX9_at_14 ?_
      refine gz_alen1 (v := Int32.ofNat n) hc rfl dX9_at_17 ?_
      refine gz_icmp_ge (tgt := 34) dX9_at_18 (by decide) (fun c_18 => ?_) (fun c_18 => ?_)
      ·
        refine gz_iconst (v := (-1)) dX9_at_34 (by decide) ?_
        exact gz_iret rfl dX9_at_35 (Nat.le_of_ble_eq_true rfl) (Nat.le_of_ble_eq_true rfl) (⟨_, rfl, by simp [tAt, c_1, c_9, c_18], rfl⟩)
      ·
        refine gz_aload_n dX9_at_21 rfl rfl ?_
        refine sgX9_15 ha rfl dX9_at_22 ?_
        refine gz_iload_n dX9_at_25 rfl rfl ?_
        refine gz_bald hc (vin c_1 c_18 (ofN_toInt hn)) dX9_at_26 ?_
        refine gz_sipush (v := 255) dX9_at_27 (by decide) ?_
        refine gz_iand dX9_at_30 ?_
        refine gz_goto (tgt := 35) dX9_at_31 (by decide) ?_
        exact gz_iret rfl dX9_at_35 (Nat.le_of_ble_eq_true rfl) (Nat.le_of_ble_eq_true rfl) (⟨_, rfl, by simp [tAt, c_1, c_9, c_18], rfl⟩)

set_option maxHeartbeats 4000000 in
set_option maxRecDepth 100000 in
theorem k_X9_put {l : Launch} {D : va_G} {cy : Nat → ClassId} {b : Nat} {f : gMem} {a c n : Nat} {len : Int32} {g : Nat → Int32} {x : Int32} (ha : f a = some (.inr (9, [.ref c, .int len]))) (hc : f c = some (.inl (cy 1, n, .inl (g)))) (hn : n < 2 ^ 31) : gC l D cy b yX9_put cX9_put 2 none 0 0 0 [.ref a, .int x] f (pV fun f2 => f2 a = some (.inr (9, [.ref c, .int (tpL len n)])) ∧ f2 c = some (.inl (cy 1, n, .inl (tpG len n g x))) ∧ fr [a, c] f f2) := by
  refine gC_of (by decide) (Nat.le_of_ble_eq_true rfl) ?_
  show gG l _ _ _ D cy b cX9_put 2 _ RX9 "put" 0 0 f 0 [(0, .ref a), (1, .int x)] []
  refine gz_aload_n dX9_put_0 rfl rfl ?_
  refine sgX9_21 ha rfl dX9_put_1 ?_
  refine gz_if_lt (tgt := 40) dX9_put_4 (by decide) (fun c_4 => ?_) (fun c_4 => ?_)
  ·
    exact gz_vret rfl dX9_put_40 (Nat.le_of_ble_eq_true rfl) (Nat.le_of_ble_eq_true rfl) (⟨rfl, by simp [tpL, c_4]; exact ha, by simp [tpG, c_4]; exact hc, fr_rf⟩)
  ·
    refine gz_aload_n dX9_put_7 rfl rfl ?_
    refine sgX9_21 ha rfl dX9_put_8 ?_
    refine gz_aload_n dX9_put_11 rfl rfl ?_
    refine sgX9_15 ha rfl dX9_put_12 ?_
    refine gz_alen1 (v := Int32.ofNat n) hc rfl dX9_put_15 ?_
    refine gz_icmp_ge (tgt := 40) dX9_put_16 (by decide) (fun c_16 => ?_) (fun c_16 => ?_)
    ·
      exact gz_vret rfl dX9_put_40 (Nat.le_of_ble_eq_true rfl) (Nat.le_of_ble_eq_true rfl) (⟨rfl, by simp [tpL, c_4, c_16]; exact ha, by simp [tpG, c_4, c_16]; exact hc, fr_rf⟩)
    ·
      refine gz_aload_n dX9_put_19 rfl rfl ?_
      refine sgX9_15 ha rfl dX9_put_20 ?_
      refine gz_aload_n dX9_put_23 rfl rfl ?_
      refine sgX9_21 ha rfl dX9_put_24 ?_
      refine gz_iload_n dX9_put_27 rfl rfl ?_
      refine gz_i2b dX9_put_28 ?_
      refine gz_bast hc (vin c_4 c_16 (ofN_toInt hn)) dX9_put_29 ?_
      obtain ⟨f1, hf1⟩ : ∃ gg : gMem, gg = va_up f c (some (.inl (cy 1, n, .inl (upd g (Int32.toNatClampNeg len) (vp_nar .byte x.toInt8.toInt32))))) := ⟨_, rfl⟩
      refine gz_eq (f2 := f1) hf1.symm rfl rfl rfl ?_
      have ha_1 : f1 a = some (.inr (9, [.ref c, .int len])) := by rw [hf1, va_up_ne _ _ (cne ha hc (by simp))]; exact ha
      have hc_1 : f1 c = some (.inl (cy 1, n, .inl (upd g (Int32.toNatClampNeg len) (vp_nar .byte x.toInt8.toInt32)))) := by rw [hf1]; exact va_up_self _ _ _
      refine gz_aload_n dX9_put_30 rfl rfl ?_
      refine gz_dup dX9_put_31 rfl ?_
      refine sgX9_21 ha_1 rfl dX9_put_32 ?_
      refine gz_iconst (v := 1) dX9_put_35 (by decide) ?_
      refine gz_iadd dX9_put_36 ?_
      refine spX9_21 ha_1  (Nat.le_of_ble_eq_true rfl) dX9_put_37 ?_
      obtain ⟨f2, hf2⟩ : ∃ gg : gMem, gg = va_up f1 a (some (.inr (9, [.ref c, .int (len + 1)]))) := ⟨_, rfl⟩
      refine gz_eq (f2 := f2) hf2.symm rfl rfl rfl ?_
      have hc_2 : f2 c = some (.inl (cy 1, n, .inl (upd g (Int32.toNatClampNeg len) (vp_nar .byte x.toInt8.toInt32)))) := by rw [hf2, va_up_ne _ _ (cne hc_1 ha_1 (by simp))]; exact hc_1
      have ha_2 : f2 a = some (.inr (9, [.ref c, .int (len + 1)])) := by rw [hf2]; exact va_up_self _ _ _
      exact gz_vret rfl dX9_put_40 (Nat.le_of_ble_eq_true rfl) (Nat.le_of_ble_eq_true rfl) (⟨rfl, by simp [tpL, c_4, c_16]; exact ha_2, by simp [tpG, c_4, c_16]; exact hc_2, by rw [hf2, hf1]; exact fr_up (fr_up fr_rf (by simp)) (by simp)⟩)

set_option maxHeartbeats 4000000 in
set_option maxRecDepth 100000 in
theorem k_X9_putNumber {l : Launch} {D : va_G} {cy : Nat → ClassId} {b : Nat} {f : gMem} {a c n : Nat} {len : Int32} {g : Nat → Int32} {x : Int32} (ha : f a = some (.inr (9, [.ref c, .int len]))) (hc : f c = some (.inl (cy 1, n, .inl (g)))) (hn : n < 2 ^ 31) : gC l D cy b yX9_putNumber cX9_putNumber 3 none 1 0 0 [.ref a, .int x] f (pV fun f2 => (∃ g2, f2 a = some (.inr (9, [.ref c, .int (tpL (tpL (tpL (tpL len n) n) n) n)])) ∧ f2 c = some (.inl (cy 1, n, .inl g2))) ∧ fr [a, c] f f2) := by
  refine gC_of (by decide) (Nat.le_of_ble_eq_true rfl) ?_
  show gG l _ _ _ D cy b cX9_putNumber 3 _ RX9 "putNumber" 0 0 f 0 [(0, .ref a), (1, .int x)] []
  refine gz_bipush (v := 24) dX9_putNumber_0 (by decide) ?_
  refine gz_istore_n (lv' := [(2, .int 24), (0, .ref a), (1, .int x)]) dX9_putNumber_2 rfl (by decide) rfl ?_
  refine gz_iload_n dX9_putNumber_3 rfl rfl ?_
  refine gz_if_lt (tgt := 20) dX9_putNumber_4 (by decide) (fun c_4 => ?_) (fun c_4 => ?_)
  · exact absurd c_4 (by decide)
  ·
    refine gz_aload_n dX9_putNumber_7 rfl rfl ?_
    refine gz_iload_n dX9_putNumber_8 rfl rfl ?_
    refine gz_iload_n dX9_putNumber_9 rfl rfl ?_
    refine gz_ishr dX9_putNumber_10 ?_
    refine scX9_25 (k_X9_put ha hc hn) ha ⟨(Nat.le_of_ble_eq_true rfl), (Nat.le_of_ble_eq_true rfl)⟩ ⟨(Nat.le_of_ble_eq_true rfl), (Nat.le_of_ble_eq_true rfl)⟩ rfl rfl (Nat.le_of_ble_eq_true rfl) dX9_putNumber_11 ?_
    intro e1 z; obtain ⟨ha_e1, hc_e1, hr_e1⟩ := z
    refine gz_iinc (v := 16) (lv' := [(2, .int 16), (0, .ref a), (1, .int x)]) dX9_putNumber_14 rfl (by decide) (by decide) rfl ?_
    refine gz_goto (tgt := 3) dX9_putNumber_17 (by decide) ?_
    refine gz_iload_n dX9_putNumber_3 rfl rfl ?_
    refine gz_if_lt (tgt := 20) dX9_putNumber_4 (by decide) (fun c_4_1 => ?_) (fun c_4_1 => ?_)
    · exact absurd c_4_1 (by decide)
    ·
      refine gz_aload_n dX9_putNumber_7 rfl rfl ?_
      refine gz_iload_n dX9_putNumber_8 rfl rfl ?_
      refine gz_iload_n dX9_putNumber_9 rfl rfl ?_
      refine gz_ishr dX9_putNumber_10 ?_
      refine scX9_25 (k_X9_put ha_e1 hc_e1 hn) ha_e1 ⟨(Nat.le_of_ble_eq_true rfl), (Nat.le_of_ble_eq_true rfl)⟩ ⟨(Nat.le_of_ble_eq_true rfl), (Nat.le_of_ble_eq_true rfl)⟩ rfl rfl (Nat.le_of_ble_eq_true rfl) dX9_putNumber_11 ?_
      intro e2 z; obtain ⟨ha_e2, hc_e2, hr_e2⟩ := z
      refine gz_iinc (v := 8) (lv' := [(2, .int 8), (0, .ref a), (1, .int x)]) dX9_putNumber_14 rfl (by decide) (by decide) rfl ?_
      refine gz_goto (tgt := 3) dX9_putNumber_17 (by decide) ?_
      refine gz_iload_n dX9_putNumber_3 rfl rfl ?_
      refine gz_if_lt (tgt := 20) dX9_putNumber_4 (by decide) (fun c_4_2 => ?_) (fun c_4_2 => ?_)
      · exact absurd c_4_2 (by decide)
      ·
        refine gz_aload_n dX9_putNumber_7 rfl rfl ?_
        refine gz_iload_n dX9_putNumber_8 rfl rfl ?_
        refine gz_iload_n dX9_putNumber_9 rfl rfl ?_
        refine gz_ishr dX9_putNumber_10 ?_
        refine scX9_25 (k_X9_put ha_e2 hc_e2 hn) ha_e2 ⟨(Nat.le_of_ble_eq_true rfl), (Nat.le_of_ble_eq_true rfl)⟩ ⟨(Nat.le_of_ble_eq_true rfl), (Nat.le_of_ble_eq_true rfl)⟩ rfl rfl (Nat.le_of_ble_eq_true rfl) dX9_putNumber_11 ?_
        intro e3 z; obtain ⟨ha_e3, hc_e3, hr_e3⟩ := z
        refine gz_iinc (v := 0) (lv' := [(2, .int 0), (0, .ref a), (1, .int x)]) dX9_putNumber_14 rfl (by decide) (by decide) rfl ?_
        refine gz_goto (tgt := 3) dX9_putNumber_17 (by decide) ?_
        refine gz_iload_n dX9_putNumber_3 rfl rfl ?_
        refine gz_if_lt (tgt := 20) dX9_putNumber_4 (by decide) (fun c_4_3 => ?_) (fun c_4_3 => ?_)
        · exact absurd c_4_3 (by decide)
        ·
          refine gz_aload_n dX9_putNumber_7 rfl rfl ?_
          refine gz_iload_n dX9_putNumber_8 rfl rfl ?_
          refine gz_iload_n dX9_putNumber_9 rfl rfl ?_
          refine gz_ishr dX9_putNumber_10 ?_
          refine scX9_25 (k_X9_put ha_e3 hc_e3 hn) ha_e3 ⟨(Nat.le_of_ble_eq_true rfl), (Nat.le_of_ble_eq_true rfl)⟩ ⟨(Nat.le_of_ble_eq_true rfl), (Nat.le_of_ble_eq_true rfl)⟩ rfl rfl (Nat.le_of_ble_eq_true rfl) dX9_putNumber_11 ?_
          intro e4 z; obtain ⟨ha_e4, hc_e4, hr_e4⟩ := z
          refine gz_iinc (v := (-8)) (lv' := [(2, .int (-8)), (0, .ref a), (1, .int x)]) dX9_putNumber_14 rfl (by decide) (by decide) rfl ?_
          refine gz_goto (tgt := 3) dX9_putNumber_17 (by decide) ?_
          refine gz_iload_n dX9_putNumber_3 rfl rfl ?_
          refine gz_if_lt (tgt := 20) dX9_putNumber_4 (by decide) (fun c_4_4 => ?_) (fun c_4_4 => ?_)
          ·
            exact gz_vret rfl dX9_putNumber_20 (Nat.le_of_ble_eq_true rfl) (Nat.le_of_ble_eq_true rfl) (⟨rfl, ⟨_, ha_e4, hc_e4⟩, fr_tr (fr_tr (fr_tr hr_e1 hr_e2) hr_e3) hr_e4⟩)
          · exact absurd c_4_4 (by decide)

set_option maxHeartbeats 4000000 in
set_option maxRecDepth 100000 in
theorem k_X9_cut {l : Launch} {D : va_G} {cy : Nat → ClassId} {b : Nat} {f : gMem} {a c : Nat} {len x : Int32} (ha : f a = some (.inr (9, [.ref c, .int len])))  : gC l D cy b yX9_cut cX9_cut 2 none 0 0 0 [.ref a, .int x] f (pV fun f2 => f2 a = some (.inr (9, [.ref c, .int (tCut len x)])) ∧ fr [a] f f2) := by
  refine gC_of (by decide) (Nat.le_of_ble_eq_true rfl) ?_
  show gG l _ _ _ D cy b cX9_cut 2 _ RX9 "cut" 0 0 f 0 [(0, .ref a), (1, .int x)] []
  refine gz_iload_n dX9_cut_0 rfl rfl ?_
  refine gz_if_lt (tgt := 17) dX9_cut_1 (by decide) (fun c_1 => ?_) (fun c_1 => ?_)
  ·
    exact gz_vret rfl dX9_cut_17 (Nat.le_of_ble_eq_true rfl) (Nat.le_of_ble_eq_true rfl) (⟨rfl, by simp [tCut, c_1]; exact ha, fr_rf⟩)
  ·
    refine gz_iload_n dX9_cut_4 rfl rfl ?_
    refine gz_aload_n dX9_cut_5 rfl rfl ?_
    refine sgX9_21 ha rfl dX9_cut_6 ?_
    refine gz_icmp_gt (tgt := 17) dX9_cut_9 (by decide) (fun c_9 => ?_) (fun c_9 => ?_)
    ·
      exact gz_vret rfl dX9_cut_17 (Nat.le_of_ble_eq_true rfl) (Nat.le_of_ble_eq_true rfl) (⟨rfl, by simp [tCut, c_1, c_9]; exact ha, fr_rf⟩)
    ·
      refine gz_aload_n dX9_cut_12 rfl rfl ?_
      refine gz_iload_n dX9_cut_13 rfl rfl ?_
      refine spX9_21 ha  (Nat.le_of_ble_eq_true rfl) dX9_cut_14 ?_
      obtain ⟨f1, hf1⟩ : ∃ gg : gMem, gg = va_up f a (some (.inr (9, [.ref c, .int x]))) := ⟨_, rfl⟩
      refine gz_eq (f2 := f1) hf1.symm rfl rfl rfl ?_
      have ha_1 : f1 a = some (.inr (9, [.ref c, .int x])) := by rw [hf1]; exact va_up_self _ _ _
      exact gz_vret rfl dX9_cut_17 (Nat.le_of_ble_eq_true rfl) (Nat.le_of_ble_eq_true rfl) (⟨rfl, by simp [tCut, c_1, c_9]; exact ha_1, by rw [hf1]; exact fr_up fr_rf (by simp)⟩)
