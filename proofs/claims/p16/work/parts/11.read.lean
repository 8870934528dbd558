def tAt (len : Int32) (n : Nat) (g : Nat → Int32) (i : Int32) : Int32 := if i < 0 then -1 else if len ≤ i then -1 else if Int32.ofNat n ≤ i then -1 else g i.toNatClampNeg &&& 255
def tpL (len : Int32) (n : Nat) : Int32 := if len < 0 then len else if Int32.ofNat n ≤ len then len else len + 1
def tpG (len : Int32) (n : Nat) (g : Nat → Int32) (x : Int32) : Nat → Int32 := if len < 0 then g else if Int32.ofNat n ≤ len then g else upd g len.toNatClampNeg (vp_nar .byte x.toInt8.toInt32)
def tCut (len n : Int32) : Int32 := if n < 0 then len else if len < n then len else n

set_option maxHeartbeats 4000000 in
set_option maxRecDepth 100000 in
theorem k_X9_size {l : Launch} {D : va_G} {cy : Nat → ClassId} {b : Nat} {f : gMem} {a c : Nat} {len : Int32} (ha : f a = some (.inr (9, [.ref c, .int len])))  : gC l D cy b yX9_size cX9_size 1 (some .int) 0 0 0 [.ref a] f (pI fun v f2 => v = len ∧ f2 = f) := by
  refine gC_of (by decide) (Nat.le_of_ble_eq_true rfl) ?_
  show gG l _ _ _ D cy b cX9_size 1 _ RX9 "size" 0 0 f 0 [(0, .ref a)] []
  refine gz_aload_n dX9_size_0 rfl rfl ?_
  refine sgX9_21 ha rfl dX9_size_1 ?_
  exact gz_iret rfl dX9_size_4 (Nat.le_of_ble_eq_true rfl) (Nat.le_of_ble_eq_true rfl) (⟨_, rfl, rfl, rfl⟩)

set_option maxHeartbeats 4000000 in
set_option maxRecDepth 100000 in
theorem k_X9_at {l : Launch} {D : va_G} {cy : Nat → ClassId} {b : Nat} {f : gMem} {a c n : Nat} {len : Int32} {g : Nat → Int32} {i : Int32} (ha : f a = some (.inr (9, [.ref c, .int len]))) (hc : f c = some (.inl (cy 1, n, .inl (g)))) (hn : n < 2 ^ 31) : gC l D cy b yX9_at cX9_at 2 (some .int) 0 0 0 [.ref a, .int i] f (pI fun v f2 => v = tAt len n g i ∧ f2 = f) := by
  refine gC_of (by decide) (Nat.le_of_ble_eq_true rfl) ?_
  show gG l _ _ _ D cy b cX9_at 2 _ RX9 "at" 0 0 f 0 [(0, .ref a), (1, .int i)] []
  refine gz_iload_n dX9_at_0 rfl rfl ?_
  refine gz_if_lt (tgt := 34) dX9_at_1 (by decide) (fun c_1 => ?_) (fun c_1 => ?_)
  ·
    refine gz_iconst (v := (-1)) dX9_at_34 (by decide) ?_
    exact gz_iret rfl dX9_at_35 (Nat.le_of_ble_eq_true rfl) (Nat.le_of_ble_eq_true rfl) (⟨_, rfl, by simp [tAt, c_1], rfl⟩)
  ·
    refine gz_iload_n dX9_at_4 rfl rfl ?_
    refine gz_aload_n dX9_at_5 rfl rfl ?_
    refine sgX9_21 ha rfl dX9_at_6 ?_
    refine gz_icmp_ge (tgt := 34) dX9_at_9 (by decide) (fun c_9 => ?_) (fun c_9 => ?_)
    ·
      refine gz_iconst (v := (-1)) dX9_at_34 (by decide) ?_
      exact gz_iret rfl dX9_at_35 (Nat.le_of_ble_eq_true rfl) (Nat.le_of_ble_eq_true rfl) (⟨_, rfl, by simp [tAt, c_1, c_9], rfl⟩)
    ·
      refine gz_iload_n dX9_at_12 rfl rfl ?_
      refine gz_aload_n dX9_at_13 rfl rfl ?_
      refine sgX9_15 ha rfl dX9_at_14 ?_
      refine gz_alen1 (v := Int32.ofNat n) hc rfl dX9_at_17 ?_
      refine gz_icmp_ge (tgt := 34) dX9_at_18 (by decide) (fun c_18 => ?_) (fun c_18 => ?_)
      ·
        refine gz_iconst (v := (-1)) dX9_at_34 (by decide) ?_
        exact gz_iret rfl dX9_at_35 (Nat.le_of_ble_eq_true rfl) (Nat.le_of_ble_eq_true rfl) (⟨_, rfl, by simp [tAt, c_1, c_9, c_18], rfl⟩)
      ·
        refine gz_aload_n dX9_at_21 rfl rfl ?_
        refine sgX9_15 ha rfl dX9_at_22 ?_
        refine gz_iload_n dX9_at_25 rfl rfl ?_
        refine gz_bald hc (vin c_1 c_18 (ofN_toInt hn)) dX9_at_26 ?_
        refine gz_sipush (v := 255) dX9_at_27 (by decide) ?_
        refine gz_iand dX9_at_30 ?_
        refine gz_goto (tgt := 35) dX9_at_31 (by decide) ?_
        exact gz_iret rfl dX9_at_35 (Nat.le_of_ble_eq_true rfl) (Nat.le_of_ble_eq_true rfl) (⟨_, rfl, by simp [tAt, c_1, c_9, c_18], rfl⟩)

set_option maxHeartbeats 4000000 in
set_option maxRecDepth 100000 in
theorem k_X9_put {l : Launch} {D : va_G} {cy : Nat → ClassId} {b : Nat} {f : gMem} {a c n : Nat} {len : Int32} {g : Nat → Int32} {x : Int32} (ha : f a = some (.inr (9, [.ref c, .int len]))) (hc : f c = some (.inl (cy 1, n, .inl (g)))) (hn : n < 2 ^ 31) : gC l D cy b yX9_put cX9_put 2 none 0 0 0 [.ref a, .int x] f (pV fun f2 => f2 a = some (.inr (9, [.ref c, .int (tpL len n)])) ∧ f2 c = some (.inl (cy 1, n, .inl (tpG len n g x))) ∧ fr [a, c] f f2) := by
  refine gC_of (by decide) (Nat.le_of_ble_eq_true rfl) ?_
  show gG l _ _ _ D cy b cX9_put 2 _ RX9 "put" 0 0 f 0 [(0, .ref a), (1, .int x)] []
  refine gz_aload_n dX9_put_0 rfl rfl ?_
  refine sgX9_21 ha rfl dX9_put_1 ?_
  refine gz_if_lt (tgt := 40) dX9_put_4 (by decide) (fun c_4 => ?_) (fun c_4 => ?_)
  ·
    exact gz_vret rfl dX9_put_40 (Nat.le_of_ble_eq_true rfl) (Nat.le_of_ble_eq_true rfl) (⟨rfl, by simp [tpL, c_4]; exact ha, by simp [tpG, c_4]; exact hc, fr_rf⟩)
  ·
    refine gz_aload_n dX9_put_7 rfl rfl ?_
    refine sgX9_21 ha rfl dX9_put_8 ?_
    refine gz_aload_n dX9_put_11 rfl rfl ?_
    refine sgX9_15 ha rfl dX9_put_12 ?_
    refine gz_alen1 (v := Int32.ofNat n) hc rfl dX9_put_15 ?_
    refine gz_icmp_ge (tgt := 40) dX9_put_16 (by decide) (fun c_16 => ?_) (fun c_16 => ?_)
    ·
      exact gz_vret rfl dX9_put_40 (Nat.le_of_ble_eq_true rfl) (Nat.le_of_ble_eq_true rfl) (⟨rfl, by simp [tpL, c_4, c_16]; exact ha, by simp [tpG, c_4, c_16]; exact hc, fr_rf⟩)
    ·
      refine gz_aload_n dX9_put_19 rfl rfl ?_
      refine sgX9_15 ha rfl dX9_put_20 ?_
      refine gz_aload_n dX9_put_23 rfl rfl ?_
      refine sgX9_21 ha rfl dX9_put_24 ?_
      refine gz_iload_n dX9_put_27 rfl rfl ?_
      refine gz_i2b dX9_put_28 ?_
      refine gz_bast hc (vin c_4 c_16 (ofN_toInt hn)) dX9_put_29 ?_
      obtain ⟨f1, hf1⟩ : ∃ gg : gMem, gg = va_up f c (some (.inl (cy 1, n, .inl (upd g (Int32.toNatClampNeg len) (vp_nar .byte x.toInt8.toInt32))))) := ⟨_, rfl⟩
      refine gz_eq (f2 := f1) hf1.symm rfl rfl rfl ?_
      have ha_1 : f1 a = some (.inr (9, [.ref c, .int len])) := by rw [hf1, va_up_ne _ _ (cne ha hc (by simp))]; exact ha
      have hc_1 : f1 c = some (.inl (cy 1, n, .inl (upd g (Int32.toNatClampNeg len) (vp_nar .byte x.toInt8.toInt32)))) := by rw [hf1]; exact va_up_self _ _ _
      refine gz_aload_n dX9_put_30 rfl rfl ?_
      refine gz_dup dX9_put_31 rfl ?_
      refine sgX9_21 ha_1 rfl dX9_put_32 ?_
      refine gz_iconst (v := 1) dX9_put_35 (by decide) ?_
      refine gz_iadd dX9_put_36 ?_
      refine spX9_21 ha_1  (Nat.le_of_ble_eq_true rfl) dX9_put_37 ?_
      obtain ⟨f2, hf2⟩ : ∃ gg : gMem, gg = va_up f1 a (some (.inr (9, [.ref c, .int (len + 1)]))) := ⟨_, rfl⟩
      refine gz_eq (f2 := f2) hf2.symm rfl rfl rfl ?_
      have hc_2 : f2 c = some (.inl (cy 1, n, .inl (upd g (Int32.toNatClampNeg len) (vp_nar .byte x.toInt8.toInt32)))) := by rw [hf2, va_up_ne _ _ (cne hc_1 ha_1 (by simp))]; exact hc_1
      have ha_2 : f2 a = some (.inr (9, [.ref c, .int (len + 1)])) := by rw [hf2]; exact va_up_self _ _ _
      exact gz_vret rfl dX9_put_40 (Nat.le_of_ble_eq_true rfl) (Nat.le_of_ble_eq_true rfl) (⟨rfl, by simp [tpL, c_4, c_16]; exact ha_2, by simp [tpG, c_4, c_16]; exact hc_2, by rw [hf2, hf1]; exact fr_up (fr_up fr_rf (by simp)) (by simp)⟩)

set_option maxHeartbeats 4000000 in
set_option maxRecDepth 100000 in
theorem k_X9_putNumber {l : Launch} {D : va_G} {cy : Nat → ClassId} {b : Nat} {f : gMem} {a c n : Nat} {len : Int32} {g : Nat → Int32} {x : Int32} (ha : f a = some (.inr (9, [.ref c, .int len]))) (hc : f c = some (.inl (cy 1, n, .inl (g)))) (hn : n < 2 ^ 31) : gC l D cy b yX9_putNumber cX9_putNumber 3 none 1 0 0 [.ref a, .int x] f (pV fun f2 => (∃ g2, f2 a = some (.inr (9, [.ref c, .int (tpL (tpL (tpL (tpL len n) n) n) n)])) ∧ f2 c = some (.inl (cy 1, n, .inl g2))) ∧ fr [a, c] f f2) := by
  refine gC_of (by decide) (Nat.le_of_ble_eq_true rfl) ?_
  show gG l _ _ _ D cy b cX9_putNumber 3 _ RX9 "putNumber" 0 0 f 0 [(0, .ref a), (1, .int x)] []
  refine gz_bipush (v := 24) dX9_putNumber_0 (by decide) ?_
  refine gz_istore_n (lv' := [(2, .int 24), (0, .ref a), (1, .int x)]) dX9_putNumber_2 rfl (by decide) rfl ?_
  refine gz_iload_n dX9_putNumber_3 rfl rfl ?_
  refine gz_if_lt (tgt := 20) dX9_putNumber_4 (by decide) (fun c_4 => ?_) (fun c_4 => ?_)
  · exact absurd c_4 (by decide)
  ·
    refine gz_aload_n dX9_putNumber_7 rfl rfl ?_
    refine gz_iload_n dX9_putNumber_8 rfl rfl ?_
    refine gz_iload_n dX9_putNumber_9 rfl rfl ?_
    refine gz_ishr dX9_putNumber_10 ?_
    refine scX9_25 (k_X9_put ha hc hn) ha ⟨(Nat.le_of_ble_eq_true rfl), (Nat.le_of_ble_eq_true rfl)⟩ ⟨(Nat.le_of_ble_eq_true rfl), (Nat.le_of_ble_eq_true rfl)⟩ rfl rfl (Nat.le_of_ble_eq_true rfl) dX9_putNumber_11 ?_
    intro e1 z; obtain ⟨ha_e1, hc_e1, hr_e1⟩ := z
    refine gz_iinc (v := 16) (lv' := [(2, .int 16), (0, .ref a), (1, .int x)]) dX9_putNumber_14 rfl (by decide) (by decide) rfl ?_
    refine gz_goto (tgt := 3) dX9_putNumber_17 (by decide) ?_
    refine gz_iload_n dX9_putNumber_3 rfl rfl ?_
    refine gz_if_lt (tgt := 20) dX9_putNumber_4 (by decide) (fun c_4_1 => ?_) (fun c_4_1 => ?_)
    · exact absurd c_4_1 (by decide)
    ·
      refine gz_aload_n dX9_putNumber_7 rfl rfl ?_
      refine gz_iload_n dX9_putNumber_8 rfl rfl ?_
      refine gz_iload_n dX9_putNumber_9 rfl rfl ?_
      refine gz_ishr dX9_putNumber_10 ?_
      refine scX9_25 (k_X9_put ha_e1 hc_e1 hn) ha_e1 ⟨(Nat.le_of_ble_eq_true rfl), (Nat.le_of_ble_eq_true rfl)⟩ ⟨(Nat.le_of_ble_eq_true rfl), (Nat.le_of_ble_eq_true rfl)⟩ rfl rfl (Nat.le_of_ble_eq_true rfl) dX9_putNumber_11 ?_
      intro e2 z; obtain ⟨ha_e2, hc_e2, hr_e2⟩ := z
      refine gz_iinc (v := 8) (lv' := [(2, .int 8), (0, .ref a), (1, .int x)]) dX9_putNumber_14 rfl (by decide) (by decide) rfl ?_
      refine gz_goto (tgt := 3) dX9_putNumber_17 (by decide) ?_
      refine gz_iload_n dX9_putNumber_3 rfl rfl ?_
      refine gz_if_lt (tgt := 20) dX9_putNumber_4 (by decide) (fun c_4_2 => ?_) (fun c_4_2 => ?_)
      · exact absurd c_4_2 (by decide)
      ·
        refine gz_aload_n dX9_putNumber_7 rfl rfl ?_
        refine gz_iload_n dX9_putNumber_8 rfl rfl ?_
        refine gz_iload_n dX9_putNumber_9 rfl rfl ?_
        refine gz_ishr dX9_putNumber_10 ?_
        refine scX9_25 (k_X9_put ha_e2 hc_e2 hn) ha_e2 ⟨(Nat.le_of_ble_eq_true rfl), (Nat.le_of_ble_eq_true rfl)⟩ ⟨(Nat.le_of_ble_eq_true rfl), (Nat.le_of_ble_eq_true rfl)⟩ rfl rfl (Nat.le_of_ble_eq_true rfl) dX9_putNumber_11 ?_
        intro e3 z; obtain ⟨ha_e3, hc_e3, hr_e3⟩ := z
        refine gz_iinc (v := 0) (lv' := [(2, .int 0), (0, .ref a), (1, .int x)]) dX9_putNumber_14 rfl (by decide) (by decide) rfl ?_
        refine gz_goto (tgt := 3) dX9_putNumber_17 (by decide) ?_
        refine gz_iload_n dX9_putNumber_3 rfl rfl ?_
        refine gz_if_lt (tgt := 20) dX9_putNumber_4 (by decide) (fun c_4_3 => ?_) (fun c_4_3 => ?_)
        · exact absurd c_4_3 (by decide)
        ·
          refine gz_aload_n dX9_putNumber_7 rfl rfl ?_
          refine gz_iload_n dX9_putNumber_8 rfl rfl ?_
          refine gz_iload_n dX9_putNumber_9 rfl rfl ?_
          refine gz_ishr dX9_putNumber_10 ?_
          refine scX9_25 (k_X9_put ha_e3 hc_e3 hn) ha_e3 ⟨(Nat.le_of_ble_eq_true rfl), (Nat.le_of_ble_eq_true rfl)⟩ ⟨(Nat.le_of_ble_eq_true rfl), (Nat.le_of_ble_eq_true rfl)⟩ rfl rfl (Nat.le_of_ble_eq_true rfl) dX9_putNumber_11 ?_
          intro e4 z; obtain ⟨ha_e4, hc_e4, hr_e4⟩ := z
          refine gz_iinc (v := (-8)) (lv' := [(2, .int (-8)), (0, .ref a), (1, .int x)]) dX9_putNumber_14 rfl (by decide) (by decide) rfl ?_
          refine gz_goto (tgt := 3) dX9_putNumber_17 (by decide) ?_
          refine gz_iload_n dX9_putNumber_3 rfl rfl ?_
          refine gz_if_lt (tgt := 20) dX9_putNumber_4 (by decide) (fun c_4_4 => ?_) (fun c_4_4 => ?_)
          ·
            exact gz_vret rfl dX9_putNumber_20 (Nat.le_of_ble_eq_true rfl) (Nat.le_of_ble_eq_true rfl) (⟨rfl, ⟨_, ha_e4, hc_e4⟩, fr_tr (fr_tr (fr_tr hr_e1 hr_e2) hr_e3) hr_e4⟩)
          · exact absurd c_4_4 (by decide)

set_option maxHeartbeats 4000000 in
set_option maxRecDepth 100000 in
theorem k_X9_cut {l : Launch} {D : va_G} {cy : Nat → ClassId} {b : Nat} {f : gMem} {a c : Nat} {len x : Int32} (ha : f a = some (.inr (9, [.ref c, .int len])))  : gC l D cy b yX9_cut cX9_cut 2 none 0 0 0 [.ref a, .int x] f (pV fun f2 => f2 a = some (.inr (9, [.ref c, .int (tCut len x)])) ∧ fr [a] f f2) := by
  refine gC_of (by decide) (Nat.le_of_ble_eq_true rfl) ?_
  show gG l _ _ _ D cy b cX9_cut 2 _ RX9 "cut" 0 0 f 0 [(0, .ref a), (1, .int x)] []
  refine gz_iload_n dX9_cut_0 rfl rfl ?_
  refine gz_if_lt (tgt := 17) dX9_cut_1 (by decide) (fun c_1 => ?_) (fun c_1 => ?_)
  ·
    exact gz_vret rfl dX9_cut_17 (Nat.le_of_ble_eq_true rfl) (Nat.le_of_ble_eq_true rfl) (⟨rfl, by simp [tCut, c_1]; exact ha, fr_rf⟩)
  ·
    refine gz_iload_n dX9_cut_4 rfl rfl ?_
    refine gz_aload_n dX9_cut_5 rfl rfl ?_
    refine sgX9_21 ha rfl dX9_cut_6 ?_
    refine gz_icmp_gt (tgt := 17) dX9_cut_9 (by decide) (fun c_9 => ?_) (fun c_9 => ?_)
    ·
      exact gz_vret rfl dX9_cut_17 (Nat.le_of_ble_eq_true rfl) (Nat.le_of_ble_eq_true rfl) (⟨rfl, by simp [tCut, c_1, c_9]; exact ha, fr_rf⟩)
    ·
      refine gz_aload_n dX9_cut_12 rfl rfl ?_
      refine gz_iload_n dX9_cut_13 rfl rfl ?_
      refine spX9_21 ha  (Nat.le_of_ble_eq_true rfl) dX9_cut_14 ?_
      obtain ⟨f1, hf1⟩ : ∃ gg : gMem, gg = va_up f a (some (.inr (9, [.ref c, .int x]))) := ⟨_, rfl⟩
      refine gz_eq (f2 := f1) hf1.symm rfl rfl rfl ?_
      have ha_1 : f1 a = some (.inr (9, [.ref c, .int x])) := by rw [hf1]; exact va_up_self _ _ _
      exact gz_vret rfl dX9_cut_17 (Nat.le_of_ble_eq_true rfl) (Nat.le_of_ble_eq_true rfl) (⟨rfl, by simp [tCut, c_1, c_9]; exact ha_1, by rw [hf1]; exact fr_up fr_rf (by simp)⟩)

def cpyL (db : Int32) (u : Nat → Int32) : Nat → (Int32) → (Nat → Int32) → (Int32) → (Nat → Int32) × (Int32)
  | 0, _, t, da => (t, da)
  | k + 1, i, t, da => (if 6 ≤ (i : Int32) then ((t), db) else (cpyL db u k (i + 1) (upd t (Int32.toNatClampNeg i) (u (Int32.toNatClampNeg i))) da))
set_option maxHeartbeats 4000000 in
set_option maxRecDepth 100000 in
theorem l_X7_copyFrom {l : Launch} {D : va_G} {cy : Nat → ClassId} {b mc ms : Nat} {f : gMem} {Po : Option Value → gMem → Prop} {sa ta sb tb : Nat} {db : Int32} {u : Nat → Int32}  (hne : ta ≠ tb ∧ sa ≠ sb) : ∀ (k : Nat) (i : Int32) (t : Nat → Int32) (da : Int32) (fm : gMem), fr [ta, sa] f fm → (fm sa = some (.inr (7, [.ref ta, .int da]))) → (fm ta = some (.inl (cy 0, 6, .inl (t)))) → (fm sb = some (.inr (7, [.ref tb, .int db]))) → (fm tb = some (.inl (cy 0, 6, .inl (u)))) → (0 ≤ i.toInt ∧ i.toInt ≤ 6 ∧ i.toInt + (k : Int) = 7) → (∀ (f2 : gMem), f2 ta = some (.inl (cy 0, 6, .inl ((cpyL db u k i t da).1))) → f2 sa = some (.inr (7, [.ref ta, .int (cpyL db u k i t da).2])) → fr [ta, sa] f f2 → Po none f2) → gG l (gRm 0 mc ms) (gQf D b Po mc ms) gTt D cy b cX7_copyFrom 3 none RX7 "copyFrom" 0 0 fm 2 [(2, .int i), (0, .ref sa), (1, .ref sb)] [] := by
  intro k
  induction k with
  | zero =>
    intro i t da fm hfr hsa hta hsb htb hk hq
    exfalso; omega
  | succ k ih =>
    intro i t da fm hfr hsa hta hsb htb hk hq
    refine gz_iload_n dX7_copyFrom_2 rfl rfl ?_
    refine gz_bipush (v := 6) dX7_copyFrom_3 (by decide) ?_
    refine gz_icmp_ge (tgt := 26) dX7_copyFrom_5 (by decide) (fun c_5 => ?_) (fun c_5 => ?_)
    ·
      refine gz_aload_n dX7_copyFrom_26 rfl rfl ?_
      refine gz_aload_n dX7_copyFrom_27 rfl rfl ?_
      refine sgX7_15 hsb rfl dX7_copyFrom_28 ?_
      refine spX7_15 hsa  (Nat.le_of_ble_eq_true rfl) dX7_copyFrom_31 ?_
      obtain ⟨f1, hf1⟩ : ∃ gg : gMem, gg = va_up fm sa (some (.inr (7, [.ref ta, .int db]))) := ⟨_, rfl⟩
      refine gz_eq (f2 := f1) hf1.symm rfl rfl rfl ?_
      have hta_1 : f1 ta = some (.inl (cy 0, 6, .inl (t))) := by rw [hf1, va_up_ne _ _ (cne hta hsa (by simp))]; exact hta
      have hsb_1 : f1 sb = some (.inr (7, [.ref tb, .int db])) := by rw [hf1, va_up_ne _ _ (Ne.symm (hne.2))]; exact hsb
      have htb_1 : f1 tb = some (.inl (cy 0, 6, .inl (u))) := by rw [hf1, va_up_ne _ _ (cne htb hsa (by simp))]; exact htb
      have hsa_1 : f1 sa = some (.inr (7, [.ref ta, .int db])) := by rw [hf1]; exact va_up_self _ _ _
      exact gz_vret rfl dX7_copyFrom_34 (Nat.zero_le _) (Nat.zero_le _) ((by rw [cpyL, if_pos c_5] at hq; exact hq _ hta_1 hsa_1 (by rw [hf1]; exact fr_up hfr (by simp))))
    ·
      refine gz_aload_n dX7_copyFrom_8 rfl rfl ?_
      refine sgX7_9 hsa rfl dX7_copyFrom_9 ?_
      refine gz_iload_n dX7_copyFrom_12 rfl rfl ?_
      refine gz_aload_n dX7_copyFrom_13 rfl rfl ?_
      refine sgX7_9 hsb rfl dX7_copyFrom_14 ?_
      refine gz_iload_n dX7_copyFrom_17 rfl rfl ?_
      refine gz_iald htb ((by have e13 : (13 : Int32).toInt = 13 := rfl; have e0 : (0 : Int32).toInt = 0 := rfl; have e2 : (2 : Int32).toInt = 2 := rfl; have e1 : (1 : Int32).toInt = 1 := rfl; have e6 : (6 : Int32).toInt = 6 := rfl; have em2 : (-2 : Int32).toInt = -2 := rfl; have e6 : (6 : Int32).toInt = 6 := rfl; simp only [fl_le] at c_5; exact vin_T (rfl : i.toInt = i.toInt) (by omega) (by omega))) dX7_copyFrom_18 ?_
      refine gz_iast hta ((by have e13 : (13 : Int32).toInt = 13 := rfl; have e0 : (0 : Int32).toInt = 0 := rfl; have e2 : (2 : Int32).toInt = 2 := rfl; have e1 : (1 : Int32).toInt = 1 := rfl; have e6 : (6 : Int32).toInt = 6 := rfl; have em2 : (-2 : Int32).toInt = -2 := rfl; have e6 : (6 : Int32).toInt = 6 := rfl; simp only [fl_le] at c_5; exact vin_T (rfl : i.toInt = i.toInt) (by omega) (by omega))) dX7_copyFrom_19 ?_
      obtain ⟨f2, hf2⟩ : ∃ gg : gMem, gg = va_up fm ta (some (.inl (cy 0, 6, .inl (upd t (Int32.toNatClampNeg i) (u (Int32.toNatClampNeg i)))))) := ⟨_, rfl⟩
      refine gz_eq (f2 := f2) hf2.symm rfl rfl rfl ?_
      have hsa_2 : f2 sa = some (.inr (7, [.ref ta, .int da])) := by rw [hf2, va_up_ne _ _ (cne hsa hta (by simp))]; exact hsa
      have hsb_2 : f2 sb = some (.inr (7, [.ref tb, .int db])) := by rw [hf2, va_up_ne _ _ (cne hsb hta (by simp))]; exact hsb
      have htb_2 : f2 tb = some (.inl (cy 0, 6, .inl (u))) := by rw [hf2, va_up_ne _ _ (Ne.symm (hne.1))]; exact htb
      have hta_2 : f2 ta = some (.inl (cy 0, 6, .inl (upd t (Int32.toNatClampNeg i) (u (Int32.toNatClampNeg i))))) := by rw [hf2]; exact va_up_self _ _ _
      refine gz_iinc (v := (i + 1)) (lv' := [(2, .int (i + 1)), (0, .ref sa), (1, .ref sb)]) dX7_copyFrom_20 rfl rfl (by decide) rfl ?_
      refine gz_goto (tgt := 2) dX7_copyFrom_23 (by decide) ?_
      refine gz_sub (lv' := [(2, .int (i + 1)), (0, .ref sa), (1, .ref sb)]) (by simp [List.lookup]) ?_
      exact ih (i + 1) (upd t (Int32.toNatClampNeg i) (u (Int32.toNatClampNeg i))) da _ (by rw [hf2]; exact fr_up hfr (by simp)) hsa_2 hta_2 hsb_2 htb_2 (by have e13 : (13 : Int32).toInt = 13 := rfl; have e0 : (0 : Int32).toInt = 0 := rfl; have e2 : (2 : Int32).toInt = 2 := rfl; have e1 : (1 : Int32).toInt = 1 := rfl; have e6 : (6 : Int32).toInt = 6 := rfl; have em2 : (-2 : Int32).toInt = -2 := rfl; have e6 : (6 : Int32).toInt = 6 := rfl; simp only [fl_le] at c_5; have hx := T_add (rfl : i.toInt = i.toInt) e1 (by omega); omega) (by rw [cpyL, if_neg c_5] at hq; exact hq)

def cpyF (db : Int32) (u t : Nat → Int32) (da : Int32) : (Nat → Int32) × (Int32) := (cpyL db u 7 0 (t) da)
set_option maxHeartbeats 4000000 in
set_option maxRecDepth 100000 in
theorem k_X7_copyFrom {l : Launch} {D : va_G} {cy : Nat → ClassId} {b : Nat} {f : gMem} {sa ta sb tb : Nat} {da db : Int32} {t u : Nat → Int32} (hsa : f sa = some (.inr (7, [.ref ta, .int da]))) (hta : f ta = some (.inl (cy 0, 6, .inl (t)))) (hsb : f sb = some (.inr (7, [.ref tb, .int db]))) (htb : f tb = some (.inl (cy 0, 6, .inl (u)))) (hne : ta ≠ tb ∧ sa ≠ sb) : gC l D cy b yX7_copyFrom cX7_copyFrom 3 none 0 0 0 [.ref sa, .ref sb] f (pV fun f2 => f2 ta = some (.inl (cy 0, 6, .inl ((cpyF db u t da).1))) ∧ f2 sa = some (.inr (7, [.ref ta, .int (cpyF db u t da).2])) ∧ fr [ta, sa] f f2) := by
  refine gC_of (by decide) (Nat.le_of_ble_eq_true rfl) ?_
  show gG l _ _ _ D cy b cX7_copyFrom 3 _ RX7 "copyFrom" 0 0 f 0 [(0, .ref sa), (1, .ref sb)] []
  refine gz_iconst (v := 0) dX7_copyFrom_0 (by decide) ?_
  refine gz_istore_n (lv' := [(2, .int 0), (0, .ref sa), (1, .ref sb)]) dX7_copyFrom_1 rfl (by decide) rfl ?_
  exact l_X7_copyFrom hne 7 0 (t) da _ fr_rf hsa hta hsb htb (⟨by decide, by decide, by decide⟩) (fun  f2 z0 z1 zf => ⟨rfl, (by rw [(show cpyF db u t da = _ from (by unfold cpyF; rfl))]; exact z0), (by rw [(show cpyF db u t da = _ from (by unfold cpyF; rfl))]; exact z1), zf⟩)

def housF (x : Int32) : Int32 := (if (x : Int32) < 0 then 0 else (if 8 ≤ (x : Int32) then 0 else 1))
set_option maxHeartbeats 4000000 in
set_option maxRecDepth 100000 in
theorem k_X11_isHouse {l : Launch} {D : va_G} {cy : Nat → ClassId} {b : Nat} {f : gMem} {x : Int32}   : gC l D cy b yX11_isHouse cX11_isHouse 1 (some .boolean) 0 0 0 [.int x] f (pI fun r f2 => r = housF x ∧ f2 = f) := by
  refine gC_of (by decide) (Nat.le_of_ble_eq_true rfl) ?_
  show gG l _ _ _ D cy b cX11_isHouse 1 _ RX11 "isHouse" 0 0 f 0 [(0, .int x)] []
  refine gz_iload_n dX11_isHouse_0 rfl rfl ?_
  refine gz_if_lt (tgt := 14) dX11_isHouse_1 (by decide) (fun c_1 => ?_) (fun c_1 => ?_)
  ·
    refine gz_iconst (v := 0) dX11_isHouse_14 (by decide) ?_
    exact gz_zret rfl (by first | decide | exact nrb (Or.inl rfl) | (refine nrb ?_; (repeat' split) <;> first | assumption | exact Or.inl rfl | exact Or.inr rfl)) dX11_isHouse_15 (Nat.le_of_ble_eq_true rfl) (Nat.le_of_ble_eq_true rfl) (⟨_, rfl, (show _ = _ from Eq.symm (by unfold housF; rw [if_pos c_1])), rfl⟩)
  ·
    refine gz_iload_n dX11_isHouse_4 rfl rfl ?_
    refine gz_bipush (v := 8) dX11_isHouse_5 (by decide) ?_
    refine gz_icmp_ge (tgt := 14) dX11_isHouse_7 (by decide) (fun c_7 => ?_) (fun c_7 => ?_)
    ·
      refine gz_iconst (v := 0) dX11_isHouse_14 (by decide) ?_
      exact gz_zret rfl (by first | decide | exact nrb (Or.inl rfl) | (refine nrb ?_; (repeat' split) <;> first | assumption | exact Or.inl rfl | exact Or.inr rfl)) dX11_isHouse_15 (Nat.le_of_ble_eq_true rfl) (Nat.le_of_ble_eq_true rfl) (⟨_, rfl, (show _ = _ from Eq.symm (by unfold housF; rw [if_neg c_1, if_pos c_7])), rfl⟩)
    ·
      refine gz_iconst (v := 1) dX11_isHouse_10 (by decide) ?_
      refine gz_goto (tgt := 15) dX11_isHouse_11 (by decide) ?_
      exact gz_zret rfl (by first | decide | exact nrb (Or.inl rfl) | (refine nrb ?_; (repeat' split) <;> first | assumption | exact Or.inl rfl | exact Or.inr rfl)) dX11_isHouse_15 (Nat.le_of_ble_eq_true rfl) (Nat.le_of_ble_eq_true rfl) (⟨_, rfl, (show _ = _ from Eq.symm (by unfold housF; rw [if_neg c_1, if_neg c_7])), rfl⟩)

def ahdF (x : Int32) : Int32 := (if (x : Int32) < 1 then 0 else (if 4 < (x : Int32) then 0 else 1))
set_option maxHeartbeats 4000000 in
set_option maxRecDepth 100000 in
theorem k_X11_isAhead {l : Launch} {D : va_G} {cy : Nat → ClassId} {b : Nat} {f : gMem} {x : Int32}   : gC l D cy b yX11_isAhead cX11_isAhead 1 (some .boolean) 0 0 0 [.int x] f (pI fun r f2 => r = ahdF x ∧ f2 = f) := by
  refine gC_of (by decide) (Nat.le_of_ble_eq_true rfl) ?_
  show gG l _ _ _ D cy b cX11_isAhead 1 _ RX11 "isAhead" 0 0 f 0 [(0, .int x)] []
  refine gz_iload_n dX11_isAhead_0 rfl rfl ?_
  refine gz_iconst (v := 1) dX11_isAhead_1 (by decide) ?_
  refine gz_icmp_lt (tgt := 14) dX11_isAhead_2 (by decide) (fun c_2 => ?_) (fun c_2 => ?_)
  ·
    refine gz_iconst (v := 0) dX11_isAhead_14 (by decide) ?_
    exact gz_zret rfl (by first | decide | exact nrb (Or.inl rfl) | (refine nrb ?_; (repeat' split) <;> first | assumption | exact Or.inl rfl | exact Or.inr rfl)) dX11_isAhead_15 (Nat.le_of_ble_eq_true rfl) (Nat.le_of_ble_eq_true rfl) (⟨_, rfl, (show _ = _ from Eq.symm (by unfold ahdF; rw [if_pos c_2])), rfl⟩)
  ·
    refine gz_iload_n dX11_isAhead_5 rfl rfl ?_
    refine gz_iconst (v := 4) dX11_isAhead_6 (by decide) ?_
    refine gz_icmp_gt (tgt := 14) dX11_isAhead_7 (by decide) (fun c_7 => ?_) (fun c_7 => ?_)
    ·
      refine gz_iconst (v := 0) dX11_isAhead_14 (by decide) ?_
      exact gz_zret rfl (by first | decide | exact nrb (Or.inl rfl) | (refine nrb ?_; (repeat' split) <;> first | assumption | exact Or.inl rfl | exact Or.inr rfl)) dX11_isAhead_15 (Nat.le_of_ble_eq_true rfl) (Nat.le_of_ble_eq_true rfl) (⟨_, rfl, (show _ = _ from Eq.symm (by unfold ahdF; rw [if_neg c_2, if_pos c_7])), rfl⟩)
    ·
      refine gz_iconst (v := 1) dX11_isAhead_10 (by decide) ?_
      refine gz_goto (tgt := 15) dX11_isAhead_11 (by decide) ?_
      exact gz_zret rfl (by first | decide | exact nrb (Or.inl rfl) | (refine nrb ?_; (repeat' split) <;> first | assumption | exact Or.inl rfl | exact Or.inr rfl)) dX11_isAhead_15 (Nat.le_of_ble_eq_true rfl) (Nat.le_of_ble_eq_true rfl) (⟨_, rfl, (show _ = _ from Eq.symm (by unfold ahdF; rw [if_neg c_2, if_neg c_7])), rfl⟩)

def digF (x : Int32) : Int32 := (if (x : Int32) < 48 then 0 else (if 57 < (x : Int32) then 0 else 1))
set_option maxHeartbeats 4000000 in
set_option maxRecDepth 100000 in
theorem k_X11_isDigit {l : Launch} {D : va_G} {cy : Nat → ClassId} {b : Nat} {f : gMem} {x : Int32}   : gC l D cy b yX11_isDigit cX11_isDigit 1 (some .boolean) 0 0 0 [.int x] f (pI fun r f2 => r = digF x ∧ f2 = f) := by
  refine gC_of (by decide) (Nat.le_of_ble_eq_true rfl) ?_
  show gG l _ _ _ D cy b cX11_isDigit 1 _ RX11 "isDigit" 0 0 f 0 [(0, .int x)] []
  refine gz_iload_n dX11_isDigit_0 rfl rfl ?_
  refine gz_bipush (v := 48) dX11_isDigit_1 (by decide) ?_
  refine gz_icmp_lt (tgt := 16) dX11_isDigit_3 (by decide) (fun c_3 => ?_) (fun c_3 => ?_)
  ·
    refine gz_iconst (v := 0) dX11_isDigit_16 (by decide) ?_
    exact gz_zret rfl (by first | decide | exact nrb (Or.inl rfl) | (refine nrb ?_; (repeat' split) <;> first | assumption | exact Or.inl rfl | exact Or.inr rfl)) dX11_isDigit_17 (Nat.le_of_ble_eq_true rfl) (Nat.le_of_ble_eq_true rfl) (⟨_, rfl, (show _ = _ from Eq.symm (by unfold digF; rw [if_pos c_3])), rfl⟩)
  ·
    refine gz_iload_n dX11_isDigit_6 rfl rfl ?_
    refine gz_bipush (v := 57) dX11_isDigit_7 (by decide) ?_
    refine gz_icmp_gt (tgt := 16) dX11_isDigit_9 (by decide) (fun c_9 => ?_) (fun c_9 => ?_)
    ·
      refine gz_iconst (v := 0) dX11_isDigit_16 (by decide) ?_
      exact gz_zret rfl (by first | decide | exact nrb (Or.inl rfl) | (refine nrb ?_; (repeat' split) <;> first | assumption | exact Or.inl rfl | exact Or.inr rfl)) dX11_isDigit_17 (Nat.le_of_ble_eq_true rfl) (Nat.le_of_ble_eq_true rfl) (⟨_, rfl, (show _ = _ from Eq.symm (by unfold digF; rw [if_neg c_3, if_pos c_9])), rfl⟩)
    ·
      refine gz_iconst (v := 1) dX11_isDigit_12 (by decide) ?_
      refine gz_goto (tgt := 17) dX11_isDigit_13 (by decide) ?_
      exact gz_zret rfl (by first | decide | exact nrb (Or.inl rfl) | (refine nrb ?_; (repeat' split) <;> first | assumption | exact Or.inl rfl | exact Or.inr rfl)) dX11_isDigit_17 (Nat.le_of_ble_eq_true rfl) (Nat.le_of_ble_eq_true rfl) (⟨_, rfl, (show _ = _ from Eq.symm (by unfold digF; rw [if_neg c_3, if_neg c_9])), rfl⟩)

def letF (x : Int32) : Int32 := (if (x : Int32) < 97 then 0 else (if 122 < (x : Int32) then 0 else 1))
set_option maxHeartbeats 4000000 in
set_option maxRecDepth 100000 in
theorem k_X11_isLetter {l : Launch} {D : va_G} {cy : Nat → ClassId} {b : Nat} {f : gMem} {x : Int32}   : gC l D cy b yX11_isLetter cX11_isLetter 1 (some .boolean) 0 0 0 [.int x] f (pI fun r f2 => r = letF x ∧ f2 = f) := by
  refine gC_of (by decide) (Nat.le_of_ble_eq_true rfl) ?_
  show gG l _ _ _ D cy b cX11_isLetter 1 _ RX11 "isLetter" 0 0 f 0 [(0, .int x)] []
  refine gz_iload_n dX11_isLetter_0 rfl rfl ?_
  refine gz_bipush (v := 97) dX11_isLetter_1 (by decide) ?_
  refine gz_icmp_lt (tgt := 16) dX11_isLetter_3 (by decide) (fun c_3 => ?_) (fun c_3 => ?_)
  ·
    refine gz_iconst (v := 0) dX11_isLetter_16 (by decide) ?_
    exact gz_zret rfl (by first | decide | exact nrb (Or.inl rfl) | (refine nrb ?_; (repeat' split) <;> first | assumption | exact Or.inl rfl | exact Or.inr rfl)) dX11_isLetter_17 (Nat.le_of_ble_eq_true rfl) (Nat.le_of_ble_eq_true rfl) (⟨_, rfl, (show _ = _ from Eq.symm (by unfold letF; rw [if_pos c_3])), rfl⟩)
  ·
    refine gz_iload_n dX11_isLetter_6 rfl rfl ?_
    refine gz_bipush (v := 122) dX11_isLetter_7 (by decide) ?_
    refine gz_icmp_gt (tgt := 16) dX11_isLetter_9 (by decide) (fun c_9 => ?_) (fun c_9 => ?_)
    ·
      refine gz_iconst (v := 0) dX11_isLetter_16 (by decide) ?_
      exact gz_zret rfl (by first | decide | exact nrb (Or.inl rfl) | (refine nrb ?_; (repeat' split) <;> first | assumption | exact Or.inl rfl | exact Or.inr rfl)) dX11_isLetter_17 (Nat.le_of_ble_eq_true rfl) (Nat.le_of_ble_eq_true rfl) (⟨_, rfl, (show _ = _ from Eq.symm (by unfold letF; rw [if_neg c_3, if_pos c_9])), rfl⟩)
    ·
      refine gz_iconst (v := 1) dX11_isLetter_12 (by decide) ?_
      refine gz_goto (tgt := 17) dX11_isLetter_13 (by decide) ?_
      exact gz_zret rfl (by first | decide | exact nrb (Or.inl rfl) | (refine nrb ?_; (repeat' split) <;> first | assumption | exact Or.inl rfl | exact Or.inr rfl)) dX11_isLetter_17 (Nat.le_of_ble_eq_true rfl) (Nat.le_of_ble_eq_true rfl) (⟨_, rfl, (show _ = _ from Eq.symm (by unfold letF; rw [if_neg c_3, if_neg c_9])), rfl⟩)

def hnuF (x : Int32) : Int32 := (if (x : Int32) = 5 then 1 else (if (x : Int32) = 10 then 1 else 0))
set_option maxHeartbeats 4000000 in
set_option maxRecDepth 100000 in
theorem k_X11_hasNumber {l : Launch} {D : va_G} {cy : Nat → ClassId} {b : Nat} {f : gMem} {x : Int32}   : gC l D cy b yX11_hasNumber cX11_hasNumber 1 (some .boolean) 0 0 0 [.int x] f (pI fun r f2 => r = hnuF x ∧ f2 = f) := by
  refine gC_of (by decide) (Nat.le_of_ble_eq_true rfl) ?_
  show gG l _ _ _ D cy b cX11_hasNumber 1 _ RX11 "hasNumber" 0 0 f 0 [(0, .int x)] []
  refine gz_iload_n dX11_hasNumber_0 rfl rfl ?_
  refine gz_iconst (v := 5) dX11_hasNumber_1 (by decide) ?_
  refine gz_icmp_eq (tgt := 11) dX11_hasNumber_2 (by decide) (fun c_2 => ?_) (fun c_2 => ?_)
  ·
    refine gz_iconst (v := 1) dX11_hasNumber_11 (by decide) ?_
    refine gz_goto (tgt := 16) dX11_hasNumber_12 (by decide) ?_
    exact gz_zret rfl (by first | decide | exact nrb (Or.inl rfl) | (refine nrb ?_; (repeat' split) <;> first | assumption | exact Or.inl rfl | exact Or.inr rfl)) dX11_hasNumber_16 (Nat.le_of_ble_eq_true rfl) (Nat.le_of_ble_eq_true rfl) (⟨_, rfl, (show _ = _ from Eq.symm (by unfold hnuF; rw [if_pos c_2])), rfl⟩)
  ·
    refine gz_iload_n dX11_hasNumber_5 rfl rfl ?_
    refine gz_bipush (v := 10) dX11_hasNumber_6 (by decide) ?_
    refine gz_icmp_ne (tgt := 15) dX11_hasNumber_8 (by decide) (fun c_8 => ?_) (fun c_8 => ?_)
    ·
      refine gz_iconst (v := 0) dX11_hasNumber_15 (by decide) ?_
      exact gz_zret rfl (by first | decide | exact nrb (Or.inl rfl) | (refine nrb ?_; (repeat' split) <;> first | assumption | exact Or.inl rfl | exact Or.inr rfl)) dX11_hasNumber_16 (Nat.le_of_ble_eq_true rfl) (Nat.le_of_ble_eq_true rfl) (⟨_, rfl, (show _ = _ from Eq.symm (by unfold hnuF; rw [if_neg c_2, if_neg c_8])), rfl⟩)
    ·
      refine gz_iconst (v := 1) dX11_hasNumber_11 (by decide) ?_
      refine gz_goto (tgt := 16) dX11_hasNumber_12 (by decide) ?_
      exact gz_zret rfl (by first | decide | exact nrb (Or.inl rfl) | (refine nrb ?_; (repeat' split) <;> first | assumption | exact Or.inl rfl | exact Or.inr rfl)) dX11_hasNumber_16 (Nat.le_of_ble_eq_true rfl) (Nat.le_of_ble_eq_true rfl) (⟨_, rfl, (show _ = _ from Eq.symm (by unfold hnuF; rw [if_neg c_2, if_pos c_8])), rfl⟩)

def htsF (x : Int32) : Int32 := (if (x : Int32) = 6 then 1 else (if (x : Int32) = 7 then 1 else (if (x : Int32) = 8 then 1 else 0)))
set_option maxHeartbeats 4000000 in
set_option maxRecDepth 100000 in
theorem k_X11_hasTest {l : Launch} {D : va_G} {cy : Nat → ClassId} {b : Nat} {f : gMem} {x : Int32}   : gC l D cy b yX11_hasTest cX11_hasTest 1 (some .boolean) 0 0 0 [.int x] f (pI fun r f2 => r = htsF x ∧ f2 = f) := by
  refine gC_of (by decide) (Nat.le_of_ble_eq_true rfl) ?_
  show gG l _ _ _ D cy b cX11_hasTest 1 _ RX11 "hasTest" 0 0 f 0 [(0, .int x)] []
  refine gz_iload_n dX11_hasTest_0 rfl rfl ?_
  refine gz_bipush (v := 6) dX11_hasTest_1 (by decide) ?_
  refine gz_icmp_eq (tgt := 18) dX11_hasTest_3 (by decide) (fun c_3 => ?_) (fun c_3 => ?_)
  ·
    refine gz_iconst (v := 1) dX11_hasTest_18 (by decide) ?_
    refine gz_goto (tgt := 23) dX11_hasTest_19 (by decide) ?_
    exact gz_zret rfl (by first | decide | exact nrb (Or.inl rfl) | (refine nrb ?_; (repeat' split) <;> first | assumption | exact Or.inl rfl | exact Or.inr rfl)) dX11_hasTest_23 (Nat.le_of_ble_eq_true rfl) (Nat.le_of_ble_eq_true rfl) (⟨_, rfl, (show _ = _ from Eq.symm (by unfold htsF; rw [if_pos c_3])), rfl⟩)
  ·
    refine gz_iload_n dX11_hasTest_6 rfl rfl ?_
    refine gz_bipush (v := 7) dX11_hasTest_7 (by decide) ?_
    refine gz_icmp_eq (tgt := 18) dX11_hasTest_9 (by decide) (fun c_9 => ?_) (fun c_9 => ?_)
    ·
      refine gz_iconst (v := 1) dX11_hasTest_18 (by decide) ?_
      refine gz_goto (tgt := 23) dX11_hasTest_19 (by decide) ?_
      exact gz_zret rfl (by first | decide | exact nrb (Or.inl rfl) | (refine nrb ?_; (repeat' split) <;> first | assumption | exact Or.inl rfl | exact Or.inr rfl)) dX11_hasTest_23 (Nat.le_of_ble_eq_true rfl) (Nat.le_of_ble_eq_true rfl) (⟨_, rfl, (show _ = _ from Eq.symm (by unfold htsF; rw [if_neg c_3, if_pos c_9])), rfl⟩)
    ·
      refine gz_iload_n dX11_hasTest_12 rfl rfl ?_
      refine gz_bipush (v := 8) dX11_hasTest_13 (by decide) ?_
      refine gz_icmp_ne (tgt := 22) dX11_hasTest_15 (by decide) (fun c_15 => ?_) (fun c_15 => ?_)
      ·
        refine gz_iconst (v := 0) dX11_hasTest_22 (by decide) ?_
        exact gz_zret rfl (by first | decide | exact nrb (Or.inl rfl) | (refine nrb ?_; (repeat' split) <;> first | assumption | exact Or.inl rfl | exact Or.inr rfl)) dX11_hasTest_23 (Nat.le_of_ble_eq_true rfl) (Nat.le_of_ble_eq_true rfl) (⟨_, rfl, (show _ = _ from Eq.symm (by unfold htsF; rw [if_neg c_3, if_neg c_9, if_neg c_15])), rfl⟩)
      ·
        refine gz_iconst (v := 1) dX11_hasTest_18 (by decide) ?_
        refine gz_goto (tgt := 23) dX11_hasTest_19 (by decide) ?_
        exact gz_zret rfl (by first | decide | exact nrb (Or.inl rfl) | (refine nrb ?_; (repeat' split) <;> first | assumption | exact Or.inl rfl | exact Or.inr rfl)) dX11_hasTest_23 (Nat.le_of_ble_eq_true rfl) (Nat.le_of_ble_eq_true rfl) (⟨_, rfl, (show _ = _ from Eq.symm (by unfold htsF; rw [if_neg c_3, if_neg c_9, if_pos c_15])), rfl⟩)

def hsuF (x : Int32) : Int32 := (if (x : Int32) = 9 then 1 else (if ((htsF x) : Int32) = 0 then 0 else 1))
set_option maxHeartbeats 4000000 in
set_option maxRecDepth 100000 in
theorem k_X11_hasSum {l : Launch} {D : va_G} {cy : Nat → ClassId} {b : Nat} {f : gMem} {x : Int32}   : gC l D cy b yX11_hasSum cX11_hasSum 1 (some .boolean) 1 0 0 [.int x] f (pI fun r f2 => r = hsuF x ∧ f2 = f) := by
  refine gC_of (by decide) (Nat.le_of_ble_eq_true rfl) ?_
  show gG l _ _ _ D cy b cX11_hasSum 1 _ RX11 "hasSum" 0 0 f 0 [(0, .int x)] []
  refine gz_iload_n dX11_hasSum_0 rfl rfl ?_
  refine gz_bipush (v := 9) dX11_hasSum_1 (by decide) ?_
  refine gz_icmp_eq (tgt := 13) dX11_hasSum_3 (by decide) (fun c_3 => ?_) (fun c_3 => ?_)
  ·
    refine gz_iconst (v := 1) dX11_hasSum_13 (by decide) ?_
    refine gz_goto (tgt := 18) dX11_hasSum_14 (by decide) ?_
    exact gz_zret rfl (by first | decide | exact nrb (Or.inl rfl) | (refine nrb ?_; (repeat' split) <;> first | assumption | exact Or.inl rfl | exact Or.inr rfl)) dX11_hasSum_18 (Nat.le_of_ble_eq_true rfl) (Nat.le_of_ble_eq_true rfl) (⟨_, rfl, (show _ = _ from Eq.symm (by unfold hsuF; rw [if_pos c_3])), rfl⟩)
  ·
    refine gz_iload_n dX11_hasSum_6 rfl rfl ?_
    refine scX11_248 (k_X11_hasTest (x := x)) ⟨(Nat.le_of_ble_eq_true rfl), (Nat.le_of_ble_eq_true rfl)⟩ ⟨(Nat.le_of_ble_eq_true rfl), (Nat.le_of_ble_eq_true rfl)⟩ rfl rfl (Nat.le_of_ble_eq_true rfl) dX11_hasSum_7 ?_
    intro v9 f9 z9; rw [z9.1, z9.2]
    refine gz_if_eq (tgt := 17) dX11_hasSum_10 (by decide) (fun c_10 => ?_) (fun c_10 => ?_)
    ·
      refine gz_iconst (v := 0) dX11_hasSum_17 (by decide) ?_
      exact gz_zret rfl (by first | decide | exact nrb (Or.inl rfl) | (refine nrb ?_; (repeat' split) <;> first | assumption | exact Or.inl rfl | exact Or.inr rfl)) dX11_hasSum_18 (Nat.le_of_ble_eq_true rfl) (Nat.le_of_ble_eq_true rfl) (⟨_, rfl, (show _ = _ from Eq.symm (by unfold hsuF; rw [if_neg c_3, if_pos c_10])), rfl⟩)
    ·
      refine gz_iconst (v := 1) dX11_hasSum_13 (by decide) ?_
      refine gz_goto (tgt := 18) dX11_hasSum_14 (by decide) ?_
      exact gz_zret rfl (by first | decide | exact nrb (Or.inl rfl) | (refine nrb ?_; (repeat' split) <;> first | assumption | exact Or.inl rfl | exact Or.inr rfl)) dX11_hasSum_18 (Nat.le_of_ble_eq_true rfl) (Nat.le_of_ble_eq_true rfl) (⟨_, rfl, (show _ = _ from Eq.symm (by unfold hsuF; rw [if_neg c_3, if_neg c_10])), rfl⟩)

def hpaF (x : Int32) : Int32 := (if (x : Int32) = 3 then 1 else (if (x : Int32) = 4 then 1 else (if (x : Int32) = 5 then 1 else 0)))
set_option maxHeartbeats 4000000 in
set_option maxRecDepth 100000 in
theorem k_X11_hasPair {l : Launch} {D : va_G} {cy : Nat → ClassId} {b : Nat} {f : gMem} {x : Int32}   : gC l D cy b yX11_hasPair cX11_hasPair 1 (some .boolean) 0 0 0 [.int x] f (pI fun r f2 => r = hpaF x ∧ f2 = f) := by
  refine gC_of (by decide) (Nat.le_of_ble_eq_true rfl) ?_
  show gG l _ _ _ D cy b cX11_hasPair 1 _ RX11 "hasPair" 0 0 f 0 [(0, .int x)] []
  refine gz_iload_n dX11_hasPair_0 rfl rfl ?_
  refine gz_iconst (v := 3) dX11_hasPair_1 (by decide) ?_
  refine gz_icmp_eq (tgt := 15) dX11_hasPair_2 (by decide) (fun c_2 => ?_) (fun c_2 => ?_)
  ·
    refine gz_iconst (v := 1) dX11_hasPair_15 (by decide) ?_
    refine gz_goto (tgt := 20) dX11_hasPair_16 (by decide) ?_
    exact gz_zret rfl (by first | decide | exact nrb (Or.inl rfl) | (refine nrb ?_; (repeat' split) <;> first | assumption | exact Or.inl rfl | exact Or.inr rfl)) dX11_hasPair_20 (Nat.le_of_ble_eq_true rfl) (Nat.le_of_ble_eq_true rfl) (⟨_, rfl, (show _ = _ from Eq.symm (by unfold hpaF; rw [if_pos c_2])), rfl⟩)
  ·
    refine gz_iload_n dX11_hasPair_5 rfl rfl ?_
    refine gz_iconst (v := 4) dX11_hasPair_6 (by decide) ?_
    refine gz_icmp_eq (tgt := 15) dX11_hasPair_7 (by decide) (fun c_7 => ?_) (fun c_7 => ?_)
    ·
      refine gz_iconst (v := 1) dX11_hasPair_15 (by decide) ?_
      refine gz_goto (tgt := 20) dX11_hasPair_16 (by decide) ?_
      exact gz_zret rfl (by first | decide | exact nrb (Or.inl rfl) | (refine nrb ?_; (repeat' split) <;> first | assumption | exact Or.inl rfl | exact Or.inr rfl)) dX11_hasPair_20 (Nat.le_of_ble_eq_true rfl) (Nat.le_of_ble_eq_true rfl) (⟨_, rfl, (show _ = _ from Eq.symm (by unfold hpaF; rw [if_neg c_2, if_pos c_7])), rfl⟩)
    ·
      refine gz_iload_n dX11_hasPair_10 rfl rfl ?_
      refine gz_iconst (v := 5) dX11_hasPair_11 (by decide) ?_
      refine gz_icmp_ne (tgt := 19) dX11_hasPair_12 (by decide) (fun c_12 => ?_) (fun c_12 => ?_)
      ·
        refine gz_iconst (v := 0) dX11_hasPair_19 (by decide) ?_
        exact gz_zret rfl (by first | decide | exact nrb (Or.inl rfl) | (refine nrb ?_; (repeat' split) <;> first | assumption | exact Or.inl rfl | exact Or.inr rfl)) dX11_hasPair_20 (Nat.le_of_ble_eq_true rfl) (Nat.le_of_ble_eq_true rfl) (⟨_, rfl, (show _ = _ from Eq.symm (by unfold hpaF; rw [if_neg c_2, if_neg c_7, if_neg c_12])), rfl⟩)
      ·
        refine gz_iconst (v := 1) dX11_hasPair_15 (by decide) ?_
        refine gz_goto (tgt := 20) dX11_hasPair_16 (by decide) ?_
        exact gz_zret rfl (by first | decide | exact nrb (Or.inl rfl) | (refine nrb ?_; (repeat' split) <;> first | assumption | exact Or.inl rfl | exact Or.inr rfl)) dX11_hasPair_20 (Nat.le_of_ble_eq_true rfl) (Nat.le_of_ble_eq_true rfl) (⟨_, rfl, (show _ = _ from Eq.symm (by unfold hpaF; rw [if_neg c_2, if_neg c_7, if_pos c_12])), rfl⟩)

def hdeF (x : Int32) : Int32 := (if (x : Int32) = 0 then 0 else (if (x : Int32) = 1 then 0 else 1))
set_option maxHeartbeats 4000000 in
set_option maxRecDepth 100000 in
theorem k_X11_hasDeed {l : Launch} {D : va_G} {cy : Nat → ClassId} {b : Nat} {f : gMem} {x : Int32}   : gC l D cy b yX11_hasDeed cX11_hasDeed 1 (some .boolean) 0 0 0 [.int x] f (pI fun r f2 => r = hdeF x ∧ f2 = f) := by
  refine gC_of (by decide) (Nat.le_of_ble_eq_true rfl) ?_
  show gG l _ _ _ D cy b cX11_hasDeed 1 _ RX11 "hasDeed" 0 0 f 0 [(0, .int x)] []
  refine gz_iload_n dX11_hasDeed_0 rfl rfl ?_
  refine gz_if_eq (tgt := 13) dX11_hasDeed_1 (by decide) (fun c_1 => ?_) (fun c_1 => ?_)
  ·
    refine gz_iconst (v := 0) dX11_hasDeed_13 (by decide) ?_
    exact gz_zret rfl (by first | decide | exact nrb (Or.inl rfl) | (refine nrb ?_; (repeat' split) <;> first | assumption | exact Or.inl rfl | exact Or.inr rfl)) dX11_hasDeed_14 (Nat.le_of_ble_eq_true rfl) (Nat.le_of_ble_eq_true rfl) (⟨_, rfl, (show _ = _ from Eq.symm (by unfold hdeF; rw [if_pos c_1])), rfl⟩)
  ·
    refine gz_iload_n dX11_hasDeed_4 rfl rfl ?_
    refine gz_iconst (v := 1) dX11_hasDeed_5 (by decide) ?_
    refine gz_icmp_eq (tgt := 13) dX11_hasDeed_6 (by decide) (fun c_6 => ?_) (fun c_6 => ?_)
    ·
      refine gz_iconst (v := 0) dX11_hasDeed_13 (by decide) ?_
      exact gz_zret rfl (by first | decide | exact nrb (Or.inl rfl) | (refine nrb ?_; (repeat' split) <;> first | assumption | exact Or.inl rfl | exact Or.inr rfl)) dX11_hasDeed_14 (Nat.le_of_ble_eq_true rfl) (Nat.le_of_ble_eq_true rfl) (⟨_, rfl, (show _ = _ from Eq.symm (by unfold hdeF; rw [if_neg c_1, if_pos c_6])), rfl⟩)
    ·
      refine gz_iconst (v := 1) dX11_hasDeed_9 (by decide) ?_
      refine gz_goto (tgt := 14) dX11_hasDeed_10 (by decide) ?_
      exact gz_zret rfl (by first | decide | exact nrb (Or.inl rfl) | (refine nrb ?_; (repeat' split) <;> first | assumption | exact Or.inl rfl | exact Or.inr rfl)) dX11_hasDeed_14 (Nat.le_of_ble_eq_true rfl) (Nat.le_of_ble_eq_true rfl) (⟨_, rfl, (show _ = _ from Eq.symm (by unfold hdeF; rw [if_neg c_1, if_neg c_6])), rfl⟩)

def upnL (len : Int32) (n : Nat) (tg : Nat → Int32)  : Nat → (Int32) → (Int32) → (Int32) × (Int32)
  | 0, _, pl => (0, pl)
  | k + 1, i, pl => (if 400 ≤ (i : Int32) then ((tAt len n tg pl), pl) else (if ((tAt len n tg pl) : Int32) = 32 then (upnL len n tg k (i + 1) (pl + 1)) else ((tAt len n tg pl), pl)))
set_option maxHeartbeats 4000000 in
set_option maxRecDepth 100000 in
theorem l_X6_upNext {l : Launch} {D : va_G} {cy : Nat → ClassId} {b mc ms : Nat} {f : gMem} {Po : Option Value → gMem → Prop} {rd tx tb p n : Nat} {len fa : Int32} {tg : Nat → Int32}  (hn : n < 2 ^ 31) : ∀ (k : Nat) (i : Int32) (pl : Int32) (fm : gMem), fr [rd] f fm → (fm rd = some (.inr (6, [.ref tx, .ref p, .int pl, .int fa]))) → (fm tx = some (.inr (9, [.ref tb, .int len]))) → (fm tb = some (.inl (cy 1, n, .inl (tg)))) → (0 ≤ i.toInt ∧ i.toInt ≤ 400 ∧ i.toInt + (k : Int) = 401) → (∀ (r : Int32) (f2 : gMem), r = (upnL len n tg k i pl).1 → f2 rd = some (.inr (6, [.ref tx, .ref p, .int (upnL len n tg k i pl).2, .int fa])) → fr [rd] f f2 → Po (some (.int r)) f2) → gG l (gRm 1 mc ms) (gQf D b Po mc ms) gTt D cy b cX6_upNext 2 (some .int) RX6 "upNext" 0 0 fm 2 [(1, .int i), (0, .ref rd)] [] := by
  intro k
  induction k with
  | zero =>
    intro i pl fm hfr hrd htx htb hk hq
    exfalso; omega
  | succ k ih =>
    intro i pl fm hfr hrd htx htb hk hq
    refine gz_iload_n dX6_upNext_2 rfl rfl ?_
    refine gz_sipush (v := 400) dX6_upNext_3 (by decide) ?_
    refine gz_icmp_ge (tgt := 41) dX6_upNext_6 (by decide) (fun c_6 => ?_) (fun c_6 => ?_)
    ·
      refine gz_aload_n dX6_upNext_41 rfl rfl ?_
      refine sgX6_9 hrd rfl dX6_upNext_42 ?_
      refine gz_aload_n dX6_upNext_45 rfl rfl ?_
      refine sgX6_19 hrd rfl dX6_upNext_46 ?_
      refine scX6_48 (k_X9_at (i := pl) htx htb hn) htx ⟨(Nat.le_of_ble_eq_true rfl), (Nat.le_of_ble_eq_true rfl)⟩ ⟨(Nat.zero_le _), (Nat.zero_le _)⟩ rfl rfl (Nat.le_of_ble_eq_true rfl) dX6_upNext_49 ?_
      intro v9 f9 z9; rw [z9.1, z9.2]
      exact gz_iret rfl dX6_upNext_52 (Nat.zero_le _) (Nat.zero_le _) ((by rw [upnL, if_pos c_6] at hq; exact hq _ _ rfl hrd hfr))
    ·
      refine gz_aload_n dX6_upNext_9 rfl rfl ?_
      refine sgX6_9 hrd rfl dX6_upNext_10 ?_
      refine gz_aload_n dX6_upNext_13 rfl rfl ?_
      refine sgX6_19 hrd rfl dX6_upNext_14 ?_
      refine scX6_48 (k_X9_at (i := pl) htx htb hn) htx ⟨(Nat.le_of_ble_eq_true rfl), (Nat.le_of_ble_eq_true rfl)⟩ ⟨(Nat.zero_le _), (Nat.zero_le _)⟩ rfl rfl (Nat.le_of_ble_eq_true rfl) dX6_upNext_17 ?_
      intro v9 f9 z9; rw [z9.1, z9.2]
      refine gz_bipush (v := 32) dX6_upNext_20 (by decide) ?_
      refine gz_icmp_ne (tgt := 41) dX6_upNext_22 (by decide) (fun c_22 => ?_) (fun c_22 => ?_)
      ·
        refine gz_aload_n dX6_upNext_41 rfl rfl ?_
        refine sgX6_9 hrd rfl dX6_upNext_42 ?_
        refine gz_aload_n dX6_upNext_45 rfl rfl ?_
        refine sgX6_19 hrd rfl dX6_upNext_46 ?_
        refine scX6_48 (k_X9_at (i := pl) htx htb hn) htx ⟨(Nat.le_of_ble_eq_true rfl), (Nat.le_of_ble_eq_true rfl)⟩ ⟨(Nat.zero_le _), (Nat.zero_le _)⟩ rfl rfl (Nat.le_of_ble_eq_true rfl) dX6_upNext_49 ?_
        intro v9 f9 z9; rw [z9.1, z9.2]
        exact gz_iret rfl dX6_upNext_52 (Nat.zero_le _) (Nat.zero_le _) ((by rw [upnL, if_neg c_6, if_neg c_22] at hq; exact hq _ _ rfl hrd hfr))
      ·
        refine gz_aload_n dX6_upNext_25 rfl rfl ?_
        refine gz_dup dX6_upNext_26 rfl ?_
        refine sgX6_19 hrd rfl dX6_upNext_27 ?_
        refine gz_iconst (v := 1) dX6_upNext_30 (by decide) ?_
        refine gz_iadd dX6_upNext_31 ?_
        refine spX6_19 hrd  (Nat.le_of_ble_eq_true rfl) dX6_upNext_32 ?_
        obtain ⟨f1, hf1⟩ : ∃ gg : gMem, gg = va_up fm rd (some (.inr (6, [.ref tx, .ref p, .int (pl + 1), .int fa]))) := ⟨_, rfl⟩
        refine gz_eq (f2 := f1) hf1.symm rfl rfl rfl ?_
        have htx_1 : f1 tx = some (.inr (9, [.ref tb, .int len])) := by rw [hf1, va_up_ne _ _ (cne htx hrd (by simp))]; exact htx
        have htb_1 : f1 tb = some (.inl (cy 1, n, .inl (tg))) := by rw [hf1, va_up_ne _ _ (cne htb hrd (by simp))]; exact htb
        have hrd_1 : f1 rd = some (.inr (6, [.ref tx, .ref p, .int (pl + 1), .int fa])) := by rw [hf1]; exact va_up_self _ _ _
        refine gz_iinc (v := (i + 1)) (lv' := [(1, .int (i + 1)), (0, .ref rd)]) dX6_upNext_35 rfl rfl (by decide) rfl ?_
        refine gz_goto (tgt := 2) dX6_upNext_38 (by decide) ?_
        refine gz_sub (lv' := [(1, .int (i + 1)), (0, .ref rd)]) (by simp [List.lookup]) ?_
        exact ih (i + 1) (pl + 1) _ (by rw [hf1]; exact fr_up hfr (by simp)) hrd_1 htx_1 htb_1 (by have e13 : (13 : Int32).toInt = 13 := rfl; have e0 : (0 : Int32).toInt = 0 := rfl; have e2 : (2 : Int32).toInt = 2 := rfl; have e1 : (1 : Int32).toInt = 1 := rfl; have e6 : (6 : Int32).toInt = 6 := rfl; have em2 : (-2 : Int32).toInt = -2 := rfl; have eb : (400 : Int32).toInt = 400 := rfl; simp only [fl_le] at c_6; have hx := T_add (rfl : i.toInt = i.toInt) e1 (by omega); omega) (by rw [upnL, if_neg c_6, if_pos c_22] at hq; exact hq)

def upnF (len : Int32) (n : Nat) (tg : Nat → Int32) (pl : Int32) : (Int32) × (Int32) := (upnL len n tg 401 0 pl)
set_option maxHeartbeats 4000000 in
set_option maxRecDepth 100000 in
theorem k_X6_upNext {l : Launch} {D : va_G} {cy : Nat → ClassId} {b : Nat} {f : gMem} {rd tx tb p n : Nat} {len pl fa : Int32} {tg : Nat → Int32} (hrd : f rd = some (.inr (6, [.ref tx, .ref p, .int pl, .int fa]))) (htx : f tx = some (.inr (9, [.ref tb, .int len]))) (htb : f tb = some (.inl (cy 1, n, .inl (tg)))) (hn : n < 2 ^ 31) : gC l D cy b yX6_upNext cX6_upNext 2 (some .int) 1 0 0 [.ref rd] f (pI fun r f2 => r = (upnF len n tg pl).1 ∧ f2 rd = some (.inr (6, [.ref tx, .ref p, .int (upnF len n tg pl).2, .int fa])) ∧ fr [rd] f f2) := by
  refine gC_of (by decide) (Nat.le_of_ble_eq_true rfl) ?_
  show gG l _ _ _ D cy b cX6_upNext 2 _ RX6 "upNext" 0 0 f 0 [(0, .ref rd)] []
  refine gz_iconst (v := 0) dX6_upNext_0 (by decide) ?_
  refine gz_istore_n (lv' := [(1, .int 0), (0, .ref rd)]) dX6_upNext_1 rfl (by decide) rfl ?_
  exact l_X6_upNext hn 401 0 pl _ fr_rf hrd htx htb (⟨by decide, by decide, by decide⟩) (fun r f2 z0 z1 zf => ⟨_, rfl, (by rw [(show upnF len n tg pl = _ from (by unfold upnF; rfl))]; exact z0), (by rw [(show upnF len n tg pl = _ from (by unfold upnF; rfl))]; exact z1), zf⟩)

def faiF (fa at_ kd : Int32) : (Int32) × (Int32) := (0, (if (fa : Int32) = 0 then ((1 + (8 * at_)) + kd) else (if ((1 + (8 * at_)) + kd) < fa then ((1 + (8 * at_)) + kd) else fa)))
set_option maxHeartbeats 4000000 in
set_option maxRecDepth 100000 in
theorem k_X6_fail {l : Launch} {D : va_G} {cy : Nat → ClassId} {b : Nat} {f : gMem} {rd tx p : Nat} {pl fa : Int32} {at_ kd : Int32} (hrd : f rd = some (.inr (6, [.ref tx, .ref p, .int pl, .int fa])))  : gC l D cy b yX6_fail cX6_fail 4 (some .boolean) 1 0 0 [.ref rd, .int at_, .int kd] f (pI fun r f2 => r = (faiF fa at_ kd).1 ∧ f2 rd = some (.inr (6, [.ref tx, .ref p, .int pl, .int (faiF fa at_ kd).2])) ∧ fr [rd] f f2) := by
  refine gC_of (by decide) (Nat.le_of_ble_eq_true rfl) ?_
  show gG l _ _ _ D cy b cX6_fail 4 _ RX6 "fail" 0 0 f 0 [(0, .ref rd), (1, .int at_), (2, .int kd)] []
  refine gz_iconst (v := 1) dX6_fail_0 (by decide) ?_
  refine gz_bipush (v := 8) dX6_fail_1 (by decide) ?_
  refine gz_iload_n dX6_fail_3 rfl rfl ?_
  refine gz_imul dX6_fail_4 ?_
  refine gz_iadd dX6_fail_5 ?_
  refine gz_iload_n dX6_fail_6 rfl rfl ?_
  refine gz_iadd dX6_fail_7 ?_
  refine gz_istore_n (lv' := [(3, .int ((1 + (8 * at_)) + kd)), (0, .ref rd), (1, .int at_), (2, .int kd)]) dX6_fail_8 rfl (by decide) rfl ?_
  refine gz_aload_n dX6_fail_9 rfl rfl ?_
  refine gz_aload_n dX6_fail_10 rfl rfl ?_
  refine sgX6_23 hrd rfl dX6_fail_11 ?_
  refine gz_mrg (f2 := f) (pc2 := 29) (lv2 := [(3, .int ((1 + (8 * at_)) + kd)), (0, .ref rd), (1, .int at_), (2, .int kd)]) (st2 := [.int (if (fa : Int32) = 0 then ((1 + (8 * at_)) + kd) else (if ((1 + (8 * at_)) + kd) < fa then ((1 + (8 * at_)) + kd) else fa)), .ref rd]) ?_ (fun hj14 => ?_)
  ·
    refine spX6_23 hrd  (Nat.le_of_ble_eq_true rfl) dX6_fail_29 ?_
    obtain ⟨f1, hf1⟩ : ∃ gg : gMem, gg = va_up f rd (some (.inr (6, [.ref tx, .ref p, .int pl, .int (if (fa : Int32) = 0 then ((1 + (8 * at_)) + kd) else (if ((1 + (8 * at_)) + kd) < fa then ((1 + (8 * at_)) + kd) else fa))]))) := ⟨_, rfl⟩
    refine gz_eq (f2 := f1) hf1.symm rfl rfl rfl ?_
    have hrd_1 : f1 rd = some (.inr (6, [.ref tx, .ref p, .int pl, .int (if (fa : Int32) = 0 then ((1 + (8 * at_)) + kd) else (if ((1 + (8 * at_)) + kd) < fa then ((1 + (8 * at_)) + kd) else fa))])) := by rw [hf1]; exact va_up_self _ _ _
    refine gz_iconst (v := 0) dX6_fail_32 (by decide) ?_
    exact gz_zret rfl (by first | decide | exact nrb (Or.inl rfl) | (refine nrb ?_; (repeat' split) <;> first | assumption | exact Or.inl rfl | exact Or.inr rfl)) dX6_fail_33 (Nat.le_of_ble_eq_true rfl) (Nat.le_of_ble_eq_true rfl) (⟨_, rfl, (by rw [(show faiF fa at_ kd = _ from (by unfold faiF; rfl))]), (by rw [(show faiF fa at_ kd = _ from (by unfold faiF; rfl))]; exact hrd_1), (by rw [hf1]; exact fr_up fr_rf (by simp))⟩)
  ·
    refine gz_if_ne (tgt := 21) dX6_fail_14 (by decide) (fun c_14_1 => ?_) (fun c_14_1 => ?_)
    ·
      refine gz_aload_n dX6_fail_21 rfl rfl ?_
      refine sgX6_23 hrd rfl dX6_fail_22 ?_
      refine gz_iload_n dX6_fail_25 rfl rfl ?_
      refine scX6_42 (Nat.le_of_ble_eq_true rfl) (Nat.le_of_ble_eq_true rfl) (Nat.le_of_ble_eq_true rfl) (Nat.le_of_ble_eq_true rfl) (Nat.le_of_ble_eq_true rfl) dX6_fail_26 ?_
      exact gz_eq rfl rfl (rfl) (by first | (rw [if_neg c_14_1]; done) | (simp only [if_neg c_14_1]; done)) hj14
    ·
      refine gz_iload_n dX6_fail_17 rfl rfl ?_
      refine gz_goto (tgt := 29) dX6_fail_18 (by decide) ?_
      exact gz_eq rfl rfl (rfl) (by first | (rw [if_pos c_14_1]; done) | (simp only [if_pos c_14_1]; done)) hj14

def rsgF (len : Int32) (n : Nat) (tg : Nat → Int32) (pl fa sg : Int32) : (Int32) × (Int32) × (Int32) := (lett (upnF len n tg pl) fun x1 => (if (x1.1 : Int32) = sg then (1, (x1.2 + 1), fa) else (lett (faiF fa x1.2 0) fun x2 => (x2.1, x1.2, x2.2))))
set_option maxHeartbeats 4000000 in
set_option maxRecDepth 100000 in
theorem k_X6_readSign {l : Launch} {D : va_G} {cy : Nat → ClassId} {b : Nat} {f : gMem} {rd tx tb p n : Nat} {len pl fa : Int32} {tg : Nat → Int32} {sg : Int32} (hrd : f rd = some (.inr (6, [.ref tx, .ref p, .int pl, .int fa]))) (htx : f tx = some (.inr (9, [.ref tb, .int len]))) (htb : f tb = some (.inl (cy 1, n, .inl (tg)))) (hn : n < 2 ^ 31) : gC l D cy b yX6_readSign cX6_readSign 2 (some .boolean) 2 0 0 [.ref rd, .int sg] f (pI fun r f2 => r = (rsgF len n tg pl fa sg).1 ∧ f2 rd = some (.inr (6, [.ref tx, .ref p, .int (rsgF len n tg pl fa sg).2.1, .int (rsgF len n tg pl fa sg).2.2])) ∧ fr [rd] f f2) := by
  refine gC_of (by decide) (Nat.le_of_ble_eq_true rfl) ?_
  show gG l _ _ _ D cy b cX6_readSign 2 _ RX6 "readSign" 0 0 f 0 [(0, .ref rd), (1, .int sg)] []
  refine gz_aload_n dX6_readSign_0 rfl rfl ?_
  obtain ⟨x1, hx1⟩ : ∃ x0, (upnF len n tg pl) = x0 := ⟨_, rfl⟩
  refine scX6_35 (k_X6_upNext hrd htx htb hn) hrd ⟨(Nat.le_of_ble_eq_true rfl), (Nat.le_of_ble_eq_true rfl)⟩ ⟨(Nat.le_of_ble_eq_true rfl), (Nat.le_of_ble_eq_true rfl)⟩ rfl rfl (Nat.le_of_ble_eq_true rfl) dX6_readSign_1 ?_
  rintro r1 f1 ⟨z1, hrd_1, hr1⟩; rw [hx1] at z1 hrd_1; rw [z1]
  have htx_1 : f1 tx = some (.inr (9, [.ref tb, .int len])) := hr1 _ _ htx (by simp only [List.mem_cons, List.not_mem_nil, or_false, not_or]; exact cne htx hrd (by simp))
  have htb_1 : f1 tb = some (.inl (cy 1, n, .inl (tg))) := hr1 _ _ htb (by simp only [List.mem_cons, List.not_mem_nil, or_false, not_or]; exact cne htb hrd (by simp))
  refine gz_iload_n dX6_readSign_4 rfl rfl ?_
  refine gz_icmp_eq (tgt := 18) dX6_readSign_5 (by decide) (fun c_5 => ?_) (fun c_5 => ?_)
  ·
    refine gz_aload_n dX6_readSign_18 rfl rfl ?_
    refine gz_dup dX6_readSign_19 rfl ?_
    refine sgX6_19 hrd_1 rfl dX6_readSign_20 ?_
    refine gz_iconst (v := 1) dX6_readSign_23 (by decide) ?_
    refine gz_iadd dX6_readSign_24 ?_
    refine spX6_19 hrd_1  (Nat.le_of_ble_eq_true rfl) dX6_readSign_25 ?_
    obtain ⟨f2, hf2⟩ : ∃ gg : gMem, gg = va_up f1 rd (some (.inr (6, [.ref tx, .ref p, .int (x1.2 + 1), .int fa]))) := ⟨_, rfl⟩
    refine gz_eq (f2 := f2) hf2.symm rfl rfl rfl ?_
    have htx_2 : f2 tx = some (.inr (9, [.ref tb, .int len])) := by rw [hf2, va_up_ne _ _ (cne htx_1 hrd_1 (by simp))]; exact htx_1
    have htb_2 : f2 tb = some (.inl (cy 1, n, .inl (tg))) := by rw [hf2, va_up_ne _ _ (cne htb_1 hrd_1 (by simp))]; exact htb_1
    have hrd_2 : f2 rd = some (.inr (6, [.ref tx, .ref p, .int (x1.2 + 1), .int fa])) := by rw [hf2]; exact va_up_self _ _ _
    refine gz_iconst (v := 1) dX6_readSign_28 (by decide) ?_
    exact gz_zret rfl (by first | decide | exact nrb (Or.inl rfl) | (refine nrb ?_; (repeat' split) <;> first | assumption | exact Or.inl rfl | exact Or.inr rfl)) dX6_readSign_29 (Nat.le_of_ble_eq_true rfl) (Nat.le_of_ble_eq_true rfl) (⟨_, rfl, (by rw [(show rsgF len n tg pl fa sg = _ from (by unfold rsgF; rw [lett_eq hx1, if_pos c_5]))]), (by rw [(show rsgF len n tg pl fa sg = _ from (by unfold rsgF; rw [lett_eq hx1, if_pos c_5]))]; exact hrd_2), (by rw [hf2]; exact fr_up (fr_tr fr_rf (fr_mo hr1 (by simp))) (by simp))⟩)
  ·
    refine gz_aload_n dX6_readSign_8 rfl rfl ?_
    refine gz_aload_n dX6_readSign_9 rfl rfl ?_
    refine sgX6_19 hrd_1 rfl dX6_readSign_10 ?_
    refine gz_iconst (v := 0) dX6_readSign_13 (by decide) ?_
    obtain ⟨x2, hx2⟩ : ∃ x0, (faiF fa x1.2 0) = x0 := ⟨_, rfl⟩
    refine scX6_39 (k_X6_fail (at_ := x1.2) (kd := 0) hrd_1) hrd_1 ⟨(Nat.le_of_ble_eq_true rfl), (Nat.le_of_ble_eq_true rfl)⟩ ⟨(Nat.le_of_ble_eq_true rfl), (Nat.le_of_ble_eq_true rfl)⟩ rfl rfl (Nat.le_of_ble_eq_true rfl) dX6_readSign_14 ?_
    rintro r3 f3 ⟨z3, hrd_3, hr3⟩; rw [hx2] at z3 hrd_3; rw [z3]
    have htx_3 : f3 tx = some (.inr (9, [.ref tb, .int len])) := hr3 _ _ htx_1 (by simp only [List.mem_cons, List.not_mem_nil, or_false, not_or]; exact cne htx_1 hrd_1 (by simp))
    have htb_3 : f3 tb = some (.inl (cy 1, n, .inl (tg))) := hr3 _ _ htb_1 (by simp only [List.mem_cons, List.not_mem_nil, or_false, not_or]; exact cne htb_1 hrd_1 (by simp))
    have hbx2 : x2.1 = 0 ∨ x2.1 = 1 := by rw [← hx2]; exact Or.inl rfl
    exact gz_zret rfl (by first | decide | exact nrb (Or.inl rfl) | (refine nrb ?_; (repeat' split) <;> first | assumption | exact Or.inl rfl | exact Or.inr rfl)) dX6_readSign_17 (Nat.le_of_ble_eq_true rfl) (Nat.le_of_ble_eq_true rfl) (⟨_, rfl, (by rw [(show rsgF len n tg pl fa sg = _ from (by unfold rsgF; rw [lett_eq hx1, if_neg c_5, lett_eq hx2]))]), (by rw [(show rsgF len n tg pl fa sg = _ from (by unfold rsgF; rw [lett_eq hx1, if_neg c_5, lett_eq hx2]))]; exact hrd_3), (fr_tr (fr_tr fr_rf (fr_mo hr1 (by simp))) (fr_mo hr3 (by simp)))⟩)

theorem bz_rsgF {len : Int32} {n : Nat} {tg : Nat → Int32} {pl fa sg : Int32} : (rsgF len n tg pl fa sg).1 = 0 ∨ (rsgF len n tg pl fa sg).1 = 1 := by
  unfold rsgF; try simp only [lett]
  (repeat' split) <;> first | with_reducible exact Or.inl rfl | with_reducible exact Or.inr rfl | exact Or.inl rfl

def ltrL (len : Int32) (n : Nat) (tg : Nat → Int32) (x : Int32) : Nat → Int32 → Int32
  | 0, _ => 0
  | k + 1, i => (if 400 ≤ (i : Int32) then i else (if ((letF (tAt len n tg (x + i))) : Int32) = 0 then i else ltrL len n tg x k (i + 1)))
set_option maxHeartbeats 4000000 in
set_option maxRecDepth 100000 in
theorem l_X6_lettersFrom {l : Launch} {D : va_G} {cy : Nat → ClassId} {b mc ms : Nat} {f : gMem} {Po : Option Value → gMem → Prop} {rd tx tb p n : Nat} {len pl fa : Int32} {tg : Nat → Int32} {x : Int32}  (hrd : f rd = some (.inr (6, [.ref tx, .ref p, .int pl, .int fa]))) (htx : f tx = some (.inr (9, [.ref tb, .int len]))) (htb : f tb = some (.inl (cy 1, n, .inl (tg)))) (hn : n < 2 ^ 31) : ∀ (k : Nat) (i : Int32), (0 ≤ i.toInt ∧ i.toInt ≤ 400 ∧ i.toInt + (k : Int) = 401) → (Po (some (.int (ltrL len n tg x k i))) f) → gG l (gRm 1 mc ms) (gQf D b Po mc ms) gTt D cy b cX6_lettersFrom 3 (some .int) RX6 "lettersFrom" 0 0 f 2 [(2, .int i), (0, .ref rd), (1, .int x)] [] := by
  intro k
  induction k with
  | zero =>
    intro i hk hq
    exfalso; omega
  | succ k ih =>
    intro i hk hq
    refine gz_iload_n dX6_lettersFrom_2 rfl rfl ?_
    refine gz_sipush (v := 400) dX6_lettersFrom_3 (by decide) ?_
    refine gz_icmp_ge (tgt := 31) dX6_lettersFrom_6 (by decide) (fun c_6 => ?_) (fun c_6 => ?_)
    ·
      refine gz_iload_n dX6_lettersFrom_31 rfl rfl ?_
      exact gz_iret rfl dX6_lettersFrom_32 (Nat.zero_le _) (Nat.zero_le _) ((by rw [ltrL, if_pos c_6] at hq; exact hq))
    ·
      refine gz_aload_n dX6_lettersFrom_9 rfl rfl ?_
      refine sgX6_9 hrd rfl dX6_lettersFrom_10 ?_
      refine gz_iload_n dX6_lettersFrom_13 rfl rfl ?_
      refine gz_iload_n dX6_lettersFrom_14 rfl rfl ?_
      refine gz_iadd dX6_lettersFrom_15 ?_
      refine scX6_48 (k_X9_at (i := (x + i)) htx htb hn) htx ⟨(Nat.le_of_ble_eq_true rfl), (Nat.le_of_ble_eq_true rfl)⟩ ⟨(Nat.zero_le _), (Nat.zero_le _)⟩ rfl rfl (Nat.le_of_ble_eq_true rfl) dX6_lettersFrom_16 ?_
      intro v9 f9 z9; rw [z9.1, z9.2]
      refine scX6_54 (k_X11_isLetter (x := (tAt len n tg (x + i)))) ⟨(Nat.le_of_ble_eq_true rfl), (Nat.le_of_ble_eq_true rfl)⟩ ⟨(Nat.zero_le _), (Nat.zero_le _)⟩ rfl rfl (Nat.le_of_ble_eq_true rfl) dX6_lettersFrom_19 ?_
      intro v9 f9 z9; rw [z9.1, z9.2]
      refine gz_if_eq (tgt := 31) dX6_lettersFrom_22 (by decide) (fun c_22 => ?_) (fun c_22 => ?_)
      ·
        refine gz_iload_n dX6_lettersFrom_31 rfl rfl ?_
        exact gz_iret rfl dX6_lettersFrom_32 (Nat.zero_le _) (Nat.zero_le _) ((by rw [ltrL, if_neg c_6, if_pos c_22] at hq; exact hq))
      ·
        refine gz_iinc (v := (i + 1)) (lv' := [(2, .int (i + 1)), (0, .ref rd), (1, .int x)]) dX6_lettersFrom_25 rfl rfl (by decide) rfl ?_
        refine gz_goto (tgt := 2) dX6_lettersFrom_28 (by decide) ?_
        refine gz_sub (lv' := [(2, .int (i + 1)), (0, .ref rd), (1, .int x)]) (by simp [List.lookup]) ?_
        exact ih (i + 1) (by have e13 : (13 : Int32).toInt = 13 := rfl; have e0 : (0 : Int32).toInt = 0 := rfl; have e2 : (2 : Int32).toInt = 2 := rfl; have e1 : (1 : Int32).toInt = 1 := rfl; have e6 : (6 : Int32).toInt = 6 := rfl; have em2 : (-2 : Int32).toInt = -2 := rfl; have eb : (400 : Int32).toInt = 400 := rfl; simp only [fl_le] at c_6; have hx := T_add (rfl : i.toInt = i.toInt) e1 (by omega); omega) (by rw [ltrL, if_neg c_6, if_neg c_22] at hq; exact hq)

def ltrF (len : Int32) (n : Nat) (tg : Nat → Int32) (x : Int32) : Int32 := ltrL len n tg x 401 0
set_option maxHeartbeats 4000000 in
set_option maxRecDepth 100000 in
theorem k_X6_lettersFrom {l : Launch} {D : va_G} {cy : Nat → ClassId} {b : Nat} {f : gMem} {rd tx tb p n : Nat} {len pl fa : Int32} {tg : Nat → Int32} {x : Int32} (hrd : f rd = some (.inr (6, [.ref tx, .ref p, .int pl, .int fa]))) (htx : f tx = some (.inr (9, [.ref tb, .int len]))) (htb : f tb = some (.inl (cy 1, n, .inl (tg)))) (hn : n < 2 ^ 31) : gC l D cy b yX6_lettersFrom cX6_lettersFrom 3 (some .int) 1 0 0 [.ref rd, .int x] f (pI fun r f2 => r = ltrF len n tg x ∧ f2 = f) := by
  refine gC_of (by decide) (Nat.le_of_ble_eq_true rfl) ?_
  show gG l _ _ _ D cy b cX6_lettersFrom 3 _ RX6 "lettersFrom" 0 0 f 0 [(0, .ref rd), (1, .int x)] []
  refine gz_iconst (v := 0) dX6_lettersFrom_0 (by decide) ?_
  refine gz_istore_n (lv' := [(2, .int 0), (0, .ref rd), (1, .int x)]) dX6_lettersFrom_1 rfl (by decide) rfl ?_
  exact l_X6_lettersFrom hrd htx htb hn 401 0 ⟨by decide, by decide, by decide⟩ ⟨_, rfl, rfl, rfl⟩

def rnuL (len : Int32) (n : Nat) (tg : Nat → Int32) (st : Int32)  : Nat → (Int32) → (Int32) → (Int32) → (Int32) → (Int32) × (Int32) × (Int32)
  | 0, _, _, pl, fa => (0, pl, fa)
  | k + 1, i, nu, pl, fa => (if 400 ≤ (i : Int32) then (if (i : Int32) = 0 then (lett (faiF fa st (if (i : Int32) = 0 then 0 else 1)) fun x1 => ((-1), pl, x1.2)) else (if (i : Int32) ≤ 5 then (nu, (st + i), fa) else (lett (faiF fa st (if (i : Int32) = 0 then 0 else 1)) fun x3 => ((-1), pl, x3.2)))) else (if ((digF (tAt len n tg (st + i))) : Int32) = 0 then (if (i : Int32) = 0 then (lett (faiF fa st (if (i : Int32) = 0 then 0 else 1)) fun x5 => ((-1), pl, x5.2)) else (if (i : Int32) ≤ 5 then (nu, (st + i), fa) else (lett (faiF fa st (if (i : Int32) = 0 then 0 else 1)) fun x7 => ((-1), pl, x7.2)))) else (rnuL len n tg st k (i + 1) (if 5 ≤ (i : Int32) then nu else (((nu * 10) + (tAt len n tg (st + i))) - 48)) pl fa)))
set_option maxHeartbeats 4000000 in
set_option maxRecDepth 100000 in
theorem l_X6_readNumber {l : Launch} {D : va_G} {cy : Nat → ClassId} {b mc ms : Nat} {f : gMem} {Po : Option Value → gMem → Prop} {rd tx tb p n : Nat} {len : Int32} {tg : Nat → Int32} {st : Int32} (hn : n < 2 ^ 31) : ∀ (k : Nat) (i : Int32) (nu : Int32) (pl : Int32) (fa : Int32) (fm : gMem), fr [rd] f fm → (fm rd = some (.inr (6, [.ref tx, .ref p, .int pl, .int fa]))) → (fm tx = some (.inr (9, [.ref tb, .int len]))) → (fm tb = some (.inl (cy 1, n, .inl (tg)))) → (0 ≤ i.toInt ∧ i.toInt ≤ 400 ∧ i.toInt + (k : Int) = 401) → (∀ (r : Int32) (f2 : gMem), r = (rnuL len n tg st k i nu pl fa).1 → f2 rd = some (.inr (6, [.ref tx, .ref p, .int (rnuL len n tg st k i nu pl fa).2.1, .int (rnuL len n tg st k i nu pl fa).2.2])) → fr [rd] f f2 → Po (some (.int r)) f2) → gG l (gRm 2 mc ms) (gQf D b Po mc ms) gTt D cy b cX6_readNumber 4 (some .int) RX6 "readNumber" 0 0 fm 9 [(3, .int i), (2, .int nu), (1, .int st), (0, .ref rd)] [] := by
  intro k
  induction k with
  | zero =>
    intro i nu pl fa fm hfr hrd htx htb hk hq
    exfalso; omega
  | succ k ih =>
    intro i nu pl fa fm hfr hrd htx htb hk hq
    refine gz_iload_n dX6_readNumber_9 rfl rfl ?_
    refine gz_sipush (v := 400) dX6_readNumber_10 (by decide) ?_
    refine gz_icmp_ge (tgt := 66) dX6_readNumber_13 (by decide) (fun c_13 => ?_) (fun c_13 => ?_)
    ·
      refine gz_iload_n dX6_readNumber_66 rfl rfl ?_
      refine gz_if_eq (tgt := 75) dX6_readNumber_67 (by decide) (fun c_67 => ?_) (fun c_67 => ?_)
      ·
        refine gz_aload_n dX6_readNumber_75 rfl rfl ?_
        refine gz_iload_n dX6_readNumber_76 rfl rfl ?_
        refine gz_iload_n dX6_readNumber_77 rfl rfl ?_
        refine gz_mrg (f2 := fm) (pc2 := 86) (lv2 := [(3, .int i), (2, .int nu), (1, .int st), (0, .ref rd)]) (st2 := [.int (if (i : Int32) = 0 then 0 else 1), .int st, .ref rd]) ?_ (fun hj78 => ?_)
        ·
          obtain ⟨x1, hx1⟩ : ∃ x0, (faiF fa st (if (i : Int32) = 0 then 0 else 1)) = x0 := ⟨_, rfl⟩
          refine scX6_39 (k_X6_fail (at_ := st) (kd := (if (i : Int32) = 0 then 0 else 1)) hrd) hrd ⟨(Nat.le_of_ble_eq_true rfl), (Nat.le_of_ble_eq_true rfl)⟩ ⟨(Nat.zero_le _), (Nat.zero_le _)⟩ rfl rfl (Nat.le_of_ble_eq_true rfl) dX6_readNumber_86 ?_
          rintro r1 f1 ⟨z1, hrd_1, hr1⟩; rw [hx1] at z1 hrd_1; rw [z1]
          have htx_1 : f1 tx = some (.inr (9, [.ref tb, .int len])) := hr1 _ _ htx (by simp only [List.mem_cons, List.not_mem_nil, or_false, not_or]; exact cne htx hrd (by simp))
          have htb_1 : f1 tb = some (.inl (cy 1, n, .inl (tg))) := hr1 _ _ htb (by simp only [List.mem_cons, List.not_mem_nil, or_false, not_or]; exact cne htb hrd (by simp))
          have hbx1 : x1.1 = 0 ∨ x1.1 = 1 := by rw [← hx1]; exact Or.inl rfl
          refine gz_pop dX6_readNumber_89 rfl ?_
          refine gz_iconst (v := (-1)) dX6_readNumber_90 (by decide) ?_
          exact gz_iret rfl dX6_readNumber_91 (Nat.zero_le _) (Nat.zero_le _) ((by rw [rnuL, if_pos c_13, if_pos c_67, lett_eq hx1] at hq; exact hq _ _ rfl hrd_1 (fr_tr hfr (fr_mo hr1 (by simp)))))
        ·
          refine gz_if_ne (tgt := 85) dX6_readNumber_78 (by decide) (fun c_78_2 => ?_) (fun c_78_2 => ?_)
          ·
            refine gz_iconst (v := 1) dX6_readNumber_85 (by decide) ?_
            exact gz_eq rfl rfl (rfl) (by first | (rw [if_neg c_78_2]; done) | (simp only [if_neg c_78_2]; done)) hj78
          ·
            refine gz_iconst (v := 0) dX6_readNumber_81 (by decide) ?_
            refine gz_goto (tgt := 86) dX6_readNumber_82 (by decide) ?_
            exact gz_eq rfl rfl (rfl) (by first | (rw [if_pos c_78_2]; done) | (simp only [if_pos c_78_2]; done)) hj78
      ·
        refine gz_iload_n dX6_readNumber_70 rfl rfl ?_
        refine gz_iconst (v := 5) dX6_readNumber_71 (by decide) ?_
        refine gz_icmp_le (tgt := 92) dX6_readNumber_72 (by decide) (fun c_72 => ?_) (fun c_72 => ?_)
        ·
          refine gz_aload_n dX6_readNumber_92 rfl rfl ?_
          refine gz_iload_n dX6_readNumber_93 rfl rfl ?_
          refine gz_iload_n dX6_readNumber_94 rfl rfl ?_
          refine gz_iadd dX6_readNumber_95 ?_
          refine spX6_19 hrd  (Nat.le_of_ble_eq_true rfl) dX6_readNumber_96 ?_
          obtain ⟨f2, hf2⟩ : ∃ gg : gMem, gg = va_up fm rd (some (.inr (6, [.ref tx, .ref p, .int (st + i), .int fa]))) := ⟨_, rfl⟩
          refine gz_eq (f2 := f2) hf2.symm rfl rfl rfl ?_
          have htx_2 : f2 tx = some (.inr (9, [.ref tb, .int len])) := by rw [hf2, va_up_ne _ _ (cne htx hrd (by simp))]; exact htx
          have htb_2 : f2 tb = some (.inl (cy 1, n, .inl (tg))) := by rw [hf2, va_up_ne _ _ (cne htb hrd (by simp))]; exact htb
          have hrd_2 : f2 rd = some (.inr (6, [.ref tx, .ref p, .int (st + i), .int fa])) := by rw [hf2]; exact va_up_self _ _ _
          refine gz_iload_n dX6_readNumber_99 rfl rfl ?_
          exact gz_iret rfl dX6_readNumber_100 (Nat.zero_le _) (Nat.zero_le _) ((by rw [rnuL, if_pos c_13, if_neg c_67, if_pos c_72] at hq; exact hq _ _ rfl hrd_2 (by rw [hf2]; exact fr_up hfr (by simp))))
        ·
          refine gz_aload_n dX6_readNumber_75 rfl rfl ?_
          refine gz_iload_n dX6_readNumber_76 rfl rfl ?_
          refine gz_iload_n dX6_readNumber_77 rfl rfl ?_
          refine gz_mrg (f2 := fm) (pc2 := 86) (lv2 := [(3, .int i), (2, .int nu), (1, .int st), (0, .ref rd)]) (st2 := [.int (if (i : Int32) = 0 then 0 else 1), .int st, .ref rd]) ?_ (fun hj78 => ?_)
          ·
            obtain ⟨x3, hx3⟩ : ∃ x0, (faiF fa st (if (i : Int32) = 0 then 0 else 1)) = x0 := ⟨_, rfl⟩
            refine scX6_39 (k_X6_fail (at_ := st) (kd := (if (i : Int32) = 0 then 0 else 1)) hrd) hrd ⟨(Nat.le_of_ble_eq_true rfl), (Nat.le_of_ble_eq_true rfl)⟩ ⟨(Nat.zero_le _), (Nat.zero_le _)⟩ rfl rfl (Nat.le_of_ble_eq_true rfl) dX6_readNumber_86 ?_
            rintro r3 f3 ⟨z3, hrd_3, hr3⟩; rw [hx3] at z3 hrd_3; rw [z3]
            have htx_3 : f3 tx = some (.inr (9, [.ref tb, .int len])) := hr3 _ _ htx (by simp only [List.mem_cons, List.not_mem_nil, or_false, not_or]; exact cne htx hrd (by simp))
            have htb_3 : f3 tb = some (.inl (cy 1, n, .inl (tg))) := hr3 _ _ htb (by simp only [List.mem_cons, List.not_mem_nil, or_false, not_or]; exact cne htb hrd (by simp))
            have hbx3 : x3.1 = 0 ∨ x3.1 = 1 := by rw [← hx3]; exact Or.inl rfl
            refine gz_pop dX6_readNumber_89 rfl ?_
            refine gz_iconst (v := (-1)) dX6_readNumber_90 (by decide) ?_
            exact gz_iret rfl dX6_readNumber_91 (Nat.zero_le _) (Nat.zero_le _) ((by rw [rnuL, if_pos c_13, if_neg c_67, if_neg c_72, lett_eq hx3] at hq; exact hq _ _ rfl hrd_3 (fr_tr hfr (fr_mo hr3 (by simp)))))
          ·
            refine gz_if_ne (tgt := 85) dX6_readNumber_78 (by decide) (fun c_78_4 => ?_) (fun c_78_4 => ?_)
            ·
              refine gz_iconst (v := 1) dX6_readNumber_85 (by decide) ?_
              exact gz_eq rfl rfl (rfl) (by first | (rw [if_neg c_78_4]; done) | (simp only [if_neg c_78_4]; done)) hj78
            ·
              refine gz_iconst (v := 0) dX6_readNumber_81 (by decide) ?_
              refine gz_goto (tgt := 86) dX6_readNumber_82 (by decide) ?_
              exact gz_eq rfl rfl (rfl) (by first | (rw [if_pos c_78_4]; done) | (simp only [if_pos c_78_4]; done)) hj78
    ·
      refine gz_aload_n dX6_readNumber_16 rfl rfl ?_
      refine sgX6_9 hrd rfl dX6_readNumber_17 ?_
      refine gz_iload_n dX6_readNumber_20 rfl rfl ?_
      refine gz_iload_n dX6_readNumber_21 rfl rfl ?_
      refine gz_iadd dX6_readNumber_22 ?_
      refine scX6_48 (k_X9_at (i := (st + i)) htx htb hn) htx ⟨(Nat.le_of_ble_eq_true rfl), (Nat.le_of_ble_eq_true rfl)⟩ ⟨(Nat.zero_le _), (Nat.zero_le _)⟩ rfl rfl (Nat.le_of_ble_eq_true rfl) dX6_readNumber_23 ?_
      intro v9 f9 z9; rw [z9.1, z9.2]
      refine scX6_105 (k_X11_isDigit (x := (tAt len n tg (st + i)))) ⟨(Nat.le_of_ble_eq_true rfl), (Nat.le_of_ble_eq_true rfl)⟩ ⟨(Nat.zero_le _), (Nat.zero_le _)⟩ rfl rfl (Nat.le_of_ble_eq_true rfl) dX6_readNumber_26 ?_
      intro v9 f9 z9; rw [z9.1, z9.2]
      refine gz_if_eq (tgt := 66) dX6_readNumber_29 (by decide) (fun c_29 => ?_) (fun c_29 => ?_)
      ·
        refine gz_iload_n dX6_readNumber_66 rfl rfl ?_
        refine gz_if_eq (tgt := 75) dX6_readNumber_67 (by decide) (fun c_67 => ?_) (fun c_67 => ?_)
        ·
          refine gz_aload_n dX6_readNumber_75 rfl rfl ?_
          refine gz_iload_n dX6_readNumber_76 rfl rfl ?_
          refine gz_iload_n dX6_readNumber_77 rfl rfl ?_
          refine gz_mrg (f2 := fm) (pc2 := 86) (lv2 := [(3, .int i), (2, .int nu), (1, .int st), (0, .ref rd)]) (st2 := [.int (if (i : Int32) = 0 then 0 else 1), .int st, .ref rd]) ?_ (fun hj78 => ?_)
          ·
            obtain ⟨x5, hx5⟩ : ∃ x0, (faiF fa st (if (i : Int32) = 0 then 0 else 1)) = x0 := ⟨_, rfl⟩
            refine scX6_39 (k_X6_fail (at_ := st) (kd := (if (i : Int32) = 0 then 0 else 1)) hrd) hrd ⟨(Nat.le_of_ble_eq_true rfl), (Nat.le_of_ble_eq_true rfl)⟩ ⟨(Nat.zero_le _), (Nat.zero_le _)⟩ rfl rfl (Nat.le_of_ble_eq_true rfl) dX6_readNumber_86 ?_
            rintro r4 f4 ⟨z4, hrd_4, hr4⟩; rw [hx5] at z4 hrd_4; rw [z4]
            have htx_4 : f4 tx = some (.inr (9, [.ref tb, .int len])) := hr4 _ _ htx (by simp only [List.mem_cons, List.not_mem_nil, or_false, not_or]; exact cne htx hrd (by simp))
            have htb_4 : f4 tb = some (.inl (cy 1, n, .inl (tg))) := hr4 _ _ htb (by simp only [List.mem_cons, List.not_mem_nil, or_false, not_or]; exact cne htb hrd (by simp))
            have hbx5 : x5.1 = 0 ∨ x5.1 = 1 := by rw [← hx5]; exact Or.inl rfl
            refine gz_pop dX6_readNumber_89 rfl ?_
            refine gz_iconst (v := (-1)) dX6_readNumber_90 (by decide) ?_
            exact gz_iret rfl dX6_readNumber_91 (Nat.zero_le _) (Nat.zero_le _) ((by rw [rnuL, if_neg c_13, if_pos c_29, if_pos c_67, lett_eq hx5] at hq; exact hq _ _ rfl hrd_4 (fr_tr hfr (fr_mo hr4 (by simp)))))
          ·
            refine gz_if_ne (tgt := 85) dX6_readNumber_78 (by decide) (fun c_78_6 => ?_) (fun c_78_6 => ?_)
            ·
              refine gz_iconst (v := 1) dX6_readNumber_85 (by decide) ?_
              exact gz_eq rfl rfl (rfl) (by first | (rw [if_neg c_78_6]; done) | (simp only [if_neg c_78_6]; done)) hj78
            ·
              refine gz_iconst (v := 0) dX6_readNumber_81 (by decide) ?_
              refine gz_goto (tgt := 86) dX6_readNumber_82 (by decide) ?_
              exact gz_eq rfl rfl (rfl) (by first | (rw [if_pos c_78_6]; done) | (simp only [if_pos c_78_6]; done)) hj78
        ·
          refine gz_iload_n dX6_readNumber_70 rfl rfl ?_
          refine gz_iconst (v := 5) dX6_readNumber_71 (by decide) ?_
          refine gz_icmp_le (tgt := 92) dX6_readNumber_72 (by decide) (fun c_72 => ?_) (fun c_72 => ?_)
          ·
            refine gz_aload_n dX6_readNumber_92 rfl rfl ?_
            refine gz_iload_n dX6_readNumber_93 rfl rfl ?_
            refine gz_iload_n dX6_readNumber_94 rfl rfl ?_
            refine gz_iadd dX6_readNumber_95 ?_
            refine spX6_19 hrd  (Nat.le_of_ble_eq_true rfl) dX6_readNumber_96 ?_
            obtain ⟨f5, hf5⟩ : ∃ gg : gMem, gg = va_up fm rd (some (.inr (6, [.ref tx, .ref p, .int (st + i), .int fa]))) := ⟨_, rfl⟩
            refine gz_eq (f2 := f5) hf5.symm rfl rfl rfl ?_
            have htx_5 : f5 tx = some (.inr (9, [.ref tb, .int len])) := by rw [hf5, va_up_ne _ _ (cne htx hrd (by simp))]; exact htx
            have htb_5 : f5 tb = some (.inl (cy 1, n, .inl (tg))) := by rw [hf5, va_up_ne _ _ (cne htb hrd (by simp))]; exact htb
            have hrd_5 : f5 rd = some (.inr (6, [.ref tx, .ref p, .int (st + i), .int fa])) := by rw [hf5]; exact va_up_self _ _ _
            refine gz_iload_n dX6_readNumber_99 rfl rfl ?_
            exact gz_iret rfl dX6_readNumber_100 (Nat.zero_le _) (Nat.zero_le _) ((by rw [rnuL, if_neg c_13, if_pos c_29, if_neg c_67, if_pos c_72] at hq; exact hq _ _ rfl hrd_5 (by rw [hf5]; exact fr_up hfr (by simp))))
          ·
            refine gz_aload_n dX6_readNumber_75 rfl rfl ?_
            refine gz_iload_n dX6_readNumber_76 rfl rfl ?_
            refine gz_iload_n dX6_readNumber_77 rfl rfl ?_
            refine gz_mrg (f2 := fm) (pc2 := 86) (lv2 := [(3, .int i), (2, .int nu), (1, .int st), (0, .ref rd)]) (st2 := [.int (if (i : Int32) = 0 then 0 else 1), .int st, .ref rd]) ?_ (fun hj78 => ?_)
            ·
              obtain ⟨x7, hx7⟩ : ∃ x0, (faiF fa st (if (i : Int32) = 0 then 0 else 1)) = x0 := ⟨_, rfl⟩
              refine scX6_39 (k_X6_fail (at_ := st) (kd := (if (i : Int32) = 0 then 0 else 1)) hrd) hrd ⟨(Nat.le_of_ble_eq_true rfl), (Nat.le_of_ble_eq_true rfl)⟩ ⟨(Nat.zero_le _), (Nat.zero_le _)⟩ rfl rfl (Nat.le_of_ble_eq_true rfl) dX6_readNumber_86 ?_
              rintro r6 f6 ⟨z6, hrd_6, hr6⟩; rw [hx7] at z6 hrd_6; rw [z6]
              have htx_6 : f6 tx = some (.inr (9, [.ref tb, .int len])) := hr6 _ _ htx (by simp only [List.mem_cons, List.not_mem_nil, or_false, not_or]; exact cne htx hrd (by simp))
              have htb_6 : f6 tb = some (.inl (cy 1, n, .inl (tg))) := hr6 _ _ htb (by simp only [List.mem_cons, List.not_mem_nil, or_false, not_or]; exact cne htb hrd (by simp))
              have hbx7 : x7.1 = 0 ∨ x7.1 = 1 := by rw [← hx7]; exact Or.inl rfl
              refine gz_pop dX6_readNumber_89 rfl ?_
              refine gz_iconst (v := (-1)) dX6_readNumber_90 (by decide) ?_
              exact gz_iret rfl dX6_readNumber_91 (Nat.zero_le _) (Nat.zero_le _) ((by rw [rnuL, if_neg c_13, if_pos c_29, if_neg c_67, if_neg c_72, lett_eq hx7] at hq; exact hq _ _ rfl hrd_6 (fr_tr hfr (fr_mo hr6 (by simp)))))
            ·
              refine gz_if_ne (tgt := 85) dX6_readNumber_78 (by decide) (fun c_78_8 => ?_) (fun c_78_8 => ?_)
              ·
                refine gz_iconst (v := 1) dX6_readNumber_85 (by decide) ?_
                exact gz_eq rfl rfl (rfl) (by first | (rw [if_neg c_78_8]; done) | (simp only [if_neg c_78_8]; done)) hj78
              ·
                refine gz_iconst (v := 0) dX6_readNumber_81 (by decide) ?_
                refine gz_goto (tgt := 86) dX6_readNumber_82 (by decide) ?_
                exact gz_eq rfl rfl (rfl) (by first | (rw [if_pos c_78_8]; done) | (simp only [if_pos c_78_8]; done)) hj78
      ·
        refine gz_iload_n dX6_readNumber_32 rfl rfl ?_
        refine gz_iconst (v := 5) dX6_readNumber_33 (by decide) ?_
        refine gz_mrg (f2 := fm) (pc2 := 59) (lv2 := [(3, .int i), (2, .int nu), (1, .int st), (0, .ref rd)]) (st2 := [.int (if 5 ≤ (i : Int32) then nu else (((nu * 10) + (tAt len n tg (st + i))) - 48))]) ?_ (fun hj34 => ?_)
        ·
          refine gz_istore_n (lv' := [(2, .int (if 5 ≤ (i : Int32) then nu else (((nu * 10) + (tAt len n tg (st + i))) - 48))), (3, .int i), (1, .int st), (0, .ref rd)]) dX6_readNumber_59 rfl (by decide) rfl ?_
          refine gz_iinc (v := (i + 1)) (lv' := [(3, .int (i + 1)), (2, .int (if 5 ≤ (i : Int32) then nu else (((nu * 10) + (tAt len n tg (st + i))) - 48))), (1, .int st), (0, .ref rd)]) dX6_readNumber_60 rfl rfl (by decide) rfl ?_
          refine gz_goto (tgt := 9) dX6_readNumber_63 (by decide) ?_
          refine gz_sub (lv' := [(3, .int (i + 1)), (2, .int (if 5 ≤ (i : Int32) then nu else (((nu * 10) + (tAt len n tg (st + i))) - 48))), (1, .int st), (0, .ref rd)]) (by simp [List.lookup]) ?_
          exact ih (i + 1) (if 5 ≤ (i : Int32) then nu else (((nu * 10) + (tAt len n tg (st + i))) - 48)) pl fa _ hfr hrd htx htb (by have e13 : (13 : Int32).toInt = 13 := rfl; have e0 : (0 : Int32).toInt = 0 := rfl; have e2 : (2 : Int32).toInt = 2 := rfl; have e1 : (1 : Int32).toInt = 1 := rfl; have e6 : (6 : Int32).toInt = 6 := rfl; have em2 : (-2 : Int32).toInt = -2 := rfl; have eb : (400 : Int32).toInt = 400 := rfl; simp only [fl_le] at c_13; have hx := T_add (rfl : i.toInt = i.toInt) e1 (by omega); omega) (by rw [rnuL, if_neg c_13, if_neg c_29] at hq; exact hq)
        ·
          refine gz_icmp_ge (tgt := 58) dX6_readNumber_34 (by decide) (fun c_34_9 => ?_) (fun c_34_9 => ?_)
          ·
            refine gz_iload_n dX6_readNumber_58 rfl rfl ?_
            exact gz_eq rfl rfl (rfl) (by first | (rw [if_pos c_34_9]; done) | (simp only [if_pos c_34_9]; done)) hj34
          ·
            refine gz_iload_n dX6_readNumber_37 rfl rfl ?_
            refine gz_bipush (v := 10) dX6_readNumber_38 (by decide) ?_
            refine gz_imul dX6_readNumber_40 ?_
            refine gz_aload_n dX6_readNumber_41 rfl rfl ?_
            refine sgX6_9 hrd rfl dX6_readNumber_42 ?_
            refine gz_iload_n dX6_readNumber_45 rfl rfl ?_
            refine gz_iload_n dX6_readNumber_46 rfl rfl ?_
            refine gz_iadd dX6_readNumber_47 ?_
            refine scX6_48 (k_X9_at (i := (st + i)) htx htb hn) htx ⟨(Nat.le_of_ble_eq_true rfl), (Nat.le_of_ble_eq_true rfl)⟩ ⟨(Nat.zero_le _), (Nat.zero_le _)⟩ rfl rfl (Nat.le_of_ble_eq_true rfl) dX6_readNumber_48 ?_
            intro v9 f9 z9; rw [z9.1, z9.2]
            refine gz_iadd dX6_readNumber_51 ?_
            refine gz_bipush (v := 48) dX6_readNumber_52 (by decide) ?_
            refine gz_isub dX6_readNumber_54 ?_
            refine gz_goto (tgt := 59) dX6_readNumber_55 (by decide) ?_
            exact gz_eq rfl rfl (rfl) (by first | (rw [if_neg c_34_9]; done) | (simp only [if_neg c_34_9]; done)) hj34

def rnuF (len : Int32) (n : Nat) (tg : Nat → Int32) (pl fa : Int32) : (Int32) × (Int32) × (Int32) := (rnuL len n tg pl 401 0 0 pl fa)
set_option maxHeartbeats 4000000 in
set_option maxRecDepth 100000 in
theorem k_X6_readNumber {l : Launch} {D : va_G} {cy : Nat → ClassId} {b : Nat} {f : gMem} {rd tx tb p n : Nat} {len pl fa : Int32} {tg : Nat → Int32} (hrd : f rd = some (.inr (6, [.ref tx, .ref p, .int pl, .int fa]))) (htx : f tx = some (.inr (9, [.ref tb, .int len]))) (htb : f tb = some (.inl (cy 1, n, .inl (tg)))) (hn : n < 2 ^ 31) : gC l D cy b yX6_readNumber cX6_readNumber 4 (some .int) 2 0 0 [.ref rd] f (pI fun r f2 => r = (rnuF len n tg pl fa).1 ∧ f2 rd = some (.inr (6, [.ref tx, .ref p, .int (rnuF len n tg pl fa).2.1, .int (rnuF len n tg pl fa).2.2])) ∧ fr [rd] f f2) := by
  refine gC_of (by decide) (Nat.le_of_ble_eq_true rfl) ?_
  show gG l _ _ _ D cy b cX6_readNumber 4 _ RX6 "readNumber" 0 0 f 0 [(0, .ref rd)] []
  refine gz_aload_n dX6_readNumber_0 rfl rfl ?_
  refine sgX6_19 hrd rfl dX6_readNumber_1 ?_
  refine gz_istore_n (lv' := [(1, .int pl), (0, .ref rd)]) dX6_readNumber_4 rfl (by decide) rfl ?_
  refine gz_iconst (v := 0) dX6_readNumber_5 (by decide) ?_
  refine gz_istore_n (lv' := [(2, .int 0), (1, .int pl), (0, .ref rd)]) dX6_readNumber_6 rfl (by decide) rfl ?_
  refine gz_iconst (v := 0) dX6_readNumber_7 (by decide) ?_
  refine gz_istore_n (lv' := [(3, .int 0), (2, .int 0), (1, .int pl), (0, .ref rd)]) dX6_readNumber_8 rfl (by decide) rfl ?_
  exact l_X6_readNumber hn 401 0 0 pl fa _ fr_rf hrd htx htb (⟨by decide, by decide, by decide⟩) (fun r f2 z0 z1 zf => ⟨_, rfl, (by rw [(show rnuF len n tg pl fa = _ from (by unfold rnuF; rfl))]; exact z0), (by rw [(show rnuF len n tg pl fa = _ from (by unfold rnuF; rfl))]; exact z1), zf⟩)

def rnvF (len : Int32) (n : Nat) (tg : Nat → Int32) (pl fa lg : Int32) : (Int32) × (Int32) × (Int32) := (if (lg : Int32) = 3 then (if ((tAt len n tg pl) : Int32) = 100 then (if ((tAt len n tg (pl + 1)) : Int32) = 97 then (if ((tAt len n tg (pl + 2)) : Int32) = 121 then ((-1), (pl + lg), fa) else (if (lg : Int32) = 1 then (if ((tAt len n tg pl) : Int32) = 115 then (if (((tAt len n tg (pl + 1)) - 48) : Int32) < 0 then (lett (faiF fa (pl + 1) 0) fun x14 => ((-1), pl, x14.2)) else (if (((tAt len n tg (pl + 1)) - 48) : Int32) < 6 then (((-2) - ((tAt len n tg (pl + 1)) - 48)), (pl + 2), fa) else (lett (faiF fa (pl + 1) 0) fun x15 => ((-1), pl, x15.2)))) else (lett (faiF fa pl 0) fun x16 => ((-1), pl, x16.2))) else (lett (faiF fa pl 0) fun x13 => ((-1), pl, x13.2)))) else (if (lg : Int32) = 1 then (if ((tAt len n tg pl) : Int32) = 115 then (if (((tAt len n tg (pl + 1)) - 48) : Int32) < 0 then (lett (faiF fa (pl + 1) 0) fun x10 => ((-1), pl, x10.2)) else (if (((tAt len n tg (pl + 1)) - 48) : Int32) < 6 then (((-2) - ((tAt len n tg (pl + 1)) - 48)), (pl + 2), fa) else (lett (faiF fa (pl + 1) 0) fun x11 => ((-1), pl, x11.2)))) else (lett (faiF fa pl 0) fun x12 => ((-1), pl, x12.2))) else (lett (faiF fa pl 0) fun x9 => ((-1), pl, x9.2)))) else (if (lg : Int32) = 1 then (if ((tAt len n tg pl) : Int32) = 115 then (if (((tAt len n tg (pl + 1)) - 48) : Int32) < 0 then (lett (faiF fa (pl + 1) 0) fun x6 => ((-1), pl, x6.2)) else (if (((tAt len n tg (pl + 1)) - 48) : Int32) < 6 then (((-2) - ((tAt len n tg (pl + 1)) - 48)), (pl + 2), fa) else (lett (faiF fa (pl + 1) 0) fun x7 => ((-1), pl, x7.2)))) else (lett (faiF fa pl 0) fun x8 => ((-1), pl, x8.2))) else (lett (faiF fa pl 0) fun x5 => ((-1), pl, x5.2)))) else (if (lg : Int32) = 1 then (if ((tAt len n tg pl) : Int32) = 115 then (if (((tAt len n tg (pl + 1)) - 48) : Int32) < 0 then (lett (faiF fa (pl + 1) 0) fun x2 => ((-1), pl, x2.2)) else (if (((tAt len n tg (pl + 1)) - 48) : Int32) < 6 then (((-2) - ((tAt len n tg (pl + 1)) - 48)), (pl + 2), fa) else (lett (faiF fa (pl + 1) 0) fun x3 => ((-1), pl, x3.2)))) else (lett (faiF fa pl 0) fun x4 => ((-1), pl, x4.2))) else (lett (faiF fa pl 0) fun x1 => ((-1), pl, x1.2))))
set_option maxHeartbeats 4000000 in
set_option maxRecDepth 100000 in
theorem k_X6_readNamedValue {l : Launch} {D : va_G} {cy : Nat → ClassId} {b : Nat} {f : gMem} {rd tx tb p n : Nat} {len pl fa : Int32} {tg : Nat → Int32} {lg : Int32} (hrd : f rd = some (.inr (6, [.ref tx, .ref p, .int pl, .int fa]))) (htx : f tx = some (.inr (9, [.ref tb, .int len]))) (htb : f tb = some (.inl (cy 1, n, .inl (tg)))) (hn : n < 2 ^ 31) : gC l D cy b yX6_readNamedValue cX6_readNamedValue 4 (some .int) 2 0 0 [.ref rd, .int lg] f (pI fun r f2 => r = (rnvF len n tg pl fa lg).1 ∧ f2 rd = some (.inr (6, [.ref tx, .ref p, .int (rnvF len n tg pl fa lg).2.1, .int (rnvF len n tg pl fa lg).2.2])) ∧ fr [rd] f f2) := by
  refine gC_of (by decide) (Nat.le_of_ble_eq_true rfl) ?_
  show gG l _ _ _ D cy b cX6_readNamedValue 4 _ RX6 "readNamedValue" 0 0 f 0 [(0, .ref rd), (1, .int lg)] []
  refine gz_aload_n dX6_readNamedValue_0 rfl rfl ?_
  refine sgX6_19 hrd rfl dX6_readNamedValue_1 ?_
  refine gz_istore_n (lv' := [(2, .int pl), (0, .ref rd), (1, .int lg)]) dX6_readNamedValue_4 rfl (by decide) rfl ?_
  refine gz_iload_n dX6_readNamedValue_5 rfl rfl ?_
  refine gz_iconst (v := 3) dX6_readNamedValue_6 (by decide) ?_
  refine gz_icmp_ne (tgt := 62) dX6_readNamedValue_7 (by decide) (fun c_7 => ?_) (fun c_7 => ?_)
  ·
    refine gz_iload_n dX6_readNamedValue_62 rfl rfl ?_
    refine gz_iconst (v := 1) dX6_readNamedValue_63 (by decide) ?_
    refine gz_icmp_ne (tgt := 80) dX6_readNamedValue_64 (by decide) (fun c_64 => ?_) (fun c_64 => ?_)
    ·
      refine gz_aload_n dX6_readNamedValue_80 rfl rfl ?_
      refine gz_iload_n dX6_readNamedValue_81 rfl rfl ?_
      refine gz_iconst (v := 0) dX6_readNamedValue_82 (by decide) ?_
      obtain ⟨x1, hx1⟩ : ∃ x0, (faiF fa pl 0) = x0 := ⟨_, rfl⟩
      refine scX6_39 (k_X6_fail (at_ := pl) (kd := 0) hrd) hrd ⟨(Nat.le_of_ble_eq_true rfl), (Nat.le_of_ble_eq_true rfl)⟩ ⟨(Nat.le_of_ble_eq_true rfl), (Nat.le_of_ble_eq_true rfl)⟩ rfl rfl (Nat.le_of_ble_eq_true rfl) dX6_readNamedValue_83 ?_
      rintro r1 f1 ⟨z1, hrd_1, hr1⟩; rw [hx1] at z1 hrd_1; rw [z1]
      have htx_1 : f1 tx = some (.inr (9, [.ref tb, .int len])) := hr1 _ _ htx (by simp only [List.mem_cons, List.not_mem_nil, or_false, not_or]; exact cne htx hrd (by simp))
      have htb_1 : f1 tb = some (.inl (cy 1, n, .inl (tg))) := hr1 _ _ htb (by simp only [List.mem_cons, List.not_mem_nil, or_false, not_or]; exact cne htb hrd (by simp))
      have hbx1 : x1.1 = 0 ∨ x1.1 = 1 := by rw [← hx1]; exact Or.inl rfl
      refine gz_pop dX6_readNamedValue_86 rfl ?_
      refine gz_iconst (v := (-1)) dX6_readNamedValue_87 (by decide) ?_
      exact gz_iret rfl dX6_readNamedValue_88 (Nat.le_of_ble_eq_true rfl) (Nat.le_of_ble_eq_true rfl) (⟨_, rfl, (by rw [(show rnvF len n tg pl fa lg = _ from (by unfold rnvF; rw [if_neg c_7, if_neg c_64, lett_eq hx1]))]), (by rw [(show rnvF len n tg pl fa lg = _ from (by unfold rnvF; rw [if_neg c_7, if_neg c_64, lett_eq hx1]))]; exact hrd_1), (fr_tr fr_rf (fr_mo hr1 (by simp)))⟩)
    ·
      refine gz_aload_n dX6_readNamedValue_67 rfl rfl ?_
      refine sgX6_9 hrd rfl dX6_readNamedValue_68 ?_
      refine gz_iload_n dX6_readNamedValue_71 rfl rfl ?_
      refine scX6_48 (k_X9_at (i := pl) htx htb hn) htx ⟨(Nat.le_of_ble_eq_true rfl), (Nat.le_of_ble_eq_true rfl)⟩ ⟨(Nat.le_of_ble_eq_true rfl), (Nat.le_of_ble_eq_true rfl)⟩ rfl rfl (Nat.le_of_ble_eq_true rfl) dX6_readNamedValue_72 ?_
      intro v9 f9 z9; rw [z9.1, z9.2]
      refine gz_bipush (v := 115) dX6_readNamedValue_75 (by decide) ?_
      refine gz_icmp_eq (tgt := 89) dX6_readNamedValue_77 (by decide) (fun c_77 => ?_) (fun c_77 => ?_)
      ·
        refine gz_aload_n dX6_readNamedValue_89 rfl rfl ?_
        refine sgX6_9 hrd rfl dX6_readNamedValue_90 ?_
        refine gz_iload_n dX6_readNamedValue_93 rfl rfl ?_
        refine gz_iconst (v := 1) dX6_readNamedValue_94 (by decide) ?_
        refine gz_iadd dX6_readNamedValue_95 ?_
        refine scX6_48 (k_X9_at (i := (pl + 1)) htx htb hn) htx ⟨(Nat.le_of_ble_eq_true rfl), (Nat.le_of_ble_eq_true rfl)⟩ ⟨(Nat.le_of_ble_eq_true rfl), (Nat.le_of_ble_eq_true rfl)⟩ rfl rfl (Nat.le_of_ble_eq_true rfl) dX6_readNamedValue_96 ?_
        intro v9 f9 z9; rw [z9.1, z9.2]
        refine gz_bipush (v := 48) dX6_readNamedValue_99 (by decide) ?_
        refine gz_isub dX6_readNamedValue_101 ?_
        refine gz_istore_n (lv' := [(3, .int ((tAt len n tg (pl + 1)) - 48)), (2, .int pl), (0, .ref rd), (1, .int lg)]) dX6_readNamedValue_102 rfl (by decide) rfl ?_
        refine gz_iload_n dX6_readNamedValue_103 rfl rfl ?_
        refine gz_if_lt (tgt := 113) dX6_readNamedValue_104 (by decide) (fun c_104 => ?_) (fun c_104 => ?_)
        ·
          refine gz_aload_n dX6_readNamedValue_113 rfl rfl ?_
          refine gz_iload_n dX6_readNamedValue_114 rfl rfl ?_
          refine gz_iconst (v := 1) dX6_readNamedValue_115 (by decide) ?_
          refine gz_iadd dX6_readNamedValue_116 ?_
          refine gz_iconst (v := 0) dX6_readNamedValue_117 (by decide) ?_
          obtain ⟨x2, hx2⟩ : ∃ x0, (faiF fa (pl + 1) 0) = x0 := ⟨_, rfl⟩
          refine scX6_39 (k_X6_fail (at_ := (pl + 1)) (kd := 0) hrd) hrd ⟨(Nat.le_of_ble_eq_true rfl), (Nat.le_of_ble_eq_true rfl)⟩ ⟨(Nat.le_of_ble_eq_true rfl), (Nat.le_of_ble_eq_true rfl)⟩ rfl rfl (Nat.le_of_ble_eq_true rfl) dX6_readNamedValue_118 ?_
          rintro r2 f2 ⟨z2, hrd_2, hr2⟩; rw [hx2] at z2 hrd_2; rw [z2]
          have htx_2 : f2 tx = some (.inr (9, [.ref tb, .int len])) := hr2 _ _ htx (by simp only [List.mem_cons, List.not_mem_nil, or_false, not_or]; exact cne htx hrd (by simp))
          have htb_2 : f2 tb = some (.inl (cy 1, n, .inl (tg))) := hr2 _ _ htb (by simp only [List.mem_cons, List.not_mem_nil, or_false, not_or]; exact cne htb hrd (by simp))
          have hbx2 : x2.1 = 0 ∨ x2.1 = 1 := by rw [← hx2]; exact Or.inl rfl
          refine gz_pop dX6_readNamedValue_121 rfl ?_
          refine gz_iconst (v := (-1)) dX6_readNamedValue_122 (by decide) ?_
          exact gz_iret rfl dX6_readNamedValue_123 (Nat.le_of_ble_eq_true rfl) (Nat.le_of_ble_eq_true rfl) (⟨_, rfl, (by rw [(show rnvF len n tg pl fa lg = _ from (by unfold rnvF; rw [if_neg c_7, if_pos c_64, if_pos c_77, if_pos c_104, lett_eq hx2]))]), (by rw [(show rnvF len n tg pl fa lg = _ from (by unfold rnvF; rw [if_neg c_7, if_pos c_64, if_pos c_77, if_pos c_104, lett_eq hx2]))]; exact hrd_2), (fr_tr fr_rf (fr_mo hr2 (by simp)))⟩)
        ·
          refine gz_iload_n dX6_readNamedValue_107 rfl rfl ?_
          refine gz_bipush (v := 6) dX6_readNamedValue_108 (by decide) ?_
          refine gz_icmp_lt (tgt := 124) dX6_readNamedValue_110 (by decide) (fun c_110 => ?_) (fun c_110 => ?_)
          ·
            refine gz_aload_n dX6_readNamedValue_124 rfl rfl ?_
            refine gz_iload_n dX6_readNamedValue_125 rfl rfl ?_
            refine gz_iconst (v := 2) dX6_readNamedValue_126 (by decide) ?_
            refine gz_iadd dX6_readNamedValue_127 ?_
            refine spX6_19 hrd  (Nat.le_of_ble_eq_true rfl) dX6_readNamedValue_128 ?_
            obtain ⟨f3, hf3⟩ : ∃ gg : gMem, gg = va_up f rd (some (.inr (6, [.ref tx, .ref p, .int (pl + 2), .int fa]))) := ⟨_, rfl⟩
            refine gz_eq (f2 := f3) hf3.symm rfl rfl rfl ?_
            have htx_3 : f3 tx = some (.inr (9, [.ref tb, .int len])) := by rw [hf3, va_up_ne _ _ (cne htx hrd (by simp))]; exact htx
            have htb_3 : f3 tb = some (.inl (cy 1, n, .inl (tg))) := by rw [hf3, va_up_ne _ _ (cne htb hrd (by simp))]; exact htb
            have hrd_3 : f3 rd = some (.inr (6, [.ref tx, .ref p, .int (pl + 2), .int fa])) := by rw [hf3]; exact va_up_self _ _ _
            refine gz_bipush (v := (-2)) dX6_readNamedValue_131 (by decide) ?_
            refine gz_iload_n dX6_readNamedValue_133 rfl rfl ?_
            refine gz_isub dX6_readNamedValue_134 ?_
            exact gz_iret rfl dX6_readNamedValue_135 (Nat.le_of_ble_eq_true rfl) (Nat.le_of_ble_eq_true rfl) (⟨_, rfl, (by rw [(show rnvF len n tg pl fa lg = _ from (by unfold rnvF; rw [if_neg c_7, if_pos c_64, if_pos c_77, if_neg c_104, if_pos c_110]))]), (by rw [(show rnvF len n tg pl fa lg = _ from (by unfold rnvF; rw [if_neg c_7, if_pos c_64, if_pos c_77, if_neg c_104, if_pos c_110]))]; exact hrd_3), (by rw [hf3]; exact fr_up fr_rf (by simp))⟩)
          ·
            refine gz_aload_n dX6_readNamedValue_113 rfl rfl ?_
            refine gz_iload_n dX6_readNamedValue_114 rfl rfl ?_
            refine gz_iconst (v := 1) dX6_readNamedValue_115 (by decide) ?_
            refine gz_iadd dX6_readNamedValue_116 ?_
            refine gz_iconst (v := 0) dX6_readNamedValue_117 (by decide) ?_
            obtain ⟨x3, hx3⟩ : ∃ x0, (faiF fa (pl + 1) 0) = x0 := ⟨_, rfl⟩
            refine scX6_39 (k_X6_fail (at_ := (pl + 1)) (kd := 0) hrd) hrd ⟨(Nat.le_of_ble_eq_true rfl), (Nat.le_of_ble_eq_true rfl)⟩ ⟨(Nat.le_of_ble_eq_true rfl), (Nat.le_of_ble_eq_true rfl)⟩ rfl rfl (Nat.le_of_ble_eq_true rfl) dX6_readNamedValue_118 ?_
            rintro r4 f4 ⟨z4, hrd_4, hr4⟩; rw [hx3] at z4 hrd_4; rw [z4]
            have htx_4 : f4 tx = some (.inr (9, [.ref tb, .int len])) := hr4 _ _ htx (by simp only [List.mem_cons, List.not_mem_nil, or_false, not_or]; exact cne htx hrd (by simp))
            have htb_4 : f4 tb = some (.inl (cy 1, n, .inl (tg))) := hr4 _ _ htb (by simp only [List.mem_cons, List.not_mem_nil, or_false, not_or]; exact cne htb hrd (by simp))
            have hbx3 : x3.1 = 0 ∨ x3.1 = 1 := by rw [← hx3]; exact Or.inl rfl
            refine gz_pop dX6_readNamedValue_121 rfl ?_
            refine gz_iconst (v := (-1)) dX6_readNamedValue_122 (by decide) ?_
            exact gz_iret rfl dX6_readNamedValue_123 (Nat.le_of_ble_eq_true rfl) (Nat.le_of_ble_eq_true rfl) (⟨_, rfl, (by rw [(show rnvF len n tg pl fa lg = _ from (by unfold rnvF; rw [if_neg c_7, if_pos c_64, if_pos c_77, if_neg c_104, if_neg c_110, lett_eq hx3]))]), (by rw [(show rnvF len n tg pl fa lg = _ from (by unfold rnvF; rw [if_neg c_7, if_pos c_64, if_pos c_77, if_neg c_104, if_neg c_110, lett_eq hx3]))]; exact hrd_4), (fr_tr fr_rf (fr_mo hr4 (by simp)))⟩)
      ·
        refine gz_aload_n dX6_readNamedValue_80 rfl rfl ?_
        refine gz_iload_n dX6_readNamedValue_81 rfl rfl ?_
        refine gz_iconst (v := 0) dX6_readNamedValue_82 (by decide) ?_
        obtain ⟨x4, hx4⟩ : ∃ x0, (faiF fa pl 0) = x0 := ⟨_, rfl⟩
        refine scX6_39 (k_X6_fail (at_ := pl) (kd := 0) hrd) hrd ⟨(Nat.le_of_ble_eq_true rfl), (Nat.le_of_ble_eq_true rfl)⟩ ⟨(Nat.le_of_ble_eq_true rfl), (Nat.le_of_ble_eq_true rfl)⟩ rfl rfl (Nat.le_of_ble_eq_true rfl) dX6_readNamedValue_83 ?_
        rintro r5 f5 ⟨z5, hrd_5, hr5⟩; rw [hx4] at z5 hrd_5; rw [z5]
        have htx_5 : f5 tx = some (.inr (9, [.ref tb, .int len])) := hr5 _ _ htx (by simp only [List.mem_cons, List.not_mem_nil, or_false, not_or]; exact cne htx hrd (by simp))
        have htb_5 : f5 tb = some (.inl (cy 1, n, .inl (tg))) := hr5 _ _ htb (by simp only [List.mem_cons, List.not_mem_nil, or_false, not_or]; exact cne htb hrd (by simp))
        have hbx4 : x4.1 = 0 ∨ x4.1 = 1 := by rw [← hx4]; exact Or.inl rfl
        refine gz_pop dX6_readNamedValue_86 rfl ?_
        refine gz_iconst (v := (-1)) dX6_readNamedValue_87 (by decide) ?_
        exact gz_iret rfl dX6_readNamedValue_88 (Nat.le_of_ble_eq_true rfl) (Nat.le_of_ble_eq_true rfl) (⟨_, rfl, (by rw [(show rnvF len n tg pl fa lg = _ from (by unfold rnvF; rw [if_neg c_7, if_pos c_64, if_neg c_77, lett_eq hx4]))]), (by rw [(show rnvF len n tg pl fa lg = _ from (by unfold rnvF; rw [if_neg c_7, if_pos c_64, if_neg c_77, lett_eq hx4]))]; exact hrd_5), (fr_tr fr_rf (fr_mo hr5 (by simp)))⟩)
  ·
    refine gz_aload_n dX6_readNamedValue_10 rfl rfl ?_
    refine sgX6_9 hrd rfl dX6_readNamedValue_11 ?_
    refine gz_iload_n dX6_readNamedValue_14 rfl rfl ?_
    refine scX6_48 (k_X9_at (i := pl) htx htb hn) htx ⟨(Nat.le_of_ble_eq_true rfl), (Nat.le_of_ble_eq_true rfl)⟩ ⟨(Nat.le_of_ble_eq_true rfl), (Nat.le_of_ble_eq_true rfl)⟩ rfl rfl (Nat.le_of_ble_eq_true rfl) dX6_readNamedValue_15 ?_
    intro v9 f9 z9; rw [z9.1, z9.2]
    refine gz_bipush (v := 100) dX6_readNamedValue_18 (by decide) ?_
    refine gz_icmp_ne (tgt := 62) dX6_readNamedValue_20 (by decide) (fun c_20 => ?_) (fun c_20 => ?_)
    ·
      refine gz_iload_n dX6_readNamedValue_62 rfl rfl ?_
      refine gz_iconst (v := 1) dX6_readNamedValue_63 (by decide) ?_
      refine gz_icmp_ne (tgt := 80) dX6_readNamedValue_64 (by decide) (fun c_64 => ?_) (fun c_64 => ?_)
      ·
        refine gz_aload_n dX6_readNamedValue_80 rfl rfl ?_
        refine gz_iload_n dX6_readNamedValue_81 rfl rfl ?_
        refine gz_iconst (v := 0) dX6_readNamedValue_82 (by decide) ?_
        obtain ⟨x5, hx5⟩ : ∃ x0, (faiF fa pl 0) = x0 := ⟨_, rfl⟩
        refine scX6_39 (k_X6_fail (at_ := pl) (kd := 0) hrd) hrd ⟨(Nat.le_of_ble_eq_true rfl), (Nat.le_of_ble_eq_true rfl)⟩ ⟨(Nat.le_of_ble_eq_true rfl), (Nat.le_of_ble_eq_true rfl)⟩ rfl rfl (Nat.le_of_ble_eq_true rfl) dX6_readNamedValue_83 ?_
        rintro r6 f6 ⟨z6, hrd_6, hr6⟩; rw [hx5] at z6 hrd_6; rw [z6]
        have htx_6 : f6 tx = some (.inr (9, [.ref tb, .int len])) := hr6 _ _ htx (by simp only [List.mem_cons, List.not_mem_nil, or_false, not_or]; exact cne htx hrd (by simp))
        have htb_6 : f6 tb = some (.inl (cy 1, n, .inl (tg))) := hr6 _ _ htb (by simp only [List.mem_cons, List.not_mem_nil, or_false, not_or]; exact cne htb hrd (by simp))
        have hbx5 : x5.1 = 0 ∨ x5.1 = 1 := by rw [← hx5]; exact Or.inl rfl
        refine gz_pop dX6_readNamedValue_86 rfl ?_
        refine gz_iconst (v := (-1)) dX6_readNamedValue_87 (by decide) ?_
        exact gz_iret rfl dX6_readNamedValue_88 (Nat.le_of_ble_eq_true rfl) (Nat.le_of_ble_eq_true rfl) (⟨_, rfl, (by rw [(show rnvF len n tg pl fa lg = _ from (by unfold rnvF; rw [if_pos c_7, if_neg c_20, if_neg c_64, lett_eq hx5]))]), (by rw [(show rnvF len n tg pl fa lg = _ from (by unfold rnvF; rw [if_pos c_7, if_neg c_20, if_neg c_64, lett_eq hx5]))]; exact hrd_6), (fr_tr fr_rf (fr_mo hr6 (by simp)))⟩)
      ·
        refine gz_aload_n dX6_readNamedValue_67 rfl rfl ?_
        refine sgX6_9 hrd rfl dX6_readNamedValue_68 ?_
        refine gz_iload_n dX6_readNamedValue_71 rfl rfl ?_
        refine scX6_48 (k_X9_at (i := pl) htx htb hn) htx ⟨(Nat.le_of_ble_eq_true rfl), (Nat.le_of_ble_eq_true rfl)⟩ ⟨(Nat.le_of_ble_eq_true rfl), (Nat.le_of_ble_eq_true rfl)⟩ rfl rfl (Nat.le_of_ble_eq_true rfl) dX6_readNamedValue_72 ?_
        intro v9 f9 z9; rw [z9.1, z9.2]
        refine gz_bipush (v := 115) dX6_readNamedValue_75 (by decide) ?_
        refine gz_icmp_eq (tgt := 89) dX6_readNamedValue_77 (by decide) (fun c_77 => ?_) (fun c_77 => ?_)
        ·
          refine gz_aload_n dX6_readNamedValue_89 rfl rfl ?_
          refine sgX6_9 hrd rfl dX6_readNamedValue_90 ?_
          refine gz_iload_n dX6_readNamedValue_93 rfl rfl ?_
          refine gz_iconst (v := 1) dX6_readNamedValue_94 (by decide) ?_
          refine gz_iadd dX6_readNamedValue_95 ?_
          refine scX6_48 (k_X9_at (i := (pl + 1)) htx htb hn) htx ⟨(Nat.le_of_ble_eq_true rfl), (Nat.le_of_ble_eq_true rfl)⟩ ⟨(Nat.le_of_ble_eq_true rfl), (Nat.le_of_ble_eq_true rfl)⟩ rfl rfl (Nat.le_of_ble_eq_true rfl) dX6_readNamedValue_96 ?_
          intro v9 f9 z9; rw [z9.1, z9.2]
          refine gz_bipush (v := 48) dX6_readNamedValue_99 (by decide) ?_
          refine gz_isub dX6_readNamedValue_101 ?_
          refine gz_istore_n (lv' := [(3, .int ((tAt len n tg (pl + 1)) - 48)), (2, .int pl), (0, .ref rd), (1, .int lg)]) dX6_readNamedValue_102 rfl (by decide) rfl ?_
          refine gz_iload_n dX6_readNamedValue_103 rfl rfl ?_
          refine gz_if_lt (tgt := 113) dX6_readNamedValue_104 (by decide) (fun c_104 => ?_) (fun c_104 => ?_)
          ·
            refine gz_aload_n dX6_readNamedValue_113 rfl rfl ?_
            refine gz_iload_n dX6_readNamedValue_114 rfl rfl ?_
            refine gz_iconst (v := 1) dX6_readNamedValue_115 (by decide) ?_
            refine gz_iadd dX6_readNamedValue_116 ?_
            refine gz_iconst (v := 0) dX6_readNamedValue_117 (by decide) ?_
            obtain ⟨x6, hx6⟩ : ∃ x0, (faiF fa (pl + 1) 0) = x0 := ⟨_, rfl⟩
            refine scX6_39 (k_X6_fail (at_ := (pl + 1)) (kd := 0) hrd) hrd ⟨(Nat.le_of_ble_eq_true rfl), (Nat.le_of_ble_eq_true rfl)⟩ ⟨(Nat.le_of_ble_eq_true rfl), (Nat.le_of_ble_eq_true rfl)⟩ rfl rfl (Nat.le_of_ble_eq_true rfl) dX6_readNamedValue_118 ?_
            rintro r7 f7 ⟨z7, hrd_7, hr7⟩; rw [hx6] at z7 hrd_7; rw [z7]
            have htx_7 : f7 tx = some (.inr (9, [.ref tb, .int len])) := hr7 _ _ htx (by simp only [List.mem_cons, List.not_mem_nil, or_false, not_or]; exact cne htx hrd (by simp))
            have htb_7 : f7 tb = some (.inl (cy 1, n, .inl (tg))) := hr7 _ _ htb (by simp only [List.mem_cons, List.not_mem_nil, or_false, not_or]; exact cne htb hrd (by simp))
            have hbx6 : x6.1 = 0 ∨ x6.1 = 1 := by rw [← hx6]; exact Or.inl rfl
            refine gz_pop dX6_readNamedValue_121 rfl ?_
            refine gz_iconst (v := (-1)) dX6_readNamedValue_122 (by decide) ?_
            exact gz_iret rfl dX6_readNamedValue_123 (Nat.le_of_ble_eq_true rfl) (Nat.le_of_ble_eq_true rfl) (⟨_, rfl, (by rw [(show rnvF len n tg pl fa lg = _ from (by unfold rnvF; rw [if_pos c_7, if_neg c_20, if_pos c_64, if_pos c_77, if_pos c_104, lett_eq hx6]))]), (by rw [(show rnvF len n tg pl fa lg = _ from (by unfold rnvF; rw [if_pos c_7, if_neg c_20, if_pos c_64, if_pos c_77, if_pos c_104, lett_eq hx6]))]; exact hrd_7), (fr_tr fr_rf (fr_mo hr7 (by simp)))⟩)
          ·
            refine gz_iload_n dX6_readNamedValue_107 rfl rfl ?_
            refine gz_bipush (v := 6) dX6_readNamedValue_108 (by decide) ?_
            refine gz_icmp_lt (tgt := 124) dX6_readNamedValue_110 (by decide) (fun c_110 => ?_) (fun c_110 => ?_)
            ·
              refine gz_aload_n dX6_readNamedValue_124 rfl rfl ?_
              refine gz_iload_n dX6_readNamedValue_125 rfl rfl ?_
              refine gz_iconst (v := 2) dX6_readNamedValue_126 (by decide) ?_
              refine gz_iadd dX6_readNamedValue_127 ?_
              refine spX6_19 hrd  (Nat.le_of_ble_eq_true rfl) dX6_readNamedValue_128 ?_
              obtain ⟨f8, hf8⟩ : ∃ gg : gMem, gg = va_up f rd (some (.inr (6, [.ref tx, .ref p, .int (pl + 2), .int fa]))) := ⟨_, rfl⟩
              refine gz_eq (f2 := f8) hf8.symm rfl rfl rfl ?_
              have htx_8 : f8 tx = some (.inr (9, [.ref tb, .int len])) := by rw [hf8, va_up_ne _ _ (cne htx hrd (by simp))]; exact htx
              have htb_8 : f8 tb = some (.inl (cy 1, n, .inl (tg))) := by rw [hf8, va_up_ne _ _ (cne htb hrd (by simp))]; exact htb
              have hrd_8 : f8 rd = some (.inr (6, [.ref tx, .ref p, .int (pl + 2), .int fa])) := by rw [hf8]; exact va_up_self _ _ _
              refine gz_bipush (v := (-2)) dX6_readNamedValue_131 (by decide) ?_
              refine gz_iload_n dX6_readNamedValue_133 rfl rfl ?_
              refine gz_isub dX6_readNamedValue_134 ?_
              exact gz_iret rfl dX6_readNamedValue_135 (Nat.le_of_ble_eq_true rfl) (Nat.le_of_ble_eq_true rfl) (⟨_, rfl, (by rw [(show rnvF len n tg pl fa lg = _ from (by unfold rnvF; rw [if_pos c_7, if_neg c_20, if_pos c_64, if_pos c_77, if_neg c_104, if_pos c_110]))]), (by rw [(show rnvF len n tg pl fa lg = _ from (by unfold rnvF; rw [if_pos c_7, if_neg c_20, if_pos c_64, if_pos c_77, if_neg c_104, if_pos c_110]))]; exact hrd_8), (by rw [hf8]; exact fr_up fr_rf (by simp))⟩)
            ·
              refine gz_aload_n dX6_readNamedValue_113 rfl rfl ?_
              refine gz_iload_n dX6_readNamedValue_114 rfl rfl ?_
              refine gz_iconst (v := 1) dX6_readNamedValue_115 (by decide) ?_
              refine gz_iadd dX6_readNamedValue_116 ?_
              refine gz_iconst (v := 0) dX6_readNamedValue_117 (by decide) ?_
              obtain ⟨x7, hx7⟩ : ∃ x0, (faiF fa (pl + 1) 0) = x0 := ⟨_, rfl⟩
              refine scX6_39 (k_X6_fail (at_ := (pl + 1)) (kd := 0) hrd) hrd ⟨(Nat.le_of_ble_eq_true rfl), (Nat.le_of_ble_eq_true rfl)⟩ ⟨(Nat.le_of_ble_eq_true rfl), (Nat.le_of_ble_eq_true rfl)⟩ rfl rfl (Nat.le_of_ble_eq_true rfl) dX6_readNamedValue_118 ?_
              rintro r9 f9 ⟨z9, hrd_9, hr9⟩; rw [hx7] at z9 hrd_9; rw [z9]
              have htx_9 : f9 tx = some (.inr (9, [.ref tb, .int len])) := hr9 _ _ htx (by simp only [List.mem_cons, List.not_mem_nil, or_false, not_or]; exact cne htx hrd (by simp))
              have htb_9 : f9 tb = some (.inl (cy 1, n, .inl (tg))) := hr9 _ _ htb (by simp only [List.mem_cons, List.not_mem_nil, or_false, not_or]; exact cne htb hrd (by simp))
              have hbx7 : x7.1 = 0 ∨ x7.1 = 1 := by rw [← hx7]; exact Or.inl rfl
              refine gz_pop dX6_readNamedValue_121 rfl ?_
              refine gz_iconst (v := (-1)) dX6_readNamedValue_122 (by decide) ?_
              exact gz_iret rfl dX6_readNamedValue_123 (Nat.le_of_ble_eq_true rfl) (Nat.le_of_ble_eq_true rfl) (⟨_, rfl, (by rw [(show rnvF len n tg pl fa lg = _ from (by unfold rnvF; rw [if_pos c_7, if_neg c_20, if_pos c_64, if_pos c_77, if_neg c_104, if_neg c_110, lett_eq hx7]))]), (by rw [(show rnvF len n tg pl fa lg = _ from (by unfold rnvF; rw [if_pos c_7, if_neg c_20, if_pos c_64, if_pos c_77, if_neg c_104, if_neg c_110, lett_eq hx7]))]; exact hrd_9), (fr_tr fr_rf (fr_mo hr9 (by simp)))⟩)
        ·
          refine gz_aload_n dX6_readNamedValue_80 rfl rfl ?_
          refine gz_iload_n dX6_readNamedValue_81 rfl rfl ?_
          refine gz_iconst (v := 0) dX6_readNamedValue_82 (by decide) ?_
          obtain ⟨x8, hx8⟩ : ∃ x0, (faiF fa pl 0) = x0 := ⟨_, rfl⟩
          refine scX6_39 (k_X6_fail (at_ := pl) (kd := 0) hrd) hrd ⟨(Nat.le_of_ble_eq_true rfl), (Nat.le_of_ble_eq_true rfl)⟩ ⟨(Nat.le_of_ble_eq_true rfl), (Nat.le_of_ble_eq_true rfl)⟩ rfl rfl (Nat.le_of_ble_eq_true rfl) dX6_readNamedValue_83 ?_
          rintro r10 f10 ⟨z10, hrd_10, hr10⟩; rw [hx8] at z10 hrd_10; rw [z10]
          have htx_10 : f10 tx = some (.inr (9, [.ref tb, .int len])) := hr10 _ _ htx (by simp only [List.mem_cons, List.not_mem_nil, or_false, not_or]; exact cne htx hrd (by simp))
          have htb_10 : f10 tb = some (.inl (cy 1, n, .inl (tg))) := hr10 _ _ htb (by simp only [List.mem_cons, List.not_mem_nil, or_false, not_or]; exact cne htb hrd (by simp))
          have hbx8 : x8.1 = 0 ∨ x8.1 = 1 := by rw [← hx8]; exact Or.inl rfl
          refine gz_pop dX6_readNamedValue_86 rfl ?_
          refine gz_iconst (v := (-1)) dX6_readNamedValue_87 (by decide) ?_
          exact gz_iret rfl dX6_readNamedValue_88 (Nat.le_of_ble_eq_true rfl) (Nat.le_of_ble_eq_true rfl) (⟨_, rfl, (by rw [(show rnvF len n tg pl fa lg = _ from (by unfold rnvF; rw [if_pos c_7, if_neg c_20, if_pos c_64, if_neg c_77, lett_eq hx8]))]), (by rw [(show rnvF len n tg pl fa lg = _ from (by unfold rnvF; rw [if_pos c_7, if_neg c_20, if_pos c_64, if_neg c_77, lett_eq hx8]))]; exact hrd_10), (fr_tr fr_rf (fr_mo hr10 (by simp)))⟩)
    ·
      refine gz_aload_n dX6_readNamedValue_23 rfl rfl ?_
      refine sgX6_9 hrd rfl dX6_readNamedValue_24 ?_
      refine gz_iload_n dX6_readNamedValue_27 rfl rfl ?_
      refine gz_iconst (v := 1) dX6_readNamedValue_28 (by decide) ?_
      refine gz_iadd dX6_readNamedValue_29 ?_
      refine scX6_48 (k_X9_at (i := (pl + 1)) htx htb hn) htx ⟨(Nat.le_of_ble_eq_true rfl), (Nat.le_of_ble_eq_true rfl)⟩ ⟨(Nat.le_of_ble_eq_true rfl), (Nat.le_of_ble_eq_true rfl)⟩ rfl rfl (Nat.le_of_ble_eq_true rfl) dX6_readNamedValue_30 ?_
      intro v9 f9 z9; rw [z9.1, z9.2]
      refine gz_bipush (v := 97) dX6_readNamedValue_33 (by decide) ?_
      refine gz_icmp_ne (tgt := 62) dX6_readNamedValue_35 (by decide) (fun c_35 => ?_) (fun c_35 => ?_)
      ·
        refine gz_iload_n dX6_readNamedValue_62 rfl rfl ?_
        refine gz_iconst (v := 1) dX6_readNamedValue_63 (by decide) ?_
        refine gz_icmp_ne (tgt := 80) dX6_readNamedValue_64 (by decide) (fun c_64 => ?_) (fun c_64 => ?_)
        ·
          refine gz_aload_n dX6_readNamedValue_80 rfl rfl ?_
          refine gz_iload_n dX6_readNamedValue_81 rfl rfl ?_
          refine gz_iconst (v := 0) dX6_readNamedValue_82 (by decide) ?_
          obtain ⟨x9, hx9⟩ : ∃ x0, (faiF fa pl 0) = x0 := ⟨_, rfl⟩
          refine scX6_39 (k_X6_fail (at_ := pl) (kd := 0) hrd) hrd ⟨(Nat.le_of_ble_eq_true rfl), (Nat.le_of_ble_eq_true rfl)⟩ ⟨(Nat.le_of_ble_eq_true rfl), (Nat.le_of_ble_eq_true rfl)⟩ rfl rfl (Nat.le_of_ble_eq_true rfl) dX6_readNamedValue_83 ?_
          rintro r11 f11 ⟨z11, hrd_11, hr11⟩; rw [hx9] at z11 hrd_11; rw [z11]
          have htx_11 : f11 tx = some (.inr (9, [.ref tb, .int len])) := hr11 _ _ htx (by simp only [List.mem_cons, List.not_mem_nil, or_false, not_or]; exact cne htx hrd (by simp))
          have htb_11 : f11 tb = some (.inl (cy 1, n, .inl (tg))) := hr11 _ _ htb (by simp only [List.mem_cons, List.not_mem_nil, or_false, not_or]; exact cne htb hrd (by simp))
          have hbx9 : x9.1 = 0 ∨ x9.1 = 1 := by rw [← hx9]; exact Or.inl rfl
          refine gz_pop dX6_readNamedValue_86 rfl ?_
          refine gz_iconst (v := (-1)) dX6_readNamedValue_87 (by decide) ?_
          exact gz_iret rfl dX6_readNamedValue_88 (Nat.le_of_ble_eq_true rfl) (Nat.le_of_ble_eq_true rfl) (⟨_, rfl, (by rw [(show rnvF len n tg pl fa lg = _ from (by unfold rnvF; rw [if_pos c_7, if_pos c_20, if_neg c_35, if_neg c_64, lett_eq hx9]))]), (by rw [(show rnvF len n tg pl fa lg = _ from (by unfold rnvF; rw [if_pos c_7, if_pos c_20, if_neg c_35, if_neg c_64, lett_eq hx9]))]; exact hrd_11), (fr_tr fr_rf (fr_mo hr11 (by simp)))⟩)
        ·
          refine gz_aload_n dX6_readNamedValue_67 rfl rfl ?_
          refine sgX6_9 hrd rfl dX6_readNamedValue_68 ?_
          refine gz_iload_n dX6_readNamedValue_71 rfl rfl ?_
          refine scX6_48 (k_X9_at (i := pl) htx htb hn) htx ⟨(Nat.le_of_ble_eq_true rfl), (Nat.le_of_ble_eq_true rfl)⟩ ⟨(Nat.le_of_ble_eq_true rfl), (Nat.le_of_ble_eq_true rfl)⟩ rfl rfl (Nat.le_of_ble_eq_true rfl) dX6_readNamedValue_72 ?_
          intro v9 f9 z9; rw [z9.1, z9.2]
          refine gz_bipush (v := 115) dX6_readNamedValue_75 (by decide) ?_
          refine gz_icmp_eq (tgt := 89) dX6_readNamedValue_77 (by decide) (fun c_77 => ?_) (fun c_77 => ?_)
          ·
            refine gz_aload_n dX6_readNamedValue_89 rfl rfl ?_
            refine sgX6_9 hrd rfl dX6_readNamedValue_90 ?_
            refine gz_iload_n dX6_readNamedValue_93 rfl rfl ?_
            refine gz_iconst (v := 1) dX6_readNamedValue_94 (by decide) ?_
            refine gz_iadd dX6_readNamedValue_95 ?_
            refine scX6_48 (k_X9_at (i := (pl + 1)) htx htb hn) htx ⟨(Nat.le_of_ble_eq_true rfl), (Nat.le_of_ble_eq_true rfl)⟩ ⟨(Nat.le_of_ble_eq_true rfl), (Nat.le_of_ble_eq_true rfl)⟩ rfl rfl (Nat.le_of_ble_eq_true rfl) dX6_readNamedValue_96 ?_
            intro v9 f9 z9; rw [z9.1, z9.2]
            refine gz_bipush (v := 48) dX6_readNamedValue_99 (by decide) ?_
            refine gz_isub dX6_readNamedValue_101 ?_
            refine gz_istore_n (lv' := [(3, .int ((tAt len n tg (pl + 1)) - 48)), (2, .int pl), (0, .ref rd), (1, .int lg)]) dX6_readNamedValue_102 rfl (by decide) rfl ?_
            refine gz_iload_n dX6_readNamedValue_103 rfl rfl ?_
            refine gz_if_lt (tgt := 113) dX6_readNamedValue_104 (by decide) (fun c_104 => ?_) (fun c_104 => ?_)
            ·
              refine gz_aload_n dX6_readNamedValue_113 rfl rfl ?_
              refine gz_iload_n dX6_readNamedValue_114 rfl rfl ?_
              refine gz_iconst (v := 1) dX6_readNamedValue_115 (by decide) ?_
              refine gz_iadd dX6_readNamedValue_116 ?_
              refine gz_iconst (v := 0) dX6_readNamedValue_117 (by decide) ?_
              obtain ⟨x10, hx10⟩ : ∃ x0, (faiF fa (pl + 1) 0) = x0 := ⟨_, rfl⟩
              refine scX6_39 (k_X6_fail (at_ := (pl + 1)) (kd := 0) hrd) hrd ⟨(Nat.le_of_ble_eq_true rfl), (Nat.le_of_ble_eq_true rfl)⟩ ⟨(Nat.le_of_ble_eq_true rfl), (Nat.le_of_ble_eq_true rfl)⟩ rfl rfl (Nat.le_of_ble_eq_true rfl) dX6_readNamedValue_118 ?_
              rintro r12 f12 ⟨z12, hrd_12, hr12⟩; rw [hx10] at z12 hrd_12; rw [z12]
              have htx_12 : f12 tx = some (.inr (9, [.ref tb, .int len])) := hr12 _ _ htx (by simp only [List.mem_cons, List.not_mem_nil, or_false, not_or]; exact cne htx hrd (by simp))
              have htb_12 : f12 tb = some (.inl (cy 1, n, .inl (tg))) := hr12 _ _ htb (by simp only [List.mem_cons, List.not_mem_nil, or_false, not_or]; exact cne htb hrd (by simp))
              have hbx10 : x10.1 = 0 ∨ x10.1 = 1 := by rw [← hx10]; exact Or.inl rfl
              refine gz_pop dX6_readNamedValue_121 rfl ?_
              refine gz_iconst (v := (-1)) dX6_readNamedValue_122 (by decide) ?_
              exact gz_iret rfl dX6_readNamedValue_123 (Nat.le_of_ble_eq_true rfl) (Nat.le_of_ble_eq_true rfl) (⟨_, rfl, (by rw [(show rnvF len n tg pl fa lg = _ from (by unfold rnvF; rw [if_pos c_7, if_pos c_20, if_neg c_35, if_pos c_64, if_pos c_77, if_pos c_104, lett_eq hx10]))]), (by rw [(show rnvF len n tg pl fa lg = _ from (by unfold rnvF; rw [if_pos c_7, if_pos c_20, if_neg c_35, if_pos c_64, if_pos c_77, if_pos c_104, lett_eq hx10]))]; exact hrd_12), (fr_tr fr_rf (fr_mo hr12 (by simp)))⟩)
            ·
              refine gz_iload_n dX6_readNamedValue_107 rfl rfl ?_
              refine gz_bipush (v := 6) dX6_readNamedValue_108 (by decide) ?_
              refine gz_icmp_lt (tgt := 124) dX6_readNamedValue_110 (by decide) (fun c_110 => ?_) (fun c_110 => ?_)
              ·
                refine gz_aload_n dX6_readNamedValue_124 rfl rfl ?_
                refine gz_iload_n dX6_readNamedValue_125 rfl rfl ?_
                refine gz_iconst (v := 2) dX6_readNamedValue_126 (by decide) ?_
                refine gz_iadd dX6_readNamedValue_127 ?_
                refine spX6_19 hrd  (Nat.le_of_ble_eq_true rfl) dX6_readNamedValue_128 ?_
                obtain ⟨f13, hf13⟩ : ∃ gg : gMem, gg = va_up f rd (some (.inr (6, [.ref tx, .ref p, .int (pl + 2), .int fa]))) := ⟨_, rfl⟩
                refine gz_eq (f2 := f13) hf13.symm rfl rfl rfl ?_
                have htx_13 : f13 tx = some (.inr (9, [.ref tb, .int len])) := by rw [hf13, va_up_ne _ _ (cne htx hrd (by simp))]; exact htx
                have htb_13 : f13 tb = some (.inl (cy 1, n, .inl (tg))) := by rw [hf13, va_up_ne _ _ (cne htb hrd (by simp))]; exact htb
                have hrd_13 : f13 rd = some (.inr (6, [.ref tx, .ref p, .int (pl + 2), .int fa])) := by rw [hf13]; exact va_up_self _ _ _
                refine gz_bipush (v := (-2)) dX6_readNamedValue_131 (by decide) ?_
                refine gz_iload_n dX6_readNamedValue_133 rfl rfl ?_
                refine gz_isub dX6_readNamedValue_134 ?_
                exact gz_iret rfl dX6_readNamedValue_135 (Nat.le_of_ble_eq_true rfl) (Nat.le_of_ble_eq_true rfl) (⟨_, rfl, (by rw [(show rnvF len n tg pl fa lg = _ from (by unfold rnvF; rw [if_pos c_7, if_pos c_20, if_neg c_35, if_pos c_64, if_pos c_77, if_neg c_104, if_pos c_110]))]), (by rw [(show rnvF len n tg pl fa lg = _ from (by unfold rnvF; rw [if_pos c_7, if_pos c_20, if_neg c_35, if_pos c_64, if_pos c_77, if_neg c_104, if_pos c_110]))]; exact hrd_13), (by rw [hf13]; exact fr_up fr_rf (by simp))⟩)
              ·
                refine gz_aload_n dX6_readNamedValue_113 rfl rfl ?_
                refine gz_iload_n dX6_readNamedValue_114 rfl rfl ?_
                refine gz_iconst (v := 1) dX6_readNamedValue_115 (by decide) ?_
                refine gz_iadd dX6_readNamedValue_116 ?_
                refine gz_iconst (v := 0) dX6_readNamedValue_117 (by decide) ?_
                obtain ⟨x11, hx11⟩ : ∃ x0, (faiF fa (pl + 1) 0) = x0 := ⟨_, rfl⟩
                refine scX6_39 (k_X6_fail (at_ := (pl + 1)) (kd := 0) hrd) hrd ⟨(Nat.le_of_ble_eq_true rfl), (Nat.le_of_ble_eq_true rfl)⟩ ⟨(Nat.le_of_ble_eq_true rfl), (Nat.le_of_ble_eq_true rfl)⟩ rfl rfl (Nat.le_of_ble_eq_true rfl) dX6_readNamedValue_118 ?_
                rintro r14 f14 ⟨z14, hrd_14, hr14⟩; rw [hx11] at z14 hrd_14; rw [z14]
                have htx_14 : f14 tx = some (.inr (9, [.ref tb, .int len])) := hr14 _ _ htx (by simp only [List.mem_cons, List.not_mem_nil, or_false, not_or]; exact cne htx hrd (by simp))
                have htb_14 : f14 tb = some (.inl (cy 1, n, .inl (tg))) := hr14 _ _ htb (by simp only [List.mem_cons, List.not_mem_nil, or_false, not_or]; exact cne htb hrd (by simp))
                have hbx11 : x11.1 = 0 ∨ x11.1 = 1 := by rw [← hx11]; exact Or.inl rfl
                refine gz_pop dX6_readNamedValue_121 rfl ?_
                refine gz_iconst (v := (-1)) dX6_readNamedValue_122 (by decide) ?_
                exact gz_iret rfl dX6_readNamedValue_123 (Nat.le_of_ble_eq_true rfl) (Nat.le_of_ble_eq_true rfl) (⟨_, rfl, (by rw [(show rnvF len n tg pl fa lg = _ from (by unfold rnvF; rw [if_pos c_7, if_pos c_20, if_neg c_35, if_pos c_64, if_pos c_77, if_neg c_104, if_neg c_110, lett_eq hx11]))]), (by rw [(show rnvF len n tg pl fa lg = _ from (by unfold rnvF; rw [if_pos c_7, if_pos c_20, if_neg c_35, if_pos c_64, if_pos c_77, if_neg c_104, if_neg c_110, lett_eq hx11]))]; exact hrd_14), (fr_tr fr_rf (fr_mo hr14 (by simp)))⟩)
          ·
            refine gz_aload_n dX6_readNamedValue_80 rfl rfl ?_
            refine gz_iload_n dX6_readNamedValue_81 rfl rfl ?_
            refine gz_iconst (v := 0) dX6_readNamedValue_82 (by decide) ?_
            obtain ⟨x12, hx12⟩ : ∃ x0, (faiF fa pl 0) = x0 := ⟨_, rfl⟩
            refine scX6_39 (k_X6_fail (at_ := pl) (kd := 0) hrd) hrd ⟨(Nat.le_of_ble_eq_true rfl), (Nat.le_of_ble_eq_true rfl)⟩ ⟨(Nat.le_of_ble_eq_true rfl), (Nat.le_of_ble_eq_true rfl)⟩ rfl rfl (Nat.le_of_ble_eq_true rfl) dX6_readNamedValue_83 ?_
            rintro r15 f15 ⟨z15, hrd_15, hr15⟩; rw [hx12] at z15 hrd_15; rw [z15]
            have htx_15 : f15 tx = some (.inr (9, [.ref tb, .int len])) := hr15 _ _ htx (by simp only [List.mem_cons, List.not_mem_nil, or_false, not_or]; exact cne htx hrd (by simp))
            have htb_15 : f15 tb = some (.inl (cy 1, n, .inl (tg))) := hr15 _ _ htb (by simp only [List.mem_cons, List.not_mem_nil, or_false, not_or]; exact cne htb hrd (by simp))
            have hbx12 : x12.1 = 0 ∨ x12.1 = 1 := by rw [← hx12]; exact Or.inl rfl
            refine gz_pop dX6_readNamedValue_86 rfl ?_
            refine gz_iconst (v := (-1)) dX6_readNamedValue_87 (by decide) ?_
            exact gz_iret rfl dX6_readNamedValue_88 (Nat.le_of_ble_eq_true rfl) (Nat.le_of_ble_eq_true rfl) (⟨_, rfl, (by rw [(show rnvF len n tg pl fa lg = _ from (by unfold rnvF; rw [if_pos c_7, if_pos c_20, if_neg c_35, if_pos c_64, if_neg c_77, lett_eq hx12]))]), (by rw [(show rnvF len n tg pl fa lg = _ from (by unfold rnvF; rw [if_pos c_7, if_pos c_20, if_neg c_35, if_pos c_64, if_neg c_77, lett_eq hx12]))]; exact hrd_15), (fr_tr fr_rf (fr_mo hr15 (by simp)))⟩)
      ·
        refine gz_aload_n dX6_readNamedValue_38 rfl rfl ?_
        refine sgX6_9 hrd rfl dX6_readNamedValue_39 ?_
        refine gz_iload_n dX6_readNamedValue_42 rfl rfl ?_
        refine gz_iconst (v := 2) dX6_readNamedValue_43 (by decide) ?_
        refine gz_iadd dX6_readNamedValue_44 ?_
        refine scX6_48 (k_X9_at (i := (pl + 2)) htx htb hn) htx ⟨(Nat.le_of_ble_eq_true rfl), (Nat.le_of_ble_eq_true rfl)⟩ ⟨(Nat.le_of_ble_eq_true rfl), (Nat.le_of_ble_eq_true rfl)⟩ rfl rfl (Nat.le_of_ble_eq_true rfl) dX6_readNamedValue_45 ?_
        intro v9 f9 z9; rw [z9.1, z9.2]
        refine gz_bipush (v := 121) dX6_readNamedValue_48 (by decide) ?_
        refine gz_icmp_ne (tgt := 62) dX6_readNamedValue_50 (by decide) (fun c_50 => ?_) (fun c_50 => ?_)
        ·
          refine gz_iload_n dX6_readNamedValue_62 rfl rfl ?_
          refine gz_iconst (v := 1) dX6_readNamedValue_63 (by decide) ?_
          refine gz_icmp_ne (tgt := 80) dX6_readNamedValue_64 (by decide) (fun c_64 => ?_) (fun c_64 => ?_)
          ·
            refine gz_aload_n dX6_readNamedValue_80 rfl rfl ?_
            refine gz_iload_n dX6_readNamedValue_81 rfl rfl ?_
            refine gz_iconst (v := 0) dX6_readNamedValue_82 (by decide) ?_
            obtain ⟨x13, hx13⟩ : ∃ x0, (faiF fa pl 0) = x0 := ⟨_, rfl⟩
            refine scX6_39 (k_X6_fail (at_ := pl) (kd := 0) hrd) hrd ⟨(Nat.le_of_ble_eq_true rfl), (Nat.le_of_ble_eq_true rfl)⟩ ⟨(Nat.le_of_ble_eq_true rfl), (Nat.le_of_ble_eq_true rfl)⟩ rfl rfl (Nat.le_of_ble_eq_true rfl) dX6_readNamedValue_83 ?_
            rintro r16 f16 ⟨z16, hrd_16, hr16⟩; rw [hx13] at z16 hrd_16; rw [z16]
            have htx_16 : f16 tx = some (.inr (9, [.ref tb, .int len])) := hr16 _ _ htx (by simp only [List.mem_cons, List.not_mem_nil, or_false, not_or]; exact cne htx hrd (by simp))
            have htb_16 : f16 tb = some (.inl (cy 1, n, .inl (tg))) := hr16 _ _ htb (by simp only [List.mem_cons, List.not_mem_nil, or_false, not_or]; exact cne htb hrd (by simp))
            have hbx13 : x13.1 = 0 ∨ x13.1 = 1 := by rw [← hx13]; exact Or.inl rfl
            refine gz_pop dX6_readNamedValue_86 rfl ?_
            refine gz_iconst (v := (-1)) dX6_readNamedValue_87 (by decide) ?_
            exact gz_iret rfl dX6_readNamedValue_88 (Nat.le_of_ble_eq_true rfl) (Nat.le_of_ble_eq_true rfl) (⟨_, rfl, (by rw [(show rnvF len n tg pl fa lg = _ from (by unfold rnvF; rw [if_pos c_7, if_pos c_20, if_pos c_35, if_neg c_50, if_neg c_64, lett_eq hx13]))]), (by rw [(show rnvF len n tg pl fa lg = _ from (by unfold rnvF; rw [if_pos c_7, if_pos c_20, if_pos c_35, if_neg c_50, if_neg c_64, lett_eq hx13]))]; exact hrd_16), (fr_tr fr_rf (fr_mo hr16 (by simp)))⟩)
          ·
            refine gz_aload_n dX6_readNamedValue_67 rfl rfl ?_
            refine sgX6_9 hrd rfl dX6_readNamedValue_68 ?_
            refine gz_iload_n dX6_readNamedValue_71 rfl rfl ?_
            refine scX6_48 (k_X9_at (i := pl) htx htb hn) htx ⟨(Nat.le_of_ble_eq_true rfl), (Nat.le_of_ble_eq_true rfl)⟩ ⟨(Nat.le_of_ble_eq_true rfl), (Nat.le_of_ble_eq_true rfl)⟩ rfl rfl (Nat.le_of_ble_eq_true rfl) dX6_readNamedValue_72 ?_
            intro v9 f9 z9; rw [z9.1, z9.2]
            refine gz_bipush (v := 115) dX6_readNamedValue_75 (by decide) ?_
            refine gz_icmp_eq (tgt := 89) dX6_readNamedValue_77 (by decide) (fun c_77 => ?_) (fun c_77 => ?_)
            ·
              refine gz_aload_n dX6_readNamedValue_89 rfl rfl ?_
              refine sgX6_9 hrd rfl dX6_readNamedValue_90 ?_
              refine gz_iload_n dX6_readNamedValue_93 rfl rfl ?_
              refine gz_iconst (v := 1) dX6_readNamedValue_94 (by decide) ?_
              refine gz_iadd dX6_readNamedValue_95 ?_
              refine scX6_48 (k_X9_at (i := (pl + 1)) htx htb hn) htx ⟨(Nat.le_of_ble_eq_true rfl), (Nat.le_of_ble_eq_true rfl)⟩ ⟨(Nat.le_of_ble_eq_true rfl), (Nat.le_of_ble_eq_true rfl)⟩ rfl rfl (Nat.le_of_ble_eq_true rfl) dX6_readNamedValue_96 ?_
              intro v9 f9 z9; rw [z9.1, z9.2]
              refine gz_bipush (v := 48) dX6_readNamedValue_99 (by decide) ?_
              refine gz_isub dX6_readNamedValue_101 ?_
              refine gz_istore_n (lv' := [(3, .int ((tAt len n tg (pl + 1)) - 48)), (2, .int pl), (0, .ref rd), (1, .int lg)]) dX6_readNamedValue_102 rfl (by decide) rfl ?_
              refine gz_iload_n dX6_readNamedValue_103 rfl rfl ?_
              refine gz_if_lt (tgt := 113) dX6_readNamedValue_104 (by decide) (fun c_104 => ?_) (fun c_104 => ?_)
              ·
                refine gz_aload_n dX6_readNamedValue_113 rfl rfl ?_
                refine gz_iload_n dX6_readNamedValue_114 rfl rfl ?_
                refine gz_iconst (v := 1) dX6_readNamedValue_115 (by decide) ?_
                refine gz_iadd dX6_readNamedValue_116 ?_
                refine gz_iconst (v := 0) dX6_readNamedValue_117 (by decide) ?_
                obtain ⟨x14, hx14⟩ : ∃ x0, (faiF fa (pl + 1) 0) = x0 := ⟨_, rfl⟩
                refine scX6_39 (k_X6_fail (at_ := (pl + 1)) (kd := 0) hrd) hrd ⟨(Nat.le_of_ble_eq_true rfl), (Nat.le_of_ble_eq_true rfl)⟩ ⟨(Nat.le_of_ble_eq_true rfl), (Nat.le_of_ble_eq_true rfl)⟩ rfl rfl (Nat.le_of_ble_eq_true rfl) dX6_readNamedValue_118 ?_
                rintro r17 f17 ⟨z17, hrd_17, hr17⟩; rw [hx14] at z17 hrd_17; rw [z17]
                have htx_17 : f17 tx = some (.inr (9, [.ref tb, .int len])) := hr17 _ _ htx (by simp only [List.mem_cons, List.not_mem_nil, or_false, not_or]; exact cne htx hrd (by simp))
                have htb_17 : f17 tb = some (.inl (cy 1, n, .inl (tg))) := hr17 _ _ htb (by simp only [List.mem_cons, List.not_mem_nil, or_false, not_or]; exact cne htb hrd (by simp))
                have hbx14 : x14.1 = 0 ∨ x14.1 = 1 := by rw [← hx14]; exact Or.inl rfl
                refine gz_pop dX6_readNamedValue_121 rfl ?_
                refine gz_iconst (v := (-1)) dX6_readNamedValue_122 (by decide) ?_
                exact gz_iret rfl dX6_readNamedValue_123 (Nat.le_of_ble_eq_true rfl) (Nat.le_of_ble_eq_true rfl) (⟨_, rfl, (by rw [(show rnvF len n tg pl fa lg = _ from (by unfold rnvF; rw [if_pos c_7, if_pos c_20, if_pos c_35, if_neg c_50, if_pos c_64, if_pos c_77, if_pos c_104, lett_eq hx14]))]), (by rw [(show rnvF len n tg pl fa lg = _ from (by unfold rnvF; rw [if_pos c_7, if_pos c_20, if_pos c_35, if_neg c_50, if_pos c_64, if_pos c_77, if_pos c_104, lett_eq hx14]))]; exact hrd_17), (fr_tr fr_rf (fr_mo hr17 (by simp)))⟩)
              ·
                refine gz_iload_n dX6_readNamedValue_107 rfl rfl ?_
                refine gz_bipush (v := 6) dX6_readNamedValue_108 (by decide) ?_
                refine gz_icmp_lt (tgt := 124) dX6_readNamedValue_110 (by decide) (fun c_110 => ?_) (fun c_110 => ?_)
                ·
                  refine gz_aload_n dX6_readNamedValue_124 rfl rfl ?_
                  refine gz_iload_n dX6_readNamedValue_125 rfl rfl ?_
                  refine gz_iconst (v := 2) dX6_readNamedValue_126 (by decide) ?_
                  refine gz_iadd dX6_readNamedValue_127 ?_
                  refine spX6_19 hrd  (Nat.le_of_ble_eq_true rfl) dX6_readNamedValue_128 ?_
                  obtain ⟨f18, hf18⟩ : ∃ gg : gMem, gg = va_up f rd (some (.inr (6, [.ref tx, .ref p, .int (pl + 2), .int fa]))) := ⟨_, rfl⟩
                  refine gz_eq (f2 := f18) hf18.symm rfl rfl rfl ?_
                  have htx_18 : f18 tx = some (.inr (9, [.ref tb, .int len])) := by rw [hf18, va_up_ne _ _ (cne htx hrd (by simp))]; exact htx
                  have htb_18 : f18 tb = some (.inl (cy 1, n, .inl (tg))) := by rw [hf18, va_up_ne _ _ (cne htb hrd (by simp))]; exact htb
                  have hrd_18 : f18 rd = some (.inr (6, [.ref tx, .ref p, .int (pl + 2), .int fa])) := by rw [hf18]; exact va_up_self _ _ _
                  refine gz_bipush (v := (-2)) dX6_readNamedValue_131 (by decide) ?_
                  refine gz_iload_n dX6_readNamedValue_133 rfl rfl ?_
                  refine gz_isub dX6_readNamedValue_134 ?_
                  exact gz_iret rfl dX6_readNamedValue_135 (Nat.le_of_ble_eq_true rfl) (Nat.le_of_ble_eq_true rfl) (⟨_, rfl, (by rw [(show rnvF len n tg pl fa lg = _ from (by unfold rnvF; rw [if_pos c_7, if_pos c_20, if_pos c_35, if_neg c_50, if_pos c_64, if_pos c_77, if_neg c_104, if_pos c_110]))]), (by rw [(show rnvF len n tg pl fa lg = _ from (by unfold rnvF; rw [if_pos c_7, if_pos c_20, if_pos c_35, if_neg c_50, if_pos c_64, if_pos c_77, if_neg c_104, if_pos c_110]))]; exact hrd_18), (by rw [hf18]; exact fr_up fr_rf (by simp))⟩)
                ·
                  refine gz_aload_n dX6_readNamedValue_113 rfl rfl ?_
                  refine gz_iload_n dX6_readNamedValue_114 rfl rfl ?_
                  refine gz_iconst (v := 1) dX6_readNamedValue_115 (by decide) ?_
                  refine gz_iadd dX6_readNamedValue_116 ?_
                  refine gz_iconst (v := 0) dX6_readNamedValue_117 (by decide) ?_
                  obtain ⟨x15, hx15⟩ : ∃ x0, (faiF fa (pl + 1) 0) = x0 := ⟨_, rfl⟩
                  refine scX6_39 (k_X6_fail (at_ := (pl + 1)) (kd := 0) hrd) hrd ⟨(Nat.le_of_ble_eq_true rfl), (Nat.le_of_ble_eq_true rfl)⟩ ⟨(Nat.le_of_ble_eq_true rfl), (Nat.le_of_ble_eq_true rfl)⟩ rfl rfl (Nat.le_of_ble_eq_true rfl) dX6_readNamedValue_118 ?_
                  rintro r19 f19 ⟨z19, hrd_19, hr19⟩; rw [hx15] at z19 hrd_19; rw [z19]
                  have htx_19 : f19 tx = some (.inr (9, [.ref tb, .int len])) := hr19 _ _ htx (by simp only [List.mem_cons, List.not_mem_nil, or_false, not_or]; exact cne htx hrd (by simp))
                  have htb_19 : f19 tb = some (.inl (cy 1, n, .inl (tg))) := hr19 _ _ htb (by simp only [List.mem_cons, List.not_mem_nil, or_false, not_or]; exact cne htb hrd (by simp))
                  have hbx15 : x15.1 = 0 ∨ x15.1 = 1 := by rw [← hx15]; exact Or.inl rfl
                  refine gz_pop dX6_readNamedValue_121 rfl ?_
                  refine gz_iconst (v := (-1)) dX6_readNamedValue_122 (by decide) ?_
                  exact gz_iret rfl dX6_readNamedValue_123 (Nat.le_of_ble_eq_true rfl) (Nat.le_of_ble_eq_true rfl) (⟨_, rfl, (by rw [(show rnvF len n tg pl fa lg = _ from (by unfold rnvF; rw [if_pos c_7, if_pos c_20, if_pos c_35, if_neg c_50, if_pos c_64, if_pos c_77, if_neg c_104, if_neg c_110, lett_eq hx15]))]), (by rw [(show rnvF len n tg pl fa lg = _ from (by unfold rnvF; rw [if_pos c_7, if_pos c_20, if_pos c_35, if_neg c_50, if_pos c_64, if_pos c_77, if_neg c_104, if_neg c_110, lett_eq hx15]))]; exact hrd_19), (fr_tr fr_rf (fr_mo hr19 (by simp)))⟩)
            ·
              refine gz_aload_n dX6_readNamedValue_80 rfl rfl ?_
              refine gz_iload_n dX6_readNamedValue_81 rfl rfl ?_
              refine gz_iconst (v := 0) dX6_readNamedValue_82 (by decide) ?_
              obtain ⟨x16, hx16⟩ : ∃ x0, (faiF fa pl 0) = x0 := ⟨_, rfl⟩
              refine scX6_39 (k_X6_fail (at_ := pl) (kd := 0) hrd) hrd ⟨(Nat.le_of_ble_eq_true rfl), (Nat.le_of_ble_eq_true rfl)⟩ ⟨(Nat.le_of_ble_eq_true rfl), (Nat.le_of_ble_eq_true rfl)⟩ rfl rfl (Nat.le_of_ble_eq_true rfl) dX6_readNamedValue_83 ?_
              rintro r20 f20 ⟨z20, hrd_20, hr20⟩; rw [hx16] at z20 hrd_20; rw [z20]
              have htx_20 : f20 tx = some (.inr (9, [.ref tb, .int len])) := hr20 _ _ htx (by simp only [List.mem_cons, List.not_mem_nil, or_false, not_or]; exact cne htx hrd (by simp))
              have htb_20 : f20 tb = some (.inl (cy 1, n, .inl (tg))) := hr20 _ _ htb (by simp only [List.mem_cons, List.not_mem_nil, or_false, not_or]; exact cne htb hrd (by simp))
              have hbx16 : x16.1 = 0 ∨ x16.1 = 1 := by rw [← hx16]; exact Or.inl rfl
              refine gz_pop dX6_readNamedValue_86 rfl ?_
              refine gz_iconst (v := (-1)) dX6_readNamedValue_87 (by decide) ?_
              exact gz_iret rfl dX6_readNamedValue_88 (Nat.le_of_ble_eq_true rfl) (Nat.le_of_ble_eq_true rfl) (⟨_, rfl, (by rw [(show rnvF len n tg pl fa lg = _ from (by unfold rnvF; rw [if_pos c_7, if_pos c_20, if_pos c_35, if_neg c_50, if_pos c_64, if_neg c_77, lett_eq hx16]))]), (by rw [(show rnvF len n tg pl fa lg = _ from (by unfold rnvF; rw [if_pos c_7, if_pos c_20, if_pos c_35, if_neg c_50, if_pos c_64, if_neg c_77, lett_eq hx16]))]; exact hrd_20), (fr_tr fr_rf (fr_mo hr20 (by simp)))⟩)
        ·
          refine gz_aload_n dX6_readNamedValue_53 rfl rfl ?_
          refine gz_iload_n dX6_readNamedValue_54 rfl rfl ?_
          refine gz_iload_n dX6_readNamedValue_55 rfl rfl ?_
          refine gz_iadd dX6_readNamedValue_56 ?_
          refine spX6_19 hrd  (Nat.le_of_ble_eq_true rfl) dX6_readNamedValue_57 ?_
          obtain ⟨f21, hf21⟩ : ∃ gg : gMem, gg = va_up f rd (some (.inr (6, [.ref tx, .ref p, .int (pl + lg), .int fa]))) := ⟨_, rfl⟩
          refine gz_eq (f2 := f21) hf21.symm rfl rfl rfl ?_
          have htx_21 : f21 tx = some (.inr (9, [.ref tb, .int len])) := by rw [hf21, va_up_ne _ _ (cne htx hrd (by simp))]; exact htx
          have htb_21 : f21 tb = some (.inl (cy 1, n, .inl (tg))) := by rw [hf21, va_up_ne _ _ (cne htb hrd (by simp))]; exact htb
          have hrd_21 : f21 rd = some (.inr (6, [.ref tx, .ref p, .int (pl + lg), .int fa])) := by rw [hf21]; exact va_up_self _ _ _
          refine gz_iconst (v := (-1)) dX6_readNamedValue_60 (by decide) ?_
          exact gz_iret rfl dX6_readNamedValue_61 (Nat.le_of_ble_eq_true rfl) (Nat.le_of_ble_eq_true rfl) (⟨_, rfl, (by rw [(show rnvF len n tg pl fa lg = _ from (by unfold rnvF; rw [if_pos c_7, if_pos c_20, if_pos c_35, if_pos c_50]))]), (by rw [(show rnvF len n tg pl fa lg = _ from (by unfold rnvF; rw [if_pos c_7, if_pos c_20, if_pos c_35, if_pos c_50]))]; exact hrd_21), (by rw [hf21]; exact fr_up fr_rf (by simp))⟩)

def rdnF (len : Int32) (n : Nat) (tg : Nat → Int32) (pl fa : Int32) (n1 : Nat) (g : Nat → Int32) (s : Int32) (wd : Int32) : (Int32) × (Int32) × (Int32) × (Nat → Int32) := (lett (upnF len n tg pl) fun x1 => (lett (rnuF len n tg x1.2 fa) fun x2 => (if (x2.1 : Int32) = (-1) then (0, x2.2.1, x2.2.2, (stF n1 g s wd 2 x2.1)) else (1, x2.2.1, x2.2.2, (stF n1 g s wd 2 x2.1)))))
set_option maxHeartbeats 4000000 in
set_option maxRecDepth 100000 in
theorem k_X6_readN {l : Launch} {D : va_G} {cy : Nat → ClassId} {b : Nat} {f : gMem} {rd tx tb p c1 c2 n n1 : Nat} {len pl fa s v : Int32} {tg g : Nat → Int32} {wd : Int32} (hrd : f rd = some (.inr (6, [.ref tx, .ref p, .int pl, .int fa]))) (htx : f tx = some (.inr (9, [.ref tb, .int len]))) (htb : f tb = some (.inl (cy 1, n, .inl (tg)))) (hp : f p = some (.inr (2, [.ref c1, .ref c2, .int s, .int v]))) (h1 : f c1 = some (.inl (cy 0, n1, .inl (g)))) (hn : n < 2 ^ 31) (hs : 0 ≤ s.toInt ∧ 13 * s.toInt ≤ n1 ∧ n1 ≤ 520) (hne : tb ≠ c1) : gC l D cy b yX6_readN cX6_readN 3 (some .boolean) 3 0 0 [.ref rd, .int wd] f (pI fun r f2 => r = (rdnF len n tg pl fa n1 g s wd).1 ∧ f2 rd = some (.inr (6, [.ref tx, .ref p, .int (rdnF len n tg pl fa n1 g s wd).2.1, .int (rdnF len n tg pl fa n1 g s wd).2.2.1])) ∧ f2 c1 = some (.inl (cy 0, n1, .inl ((rdnF len n tg pl fa n1 g s wd).2.2.2))) ∧ fr [rd, c1] f f2) := by
  refine gC_of (by decide) (Nat.le_of_ble_eq_true rfl) ?_
  show gG l _ _ _ D cy b cX6_readN 3 _ RX6 "readN" 0 0 f 0 [(0, .ref rd), (1, .int wd)] []
  refine gz_aload_n dX6_readN_0 rfl rfl ?_
  obtain ⟨x1, hx1⟩ : ∃ x0, (upnF len n tg pl) = x0 := ⟨_, rfl⟩
  refine scX6_35 (k_X6_upNext hrd htx htb hn) hrd ⟨(Nat.le_of_ble_eq_true rfl), (Nat.le_of_ble_eq_true rfl)⟩ ⟨(Nat.le_of_ble_eq_true rfl), (Nat.le_of_ble_eq_true rfl)⟩ rfl rfl (Nat.le_of_ble_eq_true rfl) dX6_readN_1 ?_
  rintro r1 f1 ⟨z1, hrd_1, hr1⟩; rw [hx1] at z1 hrd_1; rw [z1]
  have htx_1 : f1 tx = some (.inr (9, [.ref tb, .int len])) := hr1 _ _ htx (by simp only [List.mem_cons, List.not_mem_nil, or_false, not_or]; exact cne htx hrd (by simp))
  have htb_1 : f1 tb = some (.inl (cy 1, n, .inl (tg))) := hr1 _ _ htb (by simp only [List.mem_cons, List.not_mem_nil, or_false, not_or]; exact cne htb hrd (by simp))
  have hp_1 : f1 p = some (.inr (2, [.ref c1, .ref c2, .int s, .int v])) := hr1 _ _ hp (by simp only [List.mem_cons, List.not_mem_nil, or_false, not_or]; exact cne hp hrd (by simp))
  have h1_1 : f1 c1 = some (.inl (cy 0, n1, .inl (g))) := hr1 _ _ h1 (by simp only [List.mem_cons, List.not_mem_nil, or_false, not_or]; exact cne h1 hrd (by simp))
  refine gz_pop dX6_readN_4 rfl ?_
  refine gz_aload_n dX6_readN_5 rfl rfl ?_
  obtain ⟨x2, hx2⟩ : ∃ x0, (rnuF len n tg x1.2 fa) = x0 := ⟨_, rfl⟩
  refine scX6_98 (k_X6_readNumber hrd_1 htx_1 htb_1 hn) hrd_1 ⟨(Nat.le_of_ble_eq_true rfl), (Nat.le_of_ble_eq_true rfl)⟩ ⟨(Nat.le_of_ble_eq_true rfl), (Nat.le_of_ble_eq_true rfl)⟩ rfl rfl (Nat.le_of_ble_eq_true rfl) dX6_readN_6 ?_
  rintro r2 f2 ⟨z2, hrd_2, hr2⟩; rw [hx2] at z2 hrd_2; rw [z2]
  have htx_2 : f2 tx = some (.inr (9, [.ref tb, .int len])) := hr2 _ _ htx_1 (by simp only [List.mem_cons, List.not_mem_nil, or_false, not_or]; exact cne htx_1 hrd_1 (by simp))
  have htb_2 : f2 tb = some (.inl (cy 1, n, .inl (tg))) := hr2 _ _ htb_1 (by simp only [List.mem_cons, List.not_mem_nil, or_false, not_or]; exact cne htb_1 hrd_1 (by simp))
  have hp_2 : f2 p = some (.inr (2, [.ref c1, .ref c2, .int s, .int v])) := hr2 _ _ hp_1 (by simp only [List.mem_cons, List.not_mem_nil, or_false, not_or]; exact cne hp_1 hrd_1 (by simp))
  have h1_2 : f2 c1 = some (.inl (cy 0, n1, .inl (g))) := hr2 _ _ h1_1 (by simp only [List.mem_cons, List.not_mem_nil, or_false, not_or]; exact cne h1_1 hrd_1 (by simp))
  refine gz_istore_n (lv' := [(2, .int x2.1), (0, .ref rd), (1, .int wd)]) dX6_readN_9 rfl (by decide) rfl ?_
  refine gz_aload_n dX6_readN_10 rfl rfl ?_
  refine sgX6_15 hrd_2 rfl dX6_readN_11 ?_
  refine gz_iload_n dX6_readN_14 rfl rfl ?_
  refine gz_iconst (v := 2) dX6_readN_15 (by decide) ?_
  refine gz_iload_n dX6_readN_16 rfl rfl ?_
  refine scX6_101 (k_X2_setField (w := wd) (k := 2) (x := x2.1) hp_2 h1_2 hs) hp_2 ⟨(Nat.le_of_ble_eq_true rfl), (Nat.le_of_ble_eq_true rfl)⟩ ⟨(Nat.le_of_ble_eq_true rfl), (Nat.le_of_ble_eq_true rfl)⟩ rfl rfl (Nat.le_of_ble_eq_true rfl) dX6_readN_17 ?_
  rintro f3 ⟨h1_3, hr3⟩
  have htx_3 : f3 tx = some (.inr (9, [.ref tb, .int len])) := hr3 _ _ htx_2 (by simp only [List.mem_cons, List.not_mem_nil, or_false, not_or]; exact cne htx_2 h1_2 (by simp))
  have htb_3 : f3 tb = some (.inl (cy 1, n, .inl (tg))) := hr3 _ _ htb_2 (by simp only [List.mem_cons, List.not_mem_nil, or_false, not_or]; exact hne)
  have hp_3 : f3 p = some (.inr (2, [.ref c1, .ref c2, .int s, .int v])) := hr3 _ _ hp_2 (by simp only [List.mem_cons, List.not_mem_nil, or_false, not_or]; exact cne hp_2 h1_2 (by simp))
  have hrd_3 : f3 rd = some (.inr (6, [.ref tx, .ref p, .int x2.2.1, .int x2.2.2])) := hr3 _ _ hrd_2 (by simp only [List.mem_cons, List.not_mem_nil, or_false, not_or]; exact cne hrd_2 h1_2 (by simp))
  refine gz_iload_n dX6_readN_20 rfl rfl ?_
  refine gz_iconst (v := (-1)) dX6_readN_21 (by decide) ?_
  refine gz_icmp_eq (tgt := 29) dX6_readN_22 (by decide) (fun c_22 => ?_) (fun c_22 => ?_)
  ·
    refine gz_iconst (v := 0) dX6_readN_29 (by decide) ?_
    exact gz_zret rfl (by first | decide | exact nrb (Or.inl rfl) | (refine nrb ?_; (repeat' split) <;> first | assumption | exact Or.inl rfl | exact Or.inr rfl)) dX6_readN_30 (Nat.le_of_ble_eq_true rfl) (Nat.le_of_ble_eq_true rfl) (⟨_, rfl, (by rw [(show rdnF len n tg pl fa n1 g s wd = _ from (by unfold rdnF; rw [lett_eq hx1, lett_eq hx2, if_pos c_22]))]), (by rw [(show rdnF len n tg pl fa n1 g s wd = _ from (by unfold rdnF; rw [lett_eq hx1, lett_eq hx2, if_pos c_22]))]; exact hrd_3), (by rw [(show rdnF len n tg pl fa n1 g s wd = _ from (by unfold rdnF; rw [lett_eq hx1, lett_eq hx2, if_pos c_22]))]; exact h1_3), (fr_tr (fr_tr (fr_tr fr_rf (fr_mo hr1 (by simp))) (fr_mo hr2 (by simp))) (fr_mo hr3 (by simp)))⟩)
  ·
    refine gz_iconst (v := 1) dX6_readN_25 (by decide) ?_
    refine gz_goto (tgt := 30) dX6_readN_26 (by decide) ?_
    exact gz_zret rfl (by first | decide | exact nrb (Or.inl rfl) | (refine nrb ?_; (repeat' split) <;> first | assumption | exact Or.inl rfl | exact Or.inr rfl)) dX6_readN_30 (Nat.le_of_ble_eq_true rfl) (Nat.le_of_ble_eq_true rfl) (⟨_, rfl, (by rw [(show rdnF len n tg pl fa n1 g s wd = _ from (by unfold rdnF; rw [lett_eq hx1, lett_eq hx2, if_neg c_22]))]), (by rw [(show rdnF len n tg pl fa n1 g s wd = _ from (by unfold rdnF; rw [lett_eq hx1, lett_eq hx2, if_neg c_22]))]; exact hrd_3), (by rw [(show rdnF len n tg pl fa n1 g s wd = _ from (by unfold rdnF; rw [lett_eq hx1, lett_eq hx2, if_neg c_22]))]; exact h1_3), (fr_tr (fr_tr (fr_tr fr_rf (fr_mo hr1 (by simp))) (fr_mo hr2 (by simp))) (fr_mo hr3 (by simp)))⟩)

theorem bz_rdnF {len : Int32} {n : Nat} {tg : Nat → Int32} {pl fa : Int32} {n1 : Nat} {g : Nat → Int32} {s : Int32} {wd : Int32} : (rdnF len n tg pl fa n1 g s wd).1 = 0 ∨ (rdnF len n tg pl fa n1 g s wd).1 = 1 := by
  unfold rdnF; try simp only [lett]
  (repeat' split) <;> first | with_reducible exact Or.inl rfl | with_reducible exact Or.inr rfl | exact Or.inl rfl

def rrlF (len : Int32) (n : Nat) (tg : Nat → Int32) (pl fa : Int32) (n1 : Nat) (g : Nat → Int32) (s : Int32) (wd : Int32) : (Int32) × (Int32) × (Int32) × (Nat → Int32) := (lett (upnF len n tg pl) fun x1 => (if ((if (x1.1 : Int32) = 60 then 1 else (if (x1.1 : Int32) = 62 then 4 else (if (x1.1 : Int32) = 61 then 2 else 0))) : Int32) = 0 then (lett (faiF fa x1.2 0) fun x2 => (x2.1, x1.2, x2.2, (g))) else (if ((if (x1.1 : Int32) = 60 then 1 else (if (x1.1 : Int32) = 62 then 4 else (if (x1.1 : Int32) = 61 then 2 else 0))) : Int32) = 2 then (1, (x1.2 + 1), fa, (stF n1 g s wd 8 (if (x1.1 : Int32) = 60 then 1 else (if (x1.1 : Int32) = 62 then 4 else (if (x1.1 : Int32) = 61 then 2 else 0))))) else (if ((tAt len n tg (x1.2 + 1)) : Int32) = 61 then (1, ((x1.2 + 1) + 1), fa, (stF n1 g s wd 8 ((if (x1.1 : Int32) = 60 then 1 else (if (x1.1 : Int32) = 62 then 4 else (if (x1.1 : Int32) = 61 then 2 else 0))) ||| 2))) else (1, (x1.2 + 1), fa, (stF n1 g s wd 8 (if (x1.1 : Int32) = 60 then 1 else (if (x1.1 : Int32) = 62 then 4 else (if (x1.1 : Int32) = 61 then 2 else 0)))))))))
set_option maxHeartbeats 4000000 in
set_option maxRecDepth 100000 in
theorem k_X6_readRelation {l : Launch} {D : va_G} {cy : Nat → ClassId} {b : Nat} {f : gMem} {rd tx tb p c1 c2 n n1 : Nat} {len pl fa s v : Int32} {tg g : Nat → Int32} {wd : Int32} (hrd : f rd = some (.inr (6, [.ref tx, .ref p, .int pl, .int fa]))) (htx : f tx = some (.inr (9, [.ref tb, .int len]))) (htb : f tb = some (.inl (cy 1, n, .inl (tg)))) (hp : f p = some (.inr (2, [.ref c1, .ref c2, .int s, .int v]))) (h1 : f c1 = some (.inl (cy 0, n1, .inl (g)))) (hn : n < 2 ^ 31) (hs : 0 ≤ s.toInt ∧ 13 * s.toInt ≤ n1 ∧ n1 ≤ 520) (hne : tb ≠ c1) : gC l D cy b yX6_readRelation cX6_readRelation 4 (some .boolean) 2 0 0 [.ref rd, .int wd] f (pI fun r f2 => r = (rrlF len n tg pl fa n1 g s wd).1 ∧ f2 rd = some (.inr (6, [.ref tx, .ref p, .int (rrlF len n tg pl fa n1 g s wd).2.1, .int (rrlF len n tg pl fa n1 g s wd).2.2.1])) ∧ f2 c1 = some (.inl (cy 0, n1, .inl ((rrlF len n tg pl fa n1 g s wd).2.2.2))) ∧ fr [rd, c1] f f2) := by
  refine gC_of (by decide) (Nat.le_of_ble_eq_true rfl) ?_
  show gG l _ _ _ D cy b cX6_readRelation 4 _ RX6 "readRelation" 0 0 f 0 [(0, .ref rd), (1, .int wd)] []
  refine gz_aload_n dX6_readRelation_0 rfl rfl ?_
  obtain ⟨x1, hx1⟩ : ∃ x0, (upnF len n tg pl) = x0 := ⟨_, rfl⟩
  refine scX6_35 (k_X6_upNext hrd htx htb hn) hrd ⟨(Nat.le_of_ble_eq_true rfl), (Nat.le_of_ble_eq_true rfl)⟩ ⟨(Nat.le_of_ble_eq_true rfl), (Nat.le_of_ble_eq_true rfl)⟩ rfl rfl (Nat.le_of_ble_eq_true rfl) dX6_readRelation_1 ?_
  rintro r1 f1 ⟨z1, hrd_1, hr1⟩; rw [hx1] at z1 hrd_1; rw [z1]
  have htx_1 : f1 tx = some (.inr (9, [.ref tb, .int len])) := hr1 _ _ htx (by simp only [List.mem_cons, List.not_mem_nil, or_false, not_or]; exact cne htx hrd (by simp))
  have htb_1 : f1 tb = some (.inl (cy 1, n, .inl (tg))) := hr1 _ _ htb (by simp only [List.mem_cons, List.not_mem_nil, or_false, not_or]; exact cne htb hrd (by simp))
  have hp_1 : f1 p = some (.inr (2, [.ref c1, .ref c2, .int s, .int v])) := hr1 _ _ hp (by simp only [List.mem_cons, List.not_mem_nil, or_false, not_or]; exact cne hp hrd (by simp))
  have h1_1 : f1 c1 = some (.inl (cy 0, n1, .inl (g))) := hr1 _ _ h1 (by simp only [List.mem_cons, List.not_mem_nil, or_false, not_or]; exact cne h1 hrd (by simp))
  refine gz_istore_n (lv' := [(2, .int x1.1), (0, .ref rd), (1, .int wd)]) dX6_readRelation_4 rfl (by decide) rfl ?_
  refine gz_iload_n dX6_readRelation_5 rfl rfl ?_
  refine gz_bipush (v := 60) dX6_readRelation_6 (by decide) ?_
  refine gz_mrg (f2 := f1) (pc2 := 36) (lv2 := [(2, .int x1.1), (0, .ref rd), (1, .int wd)]) (st2 := [.int (if (x1.1 : Int32) = 60 then 1 else (if (x1.1 : Int32) = 62 then 4 else (if (x1.1 : Int32) = 61 then 2 else 0)))]) ?_ (fun hj8 => ?_)
  ·
    refine gz_istore_n (lv' := [(3, .int (if (x1.1 : Int32) = 60 then 1 else (if (x1.1 : Int32) = 62 then 4 else (if (x1.1 : Int32) = 61 then 2 else 0)))), (2, .int x1.1), (0, .ref rd), (1, .int wd)]) dX6_readRelation_36 rfl (by decide) rfl ?_
    refine gz_iload_n dX6_readRelation_37 rfl rfl ?_
    refine gz_if_ne (tgt := 51) dX6_readRelation_38 (by decide) (fun c_38 => ?_) (fun c_38 => ?_)
    ·
      refine gz_aload_n dX6_readRelation_51 rfl rfl ?_
      refine gz_dup dX6_readRelation_52 rfl ?_
      refine sgX6_19 hrd_1 rfl dX6_readRelation_53 ?_
      refine gz_iconst (v := 1) dX6_readRelation_56 (by decide) ?_
      refine gz_iadd dX6_readRelation_57 ?_
      refine spX6_19 hrd_1  (Nat.le_of_ble_eq_true rfl) dX6_readRelation_58 ?_
      obtain ⟨f2, hf2⟩ : ∃ gg : gMem, gg = va_up f1 rd (some (.inr (6, [.ref tx, .ref p, .int (x1.2 + 1), .int fa]))) := ⟨_, rfl⟩
      refine gz_eq (f2 := f2) hf2.symm rfl rfl rfl ?_
      have htx_2 : f2 tx = some (.inr (9, [.ref tb, .int len])) := by rw [hf2, va_up_ne _ _ (cne htx_1 hrd_1 (by simp))]; exact htx_1
      have htb_2 : f2 tb = some (.inl (cy 1, n, .inl (tg))) := by rw [hf2, va_up_ne _ _ (cne htb_1 hrd_1 (by simp))]; exact htb_1
      have hp_2 : f2 p = some (.inr (2, [.ref c1, .ref c2, .int s, .int v])) := by rw [hf2, va_up_ne _ _ (cne hp_1 hrd_1 (by simp))]; exact hp_1
      have h1_2 : f2 c1 = some (.inl (cy 0, n1, .inl (g))) := by rw [hf2, va_up_ne _ _ (cne h1_1 hrd_1 (by simp))]; exact h1_1
      have hrd_2 : f2 rd = some (.inr (6, [.ref tx, .ref p, .int (x1.2 + 1), .int fa])) := by rw [hf2]; exact va_up_self _ _ _
      refine gz_iload_n dX6_readRelation_61 rfl rfl ?_
      refine gz_iconst (v := 2) dX6_readRelation_62 (by decide) ?_
      refine gz_icmp_eq (tgt := 96) dX6_readRelation_63 (by decide) (fun c_63 => ?_) (fun c_63 => ?_)
      ·
        refine gz_aload_n dX6_readRelation_96 rfl rfl ?_
        refine sgX6_15 hrd_2 rfl dX6_readRelation_97 ?_
        refine gz_iload_n dX6_readRelation_100 rfl rfl ?_
        refine gz_bipush (v := 8) dX6_readRelation_101 (by decide) ?_
        refine gz_iload_n dX6_readRelation_103 rfl rfl ?_
        refine scX6_101 (k_X2_setField (w := wd) (k := 8) (x := (if (x1.1 : Int32) = 60 then 1 else (if (x1.1 : Int32) = 62 then 4 else (if (x1.1 : Int32) = 61 then 2 else 0)))) hp_2 h1_2 hs) hp_2 ⟨(Nat.le_of_ble_eq_true rfl), (Nat.le_of_ble_eq_true rfl)⟩ ⟨(Nat.le_of_ble_eq_true rfl), (Nat.le_of_ble_eq_true rfl)⟩ rfl rfl (Nat.le_of_ble_eq_true rfl) dX6_readRelation_104 ?_
        rintro f3 ⟨h1_3, hr3⟩
        have htx_3 : f3 tx = some (.inr (9, [.ref tb, .int len])) := hr3 _ _ htx_2 (by simp only [List.mem_cons, List.not_mem_nil, or_false, not_or]; exact cne htx_2 h1_2 (by simp))
        have htb_3 : f3 tb = some (.inl (cy 1, n, .inl (tg))) := hr3 _ _ htb_2 (by simp only [List.mem_cons, List.not_mem_nil, or_false, not_or]; exact hne)
        have hp_3 : f3 p = some (.inr (2, [.ref c1, .ref c2, .int s, .int v])) := hr3 _ _ hp_2 (by simp only [List.mem_cons, List.not_mem_nil, or_false, not_or]; exact cne hp_2 h1_2 (by simp))
        have hrd_3 : f3 rd = some (.inr (6, [.ref tx, .ref p, .int (x1.2 + 1), .int fa])) := hr3 _ _ hrd_2 (by simp only [List.mem_cons, List.not_mem_nil, or_false, not_or]; exact cne hrd_2 h1_2 (by simp))
        refine gz_iconst (v := 1) dX6_readRelation_107 (by decide) ?_
        exact gz_zret rfl (by first | decide | exact nrb (Or.inl rfl) | (refine nrb ?_; (repeat' split) <;> first | assumption | exact Or.inl rfl | exact Or.inr rfl)) dX6_readRelation_108 (Nat.le_of_ble_eq_true rfl) (Nat.le_of_ble_eq_true rfl) (⟨_, rfl, (by rw [(show rrlF len n tg pl fa n1 g s wd = _ from (by unfold rrlF; rw [lett_eq hx1, if_neg c_38, if_pos c_63]))]), (by rw [(show rrlF len n tg pl fa n1 g s wd = _ from (by unfold rrlF; rw [lett_eq hx1, if_neg c_38, if_pos c_63]))]; exact hrd_3), (by rw [(show rrlF len n tg pl fa n1 g s wd = _ from (by unfold rrlF; rw [lett_eq hx1, if_neg c_38, if_pos c_63]))]; exact h1_3), (fr_tr (by rw [hf2]; exact fr_up (fr_tr fr_rf (fr_mo hr1 (by simp))) (by simp)) (fr_mo hr3 (by simp)))⟩)
      ·
        refine gz_aload_n dX6_readRelation_66 rfl rfl ?_
        refine sgX6_9 hrd_2 rfl dX6_readRelation_67 ?_
        refine gz_aload_n dX6_readRelation_70 rfl rfl ?_
        refine sgX6_19 hrd_2 rfl dX6_readRelation_71 ?_
        refine scX6_48 (k_X9_at (i := (x1.2 + 1)) htx_2 htb_2 hn) htx_2 ⟨(Nat.le_of_ble_eq_true rfl), (Nat.le_of_ble_eq_true rfl)⟩ ⟨(Nat.le_of_ble_eq_true rfl), (Nat.le_of_ble_eq_true rfl)⟩ rfl rfl (Nat.le_of_ble_eq_true rfl) dX6_readRelation_74 ?_
        intro v9 f9 z9; rw [z9.1, z9.2]
        refine gz_bipush (v := 61) dX6_readRelation_77 (by decide) ?_
        refine gz_icmp_ne (tgt := 96) dX6_readRelation_79 (by decide) (fun c_79 => ?_) (fun c_79 => ?_)
        ·
          refine gz_aload_n dX6_readRelation_96 rfl rfl ?_
          refine sgX6_15 hrd_2 rfl dX6_readRelation_97 ?_
          refine gz_iload_n dX6_readRelation_100 rfl rfl ?_
          refine gz_bipush (v := 8) dX6_readRelation_101 (by decide) ?_
          refine gz_iload_n dX6_readRelation_103 rfl rfl ?_
          refine scX6_101 (k_X2_setField (w := wd) (k := 8) (x := (if (x1.1 : Int32) = 60 then 1 else (if (x1.1 : Int32) = 62 then 4 else (if (x1.1 : Int32) = 61 then 2 else 0)))) hp_2 h1_2 hs) hp_2 ⟨(Nat.le_of_ble_eq_true rfl), (Nat.le_of_ble_eq_true rfl)⟩ ⟨(Nat.le_of_ble_eq_true rfl), (Nat.le_of_ble_eq_true rfl)⟩ rfl rfl (Nat.le_of_ble_eq_true rfl) dX6_readRelation_104 ?_
          rintro f4 ⟨h1_4, hr4⟩
          have htx_4 : f4 tx = some (.inr (9, [.ref tb, .int len])) := hr4 _ _ htx_2 (by simp only [List.mem_cons, List.not_mem_nil, or_false, not_or]; exact cne htx_2 h1_2 (by simp))
          have htb_4 : f4 tb = some (.inl (cy 1, n, .inl (tg))) := hr4 _ _ htb_2 (by simp only [List.mem_cons, List.not_mem_nil, or_false, not_or]; exact hne)
          have hp_4 : f4 p = some (.inr (2, [.ref c1, .ref c2, .int s, .int v])) := hr4 _ _ hp_2 (by simp only [List.mem_cons, List.not_mem_nil, or_false, not_or]; exact cne hp_2 h1_2 (by simp))
          have hrd_4 : f4 rd = some (.inr (6, [.ref tx, .ref p, .int (x1.2 + 1), .int fa])) := hr4 _ _ hrd_2 (by simp only [List.mem_cons, List.not_mem_nil, or_false, not_or]; exact cne hrd_2 h1_2 (by simp))
          refine gz_iconst (v := 1) dX6_readRelation_107 (by decide) ?_
          exact gz_zret rfl (by first | decide | exact nrb (Or.inl rfl) | (refine nrb ?_; (repeat' split) <;> first | assumption | exact Or.inl rfl | exact Or.inr rfl)) dX6_readRelation_108 (Nat.le_of_ble_eq_true rfl) (Nat.le_of_ble_eq_true rfl) (⟨_, rfl, (by rw [(show rrlF len n tg pl fa n1 g s wd = _ from (by unfold rrlF; rw [lett_eq hx1, if_neg c_38, if_neg c_63, if_neg c_79]))]), (by rw [(show rrlF len n tg pl fa n1 g s wd = _ from (by unfold rrlF; rw [lett_eq hx1, if_neg c_38, if_neg c_63, if_neg c_79]))]; exact hrd_4), (by rw [(show rrlF len n tg pl fa n1 g s wd = _ from (by unfold rrlF; rw [lett_eq hx1, if_neg c_38, if_neg c_63, if_neg c_79]))]; exact h1_4), (fr_tr (by rw [hf2]; exact fr_up (fr_tr fr_rf (fr_mo hr1 (by simp))) (by simp)) (fr_mo hr4 (by simp)))⟩)
        ·
          refine gz_iload_n dX6_readRelation_82 rfl rfl ?_
          refine gz_iconst (v := 2) dX6_readRelation_83 (by decide) ?_
          refine gz_ior dX6_readRelation_84 ?_
          refine gz_istore_n (lv' := [(3, .int ((if (x1.1 : Int32) = 60 then 1 else (if (x1.1 : Int32) = 62 then 4 else (if (x1.1 : Int32) = 61 then 2 else 0))) ||| 2)), (2, .int x1.1), (0, .ref rd), (1, .int wd)]) dX6_readRelation_85 rfl (by decide) rfl ?_
          refine gz_aload_n dX6_readRelation_86 rfl rfl ?_
          refine gz_dup dX6_readRelation_87 rfl ?_
          refine sgX6_19 hrd_2 rfl dX6_readRelation_88 ?_
          refine gz_iconst (v := 1) dX6_readRelation_91 (by decide) ?_
          refine gz_iadd dX6_readRelation_92 ?_
          refine spX6_19 hrd_2  (Nat.le_of_ble_eq_true rfl) dX6_readRelation_93 ?_
          obtain ⟨f5, hf5⟩ : ∃ gg : gMem, gg = va_up f2 rd (some (.inr (6, [.ref tx, .ref p, .int ((x1.2 + 1) + 1), .int fa]))) := ⟨_, rfl⟩
          refine gz_eq (f2 := f5) hf5.symm rfl rfl rfl ?_
          have htx_5 : f5 tx = some (.inr (9, [.ref tb, .int len])) := by rw [hf5, va_up_ne _ _ (cne htx_2 hrd_2 (by simp))]; exact htx_2
          have htb_5 : f5 tb = some (.inl (cy 1, n, .inl (tg))) := by rw [hf5, va_up_ne _ _ (cne htb_2 hrd_2 (by simp))]; exact htb_2
          have hp_5 : f5 p = some (.inr (2, [.ref c1, .ref c2, .int s, .int v])) := by rw [hf5, va_up_ne _ _ (cne hp_2 hrd_2 (by simp))]; exact hp_2
          have h1_5 : f5 c1 = some (.inl (cy 0, n1, .inl (g))) := by rw [hf5, va_up_ne _ _ (cne h1_2 hrd_2 (by simp))]; exact h1_2
          have hrd_5 : f5 rd = some (.inr (6, [.ref tx, .ref p, .int ((x1.2 + 1) + 1), .int fa])) := by rw [hf5]; exact va_up_self _ _ _
          refine gz_aload_n dX6_readRelation_96 rfl rfl ?_
          refine sgX6_15 hrd_5 rfl dX6_readRelation_97 ?_
          refine gz_iload_n dX6_readRelation_100 rfl rfl ?_
          refine gz_bipush (v := 8) dX6_readRelation_101 (by decide) ?_
          refine gz_iload_n dX6_readRelation_103 rfl rfl ?_
          refine scX6_101 (k_X2_setField (w := wd) (k := 8) (x := ((if (x1.1 : Int32) = 60 then 1 else (if (x1.1 : Int32) = 62 then 4 else (if (x1.1 : Int32) = 61 then 2 else 0))) ||| 2)) hp_5 h1_5 hs) hp_5 ⟨(Nat.le_of_ble_eq_true rfl), (Nat.le_of_ble_eq_true rfl)⟩ ⟨(Nat.le_of_ble_eq_true rfl), (Nat.le_of_ble_eq_true rfl)⟩ rfl rfl (Nat.le_of_ble_eq_true rfl) dX6_readRelation_104 ?_
          rintro f6 ⟨h1_6, hr6⟩
          have htx_6 : f6 tx = some (.inr (9, [.ref tb, .int len])) := hr6 _ _ htx_5 (by simp only [List.mem_cons, List.not_mem_nil, or_false, not_or]; exact cne htx_5 h1_5 (by simp))
          have htb_6 : f6 tb = some (.inl (cy 1, n, .inl (tg))) := hr6 _ _ htb_5 (by simp only [List.mem_cons, List.not_mem_nil, or_false, not_or]; exact hne)
          have hp_6 : f6 p = some (.inr (2, [.ref c1, .ref c2, .int s, .int v])) := hr6 _ _ hp_5 (by simp only [List.mem_cons, List.not_mem_nil, or_false, not_or]; exact cne hp_5 h1_5 (by simp))
          have hrd_6 : f6 rd = some (.inr (6, [.ref tx, .ref p, .int ((x1.2 + 1) + 1), .int fa])) := hr6 _ _ hrd_5 (by simp only [List.mem_cons, List.not_mem_nil, or_false, not_or]; exact cne hrd_5 h1_5 (by simp))
          refine gz_iconst (v := 1) dX6_readRelation_107 (by decide) ?_
          exact gz_zret rfl (by first | decide | exact nrb (Or.inl rfl) | (refine nrb ?_; (repeat' split) <;> first | assumption | exact Or.inl rfl | exact Or.inr rfl)) dX6_readRelation_108 (Nat.le_of_ble_eq_true rfl) (Nat.le_of_ble_eq_true rfl) (⟨_, rfl, (by rw [(show rrlF len n tg pl fa n1 g s wd = _ from (by unfold rrlF; rw [lett_eq hx1, if_neg c_38, if_neg c_63, if_pos c_79]))]), (by rw [(show rrlF len n tg pl fa n1 g s wd = _ from (by unfold rrlF; rw [lett_eq hx1, if_neg c_38, if_neg c_63, if_pos c_79]))]; exact hrd_6), (by rw [(show rrlF len n tg pl fa n1 g s wd = _ from (by unfold rrlF; rw [lett_eq hx1, if_neg c_38, if_neg c_63, if_pos c_79]))]; exact h1_6), (fr_tr (by rw [hf5]; exact fr_up (by rw [hf2]; exact fr_up (fr_tr fr_rf (fr_mo hr1 (by simp))) (by simp)) (by simp)) (fr_mo hr6 (by simp)))⟩)
    ·
      refine gz_aload_n dX6_readRelation_41 rfl rfl ?_
      refine gz_aload_n dX6_readRelation_42 rfl rfl ?_
      refine sgX6_19 hrd_1 rfl dX6_readRelation_43 ?_
      refine gz_iconst (v := 0) dX6_readRelation_46 (by decide) ?_
      obtain ⟨x2, hx2⟩ : ∃ x0, (faiF fa x1.2 0) = x0 := ⟨_, rfl⟩
      refine scX6_39 (k_X6_fail (at_ := x1.2) (kd := 0) hrd_1) hrd_1 ⟨(Nat.le_of_ble_eq_true rfl), (Nat.le_of_ble_eq_true rfl)⟩ ⟨(Nat.le_of_ble_eq_true rfl), (Nat.le_of_ble_eq_true rfl)⟩ rfl rfl (Nat.le_of_ble_eq_true rfl) dX6_readRelation_47 ?_
      rintro r7 f7 ⟨z7, hrd_7, hr7⟩; rw [hx2] at z7 hrd_7; rw [z7]
      have htx_7 : f7 tx = some (.inr (9, [.ref tb, .int len])) := hr7 _ _ htx_1 (by simp only [List.mem_cons, List.not_mem_nil, or_false, not_or]; exact cne htx_1 hrd_1 (by simp))
      have htb_7 : f7 tb = some (.inl (cy 1, n, .inl (tg))) := hr7 _ _ htb_1 (by simp only [List.mem_cons, List.not_mem_nil, or_false, not_or]; exact cne htb_1 hrd_1 (by simp))
      have hp_7 : f7 p = some (.inr (2, [.ref c1, .ref c2, .int s, .int v])) := hr7 _ _ hp_1 (by simp only [List.mem_cons, List.not_mem_nil, or_false, not_or]; exact cne hp_1 hrd_1 (by simp))
      have h1_7 : f7 c1 = some (.inl (cy 0, n1, .inl (g))) := hr7 _ _ h1_1 (by simp only [List.mem_cons, List.not_mem_nil, or_false, not_or]; exact cne h1_1 hrd_1 (by simp))
      have hbx2 : x2.1 = 0 ∨ x2.1 = 1 := by rw [← hx2]; exact Or.inl rfl
      exact gz_zret rfl (by first | decide | exact nrb (Or.inl rfl) | (refine nrb ?_; (repeat' split) <;> first | assumption | exact Or.inl rfl | exact Or.inr rfl)) dX6_readRelation_50 (Nat.le_of_ble_eq_true rfl) (Nat.le_of_ble_eq_true rfl) (⟨_, rfl, (by rw [(show rrlF len n tg pl fa n1 g s wd = _ from (by unfold rrlF; rw [lett_eq hx1, if_pos c_38, lett_eq hx2]))]), (by rw [(show rrlF len n tg pl fa n1 g s wd = _ from (by unfold rrlF; rw [lett_eq hx1, if_pos c_38, lett_eq hx2]))]; exact hrd_7), (by rw [(show rrlF len n tg pl fa n1 g s wd = _ from (by unfold rrlF; rw [lett_eq hx1, if_pos c_38, lett_eq hx2]))]; exact h1_7), (fr_tr (fr_tr fr_rf (fr_mo hr1 (by simp))) (fr_mo hr7 (by simp)))⟩)
  ·
    refine gz_icmp_ne (tgt := 15) dX6_readRelation_8 (by decide) (fun c_8_3 => ?_) (fun c_8_3 => ?_)
    ·
      refine gz_iload_n dX6_readRelation_15 rfl rfl ?_
      refine gz_bipush (v := 62) dX6_readRelation_16 (by decide) ?_
      refine gz_icmp_ne (tgt := 25) dX6_readRelation_18 (by decide) (fun c_18 => ?_) (fun c_18 => ?_)
      ·
        refine gz_iload_n dX6_readRelation_25 rfl rfl ?_
        refine gz_bipush (v := 61) dX6_readRelation_26 (by decide) ?_
        refine gz_icmp_ne (tgt := 35) dX6_readRelation_28 (by decide) (fun c_28 => ?_) (fun c_28 => ?_)
        ·
          refine gz_iconst (v := 0) dX6_readRelation_35 (by decide) ?_
          exact gz_eq rfl rfl (rfl) (by first | (rw [if_neg c_8_3, if_neg c_18, if_neg c_28]; done) | (simp only [if_neg c_8_3, if_neg c_18, if_neg c_28]; done)) hj8
        ·
          refine gz_iconst (v := 2) dX6_readRelation_31 (by decide) ?_
          refine gz_goto (tgt := 36) dX6_readRelation_32 (by decide) ?_
          exact gz_eq rfl rfl (rfl) (by first | (rw [if_neg c_8_3, if_neg c_18, if_pos c_28]; done) | (simp only [if_neg c_8_3, if_neg c_18, if_pos c_28]; done)) hj8
      ·
        refine gz_iconst (v := 4) dX6_readRelation_21 (by decide) ?_
        refine gz_goto (tgt := 36) dX6_readRelation_22 (by decide) ?_
        exact gz_eq rfl rfl (rfl) (by first | (rw [if_neg c_8_3, if_pos c_18]; done) | (simp only [if_neg c_8_3, if_pos c_18]; done)) hj8
    ·
      refine gz_iconst (v := 1) dX6_readRelation_11 (by decide) ?_
      refine gz_goto (tgt := 36) dX6_readRelation_12 (by decide) ?_
      exact gz_eq rfl rfl (rfl) (by first | (rw [if_pos c_8_3]; done) | (simp only [if_pos c_8_3]; done)) hj8

theorem bz_rrlF {len : Int32} {n : Nat} {tg : Nat → Int32} {pl fa : Int32} {n1 : Nat} {g : Nat → Int32} {s : Int32} {wd : Int32} : (rrlF len n tg pl fa n1 g s wd).1 = 0 ∨ (rrlF len n tg pl fa n1 g s wd).1 = 1 := by
  unfold rrlF; try simp only [lett]
  (repeat' split) <;> first | with_reducible exact Or.inl rfl | with_reducible exact Or.inr rfl | exact Or.inl rfl

def rvaF (len : Int32) (n : Nat) (tg : Nat → Int32) (pl fa : Int32) (n2 : Nat) (h : Nat → Int32) (v : Int32) (jo : Int32) : (Int32) × (Int32) × (Int32) × (Int32) × (Nat → Int32) := (lett (upnF len n tg pl) fun x1 => (if ((digF x1.1) : Int32) = 0 then (if ((letF x1.1) : Int32) = 0 then (lett (faiF fa x1.2 0) fun x2 => (lett (addF n2 h v jo (-1)) fun x3 => (if (x3.1 : Int32) = 0 then (lett (faiF x2.2 x1.2 4) fun x4 => (if (x4.2 : Int32) = 0 then (1, x1.2, x4.2, x3.2.2, (x3.2.1)) else (0, x1.2, x4.2, x3.2.2, (x3.2.1)))) else (if (x2.2 : Int32) = 0 then (1, x1.2, x2.2, x3.2.2, (x3.2.1)) else (0, x1.2, x2.2, x3.2.2, (x3.2.1)))))) else (lett (rnvF len n tg x1.2 fa (ltrF len n tg x1.2)) fun x5 => (lett (addF n2 h v jo x5.1) fun x6 => (if (x6.1 : Int32) = 0 then (lett (faiF x5.2.2 x1.2 4) fun x7 => (if (x7.2 : Int32) = 0 then (1, x5.2.1, x7.2, x6.2.2, (x6.2.1)) else (0, x5.2.1, x7.2, x6.2.2, (x6.2.1)))) else (if (x5.2.2 : Int32) = 0 then (1, x5.2.1, x5.2.2, x6.2.2, (x6.2.1)) else (0, x5.2.1, x5.2.2, x6.2.2, (x6.2.1))))))) else (lett (rnuF len n tg x1.2 fa) fun x8 => (lett (addF n2 h v jo x8.1) fun x9 => (if (x9.1 : Int32) = 0 then (lett (faiF x8.2.2 x1.2 4) fun x10 => (if (x10.2 : Int32) = 0 then (1, x8.2.1, x10.2, x9.2.2, (x9.2.1)) else (0, x8.2.1, x10.2, x9.2.2, (x9.2.1)))) else (if (x8.2.2 : Int32) = 0 then (1, x8.2.1, x8.2.2, x9.2.2, (x9.2.1)) else (0, x8.2.1, x8.2.2, x9.2.2, (x9.2.1))))))))
set_option maxHeartbeats 4000000 in
set_option maxRecDepth 100000 in
theorem k_X6_readValue {l : Launch} {D : va_G} {cy : Nat → ClassId} {b : Nat} {f : gMem} {rd tx tb p c1 c2 n n2 : Nat} {len pl fa s v : Int32} {tg h : Nat → Int32} {jo : Int32} (hrd : f rd = some (.inr (6, [.ref tx, .ref p, .int pl, .int fa]))) (htx : f tx = some (.inr (9, [.ref tb, .int len]))) (htb : f tb = some (.inl (cy 1, n, .inl (tg)))) (hp : f p = some (.inr (2, [.ref c1, .ref c2, .int s, .int v]))) (h2 : f c2 = some (.inl (cy 0, n2, .inl (h)))) (hn : n < 2 ^ 31) (hv : 0 ≤ v.toInt ∧ 2 * v.toInt ≤ n2 ∧ n2 ≤ 80) (hne : tb ≠ c2) : gC l D cy b yX6_readValue cX6_readValue 5 (some .boolean) 3 0 0 [.ref rd, .int jo] f (pI fun r f2 => r = (rvaF len n tg pl fa n2 h v jo).1 ∧ f2 rd = some (.inr (6, [.ref tx, .ref p, .int (rvaF len n tg pl fa n2 h v jo).2.1, .int (rvaF len n tg pl fa n2 h v jo).2.2.1])) ∧ f2 p = some (.inr (2, [.ref c1, .ref c2, .int s, .int (rvaF len n tg pl fa n2 h v jo).2.2.2.1])) ∧ f2 c2 = some (.inl (cy 0, n2, .inl ((rvaF len n tg pl fa n2 h v jo).2.2.2.2))) ∧ fr [rd, p, c2] f f2) := by
  refine gC_of (by decide) (Nat.le_of_ble_eq_true rfl) ?_
  show gG l _ _ _ D cy b cX6_readValue 5 _ RX6 "readValue" 0 0 f 0 [(0, .ref rd), (1, .int jo)] []
  refine gz_aload_n dX6_readValue_0 rfl rfl ?_
  obtain ⟨x1, hx1⟩ : ∃ x0, (upnF len n tg pl) = x0 := ⟨_, rfl⟩
  refine scX6_35 (k_X6_upNext hrd htx htb hn) hrd ⟨(Nat.le_of_ble_eq_true rfl), (Nat.le_of_ble_eq_true rfl)⟩ ⟨(Nat.le_of_ble_eq_true rfl), (Nat.le_of_ble_eq_true rfl)⟩ rfl rfl (Nat.le_of_ble_eq_true rfl) dX6_readValue_1 ?_
  rintro r1 f1 ⟨z1, hrd_1, hr1⟩; rw [hx1] at z1 hrd_1; rw [z1]
  have htx_1 : f1 tx = some (.inr (9, [.ref tb, .int len])) := hr1 _ _ htx (by simp only [List.mem_cons, List.not_mem_nil, or_false, not_or]; exact cne htx hrd (by simp))
  have htb_1 : f1 tb = some (.inl (cy 1, n, .inl (tg))) := hr1 _ _ htb (by simp only [List.mem_cons, List.not_mem_nil, or_false, not_or]; exact cne htb hrd (by simp))
  have hp_1 : f1 p = some (.inr (2, [.ref c1, .ref c2, .int s, .int v])) := hr1 _ _ hp (by simp only [List.mem_cons, List.not_mem_nil, or_false, not_or]; exact cne hp hrd (by simp))
  have h2_1 : f1 c2 = some (.inl (cy 0, n2, .inl (h))) := hr1 _ _ h2 (by simp only [List.mem_cons, List.not_mem_nil, or_false, not_or]; exact cne h2 hrd (by simp))
  refine gz_istore_n (lv' := [(2, .int x1.1), (0, .ref rd), (1, .int jo)]) dX6_readValue_4 rfl (by decide) rfl ?_
  refine gz_aload_n dX6_readValue_5 rfl rfl ?_
  refine sgX6_19 hrd_1 rfl dX6_readValue_6 ?_
  refine gz_istore_n (lv' := [(3, .int x1.2), (2, .int x1.1), (0, .ref rd), (1, .int jo)]) dX6_readValue_9 rfl (by decide) rfl ?_
  refine gz_iconst (v := (-1)) dX6_readValue_10 (by decide) ?_
  refine gz_istore (lv' := [(4, .int (-1)), (3, .int x1.2), (2, .int x1.1), (0, .ref rd), (1, .int jo)]) dX6_readValue_11 (by decide) rfl ?_
  refine gz_iload_n dX6_readValue_13 rfl rfl ?_
  refine scX6_105 (k_X11_isDigit (x := x1.1)) ⟨(Nat.le_of_ble_eq_true rfl), (Nat.le_of_ble_eq_true rfl)⟩ ⟨(Nat.le_of_ble_eq_true rfl), (Nat.le_of_ble_eq_true rfl)⟩ rfl rfl (Nat.le_of_ble_eq_true rfl) dX6_readValue_14 ?_
  intro v9 f9 z9; rw [z9.1, z9.2]
  refine gz_if_eq (tgt := 29) dX6_readValue_17 (by decide) (fun c_17 => ?_) (fun c_17 => ?_)
  ·
    refine gz_iload_n dX6_readValue_29 rfl rfl ?_
    refine scX6_54 (k_X11_isLetter (x := x1.1)) ⟨(Nat.le_of_ble_eq_true rfl), (Nat.le_of_ble_eq_true rfl)⟩ ⟨(Nat.le_of_ble_eq_true rfl), (Nat.le_of_ble_eq_true rfl)⟩ rfl rfl (Nat.le_of_ble_eq_true rfl) dX6_readValue_30 ?_
    intro v9 f9 z9; rw [z9.1, z9.2]
    refine gz_if_eq (tgt := 50) dX6_readValue_33 (by decide) (fun c_33 => ?_) (fun c_33 => ?_)
    ·
      refine gz_aload_n dX6_readValue_50 rfl rfl ?_
      refine gz_iload_n dX6_readValue_51 rfl rfl ?_
      refine gz_iconst (v := 0) dX6_readValue_52 (by decide) ?_
      obtain ⟨x2, hx2⟩ : ∃ x0, (faiF fa x1.2 0) = x0 := ⟨_, rfl⟩
      refine scX6_39 (k_X6_fail (at_ := x1.2) (kd := 0) hrd_1) hrd_1 ⟨(Nat.le_of_ble_eq_true rfl), (Nat.le_of_ble_eq_true rfl)⟩ ⟨(Nat.le_of_ble_eq_true rfl), (Nat.le_of_ble_eq_true rfl)⟩ rfl rfl (Nat.le_of_ble_eq_true rfl) dX6_readValue_53 ?_
      rintro r2 f2 ⟨z2, hrd_2, hr2⟩; rw [hx2] at z2 hrd_2; rw [z2]
      have htx_2 : f2 tx = some (.inr (9, [.ref tb, .int len])) := hr2 _ _ htx_1 (by simp only [List.mem_cons, List.not_mem_nil, or_false, not_or]; exact cne htx_1 hrd_1 (by simp))
      have htb_2 : f2 tb = some (.inl (cy 1, n, .inl (tg))) := hr2 _ _ htb_1 (by simp only [List.mem_cons, List.not_mem_nil, or_false, not_or]; exact cne htb_1 hrd_1 (by simp))
      have hp_2 : f2 p = some (.inr (2, [.ref c1, .ref c2, .int s, .int v])) := hr2 _ _ hp_1 (by simp only [List.mem_cons, List.not_mem_nil, or_false, not_or]; exact cne hp_1 hrd_1 (by simp))
      have h2_2 : f2 c2 = some (.inl (cy 0, n2, .inl (h))) := hr2 _ _ h2_1 (by simp only [List.mem_cons, List.not_mem_nil, or_false, not_or]; exact cne h2_1 hrd_1 (by simp))
      have hbx2 : x2.1 = 0 ∨ x2.1 = 1 := by rw [← hx2]; exact Or.inl rfl
      refine gz_pop dX6_readValue_56 rfl ?_
      refine gz_aload_n dX6_readValue_57 rfl rfl ?_
      refine sgX6_15 hrd_2 rfl dX6_readValue_58 ?_
      refine gz_iload_n dX6_readValue_61 rfl rfl ?_
      refine gz_iload dX6_readValue_62 rfl ?_
      obtain ⟨x3, hx3⟩ : ∃ x0, (addF n2 h v jo (-1)) = x0 := ⟨_, rfl⟩
      refine scX6_127 (k_X2_addValue (j := jo) (x := (-1)) hp_2 h2_2 hv) hp_2 ⟨(Nat.le_of_ble_eq_true rfl), (Nat.le_of_ble_eq_true rfl)⟩ ⟨(Nat.le_of_ble_eq_true rfl), (Nat.le_of_ble_eq_true rfl)⟩ rfl rfl (Nat.le_of_ble_eq_true rfl) dX6_readValue_64 ?_
      rintro r3 f3 ⟨z3, h2_3, hp_3, hr3⟩; rw [hx3] at z3 h2_3 hp_3; rw [z3]
      have htx_3 : f3 tx = some (.inr (9, [.ref tb, .int len])) := hr3 _ _ htx_2 (by simp only [List.mem_cons, List.not_mem_nil, or_false, not_or]; exact ⟨cne htx_2 hp_2 (by simp), cne htx_2 h2_2 (by simp)⟩)
      have htb_3 : f3 tb = some (.inl (cy 1, n, .inl (tg))) := hr3 _ _ htb_2 (by simp only [List.mem_cons, List.not_mem_nil, or_false, not_or]; exact ⟨cne htb_2 hp_2 (by simp), hne⟩)
      have hrd_3 : f3 rd = some (.inr (6, [.ref tx, .ref p, .int x1.2, .int x2.2])) := hr3 _ _ hrd_2 (by simp only [List.mem_cons, List.not_mem_nil, or_false, not_or]; exact ⟨cne hrd_2 hp_2 (by simp), cne hrd_2 h2_2 (by simp)⟩)
      refine gz_if_ne (tgt := 77) dX6_readValue_67 (by decide) (fun c_67 => ?_) (fun c_67 => ?_)
      ·
        refine gz_aload_n dX6_readValue_77 rfl rfl ?_
        refine sgX6_23 hrd_3 rfl dX6_readValue_78 ?_
        refine gz_if_ne (tgt := 88) dX6_readValue_81 (by decide) (fun c_81 => ?_) (fun c_81 => ?_)
        ·
          refine gz_iconst (v := 0) dX6_readValue_88 (by decide) ?_
          exact gz_zret rfl (by first | decide | exact nrb (Or.inl rfl) | (refine nrb ?_; (repeat' split) <;> first | assumption | exact Or.inl rfl | exact Or.inr rfl)) dX6_readValue_89 (Nat.le_of_ble_eq_true rfl) (Nat.le_of_ble_eq_true rfl) (⟨_, rfl, (by rw [(show rvaF len n tg pl fa n2 h v jo = _ from (by unfold rvaF; rw [lett_eq hx1, if_pos c_17, if_pos c_33, lett_eq hx2, lett_eq hx3, if_neg c_67, if_neg c_81]))]), (by rw [(show rvaF len n tg pl fa n2 h v jo = _ from (by unfold rvaF; rw [lett_eq hx1, if_pos c_17, if_pos c_33, lett_eq hx2, lett_eq hx3, if_neg c_67, if_neg c_81]))]; exact hrd_3), (by rw [(show rvaF len n tg pl fa n2 h v jo = _ from (by unfold rvaF; rw [lett_eq hx1, if_pos c_17, if_pos c_33, lett_eq hx2, lett_eq hx3, if_neg c_67, if_neg c_81]))]; exact hp_3), (by rw [(show rvaF len n tg pl fa n2 h v jo = _ from (by unfold rvaF; rw [lett_eq hx1, if_pos c_17, if_pos c_33, lett_eq hx2, lett_eq hx3, if_neg c_67, if_neg c_81]))]; exact h2_3), (fr_tr (fr_tr (fr_tr fr_rf (fr_mo hr1 (by simp))) (fr_mo hr2 (by simp))) (fr_mo hr3 (by simp)))⟩)
        ·
          refine gz_iconst (v := 1) dX6_readValue_84 (by decide) ?_
          refine gz_goto (tgt := 89) dX6_readValue_85 (by decide) ?_
          exact gz_zret rfl (by first | decide | exact nrb (Or.inl rfl) | (refine nrb ?_; (repeat' split) <;> first | assumption | exact Or.inl rfl | exact Or.inr rfl)) dX6_readValue_89 (Nat.le_of_ble_eq_true rfl) (Nat.le_of_ble_eq_true rfl) (⟨_, rfl, (by rw [(show rvaF len n tg pl fa n2 h v jo = _ from (by unfold rvaF; rw [lett_eq hx1, if_pos c_17, if_pos c_33, lett_eq hx2, lett_eq hx3, if_neg c_67, if_pos c_81]))]), (by rw [(show rvaF len n tg pl fa n2 h v jo = _ from (by unfold rvaF; rw [lett_eq hx1, if_pos c_17, if_pos c_33, lett_eq hx2, lett_eq hx3, if_neg c_67, if_pos c_81]))]; exact hrd_3), (by rw [(show rvaF len n tg pl fa n2 h v jo = _ from (by unfold rvaF; rw [lett_eq hx1, if_pos c_17, if_pos c_33, lett_eq hx2, lett_eq hx3, if_neg c_67, if_pos c_81]))]; exact hp_3), (by rw [(show rvaF len n tg pl fa n2 h v jo = _ from (by unfold rvaF; rw [lett_eq hx1, if_pos c_17, if_pos c_33, lett_eq hx2, lett_eq hx3, if_neg c_67, if_pos c_81]))]; exact h2_3), (fr_tr (fr_tr (fr_tr fr_rf (fr_mo hr1 (by simp))) (fr_mo hr2 (by simp))) (fr_mo hr3 (by simp)))⟩)
      ·
        refine gz_aload_n dX6_readValue_70 rfl rfl ?_
        refine gz_iload_n dX6_readValue_71 rfl rfl ?_
        refine gz_iconst (v := 4) dX6_readValue_72 (by decide) ?_
        obtain ⟨x4, hx4⟩ : ∃ x0, (faiF x2.2 x1.2 4) = x0 := ⟨_, rfl⟩
        refine scX6_39 (k_X6_fail (at_ := x1.2) (kd := 4) hrd_3) hrd_3 ⟨(Nat.le_of_ble_eq_true rfl), (Nat.le_of_ble_eq_true rfl)⟩ ⟨(Nat.le_of_ble_eq_true rfl), (Nat.le_of_ble_eq_true rfl)⟩ rfl rfl (Nat.le_of_ble_eq_true rfl) dX6_readValue_73 ?_
        rintro r4 f4 ⟨z4, hrd_4, hr4⟩; rw [hx4] at z4 hrd_4; rw [z4]
        have htx_4 : f4 tx = some (.inr (9, [.ref tb, .int len])) := hr4 _ _ htx_3 (by simp only [List.mem_cons, List.not_mem_nil, or_false, not_or]; exact cne htx_3 hrd_3 (by simp))
        have htb_4 : f4 tb = some (.inl (cy 1, n, .inl (tg))) := hr4 _ _ htb_3 (by simp only [List.mem_cons, List.not_mem_nil, or_false, not_or]; exact cne htb_3 hrd_3 (by simp))
        have h2_4 : f4 c2 = some (.inl (cy 0, n2, .inl (x3.2.1))) := hr4 _ _ h2_3 (by simp only [List.mem_cons, List.not_mem_nil, or_false, not_or]; exact cne h2_3 hrd_3 (by simp))
        have hp_4 : f4 p = some (.inr (2, [.ref c1, .ref c2, .int s, .int x3.2.2])) := hr4 _ _ hp_3 (by simp only [List.mem_cons, List.not_mem_nil, or_false, not_or]; exact cne hp_3 hrd_3 (by simp))
        have hbx4 : x4.1 = 0 ∨ x4.1 = 1 := by rw [← hx4]; exact Or.inl rfl
        refine gz_pop dX6_readValue_76 rfl ?_
        refine gz_aload_n dX6_readValue_77 rfl rfl ?_
        refine sgX6_23 hrd_4 rfl dX6_readValue_78 ?_
        refine gz_if_ne (tgt := 88) dX6_readValue_81 (by decide) (fun c_81 => ?_) (fun c_81 => ?_)
        ·
          refine gz_iconst (v := 0) dX6_readValue_88 (by decide) ?_
          exact gz_zret rfl (by first | decide | exact nrb (Or.inl rfl) | (refine nrb ?_; (repeat' split) <;> first | assumption | exact Or.inl rfl | exact Or.inr rfl)) dX6_readValue_89 (Nat.le_of_ble_eq_true rfl) (Nat.le_of_ble_eq_true rfl) (⟨_, rfl, (by rw [(show rvaF len n tg pl fa n2 h v jo = _ from (by unfold rvaF; rw [lett_eq hx1, if_pos c_17, if_pos c_33, lett_eq hx2, lett_eq hx3, if_pos c_67, lett_eq hx4, if_neg c_81]))]), (by rw [(show rvaF len n tg pl fa n2 h v jo = _ from (by unfold rvaF; rw [lett_eq hx1, if_pos c_17, if_pos c_33, lett_eq hx2, lett_eq hx3, if_pos c_67, lett_eq hx4, if_neg c_81]))]; exact hrd_4), (by rw [(show rvaF len n tg pl fa n2 h v jo = _ from (by unfold rvaF; rw [lett_eq hx1, if_pos c_17, if_pos c_33, lett_eq hx2, lett_eq hx3, if_pos c_67, lett_eq hx4, if_neg c_81]))]; exact hp_4), (by rw [(show rvaF len n tg pl fa n2 h v jo = _ from (by unfold rvaF; rw [lett_eq hx1, if_pos c_17, if_pos c_33, lett_eq hx2, lett_eq hx3, if_pos c_67, lett_eq hx4, if_neg c_81]))]; exact h2_4), (fr_tr (fr_tr (fr_tr (fr_tr fr_rf (fr_mo hr1 (by simp))) (fr_mo hr2 (by simp))) (fr_mo hr3 (by simp))) (fr_mo hr4 (by simp)))⟩)
        ·
          refine gz_iconst (v := 1) dX6_readValue_84 (by decide) ?_
          refine gz_goto (tgt := 89) dX6_readValue_85 (by decide) ?_
          exact gz_zret rfl (by first | decide | exact nrb (Or.inl rfl) | (refine nrb ?_; (repeat' split) <;> first | assumption | exact Or.inl rfl | exact Or.inr rfl)) dX6_readValue_89 (Nat.le_of_ble_eq_true rfl) (Nat.le_of_ble_eq_true rfl) (⟨_, rfl, (by rw [(show rvaF len n tg pl fa n2 h v jo = _ from (by unfold rvaF; rw [lett_eq hx1, if_pos c_17, if_pos c_33, lett_eq hx2, lett_eq hx3, if_pos c_67, lett_eq hx4, if_pos c_81]))]), (by rw [(show rvaF len n tg pl fa n2 h v jo = _ from (by unfold rvaF; rw [lett_eq hx1, if_pos c_17, if_pos c_33, lett_eq hx2, lett_eq hx3, if_pos c_67, lett_eq hx4, if_pos c_81]))]; exact hrd_4), (by rw [(show rvaF len n tg pl fa n2 h v jo = _ from (by unfold rvaF; rw [lett_eq hx1, if_pos c_17, if_pos c_33, lett_eq hx2, lett_eq hx3, if_pos c_67, lett_eq hx4, if_pos c_81]))]; exact hp_4), (by rw [(show rvaF len n tg pl fa n2 h v jo = _ from (by unfold rvaF; rw [lett_eq hx1, if_pos c_17, if_pos c_33, lett_eq hx2, lett_eq hx3, if_pos c_67, lett_eq hx4, if_pos c_81]))]; exact h2_4), (fr_tr (fr_tr (fr_tr (fr_tr fr_rf (fr_mo hr1 (by simp))) (fr_mo hr2 (by simp))) (fr_mo hr3 (by simp))) (fr_mo hr4 (by simp)))⟩)
    ·
      refine gz_aload_n dX6_readValue_36 rfl rfl ?_
      refine gz_aload_n dX6_readValue_37 rfl rfl ?_
      refine gz_iload_n dX6_readValue_38 rfl rfl ?_
      refine scX6_65 (k_X6_lettersFrom (x := x1.2) hrd_1 htx_1 htb_1 hn) hrd_1 ⟨(Nat.le_of_ble_eq_true rfl), (Nat.le_of_ble_eq_true rfl)⟩ ⟨(Nat.le_of_ble_eq_true rfl), (Nat.le_of_ble_eq_true rfl)⟩ rfl rfl (Nat.le_of_ble_eq_true rfl) dX6_readValue_39 ?_
      intro v9 f9 z9; rw [z9.1, z9.2]
      obtain ⟨x5, hx5⟩ : ∃ x0, (rnvF len n tg x1.2 fa (ltrF len n tg x1.2)) = x0 := ⟨_, rfl⟩
      refine scX6_124 (k_X6_readNamedValue (lg := (ltrF len n tg x1.2)) hrd_1 htx_1 htb_1 hn) hrd_1 ⟨(Nat.le_of_ble_eq_true rfl), (Nat.le_of_ble_eq_true rfl)⟩ ⟨(Nat.le_of_ble_eq_true rfl), (Nat.le_of_ble_eq_true rfl)⟩ rfl rfl (Nat.le_of_ble_eq_true rfl) dX6_readValue_42 ?_
      rintro r5 f5 ⟨z5, hrd_5, hr5⟩; rw [hx5] at z5 hrd_5; rw [z5]
      have htx_5 : f5 tx = some (.inr (9, [.ref tb, .int len])) := hr5 _ _ htx_1 (by simp only [List.mem_cons, List.not_mem_nil, or_false, not_or]; exact cne htx_1 hrd_1 (by simp))
      have htb_5 : f5 tb = some (.inl (cy 1, n, .inl (tg))) := hr5 _ _ htb_1 (by simp only [List.mem_cons, List.not_mem_nil, or_false, not_or]; exact cne htb_1 hrd_1 (by simp))
      have hp_5 : f5 p = some (.inr (2, [.ref c1, .ref c2, .int s, .int v])) := hr5 _ _ hp_1 (by simp only [List.mem_cons, List.not_mem_nil, or_false, not_or]; exact cne hp_1 hrd_1 (by simp))
      have h2_5 : f5 c2 = some (.inl (cy 0, n2, .inl (h))) := hr5 _ _ h2_1 (by simp only [List.mem_cons, List.not_mem_nil, or_false, not_or]; exact cne h2_1 hrd_1 (by simp))
      refine gz_istore (lv' := [(4, .int x5.1), (3, .int x1.2), (2, .int x1.1), (0, .ref rd), (1, .int jo)]) dX6_readValue_45 (by decide) rfl ?_
      refine gz_goto (tgt := 57) dX6_readValue_47 (by decide) ?_
      refine gz_aload_n dX6_readValue_57 rfl rfl ?_
      refine sgX6_15 hrd_5 rfl dX6_readValue_58 ?_
      refine gz_iload_n dX6_readValue_61 rfl rfl ?_
      refine gz_iload dX6_readValue_62 rfl ?_
      obtain ⟨x6, hx6⟩ : ∃ x0, (addF n2 h v jo x5.1) = x0 := ⟨_, rfl⟩
      refine scX6_127 (k_X2_addValue (j := jo) (x := x5.1) hp_5 h2_5 hv) hp_5 ⟨(Nat.le_of_ble_eq_true rfl), (Nat.le_of_ble_eq_true rfl)⟩ ⟨(Nat.le_of_ble_eq_true rfl), (Nat.le_of_ble_eq_true rfl)⟩ rfl rfl (Nat.le_of_ble_eq_true rfl) dX6_readValue_64 ?_
      rintro r6 f6 ⟨z6, h2_6, hp_6, hr6⟩; rw [hx6] at z6 h2_6 hp_6; rw [z6]
      have htx_6 : f6 tx = some (.inr (9, [.ref tb, .int len])) := hr6 _ _ htx_5 (by simp only [List.mem_cons, List.not_mem_nil, or_false, not_or]; exact ⟨cne htx_5 hp_5 (by simp), cne htx_5 h2_5 (by simp)⟩)
      have htb_6 : f6 tb = some (.inl (cy 1, n, .inl (tg))) := hr6 _ _ htb_5 (by simp only [List.mem_cons, List.not_mem_nil, or_false, not_or]; exact ⟨cne htb_5 hp_5 (by simp), hne⟩)
      have hrd_6 : f6 rd = some (.inr (6, [.ref tx, .ref p, .int x5.2.1, .int x5.2.2])) := hr6 _ _ hrd_5 (by simp only [List.mem_cons, List.not_mem_nil, or_false, not_or]; exact ⟨cne hrd_5 hp_5 (by simp), cne hrd_5 h2_5 (by simp)⟩)
      refine gz_if_ne (tgt := 77) dX6_readValue_67 (by decide) (fun c_67 => ?_) (fun c_67 => ?_)
      ·
        refine gz_aload_n dX6_readValue_77 rfl rfl ?_
        refine sgX6_23 hrd_6 rfl dX6_readValue_78 ?_
        refine gz_if_ne (tgt := 88) dX6_readValue_81 (by decide) (fun c_81 => ?_) (fun c_81 => ?_)
        ·
          refine gz_iconst (v := 0) dX6_readValue_88 (by decide) ?_
          exact gz_zret rfl (by first | decide | exact nrb (Or.inl rfl) | (refine nrb ?_; (repeat' split) <;> first | assumption | exact Or.inl rfl | exact Or.inr rfl)) dX6_readValue_89 (Nat.le_of_ble_eq_true rfl) (Nat.le_of_ble_eq_true rfl) (⟨_, rfl, (by rw [(show rvaF len n tg pl fa n2 h v jo = _ from (by unfold rvaF; rw [lett_eq hx1, if_pos c_17, if_neg c_33, lett_eq hx5, lett_eq hx6, if_neg c_67, if_neg c_81]))]), (by rw [(show rvaF len n tg pl fa n2 h v jo = _ from (by unfold rvaF; rw [lett_eq hx1, if_pos c_17, if_neg c_33, lett_eq hx5, lett_eq hx6, if_neg c_67, if_neg c_81]))]; exact hrd_6), (by rw [(show rvaF len n tg pl fa n2 h v jo = _ from (by unfold rvaF; rw [lett_eq hx1, if_pos c_17, if_neg c_33, lett_eq hx5, lett_eq hx6, if_neg c_67, if_neg c_81]))]; exact hp_6), (by rw [(show rvaF len n tg pl fa n2 h v jo = _ from (by unfold rvaF; rw [lett_eq hx1, if_pos c_17, if_neg c_33, lett_eq hx5, lett_eq hx6, if_neg c_67, if_neg c_81]))]; exact h2_6), (fr_tr (fr_tr (fr_tr fr_rf (fr_mo hr1 (by simp))) (fr_mo hr5 (by simp))) (fr_mo hr6 (by simp)))⟩)
        ·
          refine gz_iconst (v := 1) dX6_readValue_84 (by decide) ?_
          refine gz_goto (tgt := 89) dX6_readValue_85 (by decide) ?_
          exact gz_zret rfl (by first | decide | exact nrb (Or.inl rfl) | (refine nrb ?_; (repeat' split) <;> first | assumption | exact Or.inl rfl | exact Or.inr rfl)) dX6_readValue_89 (Nat.le_of_ble_eq_true rfl) (Nat.le_of_ble_eq_true rfl) (⟨_, rfl, (by rw [(show rvaF len n tg pl fa n2 h v jo = _ from (by unfold rvaF; rw [lett_eq hx1, if_pos c_17, if_neg c_33, lett_eq hx5, lett_eq hx6, if_neg c_67, if_pos c_81]))]), (by rw [(show rvaF len n tg pl fa n2 h v jo = _ from (by unfold rvaF; rw [lett_eq hx1, if_pos c_17, if_neg c_33, lett_eq hx5, lett_eq hx6, if_neg c_67, if_pos c_81]))]; exact hrd_6), (by rw [(show rvaF len n tg pl fa n2 h v jo = _ from (by unfold rvaF; rw [lett_eq hx1, if_pos c_17, if_neg c_33, lett_eq hx5, lett_eq hx6, if_neg c_67, if_pos c_81]))]; exact hp_6), (by rw [(show rvaF len n tg pl fa n2 h v jo = _ from (by unfold rvaF; rw [lett_eq hx1, if_pos c_17, if_neg c_33, lett_eq hx5, lett_eq hx6, if_neg c_67, if_pos c_81]))]; exact h2_6), (fr_tr (fr_tr (fr_tr fr_rf (fr_mo hr1 (by simp))) (fr_mo hr5 (by simp))) (fr_mo hr6 (by simp)))⟩)
      ·
        refine gz_aload_n dX6_readValue_70 rfl rfl ?_
        refine gz_iload_n dX6_readValue_71 rfl rfl ?_
        refine gz_iconst (v := 4) dX6_readValue_72 (by decide) ?_
        obtain ⟨x7, hx7⟩ : ∃ x0, (faiF x5.2.2 x1.2 4) = x0 := ⟨_, rfl⟩
        refine scX6_39 (k_X6_fail (at_ := x1.2) (kd := 4) hrd_6) hrd_6 ⟨(Nat.le_of_ble_eq_true rfl), (Nat.le_of_ble_eq_true rfl)⟩ ⟨(Nat.le_of_ble_eq_true rfl), (Nat.le_of_ble_eq_true rfl)⟩ rfl rfl (Nat.le_of_ble_eq_true rfl) dX6_readValue_73 ?_
        rintro r7 f7 ⟨z7, hrd_7, hr7⟩; rw [hx7] at z7 hrd_7; rw [z7]
        have htx_7 : f7 tx = some (.inr (9, [.ref tb, .int len])) := hr7 _ _ htx_6 (by simp only [List.mem_cons, List.not_mem_nil, or_false, not_or]; exact cne htx_6 hrd_6 (by simp))
        have htb_7 : f7 tb = some (.inl (cy 1, n, .inl (tg))) := hr7 _ _ htb_6 (by simp only [List.mem_cons, List.not_mem_nil, or_false, not_or]; exact cne htb_6 hrd_6 (by simp))
        have h2_7 : f7 c2 = some (.inl (cy 0, n2, .inl (x6.2.1))) := hr7 _ _ h2_6 (by simp only [List.mem_cons, List.not_mem_nil, or_false, not_or]; exact cne h2_6 hrd_6 (by simp))
        have hp_7 : f7 p = some (.inr (2, [.ref c1, .ref c2, .int s, .int x6.2.2])) := hr7 _ _ hp_6 (by simp only [List.mem_cons, List.not_mem_nil, or_false, not_or]; exact cne hp_6 hrd_6 (by simp))
        have hbx7 : x7.1 = 0 ∨ x7.1 = 1 := by rw [← hx7]; exact Or.inl rfl
        refine gz_pop dX6_readValue_76 rfl ?_
        refine gz_aload_n dX6_readValue_77 rfl rfl ?_
        refine sgX6_23 hrd_7 rfl dX6_readValue_78 ?_
        refine gz_if_ne (tgt := 88) dX6_readValue_81 (by decide) (fun c_81 => ?_) (fun c_81 => ?_)
        ·
          refine gz_iconst (v := 0) dX6_readValue_88 (by decide) ?_
          exact gz_zret rfl (by first | decide | exact nrb (Or.inl rfl) | (refine nrb ?_; (repeat' split) <;> first | assumption | exact Or.inl rfl | exact Or.inr rfl)) dX6_readValue_89 (Nat.le_of_ble_eq_true rfl) (Nat.le_of_ble_eq_true rfl) (⟨_, rfl, (by rw [(show rvaF len n tg pl fa n2 h v jo = _ from (by unfold rvaF; rw [lett_eq hx1, if_pos c_17, if_neg c_33, lett_eq hx5, lett_eq hx6, if_pos c_67, lett_eq hx7, if_neg c_81]))]), (by rw [(show rvaF len n tg pl fa n2 h v jo = _ from (by unfold rvaF; rw [lett_eq hx1, if_pos c_17, if_neg c_33, lett_eq hx5, lett_eq hx6, if_pos c_67, lett_eq hx7, if_neg c_81]))]; exact hrd_7), (by rw [(show rvaF len n tg pl fa n2 h v jo = _ from (by unfold rvaF; rw [lett_eq hx1, if_pos c_17, if_neg c_33, lett_eq hx5, lett_eq hx6, if_pos c_67, lett_eq hx7, if_neg c_81]))]; exact hp_7), (by rw [(show rvaF len n tg pl fa n2 h v jo = _ from (by unfold rvaF; rw [lett_eq hx1, if_pos c_17, if_neg c_33, lett_eq hx5, lett_eq hx6, if_pos c_67, lett_eq hx7, if_neg c_81]))]; exact h2_7), (fr_tr (fr_tr (fr_tr (fr_tr fr_rf (fr_mo hr1 (by simp))) (fr_mo hr5 (by simp))) (fr_mo hr6 (by simp))) (fr_mo hr7 (by simp)))⟩)
        ·
          refine gz_iconst (v := 1) dX6_readValue_84 (by decide) ?_
          refine gz_goto (tgt := 89) dX6_readValue_85 (by decide) ?_
          exact gz_zret rfl (by first | decide | exact nrb (Or.inl rfl) | (refine nrb ?_; (repeat' split) <;> first | assumption | exact Or.inl rfl | exact Or.inr rfl)) dX6_readValue_89 (Nat.le_of_ble_eq_true rfl) (Nat.le_of_ble_eq_true rfl) (⟨_, rfl, (by rw [(show rvaF len n tg pl fa n2 h v jo = _ from (by unfold rvaF; rw [lett_eq hx1, if_pos c_17, if_neg c_33, lett_eq hx5, lett_eq hx6, if_pos c_67, lett_eq hx7, if_pos c_81]))]), (by rw [(show rvaF len n tg pl fa n2 h v jo = _ from (by unfold rvaF; rw [lett_eq hx1, if_pos c_17, if_neg c_33, lett_eq hx5, lett_eq hx6, if_pos c_67, lett_eq hx7, if_pos c_81]))]; exact hrd_7), (by rw [(show rvaF len n tg pl fa n2 h v jo = _ from (by unfold rvaF; rw [lett_eq hx1, if_pos c_17, if_neg c_33, lett_eq hx5, lett_eq hx6, if_pos c_67, lett_eq hx7, if_pos c_81]))]; exact hp_7), (by rw [(show rvaF len n tg pl fa n2 h v jo = _ from (by unfold rvaF; rw [lett_eq hx1, if_pos c_17, if_neg c_33, lett_eq hx5, lett_eq hx6, if_pos c_67, lett_eq hx7, if_pos c_81]))]; exact h2_7), (fr_tr (fr_tr (fr_tr (fr_tr fr_rf (fr_mo hr1 (by simp))) (fr_mo hr5 (by simp))) (fr_mo hr6 (by simp))) (fr_mo hr7 (by simp)))⟩)
  ·
    refine gz_aload_n dX6_readValue_20 rfl rfl ?_
    obtain ⟨x8, hx8⟩ : ∃ x0, (rnuF len n tg x1.2 fa) = x0 := ⟨_, rfl⟩
    refine scX6_98 (k_X6_readNumber hrd_1 htx_1 htb_1 hn) hrd_1 ⟨(Nat.le_of_ble_eq_true rfl), (Nat.le_of_ble_eq_true rfl)⟩ ⟨(Nat.le_of_ble_eq_true rfl), (Nat.le_of_ble_eq_true rfl)⟩ rfl rfl (Nat.le_of_ble_eq_true rfl) dX6_readValue_21 ?_
    rintro r8 f8 ⟨z8, hrd_8, hr8⟩; rw [hx8] at z8 hrd_8; rw [z8]
    have htx_8 : f8 tx = some (.inr (9, [.ref tb, .int len])) := hr8 _ _ htx_1 (by simp only [List.mem_cons, List.not_mem_nil, or_false, not_or]; exact cne htx_1 hrd_1 (by simp))
    have htb_8 : f8 tb = some (.inl (cy 1, n, .inl (tg))) := hr8 _ _ htb_1 (by simp only [List.mem_cons, List.not_mem_nil, or_false, not_or]; exact cne htb_1 hrd_1 (by simp))
    have hp_8 : f8 p = some (.inr (2, [.ref c1, .ref c2, .int s, .int v])) := hr8 _ _ hp_1 (by simp only [List.mem_cons, List.not_mem_nil, or_false, not_or]; exact cne hp_1 hrd_1 (by simp))
    have h2_8 : f8 c2 = some (.inl (cy 0, n2, .inl (h))) := hr8 _ _ h2_1 (by simp only [List.mem_cons, List.not_mem_nil, or_false, not_or]; exact cne h2_1 hrd_1 (by simp))
    refine gz_istore (lv' := [(4, .int x8.1), (3, .int x1.2), (2, .int x1.1), (0, .ref rd), (1, .int jo)]) dX6_readValue_24 (by decide) rfl ?_
    refine gz_goto (tgt := 57) dX6_readValue_26 (by decide) ?_
    refine gz_aload_n dX6_readValue_57 rfl rfl ?_
    refine sgX6_15 hrd_8 rfl dX6_readValue_58 ?_
    refine gz_iload_n dX6_readValue_61 rfl rfl ?_
    refine gz_iload dX6_readValue_62 rfl ?_
    obtain ⟨x9, hx9⟩ : ∃ x0, (addF n2 h v jo x8.1) = x0 := ⟨_, rfl⟩
    refine scX6_127 (k_X2_addValue (j := jo) (x := x8.1) hp_8 h2_8 hv) hp_8 ⟨(Nat.le_of_ble_eq_true rfl), (Nat.le_of_ble_eq_true rfl)⟩ ⟨(Nat.le_of_ble_eq_true rfl), (Nat.le_of_ble_eq_true rfl)⟩ rfl rfl (Nat.le_of_ble_eq_true rfl) dX6_readValue_64 ?_
    rintro r9 f9 ⟨z9, h2_9, hp_9, hr9⟩; rw [hx9] at z9 h2_9 hp_9; rw [z9]
    have htx_9 : f9 tx = some (.inr (9, [.ref tb, .int len])) := hr9 _ _ htx_8 (by simp only [List.mem_cons, List.not_mem_nil, or_false, not_or]; exact ⟨cne htx_8 hp_8 (by simp), cne htx_8 h2_8 (by simp)⟩)
    have htb_9 : f9 tb = some (.inl (cy 1, n, .inl (tg))) := hr9 _ _ htb_8 (by simp only [List.mem_cons, List.not_mem_nil, or_false, not_or]; exact ⟨cne htb_8 hp_8 (by simp), hne⟩)
    have hrd_9 : f9 rd = some (.inr (6, [.ref tx, .ref p, .int x8.2.1, .int x8.2.2])) := hr9 _ _ hrd_8 (by simp only [List.mem_cons, List.not_mem_nil, or_false, not_or]; exact ⟨cne hrd_8 hp_8 (by simp), cne hrd_8 h2_8 (by simp)⟩)
    refine gz_if_ne (tgt := 77) dX6_readValue_67 (by decide) (fun c_67 => ?_) (fun c_67 => ?_)
    ·
      refine gz_aload_n dX6_readValue_77 rfl rfl ?_
      refine sgX6_23 hrd_9 rfl dX6_readValue_78 ?_
      refine gz_if_ne (tgt := 88) dX6_readValue_81 (by decide) (fun c_81 => ?_) (fun c_81 => ?_)
      ·
        refine gz_iconst (v := 0) dX6_readValue_88 (by decide) ?_
        exact gz_zret rfl (by first | decide | exact nrb (Or.inl rfl) | (refine nrb ?_; (repeat' split) <;> first | assumption | exact Or.inl rfl | exact Or.inr rfl)) dX6_readValue_89 (Nat.le_of_ble_eq_true rfl) (Nat.le_of_ble_eq_true rfl) (⟨_, rfl, (by rw [(show rvaF len n tg pl fa n2 h v jo = _ from (by unfold rvaF; rw [lett_eq hx1, if_neg c_17, lett_eq hx8, lett_eq hx9, if_neg c_67, if_neg c_81]))]), (by rw [(show rvaF len n tg pl fa n2 h v jo = _ from (by unfold rvaF; rw [lett_eq hx1, if_neg c_17, lett_eq hx8, lett_eq hx9, if_neg c_67, if_neg c_81]))]; exact hrd_9), (by rw [(show rvaF len n tg pl fa n2 h v jo = _ from (by unfold rvaF; rw [lett_eq hx1, if_neg c_17, lett_eq hx8, lett_eq hx9, if_neg c_67, if_neg c_81]))]; exact hp_9), (by rw [(show rvaF len n tg pl fa n2 h v jo = _ from (by unfold rvaF; rw [lett_eq hx1, if_neg c_17, lett_eq hx8, lett_eq hx9, if_neg c_67, if_neg c_81]))]; exact h2_9), (fr_tr (fr_tr (fr_tr fr_rf (fr_mo hr1 (by simp))) (fr_mo hr8 (by simp))) (fr_mo hr9 (by simp)))⟩)
      ·
        refine gz_iconst (v := 1) dX6_readValue_84 (by decide) ?_
        refine gz_goto (tgt := 89) dX6_readValue_85 (by decide) ?_
        exact gz_zret rfl (by first | decide | exact nrb (Or.inl rfl) | (refine nrb ?_; (repeat' split) <;> first | assumption | exact Or.inl rfl | exact Or.inr rfl)) dX6_readValue_89 (Nat.le_of_ble_eq_true rfl) (Nat.le_of_ble_eq_true rfl) (⟨_, rfl, (by rw [(show rvaF len n tg pl fa n2 h v jo = _ from (by unfold rvaF; rw [lett_eq hx1, if_neg c_17, lett_eq hx8, lett_eq hx9, if_neg c_67, if_pos c_81]))]), (by rw [(show rvaF len n tg pl fa n2 h v jo = _ from (by unfold rvaF; rw [lett_eq hx1, if_neg c_17, lett_eq hx8, lett_eq hx9, if_neg c_67, if_pos c_81]))]; exact hrd_9), (by rw [(show rvaF len n tg pl fa n2 h v jo = _ from (by unfold rvaF; rw [lett_eq hx1, if_neg c_17, lett_eq hx8, lett_eq hx9, if_neg c_67, if_pos c_81]))]; exact hp_9), (by rw [(show rvaF len n tg pl fa n2 h v jo = _ from (by unfold rvaF; rw [lett_eq hx1, if_neg c_17, lett_eq hx8, lett_eq hx9, if_neg c_67, if_pos c_81]))]; exact h2_9), (fr_tr (fr_tr (fr_tr fr_rf (fr_mo hr1 (by simp))) (fr_mo hr8 (by simp))) (fr_mo hr9 (by simp)))⟩)
    ·
      refine gz_aload_n dX6_readValue_70 rfl rfl ?_
      refine gz_iload_n dX6_readValue_71 rfl rfl ?_
      refine gz_iconst (v := 4) dX6_readValue_72 (by decide) ?_
      obtain ⟨x10, hx10⟩ : ∃ x0, (faiF x8.2.2 x1.2 4) = x0 := ⟨_, rfl⟩
      refine scX6_39 (k_X6_fail (at_ := x1.2) (kd := 4) hrd_9) hrd_9 ⟨(Nat.le_of_ble_eq_true rfl), (Nat.le_of_ble_eq_true rfl)⟩ ⟨(Nat.le_of_ble_eq_true rfl), (Nat.le_of_ble_eq_true rfl)⟩ rfl rfl (Nat.le_of_ble_eq_true rfl) dX6_readValue_73 ?_
      rintro r10 f10 ⟨z10, hrd_10, hr10⟩; rw [hx10] at z10 hrd_10; rw [z10]
      have htx_10 : f10 tx = some (.inr (9, [.ref tb, .int len])) := hr10 _ _ htx_9 (by simp only [List.mem_cons, List.not_mem_nil, or_false, not_or]; exact cne htx_9 hrd_9 (by simp))
      have htb_10 : f10 tb = some (.inl (cy 1, n, .inl (tg))) := hr10 _ _ htb_9 (by simp only [List.mem_cons, List.not_mem_nil, or_false, not_or]; exact cne htb_9 hrd_9 (by simp))
      have h2_10 : f10 c2 = some (.inl (cy 0, n2, .inl (x9.2.1))) := hr10 _ _ h2_9 (by simp only [List.mem_cons, List.not_mem_nil, or_false, not_or]; exact cne h2_9 hrd_9 (by simp))
      have hp_10 : f10 p = some (.inr (2, [.ref c1, .ref c2, .int s, .int x9.2.2])) := hr10 _ _ hp_9 (by simp only [List.mem_cons, List.not_mem_nil, or_false, not_or]; exact cne hp_9 hrd_9 (by simp))
      have hbx10 : x10.1 = 0 ∨ x10.1 = 1 := by rw [← hx10]; exact Or.inl rfl
      refine gz_pop dX6_readValue_76 rfl ?_
      refine gz_aload_n dX6_readValue_77 rfl rfl ?_
      refine sgX6_23 hrd_10 rfl dX6_readValue_78 ?_
      refine gz_if_ne (tgt := 88) dX6_readValue_81 (by decide) (fun c_81 => ?_) (fun c_81 => ?_)
      ·
        refine gz_iconst (v := 0) dX6_readValue_88 (by decide) ?_
        exact gz_zret rfl (by first | decide | exact nrb (Or.inl rfl) | (refine nrb ?_; (repeat' split) <;> first | assumption | exact Or.inl rfl | exact Or.inr rfl)) dX6_readValue_89 (Nat.le_of_ble_eq_true rfl) (Nat.le_of_ble_eq_true rfl) (⟨_, rfl, (by rw [(show rvaF len n tg pl fa n2 h v jo = _ from (by unfold rvaF; rw [lett_eq hx1, if_neg c_17, lett_eq hx8, lett_eq hx9, if_pos c_67, lett_eq hx10, if_neg c_81]))]), (by rw [(show rvaF len n tg pl fa n2 h v jo = _ from (by unfold rvaF; rw [lett_eq hx1, if_neg c_17, lett_eq hx8, lett_eq hx9, if_pos c_67, lett_eq hx10, if_neg c_81]))]; exact hrd_10), (by rw [(show rvaF len n tg pl fa n2 h v jo = _ from (by unfold rvaF; rw [lett_eq hx1, if_neg c_17, lett_eq hx8, lett_eq hx9, if_pos c_67, lett_eq hx10, if_neg c_81]))]; exact hp_10), (by rw [(show rvaF len n tg pl fa n2 h v jo = _ from (by unfold rvaF; rw [lett_eq hx1, if_neg c_17, lett_eq hx8, lett_eq hx9, if_pos c_67, lett_eq hx10, if_neg c_81]))]; exact h2_10), (fr_tr (fr_tr (fr_tr (fr_tr fr_rf (fr_mo hr1 (by simp))) (fr_mo hr8 (by simp))) (fr_mo hr9 (by simp))) (fr_mo hr10 (by simp)))⟩)
      ·
        refine gz_iconst (v := 1) dX6_readValue_84 (by decide) ?_
        refine gz_goto (tgt := 89) dX6_readValue_85 (by decide) ?_
        exact gz_zret rfl (by first | decide | exact nrb (Or.inl rfl) | (refine nrb ?_; (repeat' split) <;> first | assumption | exact Or.inl rfl | exact Or.inr rfl)) dX6_readValue_89 (Nat.le_of_ble_eq_true rfl) (Nat.le_of_ble_eq_true rfl) (⟨_, rfl, (by rw [(show rvaF len n tg pl fa n2 h v jo = _ from (by unfold rvaF; rw [lett_eq hx1, if_neg c_17, lett_eq hx8, lett_eq hx9, if_pos c_67, lett_eq hx10, if_pos c_81]))]), (by rw [(show rvaF len n tg pl fa n2 h v jo = _ from (by unfold rvaF; rw [lett_eq hx1, if_neg c_17, lett_eq hx8, lett_eq hx9, if_pos c_67, lett_eq hx10, if_pos c_81]))]; exact hrd_10), (by rw [(show rvaF len n tg pl fa n2 h v jo = _ from (by unfold rvaF; rw [lett_eq hx1, if_neg c_17, lett_eq hx8, lett_eq hx9, if_pos c_67, lett_eq hx10, if_pos c_81]))]; exact hp_10), (by rw [(show rvaF len n tg pl fa n2 h v jo = _ from (by unfold rvaF; rw [lett_eq hx1, if_neg c_17, lett_eq hx8, lett_eq hx9, if_pos c_67, lett_eq hx10, if_pos c_81]))]; exact h2_10), (fr_tr (fr_tr (fr_tr (fr_tr fr_rf (fr_mo hr1 (by simp))) (fr_mo hr8 (by simp))) (fr_mo hr9 (by simp))) (fr_mo hr10 (by simp)))⟩)

theorem bz_rvaF {len : Int32} {n : Nat} {tg : Nat → Int32} {pl fa : Int32} {n2 : Nat} {h : Nat → Int32} {v : Int32} {jo : Int32} : (rvaF len n tg pl fa n2 h v jo).1 = 0 ∨ (rvaF len n tg pl fa n2 h v jo).1 = 1 := by
  unfold rvaF; try simp only [lett]
  (repeat' split) <;> first | with_reducible exact Or.inl rfl | with_reducible exact Or.inr rfl | exact Or.inl rfl

theorem addF_ok {n2 : Nat} {h : Nat → Int32} {v j x : Int32} (hv : 0 ≤ (v).toInt ∧ 2 * (v).toInt ≤ n2 ∧ n2 ≤ 80) : 0 ≤ ((addF n2 h v j x).2.2).toInt ∧ 2 * ((addF n2 h v j x).2.2).toInt ≤ n2 ∧ n2 ≤ 80 := by
  unfold addF
  have e2 : (2 : Int32).toInt = 2 := rfl
  have e1 : (1 : Int32).toInt = 1 := rfl
  have e0 : (0 : Int32).toInt = 0 := rfl
  have eN : (Int32.ofNat n2).toInt = n2 := ofN_toInt (by omega)
  split
  · exact hv
  · split
    rotate_left
    · exact hv
    · rename_i h1 h2
      have hx := T_mul (rfl : v.toInt = v.toInt) e2 (by omega)
      have hy := T_add hx e1 (by omega)
      have hz := T_add (rfl : v.toInt = v.toInt) e1 (by omega)
      simp only [fl_lt, fl_le] at h1 h2
      rw [hy] at h2
      show 0 ≤ (v + 1).toInt ∧ 2 * (v + 1).toInt ≤ n2 ∧ n2 ≤ 80
      rw [hz]; omega

theorem rvaF_ok {len : Int32} {n : Nat} {tg : Nat → Int32} {pl fa : Int32} {n2 : Nat} {h : Nat → Int32} {v jo : Int32} (hv : 0 ≤ (v).toInt ∧ 2 * (v).toInt ≤ n2 ∧ n2 ≤ 80) : 0 ≤ ((rvaF len n tg pl fa n2 h v jo).2.2.2.1).toInt ∧ 2 * ((rvaF len n tg pl fa n2 h v jo).2.2.2.1).toInt ≤ n2 ∧ n2 ≤ 80 := by
  unfold rvaF; simp only [lett]; (repeat' split) <;> exact addF_ok hv

def rsmL (len : Int32) (n : Nat) (tg : Nat → Int32) (n2 : Nat)  : Nat → (Int32) → (Int32) → (Int32) → (Int32) → (Int32) → (Nat → Int32) → (Int32) × (Int32) × (Int32) × (Int32) × (Nat → Int32)
  | 0, _, _, pl, fa, v, h => (0, pl, fa, v, h)
  | k + 1, i, jo, pl, fa, v, h => (if 40 < (i : Int32) then (lett (faiF fa pl 4) fun x1 => (x1.1, pl, x1.2, v, (h))) else (lett (rvaF len n tg pl fa n2 h v jo) fun x2 => (if (x2.1 : Int32) = 0 then (0, x2.2.1, x2.2.2.1, x2.2.2.2.1, (x2.2.2.2.2)) else (lett (upnF len n tg x2.2.1) fun x3 => (if (x3.1 : Int32) = 43 then (rsmL len n tg n2 k (i + 1) x3.1 (x3.2 + 1) x2.2.2.1 x2.2.2.2.1 (x2.2.2.2.2)) else (if (x3.1 : Int32) = 45 then (rsmL len n tg n2 k (i + 1) x3.1 (x3.2 + 1) x2.2.2.1 x2.2.2.2.1 (x2.2.2.2.2)) else (if (x3.1 : Int32) = 42 then (rsmL len n tg n2 k (i + 1) x3.1 (x3.2 + 1) x2.2.2.1 x2.2.2.2.1 (x2.2.2.2.2)) else (1, x3.2, x2.2.2.1, x2.2.2.2.1, (x2.2.2.2.2)))))))))
set_option maxHeartbeats 4000000 in
set_option maxRecDepth 100000 in
theorem l_X6_readSum {l : Launch} {D : va_G} {cy : Nat → ClassId} {b mc ms : Nat} {f : gMem} {Po : Option Value → gMem → Prop} {rd tx tb p c1 c2 n n2 : Nat} {len s : Int32} {tg : Nat → Int32}  (hn : n < 2 ^ 31) (hne : tb ≠ c2) : ∀ (k : Nat) (i : Int32) (jo : Int32) (pl : Int32) (fa : Int32) (v : Int32) (h : Nat → Int32) (fm : gMem), fr [rd, p, c2] f fm → (fm rd = some (.inr (6, [.ref tx, .ref p, .int pl, .int fa]))) → (fm tx = some (.inr (9, [.ref tb, .int len]))) → (fm tb = some (.inl (cy 1, n, .inl (tg)))) → (fm p = some (.inr (2, [.ref c1, .ref c2, .int s, .int v]))) → (fm c2 = some (.inl (cy 0, n2, .inl (h)))) → (0 ≤ (v).toInt ∧ 2 * (v).toInt ≤ n2 ∧ n2 ≤ 80) → (0 ≤ i.toInt ∧ i.toInt ≤ 41 ∧ i.toInt + (k : Int) = 42) → (∀ (r : Int32) (f2 : gMem), r = (rsmL len n tg n2 k i jo pl fa v h).1 → f2 rd = some (.inr (6, [.ref tx, .ref p, .int (rsmL len n tg n2 k i jo pl fa v h).2.1, .int (rsmL len n tg n2 k i jo pl fa v h).2.2.1])) → f2 p = some (.inr (2, [.ref c1, .ref c2, .int s, .int (rsmL len n tg n2 k i jo pl fa v h).2.2.2.1])) → f2 c2 = some (.inl (cy 0, n2, .inl ((rsmL len n tg n2 k i jo pl fa v h).2.2.2.2))) → fr [rd, p, c2] f f2 → Po (some (.int r)) f2) → gG l (gRm 4 mc ms) (gQf D b Po mc ms) gTt D cy b cX6_readSum 3 (some .boolean) RX6 "readSum" 0 0 fm 5 [(2, .int i), (1, .int jo), (0, .ref rd)] [] := by
  intro k
  induction k with
  | zero =>
    intro i jo pl fa v h fm hfr hrd htx htb hp h2 hv hk hq
    exfalso; omega
  | succ k ih =>
    intro i jo pl fa v h fm hfr hrd htx htb hp h2 hv hk hq
    refine gz_iload_n dX6_readSum_5 rfl rfl ?_
    refine gz_bipush (v := 40) dX6_readSum_6 (by decide) ?_
    refine gz_icmp_gt (tgt := 62) dX6_readSum_8 (by decide) (fun c_8 => ?_) (fun c_8 => ?_)
    ·
      refine gz_aload_n dX6_readSum_62 rfl rfl ?_
      refine gz_aload_n dX6_readSum_63 rfl rfl ?_
      refine sgX6_19 hrd rfl dX6_readSum_64 ?_
      refine gz_iconst (v := 4) dX6_readSum_67 (by decide) ?_
      obtain ⟨x1, hx1⟩ : ∃ x0, (faiF fa pl 4) = x0 := ⟨_, rfl⟩
      refine scX6_39 (k_X6_fail (at_ := pl) (kd := 4) hrd) hrd ⟨(Nat.le_of_ble_eq_true rfl), (Nat.le_of_ble_eq_true rfl)⟩ ⟨(Nat.zero_le _), (Nat.zero_le _)⟩ rfl rfl (Nat.le_of_ble_eq_true rfl) dX6_readSum_68 ?_
      rintro r1 f1 ⟨z1, hrd_1, hr1⟩; rw [hx1] at z1 hrd_1; rw [z1]
      have htx_1 : f1 tx = some (.inr (9, [.ref tb, .int len])) := hr1 _ _ htx (by simp only [List.mem_cons, List.not_mem_nil, or_false, not_or]; exact cne htx hrd (by simp))
      have htb_1 : f1 tb = some (.inl (cy 1, n, .inl (tg))) := hr1 _ _ htb (by simp only [List.mem_cons, List.not_mem_nil, or_false, not_or]; exact cne htb hrd (by simp))
      have hp_1 : f1 p = some (.inr (2, [.ref c1, .ref c2, .int s, .int v])) := hr1 _ _ hp (by simp only [List.mem_cons, List.not_mem_nil, or_false, not_or]; exact cne hp hrd (by simp))
      have h2_1 : f1 c2 = some (.inl (cy 0, n2, .inl (h))) := hr1 _ _ h2 (by simp only [List.mem_cons, List.not_mem_nil, or_false, not_or]; exact cne h2 hrd (by simp))
      have hbx1 : x1.1 = 0 ∨ x1.1 = 1 := by rw [← hx1]; exact Or.inl rfl
      exact gz_zret rfl (by first | decide | exact nrb (Or.inl rfl) | (refine nrb ?_; (repeat' split) <;> first | assumption | exact Or.inl rfl | exact Or.inr rfl)) dX6_readSum_71 (Nat.zero_le _) (Nat.zero_le _) ((by rw [rsmL, if_pos c_8, lett_eq hx1] at hq; exact hq _ _ rfl hrd_1 hp_1 h2_1 (fr_tr hfr (fr_mo hr1 (by simp)))))
    ·
      refine gz_aload_n dX6_readSum_11 rfl rfl ?_
      refine gz_iload_n dX6_readSum_12 rfl rfl ?_
      obtain ⟨x2, hx2⟩ : ∃ x0, (rvaF len n tg pl fa n2 h v jo) = x0 := ⟨_, rfl⟩
      refine scX6_121 (k_X6_readValue (jo := jo) hrd htx htb hp h2 hn hv hne) hrd ⟨(Nat.le_of_ble_eq_true rfl), (Nat.le_of_ble_eq_true rfl)⟩ ⟨(Nat.zero_le _), (Nat.zero_le _)⟩ rfl rfl (Nat.le_of_ble_eq_true rfl) dX6_readSum_13 ?_
      rintro r2 f2 ⟨z2, hrd_2, hp_2, h2_2, hr2⟩; rw [hx2] at z2 hrd_2 hp_2 h2_2; rw [z2]
      have htx_2 : f2 tx = some (.inr (9, [.ref tb, .int len])) := hr2 _ _ htx (by simp only [List.mem_cons, List.not_mem_nil, or_false, not_or]; exact ⟨cne htx hrd (by simp), cne htx hp (by simp), cne htx h2 (by simp)⟩)
      have htb_2 : f2 tb = some (.inl (cy 1, n, .inl (tg))) := hr2 _ _ htb (by simp only [List.mem_cons, List.not_mem_nil, or_false, not_or]; exact ⟨cne htb hrd (by simp), cne htb hp (by simp), hne⟩)
      have hbx2 : x2.1 = 0 ∨ x2.1 = 1 := by rw [← hx2]; exact bz_rvaF
      have hvx2 : 0 ≤ (x2.2.2.2.1).toInt ∧ 2 * (x2.2.2.2.1).toInt ≤ n2 ∧ n2 ≤ 80 := by rw [← hx2]; exact rvaF_ok hv
      refine gz_if_ne (tgt := 21) dX6_readSum_16 (by decide) (fun c_16 => ?_) (fun c_16 => ?_)
      ·
        refine gz_aload_n dX6_readSum_21 rfl rfl ?_
        obtain ⟨x3, hx3⟩ : ∃ x0, (upnF len n tg x2.2.1) = x0 := ⟨_, rfl⟩
        refine scX6_35 (k_X6_upNext hrd_2 htx_2 htb_2 hn) hrd_2 ⟨(Nat.le_of_ble_eq_true rfl), (Nat.le_of_ble_eq_true rfl)⟩ ⟨(Nat.zero_le _), (Nat.zero_le _)⟩ rfl rfl (Nat.le_of_ble_eq_true rfl) dX6_readSum_22 ?_
        rintro r3 f3 ⟨z3, hrd_3, hr3⟩; rw [hx3] at z3 hrd_3; rw [z3]
        have htx_3 : f3 tx = some (.inr (9, [.ref tb, .int len])) := hr3 _ _ htx_2 (by simp only [List.mem_cons, List.not_mem_nil, or_false, not_or]; exact cne htx_2 hrd_2 (by simp))
        have htb_3 : f3 tb = some (.inl (cy 1, n, .inl (tg))) := hr3 _ _ htb_2 (by simp only [List.mem_cons, List.not_mem_nil, or_false, not_or]; exact cne htb_2 hrd_2 (by simp))
        have hp_3 : f3 p = some (.inr (2, [.ref c1, .ref c2, .int s, .int x2.2.2.2.1])) := hr3 _ _ hp_2 (by simp only [List.mem_cons, List.not_mem_nil, or_false, not_or]; exact cne hp_2 hrd_2 (by simp))
        have h2_3 : f3 c2 = some (.inl (cy 0, n2, .inl (x2.2.2.2.2))) := hr3 _ _ h2_2 (by simp only [List.mem_cons, List.not_mem_nil, or_false, not_or]; exact cne h2_2 hrd_2 (by simp))
        refine gz_istore_n (lv' := [(1, .int x3.1), (2, .int i), (0, .ref rd)]) dX6_readSum_25 rfl (by decide) rfl ?_
        refine gz_iload_n dX6_readSum_26 rfl rfl ?_
        refine gz_bipush (v := 43) dX6_readSum_27 (by decide) ?_
        refine gz_icmp_eq (tgt := 46) dX6_readSum_29 (by decide) (fun c_29 => ?_) (fun c_29 => ?_)
        ·
          refine gz_aload_n dX6_readSum_46 rfl rfl ?_
          refine gz_dup dX6_readSum_47 rfl ?_
          refine sgX6_19 hrd_3 rfl dX6_readSum_48 ?_
          refine gz_iconst (v := 1) dX6_readSum_51 (by decide) ?_
          refine gz_iadd dX6_readSum_52 ?_
          refine spX6_19 hrd_3  (Nat.le_of_ble_eq_true rfl) dX6_readSum_53 ?_
          obtain ⟨f4, hf4⟩ : ∃ gg : gMem, gg = va_up f3 rd (some (.inr (6, [.ref tx, .ref p, .int (x3.2 + 1), .int x2.2.2.1]))) := ⟨_, rfl⟩
          refine gz_eq (f2 := f4) hf4.symm rfl rfl rfl ?_
          have htx_4 : f4 tx = some (.inr (9, [.ref tb, .int len])) := by rw [hf4, va_up_ne _ _ (cne htx_3 hrd_3 (by simp))]; exact htx_3
          have htb_4 : f4 tb = some (.inl (cy 1, n, .inl (tg))) := by rw [hf4, va_up_ne _ _ (cne htb_3 hrd_3 (by simp))]; exact htb_3
          have hp_4 : f4 p = some (.inr (2, [.ref c1, .ref c2, .int s, .int x2.2.2.2.1])) := by rw [hf4, va_up_ne _ _ (cne hp_3 hrd_3 (by simp))]; exact hp_3
          have h2_4 : f4 c2 = some (.inl (cy 0, n2, .inl (x2.2.2.2.2))) := by rw [hf4, va_up_ne _ _ (cne h2_3 hrd_3 (by simp))]; exact h2_3
          have hrd_4 : f4 rd = some (.inr (6, [.ref tx, .ref p, .int (x3.2 + 1), .int x2.2.2.1])) := by rw [hf4]; exact va_up_self _ _ _
          refine gz_iinc (v := (i + 1)) (lv' := [(2, .int (i + 1)), (1, .int x3.1), (0, .ref rd)]) dX6_readSum_56 rfl rfl (by decide) rfl ?_
          refine gz_goto (tgt := 5) dX6_readSum_59 (by decide) ?_
          refine gz_sub (lv' := [(2, .int (i + 1)), (1, .int x3.1), (0, .ref rd)]) (by simp [List.lookup]) ?_
          exact ih (i + 1) x3.1 (x3.2 + 1) x2.2.2.1 x2.2.2.2.1 (x2.2.2.2.2) _ (by rw [hf4]; exact fr_up (fr_tr (fr_tr hfr (fr_mo hr2 (by simp))) (fr_mo hr3 (by simp))) (by simp)) hrd_4 htx_4 htb_4 hp_4 h2_4 (hvx2) (by have e13 : (13 : Int32).toInt = 13 := rfl; have e0 : (0 : Int32).toInt = 0 := rfl; have e2 : (2 : Int32).toInt = 2 := rfl; have e1 : (1 : Int32).toInt = 1 := rfl; have e6 : (6 : Int32).toInt = 6 := rfl; have em2 : (-2 : Int32).toInt = -2 := rfl; have e40 : (40 : Int32).toInt = 40 := rfl; simp only [fl_lt] at c_8; have hx := T_add (rfl : i.toInt = i.toInt) e1 (by omega); omega) (by rw [rsmL, if_neg c_8, lett_eq hx2, if_neg c_16, lett_eq hx3, if_pos c_29] at hq; exact hq)
        ·
          refine gz_iload_n dX6_readSum_32 rfl rfl ?_
          refine gz_bipush (v := 45) dX6_readSum_33 (by decide) ?_
          refine gz_icmp_eq (tgt := 46) dX6_readSum_35 (by decide) (fun c_35 => ?_) (fun c_35 => ?_)
          ·
            refine gz_aload_n dX6_readSum_46 rfl rfl ?_
            refine gz_dup dX6_readSum_47 rfl ?_
            refine sgX6_19 hrd_3 rfl dX6_readSum_48 ?_
            refine gz_iconst (v := 1) dX6_readSum_51 (by decide) ?_
            refine gz_iadd dX6_readSum_52 ?_
            refine spX6_19 hrd_3  (Nat.le_of_ble_eq_true rfl) dX6_readSum_53 ?_
            obtain ⟨f5, hf5⟩ : ∃ gg : gMem, gg = va_up f3 rd (some (.inr (6, [.ref tx, .ref p, .int (x3.2 + 1), .int x2.2.2.1]))) := ⟨_, rfl⟩
            refine gz_eq (f2 := f5) hf5.symm rfl rfl rfl ?_
            have htx_5 : f5 tx = some (.inr (9, [.ref tb, .int len])) := by rw [hf5, va_up_ne _ _ (cne htx_3 hrd_3 (by simp))]; exact htx_3
            have htb_5 : f5 tb = some (.inl (cy 1, n, .inl (tg))) := by rw [hf5, va_up_ne _ _ (cne htb_3 hrd_3 (by simp))]; exact htb_3
            have hp_5 : f5 p = some (.inr (2, [.ref c1, .ref c2, .int s, .int x2.2.2.2.1])) := by rw [hf5, va_up_ne _ _ (cne hp_3 hrd_3 (by simp))]; exact hp_3
            have h2_5 : f5 c2 = some (.inl (cy 0, n2, .inl (x2.2.2.2.2))) := by rw [hf5, va_up_ne _ _ (cne h2_3 hrd_3 (by simp))]; exact h2_3
            have hrd_5 : f5 rd = some (.inr (6, [.ref tx, .ref p, .int (x3.2 + 1), .int x2.2.2.1])) := by rw [hf5]; exact va_up_self _ _ _
            refine gz_iinc (v := (i + 1)) (lv' := [(2, .int (i + 1)), (1, .int x3.1), (0, .ref rd)]) dX6_readSum_56 rfl rfl (by decide) rfl ?_
            refine gz_goto (tgt := 5) dX6_readSum_59 (by decide) ?_
            refine gz_sub (lv' := [(2, .int (i + 1)), (1, .int x3.1), (0, .ref rd)]) (by simp [List.lookup]) ?_
            exact ih (i + 1) x3.1 (x3.2 + 1) x2.2.2.1 x2.2.2.2.1 (x2.2.2.2.2) _ (by rw [hf5]; exact fr_up (fr_tr (fr_tr hfr (fr_mo hr2 (by simp))) (fr_mo hr3 (by simp))) (by simp)) hrd_5 htx_5 htb_5 hp_5 h2_5 (hvx2) (by have e13 : (13 : Int32).toInt = 13 := rfl; have e0 : (0 : Int32).toInt = 0 := rfl; have e2 : (2 : Int32).toInt = 2 := rfl; have e1 : (1 : Int32).toInt = 1 := rfl; have e6 : (6 : Int32).toInt = 6 := rfl; have em2 : (-2 : Int32).toInt = -2 := rfl; have e40 : (40 : Int32).toInt = 40 := rfl; simp only [fl_lt] at c_8; have hx := T_add (rfl : i.toInt = i.toInt) e1 (by omega); omega) (by rw [rsmL, if_neg c_8, lett_eq hx2, if_neg c_16, lett_eq hx3, if_neg c_29, if_pos c_35] at hq; exact hq)
          ·
            refine gz_iload_n dX6_readSum_38 rfl rfl ?_
            refine gz_bipush (v := 42) dX6_readSum_39 (by decide) ?_
            refine gz_icmp_eq (tgt := 46) dX6_readSum_41 (by decide) (fun c_41 => ?_) (fun c_41 => ?_)
            ·
              refine gz_aload_n dX6_readSum_46 rfl rfl ?_
              refine gz_dup dX6_readSum_47 rfl ?_
              refine sgX6_19 hrd_3 rfl dX6_readSum_48 ?_
              refine gz_iconst (v := 1) dX6_readSum_51 (by decide) ?_
              refine gz_iadd dX6_readSum_52 ?_
              refine spX6_19 hrd_3  (Nat.le_of_ble_eq_true rfl) dX6_readSum_53 ?_
              obtain ⟨f6, hf6⟩ : ∃ gg : gMem, gg = va_up f3 rd (some (.inr (6, [.ref tx, .ref p, .int (x3.2 + 1), .int x2.2.2.1]))) := ⟨_, rfl⟩
              refine gz_eq (f2 := f6) hf6.symm rfl rfl rfl ?_
              have htx_6 : f6 tx = some (.inr (9, [.ref tb, .int len])) := by rw [hf6, va_up_ne _ _ (cne htx_3 hrd_3 (by simp))]; exact htx_3
              have htb_6 : f6 tb = some (.inl (cy 1, n, .inl (tg))) := by rw [hf6, va_up_ne _ _ (cne htb_3 hrd_3 (by simp))]; exact htb_3
              have hp_6 : f6 p = some (.inr (2, [.ref c1, .ref c2, .int s, .int x2.2.2.2.1])) := by rw [hf6, va_up_ne _ _ (cne hp_3 hrd_3 (by simp))]; exact hp_3
              have h2_6 : f6 c2 = some (.inl (cy 0, n2, .inl (x2.2.2.2.2))) := by rw [hf6, va_up_ne _ _ (cne h2_3 hrd_3 (by simp))]; exact h2_3
              have hrd_6 : f6 rd = some (.inr (6, [.ref tx, .ref p, .int (x3.2 + 1), .int x2.2.2.1])) := by rw [hf6]; exact va_up_self _ _ _
              refine gz_iinc (v := (i + 1)) (lv' := [(2, .int (i + 1)), (1, .int x3.1), (0, .ref rd)]) dX6_readSum_56 rfl rfl (by decide) rfl ?_
              refine gz_goto (tgt := 5) dX6_readSum_59 (by decide) ?_
              refine gz_sub (lv' := [(2, .int (i + 1)), (1, .int x3.1), (0, .ref rd)]) (by simp [List.lookup]) ?_
              exact ih (i + 1) x3.1 (x3.2 + 1) x2.2.2.1 x2.2.2.2.1 (x2.2.2.2.2) _ (by rw [hf6]; exact fr_up (fr_tr (fr_tr hfr (fr_mo hr2 (by simp))) (fr_mo hr3 (by simp))) (by simp)) hrd_6 htx_6 htb_6 hp_6 h2_6 (hvx2) (by have e13 : (13 : Int32).toInt = 13 := rfl; have e0 : (0 : Int32).toInt = 0 := rfl; have e2 : (2 : Int32).toInt = 2 := rfl; have e1 : (1 : Int32).toInt = 1 := rfl; have e6 : (6 : Int32).toInt = 6 := rfl; have em2 : (-2 : Int32).toInt = -2 := rfl; have e40 : (40 : Int32).toInt = 40 := rfl; simp only [fl_lt] at c_8; have hx := T_add (rfl : i.toInt = i.toInt) e1 (by omega); omega) (by rw [rsmL, if_neg c_8, lett_eq hx2, if_neg c_16, lett_eq hx3, if_neg c_29, if_neg c_35, if_pos c_41] at hq; exact hq)
            ·
              refine gz_iconst (v := 1) dX6_readSum_44 (by decide) ?_
              exact gz_zret rfl (by first | decide | exact nrb (Or.inl rfl) | (refine nrb ?_; (repeat' split) <;> first | assumption | exact Or.inl rfl | exact Or.inr rfl)) dX6_readSum_45 (Nat.zero_le _) (Nat.zero_le _) ((by rw [rsmL, if_neg c_8, lett_eq hx2, if_neg c_16, lett_eq hx3, if_neg c_29, if_neg c_35, if_neg c_41] at hq; exact hq _ _ rfl hrd_3 hp_3 h2_3 (fr_tr (fr_tr hfr (fr_mo hr2 (by simp))) (fr_mo hr3 (by simp)))))
      ·
        refine gz_iconst (v := 0) dX6_readSum_19 (by decide) ?_
        exact gz_zret rfl (by first | decide | exact nrb (Or.inl rfl) | (refine nrb ?_; (repeat' split) <;> first | assumption | exact Or.inl rfl | exact Or.inr rfl)) dX6_readSum_20 (Nat.zero_le _) (Nat.zero_le _) ((by rw [rsmL, if_neg c_8, lett_eq hx2, if_pos c_16] at hq; exact hq _ _ rfl hrd_2 hp_2 h2_2 (fr_tr hfr (fr_mo hr2 (by simp)))))

def rsmF (len : Int32) (n : Nat) (tg : Nat → Int32) (pl fa : Int32) (n2 : Nat) (h : Nat → Int32) (v : Int32)  : (Int32) × (Int32) × (Int32) × (Int32) × (Nat → Int32) := (rsmL len n tg n2 42 0 43 pl fa v (h))
set_option maxHeartbeats 4000000 in
set_option maxRecDepth 100000 in
theorem k_X6_readSum {l : Launch} {D : va_G} {cy : Nat → ClassId} {b : Nat} {f : gMem} {rd tx tb p c1 c2 n n2 : Nat} {len pl fa s v : Int32} {tg h : Nat → Int32} (hrd : f rd = some (.inr (6, [.ref tx, .ref p, .int pl, .int fa]))) (htx : f tx = some (.inr (9, [.ref tb, .int len]))) (htb : f tb = some (.inl (cy 1, n, .inl (tg)))) (hp : f p = some (.inr (2, [.ref c1, .ref c2, .int s, .int v]))) (h2 : f c2 = some (.inl (cy 0, n2, .inl (h)))) (hn : n < 2 ^ 31) (hv : 0 ≤ v.toInt ∧ 2 * v.toInt ≤ n2 ∧ n2 ≤ 80) (hne : tb ≠ c2) : gC l D cy b yX6_readSum cX6_readSum 3 (some .boolean) 4 0 0 [.ref rd] f (pI fun r f2 => r = (rsmF len n tg pl fa n2 h v).1 ∧ f2 rd = some (.inr (6, [.ref tx, .ref p, .int (rsmF len n tg pl fa n2 h v).2.1, .int (rsmF len n tg pl fa n2 h v).2.2.1])) ∧ f2 p = some (.inr (2, [.ref c1, .ref c2, .int s, .int (rsmF len n tg pl fa n2 h v).2.2.2.1])) ∧ f2 c2 = some (.inl (cy 0, n2, .inl ((rsmF len n tg pl fa n2 h v).2.2.2.2))) ∧ fr [rd, p, c2] f f2) := by
  refine gC_of (by decide) (Nat.le_of_ble_eq_true rfl) ?_
  show gG l _ _ _ D cy b cX6_readSum 3 _ RX6 "readSum" 0 0 f 0 [(0, .ref rd)] []
  refine gz_bipush (v := 43) dX6_readSum_0 (by decide) ?_
  refine gz_istore_n (lv' := [(1, .int 43), (0, .ref rd)]) dX6_readSum_2 rfl (by decide) rfl ?_
  refine gz_iconst (v := 0) dX6_readSum_3 (by decide) ?_
  refine gz_istore_n (lv' := [(2, .int 0), (1, .int 43), (0, .ref rd)]) dX6_readSum_4 rfl (by decide) rfl ?_
  exact l_X6_readSum hn hne 42 0 43 pl fa v (h) _ fr_rf hrd htx htb hp h2 (hv) (⟨by decide, by decide, by decide⟩) (fun r f2 z0 z1 z2 z3 zf => ⟨_, rfl, (by rw [(show rsmF len n tg pl fa n2 h v = _ from (by unfold rsmF; rfl))]; exact z0), (by rw [(show rsmF len n tg pl fa n2 h v = _ from (by unfold rsmF; rfl))]; exact z1), (by rw [(show rsmF len n tg pl fa n2 h v = _ from (by unfold rsmF; rfl))]; exact z2), (by rw [(show rsmF len n tg pl fa n2 h v = _ from (by unfold rsmF; rfl))]; exact z3), zf⟩)

theorem faiF_0 (a b c : Int32) : (faiF a b c).1 = 0 := rfl

theorem bz_rsmL {len : Int32} {n : Nat} {tg : Nat → Int32} {n2 : Nat} : ∀ (k : Nat) (i jo pl fa v : Int32) (h : Nat → Int32), (rsmL len n tg n2 k i jo pl fa v h).1 = 0 ∨ (rsmL len n tg n2 k i jo pl fa v h).1 = 1
  | 0, _, _, _, _, _, _ => Or.inl rfl
  | k + 1, i, jo, pl, fa, v, h => by
    unfold rsmL; simp only [lett]; (repeat' split) <;> first | with_reducible exact bz_rsmL k _ _ _ _ _ _ | with_reducible exact Or.inl rfl | with_reducible exact Or.inr rfl | exact Or.inl (faiF_0 _ _ _)
theorem rsmL_ok {len : Int32} {n : Nat} {tg : Nat → Int32} {n2 : Nat} : ∀ (k : Nat) (i jo pl fa v : Int32) (h : Nat → Int32), 0 ≤ (v).toInt ∧ 2 * (v).toInt ≤ n2 ∧ n2 ≤ 80 → 0 ≤ ((rsmL len n tg n2 k i jo pl fa v h).2.2.2.1).toInt ∧ 2 * ((rsmL len n tg n2 k i jo pl fa v h).2.2.2.1).toInt ≤ n2 ∧ n2 ≤ 80
  | 0, _, _, _, _, _, _, hv => hv
  | k + 1, i, jo, pl, fa, v, h, hv => by
    unfold rsmL; simp only [lett]; (repeat' split) <;> first | with_reducible exact hv | with_reducible exact rsmL_ok k _ _ _ _ _ _ (rvaF_ok hv) | with_reducible exact rvaF_ok hv
theorem bz_rsmF {len : Int32} {n : Nat} {tg : Nat → Int32} {n2 : Nat} {pl fa : Int32} {h : Nat → Int32} {v : Int32} : (rsmF len n tg pl fa n2 h v).1 = 0 ∨ (rsmF len n tg pl fa n2 h v).1 = 1 := by
  unfold rsmF; with_reducible exact bz_rsmL _ _ _ _ _ _ _
theorem rsmF_ok {len : Int32} {n : Nat} {tg : Nat → Int32} {n2 : Nat} {pl fa : Int32} {h : Nat → Int32} {v : Int32} (hv : 0 ≤ (v).toInt ∧ 2 * (v).toInt ≤ n2 ∧ n2 ≤ 80) : 0 ≤ ((rsmF len n tg pl fa n2 h v).2.2.2.1).toInt ∧ 2 * ((rsmF len n tg pl fa n2 h v).2.2.2.1).toInt ≤ n2 ∧ n2 ≤ 80 := by
  unfold rsmF; with_reducible exact rsmL_ok _ _ _ _ _ _ _ hv

def rssF (len : Int32) (n : Nat) (tg : Nat → Int32) (pl fa : Int32) (n1 n2 : Nat) (g h : Nat → Int32) (s v : Int32) (kd wd : Int32) : (Int32) × (Int32) × (Int32) × (Int32) × (Nat → Int32) × (Nat → Int32) := (lett (rsmF len n tg pl fa n2 h v) fun x1 => (if (x1.1 : Int32) = 0 then (0, x1.2.1, x1.2.2.1, x1.2.2.2.1, (x1.2.2.2.2), (stF n1 g s wd 5 v)) else (if ((htsF kd) : Int32) = 0 then (lett (rsgF len n tg x1.2.1 x1.2.2.1 58) fun x2 => (x2.1, x2.2.1, x2.2.2, x1.2.2.2.1, (x1.2.2.2.2), (stF n1 (stF n1 (stF n1 g s wd 5 v) s wd 6 x1.2.2.2.1) s wd 7 x1.2.2.2.1))) else (lett (rrlF len n tg x1.2.1 x1.2.2.1 n1 (stF n1 (stF n1 g s wd 5 v) s wd 6 x1.2.2.2.1) s wd) fun x3 => (if (x3.1 : Int32) = 0 then (0, x3.2.1, x3.2.2.1, x1.2.2.2.1, (x1.2.2.2.2), (x3.2.2.2)) else (lett (rsmF len n tg x3.2.1 x3.2.2.1 n2 x1.2.2.2.2 x1.2.2.2.1) fun x4 => (if (x4.1 : Int32) = 0 then (0, x4.2.1, x4.2.2.1, x4.2.2.2.1, (x4.2.2.2.2), (x3.2.2.2)) else (lett (rsgF len n tg x4.2.1 x4.2.2.1 58) fun x5 => (x5.1, x5.2.1, x5.2.2, x4.2.2.2.1, (x4.2.2.2.2), (stF n1 x3.2.2.2 s wd 7 x4.2.2.2.1))))))))))
set_option maxHeartbeats 4000000 in
set_option maxRecDepth 100000 in
theorem k_X6_readSums {l : Launch} {D : va_G} {cy : Nat → ClassId} {b : Nat} {f : gMem} {rd tx tb p c1 c2 n n1 n2 : Nat} {len pl fa s v : Int32} {tg g h : Nat → Int32} {kd wd : Int32} (hrd : f rd = some (.inr (6, [.ref tx, .ref p, .int pl, .int fa]))) (htx : f tx = some (.inr (9, [.ref tb, .int len]))) (htb : f tb = some (.inl (cy 1, n, .inl (tg)))) (hp : f p = some (.inr (2, [.ref c1, .ref c2, .int s, .int v]))) (h1 : f c1 = some (.inl (cy 0, n1, .inl (g)))) (h2 : f c2 = some (.inl (cy 0, n2, .inl (h)))) (hn : n < 2 ^ 31) (hs : 0 ≤ s.toInt ∧ 13 * s.toInt ≤ n1 ∧ n1 ≤ 520) (hv : 0 ≤ v.toInt ∧ 2 * v.toInt ≤ n2 ∧ n2 ≤ 80) (hne : tb ≠ c1 ∧ tb ≠ c2 ∧ c1 ≠ c2) : gC l D cy b yX6_readSums cX6_readSums 3 (some .boolean) 5 0 0 [.ref rd, .int kd, .int wd] f (pI fun r f2 => r = (rssF len n tg pl fa n1 n2 g h s v kd wd).1 ∧ f2 rd = some (.inr (6, [.ref tx, .ref p, .int (rssF len n tg pl fa n1 n2 g h s v kd wd).2.1, .int (rssF len n tg pl fa n1 n2 g h s v kd wd).2.2.1])) ∧ f2 p = some (.inr (2, [.ref c1, .ref c2, .int s, .int (rssF len n tg pl fa n1 n2 g h s v kd wd).2.2.2.1])) ∧ f2 c2 = some (.inl (cy 0, n2, .inl ((rssF len n tg pl fa n1 n2 g h s v kd wd).2.2.2.2.1))) ∧ f2 c1 = some (.inl (cy 0, n1, .inl ((rssF len n tg pl fa n1 n2 g h s v kd wd).2.2.2.2.2))) ∧ fr [rd, p, c1, c2] f f2) := by
  refine gC_of (by decide) (Nat.le_of_ble_eq_true rfl) ?_
  show gG l _ _ _ D cy b cX6_readSums 3 _ RX6 "readSums" 0 0 f 0 [(0, .ref rd), (1, .int kd), (2, .int wd)] []
  refine gz_aload_n dX6_readSums_0 rfl rfl ?_
  refine sgX6_15 hrd rfl dX6_readSums_1 ?_
  refine gz_iload_n dX6_readSums_4 rfl rfl ?_
  refine gz_iconst (v := 5) dX6_readSums_5 (by decide) ?_
  refine gz_aload_n dX6_readSums_6 rfl rfl ?_
  refine sgX6_15 hrd rfl dX6_readSums_7 ?_
  refine scX6_108 (k_X2_valueCount hp) hp ⟨(Nat.le_of_ble_eq_true rfl), (Nat.le_of_ble_eq_true rfl)⟩ ⟨(Nat.le_of_ble_eq_true rfl), (Nat.le_of_ble_eq_true rfl)⟩ rfl rfl (Nat.le_of_ble_eq_true rfl) dX6_readSums_10 ?_
  intro v9 f9 z9; rw [z9.1, z9.2]
  refine scX6_101 (k_X2_setField (w := wd) (k := 5) (x := v) hp h1 hs) hp ⟨(Nat.le_of_ble_eq_true rfl), (Nat.le_of_ble_eq_true rfl)⟩ ⟨(Nat.le_of_ble_eq_true rfl), (Nat.le_of_ble_eq_true rfl)⟩ rfl rfl (Nat.le_of_ble_eq_true rfl) dX6_readSums_13 ?_
  rintro f1 ⟨h1_1, hr1⟩
  have hrd_1 : f1 rd = some (.inr (6, [.ref tx, .ref p, .int pl, .int fa])) := hr1 _ _ hrd (by simp only [List.mem_cons, List.not_mem_nil, or_false, not_or]; exact cne hrd h1 (by simp))
  have htx_1 : f1 tx = some (.inr (9, [.ref tb, .int len])) := hr1 _ _ htx (by simp only [List.mem_cons, List.not_mem_nil, or_false, not_or]; exact cne htx h1 (by simp))
  have htb_1 : f1 tb = some (.inl (cy 1, n, .inl (tg))) := hr1 _ _ htb (by simp only [List.mem_cons, List.not_mem_nil, or_false, not_or]; exact hne.1)
  have hp_1 : f1 p = some (.inr (2, [.ref c1, .ref c2, .int s, .int v])) := hr1 _ _ hp (by simp only [List.mem_cons, List.not_mem_nil, or_false, not_or]; exact cne hp h1 (by simp))
  have h2_1 : f1 c2 = some (.inl (cy 0, n2, .inl (h))) := hr1 _ _ h2 (by simp only [List.mem_cons, List.not_mem_nil, or_false, not_or]; exact Ne.symm (hne.2.2))
  refine gz_aload_n dX6_readSums_16 rfl rfl ?_
  obtain ⟨x1, hx1⟩ : ∃ x0, (rsmF len n tg pl fa n2 h v) = x0 := ⟨_, rfl⟩
  refine scX6_111 (k_X6_readSum hrd_1 htx_1 htb_1 hp_1 h2_1 hn hv hne.2.1) hrd_1 ⟨(Nat.le_of_ble_eq_true rfl), (Nat.le_of_ble_eq_true rfl)⟩ ⟨(Nat.le_of_ble_eq_true rfl), (Nat.le_of_ble_eq_true rfl)⟩ rfl rfl (Nat.le_of_ble_eq_true rfl) dX6_readSums_17 ?_
  rintro r2 f2 ⟨z2, hrd_2, hp_2, h2_2, hr2⟩; rw [hx1] at z2 hrd_2 hp_2 h2_2; rw [z2]
  have htx_2 : f2 tx = some (.inr (9, [.ref tb, .int len])) := hr2 _ _ htx_1 (by simp only [List.mem_cons, List.not_mem_nil, or_false, not_or]; exact ⟨cne htx_1 hrd_1 (by simp), cne htx_1 hp_1 (by simp), cne htx_1 h2_1 (by simp)⟩)
  have htb_2 : f2 tb = some (.inl (cy 1, n, .inl (tg))) := hr2 _ _ htb_1 (by simp only [List.mem_cons, List.not_mem_nil, or_false, not_or]; exact ⟨cne htb_1 hrd_1 (by simp), cne htb_1 hp_1 (by simp), hne.2.1⟩)
  have h1_2 : f2 c1 = some (.inl (cy 0, n1, .inl (stF n1 g s wd 5 v))) := hr2 _ _ h1_1 (by simp only [List.mem_cons, List.not_mem_nil, or_false, not_or]; exact ⟨cne h1_1 hrd_1 (by simp), cne h1_1 hp_1 (by simp), hne.2.2⟩)
  have hbx1 : x1.1 = 0 ∨ x1.1 = 1 := by rw [← hx1]; exact bz_rsmF
  have hvx1 : 0 ≤ (x1.2.2.2.1).toInt ∧ 2 * (x1.2.2.2.1).toInt ≤ n2 ∧ n2 ≤ 80 := by rw [← hx1]; exact rsmF_ok hv
  refine gz_if_ne (tgt := 25) dX6_readSums_20 (by decide) (fun c_20 => ?_) (fun c_20 => ?_)
  ·
    refine gz_aload_n dX6_readSums_25 rfl rfl ?_
    refine sgX6_15 hrd_2 rfl dX6_readSums_26 ?_
    refine gz_iload_n dX6_readSums_29 rfl rfl ?_
    refine gz_bipush (v := 6) dX6_readSums_30 (by decide) ?_
    refine gz_aload_n dX6_readSums_32 rfl rfl ?_
    refine sgX6_15 hrd_2 rfl dX6_readSums_33 ?_
    refine scX6_108 (k_X2_valueCount hp_2) hp_2 ⟨(Nat.le_of_ble_eq_true rfl), (Nat.le_of_ble_eq_true rfl)⟩ ⟨(Nat.le_of_ble_eq_true rfl), (Nat.le_of_ble_eq_true rfl)⟩ rfl rfl (Nat.le_of_ble_eq_true rfl) dX6_readSums_36 ?_
    intro v9 f9 z9; rw [z9.1, z9.2]
    refine scX6_101 (k_X2_setField (w := wd) (k := 6) (x := x1.2.2.2.1) hp_2 h1_2 hs) hp_2 ⟨(Nat.le_of_ble_eq_true rfl), (Nat.le_of_ble_eq_true rfl)⟩ ⟨(Nat.le_of_ble_eq_true rfl), (Nat.le_of_ble_eq_true rfl)⟩ rfl rfl (Nat.le_of_ble_eq_true rfl) dX6_readSums_39 ?_
    rintro f3 ⟨h1_3, hr3⟩
    have htx_3 : f3 tx = some (.inr (9, [.ref tb, .int len])) := hr3 _ _ htx_2 (by simp only [List.mem_cons, List.not_mem_nil, or_false, not_or]; exact cne htx_2 h1_2 (by simp))
    have htb_3 : f3 tb = some (.inl (cy 1, n, .inl (tg))) := hr3 _ _ htb_2 (by simp only [List.mem_cons, List.not_mem_nil, or_false, not_or]; exact hne.1)
    have hrd_3 : f3 rd = some (.inr (6, [.ref tx, .ref p, .int x1.2.1, .int x1.2.2.1])) := hr3 _ _ hrd_2 (by simp only [List.mem_cons, List.not_mem_nil, or_false, not_or]; exact cne hrd_2 h1_2 (by simp))
    have hp_3 : f3 p = some (.inr (2, [.ref c1, .ref c2, .int s, .int x1.2.2.2.1])) := hr3 _ _ hp_2 (by simp only [List.mem_cons, List.not_mem_nil, or_false, not_or]; exact cne hp_2 h1_2 (by simp))
    have h2_3 : f3 c2 = some (.inl (cy 0, n2, .inl (x1.2.2.2.2))) := hr3 _ _ h2_2 (by simp only [List.mem_cons, List.not_mem_nil, or_false, not_or]; exact Ne.symm (hne.2.2))
    refine gz_iload_n dX6_readSums_42 rfl rfl ?_
    refine scX6_115 (k_X11_hasTest (x := kd)) ⟨(Nat.le_of_ble_eq_true rfl), (Nat.le_of_ble_eq_true rfl)⟩ ⟨(Nat.le_of_ble_eq_true rfl), (Nat.le_of_ble_eq_true rfl)⟩ rfl rfl (Nat.le_of_ble_eq_true rfl) dX6_readSums_43 ?_
    intro v9 f9 z9; rw [z9.1, z9.2]
    refine gz_if_eq (tgt := 66) dX6_readSums_46 (by decide) (fun c_46 => ?_) (fun c_46 => ?_)
    ·
      refine gz_aload_n dX6_readSums_66 rfl rfl ?_
      refine sgX6_15 hrd_3 rfl dX6_readSums_67 ?_
      refine gz_iload_n dX6_readSums_70 rfl rfl ?_
      refine gz_bipush (v := 7) dX6_readSums_71 (by decide) ?_
      refine gz_aload_n dX6_readSums_73 rfl rfl ?_
      refine sgX6_15 hrd_3 rfl dX6_readSums_74 ?_
      refine scX6_108 (k_X2_valueCount hp_3) hp_3 ⟨(Nat.le_of_ble_eq_true rfl), (Nat.le_of_ble_eq_true rfl)⟩ ⟨(Nat.le_of_ble_eq_true rfl), (Nat.le_of_ble_eq_true rfl)⟩ rfl rfl (Nat.le_of_ble_eq_true rfl) dX6_readSums_77 ?_
      intro v9 f9 z9; rw [z9.1, z9.2]
      refine scX6_101 (k_X2_setField (w := wd) (k := 7) (x := x1.2.2.2.1) hp_3 h1_3 hs) hp_3 ⟨(Nat.le_of_ble_eq_true rfl), (Nat.le_of_ble_eq_true rfl)⟩ ⟨(Nat.le_of_ble_eq_true rfl), (Nat.le_of_ble_eq_true rfl)⟩ rfl rfl (Nat.le_of_ble_eq_true rfl) dX6_readSums_80 ?_
      rintro f4 ⟨h1_4, hr4⟩
      have htx_4 : f4 tx = some (.inr (9, [.ref tb, .int len])) := hr4 _ _ htx_3 (by simp only [List.mem_cons, List.not_mem_nil, or_false, not_or]; exact cne htx_3 h1_3 (by simp))
      have htb_4 : f4 tb = some (.inl (cy 1, n, .inl (tg))) := hr4 _ _ htb_3 (by simp only [List.mem_cons, List.not_mem_nil, or_false, not_or]; exact hne.1)
      have hrd_4 : f4 rd = some (.inr (6, [.ref tx, .ref p, .int x1.2.1, .int x1.2.2.1])) := hr4 _ _ hrd_3 (by simp only [List.mem_cons, List.not_mem_nil, or_false, not_or]; exact cne hrd_3 h1_3 (by simp))
      have hp_4 : f4 p = some (.inr (2, [.ref c1, .ref c2, .int s, .int x1.2.2.2.1])) := hr4 _ _ hp_3 (by simp only [List.mem_cons, List.not_mem_nil, or_false, not_or]; exact cne hp_3 h1_3 (by simp))
      have h2_4 : f4 c2 = some (.inl (cy 0, n2, .inl (x1.2.2.2.2))) := hr4 _ _ h2_3 (by simp only [List.mem_cons, List.not_mem_nil, or_false, not_or]; exact Ne.symm (hne.2.2))
      refine gz_aload_n dX6_readSums_83 rfl rfl ?_
      refine gz_bipush (v := 58) dX6_readSums_84 (by decide) ?_
      obtain ⟨x2, hx2⟩ : ∃ x0, (rsgF len n tg x1.2.1 x1.2.2.1 58) = x0 := ⟨_, rfl⟩
      refine scX6_95 (k_X6_readSign (sg := 58) hrd_4 htx_4 htb_4 hn) hrd_4 ⟨(Nat.le_of_ble_eq_true rfl), (Nat.le_of_ble_eq_true rfl)⟩ ⟨(Nat.le_of_ble_eq_true rfl), (Nat.le_of_ble_eq_true rfl)⟩ rfl rfl (Nat.le_of_ble_eq_true rfl) dX6_readSums_86 ?_
      rintro r5 f5 ⟨z5, hrd_5, hr5⟩; rw [hx2] at z5 hrd_5; rw [z5]
      have htx_5 : f5 tx = some (.inr (9, [.ref tb, .int len])) := hr5 _ _ htx_4 (by simp only [List.mem_cons, List.not_mem_nil, or_false, not_or]; exact cne htx_4 hrd_4 (by simp))
      have htb_5 : f5 tb = some (.inl (cy 1, n, .inl (tg))) := hr5 _ _ htb_4 (by simp only [List.mem_cons, List.not_mem_nil, or_false, not_or]; exact cne htb_4 hrd_4 (by simp))
      have hp_5 : f5 p = some (.inr (2, [.ref c1, .ref c2, .int s, .int x1.2.2.2.1])) := hr5 _ _ hp_4 (by simp only [List.mem_cons, List.not_mem_nil, or_false, not_or]; exact cne hp_4 hrd_4 (by simp))
      have h2_5 : f5 c2 = some (.inl (cy 0, n2, .inl (x1.2.2.2.2))) := hr5 _ _ h2_4 (by simp only [List.mem_cons, List.not_mem_nil, or_false, not_or]; exact cne h2_4 hrd_4 (by simp))
      have h1_5 : f5 c1 = some (.inl (cy 0, n1, .inl (stF n1 (stF n1 (stF n1 g s wd 5 v) s wd 6 x1.2.2.2.1) s wd 7 x1.2.2.2.1))) := hr5 _ _ h1_4 (by simp only [List.mem_cons, List.not_mem_nil, or_false, not_or]; exact cne h1_4 hrd_4 (by simp))
      have hbx2 : x2.1 = 0 ∨ x2.1 = 1 := by rw [← hx2]; exact bz_rsgF
      exact gz_zret rfl (by first | decide | exact nrb (Or.inl rfl) | (refine nrb ?_; (repeat' split) <;> first | assumption | exact Or.inl rfl | exact Or.inr rfl)) dX6_readSums_89 (Nat.le_of_ble_eq_true rfl) (Nat.le_of_ble_eq_true rfl) (⟨_, rfl, (by rw [(show rssF len n tg pl fa n1 n2 g h s v kd wd = _ from (by unfold rssF; rw [lett_eq hx1, if_neg c_20, if_pos c_46, lett_eq hx2]))]), (by rw [(show rssF len n tg pl fa n1 n2 g h s v kd wd = _ from (by unfold rssF; rw [lett_eq hx1, if_neg c_20, if_pos c_46, lett_eq hx2]))]; exact hrd_5), (by rw [(show rssF len n tg pl fa n1 n2 g h s v kd wd = _ from (by unfold rssF; rw [lett_eq hx1, if_neg c_20, if_pos c_46, lett_eq hx2]))]; exact hp_5), (by rw [(show rssF len n tg pl fa n1 n2 g h s v kd wd = _ from (by unfold rssF; rw [lett_eq hx1, if_neg c_20, if_pos c_46, lett_eq hx2]))]; exact h2_5), (by rw [(show rssF len n tg pl fa n1 n2 g h s v kd wd = _ from (by unfold rssF; rw [lett_eq hx1, if_neg c_20, if_pos c_46, lett_eq hx2]))]; exact h1_5), (fr_tr (fr_tr (fr_tr (fr_tr (fr_tr fr_rf (fr_mo hr1 (by simp))) (fr_mo hr2 (by simp))) (fr_mo hr3 (by simp))) (fr_mo hr4 (by simp))) (fr_mo hr5 (by simp)))⟩)
    ·
      refine gz_aload_n dX6_readSums_49 rfl rfl ?_
      refine gz_iload_n dX6_readSums_50 rfl rfl ?_
      obtain ⟨x3, hx3⟩ : ∃ x0, (rrlF len n tg x1.2.1 x1.2.2.1 n1 (stF n1 (stF n1 g s wd 5 v) s wd 6 x1.2.2.2.1) s wd) = x0 := ⟨_, rfl⟩
      refine scX6_118 (k_X6_readRelation (wd := wd) hrd_3 htx_3 htb_3 hp_3 h1_3 hn hs hne.1) hrd_3 ⟨(Nat.le_of_ble_eq_true rfl), (Nat.le_of_ble_eq_true rfl)⟩ ⟨(Nat.le_of_ble_eq_true rfl), (Nat.le_of_ble_eq_true rfl)⟩ rfl rfl (Nat.le_of_ble_eq_true rfl) dX6_readSums_51 ?_
      rintro r6 f6 ⟨z6, hrd_6, h1_6, hr6⟩; rw [hx3] at z6 hrd_6 h1_6; rw [z6]
      have htx_6 : f6 tx = some (.inr (9, [.ref tb, .int len])) := hr6 _ _ htx_3 (by simp only [List.mem_cons, List.not_mem_nil, or_false, not_or]; exact ⟨cne htx_3 hrd_3 (by simp), cne htx_3 h1_3 (by simp)⟩)
      have htb_6 : f6 tb = some (.inl (cy 1, n, .inl (tg))) := hr6 _ _ htb_3 (by simp only [List.mem_cons, List.not_mem_nil, or_false, not_or]; exact ⟨cne htb_3 hrd_3 (by simp), hne.1⟩)
      have hp_6 : f6 p = some (.inr (2, [.ref c1, .ref c2, .int s, .int x1.2.2.2.1])) := hr6 _ _ hp_3 (by simp only [List.mem_cons, List.not_mem_nil, or_false, not_or]; exact ⟨cne hp_3 hrd_3 (by simp), cne hp_3 h1_3 (by simp)⟩)
      have h2_6 : f6 c2 = some (.inl (cy 0, n2, .inl (x1.2.2.2.2))) := hr6 _ _ h2_3 (by simp only [List.mem_cons, List.not_mem_nil, or_false, not_or]; exact ⟨cne h2_3 hrd_3 (by simp), Ne.symm (hne.2.2)⟩)
      have hbx3 : x3.1 = 0 ∨ x3.1 = 1 := by rw [← hx3]; exact bz_rrlF
      refine gz_if_eq (tgt := 64) dX6_readSums_54 (by decide) (fun c_54 => ?_) (fun c_54 => ?_)
      ·
        refine gz_iconst (v := 0) dX6_readSums_64 (by decide) ?_
        exact gz_zret rfl (by first | decide | exact nrb (Or.inl rfl) | (refine nrb ?_; (repeat' split) <;> first | assumption | exact Or.inl rfl | exact Or.inr rfl)) dX6_readSums_65 (Nat.le_of_ble_eq_true rfl) (Nat.le_of_ble_eq_true rfl) (⟨_, rfl, (by rw [(show rssF len n tg pl fa n1 n2 g h s v kd wd = _ from (by unfold rssF; rw [lett_eq hx1, if_neg c_20, if_neg c_46, lett_eq hx3, if_pos c_54]))]), (by rw [(show rssF len n tg pl fa n1 n2 g h s v kd wd = _ from (by unfold rssF; rw [lett_eq hx1, if_neg c_20, if_neg c_46, lett_eq hx3, if_pos c_54]))]; exact hrd_6), (by rw [(show rssF len n tg pl fa n1 n2 g h s v kd wd = _ from (by unfold rssF; rw [lett_eq hx1, if_neg c_20, if_neg c_46, lett_eq hx3, if_pos c_54]))]; exact hp_6), (by rw [(show rssF len n tg pl fa n1 n2 g h s v kd wd = _ from (by unfold rssF; rw [lett_eq hx1, if_neg c_20, if_neg c_46, lett_eq hx3, if_pos c_54]))]; exact h2_6), (by rw [(show rssF len n tg pl fa n1 n2 g h s v kd wd = _ from (by unfold rssF; rw [lett_eq hx1, if_neg c_20, if_neg c_46, lett_eq hx3, if_pos c_54]))]; exact h1_6), (fr_tr (fr_tr (fr_tr (fr_tr fr_rf (fr_mo hr1 (by simp))) (fr_mo hr2 (by simp))) (fr_mo hr3 (by simp))) (fr_mo hr6 (by simp)))⟩)
      ·
        refine gz_aload_n dX6_readSums_57 rfl rfl ?_
        obtain ⟨x4, hx4⟩ : ∃ x0, (rsmF len n tg x3.2.1 x3.2.2.1 n2 x1.2.2.2.2 x1.2.2.2.1) = x0 := ⟨_, rfl⟩
        refine scX6_111 (k_X6_readSum hrd_6 htx_6 htb_6 hp_6 h2_6 hn hvx1 hne.2.1) hrd_6 ⟨(Nat.le_of_ble_eq_true rfl), (Nat.le_of_ble_eq_true rfl)⟩ ⟨(Nat.le_of_ble_eq_true rfl), (Nat.le_of_ble_eq_true rfl)⟩ rfl rfl (Nat.le_of_ble_eq_true rfl) dX6_readSums_58 ?_
        rintro r7 f7 ⟨z7, hrd_7, hp_7, h2_7, hr7⟩; rw [hx4] at z7 hrd_7 hp_7 h2_7; rw [z7]
        have htx_7 : f7 tx = some (.inr (9, [.ref tb, .int len])) := hr7 _ _ htx_6 (by simp only [List.mem_cons, List.not_mem_nil, or_false, not_or]; exact ⟨cne htx_6 hrd_6 (by simp), cne htx_6 hp_6 (by simp), cne htx_6 h2_6 (by simp)⟩)
        have htb_7 : f7 tb = some (.inl (cy 1, n, .inl (tg))) := hr7 _ _ htb_6 (by simp only [List.mem_cons, List.not_mem_nil, or_false, not_or]; exact ⟨cne htb_6 hrd_6 (by simp), cne htb_6 hp_6 (by simp), hne.2.1⟩)
        have h1_7 : f7 c1 = some (.inl (cy 0, n1, .inl (x3.2.2.2))) := hr7 _ _ h1_6 (by simp only [List.mem_cons, List.not_mem_nil, or_false, not_or]; exact ⟨cne h1_6 hrd_6 (by simp), cne h1_6 hp_6 (by simp), hne.2.2⟩)
        have hbx4 : x4.1 = 0 ∨ x4.1 = 1 := by rw [← hx4]; exact bz_rsmF
        have hvx4 : 0 ≤ (x4.2.2.2.1).toInt ∧ 2 * (x4.2.2.2.1).toInt ≤ n2 ∧ n2 ≤ 80 := by rw [← hx4]; exact rsmF_ok hvx1
        refine gz_if_ne (tgt := 66) dX6_readSums_61 (by decide) (fun c_61 => ?_) (fun c_61 => ?_)
        ·
          refine gz_aload_n dX6_readSums_66 rfl rfl ?_
          refine sgX6_15 hrd_7 rfl dX6_readSums_67 ?_
          refine gz_iload_n dX6_readSums_70 rfl rfl ?_
          refine gz_bipush (v := 7) dX6_readSums_71 (by decide) ?_
          refine gz_aload_n dX6_readSums_73 rfl rfl ?_
          refine sgX6_15 hrd_7 rfl dX6_readSums_74 ?_
          refine scX6_108 (k_X2_valueCount hp_7) hp_7 ⟨(Nat.le_of_ble_eq_true rfl), (Nat.le_of_ble_eq_true rfl)⟩ ⟨(Nat.le_of_ble_eq_true rfl), (Nat.le_of_ble_eq_true rfl)⟩ rfl rfl (Nat.le_of_ble_eq_true rfl) dX6_readSums_77 ?_
          intro v9 f9 z9; rw [z9.1, z9.2]
          refine scX6_101 (k_X2_setField (w := wd) (k := 7) (x := x4.2.2.2.1) hp_7 h1_7 hs) hp_7 ⟨(Nat.le_of_ble_eq_true rfl), (Nat.le_of_ble_eq_true rfl)⟩ ⟨(Nat.le_of_ble_eq_true rfl), (Nat.le_of_ble_eq_true rfl)⟩ rfl rfl (Nat.le_of_ble_eq_true rfl) dX6_readSums_80 ?_
          rintro f8 ⟨h1_8, hr8⟩
          have htx_8 : f8 tx = some (.inr (9, [.ref tb, .int len])) := hr8 _ _ htx_7 (by simp only [List.mem_cons, List.not_mem_nil, or_false, not_or]; exact cne htx_7 h1_7 (by simp))
          have htb_8 : f8 tb = some (.inl (cy 1, n, .inl (tg))) := hr8 _ _ htb_7 (by simp only [List.mem_cons, List.not_mem_nil, or_false, not_or]; exact hne.1)
          have hrd_8 : f8 rd = some (.inr (6, [.ref tx, .ref p, .int x4.2.1, .int x4.2.2.1])) := hr8 _ _ hrd_7 (by simp only [List.mem_cons, List.not_mem_nil, or_false, not_or]; exact cne hrd_7 h1_7 (by simp))
          have hp_8 : f8 p = some (.inr (2, [.ref c1, .ref c2, .int s, .int x4.2.2.2.1])) := hr8 _ _ hp_7 (by simp only [List.mem_cons, List.not_mem_nil, or_false, not_or]; exact cne hp_7 h1_7 (by simp))
          have h2_8 : f8 c2 = some (.inl (cy 0, n2, .inl (x4.2.2.2.2))) := hr8 _ _ h2_7 (by simp only [List.mem_cons, List.not_mem_nil, or_false, not_or]; exact Ne.symm (hne.2.2))
          refine gz_aload_n dX6_readSums_83 rfl rfl ?_
          refine gz_bipush (v := 58) dX6_readSums_84 (by decide) ?_
          obtain ⟨x5, hx5⟩ : ∃ x0, (rsgF len n tg x4.2.1 x4.2.2.1 58) = x0 := ⟨_, rfl⟩
          refine scX6_95 (k_X6_readSign (sg := 58) hrd_8 htx_8 htb_8 hn) hrd_8 ⟨(Nat.le_of_ble_eq_true rfl), (Nat.le_of_ble_eq_true rfl)⟩ ⟨(Nat.le_of_ble_eq_true rfl), (Nat.le_of_ble_eq_true rfl)⟩ rfl rfl (Nat.le_of_ble_eq_true rfl) dX6_readSums_86 ?_
          rintro r9 f9 ⟨z9, hrd_9, hr9⟩; rw [hx5] at z9 hrd_9; rw [z9]
          have htx_9 : f9 tx = some (.inr (9, [.ref tb, .int len])) := hr9 _ _ htx_8 (by simp only [List.mem_cons, List.not_mem_nil, or_false, not_or]; exact cne htx_8 hrd_8 (by simp))
          have htb_9 : f9 tb = some (.inl (cy 1, n, .inl (tg))) := hr9 _ _ htb_8 (by simp only [List.mem_cons, List.not_mem_nil, or_false, not_or]; exact cne htb_8 hrd_8 (by simp))
          have hp_9 : f9 p = some (.inr (2, [.ref c1, .ref c2, .int s, .int x4.2.2.2.1])) := hr9 _ _ hp_8 (by simp only [List.mem_cons, List.not_mem_nil, or_false, not_or]; exact cne hp_8 hrd_8 (by simp))
          have h2_9 : f9 c2 = some (.inl (cy 0, n2, .inl (x4.2.2.2.2))) := hr9 _ _ h2_8 (by simp only [List.mem_cons, List.not_mem_nil, or_false, not_or]; exact cne h2_8 hrd_8 (by simp))
          have h1_9 : f9 c1 = some (.inl (cy 0, n1, .inl (stF n1 x3.2.2.2 s wd 7 x4.2.2.2.1))) := hr9 _ _ h1_8 (by simp only [List.mem_cons, List.not_mem_nil, or_false, not_or]; exact cne h1_8 hrd_8 (by simp))
          have hbx5 : x5.1 = 0 ∨ x5.1 = 1 := by rw [← hx5]; exact bz_rsgF
          exact gz_zret rfl (by first | decide | exact nrb (Or.inl rfl) | (refine nrb ?_; (repeat' split) <;> first | assumption | exact Or.inl rfl | exact Or.inr rfl)) dX6_readSums_89 (Nat.le_of_ble_eq_true rfl) (Nat.le_of_ble_eq_true rfl) (⟨_, rfl, (by rw [(show rssF len n tg pl fa n1 n2 g h s v kd wd = _ from (by unfold rssF; rw [lett_eq hx1, if_neg c_20, if_neg c_46, lett_eq hx3, if_neg c_54, lett_eq hx4, if_neg c_61, lett_eq hx5]))]), (by rw [(show rssF len n tg pl fa n1 n2 g h s v kd wd = _ from (by unfold rssF; rw [lett_eq hx1, if_neg c_20, if_neg c_46, lett_eq hx3, if_neg c_54, lett_eq hx4, if_neg c_61, lett_eq hx5]))]; exact hrd_9), (by rw [(show rssF len n tg pl fa n1 n2 g h s v kd wd = _ from (by unfold rssF; rw [lett_eq hx1, if_neg c_20, if_neg c_46, lett_eq hx3, if_neg c_54, lett_eq hx4, if_neg c_61, lett_eq hx5]))]; exact hp_9), (by rw [(show rssF len n tg pl fa n1 n2 g h s v kd wd = _ from (by unfold rssF; rw [lett_eq hx1, if_neg c_20, if_neg c_46, lett_eq hx3, if_neg c_54, lett_eq hx4, if_neg c_61, lett_eq hx5]))]; exact h2_9), (by rw [(show rssF len n tg pl fa n1 n2 g h s v kd wd = _ from (by unfold rssF; rw [lett_eq hx1, if_neg c_20, if_neg c_46, lett_eq hx3, if_neg c_54, lett_eq hx4, if_neg c_61, lett_eq hx5]))]; exact h1_9), (fr_tr (fr_tr (fr_tr (fr_tr (fr_tr (fr_tr (fr_tr fr_rf (fr_mo hr1 (by simp))) (fr_mo hr2 (by simp))) (fr_mo hr3 (by simp))) (fr_mo hr6 (by simp))) (fr_mo hr7 (by simp))) (fr_mo hr8 (by simp))) (fr_mo hr9 (by simp)))⟩)
        ·
          refine gz_iconst (v := 0) dX6_readSums_64 (by decide) ?_
          exact gz_zret rfl (by first | decide | exact nrb (Or.inl rfl) | (refine nrb ?_; (repeat' split) <;> first | assumption | exact Or.inl rfl | exact Or.inr rfl)) dX6_readSums_65 (Nat.le_of_ble_eq_true rfl) (Nat.le_of_ble_eq_true rfl) (⟨_, rfl, (by rw [(show rssF len n tg pl fa n1 n2 g h s v kd wd = _ from (by unfold rssF; rw [lett_eq hx1, if_neg c_20, if_neg c_46, lett_eq hx3, if_neg c_54, lett_eq hx4, if_pos c_61]))]), (by rw [(show rssF len n tg pl fa n1 n2 g h s v kd wd = _ from (by unfold rssF; rw [lett_eq hx1, if_neg c_20, if_neg c_46, lett_eq hx3, if_neg c_54, lett_eq hx4, if_pos c_61]))]; exact hrd_7), (by rw [(show rssF len n tg pl fa n1 n2 g h s v kd wd = _ from (by unfold rssF; rw [lett_eq hx1, if_neg c_20, if_neg c_46, lett_eq hx3, if_neg c_54, lett_eq hx4, if_pos c_61]))]; exact hp_7), (by rw [(show rssF len n tg pl fa n1 n2 g h s v kd wd = _ from (by unfold rssF; rw [lett_eq hx1, if_neg c_20, if_neg c_46, lett_eq hx3, if_neg c_54, lett_eq hx4, if_pos c_61]))]; exact h2_7), (by rw [(show rssF len n tg pl fa n1 n2 g h s v kd wd = _ from (by unfold rssF; rw [lett_eq hx1, if_neg c_20, if_neg c_46, lett_eq hx3, if_neg c_54, lett_eq hx4, if_pos c_61]))]; exact h1_7), (fr_tr (fr_tr (fr_tr (fr_tr (fr_tr fr_rf (fr_mo hr1 (by simp))) (fr_mo hr2 (by simp))) (fr_mo hr3 (by simp))) (fr_mo hr6 (by simp))) (fr_mo hr7 (by simp)))⟩)
  ·
    refine gz_iconst (v := 0) dX6_readSums_23 (by decide) ?_
    exact gz_zret rfl (by first | decide | exact nrb (Or.inl rfl) | (refine nrb ?_; (repeat' split) <;> first | assumption | exact Or.inl rfl | exact Or.inr rfl)) dX6_readSums_24 (Nat.le_of_ble_eq_true rfl) (Nat.le_of_ble_eq_true rfl) (⟨_, rfl, (by rw [(show rssF len n tg pl fa n1 n2 g h s v kd wd = _ from (by unfold rssF; rw [lett_eq hx1, if_pos c_20]))]), (by rw [(show rssF len n tg pl fa n1 n2 g h s v kd wd = _ from (by unfold rssF; rw [lett_eq hx1, if_pos c_20]))]; exact hrd_2), (by rw [(show rssF len n tg pl fa n1 n2 g h s v kd wd = _ from (by unfold rssF; rw [lett_eq hx1, if_pos c_20]))]; exact hp_2), (by rw [(show rssF len n tg pl fa n1 n2 g h s v kd wd = _ from (by unfold rssF; rw [lett_eq hx1, if_pos c_20]))]; exact h2_2), (by rw [(show rssF len n tg pl fa n1 n2 g h s v kd wd = _ from (by unfold rssF; rw [lett_eq hx1, if_pos c_20]))]; exact h1_2), (fr_tr (fr_tr fr_rf (fr_mo hr1 (by simp))) (fr_mo hr2 (by simp)))⟩)

theorem bz_rssF {len : Int32} {n : Nat} {tg : Nat → Int32} {pl fa : Int32} {n1 n2 : Nat} {g h : Nat → Int32} {s v : Int32} {kd wd : Int32} : (rssF len n tg pl fa n1 n2 g h s v kd wd).1 = 0 ∨ (rssF len n tg pl fa n1 n2 g h s v kd wd).1 = 1 := by
  unfold rssF; try simp only [lett]
  (repeat' split) <;> first | with_reducible exact bz_rsgF | with_reducible exact Or.inl rfl | with_reducible exact Or.inr rfl | exact Or.inl rfl

theorem rssF_ok {len : Int32} {n : Nat} {tg : Nat → Int32} {pl fa : Int32} {n1 n2 : Nat} {g h : Nat → Int32} {s v kd wd : Int32} (hv : 0 ≤ (v).toInt ∧ 2 * (v).toInt ≤ n2 ∧ n2 ≤ 80) : 0 ≤ ((rssF len n tg pl fa n1 n2 g h s v kd wd).2.2.2.1).toInt ∧ 2 * ((rssF len n tg pl fa n1 n2 g h s v kd wd).2.2.2.1).toInt ≤ n2 ∧ n2 ≤ 80 := by
  unfold rssF; simp only [lett]; (repeat' split) <;> first | with_reducible exact hv | with_reducible exact rsmF_ok hv | with_reducible exact rsmF_ok (rsmF_ok hv)
