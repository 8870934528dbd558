theorem housF_in {x : Int32} (h : ¬ housF x = 0) : vp_in x 8 := by
  unfold housF at h
  have e8 : (8 : Int32).toInt = 8 := rfl
  have e0 : (0 : Int32).toInt = 0 := rfl
  split at h
  · exact absurd rfl h
  · split at h
    · exact absurd rfl h
    · rename_i h1 h2
      simp only [fl_lt, fl_le] at h1 h2
      exact vin_T (rfl : x.toInt = x.toInt) (by omega) (by omega)

set_option maxHeartbeats 4000000 in
set_option maxRecDepth 100000 in
theorem k_X4_size {l : Launch} {D : va_G} {cy : Nat → ClassId} {b : Nat} {f : gMem} {lg en ge re gv tk am : Nat} {sz lo gi : Int32} (hlg : f lg = some (.inr (4, [.ref en, .int sz, .int lo, .ref ge, .ref re, .ref gv, .ref tk, .ref am, .int gi])))  : gC l D cy b yX4_size cX4_size 1 (some .int) 0 0 0 [.ref lg] f (pI fun r f2 => r = sz ∧ f2 = f) := by
  refine gC_of (by decide) (Nat.le_of_ble_eq_true rfl) ?_
  show gG l _ _ _ D cy b cX4_size 1 _ RX4 "size" 0 0 f 0 [(0, .ref lg)] []
  refine gz_aload_n dX4_size_0 rfl rfl ?_
  refine sgX4_35 hlg rfl dX4_size_1 ?_
  exact gz_iret rfl dX4_size_4 (Nat.le_of_ble_eq_true rfl) (Nat.le_of_ble_eq_true rfl) (⟨_, rfl, rfl, rfl⟩)

def lsetF (ne : Nat) (eg : Nat → Int32) (k x y : Int32) : (Nat → Int32) := (if (((k * 6) + x) : Int32) < 0 then (eg) else (if (Int32.ofNat ne) ≤ (((k * 6) + x) : Int32) then (eg) else (upd eg (Int32.toNatClampNeg ((k * 6) + x)) y)))
set_option maxHeartbeats 4000000 in
set_option maxRecDepth 100000 in
theorem k_X4_set {l : Launch} {D : va_G} {cy : Nat → ClassId} {b : Nat} {f : gMem} {lg en ge re gv tk am ne : Nat} {sz lo gi : Int32} {eg : Nat → Int32} {k x y : Int32} (hlg : f lg = some (.inr (4, [.ref en, .int sz, .int lo, .ref ge, .ref re, .ref gv, .ref tk, .ref am, .int gi]))) (hen : f en = some (.inl (cy 0, ne, .inl (eg)))) (hn : ne < 2 ^ 31) : gC l D cy b yX4_set cX4_set 5 none 0 0 0 [.ref lg, .int k, .int x, .int y] f (pV fun f2 => f2 en = some (.inl (cy 0, ne, .inl ((lsetF ne eg k x y)))) ∧ fr [en] f f2) := by
  refine gC_of (by decide) (Nat.le_of_ble_eq_true rfl) ?_
  show gG l _ _ _ D cy b cX4_set 5 _ RX4 "set" 0 0 f 0 [(0, .ref lg), (1, .int k), (2, .int x), (3, .int y)] []
  refine gz_iload_n dX4_set_0 rfl rfl ?_
  refine gz_bipush (v := 6) dX4_set_1 (by decide) ?_
  refine gz_imul dX4_set_3 ?_
  refine gz_iload_n dX4_set_4 rfl rfl ?_
  refine gz_iadd dX4_set_5 ?_
  refine gz_istore (lv' := [(4, .int ((k * 6) + x)), (0, .ref lg), (1, .int k), (2, .int x), (3, .int y)]) dX4_set_6 (by decide) rfl ?_
  refine gz_iload dX4_set_8 rfl ?_
  refine gz_if_lt (tgt := 31) dX4_set_10 (by decide) (fun c_10 => ?_) (fun c_10 => ?_)
  ·
    exact gz_vret rfl dX4_set_31 (Nat.le_of_ble_eq_true rfl) (Nat.le_of_ble_eq_true rfl) (⟨rfl, (by rw [(show lsetF ne eg k x y = _ from (by unfold lsetF; rw [if_pos c_10]))]; exact hen), fr_rf⟩)
  ·
    refine gz_iload dX4_set_13 rfl ?_
    refine gz_aload_n dX4_set_15 rfl rfl ?_
    refine sgX4_9 hlg rfl dX4_set_16 ?_
    refine gz_alen0 (v := Int32.ofNat ne) hen rfl dX4_set_19 ?_
    refine gz_icmp_ge (tgt := 31) dX4_set_20 (by decide) (fun c_20 => ?_) (fun c_20 => ?_)
    ·
      exact gz_vret rfl dX4_set_31 (Nat.le_of_ble_eq_true rfl) (Nat.le_of_ble_eq_true rfl) (⟨rfl, (by rw [(show lsetF ne eg k x y = _ from (by unfold lsetF; rw [if_neg c_10, if_pos c_20]))]; exact hen), fr_rf⟩)
    ·
      refine gz_aload_n dX4_set_23 rfl rfl ?_
      refine sgX4_9 hlg rfl dX4_set_24 ?_
      refine gz_iload dX4_set_27 rfl ?_
      refine gz_iload_n dX4_set_29 rfl rfl ?_
      refine gz_iast hen (vin c_10 c_20 (ofN_toInt hn)) dX4_set_30 ?_
      obtain ⟨f1, hf1⟩ : ∃ gg : gMem, gg = va_up f en (some (.inl (cy 0, ne, .inl (upd eg (Int32.toNatClampNeg ((k * 6) + x)) y)))) := ⟨_, rfl⟩
      refine gz_eq (f2 := f1) hf1.symm rfl rfl rfl ?_
      have hlg_1 : f1 lg = some (.inr (4, [.ref en, .int sz, .int lo, .ref ge, .ref re, .ref gv, .ref tk, .ref am, .int gi])) := by rw [hf1, va_up_ne _ _ (cne hlg hen (by simp))]; exact hlg
      have hen_1 : f1 en = some (.inl (cy 0, ne, .inl (upd eg (Int32.toNatClampNeg ((k * 6) + x)) y))) := by rw [hf1]; exact va_up_self _ _ _
      exact gz_vret rfl dX4_set_31 (Nat.le_of_ble_eq_true rfl) (Nat.le_of_ble_eq_true rfl) (⟨rfl, (by rw [(show lsetF ne eg k x y = _ from (by unfold lsetF; rw [if_neg c_10, if_neg c_20]))]; exact hen_1), (by rw [hf1]; exact fr_up fr_rf (by simp))⟩)

def entF (ne : Nat) (eg : Nat → Int32) (sz k x : Int32) : Int32 := (if (k : Int32) < 0 then (-10000000) else (if sz ≤ (k : Int32) then (-10000000) else (if (x : Int32) < 0 then (-10000000) else (if (x : Int32) < 6 then (if (Int32.ofNat ne) ≤ (((k * 6) + x) : Int32) then (-10000000) else (eg (Int32.toNatClampNeg ((k * 6) + x)))) else (-10000000)))))
set_option maxHeartbeats 4000000 in
set_option maxRecDepth 100000 in
theorem k_X4_entry {l : Launch} {D : va_G} {cy : Nat → ClassId} {b : Nat} {f : gMem} {lg en ge re gv tk am ne : Nat} {sz lo gi : Int32} {eg : Nat → Int32} {k x : Int32} (hlg : f lg = some (.inr (4, [.ref en, .int sz, .int lo, .ref ge, .ref re, .ref gv, .ref tk, .ref am, .int gi]))) (hen : f en = some (.inl (cy 0, ne, .inl (eg)))) (hn : ne < 2 ^ 31) (hs : 0 ≤ sz.toInt ∧ sz.toInt ≤ 2000) : gC l D cy b yX4_entry cX4_entry 4 (some .int) 0 0 0 [.ref lg, .int k, .int x] f (pI fun r f2 => r = entF ne eg sz k x ∧ f2 = f) := by
  refine gC_of (by decide) (Nat.le_of_ble_eq_true rfl) ?_
  show gG l _ _ _ D cy b cX4_entry 4 _ RX4 "entry" 0 0 f 0 [(0, .ref lg), (1, .int k), (2, .int x)] []
  refine gz_iload_n dX4_entry_0 rfl rfl ?_
  refine gz_if_lt (tgt := 22) dX4_entry_1 (by decide) (fun c_1 => ?_) (fun c_1 => ?_)
  ·
    refine gz_ldc (v := (-10000000)) wd_254 dX4_entry_22 ?_
    exact gz_iret rfl dX4_entry_24 (Nat.le_of_ble_eq_true rfl) (Nat.le_of_ble_eq_true rfl) (⟨_, rfl, (show _ = _ from Eq.symm (by unfold entF; rw [if_pos c_1])), rfl⟩)
  ·
    refine gz_iload_n dX4_entry_4 rfl rfl ?_
    refine gz_aload_n dX4_entry_5 rfl rfl ?_
    refine sgX4_35 hlg rfl dX4_entry_6 ?_
    refine gz_icmp_ge (tgt := 22) dX4_entry_9 (by decide) (fun c_9 => ?_) (fun c_9 => ?_)
    ·
      refine gz_ldc (v := (-10000000)) wd_254 dX4_entry_22 ?_
      exact gz_iret rfl dX4_entry_24 (Nat.le_of_ble_eq_true rfl) (Nat.le_of_ble_eq_true rfl) (⟨_, rfl, (show _ = _ from Eq.symm (by unfold entF; rw [if_neg c_1, if_pos c_9])), rfl⟩)
    ·
      refine gz_iload_n dX4_entry_12 rfl rfl ?_
      refine gz_if_lt (tgt := 22) dX4_entry_13 (by decide) (fun c_13 => ?_) (fun c_13 => ?_)
      ·
        refine gz_ldc (v := (-10000000)) wd_254 dX4_entry_22 ?_
        exact gz_iret rfl dX4_entry_24 (Nat.le_of_ble_eq_true rfl) (Nat.le_of_ble_eq_true rfl) (⟨_, rfl, (show _ = _ from Eq.symm (by unfold entF; rw [if_neg c_1, if_neg c_9, if_pos c_13])), rfl⟩)
      ·
        refine gz_iload_n dX4_entry_16 rfl rfl ?_
        refine gz_bipush (v := 6) dX4_entry_17 (by decide) ?_
        refine gz_icmp_lt (tgt := 25) dX4_entry_19 (by decide) (fun c_19 => ?_) (fun c_19 => ?_)
        ·
          refine gz_iload_n dX4_entry_25 rfl rfl ?_
          refine gz_bipush (v := 6) dX4_entry_26 (by decide) ?_
          refine gz_imul dX4_entry_28 ?_
          refine gz_iload_n dX4_entry_29 rfl rfl ?_
          refine gz_iadd dX4_entry_30 ?_
          refine gz_istore_n (lv' := [(3, .int ((k * 6) + x)), (0, .ref lg), (1, .int k), (2, .int x)]) dX4_entry_31 rfl (by decide) rfl ?_
          refine gz_iload_n dX4_entry_32 rfl rfl ?_
          refine gz_aload_n dX4_entry_33 rfl rfl ?_
          refine sgX4_9 hlg rfl dX4_entry_34 ?_
          refine gz_alen0 (v := Int32.ofNat ne) hen rfl dX4_entry_37 ?_
          refine gz_icmp_ge (tgt := 50) dX4_entry_38 (by decide) (fun c_38 => ?_) (fun c_38 => ?_)
          ·
            refine gz_ldc (v := (-10000000)) wd_254 dX4_entry_50 ?_
            exact gz_iret rfl dX4_entry_52 (Nat.le_of_ble_eq_true rfl) (Nat.le_of_ble_eq_true rfl) (⟨_, rfl, (show _ = _ from Eq.symm (by unfold entF; rw [if_neg c_1, if_neg c_9, if_neg c_13, if_pos c_19, if_pos c_38])), rfl⟩)
          ·
            refine gz_aload_n dX4_entry_41 rfl rfl ?_
            refine sgX4_9 hlg rfl dX4_entry_42 ?_
            refine gz_iload_n dX4_entry_45 rfl rfl ?_
            refine gz_iald hen ((by have e13 : (13 : Int32).toInt = 13 := rfl; have e0 : (0 : Int32).toInt = 0 := rfl; have e2 : (2 : Int32).toInt = 2 := rfl; have e1 : (1 : Int32).toInt = 1 := rfl; have e6 : (6 : Int32).toInt = 6 := rfl; have em2 : (-2 : Int32).toInt = -2 := rfl; have e6 : (6 : Int32).toInt = 6 := rfl; have e8 : (8 : Int32).toInt = 8 := rfl; have e10 : (10 : Int32).toInt = 10 := rfl; have e18 : (18 : Int32).toInt = 18 := rfl; have eN : (Int32.ofNat ne).toInt = ne := ofN_toInt hn; simp only [fl_lt, fl_le] at c_1 c_9 c_13 c_19 c_38; have hx := T_add (T_mul (rfl : k.toInt = k.toInt) e6 (by omega)) (rfl : x.toInt = x.toInt) (by omega); rw [hx] at c_38; exact vin_T hx (by omega) (by omega))) dX4_entry_46 ?_
            refine gz_goto (tgt := 52) dX4_entry_47 (by decide) ?_
            exact gz_iret rfl dX4_entry_52 (Nat.le_of_ble_eq_true rfl) (Nat.le_of_ble_eq_true rfl) (⟨_, rfl, (show _ = _ from Eq.symm (by unfold entF; rw [if_neg c_1, if_neg c_9, if_neg c_13, if_pos c_19, if_neg c_38])), rfl⟩)
        ·
          refine gz_ldc (v := (-10000000)) wd_254 dX4_entry_22 ?_
          exact gz_iret rfl dX4_entry_24 (Nat.le_of_ble_eq_true rfl) (Nat.le_of_ble_eq_true rfl) (⟨_, rfl, (show _ = _ from Eq.symm (by unfold entF; rw [if_neg c_1, if_neg c_9, if_neg c_13, if_neg c_19])), rfl⟩)

def bokF (geg : Nat → Int64) (x y : Int32) : (Nat → Int64) := (if ((housF x) : Int32) = 0 then (geg) else (vp_updL geg (Int32.toNatClampNeg x) ((geg (Int32.toNatClampNeg x)) + y.toInt64)))
set_option maxHeartbeats 4000000 in
set_option maxRecDepth 100000 in
theorem k_X4_book {l : Launch} {D : va_G} {cy : Nat → ClassId} {b : Nat} {f : gMem} {lg en ge re gv tk am : Nat} {sz lo gi : Int32} {geg : Nat → Int64} {x y : Int32} (hlg : f lg = some (.inr (4, [.ref en, .int sz, .int lo, .ref ge, .ref re, .ref gv, .ref tk, .ref am, .int gi]))) (hge : f ge = some (.inl (cy 2, 8, .inr (.inl (geg)))))  : gC l D cy b yX4_book cX4_book 3 none 1 0 0 [.ref lg, .int x, .int y] f (pV fun f2 => f2 ge = some (.inl (cy 2, 8, .inr (.inl ((bokF geg x y))))) ∧ fr [ge] f f2) := by
  refine gC_of (by decide) (Nat.le_of_ble_eq_true rfl) ?_
  show gG l _ _ _ D cy b cX4_book 3 _ RX4 "book" 0 0 f 0 [(0, .ref lg), (1, .int x), (2, .int y)] []
  refine gz_iload_n dX4_book_0 rfl rfl ?_
  refine scX4_81 (k_X11_isHouse (x := x)) ⟨(Nat.le_of_ble_eq_true rfl), (Nat.le_of_ble_eq_true rfl)⟩ ⟨(Nat.le_of_ble_eq_true rfl), (Nat.le_of_ble_eq_true rfl)⟩ rfl rfl (Nat.le_of_ble_eq_true rfl) dX4_book_1 ?_
  intro v9 f9 z9; rw [z9.1, z9.2]
  refine gz_if_eq (tgt := 18) dX4_book_4 (by decide) (fun c_4 => ?_) (fun c_4 => ?_)
  ·
    exact gz_vret rfl dX4_book_18 (Nat.le_of_ble_eq_true rfl) (Nat.le_of_ble_eq_true rfl) (⟨rfl, (by rw [(show bokF geg x y = _ from (by unfold bokF; rw [if_pos c_4]))]; exact hge), fr_rf⟩)
  ·
    refine gz_aload_n dX4_book_7 rfl rfl ?_
    refine sgX4_15 hlg rfl dX4_book_8 ?_
    refine gz_iload_n dX4_book_11 rfl rfl ?_
    refine gz_dup2 dX4_book_12 rfl rfl ?_
    refine gz_lald hge (housF_in c_4) dX4_book_13 ?_
    refine gz_iload_n dX4_book_14 rfl rfl ?_
    refine gz_i2l dX4_book_15 ?_
    refine gz_ladd dX4_book_16 ?_
    refine gz_last hge (housF_in c_4) dX4_book_17 ?_
    obtain ⟨f1, hf1⟩ : ∃ gg : gMem, gg = va_up f ge (some (.inl (cy 2, 8, .inr (.inl (vp_updL geg (Int32.toNatClampNeg x) ((geg (Int32.toNatClampNeg x)) + y.toInt64)))))) := ⟨_, rfl⟩
    refine gz_eq (f2 := f1) hf1.symm rfl rfl rfl ?_
    have hlg_1 : f1 lg = some (.inr (4, [.ref en, .int sz, .int lo, .ref ge, .ref re, .ref gv, .ref tk, .ref am, .int gi])) := by rw [hf1, va_up_ne _ _ (cne hlg hge (by simp))]; exact hlg
    have hge_1 : f1 ge = some (.inl (cy 2, 8, .inr (.inl (vp_updL geg (Int32.toNatClampNeg x) ((geg (Int32.toNatClampNeg x)) + y.toInt64))))) := by rw [hf1]; exact va_up_self _ _ _
    exact gz_vret rfl dX4_book_18 (Nat.le_of_ble_eq_true rfl) (Nat.le_of_ble_eq_true rfl) (⟨rfl, (by rw [(show bokF geg x y = _ from (by unfold bokF; rw [if_neg c_4]))]; exact hge_1), (by rw [hf1]; exact fr_up fr_rf (by simp))⟩)

def lhoL (reg : Nat → Int64) (x : Int32) : Nat → Int32 → Int32
  | 0, _ => 0
  | k + 1, i => (if 8 ≤ (i : Int32) then (-1) else (if ((lg_cmp ((reg (Int32.toNatClampNeg i)) * x.toInt64) 0) : Int32) ≤ 0 then lhoL reg x k (i + 1) else i))
set_option maxHeartbeats 4000000 in
set_option maxRecDepth 100000 in
theorem l_X4_leastHouse {l : Launch} {D : va_G} {cy : Nat → ClassId} {b mc ms : Nat} {f : gMem} {Po : Option Value → gMem → Prop} {lg en ge re gv tk am : Nat} {sz lo gi : Int32} {reg : Nat → Int64} {x : Int32}  (hlg : f lg = some (.inr (4, [.ref en, .int sz, .int lo, .ref ge, .ref re, .ref gv, .ref tk, .ref am, .int gi]))) (hre : f re = some (.inl (cy 2, 8, .inr (.inl (reg)))))  : ∀ (k : Nat) (i : Int32), (0 ≤ i.toInt ∧ i.toInt ≤ 8 ∧ i.toInt + (k : Int) = 9) → (Po (some (.int (lhoL reg x k i))) f) → gG l (gRm 0 mc ms) (gQf D b Po mc ms) gTt D cy b cX4_leastHouse 3 (some .int) RX4 "leastHouse" 0 0 f 2 [(2, .int i), (0, .ref lg), (1, .int x)] [] := by
  intro k
  induction k with
  | zero =>
    intro i hk hq
    exfalso; omega
  | succ k ih =>
    intro i hk hq
    refine gz_iload_n dX4_leastHouse_2 rfl rfl ?_
    refine gz_bipush (v := 8) dX4_leastHouse_3 (by decide) ?_
    refine gz_icmp_ge (tgt := 30) dX4_leastHouse_5 (by decide) (fun c_5 => ?_) (fun c_5 => ?_)
    ·
      refine gz_iconst (v := (-1)) dX4_leastHouse_30 (by decide) ?_
      exact gz_iret rfl dX4_leastHouse_31 (Nat.zero_le _) (Nat.zero_le _) ((by rw [lhoL, if_pos c_5] at hq; exact hq))
    ·
      refine gz_aload_n dX4_leastHouse_8 rfl rfl ?_
      refine sgX4_19 hlg rfl dX4_leastHouse_9 ?_
      refine gz_iload_n dX4_leastHouse_12 rfl rfl ?_
      refine gz_lald hre ((by have e13 : (13 : Int32).toInt = 13 := rfl; have e0 : (0 : Int32).toInt = 0 := rfl; have e2 : (2 : Int32).toInt = 2 := rfl; have e1 : (1 : Int32).toInt = 1 := rfl; have e6 : (6 : Int32).toInt = 6 := rfl; have em2 : (-2 : Int32).toInt = -2 := rfl; have e6 : (6 : Int32).toInt = 6 := rfl; have e8 : (8 : Int32).toInt = 8 := rfl; have e10 : (10 : Int32).toInt = 10 := rfl; have e18 : (18 : Int32).toInt = 18 := rfl; simp only [fl_le] at c_5; exact vin_T (rfl : i.toInt = i.toInt) (by omega) (by omega))) dX4_leastHouse_13 ?_
      refine gz_iload_n dX4_leastHouse_14 rfl rfl ?_
      refine gz_i2l dX4_leastHouse_15 ?_
      refine gz_lmul dX4_leastHouse_16 ?_
      refine gz_lconst (v := 0) dX4_leastHouse_17 (by decide) ?_
      refine gz_lcmp dX4_leastHouse_18 ?_
      refine gz_if_le (tgt := 24) dX4_leastHouse_19 (by decide) (fun c_19 => ?_) (fun c_19 => ?_)
      ·
        refine gz_iinc (v := (i + 1)) (lv' := [(2, .int (i + 1)), (0, .ref lg), (1, .int x)]) dX4_leastHouse_24 rfl rfl (by decide) rfl ?_
        refine gz_goto (tgt := 2) dX4_leastHouse_27 (by decide) ?_
        refine gz_sub (lv' := [(2, .int (i + 1)), (0, .ref lg), (1, .int x)]) (by simp [List.lookup]) ?_
        exact ih (i + 1) (by have e13 : (13 : Int32).toInt = 13 := rfl; have e0 : (0 : Int32).toInt = 0 := rfl; have e2 : (2 : Int32).toInt = 2 := rfl; have e1 : (1 : Int32).toInt = 1 := rfl; have e6 : (6 : Int32).toInt = 6 := rfl; have em2 : (-2 : Int32).toInt = -2 := rfl; have e6 : (6 : Int32).toInt = 6 := rfl; have e8 : (8 : Int32).toInt = 8 := rfl; have e10 : (10 : Int32).toInt = 10 := rfl; have e18 : (18 : Int32).toInt = 18 := rfl; simp only [fl_le] at c_5; have hx := T_add (rfl : i.toInt = i.toInt) e1 (by omega); omega) (by rw [lhoL, if_neg c_5, if_pos c_19] at hq; exact hq)
      ·
        refine gz_iload_n dX4_leastHouse_22 rfl rfl ?_
        exact gz_iret rfl dX4_leastHouse_23 (Nat.zero_le _) (Nat.zero_le _) ((by rw [lhoL, if_neg c_5, if_neg c_19] at hq; exact hq))

def lhoF (reg : Nat → Int64) (x : Int32) : Int32 := lhoL reg x 9 0
set_option maxHeartbeats 4000000 in
set_option maxRecDepth 100000 in
theorem k_X4_leastHouse {l : Launch} {D : va_G} {cy : Nat → ClassId} {b : Nat} {f : gMem} {lg en ge re gv tk am : Nat} {sz lo gi : Int32} {reg : Nat → Int64} {x : Int32} (hlg : f lg = some (.inr (4, [.ref en, .int sz, .int lo, .ref ge, .ref re, .ref gv, .ref tk, .ref am, .int gi]))) (hre : f re = some (.inl (cy 2, 8, .inr (.inl (reg)))))  : gC l D cy b yX4_leastHouse cX4_leastHouse 3 (some .int) 0 0 0 [.ref lg, .int x] f (pI fun r f2 => r = lhoF reg x ∧ f2 = f) := by
  refine gC_of (by decide) (Nat.le_of_ble_eq_true rfl) ?_
  show gG l _ _ _ D cy b cX4_leastHouse 3 _ RX4 "leastHouse" 0 0 f 0 [(0, .ref lg), (1, .int x)] []
  refine gz_iconst (v := 0) dX4_leastHouse_0 (by decide) ?_
  refine gz_istore_n (lv' := [(2, .int 0), (0, .ref lg), (1, .int x)]) dX4_leastHouse_1 rfl (by decide) rfl ?_
  exact l_X4_leastHouse hlg hre 9 0 ⟨by decide, by decide, by decide⟩ ⟨_, rfl, rfl, rfl⟩

def adgF (reg : Nat → Int64) (gvg tkg : Nat → Int32) (amg : Nat → Int64) (gi : Int32) : (Int32) × (Nat → Int64) × (Nat → Int32) × (Nat → Int32) × (Nat → Int64) := (if ((housF (lhoF reg (-1))) : Int32) = 0 then (0, (reg), (gvg), (tkg), (amg)) else (if ((housF (lhoF reg 1)) : Int32) = 0 then (0, (reg), (gvg), (tkg), (amg)) else (if (gi : Int32) < 0 then (0, (reg), (gvg), (tkg), (amg)) else (if (gi : Int32) < 8 then (1, (vp_updL (vp_updL reg (Int32.toNatClampNeg (lhoF reg (-1))) ((reg (Int32.toNatClampNeg (lhoF reg (-1)))) + (if (reg (Int32.toNatClampNeg (lhoF reg 1))) < (-(reg (Int32.toNatClampNeg (lhoF reg (-1))))) then (reg (Int32.toNatClampNeg (lhoF reg 1))) else (-(reg (Int32.toNatClampNeg (lhoF reg (-1)))))))) (Int32.toNatClampNeg (lhoF reg 1)) (((vp_updL reg (Int32.toNatClampNeg (lhoF reg (-1))) ((reg (Int32.toNatClampNeg (lhoF reg (-1)))) + (if (reg (Int32.toNatClampNeg (lhoF reg 1))) < (-(reg (Int32.toNatClampNeg (lhoF reg (-1))))) then (reg (Int32.toNatClampNeg (lhoF reg 1))) else (-(reg (Int32.toNatClampNeg (lhoF reg (-1)))))))) (Int32.toNatClampNeg (lhoF reg 1))) - (if (reg (Int32.toNatClampNeg (lhoF reg 1))) < (-(reg (Int32.toNatClampNeg (lhoF reg (-1))))) then (reg (Int32.toNatClampNeg (lhoF reg 1))) else (-(reg (Int32.toNatClampNeg (lhoF reg (-1)))))))), (upd gvg (Int32.toNatClampNeg gi) (lhoF reg (-1))), (upd tkg (Int32.toNatClampNeg gi) (lhoF reg 1)), (vp_updL amg (Int32.toNatClampNeg gi) (if (reg (Int32.toNatClampNeg (lhoF reg 1))) < (-(reg (Int32.toNatClampNeg (lhoF reg (-1))))) then (reg (Int32.toNatClampNeg (lhoF reg 1))) else (-(reg (Int32.toNatClampNeg (lhoF reg (-1)))))))) else (0, (reg), (gvg), (tkg), (amg))))))
set_option maxHeartbeats 4000000 in
set_option maxRecDepth 100000 in
theorem k_X4_addGift {l : Launch} {D : va_G} {cy : Nat → ClassId} {b : Nat} {f : gMem} {lg en ge re gv tk am : Nat} {sz lo gi : Int32} {gvg tkg : Nat → Int32} {reg amg : Nat → Int64} (hlg : f lg = some (.inr (4, [.ref en, .int sz, .int lo, .ref ge, .ref re, .ref gv, .ref tk, .ref am, .int gi]))) (hre : f re = some (.inl (cy 2, 8, .inr (.inl (reg))))) (hgv : f gv = some (.inl (cy 0, 8, .inl (gvg)))) (htk : f tk = some (.inl (cy 0, 8, .inl (tkg)))) (ham : f am = some (.inl (cy 2, 8, .inr (.inl (amg))))) (hne : gv ≠ tk ∧ re ≠ am) (hnl : re ≠ gv ∧ re ≠ tk ∧ am ≠ gv ∧ am ≠ tk) : gC l D cy b yX4_addGift cX4_addGift 5 (some .boolean) 1 0 0 [.ref lg] f (pI fun r f2 => r = (adgF reg gvg tkg amg gi).1 ∧ f2 re = some (.inl (cy 2, 8, .inr (.inl ((adgF reg gvg tkg amg gi).2.1)))) ∧ f2 gv = some (.inl (cy 0, 8, .inl ((adgF reg gvg tkg amg gi).2.2.1))) ∧ f2 tk = some (.inl (cy 0, 8, .inl ((adgF reg gvg tkg amg gi).2.2.2.1))) ∧ f2 am = some (.inl (cy 2, 8, .inr (.inl ((adgF reg gvg tkg amg gi).2.2.2.2)))) ∧ fr [re, gv, tk, am] f f2) := by
  refine gC_of (by decide) (Nat.le_of_ble_eq_true rfl) ?_
  show gG l _ _ _ D cy b cX4_addGift 5 _ RX4 "addGift" 0 0 f 0 [(0, .ref lg)] []
  refine gz_aload_n dX4_addGift_0 rfl rfl ?_
  refine gz_iconst (v := (-1)) dX4_addGift_1 (by decide) ?_
  refine scX4_85 (k_X4_leastHouse (x := (-1)) hlg hre) hlg ⟨(Nat.le_of_ble_eq_true rfl), (Nat.le_of_ble_eq_true rfl)⟩ ⟨(Nat.le_of_ble_eq_true rfl), (Nat.le_of_ble_eq_true rfl)⟩ rfl rfl (Nat.le_of_ble_eq_true rfl) dX4_addGift_2 ?_
  intro v9 f9 z9; rw [z9.1, z9.2]
  refine gz_istore_n (lv' := [(1, .int (lhoF reg (-1))), (0, .ref lg)]) dX4_addGift_5 rfl (by decide) rfl ?_
  refine gz_aload_n dX4_addGift_6 rfl rfl ?_
  refine gz_iconst (v := 1) dX4_addGift_7 (by decide) ?_
  refine scX4_85 (k_X4_leastHouse (x := 1) hlg hre) hlg ⟨(Nat.le_of_ble_eq_true rfl), (Nat.le_of_ble_eq_true rfl)⟩ ⟨(Nat.le_of_ble_eq_true rfl), (Nat.le_of_ble_eq_true rfl)⟩ rfl rfl (Nat.le_of_ble_eq_true rfl) dX4_addGift_8 ?_
  intro v9 f9 z9; rw [z9.1, z9.2]
  refine gz_istore_n (lv' := [(2, .int (lhoF reg 1)), (1, .int (lhoF reg (-1))), (0, .ref lg)]) dX4_addGift_11 rfl (by decide) rfl ?_
  refine gz_iload_n dX4_addGift_12 rfl rfl ?_
  refine scX4_81 (k_X11_isHouse (x := (lhoF reg (-1)))) ⟨(Nat.le_of_ble_eq_true rfl), (Nat.le_of_ble_eq_true rfl)⟩ ⟨(Nat.le_of_ble_eq_true rfl), (Nat.le_of_ble_eq_true rfl)⟩ rfl rfl (Nat.le_of_ble_eq_true rfl) dX4_addGift_13 ?_
  intro v9 f9 z9; rw [z9.1, z9.2]
  refine gz_if_eq (tgt := 42) dX4_addGift_16 (by decide) (fun c_16 => ?_) (fun c_16 => ?_)
  ·
    refine gz_iconst (v := 0) dX4_addGift_42 (by decide) ?_
    exact gz_zret rfl (by first | decide | exact nrb (Or.inl rfl) | (refine nrb ?_; (repeat' split) <;> first | assumption | exact Or.inl rfl | exact Or.inr rfl)) dX4_addGift_43 (Nat.le_of_ble_eq_true rfl) (Nat.le_of_ble_eq_true rfl) (⟨_, rfl, (by rw [(show adgF reg gvg tkg amg gi = _ from (by unfold adgF; rw [if_pos c_16]))]), (by rw [(show adgF reg gvg tkg amg gi = _ from (by unfold adgF; rw [if_pos c_16]))]; exact hre), (by rw [(show adgF reg gvg tkg amg gi = _ from (by unfold adgF; rw [if_pos c_16]))]; exact hgv), (by rw [(show adgF reg gvg tkg amg gi = _ from (by unfold adgF; rw [if_pos c_16]))]; exact htk), (by rw [(show adgF reg gvg tkg amg gi = _ from (by unfold adgF; rw [if_pos c_16]))]; exact ham), fr_rf⟩)
  ·
    refine gz_iload_n dX4_addGift_19 rfl rfl ?_
    refine scX4_81 (k_X11_isHouse (x := (lhoF reg 1))) ⟨(Nat.le_of_ble_eq_true rfl), (Nat.le_of_ble_eq_true rfl)⟩ ⟨(Nat.le_of_ble_eq_true rfl), (Nat.le_of_ble_eq_true rfl)⟩ rfl rfl (Nat.le_of_ble_eq_true rfl) dX4_addGift_20 ?_
    intro v9 f9 z9; rw [z9.1, z9.2]
    refine gz_if_eq (tgt := 42) dX4_addGift_23 (by decide) (fun c_23 => ?_) (fun c_23 => ?_)
    ·
      refine gz_iconst (v := 0) dX4_addGift_42 (by decide) ?_
      exact gz_zret rfl (by first | decide | exact nrb (Or.inl rfl) | (refine nrb ?_; (repeat' split) <;> first | assumption | exact Or.inl rfl | exact Or.inr rfl)) dX4_addGift_43 (Nat.le_of_ble_eq_true rfl) (Nat.le_of_ble_eq_true rfl) (⟨_, rfl, (by rw [(show adgF reg gvg tkg amg gi = _ from (by unfold adgF; rw [if_neg c_16, if_pos c_23]))]), (by rw [(show adgF reg gvg tkg amg gi = _ from (by unfold adgF; rw [if_neg c_16, if_pos c_23]))]; exact hre), (by rw [(show adgF reg gvg tkg amg gi = _ from (by unfold adgF; rw [if_neg c_16, if_pos c_23]))]; exact hgv), (by rw [(show adgF reg gvg tkg amg gi = _ from (by unfold adgF; rw [if_neg c_16, if_pos c_23]))]; exact htk), (by rw [(show adgF reg gvg tkg amg gi = _ from (by unfold adgF; rw [if_neg c_16, if_pos c_23]))]; exact ham), fr_rf⟩)
    ·
      refine gz_aload_n dX4_addGift_26 rfl rfl ?_
      refine sgX4_31 hlg rfl dX4_addGift_27 ?_
      refine gz_if_lt (tgt := 42) dX4_addGift_30 (by decide) (fun c_30 => ?_) (fun c_30 => ?_)
      ·
        refine gz_iconst (v := 0) dX4_addGift_42 (by decide) ?_
        exact gz_zret rfl (by first | decide | exact nrb (Or.inl rfl) | (refine nrb ?_; (repeat' split) <;> first | assumption | exact Or.inl rfl | exact Or.inr rfl)) dX4_addGift_43 (Nat.le_of_ble_eq_true rfl) (Nat.le_of_ble_eq_true rfl) (⟨_, rfl, (by rw [(show adgF reg gvg tkg amg gi = _ from (by unfold adgF; rw [if_neg c_16, if_neg c_23, if_pos c_30]))]), (by rw [(show adgF reg gvg tkg amg gi = _ from (by unfold adgF; rw [if_neg c_16, if_neg c_23, if_pos c_30]))]; exact hre), (by rw [(show adgF reg gvg tkg amg gi = _ from (by unfold adgF; rw [if_neg c_16, if_neg c_23, if_pos c_30]))]; exact hgv), (by rw [(show adgF reg gvg tkg amg gi = _ from (by unfold adgF; rw [if_neg c_16, if_neg c_23, if_pos c_30]))]; exact htk), (by rw [(show adgF reg gvg tkg amg gi = _ from (by unfold adgF; rw [if_neg c_16, if_neg c_23, if_pos c_30]))]; exact ham), fr_rf⟩)
      ·
        refine gz_aload_n dX4_addGift_33 rfl rfl ?_
        refine sgX4_31 hlg rfl dX4_addGift_34 ?_
        refine gz_bipush (v := 8) dX4_addGift_37 (by decide) ?_
        refine gz_icmp_lt (tgt := 44) dX4_addGift_39 (by decide) (fun c_39 => ?_) (fun c_39 => ?_)
        ·
          refine gz_aload_n dX4_addGift_44 rfl rfl ?_
          refine sgX4_19 hlg rfl dX4_addGift_45 ?_
          refine gz_iload_n dX4_addGift_48 rfl rfl ?_
          refine gz_lald hre (housF_in c_16) dX4_addGift_49 ?_
          refine gz_lneg dX4_addGift_50 ?_
          refine gz_aload_n dX4_addGift_51 rfl rfl ?_
          refine sgX4_19 hlg rfl dX4_addGift_52 ?_
          refine gz_iload_n dX4_addGift_55 rfl rfl ?_
          refine gz_lald hre (housF_in c_23) dX4_addGift_56 ?_
          refine scX4_89 (Nat.le_of_ble_eq_true rfl) (Nat.le_of_ble_eq_true rfl) (Nat.le_of_ble_eq_true rfl) (Nat.le_of_ble_eq_true rfl) (Nat.le_of_ble_eq_true rfl) dX4_addGift_57 ?_
          refine gz_lstore_n (lv' := [(3, .long (if (reg (Int32.toNatClampNeg (lhoF reg 1))) < (-(reg (Int32.toNatClampNeg (lhoF reg (-1))))) then (reg (Int32.toNatClampNeg (lhoF reg 1))) else (-(reg (Int32.toNatClampNeg (lhoF reg (-1))))))), (2, .int (lhoF reg 1)), (1, .int (lhoF reg (-1))), (0, .ref lg)]) dX4_addGift_60 rfl (by decide) rfl ?_
          refine gz_aload_n dX4_addGift_61 rfl rfl ?_
          refine sgX4_19 hlg rfl dX4_addGift_62 ?_
          refine gz_iload_n dX4_addGift_65 rfl rfl ?_
          refine gz_dup2 dX4_addGift_66 rfl rfl ?_
          refine gz_lald hre (housF_in c_16) dX4_addGift_67 ?_
          refine gz_lload_n dX4_addGift_68 rfl rfl ?_
          refine gz_ladd dX4_addGift_69 ?_
          refine gz_last hre (housF_in c_16) dX4_addGift_70 ?_
          obtain ⟨f1, hf1⟩ : ∃ gg : gMem, gg = va_up f re (some (.inl (cy 2, 8, .inr (.inl (vp_updL reg (Int32.toNatClampNeg (lhoF reg (-1))) ((reg (Int32.toNatClampNeg (lhoF reg (-1)))) + (if (reg (Int32.toNatClampNeg (lhoF reg 1))) < (-(reg (Int32.toNatClampNeg (lhoF reg (-1))))) then (reg (Int32.toNatClampNeg (lhoF reg 1))) else (-(reg (Int32.toNatClampNeg (lhoF reg (-1)))))))))))) := ⟨_, rfl⟩
          refine gz_eq (f2 := f1) hf1.symm rfl rfl rfl ?_
          have hlg_1 : f1 lg = some (.inr (4, [.ref en, .int sz, .int lo, .ref ge, .ref re, .ref gv, .ref tk, .ref am, .int gi])) := by rw [hf1, va_up_ne _ _ (cne hlg hre (by simp))]; exact hlg
          have hgv_1 : f1 gv = some (.inl (cy 0, 8, .inl (gvg))) := by rw [hf1, va_up_ne _ _ (Ne.symm (hnl.1))]; exact hgv
          have htk_1 : f1 tk = some (.inl (cy 0, 8, .inl (tkg))) := by rw [hf1, va_up_ne _ _ (Ne.symm (hnl.2.1))]; exact htk
          have ham_1 : f1 am = some (.inl (cy 2, 8, .inr (.inl (amg)))) := by rw [hf1, va_up_ne _ _ (Ne.symm (hne.2))]; exact ham
          have hre_1 : f1 re = some (.inl (cy 2, 8, .inr (.inl (vp_updL reg (Int32.toNatClampNeg (lhoF reg (-1))) ((reg (Int32.toNatClampNeg (lhoF reg (-1)))) + (if (reg (Int32.toNatClampNeg (lhoF reg 1))) < (-(reg (Int32.toNatClampNeg (lhoF reg (-1))))) then (reg (Int32.toNatClampNeg (lhoF reg 1))) else (-(reg (Int32.toNatClampNeg (lhoF reg (-1))))))))))) := by rw [hf1]; exact va_up_self _ _ _
          refine gz_aload_n dX4_addGift_71 rfl rfl ?_
          refine sgX4_19 hlg_1 rfl dX4_addGift_72 ?_
          refine gz_iload_n dX4_addGift_75 rfl rfl ?_
          refine gz_dup2 dX4_addGift_76 rfl rfl ?_
          refine gz_lald hre_1 (housF_in c_23) dX4_addGift_77 ?_
          refine gz_lload_n dX4_addGift_78 rfl rfl ?_
          refine gz_lsub dX4_addGift_79 ?_
          refine gz_last hre_1 (housF_in c_23) dX4_addGift_80 ?_
          obtain ⟨f2, hf2⟩ : ∃ gg : gMem, gg = va_up f1 re (some (.inl (cy 2, 8, .inr (.inl (vp_updL (vp_updL reg (Int32.toNatClampNeg (lhoF reg (-1))) ((reg (Int32.toNatClampNeg (lhoF reg (-1)))) + (if (reg (Int32.toNatClampNeg (lhoF reg 1))) < (-(reg (Int32.toNatClampNeg (lhoF reg (-1))))) then (reg (Int32.toNatClampNeg (lhoF reg 1))) else (-(reg (Int32.toNatClampNeg (lhoF reg (-1)))))))) (Int32.toNatClampNeg (lhoF reg 1)) (((vp_updL reg (Int32.toNatClampNeg (lhoF reg (-1))) ((reg (Int32.toNatClampNeg (lhoF reg (-1)))) + (if (reg (Int32.toNatClampNeg (lhoF reg 1))) < (-(reg (Int32.toNatClampNeg (lhoF reg (-1))))) then (reg (Int32.toNatClampNeg (lhoF reg 1))) else (-(reg (Int32.toNatClampNeg (lhoF reg (-1)))))))) (Int32.toNatClampNeg (lhoF reg 1))) - (if (reg (Int32.toNatClampNeg (lhoF reg 1))) < (-(reg (Int32.toNatClampNeg (lhoF reg (-1))))) then (reg (Int32.toNatClampNeg (lhoF reg 1))) else (-(reg (Int32.toNatClampNeg (lhoF reg (-1)))))))))))) := ⟨_, rfl⟩
          refine gz_eq (f2 := f2) hf2.symm rfl rfl rfl ?_
          have hlg_2 : f2 lg = some (.inr (4, [.ref en, .int sz, .int lo, .ref ge, .ref re, .ref gv, .ref tk, .ref am, .int gi])) := by rw [hf2, va_up_ne _ _ (cne hlg_1 hre_1 (by simp))]; exact hlg_1
          have hgv_2 : f2 gv = some (.inl (cy 0, 8, .inl (gvg))) := by rw [hf2, va_up_ne _ _ (Ne.symm (hnl.1))]; exact hgv_1
          have htk_2 : f2 tk = some (.inl (cy 0, 8, .inl (tkg))) := by rw [hf2, va_up_ne _ _ (Ne.symm (hnl.2.1))]; exact htk_1
          have ham_2 : f2 am = some (.inl (cy 2, 8, .inr (.inl (amg)))) := by rw [hf2, va_up_ne _ _ (Ne.symm (hne.2))]; exact ham_1
          have hre_2 : f2 re = some (.inl (cy 2, 8, .inr (.inl (vp_updL (vp_updL reg (Int32.toNatClampNeg (lhoF reg (-1))) ((reg (Int32.toNatClampNeg (lhoF reg (-1)))) + (if (reg (Int32.toNatClampNeg (lhoF reg 1))) < (-(reg (Int32.toNatClampNeg (lhoF reg (-1))))) then (reg (Int32.toNatClampNeg (lhoF reg 1))) else (-(reg (Int32.toNatClampNeg (lhoF reg (-1)))))))) (Int32.toNatClampNeg (lhoF reg 1)) (((vp_updL reg (Int32.toNatClampNeg (lhoF reg (-1))) ((reg (Int32.toNatClampNeg (lhoF reg (-1)))) + (if (reg (Int32.toNatClampNeg (lhoF reg 1))) < (-(reg (Int32.toNatClampNeg (lhoF reg (-1))))) then (reg (Int32.toNatClampNeg (lhoF reg 1))) else (-(reg (Int32.toNatClampNeg (lhoF reg (-1)))))))) (Int32.toNatClampNeg (lhoF reg 1))) - (if (reg (Int32.toNatClampNeg (lhoF reg 1))) < (-(reg (Int32.toNatClampNeg (lhoF reg (-1))))) then (reg (Int32.toNatClampNeg (lhoF reg 1))) else (-(reg (Int32.toNatClampNeg (lhoF reg (-1))))))))))) := by rw [hf2]; exact va_up_self _ _ _
          refine gz_aload_n dX4_addGift_81 rfl rfl ?_
          refine sgX4_22 hlg_2 rfl dX4_addGift_82 ?_
          refine gz_aload_n dX4_addGift_85 rfl rfl ?_
          refine sgX4_31 hlg_2 rfl dX4_addGift_86 ?_
          refine gz_iload_n dX4_addGift_89 rfl rfl ?_
          refine gz_iast hgv_2 ((by have e13 : (13 : Int32).toInt = 13 := rfl; have e0 : (0 : Int32).toInt = 0 := rfl; have e2 : (2 : Int32).toInt = 2 := rfl; have e1 : (1 : Int32).toInt = 1 := rfl; have e6 : (6 : Int32).toInt = 6 := rfl; have em2 : (-2 : Int32).toInt = -2 := rfl; have e6 : (6 : Int32).toInt = 6 := rfl; have e8 : (8 : Int32).toInt = 8 := rfl; have e10 : (10 : Int32).toInt = 10 := rfl; have e18 : (18 : Int32).toInt = 18 := rfl; simp only [fl_lt] at c_30 c_39; exact vin_T (rfl : gi.toInt = gi.toInt) (by omega) (by omega))) dX4_addGift_90 ?_
          obtain ⟨f3, hf3⟩ : ∃ gg : gMem, gg = va_up f2 gv (some (.inl (cy 0, 8, .inl (upd gvg (Int32.toNatClampNeg gi) (lhoF reg (-1)))))) := ⟨_, rfl⟩
          refine gz_eq (f2 := f3) hf3.symm rfl rfl rfl ?_
          have hlg_3 : f3 lg = some (.inr (4, [.ref en, .int sz, .int lo, .ref ge, .ref re, .ref gv, .ref tk, .ref am, .int gi])) := by rw [hf3, va_up_ne _ _ (cne hlg_2 hgv_2 (by simp))]; exact hlg_2
          have htk_3 : f3 tk = some (.inl (cy 0, 8, .inl (tkg))) := by rw [hf3, va_up_ne _ _ (Ne.symm (hne.1))]; exact htk_2
          have ham_3 : f3 am = some (.inl (cy 2, 8, .inr (.inl (amg)))) := by rw [hf3, va_up_ne _ _ (hnl.2.2.1)]; exact ham_2
          have hre_3 : f3 re = some (.inl (cy 2, 8, .inr (.inl (vp_updL (vp_updL reg (Int32.toNatClampNeg (lhoF reg (-1))) ((reg (Int32.toNatClampNeg (lhoF reg (-1)))) + (if (reg (Int32.toNatClampNeg (lhoF reg 1))) < (-(reg (Int32.toNatClampNeg (lhoF reg (-1))))) then (reg (Int32.toNatClampNeg (lhoF reg 1))) else (-(reg (Int32.toNatClampNeg (lhoF reg (-1)))))))) (Int32.toNatClampNeg (lhoF reg 1)) (((vp_updL reg (Int32.toNatClampNeg (lhoF reg (-1))) ((reg (Int32.toNatClampNeg (lhoF reg (-1)))) + (if (reg (Int32.toNatClampNeg (lhoF reg 1))) < (-(reg (Int32.toNatClampNeg (lhoF reg (-1))))) then (reg (Int32.toNatClampNeg (lhoF reg 1))) else (-(reg (Int32.toNatClampNeg (lhoF reg (-1)))))))) (Int32.toNatClampNeg (lhoF reg 1))) - (if (reg (Int32.toNatClampNeg (lhoF reg 1))) < (-(reg (Int32.toNatClampNeg (lhoF reg (-1))))) then (reg (Int32.toNatClampNeg (lhoF reg 1))) else (-(reg (Int32.toNatClampNeg (lhoF reg (-1))))))))))) := by rw [hf3, va_up_ne _ _ (hnl.1)]; exact hre_2
          have hgv_3 : f3 gv = some (.inl (cy 0, 8, .inl (upd gvg (Int32.toNatClampNeg gi) (lhoF reg (-1))))) := by rw [hf3]; exact va_up_self _ _ _
          refine gz_aload_n dX4_addGift_91 rfl rfl ?_
          refine sgX4_25 hlg_3 rfl dX4_addGift_92 ?_
          refine gz_aload_n dX4_addGift_95 rfl rfl ?_
          refine sgX4_31 hlg_3 rfl dX4_addGift_96 ?_
          refine gz_iload_n dX4_addGift_99 rfl rfl ?_
          refine gz_iast htk_3 ((by have e13 : (13 : Int32).toInt = 13 := rfl; have e0 : (0 : Int32).toInt = 0 := rfl; have e2 : (2 : Int32).toInt = 2 := rfl; have e1 : (1 : Int32).toInt = 1 := rfl; have e6 : (6 : Int32).toInt = 6 := rfl; have em2 : (-2 : Int32).toInt = -2 := rfl; have e6 : (6 : Int32).toInt = 6 := rfl; have e8 : (8 : Int32).toInt = 8 := rfl; have e10 : (10 : Int32).toInt = 10 := rfl; have e18 : (18 : Int32).toInt = 18 := rfl; simp only [fl_lt] at c_30 c_39; exact vin_T (rfl : gi.toInt = gi.toInt) (by omega) (by omega))) dX4_addGift_100 ?_
          obtain ⟨f4, hf4⟩ : ∃ gg : gMem, gg = va_up f3 tk (some (.inl (cy 0, 8, .inl (upd tkg (Int32.toNatClampNeg gi) (lhoF reg 1))))) := ⟨_, rfl⟩
          refine gz_eq (f2 := f4) hf4.symm rfl rfl rfl ?_
          have hlg_4 : f4 lg = some (.inr (4, [.ref en, .int sz, .int lo, .ref ge, .ref re, .ref gv, .ref tk, .ref am, .int gi])) := by rw [hf4, va_up_ne _ _ (cne hlg_3 htk_3 (by simp))]; exact hlg_3
          have ham_4 : f4 am = some (.inl (cy 2, 8, .inr (.inl (amg)))) := by rw [hf4, va_up_ne _ _ (hnl.2.2.2)]; exact ham_3
          have hre_4 : f4 re = some (.inl (cy 2, 8, .inr (.inl (vp_updL (vp_updL reg (Int32.toNatClampNeg (lhoF reg (-1))) ((reg (Int32.toNatClampNeg (lhoF reg (-1)))) + (if (reg (Int32.toNatClampNeg (lhoF reg 1))) < (-(reg (Int32.toNatClampNeg (lhoF reg (-1))))) then (reg (Int32.toNatClampNeg (lhoF reg 1))) else (-(reg (Int32.toNatClampNeg (lhoF reg (-1)))))))) (Int32.toNatClampNeg (lhoF reg 1)) (((vp_updL reg (Int32.toNatClampNeg (lhoF reg (-1))) ((reg (Int32.toNatClampNeg (lhoF reg (-1)))) + (if (reg (Int32.toNatClampNeg (lhoF reg 1))) < (-(reg (Int32.toNatClampNeg (lhoF reg (-1))))) then (reg (Int32.toNatClampNeg (lhoF reg 1))) else (-(reg (Int32.toNatClampNeg (lhoF reg (-1)))))))) (Int32.toNatClampNeg (lhoF reg 1))) - (if (reg (Int32.toNatClampNeg (lhoF reg 1))) < (-(reg (Int32.toNatClampNeg (lhoF reg (-1))))) then (reg (Int32.toNatClampNeg (lhoF reg 1))) else (-(reg (Int32.toNatClampNeg (lhoF reg (-1))))))))))) := by rw [hf4, va_up_ne _ _ (hnl.2.1)]; exact hre_3
          have hgv_4 : f4 gv = some (.inl (cy 0, 8, .inl (upd gvg (Int32.toNatClampNeg gi) (lhoF reg (-1))))) := by rw [hf4, va_up_ne _ _ (hne.1)]; exact hgv_3
          have htk_4 : f4 tk = some (.inl (cy 0, 8, .inl (upd tkg (Int32.toNatClampNeg gi) (lhoF reg 1)))) := by rw [hf4]; exact va_up_self _ _ _
          refine gz_aload_n dX4_addGift_101 rfl rfl ?_
          refine sgX4_28 hlg_4 rfl dX4_addGift_102 ?_
          refine gz_aload_n dX4_addGift_105 rfl rfl ?_
          refine sgX4_31 hlg_4 rfl dX4_addGift_106 ?_
          refine gz_lload_n dX4_addGift_109 rfl rfl ?_
          refine gz_last ham_4 ((by have e13 : (13 : Int32).toInt = 13 := rfl; have e0 : (0 : Int32).toInt = 0 := rfl; have e2 : (2 : Int32).toInt = 2 := rfl; have e1 : (1 : Int32).toInt = 1 := rfl; have e6 : (6 : Int32).toInt = 6 := rfl; have em2 : (-2 : Int32).toInt = -2 := rfl; have e6 : (6 : Int32).toInt = 6 := rfl; have e8 : (8 : Int32).toInt = 8 := rfl; have e10 : (10 : Int32).toInt = 10 := rfl; have e18 : (18 : Int32).toInt = 18 := rfl; simp only [fl_lt] at c_30 c_39; exact vin_T (rfl : gi.toInt = gi.toInt) (by omega) (by omega))) dX4_addGift_110 ?_
          obtain ⟨f5, hf5⟩ : ∃ gg : gMem, gg = va_up f4 am (some (.inl (cy 2, 8, .inr (.inl (vp_updL amg (Int32.toNatClampNeg gi) (if (reg (Int32.toNatClampNeg (lhoF reg 1))) < (-(reg (Int32.toNatClampNeg (lhoF reg (-1))))) then (reg (Int32.toNatClampNeg (lhoF reg 1))) else (-(reg (Int32.toNatClampNeg (lhoF reg (-1))))))))))) := ⟨_, rfl⟩
          refine gz_eq (f2 := f5) hf5.symm rfl rfl rfl ?_
          have hlg_5 : f5 lg = some (.inr (4, [.ref en, .int sz, .int lo, .ref ge, .ref re, .ref gv, .ref tk, .ref am, .int gi])) := by rw [hf5, va_up_ne _ _ (cne hlg_4 ham_4 (by simp))]; exact hlg_4
          have hre_5 : f5 re = some (.inl (cy 2, 8, .inr (.inl (vp_updL (vp_updL reg (Int32.toNatClampNeg (lhoF reg (-1))) ((reg (Int32.toNatClampNeg (lhoF reg (-1)))) + (if (reg (Int32.toNatClampNeg (lhoF reg 1))) < (-(reg (Int32.toNatClampNeg (lhoF reg (-1))))) then (reg (Int32.toNatClampNeg (lhoF reg 1))) else (-(reg (Int32.toNatClampNeg (lhoF reg (-1)))))))) (Int32.toNatClampNeg (lhoF reg 1)) (((vp_updL reg (Int32.toNatClampNeg (lhoF reg (-1))) ((reg (Int32.toNatClampNeg (lhoF reg (-1)))) + (if (reg (Int32.toNatClampNeg (lhoF reg 1))) < (-(reg (Int32.toNatClampNeg (lhoF reg (-1))))) then (reg (Int32.toNatClampNeg (lhoF reg 1))) else (-(reg (Int32.toNatClampNeg (lhoF reg (-1)))))))) (Int32.toNatClampNeg (lhoF reg 1))) - (if (reg (Int32.toNatClampNeg (lhoF reg 1))) < (-(reg (Int32.toNatClampNeg (lhoF reg (-1))))) then (reg (Int32.toNatClampNeg (lhoF reg 1))) else (-(reg (Int32.toNatClampNeg (lhoF reg (-1))))))))))) := by rw [hf5, va_up_ne _ _ (hne.2)]; exact hre_4
          have hgv_5 : f5 gv = some (.inl (cy 0, 8, .inl (upd gvg (Int32.toNatClampNeg gi) (lhoF reg (-1))))) := by rw [hf5, va_up_ne _ _ (Ne.symm (hnl.2.2.1))]; exact hgv_4
          have htk_5 : f5 tk = some (.inl (cy 0, 8, .inl (upd tkg (Int32.toNatClampNeg gi) (lhoF reg 1)))) := by rw [hf5, va_up_ne _ _ (Ne.symm (hnl.2.2.2))]; exact htk_4
          have ham_5 : f5 am = some (.inl (cy 2, 8, .inr (.inl (vp_updL amg (Int32.toNatClampNeg gi) (if (reg (Int32.toNatClampNeg (lhoF reg 1))) < (-(reg (Int32.toNatClampNeg (lhoF reg (-1))))) then (reg (Int32.toNatClampNeg (lhoF reg 1))) else (-(reg (Int32.toNatClampNeg (lhoF reg (-1)))))))))) := by rw [hf5]; exact va_up_self _ _ _
          refine gz_iconst (v := 1) dX4_addGift_111 (by decide) ?_
          exact gz_zret rfl (by first | decide | exact nrb (Or.inl rfl) | (refine nrb ?_; (repeat' split) <;> first | assumption | exact Or.inl rfl | exact Or.inr rfl)) dX4_addGift_112 (Nat.le_of_ble_eq_true rfl) (Nat.le_of_ble_eq_true rfl) (⟨_, rfl, (by rw [(show adgF reg gvg tkg amg gi = _ from (by unfold adgF; rw [if_neg c_16, if_neg c_23, if_neg c_30, if_pos c_39]))]), (by rw [(show adgF reg gvg tkg amg gi = _ from (by unfold adgF; rw [if_neg c_16, if_neg c_23, if_neg c_30, if_pos c_39]))]; exact hre_5), (by rw [(show adgF reg gvg tkg amg gi = _ from (by unfold adgF; rw [if_neg c_16, if_neg c_23, if_neg c_30, if_pos c_39]))]; exact hgv_5), (by rw [(show adgF reg gvg tkg amg gi = _ from (by unfold adgF; rw [if_neg c_16, if_neg c_23, if_neg c_30, if_pos c_39]))]; exact htk_5), (by rw [(show adgF reg gvg tkg amg gi = _ from (by unfold adgF; rw [if_neg c_16, if_neg c_23, if_neg c_30, if_pos c_39]))]; exact ham_5), (by rw [hf5]; exact fr_up (by rw [hf4]; exact fr_up (by rw [hf3]; exact fr_up (by rw [hf2]; exact fr_up (by rw [hf1]; exact fr_up fr_rf (by simp)) (by simp)) (by simp)) (by simp)) (by simp))⟩)
        ·
          refine gz_iconst (v := 0) dX4_addGift_42 (by decide) ?_
          exact gz_zret rfl (by first | decide | exact nrb (Or.inl rfl) | (refine nrb ?_; (repeat' split) <;> first | assumption | exact Or.inl rfl | exact Or.inr rfl)) dX4_addGift_43 (Nat.le_of_ble_eq_true rfl) (Nat.le_of_ble_eq_true rfl) (⟨_, rfl, (by rw [(show adgF reg gvg tkg amg gi = _ from (by unfold adgF; rw [if_neg c_16, if_neg c_23, if_neg c_30, if_neg c_39]))]), (by rw [(show adgF reg gvg tkg amg gi = _ from (by unfold adgF; rw [if_neg c_16, if_neg c_23, if_neg c_30, if_neg c_39]))]; exact hre), (by rw [(show adgF reg gvg tkg amg gi = _ from (by unfold adgF; rw [if_neg c_16, if_neg c_23, if_neg c_30, if_neg c_39]))]; exact hgv), (by rw [(show adgF reg gvg tkg amg gi = _ from (by unfold adgF; rw [if_neg c_16, if_neg c_23, if_neg c_30, if_neg c_39]))]; exact htk), (by rw [(show adgF reg gvg tkg amg gi = _ from (by unfold adgF; rw [if_neg c_16, if_neg c_23, if_neg c_30, if_neg c_39]))]; exact ham), fr_rf⟩)

theorem bz_adgF {reg : Nat → Int64} {gvg tkg : Nat → Int32} {amg : Nat → Int64} {gi : Int32} : (adgF reg gvg tkg amg gi).1 = 0 ∨ (adgF reg gvg tkg amg gi).1 = 1 := by
  unfold adgF; try simp only [lett]
  (repeat' split) <;> first | with_reducible exact Or.inl rfl | with_reducible exact Or.inr rfl | exact Or.inl rfl

def stlF (geg : Nat → Int64) (gvg tkg : Nat → Int32) (amg : Nat → Int64) (gi k x : Int32) : Int64 := (if (gi : Int32) = (-1) then (-1000000000000) else (if (x : Int32) < 10 then (if (k : Int32) < 0 then (-1000000000000) else (if gi ≤ (k : Int32) then (-1000000000000) else (if (k : Int32) < 8 then (if (x : Int32) = 0 then (gvg (Int32.toNatClampNeg k)).toInt64 else (if (x : Int32) = 1 then (tkg (Int32.toNatClampNeg k)).toInt64 else (if (x : Int32) = 2 then (amg (Int32.toNatClampNeg k)) else (-1000000000000)))) else (-1000000000000)))) else (if 18 ≤ (x : Int32) then (if (k : Int32) < 0 then (-1000000000000) else (if gi ≤ (k : Int32) then (-1000000000000) else (if (k : Int32) < 8 then (if (x : Int32) = 0 then (gvg (Int32.toNatClampNeg k)).toInt64 else (if (x : Int32) = 1 then (tkg (Int32.toNatClampNeg k)).toInt64 else (if (x : Int32) = 2 then (amg (Int32.toNatClampNeg k)) else (-1000000000000)))) else (-1000000000000)))) else (geg (Int32.toNatClampNeg (x - 10))))))
set_option maxHeartbeats 4000000 in
set_option maxRecDepth 100000 in
theorem k_X4_settled {l : Launch} {D : va_G} {cy : Nat → ClassId} {b : Nat} {f : gMem} {lg en ge re gv tk am : Nat} {sz lo gi : Int32} {gvg tkg : Nat → Int32} {geg amg : Nat → Int64} {k x : Int32} (hlg : f lg = some (.inr (4, [.ref en, .int sz, .int lo, .ref ge, .ref re, .ref gv, .ref tk, .ref am, .int gi]))) (hge : f ge = some (.inl (cy 2, 8, .inr (.inl (geg))))) (hgv : f gv = some (.inl (cy 0, 8, .inl (gvg)))) (htk : f tk = some (.inl (cy 0, 8, .inl (tkg)))) (ham : f am = some (.inl (cy 2, 8, .inr (.inl (amg)))))  : gC l D cy b yX4_settled cX4_settled 3 (some .long) 0 0 0 [.ref lg, .int k, .int x] f (pL fun r f2 => r = stlF geg gvg tkg amg gi k x ∧ f2 = f) := by
  refine gC_of (by decide) (Nat.le_of_ble_eq_true rfl) ?_
  show gG l _ _ _ D cy b cX4_settled 3 _ RX4 "settled" 0 0 f 0 [(0, .ref lg), (1, .int k), (2, .int x)] []
  refine gz_aload_n dX4_settled_0 rfl rfl ?_
  refine sgX4_31 hlg rfl dX4_settled_1 ?_
  refine gz_iconst (v := (-1)) dX4_settled_4 (by decide) ?_
  refine gz_icmp_ne (tgt := 12) dX4_settled_5 (by decide) (fun c_5 => ?_) (fun c_5 => ?_)
  ·
    refine gz_iload_n dX4_settled_12 rfl rfl ?_
    refine gz_bipush (v := 10) dX4_settled_13 (by decide) ?_
    refine gz_icmp_lt (tgt := 34) dX4_settled_15 (by decide) (fun c_15 => ?_) (fun c_15 => ?_)
    ·
      refine gz_iload_n dX4_settled_34 rfl rfl ?_
      refine gz_if_lt (tgt := 52) dX4_settled_35 (by decide) (fun c_35 => ?_) (fun c_35 => ?_)
      ·
        refine gz_ldc2 (v := (-1000000000000)) wd_274 dX4_settled_52 ?_
        exact gz_lret rfl dX4_settled_55 (Nat.le_of_ble_eq_true rfl) (Nat.le_of_ble_eq_true rfl) (⟨_, rfl, (show _ = _ from Eq.symm (by unfold stlF; rw [if_neg c_5, if_pos c_15, if_pos c_35])), rfl⟩)
      ·
        refine gz_iload_n dX4_settled_38 rfl rfl ?_
        refine gz_aload_n dX4_settled_39 rfl rfl ?_
        refine sgX4_31 hlg rfl dX4_settled_40 ?_
        refine gz_icmp_ge (tgt := 52) dX4_settled_43 (by decide) (fun c_43 => ?_) (fun c_43 => ?_)
        ·
          refine gz_ldc2 (v := (-1000000000000)) wd_274 dX4_settled_52 ?_
          exact gz_lret rfl dX4_settled_55 (Nat.le_of_ble_eq_true rfl) (Nat.le_of_ble_eq_true rfl) (⟨_, rfl, (show _ = _ from Eq.symm (by unfold stlF; rw [if_neg c_5, if_pos c_15, if_neg c_35, if_pos c_43])), rfl⟩)
        ·
          refine gz_iload_n dX4_settled_46 rfl rfl ?_
          refine gz_bipush (v := 8) dX4_settled_47 (by decide) ?_
          refine gz_icmp_lt (tgt := 56) dX4_settled_49 (by decide) (fun c_49 => ?_) (fun c_49 => ?_)
          ·
            refine gz_iload_n dX4_settled_56 rfl rfl ?_
            by_cases hw_57_0 : x = 0
            ·
              refine gz_ev (w := .int 0) (congrArg Value.int hw_57_0) ?_
              refine gz_tableIn (off := 27) (tgt := 84) dX4_settled_57 (by decide) (by decide) rfl (by decide) ?_
              refine gz_aload_n dX4_settled_84 rfl rfl ?_
              refine sgX4_22 hlg rfl dX4_settled_85 ?_
              refine gz_iload_n dX4_settled_88 rfl rfl ?_
              refine gz_iald hgv ((by have e13 : (13 : Int32).toInt = 13 := rfl; have e0 : (0 : Int32).toInt = 0 := rfl; have e2 : (2 : Int32).toInt = 2 := rfl; have e1 : (1 : Int32).toInt = 1 := rfl; have e6 : (6 : Int32).toInt = 6 := rfl; have em2 : (-2 : Int32).toInt = -2 := rfl; have e6 : (6 : Int32).toInt = 6 := rfl; have e8 : (8 : Int32).toInt = 8 := rfl; have e10 : (10 : Int32).toInt = 10 := rfl; have e18 : (18 : Int32).toInt = 18 := rfl; simp only [fl_lt, fl_le] at c_35 c_49; exact vin_T (rfl : k.toInt = k.toInt) (by omega) (by omega))) dX4_settled_89 ?_
              refine gz_i2l dX4_settled_90 ?_
              exact gz_lret rfl dX4_settled_91 (Nat.le_of_ble_eq_true rfl) (Nat.le_of_ble_eq_true rfl) (⟨_, rfl, (show _ = _ from Eq.symm (by unfold stlF; rw [if_neg c_5, if_pos c_15, if_neg c_35, if_neg c_43, if_pos c_49, if_pos hw_57_0])), rfl⟩)
            ·
              by_cases hw_57_1 : x = 1
              ·
                refine gz_ev (w := .int 1) (congrArg Value.int hw_57_1) ?_
                refine gz_tableIn (off := 35) (tgt := 92) dX4_settled_57 (by decide) (by decide) rfl (by decide) ?_
                refine gz_aload_n dX4_settled_92 rfl rfl ?_
                refine sgX4_25 hlg rfl dX4_settled_93 ?_
                refine gz_iload_n dX4_settled_96 rfl rfl ?_
                refine gz_iald htk ((by have e13 : (13 : Int32).toInt = 13 := rfl; have e0 : (0 : Int32).toInt = 0 := rfl; have e2 : (2 : Int32).toInt = 2 := rfl; have e1 : (1 : Int32).toInt = 1 := rfl; have e6 : (6 : Int32).toInt = 6 := rfl; have em2 : (-2 : Int32).toInt = -2 := rfl; have e6 : (6 : Int32).toInt = 6 := rfl; have e8 : (8 : Int32).toInt = 8 := rfl; have e10 : (10 : Int32).toInt = 10 := rfl; have e18 : (18 : Int32).toInt = 18 := rfl; simp only [fl_lt, fl_le] at c_35 c_49; exact vin_T (rfl : k.toInt = k.toInt) (by omega) (by omega))) dX4_settled_97 ?_
                refine gz_i2l dX4_settled_98 ?_
                exact gz_lret rfl dX4_settled_99 (Nat.le_of_ble_eq_true rfl) (Nat.le_of_ble_eq_true rfl) (⟨_, rfl, (show _ = _ from Eq.symm (by unfold stlF; rw [if_neg c_5, if_pos c_15, if_neg c_35, if_neg c_43, if_pos c_49, if_neg hw_57_0, if_pos hw_57_1])), rfl⟩)
              ·
                by_cases hw_57_2 : x = 2
                ·
                  refine gz_ev (w := .int 2) (congrArg Value.int hw_57_2) ?_
                  refine gz_tableIn (off := 43) (tgt := 100) dX4_settled_57 (by decide) (by decide) rfl (by decide) ?_
                  refine gz_aload_n dX4_settled_100 rfl rfl ?_
                  refine sgX4_28 hlg rfl dX4_settled_101 ?_
                  refine gz_iload_n dX4_settled_104 rfl rfl ?_
                  refine gz_lald ham ((by have e13 : (13 : Int32).toInt = 13 := rfl; have e0 : (0 : Int32).toInt = 0 := rfl; have e2 : (2 : Int32).toInt = 2 := rfl; have e1 : (1 : Int32).toInt = 1 := rfl; have e6 : (6 : Int32).toInt = 6 := rfl; have em2 : (-2 : Int32).toInt = -2 := rfl; have e6 : (6 : Int32).toInt = 6 := rfl; have e8 : (8 : Int32).toInt = 8 := rfl; have e10 : (10 : Int32).toInt = 10 := rfl; have e18 : (18 : Int32).toInt = 18 := rfl; simp only [fl_lt, fl_le] at c_35 c_49; exact vin_T (rfl : k.toInt = k.toInt) (by omega) (by omega))) dX4_settled_105 ?_
                  exact gz_lret rfl dX4_settled_106 (Nat.le_of_ble_eq_true rfl) (Nat.le_of_ble_eq_true rfl) (⟨_, rfl, (show _ = _ from Eq.symm (by unfold stlF; rw [if_neg c_5, if_pos c_15, if_neg c_35, if_neg c_43, if_pos c_49, if_neg hw_57_0, if_neg hw_57_1, if_pos hw_57_2])), rfl⟩)
                ·
                  refine gz_tableOut (tgt := 107) dX4_settled_57 (by have g0 : x.toInt ≠ 0 := fun e => hw_57_0 (Int32.toInt_inj.mp (e.trans rfl)); have g1 : x.toInt ≠ 1 := fun e => hw_57_1 (Int32.toInt_inj.mp (e.trans rfl)); have g2 : x.toInt ≠ 2 := fun e => hw_57_2 (Int32.toInt_inj.mp (e.trans rfl)); omega) (by decide) ?_
                  refine gz_ldc2 (v := (-1000000000000)) wd_274 dX4_settled_107 ?_
                  exact gz_lret rfl dX4_settled_110 (Nat.le_of_ble_eq_true rfl) (Nat.le_of_ble_eq_true rfl) (⟨_, rfl, (show _ = _ from Eq.symm (by unfold stlF; rw [if_neg c_5, if_pos c_15, if_neg c_35, if_neg c_43, if_pos c_49, if_neg hw_57_0, if_neg hw_57_1, if_neg hw_57_2])), rfl⟩)
          ·
            refine gz_ldc2 (v := (-1000000000000)) wd_274 dX4_settled_52 ?_
            exact gz_lret rfl dX4_settled_55 (Nat.le_of_ble_eq_true rfl) (Nat.le_of_ble_eq_true rfl) (⟨_, rfl, (show _ = _ from Eq.symm (by unfold stlF; rw [if_neg c_5, if_pos c_15, if_neg c_35, if_neg c_43, if_neg c_49])), rfl⟩)
    ·
      refine gz_iload_n dX4_settled_18 rfl rfl ?_
      refine gz_bipush (v := 18) dX4_settled_19 (by decide) ?_
      refine gz_icmp_ge (tgt := 34) dX4_settled_21 (by decide) (fun c_21 => ?_) (fun c_21 => ?_)
      ·
        refine gz_iload_n dX4_settled_34 rfl rfl ?_
        refine gz_if_lt (tgt := 52) dX4_settled_35 (by decide) (fun c_35 => ?_) (fun c_35 => ?_)
        ·
          refine gz_ldc2 (v := (-1000000000000)) wd_274 dX4_settled_52 ?_
          exact gz_lret rfl dX4_settled_55 (Nat.le_of_ble_eq_true rfl) (Nat.le_of_ble_eq_true rfl) (⟨_, rfl, (show _ = _ from Eq.symm (by unfold stlF; rw [if_neg c_5, if_neg c_15, if_pos c_21, if_pos c_35])), rfl⟩)
        ·
          refine gz_iload_n dX4_settled_38 rfl rfl ?_
          refine gz_aload_n dX4_settled_39 rfl rfl ?_
          refine sgX4_31 hlg rfl dX4_settled_40 ?_
          refine gz_icmp_ge (tgt := 52) dX4_settled_43 (by decide) (fun c_43 => ?_) (fun c_43 => ?_)
          ·
            refine gz_ldc2 (v := (-1000000000000)) wd_274 dX4_settled_52 ?_
            exact gz_lret rfl dX4_settled_55 (Nat.le_of_ble_eq_true rfl) (Nat.le_of_ble_eq_true rfl) (⟨_, rfl, (show _ = _ from Eq.symm (by unfold stlF; rw [if_neg c_5, if_neg c_15, if_pos c_21, if_neg c_35, if_pos c_43])), rfl⟩)
          ·
            refine gz_iload_n dX4_settled_46 rfl rfl ?_
            refine gz_bipush (v := 8) dX4_settled_47 (by decide) ?_
            refine gz_icmp_lt (tgt := 56) dX4_settled_49 (by decide) (fun c_49 => ?_) (fun c_49 => ?_)
            ·
              refine gz_iload_n dX4_settled_56 rfl rfl ?_
              by_cases hw_57_0 : x = 0
              ·
                refine gz_ev (w := .int 0) (congrArg Value.int hw_57_0) ?_
                refine gz_tableIn (off := 27) (tgt := 84) dX4_settled_57 (by decide) (by decide) rfl (by decide) ?_
                refine gz_aload_n dX4_settled_84 rfl rfl ?_
                refine sgX4_22 hlg rfl dX4_settled_85 ?_
                refine gz_iload_n dX4_settled_88 rfl rfl ?_
                refine gz_iald hgv ((by have e13 : (13 : Int32).toInt = 13 := rfl; have e0 : (0 : Int32).toInt = 0 := rfl; have e2 : (2 : Int32).toInt = 2 := rfl; have e1 : (1 : Int32).toInt = 1 := rfl; have e6 : (6 : Int32).toInt = 6 := rfl; have em2 : (-2 : Int32).toInt = -2 := rfl; have e6 : (6 : Int32).toInt = 6 := rfl; have e8 : (8 : Int32).toInt = 8 := rfl; have e10 : (10 : Int32).toInt = 10 := rfl; have e18 : (18 : Int32).toInt = 18 := rfl; simp only [fl_lt, fl_le] at c_35 c_49; exact vin_T (rfl : k.toInt = k.toInt) (by omega) (by omega))) dX4_settled_89 ?_
                refine gz_i2l dX4_settled_90 ?_
                exact gz_lret rfl dX4_settled_91 (Nat.le_of_ble_eq_true rfl) (Nat.le_of_ble_eq_true rfl) (⟨_, rfl, (show _ = _ from Eq.symm (by unfold stlF; rw [if_neg c_5, if_neg c_15, if_pos c_21, if_neg c_35, if_neg c_43, if_pos c_49, if_pos hw_57_0])), rfl⟩)
              ·
                by_cases hw_57_1 : x = 1
                ·
                  refine gz_ev (w := .int 1) (congrArg Value.int hw_57_1) ?_
                  refine gz_tableIn (off := 35) (tgt := 92) dX4_settled_57 (by decide) (by decide) rfl (by decide) ?_
                  refine gz_aload_n dX4_settled_92 rfl rfl ?_
                  refine sgX4_25 hlg rfl dX4_settled_93 ?_
                  refine gz_iload_n dX4_settled_96 rfl rfl ?_
                  refine gz_iald htk ((by have e13 : (13 : Int32).toInt = 13 := rfl; have e0 : (0 : Int32).toInt = 0 := rfl; have e2 : (2 : Int32).toInt = 2 := rfl; have e1 : (1 : Int32).toInt = 1 := rfl; have e6 : (6 : Int32).toInt = 6 := rfl; have em2 : (-2 : Int32).toInt = -2 := rfl; have e6 : (6 : Int32).toInt = 6 := rfl; have e8 : (8 : Int32).toInt = 8 := rfl; have e10 : (10 : Int32).toInt = 10 := rfl; have e18 : (18 : Int32).toInt = 18 := rfl; simp only [fl_lt, fl_le] at c_35 c_49; exact vin_T (rfl : k.toInt = k.toInt) (by omega) (by omega))) dX4_settled_97 ?_
                  refine gz_i2l dX4_settled_98 ?_
                  exact gz_lret rfl dX4_settled_99 (Nat.le_of_ble_eq_true rfl) (Nat.le_of_ble_eq_true rfl) (⟨_, rfl, (show _ = _ from Eq.symm (by unfold stlF; rw [if_neg c_5, if_neg c_15, if_pos c_21, if_neg c_35, if_neg c_43, if_pos c_49, if_neg hw_57_0, if_pos hw_57_1])), rfl⟩)
                ·
                  by_cases hw_57_2 : x = 2
                  ·
                    refine gz_ev (w := .int 2) (congrArg Value.int hw_57_2) ?_
                    refine gz_tableIn (off := 43) (tgt := 100) dX4_settled_57 (by decide) (by decide) rfl (by decide) ?_
                    refine gz_aload_n dX4_settled_100 rfl rfl ?_
                    refine sgX4_28 hlg rfl dX4_settled_101 ?_
                    refine gz_iload_n dX4_settled_104 rfl rfl ?_
                    refine gz_lald ham ((by have e13 : (13 : Int32).toInt = 13 := rfl; have e0 : (0 : Int32).toInt = 0 := rfl; have e2 : (2 : Int32).toInt = 2 := rfl; have e1 : (1 : Int32).toInt = 1 := rfl; have e6 : (6 : Int32).toInt = 6 := rfl; have em2 : (-2 : Int32).toInt = -2 := rfl; have e6 : (6 : Int32).toInt = 6 := rfl; have e8 : (8 : Int32).toInt = 8 := rfl; have e10 : (10 : Int32).toInt = 10 := rfl; have e18 : (18 : Int32).toInt = 18 := rfl; simp only [fl_lt, fl_le] at c_35 c_49; exact vin_T (rfl : k.toInt = k.toInt) (by omega) (by omega))) dX4_settled_105 ?_
                    exact gz_lret rfl dX4_settled_106 (Nat.le_of_ble_eq_true rfl) (Nat.le_of_ble_eq_true rfl) (⟨_, rfl, (show _ = _ from Eq.symm (by unfold stlF; rw [if_neg c_5, if_neg c_15, if_pos c_21, if_neg c_35, if_neg c_43, if_pos c_49, if_neg hw_57_0, if_neg hw_57_1, if_pos hw_57_2])), rfl⟩)
                  ·
                    refine gz_tableOut (tgt := 107) dX4_settled_57 (by have g0 : x.toInt ≠ 0 := fun e => hw_57_0 (Int32.toInt_inj.mp (e.trans rfl)); have g1 : x.toInt ≠ 1 := fun e => hw_57_1 (Int32.toInt_inj.mp (e.trans rfl)); have g2 : x.toInt ≠ 2 := fun e => hw_57_2 (Int32.toInt_inj.mp (e.trans rfl)); omega) (by decide) ?_
                    refine gz_ldc2 (v := (-1000000000000)) wd_274 dX4_settled_107 ?_
                    exact gz_lret rfl dX4_settled_110 (Nat.le_of_ble_eq_true rfl) (Nat.le_of_ble_eq_true rfl) (⟨_, rfl, (show _ = _ from Eq.symm (by unfold stlF; rw [if_neg c_5, if_neg c_15, if_pos c_21, if_neg c_35, if_neg c_43, if_pos c_49, if_neg hw_57_0, if_neg hw_57_1, if_neg hw_57_2])), rfl⟩)
            ·
              refine gz_ldc2 (v := (-1000000000000)) wd_274 dX4_settled_52 ?_
              exact gz_lret rfl dX4_settled_55 (Nat.le_of_ble_eq_true rfl) (Nat.le_of_ble_eq_true rfl) (⟨_, rfl, (show _ = _ from Eq.symm (by unfold stlF; rw [if_neg c_5, if_neg c_15, if_pos c_21, if_neg c_35, if_neg c_43, if_neg c_49])), rfl⟩)
      ·
        refine gz_aload_n dX4_settled_24 rfl rfl ?_
        refine sgX4_15 hlg rfl dX4_settled_25 ?_
        refine gz_iload_n dX4_settled_28 rfl rfl ?_
        refine gz_bipush (v := 10) dX4_settled_29 (by decide) ?_
        refine gz_isub dX4_settled_31 ?_
        refine gz_lald hge ((by have e13 : (13 : Int32).toInt = 13 := rfl; have e0 : (0 : Int32).toInt = 0 := rfl; have e2 : (2 : Int32).toInt = 2 := rfl; have e1 : (1 : Int32).toInt = 1 := rfl; have e6 : (6 : Int32).toInt = 6 := rfl; have em2 : (-2 : Int32).toInt = -2 := rfl; have e6 : (6 : Int32).toInt = 6 := rfl; have e8 : (8 : Int32).toInt = 8 := rfl; have e10 : (10 : Int32).toInt = 10 := rfl; have e18 : (18 : Int32).toInt = 18 := rfl; simp only [fl_lt, fl_le] at c_15 c_21; exact vin_T (T_sub (rfl : x.toInt = x.toInt) e10 (by omega)) (by omega) (by omega))) dX4_settled_32 ?_
        exact gz_lret rfl dX4_settled_33 (Nat.le_of_ble_eq_true rfl) (Nat.le_of_ble_eq_true rfl) (⟨_, rfl, (show _ = _ from Eq.symm (by unfold stlF; rw [if_neg c_5, if_neg c_15, if_neg c_21])), rfl⟩)
  ·
    refine gz_ldc2 (v := (-1000000000000)) wd_274 dX4_settled_8 ?_
    exact gz_lret rfl dX4_settled_11 (Nat.le_of_ble_eq_true rfl) (Nat.le_of_ble_eq_true rfl) (⟨_, rfl, (show _ = _ from Eq.symm (by unfold stlF; rw [if_pos c_5])), rfl⟩)
