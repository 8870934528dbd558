theorem mB_90 {cy : Nat → ClassId} {h : Nat} {f0 : gMem} {a : Nat → Option Nat} {n : Nat → Int32} {z : Nat → Int64} {F : Nat → Nat → Int32} {G : Nat → Nat → Int64} {f : gMem} (hB : mB cy h f0 88 a n z F G f) : mB cy h f0 90 a n z F G f := by
  obtain ⟨h1, h2, h3, h4, h5, h6⟩ := hB
  refine ⟨h1, h2, h3, fun k hk => h4 k (by omega), fun k hk ht => ?_, h6⟩
  rcases Nat.lt_or_ge k 88 with q | q
  · exact h5 k q ht
  · rcases (show k = 88 ∨ k = 89 by omega) with rfl | rfl <;> exact absurd rfl ht
theorem mB_0 {cy : Nat → ClassId} {h : Nat} {n : Nat → Int32} {z : Nat → Int64} {F : Nat → Nat → Int32} {G : Nat → Nat → Int64} {f : gMem} (hm : f h = some (.inr (12, mFo (fun _ => none) n z))) : mB cy h f 0 (fun _ => none) n z F G f :=
  ⟨hm, fun k q hq => (by cases hq), fun i k q hq => (by cases hq), fun _ _ => rfl, fun k hk => (by omega), fr_rf⟩
def mNames : Nat → Int64 := (vp_updL (vp_updL (vp_updL (vp_updL (vp_updL (vp_updL (vp_updL (vp_updL (vp_updL (vp_updL (vp_updL (fun _ => 0) (Int32.toNatClampNeg 0) (31084793196801639)) (Int32.toNatClampNeg 1) (7302757)) (Int32.toNatClampNeg 2) (1734964837)) (Int32.toNatClampNeg 3) (1651471464)) (Int32.toNatClampNeg 4) (28530)) (Int32.toNatClampNeg 5) (1952998766)) (Int32.toNatClampNeg 6) (2003330414)) (Int32.toNatClampNeg 7) (27424540664098149)) (Int32.toNatClampNeg 8) (504364296556)) (Int32.toNatClampNeg 9) (495588568165)) (Int32.toNatClampNeg 10) (6513008))
theorem mNames_ne : ∀ i, i < 11 → mNames i ≠ 0 := fun i hi => match i, hi with
  | 0, _ => by decide
  | 1, _ => by decide
  | 2, _ => by decide
  | 3, _ => by decide
  | 4, _ => by decide
  | 5, _ => by decide
  | 6, _ => by decide
  | 7, _ => by decide
  | 8, _ => by decide
  | 9, _ => by decide
  | 10, _ => by decide
  | i + 11, h => absurd h (by omega)
def mG0 : Nat → Nat → Int64 := fun k => if k = 27 then mNames else fun _ => 0
set_option maxHeartbeats 4000000 in
set_option maxRecDepth 100000 in
theorem l_X12_told {l : Launch} {D : va_G} {cy : Nat → ClassId} {b m : Nat} {a : Nat → Nat} {f0 : gMem} {n : Nat → Int32} {z : Nat → Int64} (ha : ∀ k, mTy k ≠ 0 → f0 (a k) = none) (hn : (∀ k, k ≠ 53 → n k = 0) ∧ n 53 = 1) : ∀ (k : Nat) (x1 : Int32) (F : Nat → Nat → Int32) (f : gMem), mS cy m a f0 n z F mG0 f → x1.toInt = 2400 - (k : Int) → k ≤ 2400 → (∀ i, i < 2400 - k → F 2 i = -10000) → (∀ k, k ≠ 2 → F k = fun _ => 0) → gG l (gRm 1 68 39306) (gQf D b (pV fun f2 => ∃ a n z F G, mS cy m a f0 n z F G f2 ∧ (∀ k, mTy k ≠ 0 → f0 (a k) = none) ∧ (∀ i, i < 2400 → F 2 i = -10000) ∧ (∀ k, k ≠ 2 → k ≠ 54 → F k = fun _ => 0) ∧ (∀ k, k ≠ 53 → n k = 0) ∧ n 53 = 1 ∧ ∀ i, i < 11 → G 27 i ≠ 0) 68 39306) gTt D cy b cX12_init 2 none RX12 "<init>" 68 39306 f 648 [(1, .int x1), (0, .ref m)] [] := by
  intro k
  induction k with
  | zero =>
    intro x1 F f hS hx hk hF hZ
    refine gz_iload_n dX12_init_648 rfl rfl ?_
    refine gz_sipush (v := 2400) dX12_init_649 (by decide) ?_
    refine gz_icmp_ge (tgt := 670) dX12_init_652 (by decide) (fun c_652 => ?_) (fun c_652 => ?_)
    ·
      refine gz_iconst (v := 0) dX12_init_670 (by decide) ?_
      refine gz_istore_n (lv' := [(1, .int 0), (0, .ref m)]) dX12_init_671 rfl (by decide) rfl ?_
      refine gz_iload_n dX12_init_672 rfl rfl ?_
      refine gz_iconst (v := 3) dX12_init_673 (by decide) ?_
      refine gz_icmp_ge (tgt := 690) dX12_init_674 (by decide) (fun c_674 => ?_) (fun c_674 => ?_)
      · exact absurd c_674 (by decide)
      ·
        refine gz_aload_n dX12_init_677 rfl rfl ?_
        refine mg_155 hS dX12_init_678 ?_
        refine gz_iload_n dX12_init_681 rfl rfl ?_
        refine gz_iconst (v := 1) dX12_init_682 (by decide) ?_
        refine m_iast 54 hS rfl (N := 3) rfl (vin_T (v := 0) rfl (by decide) (by decide)) dX12_init_683 (fun f_1 hS_1 => ?_)
        refine gz_iinc (v := 1) (lv' := [(1, .int 1), (0, .ref m)]) dX12_init_684 rfl (by decide) (by decide) rfl ?_
        refine gz_goto (tgt := 672) dX12_init_687 (by decide) ?_
        refine gz_iload_n dX12_init_672 rfl rfl ?_
        refine gz_iconst (v := 3) dX12_init_673 (by decide) ?_
        refine gz_icmp_ge (tgt := 690) dX12_init_674 (by decide) (fun c_674_1 => ?_) (fun c_674_1 => ?_)
        · exact absurd c_674_1 (by decide)
        ·
          refine gz_aload_n dX12_init_677 rfl rfl ?_
          refine mg_155 hS_1 dX12_init_678 ?_
          refine gz_iload_n dX12_init_681 rfl rfl ?_
          refine gz_iconst (v := 1) dX12_init_682 (by decide) ?_
          refine m_iast 54 hS_1 rfl (N := 3) rfl (vin_T (v := 1) rfl (by decide) (by decide)) dX12_init_683 (fun f_2 hS_2 => ?_)
          refine gz_iinc (v := 2) (lv' := [(1, .int 2), (0, .ref m)]) dX12_init_684 rfl (by decide) (by decide) rfl ?_
          refine gz_goto (tgt := 672) dX12_init_687 (by decide) ?_
          refine gz_iload_n dX12_init_672 rfl rfl ?_
          refine gz_iconst (v := 3) dX12_init_673 (by decide) ?_
          refine gz_icmp_ge (tgt := 690) dX12_init_674 (by decide) (fun c_674_2 => ?_) (fun c_674_2 => ?_)
          · exact absurd c_674_2 (by decide)
          ·
            refine gz_aload_n dX12_init_677 rfl rfl ?_
            refine mg_155 hS_2 dX12_init_678 ?_
            refine gz_iload_n dX12_init_681 rfl rfl ?_
            refine gz_iconst (v := 1) dX12_init_682 (by decide) ?_
            refine m_iast 54 hS_2 rfl (N := 3) rfl (vin_T (v := 2) rfl (by decide) (by decide)) dX12_init_683 (fun f_3 hS_3 => ?_)
            refine gz_iinc (v := 3) (lv' := [(1, .int 3), (0, .ref m)]) dX12_init_684 rfl (by decide) (by decide) rfl ?_
            refine gz_goto (tgt := 672) dX12_init_687 (by decide) ?_
            refine gz_iload_n dX12_init_672 rfl rfl ?_
            refine gz_iconst (v := 3) dX12_init_673 (by decide) ?_
            refine gz_icmp_ge (tgt := 690) dX12_init_674 (by decide) (fun c_674_3 => ?_) (fun c_674_3 => ?_)
            ·
              exact gz_vret rfl dX12_init_690 (Nat.le_of_ble_eq_true rfl) (Nat.le_of_ble_eq_true rfl) (⟨rfl, _, _, _, _, _, hS_3, ha, hF, (fun k h2 h54 => (va_up_ne _ _ h54).trans ((va_up_ne _ _ h54).trans ((va_up_ne _ _ h54).trans (hZ k h2)))), hn.1, hn.2, mNames_ne⟩)
            · exact absurd c_674_3 (by decide)
    · exfalso; rw [fl_le] at c_652; have e24 : (2400 : Int32).toInt = 2400 := rfl; omega
  | succ k ih =>
    intro x1 F f hS hx hk hF hZ
    have hi : vp_in x1 2400 := vin_T hx (by omega) (by omega)
    have hc : x1.toNatClampNeg = 2400 - (k + 1) := by have : x1.toNatClampNeg = x1.toInt.toNat := rfl; omega
    refine gz_iload_n dX12_init_648 rfl rfl ?_
    refine gz_sipush (v := 2400) dX12_init_649 (by decide) ?_
    refine gz_icmp_ge (tgt := 670) dX12_init_652 (by decide) (fun c_652 => ?_) (fun c_652 => ?_)
    · exfalso; rw [fl_le] at c_652; have e24 : (2400 : Int32).toInt = 2400 := rfl; omega
    ·
      refine gz_aload_n dX12_init_655 rfl rfl ?_
      refine mg_7 hS dX12_init_656 ?_
      refine gz_iload_n dX12_init_659 rfl rfl ?_
      refine gz_sipush (v := (-10000)) dX12_init_660 (by decide) ?_
      refine m_iast 2 hS rfl (N := 2400) rfl (hi) dX12_init_663 (fun f_4 hS_4 => ?_)
      refine gz_iinc (v := (x1 + 1)) (lv' := [(1, .int (x1 + 1)), (0, .ref m)]) dX12_init_664 rfl rfl (by decide) rfl ?_
      refine gz_goto (tgt := 648) dX12_init_667 (by decide) ?_
      exact ih (x1 + 1) _ _ hS_4 (by have e1 : (1 : Int32).toInt = 1 := rfl; rw [addT (by omega) (by omega)]; omega) (by omega) (by
        intro i hi
        show upd (F 2) x1.toNatClampNeg (-10000) i = -10000
        by_cases h : i = x1.toNatClampNeg
        · simp [upd, h]
        · simp [upd, h]; exact hF i (by omega)) (fun k hk => (va_up_ne _ _ hk).trans (hZ k hk))

set_option maxHeartbeats 4000000 in
set_option maxRecDepth 100000 in
theorem k_X12_init {l : Launch} {D : va_G} {cy : Nat → ClassId} {b : Nat} {f : gMem} {m : Nat}  (hm : f m = some (.inr (12, mFo (fun _ => none) (fun _ => 0) (fun _ => 0)))) : gC l D cy b yX12_init cX12_init 2 none 1 68 39306 [.ref m] f (pV fun f2 => ∃ a n z F G, mS cy m a f n z F G f2 ∧ (∀ k, mTy k ≠ 0 → f (a k) = none) ∧ (∀ i, i < 2400 → F 2 i = -10000) ∧ (∀ k, k ≠ 2 → k ≠ 54 → F k = fun _ => 0) ∧ (∀ k, k ≠ 53 → n k = 0) ∧ n 53 = 1 ∧ ∀ i, i < 11 → G 27 i ≠ 0) := by
  refine gC_of (by decide) (Nat.le_of_ble_eq_true rfl) ?_
  show gG l _ _ _ D cy b cX12_init 2 _ RX12 "<init>" 0 0 f 0 [(0, .ref m)] []
  have hB0 : mB cy m f 0 (fun _ => none) (fun _ => 0) (fun _ => 0) (fun _ _ => 0) mG0 f := mB_0 hm
  refine gz_aload_n dX12_init_0 rfl rfl ?_
  refine scX12_1 (Nat.le_of_ble_eq_true rfl) (Nat.le_of_ble_eq_true rfl) (Nat.le_of_ble_eq_true rfl) dX12_init_1 ?_
  refine gz_aload_n dX12_init_4 rfl rfl ?_
  refine gz_sipush (v := 2400) dX12_init_5 (by decide) ?_
  refine gz_newa0 (N' := 2400) (by decide) (by decide) (by decide) (Nat.le_of_ble_eq_true rfl) (Nat.le_of_ble_eq_true rfl) wd_3 dX12_init_8 (fun q1 hq1 => ?_)
  refine spX12_7 (mB_h hB0 hq1) rfl (Nat.le_of_ble_eq_true rfl) dX12_init_10 ?_
  refine gz_eq (f2 := va_up (va_up f q1 (some (.inl (cy 0, 2400, .inl (fun _ => 0))))) m (some (.inr (12, mFo (va_up (fun _ => none) 2 (some q1)) (fun _ => 0) (fun _ => 0))))) rfl rfl rfl rfl ?_
  have hB1 := mB_alloc (q := q1) (e := .inl (cy 0, 2400, .inl (fun _ => 0))) 2 hB0 hq1 rfl (by decide) (by intro i _ h2 h3; rcases (show i = 0 ∨ i = 1 by omega) with rfl | rfl <;> rfl)
  refine gz_gen (fun g1 hg1 => ?_)
  obtain ⟨a1, ha1⟩ : ∃ aZ : Nat → Option Nat, aZ = va_up (fun _ => none) 2 (some q1) := ⟨_, rfl⟩
  rw [← hg1, ← ha1] at hB1
  refine gz_aload_n dX12_init_13 rfl rfl ?_
  refine gz_sipush (v := 400) dX12_init_14 (by decide) ?_
  refine gz_newa1 (N' := 400) (by decide) (by decide) (by decide) (Nat.le_of_ble_eq_true rfl) (Nat.le_of_ble_eq_true rfl) wd_433 dX12_init_17 (fun q2 hq2 => ?_)
  refine spX12_13 (mB_h hB1 hq2) rfl (Nat.le_of_ble_eq_true rfl) dX12_init_19 ?_
  refine gz_eq (f2 := va_up (va_up g1 q2 (some (.inl (cy 1, 400, .inl (fun _ => 0))))) m (some (.inr (12, mFo (va_up a1 3 (some q2)) (fun _ => 0) (fun _ => 0))))) rfl rfl rfl rfl ?_
  have hB2 := mB_alloc (q := q2) (e := .inl (cy 1, 400, .inl (fun _ => 0))) 3 hB1 hq2 rfl (by decide) (by intro i _ h2 h3; omega)
  refine gz_gen (fun g2 hg2 => ?_)
  obtain ⟨a2, ha2⟩ : ∃ aZ : Nat → Option Nat, aZ = va_up a1 3 (some q2) := ⟨_, rfl⟩
  rw [← hg2, ← ha2] at hB2
  refine gz_aload_n dX12_init_22 rfl rfl ?_
  refine gz_bipush (v := 22) dX12_init_23 (by decide) ?_
  refine gz_newa0 (N' := 22) (by decide) (by decide) (by decide) (Nat.le_of_ble_eq_true rfl) (Nat.le_of_ble_eq_true rfl) wd_3 dX12_init_25 (fun q3 hq3 => ?_)
  refine spX12_17 (mB_h hB2 hq3) rfl (Nat.le_of_ble_eq_true rfl) dX12_init_27 ?_
  refine gz_eq (f2 := va_up (va_up g2 q3 (some (.inl (cy 0, 22, .inl (fun _ => 0))))) m (some (.inr (12, mFo (va_up a2 6 (some q3)) (fun _ => 0) (fun _ => 0))))) rfl rfl rfl rfl ?_
  have hB3 := mB_alloc (q := q3) (e := .inl (cy 0, 22, .inl (fun _ => 0))) 6 hB2 hq3 rfl (by decide) (by intro i _ h2 h3; rcases (show i = 4 ∨ i = 5 by omega) with rfl | rfl <;> rfl)
  refine gz_gen (fun g3 hg3 => ?_)
  obtain ⟨a3, ha3⟩ : ∃ aZ : Nat → Option Nat, aZ = va_up a2 6 (some q3) := ⟨_, rfl⟩
  rw [← hg3, ← ha3] at hB3
  refine gz_aload_n dX12_init_30 rfl rfl ?_
  refine gz_sipush (v := 880) dX12_init_31 (by decide) ?_
  refine gz_newa0 (N' := 880) (by decide) (by decide) (by decide) (Nat.le_of_ble_eq_true rfl) (Nat.le_of_ble_eq_true rfl) wd_3 dX12_init_34 (fun q4 hq4 => ?_)
  refine spX12_20 (mB_h hB3 hq4) rfl (Nat.le_of_ble_eq_true rfl) dX12_init_36 ?_
  refine gz_eq (f2 := va_up (va_up g3 q4 (some (.inl (cy 0, 880, .inl (fun _ => 0))))) m (some (.inr (12, mFo (va_up a3 7 (some q4)) (fun _ => 0) (fun _ => 0))))) rfl rfl rfl rfl ?_
  have hB4 := mB_alloc (q := q4) (e := .inl (cy 0, 880, .inl (fun _ => 0))) 7 hB3 hq4 rfl (by decide) (by intro i _ h2 h3; omega)
  refine gz_gen (fun g4 hg4 => ?_)
  obtain ⟨a4, ha4⟩ : ∃ aZ : Nat → Option Nat, aZ = va_up a3 7 (some q4) := ⟨_, rfl⟩
  rw [← hg4, ← ha4] at hB4
  refine gz_aload_n dX12_init_39 rfl rfl ?_
  refine gz_sipush (v := 880) dX12_init_40 (by decide) ?_
  refine gz_newa0 (N' := 880) (by decide) (by decide) (by decide) (Nat.le_of_ble_eq_true rfl) (Nat.le_of_ble_eq_true rfl) wd_3 dX12_init_43 (fun q5 hq5 => ?_)
  refine spX12_23 (mB_h hB4 hq5) rfl (Nat.le_of_ble_eq_true rfl) dX12_init_45 ?_
  refine gz_eq (f2 := va_up (va_up g4 q5 (some (.inl (cy 0, 880, .inl (fun _ => 0))))) m (some (.inr (12, mFo (va_up a4 8 (some q5)) (fun _ => 0) (fun _ => 0))))) rfl rfl rfl rfl ?_
  have hB5 := mB_alloc (q := q5) (e := .inl (cy 0, 880, .inl (fun _ => 0))) 8 hB4 hq5 rfl (by decide) (by intro i _ h2 h3; omega)
  refine gz_gen (fun g5 hg5 => ?_)
  obtain ⟨a5, ha5⟩ : ∃ aZ : Nat → Option Nat, aZ = va_up a4 8 (some q5) := ⟨_, rfl⟩
  rw [← hg5, ← ha5] at hB5
  refine gz_aload_n dX12_init_48 rfl rfl ?_
  refine gz_sipush (v := 880) dX12_init_49 (by decide) ?_
  refine gz_newa0 (N' := 880) (by decide) (by decide) (by decide) (Nat.le_of_ble_eq_true rfl) (Nat.le_of_ble_eq_true rfl) wd_3 dX12_init_52 (fun q6 hq6 => ?_)
  refine spX12_26 (mB_h hB5 hq6) rfl (Nat.le_of_ble_eq_true rfl) dX12_init_54 ?_
  refine gz_eq (f2 := va_up (va_up g5 q6 (some (.inl (cy 0, 880, .inl (fun _ => 0))))) m (some (.inr (12, mFo (va_up a5 9 (some q6)) (fun _ => 0) (fun _ => 0))))) rfl rfl rfl rfl ?_
  have hB6 := mB_alloc (q := q6) (e := .inl (cy 0, 880, .inl (fun _ => 0))) 9 hB5 hq6 rfl (by decide) (by intro i _ h2 h3; omega)
  refine gz_gen (fun g6 hg6 => ?_)
  obtain ⟨a6, ha6⟩ : ∃ aZ : Nat → Option Nat, aZ = va_up a5 9 (some q6) := ⟨_, rfl⟩
  rw [← hg6, ← ha6] at hB6
  refine gz_aload_n dX12_init_57 rfl rfl ?_
  refine gz_sipush (v := 880) dX12_init_58 (by decide) ?_
  refine gz_newa0 (N' := 880) (by decide) (by decide) (by decide) (Nat.le_of_ble_eq_true rfl) (Nat.le_of_ble_eq_true rfl) wd_3 dX12_init_61 (fun q7 hq7 => ?_)
  refine spX12_29 (mB_h hB6 hq7) rfl (Nat.le_of_ble_eq_true rfl) dX12_init_63 ?_
  refine gz_eq (f2 := va_up (va_up g6 q7 (some (.inl (cy 0, 880, .inl (fun _ => 0))))) m (some (.inr (12, mFo (va_up a6 10 (some q7)) (fun _ => 0) (fun _ => 0))))) rfl rfl rfl rfl ?_
  have hB7 := mB_alloc (q := q7) (e := .inl (cy 0, 880, .inl (fun _ => 0))) 10 hB6 hq7 rfl (by decide) (by intro i _ h2 h3; omega)
  refine gz_gen (fun g7 hg7 => ?_)
  obtain ⟨a7, ha7⟩ : ∃ aZ : Nat → Option Nat, aZ = va_up a6 10 (some q7) := ⟨_, rfl⟩
  rw [← hg7, ← ha7] at hB7
  refine gz_aload_n dX12_init_66 rfl rfl ?_
  refine gz_sipush (v := 880) dX12_init_67 (by decide) ?_
  refine gz_newa0 (N' := 880) (by decide) (by decide) (by decide) (Nat.le_of_ble_eq_true rfl) (Nat.le_of_ble_eq_true rfl) wd_3 dX12_init_70 (fun q8 hq8 => ?_)
  refine spX12_32 (mB_h hB7 hq8) rfl (Nat.le_of_ble_eq_true rfl) dX12_init_72 ?_
  refine gz_eq (f2 := va_up (va_up g7 q8 (some (.inl (cy 0, 880, .inl (fun _ => 0))))) m (some (.inr (12, mFo (va_up a7 11 (some q8)) (fun _ => 0) (fun _ => 0))))) rfl rfl rfl rfl ?_
  have hB8 := mB_alloc (q := q8) (e := .inl (cy 0, 880, .inl (fun _ => 0))) 11 hB7 hq8 rfl (by decide) (by intro i _ h2 h3; omega)
  refine gz_gen (fun g8 hg8 => ?_)
  obtain ⟨a8, ha8⟩ : ∃ aZ : Nat → Option Nat, aZ = va_up a7 11 (some q8) := ⟨_, rfl⟩
  rw [← hg8, ← ha8] at hB8
  refine gz_aload_n dX12_init_75 rfl rfl ?_
  refine gz_sipush (v := 880) dX12_init_76 (by decide) ?_
  refine gz_newa0 (N' := 880) (by decide) (by decide) (by decide) (Nat.le_of_ble_eq_true rfl) (Nat.le_of_ble_eq_true rfl) wd_3 dX12_init_79 (fun q9 hq9 => ?_)
  refine spX12_35 (mB_h hB8 hq9) rfl (Nat.le_of_ble_eq_true rfl) dX12_init_81 ?_
  refine gz_eq (f2 := va_up (va_up g8 q9 (some (.inl (cy 0, 880, .inl (fun _ => 0))))) m (some (.inr (12, mFo (va_up a8 12 (some q9)) (fun _ => 0) (fun _ => 0))))) rfl rfl rfl rfl ?_
  have hB9 := mB_alloc (q := q9) (e := .inl (cy 0, 880, .inl (fun _ => 0))) 12 hB8 hq9 rfl (by decide) (by intro i _ h2 h3; omega)
  refine gz_gen (fun g9 hg9 => ?_)
  obtain ⟨a9, ha9⟩ : ∃ aZ : Nat → Option Nat, aZ = va_up a8 12 (some q9) := ⟨_, rfl⟩
  rw [← hg9, ← ha9] at hB9
  refine gz_aload_n dX12_init_84 rfl rfl ?_
  refine gz_sipush (v := 880) dX12_init_85 (by decide) ?_
  refine gz_newa0 (N' := 880) (by decide) (by decide) (by decide) (Nat.le_of_ble_eq_true rfl) (Nat.le_of_ble_eq_true rfl) wd_3 dX12_init_88 (fun q10 hq10 => ?_)
  refine spX12_38 (mB_h hB9 hq10) rfl (Nat.le_of_ble_eq_true rfl) dX12_init_90 ?_
  refine gz_eq (f2 := va_up (va_up g9 q10 (some (.inl (cy 0, 880, .inl (fun _ => 0))))) m (some (.inr (12, mFo (va_up a9 13 (some q10)) (fun _ => 0) (fun _ => 0))))) rfl rfl rfl rfl ?_
  have hB10 := mB_alloc (q := q10) (e := .inl (cy 0, 880, .inl (fun _ => 0))) 13 hB9 hq10 rfl (by decide) (by intro i _ h2 h3; omega)
  refine gz_gen (fun g10 hg10 => ?_)
  obtain ⟨a10, ha10⟩ : ∃ aZ : Nat → Option Nat, aZ = va_up a9 13 (some q10) := ⟨_, rfl⟩
  rw [← hg10, ← ha10] at hB10
  refine gz_aload_n dX12_init_93 rfl rfl ?_
  refine gz_sipush (v := 880) dX12_init_94 (by decide) ?_
  refine gz_newa0 (N' := 880) (by decide) (by decide) (by decide) (Nat.le_of_ble_eq_true rfl) (Nat.le_of_ble_eq_true rfl) wd_3 dX12_init_97 (fun q11 hq11 => ?_)
  refine spX12_41 (mB_h hB10 hq11) rfl (Nat.le_of_ble_eq_true rfl) dX12_init_99 ?_
  refine gz_eq (f2 := va_up (va_up g10 q11 (some (.inl (cy 0, 880, .inl (fun _ => 0))))) m (some (.inr (12, mFo (va_up a10 14 (some q11)) (fun _ => 0) (fun _ => 0))))) rfl rfl rfl rfl ?_
  have hB11 := mB_alloc (q := q11) (e := .inl (cy 0, 880, .inl (fun _ => 0))) 14 hB10 hq11 rfl (by decide) (by intro i _ h2 h3; omega)
  refine gz_gen (fun g11 hg11 => ?_)
  obtain ⟨a11, ha11⟩ : ∃ aZ : Nat → Option Nat, aZ = va_up a10 14 (some q11) := ⟨_, rfl⟩
  rw [← hg11, ← ha11] at hB11
  refine gz_aload_n dX12_init_102 rfl rfl ?_
  refine gz_sipush (v := 880) dX12_init_103 (by decide) ?_
  refine gz_newa0 (N' := 880) (by decide) (by decide) (by decide) (Nat.le_of_ble_eq_true rfl) (Nat.le_of_ble_eq_true rfl) wd_3 dX12_init_106 (fun q12 hq12 => ?_)
  refine spX12_44 (mB_h hB11 hq12) rfl (Nat.le_of_ble_eq_true rfl) dX12_init_108 ?_
  refine gz_eq (f2 := va_up (va_up g11 q12 (some (.inl (cy 0, 880, .inl (fun _ => 0))))) m (some (.inr (12, mFo (va_up a11 15 (some q12)) (fun _ => 0) (fun _ => 0))))) rfl rfl rfl rfl ?_
  have hB12 := mB_alloc (q := q12) (e := .inl (cy 0, 880, .inl (fun _ => 0))) 15 hB11 hq12 rfl (by decide) (by intro i _ h2 h3; omega)
  refine gz_gen (fun g12 hg12 => ?_)
  obtain ⟨a12, ha12⟩ : ∃ aZ : Nat → Option Nat, aZ = va_up a11 15 (some q12) := ⟨_, rfl⟩
  rw [← hg12, ← ha12] at hB12
  refine gz_aload_n dX12_init_111 rfl rfl ?_
  refine gz_sipush (v := 880) dX12_init_112 (by decide) ?_
  refine gz_newa0 (N' := 880) (by decide) (by decide) (by decide) (Nat.le_of_ble_eq_true rfl) (Nat.le_of_ble_eq_true rfl) wd_3 dX12_init_115 (fun q13 hq13 => ?_)
  refine spX12_47 (mB_h hB12 hq13) rfl (Nat.le_of_ble_eq_true rfl) dX12_init_117 ?_
  refine gz_eq (f2 := va_up (va_up g12 q13 (some (.inl (cy 0, 880, .inl (fun _ => 0))))) m (some (.inr (12, mFo (va_up a12 16 (some q13)) (fun _ => 0) (fun _ => 0))))) rfl rfl rfl rfl ?_
  have hB13 := mB_alloc (q := q13) (e := .inl (cy 0, 880, .inl (fun _ => 0))) 16 hB12 hq13 rfl (by decide) (by intro i _ h2 h3; omega)
  refine gz_gen (fun g13 hg13 => ?_)
  obtain ⟨a13, ha13⟩ : ∃ aZ : Nat → Option Nat, aZ = va_up a12 16 (some q13) := ⟨_, rfl⟩
  rw [← hg13, ← ha13] at hB13
  refine gz_aload_n dX12_init_120 rfl rfl ?_
  refine gz_bipush (v := 22) dX12_init_121 (by decide) ?_
  refine gz_newa0 (N' := 22) (by decide) (by decide) (by decide) (Nat.le_of_ble_eq_true rfl) (Nat.le_of_ble_eq_true rfl) wd_3 dX12_init_123 (fun q14 hq14 => ?_)
  refine spX12_50 (mB_h hB13 hq14) rfl (Nat.le_of_ble_eq_true rfl) dX12_init_125 ?_
  refine gz_eq (f2 := va_up (va_up g13 q14 (some (.inl (cy 0, 22, .inl (fun _ => 0))))) m (some (.inr (12, mFo (va_up a13 17 (some q14)) (fun _ => 0) (fun _ => 0))))) rfl rfl rfl rfl ?_
  have hB14 := mB_alloc (q := q14) (e := .inl (cy 0, 22, .inl (fun _ => 0))) 17 hB13 hq14 rfl (by decide) (by intro i _ h2 h3; omega)
  refine gz_gen (fun g14 hg14 => ?_)
  obtain ⟨a14, ha14⟩ : ∃ aZ : Nat → Option Nat, aZ = va_up a13 17 (some q14) := ⟨_, rfl⟩
  rw [← hg14, ← ha14] at hB14
  refine gz_aload_n dX12_init_128 rfl rfl ?_
  refine gz_sipush (v := 880) dX12_init_129 (by decide) ?_
  refine gz_newa0 (N' := 880) (by decide) (by decide) (by decide) (Nat.le_of_ble_eq_true rfl) (Nat.le_of_ble_eq_true rfl) wd_3 dX12_init_132 (fun q15 hq15 => ?_)
  refine spX12_53 (mB_h hB14 hq15) rfl (Nat.le_of_ble_eq_true rfl) dX12_init_134 ?_
  refine gz_eq (f2 := va_up (va_up g14 q15 (some (.inl (cy 0, 880, .inl (fun _ => 0))))) m (some (.inr (12, mFo (va_up a14 18 (some q15)) (fun _ => 0) (fun _ => 0))))) rfl rfl rfl rfl ?_
  have hB15 := mB_alloc (q := q15) (e := .inl (cy 0, 880, .inl (fun _ => 0))) 18 hB14 hq15 rfl (by decide) (by intro i _ h2 h3; omega)
  refine gz_gen (fun g15 hg15 => ?_)
  obtain ⟨a15, ha15⟩ : ∃ aZ : Nat → Option Nat, aZ = va_up a14 18 (some q15) := ⟨_, rfl⟩
  rw [← hg15, ← ha15] at hB15
  refine gz_aload_n dX12_init_137 rfl rfl ?_
  refine gz_sipush (v := 880) dX12_init_138 (by decide) ?_
  refine gz_newa0 (N' := 880) (by decide) (by decide) (by decide) (Nat.le_of_ble_eq_true rfl) (Nat.le_of_ble_eq_true rfl) wd_3 dX12_init_141 (fun q16 hq16 => ?_)
  refine spX12_56 (mB_h hB15 hq16) rfl (Nat.le_of_ble_eq_true rfl) dX12_init_143 ?_
  refine gz_eq (f2 := va_up (va_up g15 q16 (some (.inl (cy 0, 880, .inl (fun _ => 0))))) m (some (.inr (12, mFo (va_up a15 19 (some q16)) (fun _ => 0) (fun _ => 0))))) rfl rfl rfl rfl ?_
  have hB16 := mB_alloc (q := q16) (e := .inl (cy 0, 880, .inl (fun _ => 0))) 19 hB15 hq16 rfl (by decide) (by intro i _ h2 h3; omega)
  refine gz_gen (fun g16 hg16 => ?_)
  obtain ⟨a16, ha16⟩ : ∃ aZ : Nat → Option Nat, aZ = va_up a15 19 (some q16) := ⟨_, rfl⟩
  rw [← hg16, ← ha16] at hB16
  refine gz_aload_n dX12_init_146 rfl rfl ?_
  refine gz_sipush (v := 880) dX12_init_147 (by decide) ?_
  refine gz_newa0 (N' := 880) (by decide) (by decide) (by decide) (Nat.le_of_ble_eq_true rfl) (Nat.le_of_ble_eq_true rfl) wd_3 dX12_init_150 (fun q17 hq17 => ?_)
  refine spX12_59 (mB_h hB16 hq17) rfl (Nat.le_of_ble_eq_true rfl) dX12_init_152 ?_
  refine gz_eq (f2 := va_up (va_up g16 q17 (some (.inl (cy 0, 880, .inl (fun _ => 0))))) m (some (.inr (12, mFo (va_up a16 20 (some q17)) (fun _ => 0) (fun _ => 0))))) rfl rfl rfl rfl ?_
  have hB17 := mB_alloc (q := q17) (e := .inl (cy 0, 880, .inl (fun _ => 0))) 20 hB16 hq17 rfl (by decide) (by intro i _ h2 h3; omega)
  refine gz_gen (fun g17 hg17 => ?_)
  obtain ⟨a17, ha17⟩ : ∃ aZ : Nat → Option Nat, aZ = va_up a16 20 (some q17) := ⟨_, rfl⟩
  rw [← hg17, ← ha17] at hB17
  refine gz_aload_n dX12_init_155 rfl rfl ?_
  refine gz_bipush (v := 40) dX12_init_156 (by decide) ?_
  refine gz_newa0 (N' := 40) (by decide) (by decide) (by decide) (Nat.le_of_ble_eq_true rfl) (Nat.le_of_ble_eq_true rfl) wd_3 dX12_init_158 (fun q18 hq18 => ?_)
  refine spX12_62 (mB_h hB17 hq18) rfl (Nat.le_of_ble_eq_true rfl) dX12_init_160 ?_
  refine gz_eq (f2 := va_up (va_up g17 q18 (some (.inl (cy 0, 40, .inl (fun _ => 0))))) m (some (.inr (12, mFo (va_up a17 25 (some q18)) (fun _ => 0) (fun _ => 0))))) rfl rfl rfl rfl ?_
  have hB18 := mB_alloc (q := q18) (e := .inl (cy 0, 40, .inl (fun _ => 0))) 25 hB17 hq18 rfl (by decide) (by intro i _ h2 h3; rcases (show i = 21 ∨ i = 22 ∨ i = 23 ∨ i = 24 by omega) with rfl | rfl | rfl | rfl <;> rfl)
  refine gz_gen (fun g18 hg18 => ?_)
  obtain ⟨a18, ha18⟩ : ∃ aZ : Nat → Option Nat, aZ = va_up a17 25 (some q18) := ⟨_, rfl⟩
  rw [← hg18, ← ha18] at hB18
  refine gz_aload_n dX12_init_163 rfl rfl ?_
  refine gz_bipush (v := 40) dX12_init_164 (by decide) ?_
  refine gz_newa0 (N' := 40) (by decide) (by decide) (by decide) (Nat.le_of_ble_eq_true rfl) (Nat.le_of_ble_eq_true rfl) wd_3 dX12_init_166 (fun q19 hq19 => ?_)
  refine spX12_65 (mB_h hB18 hq19) rfl (Nat.le_of_ble_eq_true rfl) dX12_init_168 ?_
  refine gz_eq (f2 := va_up (va_up g18 q19 (some (.inl (cy 0, 40, .inl (fun _ => 0))))) m (some (.inr (12, mFo (va_up a18 26 (some q19)) (fun _ => 0) (fun _ => 0))))) rfl rfl rfl rfl ?_
  have hB19 := mB_alloc (q := q19) (e := .inl (cy 0, 40, .inl (fun _ => 0))) 26 hB18 hq19 rfl (by decide) (by intro i _ h2 h3; omega)
  refine gz_gen (fun g19 hg19 => ?_)
  obtain ⟨a19, ha19⟩ : ∃ aZ : Nat → Option Nat, aZ = va_up a18 26 (some q19) := ⟨_, rfl⟩
  rw [← hg19, ← ha19] at hB19
  refine gz_aload_n dX12_init_171 rfl rfl ?_
  refine gz_bipush (v := 11) dX12_init_172 (by decide) ?_
  refine gz_newa2 (N' := 11) (by decide) (by decide) (by decide) (Nat.le_of_ble_eq_true rfl) (Nat.le_of_ble_eq_true rfl) wd_236 dX12_init_174 (fun q20 hq20 => ?_)
  refine gz_dup dX12_init_176 rfl ?_
  refine gz_iconst (v := 0) dX12_init_177 (by decide) ?_
  refine gz_ldc2 (v := (31084793196801639)) wd_716 dX12_init_178 ?_
  refine gz_last (g0 := (fun _ => 0)) (n := 11) (va_up_self _ _ _) (vin_T (v := 0) rfl (by decide) (by decide)) dX12_init_181 ?_
  refine gz_eq (f2 := va_up g19 q20 (some (.inl (cy 2, 11, .inr (.inl (vp_updL (fun _ => 0) (Int32.toNatClampNeg 0) (31084793196801639))))))) (bx_uu _ _ _ _) rfl rfl rfl ?_
  refine gz_dup dX12_init_182 rfl ?_
  refine gz_iconst (v := 1) dX12_init_183 (by decide) ?_
  refine gz_ldc2 (v := (7302757)) wd_717 dX12_init_184 ?_
  refine gz_last (g0 := (vp_updL (fun _ => 0) (Int32.toNatClampNeg 0) (31084793196801639))) (n := 11) (va_up_self _ _ _) (vin_T (v := 1) rfl (by decide) (by decide)) dX12_init_187 ?_
  refine gz_eq (f2 := va_up g19 q20 (some (.inl (cy 2, 11, .inr (.inl (vp_updL (vp_updL (fun _ => 0) (Int32.toNatClampNeg 0) (31084793196801639)) (Int32.toNatClampNeg 1) (7302757))))))) (bx_uu _ _ _ _) rfl rfl rfl ?_
  refine gz_dup dX12_init_188 rfl ?_
  refine gz_iconst (v := 2) dX12_init_189 (by decide) ?_
  refine gz_ldc2 (v := (1734964837)) wd_718 dX12_init_190 ?_
  refine gz_last (g0 := (vp_updL (vp_updL (fun _ => 0) (Int32.toNatClampNeg 0) (31084793196801639)) (Int32.toNatClampNeg 1) (7302757))) (n := 11) (va_up_self _ _ _) (vin_T (v := 2) rfl (by decide) (by decide)) dX12_init_193 ?_
  refine gz_eq (f2 := va_up g19 q20 (some (.inl (cy 2, 11, .inr (.inl (vp_updL (vp_updL (vp_updL (fun _ => 0) (Int32.toNatClampNeg 0) (31084793196801639)) (Int32.toNatClampNeg 1) (7302757)) (Int32.toNatClampNeg 2) (1734964837))))))) (bx_uu _ _ _ _) rfl rfl rfl ?_
  refine gz_dup dX12_init_194 rfl ?_
  refine gz_iconst (v := 3) dX12_init_195 (by decide) ?_
  refine gz_ldc2 (v := (1651471464)) wd_719 dX12_init_196 ?_
  refine gz_last (g0 := (vp_updL (vp_updL (vp_updL (fun _ => 0) (Int32.toNatClampNeg 0) (31084793196801639)) (Int32.toNatClampNeg 1) (7302757)) (Int32.toNatClampNeg 2) (1734964837))) (n := 11) (va_up_self _ _ _) (vin_T (v := 3) rfl (by decide) (by decide)) dX12_init_199 ?_
  refine gz_eq (f2 := va_up g19 q20 (some (.inl (cy 2, 11, .inr (.inl (vp_updL (vp_updL (vp_updL (vp_updL (fun _ => 0) (Int32.toNatClampNeg 0) (31084793196801639)) (Int32.toNatClampNeg 1) (7302757)) (Int32.toNatClampNeg 2) (1734964837)) (Int32.toNatClampNeg 3) (1651471464))))))) (bx_uu _ _ _ _) rfl rfl rfl ?_
  refine gz_dup dX12_init_200 rfl ?_
  refine gz_iconst (v := 4) dX12_init_201 (by decide) ?_
  refine gz_ldc2 (v := (28530)) wd_720 dX12_init_202 ?_
  refine gz_last (g0 := (vp_updL (vp_updL (vp_updL (vp_updL (fun _ => 0) (Int32.toNatClampNeg 0) (31084793196801639)) (Int32.toNatClampNeg 1) (7302757)) (Int32.toNatClampNeg 2) (1734964837)) (Int32.toNatClampNeg 3) (1651471464))) (n := 11) (va_up_self _ _ _) (vin_T (v := 4) rfl (by decide) (by decide)) dX12_init_205 ?_
  refine gz_eq (f2 := va_up g19 q20 (some (.inl (cy 2, 11, .inr (.inl (vp_updL (vp_updL (vp_updL (vp_updL (vp_updL (fun _ => 0) (Int32.toNatClampNeg 0) (31084793196801639)) (Int32.toNatClampNeg 1) (7302757)) (Int32.toNatClampNeg 2) (1734964837)) (Int32.toNatClampNeg 3) (1651471464)) (Int32.toNatClampNeg 4) (28530))))))) (bx_uu _ _ _ _) rfl rfl rfl ?_
  refine gz_dup dX12_init_206 rfl ?_
  refine gz_iconst (v := 5) dX12_init_207 (by decide) ?_
  refine gz_ldc2 (v := (1952998766)) wd_721 dX12_init_208 ?_
  refine gz_last (g0 := (vp_updL (vp_updL (vp_updL (vp_updL (vp_updL (fun _ => 0) (Int32.toNatClampNeg 0) (31084793196801639)) (Int32.toNatClampNeg 1) (7302757)) (Int32.toNatClampNeg 2) (1734964837)) (Int32.toNatClampNeg 3) (1651471464)) (Int32.toNatClampNeg 4) (28530))) (n := 11) (va_up_self _ _ _) (vin_T (v := 5) rfl (by decide) (by decide)) dX12_init_211 ?_
  refine gz_eq (f2 := va_up g19 q20 (some (.inl (cy 2, 11, .inr (.inl (vp_updL (vp_updL (vp_updL (vp_updL (vp_updL (vp_updL (fun _ => 0) (Int32.toNatClampNeg 0) (31084793196801639)) (Int32.toNatClampNeg 1) (7302757)) (Int32.toNatClampNeg 2) (1734964837)) (Int32.toNatClampNeg 3) (1651471464)) (Int32.toNatClampNeg 4) (28530)) (Int32.toNatClampNeg 5) (1952998766))))))) (bx_uu _ _ _ _) rfl rfl rfl ?_
  refine gz_dup dX12_init_212 rfl ?_
  refine gz_bipush (v := 6) dX12_init_213 (by decide) ?_
  refine gz_ldc2 (v := (2003330414)) wd_722 dX12_init_215 ?_
  refine gz_last (g0 := (vp_updL (vp_updL (vp_updL (vp_updL (vp_updL (vp_updL (fun _ => 0) (Int32.toNatClampNeg 0) (31084793196801639)) (Int32.toNatClampNeg 1) (7302757)) (Int32.toNatClampNeg 2) (1734964837)) (Int32.toNatClampNeg 3) (1651471464)) (Int32.toNatClampNeg 4) (28530)) (Int32.toNatClampNeg 5) (1952998766))) (n := 11) (va_up_self _ _ _) (vin_T (v := 6) rfl (by decide) (by decide)) dX12_init_218 ?_
  refine gz_eq (f2 := va_up g19 q20 (some (.inl (cy 2, 11, .inr (.inl (vp_updL (vp_updL (vp_updL (vp_updL (vp_updL (vp_updL (vp_updL (fun _ => 0) (Int32.toNatClampNeg 0) (31084793196801639)) (Int32.toNatClampNeg 1) (7302757)) (Int32.toNatClampNeg 2) (1734964837)) (Int32.toNatClampNeg 3) (1651471464)) (Int32.toNatClampNeg 4) (28530)) (Int32.toNatClampNeg 5) (1952998766)) (Int32.toNatClampNeg 6) (2003330414))))))) (bx_uu _ _ _ _) rfl rfl rfl ?_
  refine gz_dup dX12_init_219 rfl ?_
  refine gz_bipush (v := 7) dX12_init_220 (by decide) ?_
  refine gz_ldc2 (v := (27424540664098149)) wd_723 dX12_init_222 ?_
  refine gz_last (g0 := (vp_updL (vp_updL (vp_updL (vp_updL (vp_updL (vp_updL (vp_updL (fun _ => 0) (Int32.toNatClampNeg 0) (31084793196801639)) (Int32.toNatClampNeg 1) (7302757)) (Int32.toNatClampNeg 2) (1734964837)) (Int32.toNatClampNeg 3) (1651471464)) (Int32.toNatClampNeg 4) (28530)) (Int32.toNatClampNeg 5) (1952998766)) (Int32.toNatClampNeg 6) (2003330414))) (n := 11) (va_up_self _ _ _) (vin_T (v := 7) rfl (by decide) (by decide)) dX12_init_225 ?_
  refine gz_eq (f2 := va_up g19 q20 (some (.inl (cy 2, 11, .inr (.inl (vp_updL (vp_updL (vp_updL (vp_updL (vp_updL (vp_updL (vp_updL (vp_updL (fun _ => 0) (Int32.toNatClampNeg 0) (31084793196801639)) (Int32.toNatClampNeg 1) (7302757)) (Int32.toNatClampNeg 2) (1734964837)) (Int32.toNatClampNeg 3) (1651471464)) (Int32.toNatClampNeg 4) (28530)) (Int32.toNatClampNeg 5) (1952998766)) (Int32.toNatClampNeg 6) (2003330414)) (Int32.toNatClampNeg 7) (27424540664098149))))))) (bx_uu _ _ _ _) rfl rfl rfl ?_
  refine gz_dup dX12_init_226 rfl ?_
  refine gz_bipush (v := 8) dX12_init_227 (by decide) ?_
  refine gz_ldc2 (v := (504364296556)) wd_724 dX12_init_229 ?_
  refine gz_last (g0 := (vp_updL (vp_updL (vp_updL (vp_updL (vp_updL (vp_updL (vp_updL (vp_updL (fun _ => 0) (Int32.toNatClampNeg 0) (31084793196801639)) (Int32.toNatClampNeg 1) (7302757)) (Int32.toNatClampNeg 2) (1734964837)) (Int32.toNatClampNeg 3) (1651471464)) (Int32.toNatClampNeg 4) (28530)) (Int32.toNatClampNeg 5) (1952998766)) (Int32.toNatClampNeg 6) (2003330414)) (Int32.toNatClampNeg 7) (27424540664098149))) (n := 11) (va_up_self _ _ _) (vin_T (v := 8) rfl (by decide) (by decide)) dX12_init_232 ?_
  refine gz_eq (f2 := va_up g19 q20 (some (.inl (cy 2, 11, .inr (.inl (vp_updL (vp_updL (vp_updL (vp_updL (vp_updL (vp_updL (vp_updL (vp_updL (vp_updL (fun _ => 0) (Int32.toNatClampNeg 0) (31084793196801639)) (Int32.toNatClampNeg 1) (7302757)) (Int32.toNatClampNeg 2) (1734964837)) (Int32.toNatClampNeg 3) (1651471464)) (Int32.toNatClampNeg 4) (28530)) (Int32.toNatClampNeg 5) (1952998766)) (Int32.toNatClampNeg 6) (2003330414)) (Int32.toNatClampNeg 7) (27424540664098149)) (Int32.toNatClampNeg 8) (504364296556))))))) (bx_uu _ _ _ _) rfl rfl rfl ?_
  refine gz_dup dX12_init_233 rfl ?_
  refine gz_bipush (v := 9) dX12_init_234 (by decide) ?_
  refine gz_ldc2 (v := (495588568165)) wd_725 dX12_init_236 ?_
  refine gz_last (g0 := (vp_updL (vp_updL (vp_updL (vp_updL (vp_updL (vp_updL (vp_updL (vp_updL (vp_updL (fun _ => 0) (Int32.toNatClampNeg 0) (31084793196801639)) (Int32.toNatClampNeg 1) (7302757)) (Int32.toNatClampNeg 2) (1734964837)) (Int32.toNatClampNeg 3) (1651471464)) (Int32.toNatClampNeg 4) (28530)) (Int32.toNatClampNeg 5) (1952998766)) (Int32.toNatClampNeg 6) (2003330414)) (Int32.toNatClampNeg 7) (27424540664098149)) (Int32.toNatClampNeg 8) (504364296556))) (n := 11) (va_up_self _ _ _) (vin_T (v := 9) rfl (by decide) (by decide)) dX12_init_239 ?_
  refine gz_eq (f2 := va_up g19 q20 (some (.inl (cy 2, 11, .inr (.inl (vp_updL (vp_updL (vp_updL (vp_updL (vp_updL (vp_updL (vp_updL (vp_updL (vp_updL (vp_updL (fun _ => 0) (Int32.toNatClampNeg 0) (31084793196801639)) (Int32.toNatClampNeg 1) (7302757)) (Int32.toNatClampNeg 2) (1734964837)) (Int32.toNatClampNeg 3) (1651471464)) (Int32.toNatClampNeg 4) (28530)) (Int32.toNatClampNeg 5) (1952998766)) (Int32.toNatClampNeg 6) (2003330414)) (Int32.toNatClampNeg 7) (27424540664098149)) (Int32.toNatClampNeg 8) (504364296556)) (Int32.toNatClampNeg 9) (495588568165))))))) (bx_uu _ _ _ _) rfl rfl rfl ?_
  refine gz_dup dX12_init_240 rfl ?_
  refine gz_bipush (v := 10) dX12_init_241 (by decide) ?_
  refine gz_ldc2 (v := (6513008)) wd_726 dX12_init_243 ?_
  refine gz_last (g0 := (vp_updL (vp_updL (vp_updL (vp_updL (vp_updL (vp_updL (vp_updL (vp_updL (vp_updL (vp_updL (fun _ => 0) (Int32.toNatClampNeg 0) (31084793196801639)) (Int32.toNatClampNeg 1) (7302757)) (Int32.toNatClampNeg 2) (1734964837)) (Int32.toNatClampNeg 3) (1651471464)) (Int32.toNatClampNeg 4) (28530)) (Int32.toNatClampNeg 5) (1952998766)) (Int32.toNatClampNeg 6) (2003330414)) (Int32.toNatClampNeg 7) (27424540664098149)) (Int32.toNatClampNeg 8) (504364296556)) (Int32.toNatClampNeg 9) (495588568165))) (n := 11) (va_up_self _ _ _) (vin_T (v := 10) rfl (by decide) (by decide)) dX12_init_246 ?_
  refine gz_eq (f2 := va_up g19 q20 (some (.inl (cy 2, 11, .inr (.inl (vp_updL (vp_updL (vp_updL (vp_updL (vp_updL (vp_updL (vp_updL (vp_updL (vp_updL (vp_updL (vp_updL (fun _ => 0) (Int32.toNatClampNeg 0) (31084793196801639)) (Int32.toNatClampNeg 1) (7302757)) (Int32.toNatClampNeg 2) (1734964837)) (Int32.toNatClampNeg 3) (1651471464)) (Int32.toNatClampNeg 4) (28530)) (Int32.toNatClampNeg 5) (1952998766)) (Int32.toNatClampNeg 6) (2003330414)) (Int32.toNatClampNeg 7) (27424540664098149)) (Int32.toNatClampNeg 8) (504364296556)) (Int32.toNatClampNeg 9) (495588568165)) (Int32.toNatClampNeg 10) (6513008))))))) (bx_uu _ _ _ _) rfl rfl rfl ?_
  refine spX12_90 (mB_h hB19 hq20) rfl (Nat.le_of_ble_eq_true rfl) dX12_init_247 ?_
  refine gz_eq (f2 := va_up (va_up g19 q20 (some (.inl (cy 2, 11, .inr (.inl (vp_updL (vp_updL (vp_updL (vp_updL (vp_updL (vp_updL (vp_updL (vp_updL (vp_updL (vp_updL (vp_updL (fun _ => 0) (Int32.toNatClampNeg 0) (31084793196801639)) (Int32.toNatClampNeg 1) (7302757)) (Int32.toNatClampNeg 2) (1734964837)) (Int32.toNatClampNeg 3) (1651471464)) (Int32.toNatClampNeg 4) (28530)) (Int32.toNatClampNeg 5) (1952998766)) (Int32.toNatClampNeg 6) (2003330414)) (Int32.toNatClampNeg 7) (27424540664098149)) (Int32.toNatClampNeg 8) (504364296556)) (Int32.toNatClampNeg 9) (495588568165)) (Int32.toNatClampNeg 10) (6513008))))))) m (some (.inr (12, mFo (va_up a19 27 (some q20)) (fun _ => 0) (fun _ => 0))))) rfl rfl rfl rfl ?_
  have hB20 := mB_alloc (q := q20) (e := .inl (cy 2, 11, .inr (.inl (vp_updL (vp_updL (vp_updL (vp_updL (vp_updL (vp_updL (vp_updL (vp_updL (vp_updL (vp_updL (vp_updL (fun _ => 0) (Int32.toNatClampNeg 0) (31084793196801639)) (Int32.toNatClampNeg 1) (7302757)) (Int32.toNatClampNeg 2) (1734964837)) (Int32.toNatClampNeg 3) (1651471464)) (Int32.toNatClampNeg 4) (28530)) (Int32.toNatClampNeg 5) (1952998766)) (Int32.toNatClampNeg 6) (2003330414)) (Int32.toNatClampNeg 7) (27424540664098149)) (Int32.toNatClampNeg 8) (504364296556)) (Int32.toNatClampNeg 9) (495588568165)) (Int32.toNatClampNeg 10) (6513008))))) 27 hB19 hq20 rfl (by decide) (by intro i _ h2 h3; omega)
  refine gz_gen (fun g20 hg20 => ?_)
  obtain ⟨a20, ha20⟩ : ∃ aZ : Nat → Option Nat, aZ = va_up a19 27 (some q20) := ⟨_, rfl⟩
  rw [← hg20, ← ha20] at hB20
  refine gz_aload_n dX12_init_250 rfl rfl ?_
  refine gz_bipush (v := 6) dX12_init_251 (by decide) ?_
  refine gz_newa2 (N' := 6) (by decide) (by decide) (by decide) (Nat.le_of_ble_eq_true rfl) (Nat.le_of_ble_eq_true rfl) wd_236 dX12_init_253 (fun q21 hq21 => ?_)
  refine spX12_94 (mB_h hB20 hq21) rfl (Nat.le_of_ble_eq_true rfl) dX12_init_255 ?_
  refine gz_eq (f2 := va_up (va_up g20 q21 (some (.inl (cy 2, 6, .inr (.inl (fun _ => 0)))))) m (some (.inr (12, mFo (va_up a20 28 (some q21)) (fun _ => 0) (fun _ => 0))))) rfl rfl rfl rfl ?_
  have hB21 := mB_alloc (q := q21) (e := .inl (cy 2, 6, .inr (.inl (fun _ => 0)))) 28 hB20 hq21 rfl (by decide) (by intro i _ h2 h3; omega)
  refine gz_gen (fun g21 hg21 => ?_)
  obtain ⟨a21, ha21⟩ : ∃ aZ : Nat → Option Nat, aZ = va_up a20 28 (some q21) := ⟨_, rfl⟩
  rw [← hg21, ← ha21] at hB21
  refine gz_aload_n dX12_init_258 rfl rfl ?_
  refine gz_bipush (v := 40) dX12_init_259 (by decide) ?_
  refine gz_newa0 (N' := 40) (by decide) (by decide) (by decide) (Nat.le_of_ble_eq_true rfl) (Nat.le_of_ble_eq_true rfl) wd_3 dX12_init_261 (fun q22 hq22 => ?_)
  refine spX12_97 (mB_h hB21 hq22) rfl (Nat.le_of_ble_eq_true rfl) dX12_init_263 ?_
  refine gz_eq (f2 := va_up (va_up g21 q22 (some (.inl (cy 0, 40, .inl (fun _ => 0))))) m (some (.inr (12, mFo (va_up a21 31 (some q22)) (fun _ => 0) (fun _ => 0))))) rfl rfl rfl rfl ?_
  have hB22 := mB_alloc (q := q22) (e := .inl (cy 0, 40, .inl (fun _ => 0))) 31 hB21 hq22 rfl (by decide) (by intro i _ h2 h3; rcases (show i = 29 ∨ i = 30 by omega) with rfl | rfl <;> rfl)
  refine gz_gen (fun g22 hg22 => ?_)
  obtain ⟨a22, ha22⟩ : ∃ aZ : Nat → Option Nat, aZ = va_up a21 31 (some q22) := ⟨_, rfl⟩
  rw [← hg22, ← ha22] at hB22
  refine gz_aload_n dX12_init_266 rfl rfl ?_
  refine gz_bipush (v := 40) dX12_init_267 (by decide) ?_
  refine gz_newa0 (N' := 40) (by decide) (by decide) (by decide) (Nat.le_of_ble_eq_true rfl) (Nat.le_of_ble_eq_true rfl) wd_3 dX12_init_269 (fun q23 hq23 => ?_)
  refine spX12_100 (mB_h hB22 hq23) rfl (Nat.le_of_ble_eq_true rfl) dX12_init_271 ?_
  refine gz_eq (f2 := va_up (va_up g22 q23 (some (.inl (cy 0, 40, .inl (fun _ => 0))))) m (some (.inr (12, mFo (va_up a22 32 (some q23)) (fun _ => 0) (fun _ => 0))))) rfl rfl rfl rfl ?_
  have hB23 := mB_alloc (q := q23) (e := .inl (cy 0, 40, .inl (fun _ => 0))) 32 hB22 hq23 rfl (by decide) (by intro i _ h2 h3; omega)
  refine gz_gen (fun g23 hg23 => ?_)
  obtain ⟨a23, ha23⟩ : ∃ aZ : Nat → Option Nat, aZ = va_up a22 32 (some q23) := ⟨_, rfl⟩
  rw [← hg23, ← ha23] at hB23
  refine gz_aload_n dX12_init_274 rfl rfl ?_
  refine gz_bipush (v := 40) dX12_init_275 (by decide) ?_
  refine gz_newa0 (N' := 40) (by decide) (by decide) (by decide) (Nat.le_of_ble_eq_true rfl) (Nat.le_of_ble_eq_true rfl) wd_3 dX12_init_277 (fun q24 hq24 => ?_)
  refine spX12_103 (mB_h hB23 hq24) rfl (Nat.le_of_ble_eq_true rfl) dX12_init_279 ?_
  refine gz_eq (f2 := va_up (va_up g23 q24 (some (.inl (cy 0, 40, .inl (fun _ => 0))))) m (some (.inr (12, mFo (va_up a23 33 (some q24)) (fun _ => 0) (fun _ => 0))))) rfl rfl rfl rfl ?_
  have hB24 := mB_alloc (q := q24) (e := .inl (cy 0, 40, .inl (fun _ => 0))) 33 hB23 hq24 rfl (by decide) (by intro i _ h2 h3; omega)
  refine gz_gen (fun g24 hg24 => ?_)
  obtain ⟨a24, ha24⟩ : ∃ aZ : Nat → Option Nat, aZ = va_up a23 33 (some q24) := ⟨_, rfl⟩
  rw [← hg24, ← ha24] at hB24
  refine gz_aload_n dX12_init_282 rfl rfl ?_
  refine gz_bipush (v := 40) dX12_init_283 (by decide) ?_
  refine gz_newa2 (N' := 40) (by decide) (by decide) (by decide) (Nat.le_of_ble_eq_true rfl) (Nat.le_of_ble_eq_true rfl) wd_236 dX12_init_285 (fun q25 hq25 => ?_)
  refine spX12_106 (mB_h hB24 hq25) rfl (Nat.le_of_ble_eq_true rfl) dX12_init_287 ?_
  refine gz_eq (f2 := va_up (va_up g24 q25 (some (.inl (cy 2, 40, .inr (.inl (fun _ => 0)))))) m (some (.inr (12, mFo (va_up a24 34 (some q25)) (fun _ => 0) (fun _ => 0))))) rfl rfl rfl rfl ?_
  have hB25 := mB_alloc (q := q25) (e := .inl (cy 2, 40, .inr (.inl (fun _ => 0)))) 34 hB24 hq25 rfl (by decide) (by intro i _ h2 h3; omega)
  refine gz_gen (fun g25 hg25 => ?_)
  obtain ⟨a25, ha25⟩ : ∃ aZ : Nat → Option Nat, aZ = va_up a24 34 (some q25) := ⟨_, rfl⟩
  rw [← hg25, ← ha25] at hB25
  refine gz_aload_n dX12_init_290 rfl rfl ?_
  refine gz_bipush (v := 40) dX12_init_291 (by decide) ?_
  refine gz_newa0 (N' := 40) (by decide) (by decide) (by decide) (Nat.le_of_ble_eq_true rfl) (Nat.le_of_ble_eq_true rfl) wd_3 dX12_init_293 (fun q26 hq26 => ?_)
  refine spX12_109 (mB_h hB25 hq26) rfl (Nat.le_of_ble_eq_true rfl) dX12_init_295 ?_
  refine gz_eq (f2 := va_up (va_up g25 q26 (some (.inl (cy 0, 40, .inl (fun _ => 0))))) m (some (.inr (12, mFo (va_up a25 35 (some q26)) (fun _ => 0) (fun _ => 0))))) rfl rfl rfl rfl ?_
  have hB26 := mB_alloc (q := q26) (e := .inl (cy 0, 40, .inl (fun _ => 0))) 35 hB25 hq26 rfl (by decide) (by intro i _ h2 h3; omega)
  refine gz_gen (fun g26 hg26 => ?_)
  obtain ⟨a26, ha26⟩ : ∃ aZ : Nat → Option Nat, aZ = va_up a25 35 (some q26) := ⟨_, rfl⟩
  rw [← hg26, ← ha26] at hB26
  refine gz_aload_n dX12_init_298 rfl rfl ?_
  refine gz_sipush (v := 1600) dX12_init_299 (by decide) ?_
  refine gz_newa0 (N' := 1600) (by decide) (by decide) (by decide) (Nat.le_of_ble_eq_true rfl) (Nat.le_of_ble_eq_true rfl) wd_3 dX12_init_302 (fun q27 hq27 => ?_)
  refine spX12_112 (mB_h hB26 hq27) rfl (Nat.le_of_ble_eq_true rfl) dX12_init_304 ?_
  refine gz_eq (f2 := va_up (va_up g26 q27 (some (.inl (cy 0, 1600, .inl (fun _ => 0))))) m (some (.inr (12, mFo (va_up a26 36 (some q27)) (fun _ => 0) (fun _ => 0))))) rfl rfl rfl rfl ?_
  have hB27 := mB_alloc (q := q27) (e := .inl (cy 0, 1600, .inl (fun _ => 0))) 36 hB26 hq27 rfl (by decide) (by intro i _ h2 h3; omega)
  refine gz_gen (fun g27 hg27 => ?_)
  obtain ⟨a27, ha27⟩ : ∃ aZ : Nat → Option Nat, aZ = va_up a26 36 (some q27) := ⟨_, rfl⟩
  rw [← hg27, ← ha27] at hB27
  refine gz_aload_n dX12_init_307 rfl rfl ?_
  refine gz_sipush (v := 1600) dX12_init_308 (by decide) ?_
  refine gz_newa2 (N' := 1600) (by decide) (by decide) (by decide) (Nat.le_of_ble_eq_true rfl) (Nat.le_of_ble_eq_true rfl) wd_236 dX12_init_311 (fun q28 hq28 => ?_)
  refine spX12_115 (mB_h hB27 hq28) rfl (Nat.le_of_ble_eq_true rfl) dX12_init_313 ?_
  refine gz_eq (f2 := va_up (va_up g27 q28 (some (.inl (cy 2, 1600, .inr (.inl (fun _ => 0)))))) m (some (.inr (12, mFo (va_up a27 37 (some q28)) (fun _ => 0) (fun _ => 0))))) rfl rfl rfl rfl ?_
  have hB28 := mB_alloc (q := q28) (e := .inl (cy 2, 1600, .inr (.inl (fun _ => 0)))) 37 hB27 hq28 rfl (by decide) (by intro i _ h2 h3; omega)
  refine gz_gen (fun g28 hg28 => ?_)
  obtain ⟨a28, ha28⟩ : ∃ aZ : Nat → Option Nat, aZ = va_up a27 37 (some q28) := ⟨_, rfl⟩
  rw [← hg28, ← ha28] at hB28
  refine gz_aload_n dX12_init_316 rfl rfl ?_
  refine gz_sipush (v := 2000) dX12_init_317 (by decide) ?_
  refine gz_newa0 (N' := 2000) (by decide) (by decide) (by decide) (Nat.le_of_ble_eq_true rfl) (Nat.le_of_ble_eq_true rfl) wd_3 dX12_init_320 (fun q29 hq29 => ?_)
  refine spX12_118 (mB_h hB28 hq29) rfl (Nat.le_of_ble_eq_true rfl) dX12_init_322 ?_
  refine gz_eq (f2 := va_up (va_up g28 q29 (some (.inl (cy 0, 2000, .inl (fun _ => 0))))) m (some (.inr (12, mFo (va_up a28 39 (some q29)) (fun _ => 0) (fun _ => 0))))) rfl rfl rfl rfl ?_
  have hB29 := mB_alloc (q := q29) (e := .inl (cy 0, 2000, .inl (fun _ => 0))) 39 hB28 hq29 rfl (by decide) (by intro i _ h2 h3; rcases (show i = 38 by omega) with rfl <;> rfl)
  refine gz_gen (fun g29 hg29 => ?_)
  obtain ⟨a29, ha29⟩ : ∃ aZ : Nat → Option Nat, aZ = va_up a28 39 (some q29) := ⟨_, rfl⟩
  rw [← hg29, ← ha29] at hB29
  refine gz_aload_n dX12_init_325 rfl rfl ?_
  refine gz_sipush (v := 2000) dX12_init_326 (by decide) ?_
  refine gz_newa0 (N' := 2000) (by decide) (by decide) (by decide) (Nat.le_of_ble_eq_true rfl) (Nat.le_of_ble_eq_true rfl) wd_3 dX12_init_329 (fun q30 hq30 => ?_)
  refine spX12_121 (mB_h hB29 hq30) rfl (Nat.le_of_ble_eq_true rfl) dX12_init_331 ?_
  refine gz_eq (f2 := va_up (va_up g29 q30 (some (.inl (cy 0, 2000, .inl (fun _ => 0))))) m (some (.inr (12, mFo (va_up a29 40 (some q30)) (fun _ => 0) (fun _ => 0))))) rfl rfl rfl rfl ?_
  have hB30 := mB_alloc (q := q30) (e := .inl (cy 0, 2000, .inl (fun _ => 0))) 40 hB29 hq30 rfl (by decide) (by intro i _ h2 h3; omega)
  refine gz_gen (fun g30 hg30 => ?_)
  obtain ⟨a30, ha30⟩ : ∃ aZ : Nat → Option Nat, aZ = va_up a29 40 (some q30) := ⟨_, rfl⟩
  rw [← hg30, ← ha30] at hB30
  refine gz_aload_n dX12_init_334 rfl rfl ?_
  refine gz_sipush (v := 2000) dX12_init_335 (by decide) ?_
  refine gz_newa0 (N' := 2000) (by decide) (by decide) (by decide) (Nat.le_of_ble_eq_true rfl) (Nat.le_of_ble_eq_true rfl) wd_3 dX12_init_338 (fun q31 hq31 => ?_)
  refine spX12_124 (mB_h hB30 hq31) rfl (Nat.le_of_ble_eq_true rfl) dX12_init_340 ?_
  refine gz_eq (f2 := va_up (va_up g30 q31 (some (.inl (cy 0, 2000, .inl (fun _ => 0))))) m (some (.inr (12, mFo (va_up a30 41 (some q31)) (fun _ => 0) (fun _ => 0))))) rfl rfl rfl rfl ?_
  have hB31 := mB_alloc (q := q31) (e := .inl (cy 0, 2000, .inl (fun _ => 0))) 41 hB30 hq31 rfl (by decide) (by intro i _ h2 h3; omega)
  refine gz_gen (fun g31 hg31 => ?_)
  obtain ⟨a31, ha31⟩ : ∃ aZ : Nat → Option Nat, aZ = va_up a30 41 (some q31) := ⟨_, rfl⟩
  rw [← hg31, ← ha31] at hB31
  refine gz_aload_n dX12_init_343 rfl rfl ?_
  refine gz_sipush (v := 2000) dX12_init_344 (by decide) ?_
  refine gz_newa0 (N' := 2000) (by decide) (by decide) (by decide) (Nat.le_of_ble_eq_true rfl) (Nat.le_of_ble_eq_true rfl) wd_3 dX12_init_347 (fun q32 hq32 => ?_)
  refine spX12_127 (mB_h hB31 hq32) rfl (Nat.le_of_ble_eq_true rfl) dX12_init_349 ?_
  refine gz_eq (f2 := va_up (va_up g31 q32 (some (.inl (cy 0, 2000, .inl (fun _ => 0))))) m (some (.inr (12, mFo (va_up a31 42 (some q32)) (fun _ => 0) (fun _ => 0))))) rfl rfl rfl rfl ?_
  have hB32 := mB_alloc (q := q32) (e := .inl (cy 0, 2000, .inl (fun _ => 0))) 42 hB31 hq32 rfl (by decide) (by intro i _ h2 h3; omega)
  refine gz_gen (fun g32 hg32 => ?_)
  obtain ⟨a32, ha32⟩ : ∃ aZ : Nat → Option Nat, aZ = va_up a31 42 (some q32) := ⟨_, rfl⟩
  rw [← hg32, ← ha32] at hB32
  refine gz_aload_n dX12_init_352 rfl rfl ?_
  refine gz_bipush (v := 64) dX12_init_353 (by decide) ?_
  refine gz_newa0 (N' := 64) (by decide) (by decide) (by decide) (Nat.le_of_ble_eq_true rfl) (Nat.le_of_ble_eq_true rfl) wd_3 dX12_init_355 (fun q33 hq33 => ?_)
  refine spX12_130 (mB_h hB32 hq33) rfl (Nat.le_of_ble_eq_true rfl) dX12_init_357 ?_
  refine gz_eq (f2 := va_up (va_up g32 q33 (some (.inl (cy 0, 64, .inl (fun _ => 0))))) m (some (.inr (12, mFo (va_up a32 44 (some q33)) (fun _ => 0) (fun _ => 0))))) rfl rfl rfl rfl ?_
  have hB33 := mB_alloc (q := q33) (e := .inl (cy 0, 64, .inl (fun _ => 0))) 44 hB32 hq33 rfl (by decide) (by intro i _ h2 h3; rcases (show i = 43 by omega) with rfl <;> rfl)
  refine gz_gen (fun g33 hg33 => ?_)
  obtain ⟨a33, ha33⟩ : ∃ aZ : Nat → Option Nat, aZ = va_up a32 44 (some q33) := ⟨_, rfl⟩
  rw [← hg33, ← ha33] at hB33
  refine gz_aload_n dX12_init_360 rfl rfl ?_
  refine gz_bipush (v := 64) dX12_init_361 (by decide) ?_
  refine gz_newa2 (N' := 64) (by decide) (by decide) (by decide) (Nat.le_of_ble_eq_true rfl) (Nat.le_of_ble_eq_true rfl) wd_236 dX12_init_363 (fun q34 hq34 => ?_)
  refine spX12_133 (mB_h hB33 hq34) rfl (Nat.le_of_ble_eq_true rfl) dX12_init_365 ?_
  refine gz_eq (f2 := va_up (va_up g33 q34 (some (.inl (cy 2, 64, .inr (.inl (fun _ => 0)))))) m (some (.inr (12, mFo (va_up a33 45 (some q34)) (fun _ => 0) (fun _ => 0))))) rfl rfl rfl rfl ?_
  have hB34 := mB_alloc (q := q34) (e := .inl (cy 2, 64, .inr (.inl (fun _ => 0)))) 45 hB33 hq34 rfl (by decide) (by intro i _ h2 h3; omega)
  refine gz_gen (fun g34 hg34 => ?_)
  obtain ⟨a34, ha34⟩ : ∃ aZ : Nat → Option Nat, aZ = va_up a33 45 (some q34) := ⟨_, rfl⟩
  rw [← hg34, ← ha34] at hB34
  refine gz_aload_n dX12_init_368 rfl rfl ?_
  refine gz_bipush (v := 8) dX12_init_369 (by decide) ?_
  refine gz_newa0 (N' := 8) (by decide) (by decide) (by decide) (Nat.le_of_ble_eq_true rfl) (Nat.le_of_ble_eq_true rfl) wd_3 dX12_init_371 (fun q35 hq35 => ?_)
  refine spX12_136 (mB_h hB34 hq35) rfl (Nat.le_of_ble_eq_true rfl) dX12_init_373 ?_
  refine gz_eq (f2 := va_up (va_up g34 q35 (some (.inl (cy 0, 8, .inl (fun _ => 0))))) m (some (.inr (12, mFo (va_up a34 48 (some q35)) (fun _ => 0) (fun _ => 0))))) rfl rfl rfl rfl ?_
  have hB35 := mB_alloc (q := q35) (e := .inl (cy 0, 8, .inl (fun _ => 0))) 48 hB34 hq35 rfl (by decide) (by intro i _ h2 h3; rcases (show i = 46 ∨ i = 47 by omega) with rfl | rfl <;> rfl)
  refine gz_gen (fun g35 hg35 => ?_)
  obtain ⟨a35, ha35⟩ : ∃ aZ : Nat → Option Nat, aZ = va_up a34 48 (some q35) := ⟨_, rfl⟩
  rw [← hg35, ← ha35] at hB35
  refine gz_aload_n dX12_init_376 rfl rfl ?_
  refine gz_bipush (v := 8) dX12_init_377 (by decide) ?_
  refine gz_newa0 (N' := 8) (by decide) (by decide) (by decide) (Nat.le_of_ble_eq_true rfl) (Nat.le_of_ble_eq_true rfl) wd_3 dX12_init_379 (fun q36 hq36 => ?_)
  refine spX12_139 (mB_h hB35 hq36) rfl (Nat.le_of_ble_eq_true rfl) dX12_init_381 ?_
  refine gz_eq (f2 := va_up (va_up g35 q36 (some (.inl (cy 0, 8, .inl (fun _ => 0))))) m (some (.inr (12, mFo (va_up a35 49 (some q36)) (fun _ => 0) (fun _ => 0))))) rfl rfl rfl rfl ?_
  have hB36 := mB_alloc (q := q36) (e := .inl (cy 0, 8, .inl (fun _ => 0))) 49 hB35 hq36 rfl (by decide) (by intro i _ h2 h3; omega)
  refine gz_gen (fun g36 hg36 => ?_)
  obtain ⟨a36, ha36⟩ : ∃ aZ : Nat → Option Nat, aZ = va_up a35 49 (some q36) := ⟨_, rfl⟩
  rw [← hg36, ← ha36] at hB36
  refine gz_aload_n dX12_init_384 rfl rfl ?_
  refine gz_bipush (v := 8) dX12_init_385 (by decide) ?_
  refine gz_newa2 (N' := 8) (by decide) (by decide) (by decide) (Nat.le_of_ble_eq_true rfl) (Nat.le_of_ble_eq_true rfl) wd_236 dX12_init_387 (fun q37 hq37 => ?_)
  refine spX12_142 (mB_h hB36 hq37) rfl (Nat.le_of_ble_eq_true rfl) dX12_init_389 ?_
  refine gz_eq (f2 := va_up (va_up g36 q37 (some (.inl (cy 2, 8, .inr (.inl (fun _ => 0)))))) m (some (.inr (12, mFo (va_up a36 50 (some q37)) (fun _ => 0) (fun _ => 0))))) rfl rfl rfl rfl ?_
  have hB37 := mB_alloc (q := q37) (e := .inl (cy 2, 8, .inr (.inl (fun _ => 0)))) 50 hB36 hq37 rfl (by decide) (by intro i _ h2 h3; omega)
  refine gz_gen (fun g37 hg37 => ?_)
  obtain ⟨a37, ha37⟩ : ∃ aZ : Nat → Option Nat, aZ = va_up a36 50 (some q37) := ⟨_, rfl⟩
  rw [← hg37, ← ha37] at hB37
  refine gz_aload_n dX12_init_392 rfl rfl ?_
  refine gz_bipush (v := 8) dX12_init_393 (by decide) ?_
  refine gz_newa2 (N' := 8) (by decide) (by decide) (by decide) (Nat.le_of_ble_eq_true rfl) (Nat.le_of_ble_eq_true rfl) wd_236 dX12_init_395 (fun q38 hq38 => ?_)
  refine spX12_145 (mB_h hB37 hq38) rfl (Nat.le_of_ble_eq_true rfl) dX12_init_397 ?_
  refine gz_eq (f2 := va_up (va_up g37 q38 (some (.inl (cy 2, 8, .inr (.inl (fun _ => 0)))))) m (some (.inr (12, mFo (va_up a37 51 (some q38)) (fun _ => 0) (fun _ => 0))))) rfl rfl rfl rfl ?_
  have hB38 := mB_alloc (q := q38) (e := .inl (cy 2, 8, .inr (.inl (fun _ => 0)))) 51 hB37 hq38 rfl (by decide) (by intro i _ h2 h3; omega)
  refine gz_gen (fun g38 hg38 => ?_)
  obtain ⟨a38, ha38⟩ : ∃ aZ : Nat → Option Nat, aZ = va_up a37 51 (some q38) := ⟨_, rfl⟩
  rw [← hg38, ← ha38] at hB38
  refine gz_aload_n dX12_init_400 rfl rfl ?_
  refine gz_bipush (v := 8) dX12_init_401 (by decide) ?_
  refine gz_newa2 (N' := 8) (by decide) (by decide) (by decide) (Nat.le_of_ble_eq_true rfl) (Nat.le_of_ble_eq_true rfl) wd_236 dX12_init_403 (fun q39 hq39 => ?_)
  refine spX12_148 (mB_h hB38 hq39) rfl (Nat.le_of_ble_eq_true rfl) dX12_init_405 ?_
  refine gz_eq (f2 := va_up (va_up g38 q39 (some (.inl (cy 2, 8, .inr (.inl (fun _ => 0)))))) m (some (.inr (12, mFo (va_up a38 52 (some q39)) (fun _ => 0) (fun _ => 0))))) rfl rfl rfl rfl ?_
  have hB39 := mB_alloc (q := q39) (e := .inl (cy 2, 8, .inr (.inl (fun _ => 0)))) 52 hB38 hq39 rfl (by decide) (by intro i _ h2 h3; omega)
  refine gz_gen (fun g39 hg39 => ?_)
  obtain ⟨a39, ha39⟩ : ∃ aZ : Nat → Option Nat, aZ = va_up a38 52 (some q39) := ⟨_, rfl⟩
  rw [← hg39, ← ha39] at hB39
  refine gz_aload_n dX12_init_408 rfl rfl ?_
  refine gz_iconst (v := 1) dX12_init_409 (by decide) ?_
  refine spX12_151 hB39.1 (Nat.le_of_ble_eq_true rfl) dX12_init_410 ?_
  refine gz_eq (f2 := va_up g39 m (some (.inr (12, mFo a39 (va_up (fun _ => 0) 53 1) (fun _ => 0))))) rfl rfl rfl rfl ?_
  have hB40 := mB_n (n2 := (va_up (fun _ => 0) 53 1)) hB39
  refine gz_gen (fun g40 hg40 => ?_)
  rw [← hg40] at hB40
  refine gz_aload_n dX12_init_413 rfl rfl ?_
  refine gz_iconst (v := 3) dX12_init_414 (by decide) ?_
  refine gz_newa0 (N' := 3) (by decide) (by decide) (by decide) (Nat.le_of_ble_eq_true rfl) (Nat.le_of_ble_eq_true rfl) wd_3 dX12_init_415 (fun q40 hq40 => ?_)
  refine spX12_155 (mB_h hB40 hq40) rfl (Nat.le_of_ble_eq_true rfl) dX12_init_417 ?_
  refine gz_eq (f2 := va_up (va_up g40 q40 (some (.inl (cy 0, 3, .inl (fun _ => 0))))) m (some (.inr (12, mFo (va_up a39 54 (some q40)) (va_up (fun _ => 0) 53 1) (fun _ => 0))))) rfl rfl rfl rfl ?_
  have hB41 := mB_alloc (q := q40) (e := .inl (cy 0, 3, .inl (fun _ => 0))) 54 hB40 hq40 rfl (by decide) (by intro i _ h2 h3; rcases (show i = 53 by omega) with rfl <;> rfl)
  refine gz_gen (fun g41 hg41 => ?_)
  obtain ⟨a41, ha41⟩ : ∃ aZ : Nat → Option Nat, aZ = va_up a39 54 (some q40) := ⟨_, rfl⟩
  rw [← hg41, ← ha41] at hB41
  refine gz_aload_n dX12_init_420 rfl rfl ?_
  refine gz_bipush (v := 18) dX12_init_421 (by decide) ?_
  refine gz_newa0 (N' := 18) (by decide) (by decide) (by decide) (Nat.le_of_ble_eq_true rfl) (Nat.le_of_ble_eq_true rfl) wd_3 dX12_init_423 (fun q41 hq41 => ?_)
  refine spX12_158 (mB_h hB41 hq41) rfl (Nat.le_of_ble_eq_true rfl) dX12_init_425 ?_
  refine gz_eq (f2 := va_up (va_up g41 q41 (some (.inl (cy 0, 18, .inl (fun _ => 0))))) m (some (.inr (12, mFo (va_up a41 55 (some q41)) (va_up (fun _ => 0) 53 1) (fun _ => 0))))) rfl rfl rfl rfl ?_
  have hB42 := mB_alloc (q := q41) (e := .inl (cy 0, 18, .inl (fun _ => 0))) 55 hB41 hq41 rfl (by decide) (by intro i _ h2 h3; omega)
  refine gz_gen (fun g42 hg42 => ?_)
  obtain ⟨a42, ha42⟩ : ∃ aZ : Nat → Option Nat, aZ = va_up a41 55 (some q41) := ⟨_, rfl⟩
  rw [← hg42, ← ha42] at hB42
  refine gz_aload_n dX12_init_428 rfl rfl ?_
  refine gz_bipush (v := 6) dX12_init_429 (by decide) ?_
  refine gz_newa0 (N' := 6) (by decide) (by decide) (by decide) (Nat.le_of_ble_eq_true rfl) (Nat.le_of_ble_eq_true rfl) wd_3 dX12_init_431 (fun q42 hq42 => ?_)
  refine spX12_161 (mB_h hB42 hq42) rfl (Nat.le_of_ble_eq_true rfl) dX12_init_433 ?_
  refine gz_eq (f2 := va_up (va_up g42 q42 (some (.inl (cy 0, 6, .inl (fun _ => 0))))) m (some (.inr (12, mFo (va_up a42 56 (some q42)) (va_up (fun _ => 0) 53 1) (fun _ => 0))))) rfl rfl rfl rfl ?_
  have hB43 := mB_alloc (q := q42) (e := .inl (cy 0, 6, .inl (fun _ => 0))) 56 hB42 hq42 rfl (by decide) (by intro i _ h2 h3; omega)
  refine gz_gen (fun g43 hg43 => ?_)
  obtain ⟨a43, ha43⟩ : ∃ aZ : Nat → Option Nat, aZ = va_up a42 56 (some q42) := ⟨_, rfl⟩
  rw [← hg43, ← ha43] at hB43
  refine gz_aload_n dX12_init_436 rfl rfl ?_
  refine gz_bipush (v := 80) dX12_init_437 (by decide) ?_
  refine gz_newa0 (N' := 80) (by decide) (by decide) (by decide) (Nat.le_of_ble_eq_true rfl) (Nat.le_of_ble_eq_true rfl) wd_3 dX12_init_439 (fun q43 hq43 => ?_)
  refine spX12_164 (mB_h hB43 hq43) rfl (Nat.le_of_ble_eq_true rfl) dX12_init_441 ?_
  refine gz_eq (f2 := va_up (va_up g43 q43 (some (.inl (cy 0, 80, .inl (fun _ => 0))))) m (some (.inr (12, mFo (va_up a43 58 (some q43)) (va_up (fun _ => 0) 53 1) (fun _ => 0))))) rfl rfl rfl rfl ?_
  have hB44 := mB_alloc (q := q43) (e := .inl (cy 0, 80, .inl (fun _ => 0))) 58 hB43 hq43 rfl (by decide) (by intro i _ h2 h3; rcases (show i = 57 by omega) with rfl <;> rfl)
  refine gz_gen (fun g44 hg44 => ?_)
  obtain ⟨a44, ha44⟩ : ∃ aZ : Nat → Option Nat, aZ = va_up a43 58 (some q43) := ⟨_, rfl⟩
  rw [← hg44, ← ha44] at hB44
  refine gz_aload_n dX12_init_444 rfl rfl ?_
  refine gz_bipush (v := 80) dX12_init_445 (by decide) ?_
  refine gz_newa0 (N' := 80) (by decide) (by decide) (by decide) (Nat.le_of_ble_eq_true rfl) (Nat.le_of_ble_eq_true rfl) wd_3 dX12_init_447 (fun q44 hq44 => ?_)
  refine spX12_167 (mB_h hB44 hq44) rfl (Nat.le_of_ble_eq_true rfl) dX12_init_449 ?_
  refine gz_eq (f2 := va_up (va_up g44 q44 (some (.inl (cy 0, 80, .inl (fun _ => 0))))) m (some (.inr (12, mFo (va_up a44 59 (some q44)) (va_up (fun _ => 0) 53 1) (fun _ => 0))))) rfl rfl rfl rfl ?_
  have hB45 := mB_alloc (q := q44) (e := .inl (cy 0, 80, .inl (fun _ => 0))) 59 hB44 hq44 rfl (by decide) (by intro i _ h2 h3; omega)
  refine gz_gen (fun g45 hg45 => ?_)
  obtain ⟨a45, ha45⟩ : ∃ aZ : Nat → Option Nat, aZ = va_up a44 59 (some q44) := ⟨_, rfl⟩
  rw [← hg45, ← ha45] at hB45
  refine gz_aload_n dX12_init_452 rfl rfl ?_
  refine gz_bipush (v := 80) dX12_init_453 (by decide) ?_
  refine gz_newa0 (N' := 80) (by decide) (by decide) (by decide) (Nat.le_of_ble_eq_true rfl) (Nat.le_of_ble_eq_true rfl) wd_3 dX12_init_455 (fun q45 hq45 => ?_)
  refine spX12_170 (mB_h hB45 hq45) rfl (Nat.le_of_ble_eq_true rfl) dX12_init_457 ?_
  refine gz_eq (f2 := va_up (va_up g45 q45 (some (.inl (cy 0, 80, .inl (fun _ => 0))))) m (some (.inr (12, mFo (va_up a45 60 (some q45)) (va_up (fun _ => 0) 53 1) (fun _ => 0))))) rfl rfl rfl rfl ?_
  have hB46 := mB_alloc (q := q45) (e := .inl (cy 0, 80, .inl (fun _ => 0))) 60 hB45 hq45 rfl (by decide) (by intro i _ h2 h3; omega)
  refine gz_gen (fun g46 hg46 => ?_)
  obtain ⟨a46, ha46⟩ : ∃ aZ : Nat → Option Nat, aZ = va_up a45 60 (some q45) := ⟨_, rfl⟩
  rw [← hg46, ← ha46] at hB46
  refine gz_aload_n dX12_init_460 rfl rfl ?_
  refine gz_bipush (v := 80) dX12_init_461 (by decide) ?_
  refine gz_newa2 (N' := 80) (by decide) (by decide) (by decide) (Nat.le_of_ble_eq_true rfl) (Nat.le_of_ble_eq_true rfl) wd_236 dX12_init_463 (fun q46 hq46 => ?_)
  refine spX12_173 (mB_h hB46 hq46) rfl (Nat.le_of_ble_eq_true rfl) dX12_init_465 ?_
  refine gz_eq (f2 := va_up (va_up g46 q46 (some (.inl (cy 2, 80, .inr (.inl (fun _ => 0)))))) m (some (.inr (12, mFo (va_up a46 61 (some q46)) (va_up (fun _ => 0) 53 1) (fun _ => 0))))) rfl rfl rfl rfl ?_
  have hB47 := mB_alloc (q := q46) (e := .inl (cy 2, 80, .inr (.inl (fun _ => 0)))) 61 hB46 hq46 rfl (by decide) (by intro i _ h2 h3; omega)
  refine gz_gen (fun g47 hg47 => ?_)
  obtain ⟨a47, ha47⟩ : ∃ aZ : Nat → Option Nat, aZ = va_up a46 61 (some q46) := ⟨_, rfl⟩
  rw [← hg47, ← ha47] at hB47
  refine gz_aload_n dX12_init_468 rfl rfl ?_
  refine gz_bipush (v := 80) dX12_init_469 (by decide) ?_
  refine gz_newa0 (N' := 80) (by decide) (by decide) (by decide) (Nat.le_of_ble_eq_true rfl) (Nat.le_of_ble_eq_true rfl) wd_3 dX12_init_471 (fun q47 hq47 => ?_)
  refine spX12_176 (mB_h hB47 hq47) rfl (Nat.le_of_ble_eq_true rfl) dX12_init_473 ?_
  refine gz_eq (f2 := va_up (va_up g47 q47 (some (.inl (cy 0, 80, .inl (fun _ => 0))))) m (some (.inr (12, mFo (va_up a47 62 (some q47)) (va_up (fun _ => 0) 53 1) (fun _ => 0))))) rfl rfl rfl rfl ?_
  have hB48 := mB_alloc (q := q47) (e := .inl (cy 0, 80, .inl (fun _ => 0))) 62 hB47 hq47 rfl (by decide) (by intro i _ h2 h3; omega)
  refine gz_gen (fun g48 hg48 => ?_)
  obtain ⟨a48, ha48⟩ : ∃ aZ : Nat → Option Nat, aZ = va_up a47 62 (some q47) := ⟨_, rfl⟩
  rw [← hg48, ← ha48] at hB48
  refine gz_aload_n dX12_init_476 rfl rfl ?_
  refine gz_bipush (v := 80) dX12_init_477 (by decide) ?_
  refine gz_newa2 (N' := 80) (by decide) (by decide) (by decide) (Nat.le_of_ble_eq_true rfl) (Nat.le_of_ble_eq_true rfl) wd_236 dX12_init_479 (fun q48 hq48 => ?_)
  refine spX12_179 (mB_h hB48 hq48) rfl (Nat.le_of_ble_eq_true rfl) dX12_init_481 ?_
  refine gz_eq (f2 := va_up (va_up g48 q48 (some (.inl (cy 2, 80, .inr (.inl (fun _ => 0)))))) m (some (.inr (12, mFo (va_up a48 63 (some q48)) (va_up (fun _ => 0) 53 1) (fun _ => 0))))) rfl rfl rfl rfl ?_
  have hB49 := mB_alloc (q := q48) (e := .inl (cy 2, 80, .inr (.inl (fun _ => 0)))) 63 hB48 hq48 rfl (by decide) (by intro i _ h2 h3; omega)
  refine gz_gen (fun g49 hg49 => ?_)
  obtain ⟨a49, ha49⟩ : ∃ aZ : Nat → Option Nat, aZ = va_up a48 63 (some q48) := ⟨_, rfl⟩
  rw [← hg49, ← ha49] at hB49
  refine gz_aload_n dX12_init_484 rfl rfl ?_
  refine gz_bipush (v := 80) dX12_init_485 (by decide) ?_
  refine gz_newa3 (N' := 80) (by decide) (by decide) (by decide) (Nat.le_of_ble_eq_true rfl) (Nat.le_of_ble_eq_true rfl) wd_757 dX12_init_487 (fun q49 hq49 => ?_)
  refine spX12_182 (mB_h hB49 hq49) rfl (Nat.le_of_ble_eq_true rfl) dX12_init_489 ?_
  refine gz_eq (f2 := va_up (va_up g49 q49 (some (.inl (cy 3, 80, .inl (fun _ => 0))))) m (some (.inr (12, mFo (va_up a49 64 (some q49)) (va_up (fun _ => 0) 53 1) (fun _ => 0))))) rfl rfl rfl rfl ?_
  have hB50 := mB_alloc (q := q49) (e := .inl (cy 3, 80, .inl (fun _ => 0))) 64 hB49 hq49 rfl (by decide) (by intro i _ h2 h3; omega)
  refine gz_gen (fun g50 hg50 => ?_)
  obtain ⟨a50, ha50⟩ : ∃ aZ : Nat → Option Nat, aZ = va_up a49 64 (some q49) := ⟨_, rfl⟩
  rw [← hg50, ← ha50] at hB50
  refine gz_aload_n dX12_init_492 rfl rfl ?_
  refine gz_bipush (v := 80) dX12_init_493 (by decide) ?_
  refine gz_newa2 (N' := 80) (by decide) (by decide) (by decide) (Nat.le_of_ble_eq_true rfl) (Nat.le_of_ble_eq_true rfl) wd_236 dX12_init_495 (fun q50 hq50 => ?_)
  refine spX12_186 (mB_h hB50 hq50) rfl (Nat.le_of_ble_eq_true rfl) dX12_init_497 ?_
  refine gz_eq (f2 := va_up (va_up g50 q50 (some (.inl (cy 2, 80, .inr (.inl (fun _ => 0)))))) m (some (.inr (12, mFo (va_up a50 65 (some q50)) (va_up (fun _ => 0) 53 1) (fun _ => 0))))) rfl rfl rfl rfl ?_
  have hB51 := mB_alloc (q := q50) (e := .inl (cy 2, 80, .inr (.inl (fun _ => 0)))) 65 hB50 hq50 rfl (by decide) (by intro i _ h2 h3; omega)
  refine gz_gen (fun g51 hg51 => ?_)
  obtain ⟨a51, ha51⟩ : ∃ aZ : Nat → Option Nat, aZ = va_up a50 65 (some q50) := ⟨_, rfl⟩
  rw [← hg51, ← ha51] at hB51
  refine gz_aload_n dX12_init_500 rfl rfl ?_
  refine gz_bipush (v := 80) dX12_init_501 (by decide) ?_
  refine gz_newa0 (N' := 80) (by decide) (by decide) (by decide) (Nat.le_of_ble_eq_true rfl) (Nat.le_of_ble_eq_true rfl) wd_3 dX12_init_503 (fun q51 hq51 => ?_)
  refine spX12_189 (mB_h hB51 hq51) rfl (Nat.le_of_ble_eq_true rfl) dX12_init_505 ?_
  refine gz_eq (f2 := va_up (va_up g51 q51 (some (.inl (cy 0, 80, .inl (fun _ => 0))))) m (some (.inr (12, mFo (va_up a51 66 (some q51)) (va_up (fun _ => 0) 53 1) (fun _ => 0))))) rfl rfl rfl rfl ?_
  have hB52 := mB_alloc (q := q51) (e := .inl (cy 0, 80, .inl (fun _ => 0))) 66 hB51 hq51 rfl (by decide) (by intro i _ h2 h3; omega)
  refine gz_gen (fun g52 hg52 => ?_)
  obtain ⟨a52, ha52⟩ : ∃ aZ : Nat → Option Nat, aZ = va_up a51 66 (some q51) := ⟨_, rfl⟩
  rw [← hg52, ← ha52] at hB52
  refine gz_aload_n dX12_init_508 rfl rfl ?_
  refine gz_bipush (v := 13) dX12_init_509 (by decide) ?_
  refine gz_newa0 (N' := 13) (by decide) (by decide) (by decide) (Nat.le_of_ble_eq_true rfl) (Nat.le_of_ble_eq_true rfl) wd_3 dX12_init_511 (fun q52 hq52 => ?_)
  refine spX12_192 (mB_h hB52 hq52) rfl (Nat.le_of_ble_eq_true rfl) dX12_init_513 ?_
  refine gz_eq (f2 := va_up (va_up g52 q52 (some (.inl (cy 0, 13, .inl (fun _ => 0))))) m (some (.inr (12, mFo (va_up a52 68 (some q52)) (va_up (fun _ => 0) 53 1) (fun _ => 0))))) rfl rfl rfl rfl ?_
  have hB53 := mB_alloc (q := q52) (e := .inl (cy 0, 13, .inl (fun _ => 0))) 68 hB52 hq52 rfl (by decide) (by intro i _ h2 h3; rcases (show i = 67 by omega) with rfl <;> rfl)
  refine gz_gen (fun g53 hg53 => ?_)
  obtain ⟨a53, ha53⟩ : ∃ aZ : Nat → Option Nat, aZ = va_up a52 68 (some q52) := ⟨_, rfl⟩
  rw [← hg53, ← ha53] at hB53
  refine gz_aload_n dX12_init_516 rfl rfl ?_
  refine gz_sipush (v := 5265) dX12_init_517 (by decide) ?_
  refine gz_newa3 (N' := 5265) (by decide) (by decide) (by decide) (Nat.le_of_ble_eq_true rfl) (Nat.le_of_ble_eq_true rfl) wd_757 dX12_init_520 (fun q53 hq53 => ?_)
  refine spX12_195 (mB_h hB53 hq53) rfl (Nat.le_of_ble_eq_true rfl) dX12_init_522 ?_
  refine gz_eq (f2 := va_up (va_up g53 q53 (some (.inl (cy 3, 5265, .inl (fun _ => 0))))) m (some (.inr (12, mFo (va_up a53 69 (some q53)) (va_up (fun _ => 0) 53 1) (fun _ => 0))))) rfl rfl rfl rfl ?_
  have hB54 := mB_alloc (q := q53) (e := .inl (cy 3, 5265, .inl (fun _ => 0))) 69 hB53 hq53 rfl (by decide) (by intro i _ h2 h3; omega)
  refine gz_gen (fun g54 hg54 => ?_)
  obtain ⟨a54, ha54⟩ : ∃ aZ : Nat → Option Nat, aZ = va_up a53 69 (some q53) := ⟨_, rfl⟩
  rw [← hg54, ← ha54] at hB54
  refine gz_aload_n dX12_init_525 rfl rfl ?_
  refine gz_sipush (v := 5265) dX12_init_526 (by decide) ?_
  refine gz_newa0 (N' := 5265) (by decide) (by decide) (by decide) (Nat.le_of_ble_eq_true rfl) (Nat.le_of_ble_eq_true rfl) wd_3 dX12_init_529 (fun q54 hq54 => ?_)
  refine spX12_198 (mB_h hB54 hq54) rfl (Nat.le_of_ble_eq_true rfl) dX12_init_531 ?_
  refine gz_eq (f2 := va_up (va_up g54 q54 (some (.inl (cy 0, 5265, .inl (fun _ => 0))))) m (some (.inr (12, mFo (va_up a54 71 (some q54)) (va_up (fun _ => 0) 53 1) (fun _ => 0))))) rfl rfl rfl rfl ?_
  have hB55 := mB_alloc (q := q54) (e := .inl (cy 0, 5265, .inl (fun _ => 0))) 71 hB54 hq54 rfl (by decide) (by intro i _ h2 h3; rcases (show i = 70 by omega) with rfl <;> rfl)
  refine gz_gen (fun g55 hg55 => ?_)
  obtain ⟨a55, ha55⟩ : ∃ aZ : Nat → Option Nat, aZ = va_up a54 71 (some q54) := ⟨_, rfl⟩
  rw [← hg55, ← ha55] at hB55
  refine gz_aload_n dX12_init_534 rfl rfl ?_
  refine gz_bipush (v := 64) dX12_init_535 (by decide) ?_
  refine gz_newa0 (N' := 64) (by decide) (by decide) (by decide) (Nat.le_of_ble_eq_true rfl) (Nat.le_of_ble_eq_true rfl) wd_3 dX12_init_537 (fun q55 hq55 => ?_)
  refine spX12_201 (mB_h hB55 hq55) rfl (Nat.le_of_ble_eq_true rfl) dX12_init_539 ?_
  refine gz_eq (f2 := va_up (va_up g55 q55 (some (.inl (cy 0, 64, .inl (fun _ => 0))))) m (some (.inr (12, mFo (va_up a55 73 (some q55)) (va_up (fun _ => 0) 53 1) (fun _ => 0))))) rfl rfl rfl rfl ?_
  have hB56 := mB_alloc (q := q55) (e := .inl (cy 0, 64, .inl (fun _ => 0))) 73 hB55 hq55 rfl (by decide) (by intro i _ h2 h3; rcases (show i = 72 by omega) with rfl <;> rfl)
  refine gz_gen (fun g56 hg56 => ?_)
  obtain ⟨a56, ha56⟩ : ∃ aZ : Nat → Option Nat, aZ = va_up a55 73 (some q55) := ⟨_, rfl⟩
  rw [← hg56, ← ha56] at hB56
  refine gz_aload_n dX12_init_542 rfl rfl ?_
  refine gz_bipush (v := 64) dX12_init_543 (by decide) ?_
  refine gz_newa2 (N' := 64) (by decide) (by decide) (by decide) (Nat.le_of_ble_eq_true rfl) (Nat.le_of_ble_eq_true rfl) wd_236 dX12_init_545 (fun q56 hq56 => ?_)
  refine spX12_204 (mB_h hB56 hq56) rfl (Nat.le_of_ble_eq_true rfl) dX12_init_547 ?_
  refine gz_eq (f2 := va_up (va_up g56 q56 (some (.inl (cy 2, 64, .inr (.inl (fun _ => 0)))))) m (some (.inr (12, mFo (va_up a56 74 (some q56)) (va_up (fun _ => 0) 53 1) (fun _ => 0))))) rfl rfl rfl rfl ?_
  have hB57 := mB_alloc (q := q56) (e := .inl (cy 2, 64, .inr (.inl (fun _ => 0)))) 74 hB56 hq56 rfl (by decide) (by intro i _ h2 h3; omega)
  refine gz_gen (fun g57 hg57 => ?_)
  obtain ⟨a57, ha57⟩ : ∃ aZ : Nat → Option Nat, aZ = va_up a56 74 (some q56) := ⟨_, rfl⟩
  rw [← hg57, ← ha57] at hB57
  refine gz_aload_n dX12_init_550 rfl rfl ?_
  refine gz_iconst (v := 5) dX12_init_551 (by decide) ?_
  refine gz_newa2 (N' := 5) (by decide) (by decide) (by decide) (Nat.le_of_ble_eq_true rfl) (Nat.le_of_ble_eq_true rfl) wd_236 dX12_init_552 (fun q57 hq57 => ?_)
  refine spX12_207 (mB_h hB57 hq57) rfl (Nat.le_of_ble_eq_true rfl) dX12_init_554 ?_
  refine gz_eq (f2 := va_up (va_up g57 q57 (some (.inl (cy 2, 5, .inr (.inl (fun _ => 0)))))) m (some (.inr (12, mFo (va_up a57 75 (some q57)) (va_up (fun _ => 0) 53 1) (fun _ => 0))))) rfl rfl rfl rfl ?_
  have hB58 := mB_alloc (q := q57) (e := .inl (cy 2, 5, .inr (.inl (fun _ => 0)))) 75 hB57 hq57 rfl (by decide) (by intro i _ h2 h3; omega)
  refine gz_gen (fun g58 hg58 => ?_)
  obtain ⟨a58, ha58⟩ : ∃ aZ : Nat → Option Nat, aZ = va_up a57 75 (some q57) := ⟨_, rfl⟩
  rw [← hg58, ← ha58] at hB58
  refine gz_aload_n dX12_init_557 rfl rfl ?_
  refine gz_bipush (v := 82) dX12_init_558 (by decide) ?_
  refine gz_newa0 (N' := 82) (by decide) (by decide) (by decide) (Nat.le_of_ble_eq_true rfl) (Nat.le_of_ble_eq_true rfl) wd_3 dX12_init_560 (fun q58 hq58 => ?_)
  refine spX12_210 (mB_h hB58 hq58) rfl (Nat.le_of_ble_eq_true rfl) dX12_init_562 ?_
  refine gz_eq (f2 := va_up (va_up g58 q58 (some (.inl (cy 0, 82, .inl (fun _ => 0))))) m (some (.inr (12, mFo (va_up a58 76 (some q58)) (va_up (fun _ => 0) 53 1) (fun _ => 0))))) rfl rfl rfl rfl ?_
  have hB59 := mB_alloc (q := q58) (e := .inl (cy 0, 82, .inl (fun _ => 0))) 76 hB58 hq58 rfl (by decide) (by intro i _ h2 h3; omega)
  refine gz_gen (fun g59 hg59 => ?_)
  obtain ⟨a59, ha59⟩ : ∃ aZ : Nat → Option Nat, aZ = va_up a58 76 (some q58) := ⟨_, rfl⟩
  rw [← hg59, ← ha59] at hB59
  refine gz_aload_n dX12_init_565 rfl rfl ?_
  refine gz_bipush (v := 82) dX12_init_566 (by decide) ?_
  refine gz_newa0 (N' := 82) (by decide) (by decide) (by decide) (Nat.le_of_ble_eq_true rfl) (Nat.le_of_ble_eq_true rfl) wd_3 dX12_init_568 (fun q59 hq59 => ?_)
  refine spX12_213 (mB_h hB59 hq59) rfl (Nat.le_of_ble_eq_true rfl) dX12_init_570 ?_
  refine gz_eq (f2 := va_up (va_up g59 q59 (some (.inl (cy 0, 82, .inl (fun _ => 0))))) m (some (.inr (12, mFo (va_up a59 77 (some q59)) (va_up (fun _ => 0) 53 1) (fun _ => 0))))) rfl rfl rfl rfl ?_
  have hB60 := mB_alloc (q := q59) (e := .inl (cy 0, 82, .inl (fun _ => 0))) 77 hB59 hq59 rfl (by decide) (by intro i _ h2 h3; omega)
  refine gz_gen (fun g60 hg60 => ?_)
  obtain ⟨a60, ha60⟩ : ∃ aZ : Nat → Option Nat, aZ = va_up a59 77 (some q59) := ⟨_, rfl⟩
  rw [← hg60, ← ha60] at hB60
  refine gz_aload_n dX12_init_573 rfl rfl ?_
  refine gz_bipush (v := 82) dX12_init_574 (by decide) ?_
  refine gz_newa0 (N' := 82) (by decide) (by decide) (by decide) (Nat.le_of_ble_eq_true rfl) (Nat.le_of_ble_eq_true rfl) wd_3 dX12_init_576 (fun q60 hq60 => ?_)
  refine spX12_216 (mB_h hB60 hq60) rfl (Nat.le_of_ble_eq_true rfl) dX12_init_578 ?_
  refine gz_eq (f2 := va_up (va_up g60 q60 (some (.inl (cy 0, 82, .inl (fun _ => 0))))) m (some (.inr (12, mFo (va_up a60 78 (some q60)) (va_up (fun _ => 0) 53 1) (fun _ => 0))))) rfl rfl rfl rfl ?_
  have hB61 := mB_alloc (q := q60) (e := .inl (cy 0, 82, .inl (fun _ => 0))) 78 hB60 hq60 rfl (by decide) (by intro i _ h2 h3; omega)
  refine gz_gen (fun g61 hg61 => ?_)
  obtain ⟨a61, ha61⟩ : ∃ aZ : Nat → Option Nat, aZ = va_up a60 78 (some q60) := ⟨_, rfl⟩
  rw [← hg61, ← ha61] at hB61
  refine gz_aload_n dX12_init_581 rfl rfl ?_
  refine gz_bipush (v := 82) dX12_init_582 (by decide) ?_
  refine gz_newa0 (N' := 82) (by decide) (by decide) (by decide) (Nat.le_of_ble_eq_true rfl) (Nat.le_of_ble_eq_true rfl) wd_3 dX12_init_584 (fun q61 hq61 => ?_)
  refine spX12_219 (mB_h hB61 hq61) rfl (Nat.le_of_ble_eq_true rfl) dX12_init_586 ?_
  refine gz_eq (f2 := va_up (va_up g61 q61 (some (.inl (cy 0, 82, .inl (fun _ => 0))))) m (some (.inr (12, mFo (va_up a61 79 (some q61)) (va_up (fun _ => 0) 53 1) (fun _ => 0))))) rfl rfl rfl rfl ?_
  have hB62 := mB_alloc (q := q61) (e := .inl (cy 0, 82, .inl (fun _ => 0))) 79 hB61 hq61 rfl (by decide) (by intro i _ h2 h3; omega)
  refine gz_gen (fun g62 hg62 => ?_)
  obtain ⟨a62, ha62⟩ : ∃ aZ : Nat → Option Nat, aZ = va_up a61 79 (some q61) := ⟨_, rfl⟩
  rw [← hg62, ← ha62] at hB62
  refine gz_aload_n dX12_init_589 rfl rfl ?_
  refine gz_bipush (v := 82) dX12_init_590 (by decide) ?_
  refine gz_newa0 (N' := 82) (by decide) (by decide) (by decide) (Nat.le_of_ble_eq_true rfl) (Nat.le_of_ble_eq_true rfl) wd_3 dX12_init_592 (fun q62 hq62 => ?_)
  refine spX12_222 (mB_h hB62 hq62) rfl (Nat.le_of_ble_eq_true rfl) dX12_init_594 ?_
  refine gz_eq (f2 := va_up (va_up g62 q62 (some (.inl (cy 0, 82, .inl (fun _ => 0))))) m (some (.inr (12, mFo (va_up a62 80 (some q62)) (va_up (fun _ => 0) 53 1) (fun _ => 0))))) rfl rfl rfl rfl ?_
  have hB63 := mB_alloc (q := q62) (e := .inl (cy 0, 82, .inl (fun _ => 0))) 80 hB62 hq62 rfl (by decide) (by intro i _ h2 h3; omega)
  refine gz_gen (fun g63 hg63 => ?_)
  obtain ⟨a63, ha63⟩ : ∃ aZ : Nat → Option Nat, aZ = va_up a62 80 (some q62) := ⟨_, rfl⟩
  rw [← hg63, ← ha63] at hB63
  refine gz_aload_n dX12_init_597 rfl rfl ?_
  refine gz_bipush (v := 82) dX12_init_598 (by decide) ?_
  refine gz_newa0 (N' := 82) (by decide) (by decide) (by decide) (Nat.le_of_ble_eq_true rfl) (Nat.le_of_ble_eq_true rfl) wd_3 dX12_init_600 (fun q63 hq63 => ?_)
  refine spX12_225 (mB_h hB63 hq63) rfl (Nat.le_of_ble_eq_true rfl) dX12_init_602 ?_
  refine gz_eq (f2 := va_up (va_up g63 q63 (some (.inl (cy 0, 82, .inl (fun _ => 0))))) m (some (.inr (12, mFo (va_up a63 81 (some q63)) (va_up (fun _ => 0) 53 1) (fun _ => 0))))) rfl rfl rfl rfl ?_
  have hB64 := mB_alloc (q := q63) (e := .inl (cy 0, 82, .inl (fun _ => 0))) 81 hB63 hq63 rfl (by decide) (by intro i _ h2 h3; omega)
  refine gz_gen (fun g64 hg64 => ?_)
  obtain ⟨a64, ha64⟩ : ∃ aZ : Nat → Option Nat, aZ = va_up a63 81 (some q63) := ⟨_, rfl⟩
  rw [← hg64, ← ha64] at hB64
  refine gz_aload_n dX12_init_605 rfl rfl ?_
  refine gz_bipush (v := 82) dX12_init_606 (by decide) ?_
  refine gz_newa0 (N' := 82) (by decide) (by decide) (by decide) (Nat.le_of_ble_eq_true rfl) (Nat.le_of_ble_eq_true rfl) wd_3 dX12_init_608 (fun q64 hq64 => ?_)
  refine spX12_228 (mB_h hB64 hq64) rfl (Nat.le_of_ble_eq_true rfl) dX12_init_610 ?_
  refine gz_eq (f2 := va_up (va_up g64 q64 (some (.inl (cy 0, 82, .inl (fun _ => 0))))) m (some (.inr (12, mFo (va_up a64 82 (some q64)) (va_up (fun _ => 0) 53 1) (fun _ => 0))))) rfl rfl rfl rfl ?_
  have hB65 := mB_alloc (q := q64) (e := .inl (cy 0, 82, .inl (fun _ => 0))) 82 hB64 hq64 rfl (by decide) (by intro i _ h2 h3; omega)
  refine gz_gen (fun g65 hg65 => ?_)
  obtain ⟨a65, ha65⟩ : ∃ aZ : Nat → Option Nat, aZ = va_up a64 82 (some q64) := ⟨_, rfl⟩
  rw [← hg65, ← ha65] at hB65
  refine gz_aload_n dX12_init_613 rfl rfl ?_
  refine gz_bipush (v := 120) dX12_init_614 (by decide) ?_
  refine gz_newa0 (N' := 120) (by decide) (by decide) (by decide) (Nat.le_of_ble_eq_true rfl) (Nat.le_of_ble_eq_true rfl) wd_3 dX12_init_616 (fun q65 hq65 => ?_)
  refine spX12_231 (mB_h hB65 hq65) rfl (Nat.le_of_ble_eq_true rfl) dX12_init_618 ?_
  refine gz_eq (f2 := va_up (va_up g65 q65 (some (.inl (cy 0, 120, .inl (fun _ => 0))))) m (some (.inr (12, mFo (va_up a65 84 (some q65)) (va_up (fun _ => 0) 53 1) (fun _ => 0))))) rfl rfl rfl rfl ?_
  have hB66 := mB_alloc (q := q65) (e := .inl (cy 0, 120, .inl (fun _ => 0))) 84 hB65 hq65 rfl (by decide) (by intro i _ h2 h3; rcases (show i = 83 by omega) with rfl <;> rfl)
  refine gz_gen (fun g66 hg66 => ?_)
  obtain ⟨a66, ha66⟩ : ∃ aZ : Nat → Option Nat, aZ = va_up a65 84 (some q65) := ⟨_, rfl⟩
  rw [← hg66, ← ha66] at hB66
  refine gz_aload_n dX12_init_621 rfl rfl ?_
  refine gz_bipush (v := 120) dX12_init_622 (by decide) ?_
  refine gz_newa0 (N' := 120) (by decide) (by decide) (by decide) (Nat.le_of_ble_eq_true rfl) (Nat.le_of_ble_eq_true rfl) wd_3 dX12_init_624 (fun q66 hq66 => ?_)
  refine spX12_234 (mB_h hB66 hq66) rfl (Nat.le_of_ble_eq_true rfl) dX12_init_626 ?_
  refine gz_eq (f2 := va_up (va_up g66 q66 (some (.inl (cy 0, 120, .inl (fun _ => 0))))) m (some (.inr (12, mFo (va_up a66 85 (some q66)) (va_up (fun _ => 0) 53 1) (fun _ => 0))))) rfl rfl rfl rfl ?_
  have hB67 := mB_alloc (q := q66) (e := .inl (cy 0, 120, .inl (fun _ => 0))) 85 hB66 hq66 rfl (by decide) (by intro i _ h2 h3; omega)
  refine gz_gen (fun g67 hg67 => ?_)
  obtain ⟨a67, ha67⟩ : ∃ aZ : Nat → Option Nat, aZ = va_up a66 85 (some q66) := ⟨_, rfl⟩
  rw [← hg67, ← ha67] at hB67
  refine gz_aload_n dX12_init_629 rfl rfl ?_
  refine gz_bipush (v := 120) dX12_init_630 (by decide) ?_
  refine gz_newa3 (N' := 120) (by decide) (by decide) (by decide) (Nat.le_of_ble_eq_true rfl) (Nat.le_of_ble_eq_true rfl) wd_757 dX12_init_632 (fun q67 hq67 => ?_)
  refine spX12_237 (mB_h hB67 hq67) rfl (Nat.le_of_ble_eq_true rfl) dX12_init_634 ?_
  refine gz_eq (f2 := va_up (va_up g67 q67 (some (.inl (cy 3, 120, .inl (fun _ => 0))))) m (some (.inr (12, mFo (va_up a67 86 (some q67)) (va_up (fun _ => 0) 53 1) (fun _ => 0))))) rfl rfl rfl rfl ?_
  have hB68 := mB_alloc (q := q67) (e := .inl (cy 3, 120, .inl (fun _ => 0))) 86 hB67 hq67 rfl (by decide) (by intro i _ h2 h3; omega)
  refine gz_gen (fun g68 hg68 => ?_)
  obtain ⟨a68, ha68⟩ : ∃ aZ : Nat → Option Nat, aZ = va_up a67 86 (some q67) := ⟨_, rfl⟩
  rw [← hg68, ← ha68] at hB68
  refine gz_aload_n dX12_init_637 rfl rfl ?_
  refine gz_sipush (v := 1000) dX12_init_638 (by decide) ?_
  refine gz_newa1 (N' := 1000) (by decide) (by decide) (by decide) (Nat.le_of_ble_eq_true rfl) (Nat.le_of_ble_eq_true rfl) wd_433 dX12_init_641 (fun q68 hq68 => ?_)
  refine spX12_240 (mB_h hB68 hq68) rfl (Nat.le_of_ble_eq_true rfl) dX12_init_643 ?_
  refine gz_eq (f2 := va_up (va_up g68 q68 (some (.inl (cy 1, 1000, .inl (fun _ => 0))))) m (some (.inr (12, mFo (va_up a68 87 (some q68)) (va_up (fun _ => 0) 53 1) (fun _ => 0))))) rfl rfl rfl rfl ?_
  have hB69 := mB_alloc (q := q68) (e := .inl (cy 1, 1000, .inl (fun _ => 0))) 87 hB68 hq68 rfl (by decide) (by intro i _ h2 h3; omega)
  refine gz_gen (fun g69 hg69 => ?_)
  obtain ⟨a69, ha69⟩ : ∃ aZ : Nat → Option Nat, aZ = va_up a68 87 (some q68) := ⟨_, rfl⟩
  rw [← hg69, ← ha69] at hB69
  refine gz_iconst (v := 0) dX12_init_646 (by decide) ?_
  refine gz_istore_n (lv' := [(1, .int 0), (0, .ref m)]) dX12_init_647 rfl (by decide) rfl ?_
  obtain ⟨aa, hS, hz⟩ := mB_S (mB_90 hB69)
  exact l_X12_told hz ⟨fun k hk => va_up_ne _ _ hk, rfl⟩ 2400 0 _ _ hS (by decide) (by decide) (fun i hi => absurd hi (by omega)) (fun _ _ => rfl)

theorem RI_init {n : Nat → Int32} {F : Nat → Nat → Int32} (hn : ∀ k, k ≠ 53 → n k = 0) (h53 : n 53 = 1) (hF : ∀ k, k ≠ 2 → k ≠ 54 → F k = fun _ => 0) : RI n F ∧ NR F := by
  have z : (0 : Int32).toInt = 0 := rfl
  refine ⟨⟨?_, ?_, ?_, ?_, ?_, ?_, ?_, ?_, ?_, ?_, ?_, ?_⟩, ?_⟩
  · rw [hn 0 (by decide)]; decide
  · rw [hn 4 (by decide)]; decide
  · rw [hn 5 (by decide)]; decide
  · intro w _
    rw [hF 13 (by decide) (by decide), hF 14 (by decide) (by decide), hF 15 (by decide) (by decide), hF 19 (by decide) (by decide)]
    show (0 ≤ (0 : Int32).toInt ∧ (0 : Int32).toInt ≤ 40) ∧ (0 ≤ (0 : Int32).toInt ∧ (0 : Int32).toInt ≤ 40) ∧ (0 ≤ (0 : Int32).toInt ∧ (0 : Int32).toInt ≤ 40) ∧ (-1 ≤ (0 : Int32).toInt ∧ (0 : Int32).toInt ≤ 6)
    decide
  · intro f hf
    rw [hn 5 (by decide), z] at hf
    omega
  · rw [hn 30 (by decide)]; decide
  · intro l hl
    rw [hF 35 (by decide) (by decide), hF 32 (by decide) (by decide), hF 33 (by decide) (by decide), hF 36 (by decide) (by decide)]
    refine ⟨by show 0 ≤ (0 : Int32).toInt ∧ (0 : Int32).toInt ≤ 40; decide, fun _ => rfl, by show 0 ≤ (0 : Int32).toInt ∧ (0 : Int32).toInt ≤ 7; decide, by show 0 ≤ (0 : Int32).toInt ∧ (0 : Int32).toInt ≤ 7; decide, fun k hk => ?_⟩
    have hk2 : (k : Int) < (0 : Int32).toInt := hk
    rw [z] at hk2
    omega
  · rw [hn 38 (by decide)]; decide
  · intro k hk
    rw [hn 38 (by decide), z] at hk
    omega
  · rw [h53]; decide
  · rw [hn 47 (by decide)]; decide
  · rw [hn 88 (by decide)]; decide
  · intro x hx
    rw [hF 78 (by decide) (by decide), hF 79 (by decide) (by decide), hF 80 (by decide) (by decide), hF 81 (by decide) (by decide), hF 82 (by decide) (by decide)]
    show (0 ≤ (0 : Int32).toInt ∧ (0 : Int32).toInt < 82) ∧ (0 ≤ (0 : Int32).toInt ∧ (0 : Int32).toInt < 82) ∧ (0 ≤ (0 : Int32).toInt ∧ (0 : Int32).toInt < 880) ∧ (0 ≤ (0 : Int32).toInt ∧ (0 : Int32).toInt < 82) ∧ (0 ≤ (0 : Int32).toInt ∧ (0 : Int32).toInt < 82)
    decide