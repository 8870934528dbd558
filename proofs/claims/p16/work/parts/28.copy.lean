theorem nb {f : gMem} {a q : Nat} {e : va_E} (h : va_up f a (some e) q = none) : q ≠ a ∧ f q = none := by
  by_cases hq : q = a
  · rw [hq, va_up_self] at h; cases h
  · rw [va_up_ne _ _ hq] at h; exact ⟨hq, h⟩
theorem maxE {x : Int32} (h : 0 ≤ x.toInt) : (if x < 0 then 0 else x) = x := if_neg (by rw [fl_lt]; have e0 : (0 : Int32).toInt = 0 := rfl; omega)

set_option maxHeartbeats 4000000 in
set_option maxRecDepth 100000 in
theorem k_X2_initG {l : Launch} {D : va_G} {cy : Nat → ClassId} {b : Nat} {f : gMem} {x : Nat} {a c : Int32} (hx : f x = some (.inr (2, [.null, .null, .int 0, .int 0]))) (ha : 0 ≤ a.toInt ∧ a.toInt ≤ 40) (hc : 0 ≤ c.toInt ∧ c.toInt ≤ 40) : gC l D cy b yX2_init cX2_init 3 none 1 2 ((13 * a.toInt.toNat) + (2 * c.toInt.toNat)) [.ref x, .int a, .int c] f (pV fun f2 => ∃ (q1 q2 : Nat), f2 x = some (.inr (2, [.ref q1, .ref q2, .int 0, .int 0])) ∧ f2 q1 = some (.inl (cy 0, (13 * a.toInt.toNat), .inl (fun _ => 0))) ∧ f2 q2 = some (.inl (cy 0, (2 * c.toInt.toNat), .inl (fun _ => 0))) ∧ (f q1 = none ∧ f q2 = none ∧ q1 ≠ q2) ∧ fr [x] f f2) := by
  refine gC_of (by decide) (Nat.le_of_ble_eq_true rfl) ?_
  show gG l _ _ _ D cy b cX2_init 3 _ RX2 "<init>" 0 0 f 0 [(0, .ref x), (1, .int a), (2, .int c)] []
  refine gz_aload_n dX2_init_0 rfl rfl ?_
  refine scX2_3 (Nat.le_of_ble_eq_true rfl) (Nat.le_of_ble_eq_true rfl) (Nat.le_of_ble_eq_true rfl) dX2_init_1 ?_
  refine gz_aload_n dX2_init_4 rfl rfl ?_
  refine gz_iload_n dX2_init_5 rfl rfl ?_
  refine gz_iconst (v := 0) dX2_init_6 (by decide) ?_
  refine scX2_9 (Nat.le_of_ble_eq_true rfl) (Nat.le_of_ble_eq_true rfl) (by simp only [gRm]; omega) (by simp only [gRm]; omega) (Nat.le_of_ble_eq_true rfl) dX2_init_7 ?_
  refine gz_bipush (v := 13) dX2_init_10 (by decide) ?_
  refine gz_imul dX2_init_12 ?_
  refine gz_newa0 (N' := (13 * a.toInt.toNat)) (by have e13 : (13 : Int32).toInt = 13 := rfl; have e0 : (0 : Int32).toInt = 0 := rfl; have e2 : (2 : Int32).toInt = 2 := rfl; have e1 : (1 : Int32).toInt = 1 := rfl; have e6 : (6 : Int32).toInt = 6 := rfl; have em2 : (-2 : Int32).toInt = -2 := rfl; have hm := maxE (x := a) (by omega); have hz := T_mul (rfl : a.toInt = a.toInt) e13 (by omega); rw [hm]; rw [fl_lt, hz]; omega) (by have e13 : (13 : Int32).toInt = 13 := rfl; have e0 : (0 : Int32).toInt = 0 := rfl; have e2 : (2 : Int32).toInt = 2 := rfl; have e1 : (1 : Int32).toInt = 1 := rfl; have e6 : (6 : Int32).toInt = 6 := rfl; have em2 : (-2 : Int32).toInt = -2 := rfl; have hm := maxE (x := a) (by omega); have hz := T_mul (rfl : a.toInt = a.toInt) e13 (by omega); rw [hm]; rw [cl_N hz (by omega)]; omega) (by show _ * 4 ≤ _; omega) (by simp only [gRm]; omega) (by simp only [gRm]; omega) wd_3 dX2_init_13 (fun q1 hq1n => ?_)
  obtain ⟨f1, hf1⟩ : ∃ gg : gMem, gg = va_up f q1 (some (.inl (cy 0, (13 * a.toInt.toNat), .inl (fun _ => 0)))) := ⟨_, rfl⟩
  refine gz_eq (f2 := f1) hf1.symm rfl rfl rfl ?_
  have hx_1 : f1 x = some (.inr (2, [.null, .null, .int 0, .int 0])) := by rw [hf1, va_up_ne _ _ (cnn hx hq1n)]; exact hx
  have hq1_1 : f1 q1 = some (.inl (cy 0, (13 * a.toInt.toNat), .inl (fun _ => 0))) := by rw [hf1]; exact va_up_self _ _ _
  refine spX2_15 hx_1 rfl (Nat.le_of_ble_eq_true rfl) dX2_init_15 ?_
  obtain ⟨f2, hf2⟩ : ∃ gg : gMem, gg = va_up f1 x (some (.inr (2, [.ref q1, .null, .int 0, .int 0]))) := ⟨_, rfl⟩
  refine gz_eq (f2 := f2) hf2.symm rfl rfl rfl ?_
  have hq1_2 : f2 q1 = some (.inl (cy 0, (13 * a.toInt.toNat), .inl (fun _ => 0))) := by rw [hf2, va_up_ne _ _ (cne hq1_1 hx_1 (by simp))]; exact hq1_1
  have hx_2 : f2 x = some (.inr (2, [.ref q1, .null, .int 0, .int 0])) := by rw [hf2]; exact va_up_self _ _ _
  refine gz_aload_n dX2_init_18 rfl rfl ?_
  refine gz_iload_n dX2_init_19 rfl rfl ?_
  refine gz_iconst (v := 0) dX2_init_20 (by decide) ?_
  refine scX2_9 (Nat.le_of_ble_eq_true rfl) (Nat.le_of_ble_eq_true rfl) (by simp only [gRm]; omega) (by simp only [gRm]; omega) (Nat.le_of_ble_eq_true rfl) dX2_init_21 ?_
  refine gz_iconst (v := 2) dX2_init_24 (by decide) ?_
  refine gz_imul dX2_init_25 ?_
  refine gz_newa0 (N' := (2 * c.toInt.toNat)) (by have e13 : (13 : Int32).toInt = 13 := rfl; have e0 : (0 : Int32).toInt = 0 := rfl; have e2 : (2 : Int32).toInt = 2 := rfl; have e1 : (1 : Int32).toInt = 1 := rfl; have e6 : (6 : Int32).toInt = 6 := rfl; have em2 : (-2 : Int32).toInt = -2 := rfl; have hm := maxE (x := c) (by omega); have hz := T_mul (rfl : c.toInt = c.toInt) e2 (by omega); rw [hm]; rw [fl_lt, hz]; omega) (by have e13 : (13 : Int32).toInt = 13 := rfl; have e0 : (0 : Int32).toInt = 0 := rfl; have e2 : (2 : Int32).toInt = 2 := rfl; have e1 : (1 : Int32).toInt = 1 := rfl; have e6 : (6 : Int32).toInt = 6 := rfl; have em2 : (-2 : Int32).toInt = -2 := rfl; have hm := maxE (x := c) (by omega); have hz := T_mul (rfl : c.toInt = c.toInt) e2 (by omega); rw [hm]; rw [cl_N hz (by omega)]; omega) (by show _ * 4 ≤ _; omega) (by simp only [gRm]; omega) (by simp only [gRm]; omega) wd_3 dX2_init_26 (fun q2 hq2n => ?_)
  obtain ⟨f3, hf3⟩ : ∃ gg : gMem, gg = va_up f2 q2 (some (.inl (cy 0, (2 * c.toInt.toNat), .inl (fun _ => 0)))) := ⟨_, rfl⟩
  refine gz_eq (f2 := f3) hf3.symm rfl rfl rfl ?_
  have hq1_3 : f3 q1 = some (.inl (cy 0, (13 * a.toInt.toNat), .inl (fun _ => 0))) := by rw [hf3, va_up_ne _ _ (cnn hq1_2 hq2n)]; exact hq1_2
  have hx_3 : f3 x = some (.inr (2, [.ref q1, .null, .int 0, .int 0])) := by rw [hf3, va_up_ne _ _ (cnn hx_2 hq2n)]; exact hx_2
  have hq2_3 : f3 q2 = some (.inl (cy 0, (2 * c.toInt.toNat), .inl (fun _ => 0))) := by rw [hf3]; exact va_up_self _ _ _
  refine spX2_21 hx_3 rfl (Nat.le_of_ble_eq_true rfl) dX2_init_28 ?_
  obtain ⟨f4, hf4⟩ : ∃ gg : gMem, gg = va_up f3 x (some (.inr (2, [.ref q1, .ref q2, .int 0, .int 0]))) := ⟨_, rfl⟩
  refine gz_eq (f2 := f4) hf4.symm rfl rfl rfl ?_
  have hq1_4 : f4 q1 = some (.inl (cy 0, (13 * a.toInt.toNat), .inl (fun _ => 0))) := by rw [hf4, va_up_ne _ _ (cne hq1_3 hx_3 (by simp))]; exact hq1_3
  have hq2_4 : f4 q2 = some (.inl (cy 0, (2 * c.toInt.toNat), .inl (fun _ => 0))) := by rw [hf4, va_up_ne _ _ (cne hq2_3 hx_3 (by simp))]; exact hq2_3
  have hx_4 : f4 x = some (.inr (2, [.ref q1, .ref q2, .int 0, .int 0])) := by rw [hf4]; exact va_up_self _ _ _
  exact gz_vret rfl dX2_init_31 (by omega) (by omega) (⟨rfl, q1, q2, hx_4, hq1_4, hq2_4, (by have z := hq2n; rw [hf2] at z; have z1 := nb z; have z2 := z1.2; rw [hf1] at z2; have z3 := nb z2; exact ⟨hq1n, z3.2, Ne.symm z3.1⟩), (fr_le (S := [x, q1, q2]) (by rw [hf4]; exact fr_up (by rw [hf3]; exact fr_up (by rw [hf2]; exact fr_up (by rw [hf1]; exact fr_up fr_rf (by simp)) (by simp)) (by simp)) (by simp)) (by intro z hz2; simp only [List.mem_cons, List.not_mem_nil, or_false] at hz2; have hfr3 : f q1 = none ∧ f q2 = none ∧ q1 ≠ q2 := (by have z := hq2n; rw [hf2] at z; have z1 := nb z; have z2 := z1.2; rw [hf1] at z2; have z3 := nb z2; exact ⟨hq1n, z3.2, Ne.symm z3.1⟩); rcases hz2 with rfl | rfl | rfl; exact Or.inl (by simp); exact Or.inr hfr3.1; exact Or.inr hfr3.2.1))⟩)

theorem cp_up {ga g : Nat → Int32} {i : Int32} (h0 : 0 ≤ i.toInt) (h : ∀ j : Nat, (j : Int) < i.toInt → ga j = g j) : ∀ j : Nat, (j : Int) < i.toInt + 1 → upd ga i.toNatClampNeg (g i.toNatClampNeg) j = g j := by
  intro j hj
  rw [cl_N (rfl : i.toInt = _) h0]
  show (if j = _ then _ else ga j) = g j
  by_cases e : j = i.toInt.toNat
  · rw [if_pos e, e]
  · rw [if_neg e]; exact h j (by omega)

set_option maxHeartbeats 4000000 in
set_option maxRecDepth 100000 in
theorem l_X2_copy2 {l : Launch} {D : va_G} {cy : Nat → ClassId} {b : Nat} {f : gMem} {q qa qb p c1 c2 n1 n2 : Nat} {s v : Int32} {g h : Nat → Int32} (hs : 0 ≤ s.toInt ∧ 13 * s.toInt ≤ n1 ∧ n1 ≤ 520) (hv : 0 ≤ v.toInt ∧ 2 * v.toInt ≤ n2 ∧ n2 ≤ 80) (hfr3 : f q = none ∧ f qa = none ∧ f qb = none ∧ qa ≠ qb) (hne : c1 ≠ qa ∧ c2 ≠ qa ∧ c1 ≠ qb ∧ c2 ≠ qb) : ∀ (k : Nat) (i : Int32) (ga gb : Nat → Int32) (fm : gMem), fr [q, qa, qb] f fm → (fm p = some (.inr (2, [.ref c1, .ref c2, .int s, .int v]))) → (fm c1 = some (.inl (cy 0, n1, .inl (g)))) → (fm c2 = some (.inl (cy 0, n2, .inl (h)))) → (fm q = some (.inr (2, [.ref qa, .ref qb, .int s, .int v]))) → (fm qa = some (.inl (cy 0, (13 * s.toInt.toNat), .inl (ga)))) → (fm qb = some (.inl (cy 0, (2 * v.toInt.toNat), .inl (gb)))) → (∀ j : Nat, j < (13 * s.toInt.toNat) → ga j = g j) → (∀ j : Nat, (j : Int) < i.toInt → gb j = h j) → (0 ≤ i.toInt ∧ 0 < k ∧ (i.toInt < 2 * v.toInt → 2 * v.toInt - i.toInt < (k : Int))) → gG l (gRm 2 3 (4 + ((13 * s.toInt.toNat) + (2 * v.toInt.toNat)))) (gQf D b (pR fun u f2 => ∃ (q qa qb : Nat) (g2 h2 : Nat → Int32), u = some q ∧ f2 q = some (.inr (2, [.ref qa, .ref qb, .int s, .int v])) ∧ f2 qa = some (.inl (cy 0, (13 * s.toInt.toNat), .inl (g2))) ∧ f2 qb = some (.inl (cy 0, (2 * v.toInt.toNat), .inl (h2))) ∧ (∀ j : Nat, j < (13 * s.toInt.toNat) → g2 j = g j) ∧ (∀ j : Nat, j < (2 * v.toInt.toNat) → h2 j = h j) ∧ (f q = none ∧ f qa = none ∧ f qb = none ∧ qa ≠ qb) ∧ fr [] f f2) 3 (4 + ((13 * s.toInt.toNat) + (2 * v.toInt.toNat)))) gTt D cy b cX2_copyToSize 3 (some (.object "DeedTongue$Form")) RX2 "copyToSize" (3) ((4 + ((13 * s.toInt.toNat) + (2 * v.toInt.toNat)))) fm 72 [(2, .int i), (1, .ref q), (0, .ref p)] [] := by
  intro k
  induction k with
  | zero =>
    intro i ga gb fm hfr hp h1 h2 hq0 hqa hqb hA hB hk
    exfalso; omega
  | succ k ih =>
    intro i ga gb fm hfr hp h1 h2 hq0 hqa hqb hA hB hk
    refine gz_iload_n dX2_copyToSize_72 rfl rfl ?_
    refine gz_aload_n dX2_copyToSize_73 rfl rfl ?_
    refine sgX2_21 hq0 rfl dX2_copyToSize_74 ?_
    refine gz_alen0 (v := Int32.ofNat (2 * v.toInt.toNat)) hqb rfl dX2_copyToSize_77 ?_
    refine gz_icmp_ge (tgt := 108) dX2_copyToSize_78 (by decide) (fun c_78 => ?_) (fun c_78 => ?_)
    ·
      refine gz_aload_n dX2_copyToSize_108 rfl rfl ?_
      exact gz_aret rfl (Or.inr ⟨_, rfl⟩) dX2_copyToSize_109 (by omega) (by omega) (⟨_, rfl, _, _, _, _, _, rfl, hq0, hqa, hqb, hA, (by have e13 : (13 : Int32).toInt = 13 := rfl; have e0 : (0 : Int32).toInt = 0 := rfl; have e2 : (2 : Int32).toInt = 2 := rfl; have e1 : (1 : Int32).toInt = 1 := rfl; have e6 : (6 : Int32).toInt = 6 := rfl; have em2 : (-2 : Int32).toInt = -2 := rfl; have eN : (Int32.ofNat (2 * v.toInt.toNat)).toInt = ((2 * v.toInt.toNat) : Nat) := ofN_toInt (by omega); have eM : (Int32.ofNat n2).toInt = (n2 : Nat) := ofN_toInt (by omega); simp only [fl_le] at c_78; intro j hj; exact hB j (by omega)), hfr3, (fr_le hfr (by intro z hz2; simp only [List.mem_cons, List.not_mem_nil, or_false] at hz2; rcases hz2 with rfl | rfl | rfl; exact Or.inr hfr3.1; exact Or.inr hfr3.2.1; exact Or.inr hfr3.2.2.1))⟩)
    ·
      refine gz_iload_n dX2_copyToSize_81 rfl rfl ?_
      refine gz_aload_n dX2_copyToSize_82 rfl rfl ?_
      refine sgX2_21 hp rfl dX2_copyToSize_83 ?_
      refine gz_alen0 (v := Int32.ofNat n2) h2 rfl dX2_copyToSize_86 ?_
      refine gz_icmp_ge (tgt := 108) dX2_copyToSize_87 (by decide) (fun c_87 => ?_) (fun c_87 => ?_)
      ·
        refine gz_aload_n dX2_copyToSize_108 rfl rfl ?_
        exact gz_aret rfl (Or.inr ⟨_, rfl⟩) dX2_copyToSize_109 (by omega) (by omega) (⟨_, rfl, _, _, _, _, _, rfl, hq0, hqa, hqb, hA, (by have e13 : (13 : Int32).toInt = 13 := rfl; have e0 : (0 : Int32).toInt = 0 := rfl; have e2 : (2 : Int32).toInt = 2 := rfl; have e1 : (1 : Int32).toInt = 1 := rfl; have e6 : (6 : Int32).toInt = 6 := rfl; have em2 : (-2 : Int32).toInt = -2 := rfl; have eN : (Int32.ofNat (2 * v.toInt.toNat)).toInt = ((2 * v.toInt.toNat) : Nat) := ofN_toInt (by omega); have eM : (Int32.ofNat n2).toInt = (n2 : Nat) := ofN_toInt (by omega); simp only [fl_le] at c_78 c_87; intro j hj; exact hB j (by omega)), hfr3, (fr_le hfr (by intro z hz2; simp only [List.mem_cons, List.not_mem_nil, or_false] at hz2; rcases hz2 with rfl | rfl | rfl; exact Or.inr hfr3.1; exact Or.inr hfr3.2.1; exact Or.inr hfr3.2.2.1))⟩)
      ·
        refine gz_aload_n dX2_copyToSize_90 rfl rfl ?_
        refine sgX2_21 hq0 rfl dX2_copyToSize_91 ?_
        refine gz_iload_n dX2_copyToSize_94 rfl rfl ?_
        refine gz_aload_n dX2_copyToSize_95 rfl rfl ?_
        refine sgX2_21 hp rfl dX2_copyToSize_96 ?_
        refine gz_iload_n dX2_copyToSize_99 rfl rfl ?_
        refine gz_iald h2 ((by have e13 : (13 : Int32).toInt = 13 := rfl; have e0 : (0 : Int32).toInt = 0 := rfl; have e2 : (2 : Int32).toInt = 2 := rfl; have e1 : (1 : Int32).toInt = 1 := rfl; have e6 : (6 : Int32).toInt = 6 := rfl; have em2 : (-2 : Int32).toInt = -2 := rfl; have eN : (Int32.ofNat (2 * v.toInt.toNat)).toInt = ((2 * v.toInt.toNat) : Nat) := ofN_toInt (by omega); have eM : (Int32.ofNat n2).toInt = (n2 : Nat) := ofN_toInt (by omega); simp only [fl_le] at c_78 c_87; exact vin_T (rfl : i.toInt = i.toInt) (by omega) (by omega))) dX2_copyToSize_100 ?_
        refine gz_iast hqb ((by have e13 : (13 : Int32).toInt = 13 := rfl; have e0 : (0 : Int32).toInt = 0 := rfl; have e2 : (2 : Int32).toInt = 2 := rfl; have e1 : (1 : Int32).toInt = 1 := rfl; have e6 : (6 : Int32).toInt = 6 := rfl; have em2 : (-2 : Int32).toInt = -2 := rfl; have eN : (Int32.ofNat (2 * v.toInt.toNat)).toInt = ((2 * v.toInt.toNat) : Nat) := ofN_toInt (by omega); have eM : (Int32.ofNat n2).toInt = (n2 : Nat) := ofN_toInt (by omega); simp only [fl_le] at c_78 c_87; exact vin_T (rfl : i.toInt = i.toInt) (by omega) (by omega))) dX2_copyToSize_101 ?_
        obtain ⟨f1, hf1⟩ : ∃ gg : gMem, gg = va_up fm qb (some (.inl (cy 0, (2 * v.toInt.toNat), .inl (upd gb (Int32.toNatClampNeg i) (h (Int32.toNatClampNeg i)))))) := ⟨_, rfl⟩
        refine gz_eq (f2 := f1) hf1.symm rfl rfl rfl ?_
        have hp_1 : f1 p = some (.inr (2, [.ref c1, .ref c2, .int s, .int v])) := by rw [hf1, va_up_ne _ _ (cne hp hqb (by simp))]; exact hp
        have h1_1 : f1 c1 = some (.inl (cy 0, n1, .inl (g))) := by rw [hf1, va_up_ne _ _ (hne.2.2.1)]; exact h1
        have h2_1 : f1 c2 = some (.inl (cy 0, n2, .inl (h))) := by rw [hf1, va_up_ne _ _ (hne.2.2.2)]; exact h2
        have hq0_1 : f1 q = some (.inr (2, [.ref qa, .ref qb, .int s, .int v])) := by rw [hf1, va_up_ne _ _ (cne hq0 hqb (by simp))]; exact hq0
        have hqa_1 : f1 qa = some (.inl (cy 0, (13 * s.toInt.toNat), .inl (ga))) := by rw [hf1, va_up_ne _ _ (hfr3.2.2.2)]; exact hqa
        have hqb_1 : f1 qb = some (.inl (cy 0, (2 * v.toInt.toNat), .inl (upd gb (Int32.toNatClampNeg i) (h (Int32.toNatClampNeg i))))) := by rw [hf1]; exact va_up_self _ _ _
        refine gz_iinc (v := (i + 1)) (lv' := [(2, .int (i + 1)), (1, .ref q), (0, .ref p)]) dX2_copyToSize_102 rfl rfl (by decide) rfl ?_
        refine gz_goto (tgt := 72) dX2_copyToSize_105 (by decide) ?_
        refine gz_sub (lv' := [(2, .int (i + 1)), (1, .ref q), (0, .ref p)]) (by simp [List.lookup]) ?_
        exact ih (i + 1) ga (upd gb (Int32.toNatClampNeg i) (h (Int32.toNatClampNeg i))) _ (by rw [hf1]; exact fr_up hfr (by simp)) hp_1 h1_1 h2_1 hq0_1 hqa_1 hqb_1 (hA) ((by have e13 : (13 : Int32).toInt = 13 := rfl; have e0 : (0 : Int32).toInt = 0 := rfl; have e2 : (2 : Int32).toInt = 2 := rfl; have e1 : (1 : Int32).toInt = 1 := rfl; have e6 : (6 : Int32).toInt = 6 := rfl; have em2 : (-2 : Int32).toInt = -2 := rfl; have eN : (Int32.ofNat (2 * v.toInt.toNat)).toInt = ((2 * v.toInt.toNat) : Nat) := ofN_toInt (by omega); have eM : (Int32.ofNat n2).toInt = (n2 : Nat) := ofN_toInt (by omega); simp only [fl_le] at c_78 c_87; have hx := T_add (rfl : i.toInt = i.toInt) e1 (by omega); rw [hx]; exact cp_up (by omega) hB)) (by have e13 : (13 : Int32).toInt = 13 := rfl; have e0 : (0 : Int32).toInt = 0 := rfl; have e2 : (2 : Int32).toInt = 2 := rfl; have e1 : (1 : Int32).toInt = 1 := rfl; have e6 : (6 : Int32).toInt = 6 := rfl; have em2 : (-2 : Int32).toInt = -2 := rfl; have eN : (Int32.ofNat (2 * v.toInt.toNat)).toInt = ((2 * v.toInt.toNat) : Nat) := ofN_toInt (by omega); have eM : (Int32.ofNat n2).toInt = (n2 : Nat) := ofN_toInt (by omega); simp only [fl_le] at c_78 c_87; have hx := T_add (rfl : i.toInt = i.toInt) e1 (by omega); omega)

set_option maxHeartbeats 4000000 in
set_option maxRecDepth 100000 in
theorem l_X2_copy1 {l : Launch} {D : va_G} {cy : Nat → ClassId} {b : Nat} {f : gMem} {q qa qb p c1 c2 n1 n2 : Nat} {s v : Int32} {g h : Nat → Int32} (hs : 0 ≤ s.toInt ∧ 13 * s.toInt ≤ n1 ∧ n1 ≤ 520) (hv : 0 ≤ v.toInt ∧ 2 * v.toInt ≤ n2 ∧ n2 ≤ 80) (hfr3 : f q = none ∧ f qa = none ∧ f qb = none ∧ qa ≠ qb) (hne : c1 ≠ qa ∧ c2 ≠ qa ∧ c1 ≠ qb ∧ c2 ≠ qb) : ∀ (k : Nat) (i : Int32) (ga gb : Nat → Int32) (fm : gMem), fr [q, qa, qb] f fm → (fm p = some (.inr (2, [.ref c1, .ref c2, .int s, .int v]))) → (fm c1 = some (.inl (cy 0, n1, .inl (g)))) → (fm c2 = some (.inl (cy 0, n2, .inl (h)))) → (fm q = some (.inr (2, [.ref qa, .ref qb, .int s, .int v]))) → (fm qa = some (.inl (cy 0, (13 * s.toInt.toNat), .inl (ga)))) → (fm qb = some (.inl (cy 0, (2 * v.toInt.toNat), .inl (gb)))) → (∀ j : Nat, (j : Int) < i.toInt → ga j = g j) → (0 ≤ i.toInt ∧ 0 < k ∧ (i.toInt < 13 * s.toInt → 13 * s.toInt - i.toInt < (k : Int))) → gG l (gRm 2 3 (4 + ((13 * s.toInt.toNat) + (2 * v.toInt.toNat)))) (gQf D b (pR fun u f2 => ∃ (q qa qb : Nat) (g2 h2 : Nat → Int32), u = some q ∧ f2 q = some (.inr (2, [.ref qa, .ref qb, .int s, .int v])) ∧ f2 qa = some (.inl (cy 0, (13 * s.toInt.toNat), .inl (g2))) ∧ f2 qb = some (.inl (cy 0, (2 * v.toInt.toNat), .inl (h2))) ∧ (∀ j : Nat, j < (13 * s.toInt.toNat) → g2 j = g j) ∧ (∀ j : Nat, j < (2 * v.toInt.toNat) → h2 j = h j) ∧ (f q = none ∧ f qa = none ∧ f qb = none ∧ qa ≠ qb) ∧ fr [] f f2) 3 (4 + ((13 * s.toInt.toNat) + (2 * v.toInt.toNat)))) gTt D cy b cX2_copyToSize 3 (some (.object "DeedTongue$Form")) RX2 "copyToSize" (3) ((4 + ((13 * s.toInt.toNat) + (2 * v.toInt.toNat)))) fm 34 [(2, .int i), (1, .ref q), (0, .ref p)] [] := by
  intro k
  induction k with
  | zero =>
    intro i ga gb fm hfr hp h1 h2 hq0 hqa hqb hB hk
    exfalso; omega
  | succ k ih =>
    intro i ga gb fm hfr hp h1 h2 hq0 hqa hqb hB hk
    refine gz_iload_n dX2_copyToSize_34 rfl rfl ?_
    refine gz_aload_n dX2_copyToSize_35 rfl rfl ?_
    refine sgX2_15 hq0 rfl dX2_copyToSize_36 ?_
    refine gz_alen0 (v := Int32.ofNat (13 * s.toInt.toNat)) hqa rfl dX2_copyToSize_39 ?_
    refine gz_icmp_ge (tgt := 70) dX2_copyToSize_40 (by decide) (fun c_40 => ?_) (fun c_40 => ?_)
    ·
      refine gz_iconst (v := 0) dX2_copyToSize_70 (by decide) ?_
      refine gz_istore_n (lv' := [(2, .int 0), (1, .ref q), (0, .ref p)]) dX2_copyToSize_71 rfl (by decide) rfl ?_
      refine gz_sub (lv' := [(2, .int 0), (1, .ref q), (0, .ref p)]) (by simp [List.lookup]) ?_
      exact l_X2_copy2 hs hv hfr3 hne 81 0 ga gb _ hfr hp h1 h2 hq0 hqa hqb (by have e13 : (13 : Int32).toInt = 13 := rfl; have e0 : (0 : Int32).toInt = 0 := rfl; have e2 : (2 : Int32).toInt = 2 := rfl; have e1 : (1 : Int32).toInt = 1 := rfl; have e6 : (6 : Int32).toInt = 6 := rfl; have em2 : (-2 : Int32).toInt = -2 := rfl; have eN : (Int32.ofNat (13 * s.toInt.toNat)).toInt = ((13 * s.toInt.toNat) : Nat) := ofN_toInt (by omega); have eM : (Int32.ofNat n1).toInt = (n1 : Nat) := ofN_toInt (by omega); simp only [fl_le] at c_40; intro j hj; exact hB j (by omega)) (fun j hj => absurd hj (by have e0 : (0 : Int32).toInt = 0 := rfl; omega)) ⟨by decide, by decide, fun _ => by have e0 : (0 : Int32).toInt = 0 := rfl; omega⟩
    ·
      refine gz_iload_n dX2_copyToSize_43 rfl rfl ?_
      refine gz_aload_n dX2_copyToSize_44 rfl rfl ?_
      refine sgX2_15 hp rfl dX2_copyToSize_45 ?_
      refine gz_alen0 (v := Int32.ofNat n1) h1 rfl dX2_copyToSize_48 ?_
      refine gz_icmp_ge (tgt := 70) dX2_copyToSize_49 (by decide) (fun c_49 => ?_) (fun c_49 => ?_)
      ·
        refine gz_iconst (v := 0) dX2_copyToSize_70 (by decide) ?_
        refine gz_istore_n (lv' := [(2, .int 0), (1, .ref q), (0, .ref p)]) dX2_copyToSize_71 rfl (by decide) rfl ?_
        refine gz_sub (lv' := [(2, .int 0), (1, .ref q), (0, .ref p)]) (by simp [List.lookup]) ?_
        exact l_X2_copy2 hs hv hfr3 hne 81 0 ga gb _ hfr hp h1 h2 hq0 hqa hqb (by have e13 : (13 : Int32).toInt = 13 := rfl; have e0 : (0 : Int32).toInt = 0 := rfl; have e2 : (2 : Int32).toInt = 2 := rfl; have e1 : (1 : Int32).toInt = 1 := rfl; have e6 : (6 : Int32).toInt = 6 := rfl; have em2 : (-2 : Int32).toInt = -2 := rfl; have eN : (Int32.ofNat (13 * s.toInt.toNat)).toInt = ((13 * s.toInt.toNat) : Nat) := ofN_toInt (by omega); have eM : (Int32.ofNat n1).toInt = (n1 : Nat) := ofN_toInt (by omega); simp only [fl_le] at c_40 c_49; intro j hj; exact hB j (by omega)) (fun j hj => absurd hj (by have e0 : (0 : Int32).toInt = 0 := rfl; omega)) ⟨by decide, by decide, fun _ => by have e0 : (0 : Int32).toInt = 0 := rfl; omega⟩
      ·
        refine gz_aload_n dX2_copyToSize_52 rfl rfl ?_
        refine sgX2_15 hq0 rfl dX2_copyToSize_53 ?_
        refine gz_iload_n dX2_copyToSize_56 rfl rfl ?_
        refine gz_aload_n dX2_copyToSize_57 rfl rfl ?_
        refine sgX2_15 hp rfl dX2_copyToSize_58 ?_
        refine gz_iload_n dX2_copyToSize_61 rfl rfl ?_
        refine gz_iald h1 ((by have e13 : (13 : Int32).toInt = 13 := rfl; have e0 : (0 : Int32).toInt = 0 := rfl; have e2 : (2 : Int32).toInt = 2 := rfl; have e1 : (1 : Int32).toInt = 1 := rfl; have e6 : (6 : Int32).toInt = 6 := rfl; have em2 : (-2 : Int32).toInt = -2 := rfl; have eN : (Int32.ofNat (13 * s.toInt.toNat)).toInt = ((13 * s.toInt.toNat) : Nat) := ofN_toInt (by omega); have eM : (Int32.ofNat n1).toInt = (n1 : Nat) := ofN_toInt (by omega); simp only [fl_le] at c_40 c_49; exact vin_T (rfl : i.toInt = i.toInt) (by omega) (by omega))) dX2_copyToSize_62 ?_
        refine gz_iast hqa ((by have e13 : (13 : Int32).toInt = 13 := rfl; have e0 : (0 : Int32).toInt = 0 := rfl; have e2 : (2 : Int32).toInt = 2 := rfl; have e1 : (1 : Int32).toInt = 1 := rfl; have e6 : (6 : Int32).toInt = 6 := rfl; have em2 : (-2 : Int32).toInt = -2 := rfl; have eN : (Int32.ofNat (13 * s.toInt.toNat)).toInt = ((13 * s.toInt.toNat) : Nat) := ofN_toInt (by omega); have eM : (Int32.ofNat n1).toInt = (n1 : Nat) := ofN_toInt (by omega); simp only [fl_le] at c_40 c_49; exact vin_T (rfl : i.toInt = i.toInt) (by omega) (by omega))) dX2_copyToSize_63 ?_
        obtain ⟨f1, hf1⟩ : ∃ gg : gMem, gg = va_up fm qa (some (.inl (cy 0, (13 * s.toInt.toNat), .inl (upd ga (Int32.toNatClampNeg i) (g (Int32.toNatClampNeg i)))))) := ⟨_, rfl⟩
        refine gz_eq (f2 := f1) hf1.symm rfl rfl rfl ?_
        have hp_1 : f1 p = some (.inr (2, [.ref c1, .ref c2, .int s, .int v])) := by rw [hf1, va_up_ne _ _ (cne hp hqa (by simp))]; exact hp
        have h1_1 : f1 c1 = some (.inl (cy 0, n1, .inl (g))) := by rw [hf1, va_up_ne _ _ (hne.1)]; exact h1
        have h2_1 : f1 c2 = some (.inl (cy 0, n2, .inl (h))) := by rw [hf1, va_up_ne _ _ (hne.2.1)]; exact h2
        have hq0_1 : f1 q = some (.inr (2, [.ref qa, .ref qb, .int s, .int v])) := by rw [hf1, va_up_ne _ _ (cne hq0 hqa (by simp))]; exact hq0
        have hqb_1 : f1 qb = some (.inl (cy 0, (2 * v.toInt.toNat), .inl (gb))) := by rw [hf1, va_up_ne _ _ (Ne.symm (hfr3.2.2.2))]; exact hqb
        have hqa_1 : f1 qa = some (.inl (cy 0, (13 * s.toInt.toNat), .inl (upd ga (Int32.toNatClampNeg i) (g (Int32.toNatClampNeg i))))) := by rw [hf1]; exact va_up_self _ _ _
        refine gz_iinc (v := (i + 1)) (lv' := [(2, .int (i + 1)), (1, .ref q), (0, .ref p)]) dX2_copyToSize_64 rfl rfl (by decide) rfl ?_
        refine gz_goto (tgt := 34) dX2_copyToSize_67 (by decide) ?_
        refine gz_sub (lv' := [(2, .int (i + 1)), (1, .ref q), (0, .ref p)]) (by simp [List.lookup]) ?_
        exact ih (i + 1) (upd ga (Int32.toNatClampNeg i) (g (Int32.toNatClampNeg i))) gb _ (by rw [hf1]; exact fr_up hfr (by simp)) hp_1 h1_1 h2_1 hq0_1 hqa_1 hqb_1 ((by have e13 : (13 : Int32).toInt = 13 := rfl; have e0 : (0 : Int32).toInt = 0 := rfl; have e2 : (2 : Int32).toInt = 2 := rfl; have e1 : (1 : Int32).toInt = 1 := rfl; have e6 : (6 : Int32).toInt = 6 := rfl; have em2 : (-2 : Int32).toInt = -2 := rfl; have eN : (Int32.ofNat (13 * s.toInt.toNat)).toInt = ((13 * s.toInt.toNat) : Nat) := ofN_toInt (by omega); have eM : (Int32.ofNat n1).toInt = (n1 : Nat) := ofN_toInt (by omega); simp only [fl_le] at c_40 c_49; have hx := T_add (rfl : i.toInt = i.toInt) e1 (by omega); rw [hx]; exact cp_up (by omega) hB)) (by have e13 : (13 : Int32).toInt = 13 := rfl; have e0 : (0 : Int32).toInt = 0 := rfl; have e2 : (2 : Int32).toInt = 2 := rfl; have e1 : (1 : Int32).toInt = 1 := rfl; have e6 : (6 : Int32).toInt = 6 := rfl; have em2 : (-2 : Int32).toInt = -2 := rfl; have eN : (Int32.ofNat (13 * s.toInt.toNat)).toInt = ((13 * s.toInt.toNat) : Nat) := ofN_toInt (by omega); have eM : (Int32.ofNat n1).toInt = (n1 : Nat) := ofN_toInt (by omega); simp only [fl_le] at c_40 c_49; have hx := T_add (rfl : i.toInt = i.toInt) e1 (by omega); omega)

set_option maxHeartbeats 4000000 in
set_option maxRecDepth 100000 in
theorem k_X2_copyToSize {l : Launch} {D : va_G} {cy : Nat → ClassId} {b : Nat} {f : gMem} {q qa qb p c1 c2 n1 n2 : Nat} {s v : Int32} {g h : Nat → Int32} (hp : f p = some (.inr (2, [.ref c1, .ref c2, .int s, .int v]))) (h1 : f c1 = some (.inl (cy 0, n1, .inl (g)))) (h2 : f c2 = some (.inl (cy 0, n2, .inl (h)))) (hs : 0 ≤ s.toInt ∧ 13 * s.toInt ≤ n1 ∧ n1 ≤ 520) (hv : 0 ≤ v.toInt ∧ 2 * v.toInt ≤ n2 ∧ n2 ≤ 80) : gC l D cy b yX2_copyToSize cX2_copyToSize 3 (some (.object "DeedTongue$Form")) 2 3 (4 + ((13 * s.toInt.toNat) + (2 * v.toInt.toNat))) [.ref p] f (pR fun u f2 => ∃ (q qa qb : Nat) (g2 h2 : Nat → Int32), u = some q ∧ f2 q = some (.inr (2, [.ref qa, .ref qb, .int s, .int v])) ∧ f2 qa = some (.inl (cy 0, (13 * s.toInt.toNat), .inl (g2))) ∧ f2 qb = some (.inl (cy 0, (2 * v.toInt.toNat), .inl (h2))) ∧ (∀ j : Nat, j < (13 * s.toInt.toNat) → g2 j = g j) ∧ (∀ j : Nat, j < (2 * v.toInt.toNat) → h2 j = h j) ∧ (f q = none ∧ f qa = none ∧ f qb = none ∧ qa ≠ qb) ∧ fr [] f f2) := by
  refine gC_of (by decide) (Nat.le_of_ble_eq_true rfl) ?_
  show gG l _ _ _ D cy b cX2_copyToSize 3 _ RX2 "copyToSize" 0 0 f 0 [(0, .ref p)] []
  refine snX2_16 (by simp only [gRm]; omega) (by simp only [gRm]; omega) dX2_copyToSize_0 (fun q1 hq1n => ?_)
  obtain ⟨f1, hf1⟩ : ∃ gg : gMem, gg = va_up f q1 (some (.inr (2, [.null, .null, .int 0, .int 0]))) := ⟨_, rfl⟩
  refine gz_eq (f2 := f1) hf1.symm rfl rfl rfl ?_
  have hp_1 : f1 p = some (.inr (2, [.ref c1, .ref c2, .int s, .int v])) := by rw [hf1, va_up_ne _ _ (cnn hp hq1n)]; exact hp
  have h1_1 : f1 c1 = some (.inl (cy 0, n1, .inl (g))) := by rw [hf1, va_up_ne _ _ (cnn h1 hq1n)]; exact h1
  have h2_1 : f1 c2 = some (.inl (cy 0, n2, .inl (h))) := by rw [hf1, va_up_ne _ _ (cnn h2 hq1n)]; exact h2
  have hq1_1 : f1 q1 = some (.inr (2, [.null, .null, .int 0, .int 0])) := by rw [hf1]; exact va_up_self _ _ _
  refine gz_dup dX2_copyToSize_3 rfl ?_
  refine gz_aload_n dX2_copyToSize_4 rfl rfl ?_
  refine sgX2_24 hp_1 rfl dX2_copyToSize_5 ?_
  refine gz_aload_n dX2_copyToSize_8 rfl rfl ?_
  refine sgX2_28 hp_1 rfl dX2_copyToSize_9 ?_
  refine scX2_77 (k_X2_initG (a := s) (c := v) hq1_1 (by omega) (by omega)) ⟨(Nat.le_of_ble_eq_true rfl), (Nat.le_of_ble_eq_true rfl)⟩ ⟨(by simp only [gRm]; omega), (by simp only [gRm]; omega)⟩ rfl rfl (Nat.le_of_ble_eq_true rfl) dX2_copyToSize_12 ?_
  rintro f2 ⟨qa_2, qb_2, hq1_2, hqa_2_2, hqb_2_2, hn3_2, hr2⟩
  have hp_2 : f2 p = some (.inr (2, [.ref c1, .ref c2, .int s, .int v])) := hr2 _ _ hp_1 (by simp only [List.mem_cons, List.not_mem_nil, or_false, not_or]; exact cne hp_1 hq1_1 (by simp))
  have h1_2 : f2 c1 = some (.inl (cy 0, n1, .inl (g))) := hr2 _ _ h1_1 (by simp only [List.mem_cons, List.not_mem_nil, or_false, not_or]; exact cne h1_1 hq1_1 (by simp))
  have h2_2 : f2 c2 = some (.inl (cy 0, n2, .inl (h))) := hr2 _ _ h2_1 (by simp only [List.mem_cons, List.not_mem_nil, or_false, not_or]; exact cne h2_1 hq1_1 (by simp))
  have hn_1 : f qa_2 = none := by have z := hn3_2.1; rw [hf1] at z; exact (nb z).2
  have hn_2 : f qb_2 = none := by have z := hn3_2.2.1; rw [hf1] at z; exact (nb z).2
  refine gz_astore_n (lv' := [(1, .ref q1), (0, .ref p)]) dX2_copyToSize_15 rfl (by decide) rfl ?_
  refine gz_aload_n dX2_copyToSize_16 rfl rfl ?_
  refine gz_aload_n dX2_copyToSize_17 rfl rfl ?_
  refine sgX2_24 hp_2 rfl dX2_copyToSize_18 ?_
  refine spX2_24 hq1_2  (Nat.le_of_ble_eq_true rfl) dX2_copyToSize_21 ?_
  obtain ⟨f3, hf3⟩ : ∃ gg : gMem, gg = va_up f2 q1 (some (.inr (2, [.ref qa_2, .ref qb_2, .int s, .int 0]))) := ⟨_, rfl⟩
  refine gz_eq (f2 := f3) hf3.symm rfl rfl rfl ?_
  have hp_3 : f3 p = some (.inr (2, [.ref c1, .ref c2, .int s, .int v])) := by rw [hf3, va_up_ne _ _ ((cnn hp hq1n))]; exact hp_2
  have h1_3 : f3 c1 = some (.inl (cy 0, n1, .inl (g))) := by rw [hf3, va_up_ne _ _ (cne h1_2 hq1_2 (by simp))]; exact h1_2
  have h2_3 : f3 c2 = some (.inl (cy 0, n2, .inl (h))) := by rw [hf3, va_up_ne _ _ (cne h2_2 hq1_2 (by simp))]; exact h2_2
  have hqa_3 : f3 qa_2 = some (.inl (cy 0, (13 * s.toInt.toNat), .inl (fun _ => 0))) := by rw [hf3, va_up_ne _ _ (cne hqa_2_2 hq1_2 (by simp))]; exact hqa_2_2
  have hqb_3 : f3 qb_2 = some (.inl (cy 0, (2 * v.toInt.toNat), .inl (fun _ => 0))) := by rw [hf3, va_up_ne _ _ (cne hqb_2_2 hq1_2 (by simp))]; exact hqb_2_2
  have hq1_3 : f3 q1 = some (.inr (2, [.ref qa_2, .ref qb_2, .int s, .int 0])) := by rw [hf3]; exact va_up_self _ _ _
  refine gz_aload_n dX2_copyToSize_24 rfl rfl ?_
  refine gz_aload_n dX2_copyToSize_25 rfl rfl ?_
  refine sgX2_28 hp_3 rfl dX2_copyToSize_26 ?_
  refine spX2_28 hq1_3  (Nat.le_of_ble_eq_true rfl) dX2_copyToSize_29 ?_
  obtain ⟨f4, hf4⟩ : ∃ gg : gMem, gg = va_up f3 q1 (some (.inr (2, [.ref qa_2, .ref qb_2, .int s, .int v]))) := ⟨_, rfl⟩
  refine gz_eq (f2 := f4) hf4.symm rfl rfl rfl ?_
  have hp_4 : f4 p = some (.inr (2, [.ref c1, .ref c2, .int s, .int v])) := by rw [hf4, va_up_ne _ _ ((cnn hp hq1n))]; exact hp_3
  have h1_4 : f4 c1 = some (.inl (cy 0, n1, .inl (g))) := by rw [hf4, va_up_ne _ _ (cne h1_3 hq1_3 (by simp))]; exact h1_3
  have h2_4 : f4 c2 = some (.inl (cy 0, n2, .inl (h))) := by rw [hf4, va_up_ne _ _ (cne h2_3 hq1_3 (by simp))]; exact h2_3
  have hqa_4 : f4 qa_2 = some (.inl (cy 0, (13 * s.toInt.toNat), .inl (fun _ => 0))) := by rw [hf4, va_up_ne _ _ (cne hqa_3 hq1_3 (by simp))]; exact hqa_3
  have hqb_4 : f4 qb_2 = some (.inl (cy 0, (2 * v.toInt.toNat), .inl (fun _ => 0))) := by rw [hf4, va_up_ne _ _ (cne hqb_3 hq1_3 (by simp))]; exact hqb_3
  have hq1_4 : f4 q1 = some (.inr (2, [.ref qa_2, .ref qb_2, .int s, .int v])) := by rw [hf4]; exact va_up_self _ _ _
  refine gz_iconst (v := 0) dX2_copyToSize_32 (by decide) ?_
  refine gz_istore_n (lv' := [(2, .int 0), (1, .ref q1), (0, .ref p)]) dX2_copyToSize_33 rfl (by decide) rfl ?_
  refine gz_sub (lv' := [(2, .int 0), (1, .ref q1), (0, .ref p)]) (by simp [List.lookup]) ?_
  exact l_X2_copy1 hs hv ⟨hq1n, hn_1, hn_2, hn3_2.2.2⟩ ⟨cnn h1 hn_1, cnn h2 hn_1, cnn h1 hn_2, cnn h2 hn_2⟩ 521 0 _ _ _ (by rw [hf4]; exact fr_up (by rw [hf3]; exact fr_up (fr_tr (by rw [hf1]; exact fr_up fr_rf (by simp)) (fr_mo hr2 (by simp))) (by simp)) (by simp)) hp_4 h1_4 h2_4 hq1_4 hqa_4 hqb_4 (fun j hj => absurd hj (by have e0 : (0 : Int32).toInt = 0 := rfl; omega)) ⟨by decide, by decide, fun _ => by have e0 : (0 : Int32).toInt = 0 := rfl; omega⟩
