set_option maxHeartbeats 4000000 in
set_option maxRecDepth 100000 in
theorem k_X11_keepN {l : Launch} {D : va_G} {cy : Nat → ClassId} {b : Nat} {f : gMem} {xo ch tp ou fm dt_ rd te la lg co wo p : Nat} {fcn : Int32} (hxo : f xo = some (.inr (11, [.ref ch, .ref tp, .ref ou, .ref fm, .ref p, .ref dt_, .ref rd, .ref te, .ref la, .ref lg, .ref co, .ref wo, .int fcn]))) (hc : 20 ≤ fcn.toInt) : gC l D cy b yX11_keepDraft cX11_keepDraft 1 (some .int) 1 0 0 [.ref xo] f (pI fun r f2 => r = -1 ∧ f2 = f) := by
  refine gC_of (by decide) (Nat.le_of_ble_eq_true rfl) ?_
  show gG l _ _ _ D cy b cX11_keepDraft 1 _ RX11 "keepDraft" 0 0 f 0 [(0, .ref xo)] []
  refine gz_aload_n dX11_keepDraft_0 rfl rfl ?_
  refine sgX11_116 hxo rfl dX11_keepDraft_1 ?_
  refine gz_bipush (v := 20) dX11_keepDraft_4 (by decide) ?_
  refine gz_icmp_lt (tgt := 11) dX11_keepDraft_6 (by decide) (fun c_6 => ?_) (fun c_6 => ?_)
  · exfalso; have e20 : (20 : Int32).toInt = 20 := rfl; simp only [fl_lt] at c_6; omega
  ·
    refine gz_iconst (v := (-1)) dX11_keepDraft_9 (by decide) ?_
    exact gz_iret rfl dX11_keepDraft_10 (Nat.le_of_ble_eq_true rfl) (Nat.le_of_ble_eq_true rfl) (⟨_, rfl, rfl, rfl⟩)

set_option maxHeartbeats 4000000 in
set_option maxRecDepth 100000 in
theorem k_X11_keepY {l : Launch} {D : va_G} {cy : Nat → ClassId} {b : Nat} {f : gMem} {xo ch tp ou fm dt_ rd te la lg co wo p c1 c2 n1 n2 : Nat} {fcn s v : Int32} {g h : Nat → Int32} {fmg : Nat → Option Nat} (hxo : f xo = some (.inr (11, [.ref ch, .ref tp, .ref ou, .ref fm, .ref p, .ref dt_, .ref rd, .ref te, .ref la, .ref lg, .ref co, .ref wo, .int fcn]))) (hfm : f fm = some (.inl (cy 4, 20, .inr (.inr (.inr (.inr (fmg))))))) (hp : f p = some (.inr (2, [.ref c1, .ref c2, .int s, .int v]))) (h1 : f c1 = some (.inl (cy 0, n1, .inl (g)))) (h2 : f c2 = some (.inl (cy 0, n2, .inl (h)))) (hs : 0 ≤ s.toInt ∧ 13 * s.toInt ≤ n1 ∧ n1 ≤ 520) (hv : 0 ≤ v.toInt ∧ 2 * v.toInt ≤ n2 ∧ n2 ≤ 80) (hc : 0 ≤ fcn.toInt ∧ fcn.toInt < 20) : gC l D cy b yX11_keepDraft cX11_keepDraft 1 (some .int) 3 3 (4 + ((13 * s.toInt.toNat) + (2 * v.toInt.toNat))) [.ref xo] f (pI fun r f2 => ∃ (q qa qb : Nat) (g2 h2 : Nat → Int32), f2 xo = some (.inr (11, [.ref ch, .ref tp, .ref ou, .ref fm, .ref p, .ref dt_, .ref rd, .ref te, .ref la, .ref lg, .ref co, .ref wo, .int (fcn + 1)])) ∧ f2 fm = some (.inl (cy 4, 20, .inr (.inr (.inr (.inr (va_up fmg (Int32.toNatClampNeg fcn) (some q))))))) ∧ f2 q = some (.inr (2, [.ref qa, .ref qb, .int s, .int v])) ∧ f2 qa = some (.inl (cy 0, (13 * s.toInt.toNat), .inl (g2))) ∧ f2 qb = some (.inl (cy 0, (2 * v.toInt.toNat), .inl (h2))) ∧ (∀ j : Nat, j < (13 * s.toInt.toNat) → g2 j = g j) ∧ (∀ j : Nat, j < (2 * v.toInt.toNat) → h2 j = h j) ∧ (f q = none ∧ f qa = none ∧ f qb = none ∧ qa ≠ qb) ∧ fr [xo, fm] f f2) := by
  refine gC_of (by decide) (Nat.le_of_ble_eq_true rfl) ?_
  show gG l _ _ _ D cy b cX11_keepDraft 1 _ RX11 "keepDraft" 0 0 f 0 [(0, .ref xo)] []
  refine gz_aload_n dX11_keepDraft_0 rfl rfl ?_
  refine sgX11_116 hxo rfl dX11_keepDraft_1 ?_
  refine gz_bipush (v := 20) dX11_keepDraft_4 (by decide) ?_
  refine gz_icmp_lt (tgt := 11) dX11_keepDraft_6 (by decide) (fun c_6 => ?_) (fun c_6 => ?_)
  ·
    refine gz_aload_n dX11_keepDraft_11 rfl rfl ?_
    refine sgX11_30 hxo rfl dX11_keepDraft_12 ?_
    refine gz_aload_n dX11_keepDraft_15 rfl rfl ?_
    refine sgX11_116 hxo rfl dX11_keepDraft_16 ?_
    refine gz_aload_n dX11_keepDraft_19 rfl rfl ?_
    refine sgX11_37 hxo rfl dX11_keepDraft_20 ?_
    refine scX11_244 (k_X2_copyToSize (q := 0) (qa := 0) (qb := 0) hp h1 h2 hs hv) hp ⟨(Nat.le_of_ble_eq_true rfl), (Nat.le_of_ble_eq_true rfl)⟩ ⟨(by simp only [gRm]; omega), (by simp only [gRm]; omega)⟩ rfl rfl (Nat.le_of_ble_eq_true rfl) dX11_keepDraft_23 ?_
    rintro u9 f1 ⟨q, qa, qb, g2, h2_, rfl, hqq, hqa, hqb, hg, hh_, hn3, hr1⟩
    refine gz_ev (w := .ref q) rfl ?_
    have hxo_1 : f1 xo = some (.inr (11, [.ref ch, .ref tp, .ref ou, .ref fm, .ref p, .ref dt_, .ref rd, .ref te, .ref la, .ref lg, .ref co, .ref wo, .int fcn])) := hr1 _ _ hxo (by simp)
    have hfm_1 : f1 fm = some (.inl (cy 4, 20, .inr (.inr (.inr (.inr (fmg)))))) := hr1 _ _ hfm (by simp)
    have hp_1 : f1 p = some (.inr (2, [.ref c1, .ref c2, .int s, .int v])) := hr1 _ _ hp (by simp)
    have h1_1 : f1 c1 = some (.inl (cy 0, n1, .inl (g))) := hr1 _ _ h1 (by simp)
    have h2_1 : f1 c2 = some (.inl (cy 0, n2, .inl (h))) := hr1 _ _ h2 (by simp)
    refine gz_aast4 hfm_1 hqq ((by exact vin_T (rfl : fcn.toInt = fcn.toInt) hc.1 hc.2)) dX11_keepDraft_26 ?_
    obtain ⟨f2, hf2⟩ : ∃ gg : gMem, gg = va_up f1 fm (some (.inl (cy 4, 20, .inr (.inr (.inr (.inr (va_up fmg (Int32.toNatClampNeg fcn) (some q)))))))) := ⟨_, rfl⟩
    refine gz_eq (f2 := f2) hf2.symm rfl rfl rfl ?_
    have hxo_2 : f2 xo = some (.inr (11, [.ref ch, .ref tp, .ref ou, .ref fm, .ref p, .ref dt_, .ref rd, .ref te, .ref la, .ref lg, .ref co, .ref wo, .int fcn])) := by rw [hf2, va_up_ne _ _ (cne hxo_1 hfm_1 (by simp))]; exact hxo_1
    have hp_2 : f2 p = some (.inr (2, [.ref c1, .ref c2, .int s, .int v])) := by rw [hf2, va_up_ne _ _ (cne hp_1 hfm_1 (by simp))]; exact hp_1
    have h1_2 : f2 c1 = some (.inl (cy 0, n1, .inl (g))) := by rw [hf2, va_up_ne _ _ (cne h1_1 hfm_1 (by simp))]; exact h1_1
    have h2_2 : f2 c2 = some (.inl (cy 0, n2, .inl (h))) := by rw [hf2, va_up_ne _ _ (cne h2_1 hfm_1 (by simp))]; exact h2_1
    have hqq_2 : f2 q = some (.inr (2, [.ref qa, .ref qb, .int s, .int v])) := by rw [hf2, va_up_ne _ _ (cne hqq hfm_1 (by simp))]; exact hqq
    have hqa_2 : f2 qa = some (.inl (cy 0, (13 * s.toInt.toNat), .inl (g2))) := by rw [hf2, va_up_ne _ _ (cne hqa hfm_1 (by simp))]; exact hqa
    have hqb_2 : f2 qb = some (.inl (cy 0, (2 * v.toInt.toNat), .inl (h2_))) := by rw [hf2, va_up_ne _ _ (cne hqb hfm_1 (by simp))]; exact hqb
    have hfm_2 : f2 fm = some (.inl (cy 4, 20, .inr (.inr (.inr (.inr (va_up fmg (Int32.toNatClampNeg fcn) (some q))))))) := by rw [hf2]; exact va_up_self _ _ _
    refine gz_aload_n dX11_keepDraft_27 rfl rfl ?_
    refine gz_dup dX11_keepDraft_28 rfl ?_
    refine sgX11_116 hxo_2 rfl dX11_keepDraft_29 ?_
    refine gz_iconst (v := 1) dX11_keepDraft_32 (by decide) ?_
    refine gz_iadd dX11_keepDraft_33 ?_
    refine spX11_116 hxo_2  (Nat.le_of_ble_eq_true rfl) dX11_keepDraft_34 ?_
    obtain ⟨f3, hf3⟩ : ∃ gg : gMem, gg = va_up f2 xo (some (.inr (11, [.ref ch, .ref tp, .ref ou, .ref fm, .ref p, .ref dt_, .ref rd, .ref te, .ref la, .ref lg, .ref co, .ref wo, .int (fcn + 1)]))) := ⟨_, rfl⟩
    refine gz_eq (f2 := f3) hf3.symm rfl rfl rfl ?_
    have hp_3 : f3 p = some (.inr (2, [.ref c1, .ref c2, .int s, .int v])) := by rw [hf3, va_up_ne _ _ (cne hp_2 hxo_2 (by simp))]; exact hp_2
    have h1_3 : f3 c1 = some (.inl (cy 0, n1, .inl (g))) := by rw [hf3, va_up_ne _ _ (cne h1_2 hxo_2 (by simp))]; exact h1_2
    have h2_3 : f3 c2 = some (.inl (cy 0, n2, .inl (h))) := by rw [hf3, va_up_ne _ _ (cne h2_2 hxo_2 (by simp))]; exact h2_2
    have hqq_3 : f3 q = some (.inr (2, [.ref qa, .ref qb, .int s, .int v])) := by rw [hf3, va_up_ne _ _ (cne hqq_2 hxo_2 (by simp))]; exact hqq_2
    have hqa_3 : f3 qa = some (.inl (cy 0, (13 * s.toInt.toNat), .inl (g2))) := by rw [hf3, va_up_ne _ _ (cne hqa_2 hxo_2 (by simp))]; exact hqa_2
    have hqb_3 : f3 qb = some (.inl (cy 0, (2 * v.toInt.toNat), .inl (h2_))) := by rw [hf3, va_up_ne _ _ (cne hqb_2 hxo_2 (by simp))]; exact hqb_2
    have hfm_3 : f3 fm = some (.inl (cy 4, 20, .inr (.inr (.inr (.inr (va_up fmg (Int32.toNatClampNeg fcn) (some q))))))) := by rw [hf3, va_up_ne _ _ (cne hfm_2 hxo_2 (by simp))]; exact hfm_2
    have hxo_3 : f3 xo = some (.inr (11, [.ref ch, .ref tp, .ref ou, .ref fm, .ref p, .ref dt_, .ref rd, .ref te, .ref la, .ref lg, .ref co, .ref wo, .int (fcn + 1)])) := by rw [hf3]; exact va_up_self _ _ _
    refine gz_aload_n dX11_keepDraft_37 rfl rfl ?_
    refine sgX11_116 hxo_3 rfl dX11_keepDraft_38 ?_
    refine gz_iconst (v := 1) dX11_keepDraft_41 (by decide) ?_
    refine gz_isub dX11_keepDraft_42 ?_
    exact gz_iret rfl dX11_keepDraft_43 (by omega) (by omega) (⟨_, rfl, q, qa, qb, g2, h2_, hxo_3, hfm_3, hqq_3, hqa_3, hqb_3, hg, hh_, hn3, (by rw [hf3]; exact fr_up (by rw [hf2]; exact fr_up (fr_tr fr_rf (fr_mo hr1 (by simp))) (by simp)) (by simp))⟩)
  · exfalso; have e20 : (20 : Int32).toInt = 20 := rfl; simp only [fl_lt] at c_6; omega
