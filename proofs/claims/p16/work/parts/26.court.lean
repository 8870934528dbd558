theorem enb {f f1 : gMem} {S : List Nat} {en e2 : Nat} (h : e2 = en ∨ f1 e2 = none) (hr : fr S f f1) (hS : ∀ x, x ∈ S → x = en ∨ ∃ e, f1 x = some e) : e2 = en ∨ f e2 = none := by
  rcases h with h | h
  · exact Or.inl h
  · cases q : f e2 with
    | none => exact Or.inr rfl
    | some y =>
      by_cases m : e2 ∈ S
      · rcases hS e2 m with z | ⟨e, z⟩
        · exact Or.inl z
        · rw [z] at h; cases h
      · rw [hr _ _ q m] at h; cases h
theorem eny {f f1 : gMem} {S : List Nat} {en e2 e3 : Nat} (h : e2 = en ∨ f e2 = none) (h1 : e3 = e2 ∨ f1 e3 = none) (hr : fr S f f1) (hS : ∀ x, x ∈ S → x = en ∨ ∃ e, f1 x = some e) : e3 = en ∨ f e3 = none := by
  rcases h1 with h1 | h1
  · rw [h1]; exact h
  · exact enb (Or.inr h1) hr hS
theorem frx {f f1 f2 : gMem} {a en e2 c d e : Nat} (h : e2 = en ∨ f e2 = none) (h1 : fr [a, en, c, d, e] f f1) (h2 : fr [a, e2, c, d, e] f1 f2) : fr [a, en, c, d, e] f f2 := by
  intro x y hx hn
  refine h2 x y (h1 x y hx hn) ?_
  simp only [List.mem_cons, List.not_mem_nil, or_false, not_or] at hn ⊢
  refine ⟨hn.1, ?_, hn.2.2.1, hn.2.2.2.1, hn.2.2.2.2⟩
  rcases h with h | h
  · rw [h]; exact hn.2.1
  · intro q; rw [← q, hx] at h; cases h

set_option maxHeartbeats 4000000 in
set_option maxRecDepth 100000 in
theorem k_X1_keep {l : Launch} {D : va_G} {cy : Nat → ClassId} {b : Nat} {f : gMem} {co lv sc lg en ge re gv tk am lf p so fc : Nat} {csz sz lo gi nu ho1 ho2 fs_ wd fa : Int32} {ga : Int64} {sg fg : Nat → Int32} (hco : f co = some (.inr (1, [.ref lv, .ref sc, .ref lg, .int csz]))) (hlg : f lg = some (.inr (4, [.ref en, .int sz, .int lo, .ref ge, .ref re, .ref gv, .ref tk, .ref am, .int gi]))) (hlf : f lf = some (.inr (5, [.ref p, .int nu, .int ho1, .int ho2, .ref so, .ref fc, .int fs_, .long ga]))) (hso : f so = some (.inl (cy 0, 40, .inl (sg)))) (hfc : f fc = some (.inl (cy 0, 40, .inl (fg)))) (hne1 : so ≠ fc) : gC l D cy b yX1_keep cX1_keep 4 none 1 0 0 [.ref co, .ref lf, .int wd, .int fa] f (pV fun f2 => ∃ (l2 z2 : Int32) (x2 y2 : Nat → Int32), f2 lg = some (.inr (4, [.ref en, .int sz, .int l2, .ref ge, .ref re, .ref gv, .ref tk, .ref am, .int gi])) ∧ f2 lf = some (.inr (5, [.ref p, .int nu, .int ho1, .int ho2, .ref so, .ref fc, .int z2, .long ga])) ∧ f2 so = some (.inl (cy 0, 40, .inl (x2))) ∧ f2 fc = some (.inl (cy 0, 40, .inl (y2))) ∧ fr [lg, lf, so, fc] f f2) := by
  refine gC_of (by decide) (Nat.le_of_ble_eq_true rfl) ?_
  show gG l _ _ _ D cy b cX1_keep 4 _ RX1 "keep" 0 0 f 0 [(0, .ref co), (1, .ref lf), (2, .int wd), (3, .int fa)] []
  refine gz_aload_n dX1_keep_0 rfl rfl ?_
  refine gz_iload_n dX1_keep_1 rfl rfl ?_
  refine gz_iload_n dX1_keep_2 rfl rfl ?_
  obtain ⟨x1, hx1⟩ : ∃ x0, (stdF sg fg fs_ wd fa) = x0 := ⟨_, rfl⟩
  refine scX1_81 (k_X5_stand (x := wd) (y := fa) hlf hso hfc hne1) hlf ⟨(Nat.le_of_ble_eq_true rfl), (Nat.le_of_ble_eq_true rfl)⟩ ⟨(Nat.le_of_ble_eq_true rfl), (Nat.le_of_ble_eq_true rfl)⟩ rfl rfl (Nat.le_of_ble_eq_true rfl) dX1_keep_3 ?_
  rintro r1 f1 ⟨z1, hso_1, hfc_1, hlf_1, hr1⟩; rw [hx1] at z1 hso_1 hfc_1 hlf_1; rw [z1]
  have hco_1 : f1 co = some (.inr (1, [.ref lv, .ref sc, .ref lg, .int csz])) := hr1 _ _ hco (by simp only [List.mem_cons, List.not_mem_nil, or_false, not_or]; exact ⟨cne hco hlf (by simp), cne hco hso (by simp), cne hco hfc (by simp)⟩)
  have hlg_1 : f1 lg = some (.inr (4, [.ref en, .int sz, .int lo, .ref ge, .ref re, .ref gv, .ref tk, .ref am, .int gi])) := hr1 _ _ hlg (by simp only [List.mem_cons, List.not_mem_nil, or_false, not_or]; exact ⟨cne hlg hlf (by simp), cne hlg hso (by simp), cne hlg hfc (by simp)⟩)
  refine gz_if_ne (tgt := 22) dX1_keep_6 (by decide) (fun c_6 => ?_) (fun c_6 => ?_)
  ·
    exact gz_vret rfl dX1_keep_22 (Nat.le_of_ble_eq_true rfl) (Nat.le_of_ble_eq_true rfl) (⟨rfl, _, _, _, _, hlg_1, hlf_1, hso_1, hfc_1, (fr_tr fr_rf (fr_mo hr1 (by simp)))⟩)
  ·
    refine gz_aload_n dX1_keep_9 rfl rfl ?_
    refine sgX1_21 hco_1 rfl dX1_keep_10 ?_
    refine gz_dup dX1_keep_13 rfl ?_
    refine sgX1_85 hlg_1 rfl dX1_keep_14 ?_
    refine gz_iconst (v := 1) dX1_keep_17 (by decide) ?_
    refine gz_iadd dX1_keep_18 ?_
    refine spX1_85 hlg_1  (Nat.le_of_ble_eq_true rfl) dX1_keep_19 ?_
    obtain ⟨f2, hf2⟩ : ∃ gg : gMem, gg = va_up f1 lg (some (.inr (4, [.ref en, .int sz, .int (lo + 1), .ref ge, .ref re, .ref gv, .ref tk, .ref am, .int gi]))) := ⟨_, rfl⟩
    refine gz_eq (f2 := f2) hf2.symm rfl rfl rfl ?_
    have hco_2 : f2 co = some (.inr (1, [.ref lv, .ref sc, .ref lg, .int csz])) := by rw [hf2, va_up_ne _ _ (cne hco_1 hlg_1 (by simp))]; exact hco_1
    have hso_2 : f2 so = some (.inl (cy 0, 40, .inl (x1.2.1))) := by rw [hf2, va_up_ne _ _ (cne hso_1 hlg_1 (by simp))]; exact hso_1
    have hfc_2 : f2 fc = some (.inl (cy 0, 40, .inl (x1.2.2.1))) := by rw [hf2, va_up_ne _ _ (cne hfc_1 hlg_1 (by simp))]; exact hfc_1
    have hlf_2 : f2 lf = some (.inr (5, [.ref p, .int nu, .int ho1, .int ho2, .ref so, .ref fc, .int x1.2.2.2, .long ga])) := by rw [hf2, va_up_ne _ _ (cne hlf_1 hlg_1 (by simp))]; exact hlf_1
    have hlg_2 : f2 lg = some (.inr (4, [.ref en, .int sz, .int (lo + 1), .ref ge, .ref re, .ref gv, .ref tk, .ref am, .int gi])) := by rw [hf2]; exact va_up_self _ _ _
    exact gz_vret rfl dX1_keep_22 (Nat.le_of_ble_eq_true rfl) (Nat.le_of_ble_eq_true rfl) (⟨rfl, _, _, _, _, hlg_2, hlf_2, hso_2, hfc_2, (by rw [hf2]; exact fr_up (fr_tr fr_rf (fr_mo hr1 (by simp))) (by simp))⟩)

set_option maxHeartbeats 4000000 in
set_option maxRecDepth 100000 in
theorem k_X1_rests {l : Launch} {D : va_G} {cy : Nat → ClassId} {b : Nat} {f : gMem} {co lv sc th lg lf p so fc c1 c2 n1 n2 : Nat} {csz da nu ho1 ho2 fs_ s v wd : Int32} {ga : Int64} {g h t : Nat → Int32} (hco : f co = some (.inr (1, [.ref lv, .ref sc, .ref lg, .int csz]))) (hlf : f lf = some (.inr (5, [.ref p, .int nu, .int ho1, .int ho2, .ref so, .ref fc, .int fs_, .long ga]))) (hp : f p = some (.inr (2, [.ref c1, .ref c2, .int s, .int v]))) (h1 : f c1 = some (.inl (cy 0, n1, .inl (g)))) (h2 : f c2 = some (.inl (cy 0, n2, .inl (h)))) (hsc : f sc = some (.inr (7, [.ref th, .int da]))) (hth : f th = some (.inl (cy 0, 6, .inl (t)))) (hs : 0 ≤ s.toInt ∧ 13 * s.toInt ≤ n1 ∧ n1 ≤ 520) (hv : 0 ≤ v.toInt ∧ 2 * v.toInt ≤ n2 ∧ n2 ≤ 80) : gC l D cy b yX1_rests cX1_rests 4 (some .boolean) 4 0 0 [.ref co, .ref lf, .int wd] f (pI fun r f2 => (r = 0 ∨ r = 1) ∧ f2 = f) := by
  refine gC_of (by decide) (Nat.le_of_ble_eq_true rfl) ?_
  show gG l _ _ _ D cy b cX1_rests 4 _ RX1 "rests" 0 0 f 0 [(0, .ref co), (1, .ref lf), (2, .int wd)] []
  refine gz_aload_n dX1_rests_0 rfl rfl ?_
  refine sgX1_39 hlf rfl dX1_rests_1 ?_
  refine gz_iload_n dX1_rests_4 rfl rfl ?_
  refine gz_iconst (v := 0) dX1_rests_5 (by decide) ?_
  refine scX1_49 (k_X2_field (w := wd) (k := 0) hp h1 hs) hp ⟨(Nat.le_of_ble_eq_true rfl), (Nat.le_of_ble_eq_true rfl)⟩ ⟨(Nat.le_of_ble_eq_true rfl), (Nat.le_of_ble_eq_true rfl)⟩ rfl rfl (Nat.le_of_ble_eq_true rfl) dX1_rests_6 ?_
  intro v9 f9 z9; rw [z9.1, z9.2]
  refine gz_istore_n (lv' := [(3, .int (fldF n1 g s wd 0)), (0, .ref co), (1, .ref lf), (2, .int wd)]) dX1_rests_9 rfl (by decide) rfl ?_
  refine gz_iload_n dX1_rests_10 rfl rfl ?_
  refine gz_iconst (v := 4) dX1_rests_11 (by decide) ?_
  refine gz_icmp_eq (tgt := 30) dX1_rests_12 (by decide) (fun c_12 => ?_) (fun c_12 => ?_)
  ·
    refine gz_iconst (v := 0) dX1_rests_30 (by decide) ?_
    exact gz_zret rfl (by first | decide | exact nrb (Or.inl rfl) | (refine nrb ?_; (repeat' split) <;> first | assumption | exact Or.inl rfl | exact Or.inr rfl)) dX1_rests_31 (Nat.le_of_ble_eq_true rfl) (Nat.le_of_ble_eq_true rfl) (⟨_, rfl, (by first | exact Or.inl rfl | exact Or.inr rfl), rfl⟩)
  ·
    refine gz_aload_n dX1_rests_15 rfl rfl ?_
    refine sgX1_39 hlf rfl dX1_rests_16 ?_
    refine gz_iload_n dX1_rests_19 rfl rfl ?_
    refine gz_aload_n dX1_rests_20 rfl rfl ?_
    refine sgX1_17 hco rfl dX1_rests_21 ?_
    refine scX1_43 (k_X2_lapsed (w := wd) hp h1 h2 hsc hth hs hv) hp ⟨(Nat.le_of_ble_eq_true rfl), (Nat.le_of_ble_eq_true rfl)⟩ ⟨(Nat.le_of_ble_eq_true rfl), (Nat.le_of_ble_eq_true rfl)⟩ rfl rfl (Nat.le_of_ble_eq_true rfl) dX1_rests_24 ?_
    intro v9 f9 z9; rw [z9.1, z9.2]
    refine gz_if_eq (tgt := 32) dX1_rests_27 (by decide) (fun c_27 => ?_) (fun c_27 => ?_)
    ·
      refine gz_iload_n dX1_rests_32 rfl rfl ?_
      refine gz_bipush (v := 6) dX1_rests_33 (by decide) ?_
      refine gz_icmp_ne (tgt := 53) dX1_rests_35 (by decide) (fun c_35 => ?_) (fun c_35 => ?_)
      ·
        refine gz_iconst (v := 1) dX1_rests_53 (by decide) ?_
        refine gz_goto (tgt := 58) dX1_rests_54 (by decide) ?_
        exact gz_zret rfl (by first | decide | exact nrb (Or.inl rfl) | (refine nrb ?_; (repeat' split) <;> first | assumption | exact Or.inl rfl | exact Or.inr rfl)) dX1_rests_58 (Nat.le_of_ble_eq_true rfl) (Nat.le_of_ble_eq_true rfl) (⟨_, rfl, (by first | exact Or.inl rfl | exact Or.inr rfl), rfl⟩)
      ·
        refine gz_aload_n dX1_rests_38 rfl rfl ?_
        refine sgX1_39 hlf rfl dX1_rests_39 ?_
        refine gz_iload_n dX1_rests_42 rfl rfl ?_
        refine gz_aload_n dX1_rests_43 rfl rfl ?_
        refine sgX1_17 hco rfl dX1_rests_44 ?_
        refine scX1_70 (k_X2_holds (w := wd) hp h1 h2 hsc hth hs hv) hp ⟨(Nat.le_of_ble_eq_true rfl), (Nat.le_of_ble_eq_true rfl)⟩ ⟨(Nat.le_of_ble_eq_true rfl), (Nat.le_of_ble_eq_true rfl)⟩ rfl rfl (Nat.le_of_ble_eq_true rfl) dX1_rests_47 ?_
        intro v9 f9 z9; rw [z9.1, z9.2]
        refine gz_if_ne (tgt := 57) dX1_rests_50 (by decide) (fun c_50 => ?_) (fun c_50 => ?_)
        ·
          refine gz_iconst (v := 0) dX1_rests_57 (by decide) ?_
          exact gz_zret rfl (by first | decide | exact nrb (Or.inl rfl) | (refine nrb ?_; (repeat' split) <;> first | assumption | exact Or.inl rfl | exact Or.inr rfl)) dX1_rests_58 (Nat.le_of_ble_eq_true rfl) (Nat.le_of_ble_eq_true rfl) (⟨_, rfl, (by first | exact Or.inl rfl | exact Or.inr rfl), rfl⟩)
        ·
          refine gz_iconst (v := 1) dX1_rests_53 (by decide) ?_
          refine gz_goto (tgt := 58) dX1_rests_54 (by decide) ?_
          exact gz_zret rfl (by first | decide | exact nrb (Or.inl rfl) | (refine nrb ?_; (repeat' split) <;> first | assumption | exact Or.inl rfl | exact Or.inr rfl)) dX1_rests_58 (Nat.le_of_ble_eq_true rfl) (Nat.le_of_ble_eq_true rfl) (⟨_, rfl, (by first | exact Or.inl rfl | exact Or.inr rfl), rfl⟩)
    ·
      refine gz_iconst (v := 0) dX1_rests_30 (by decide) ?_
      exact gz_zret rfl (by first | decide | exact nrb (Or.inl rfl) | (refine nrb ?_; (repeat' split) <;> first | assumption | exact Or.inl rfl | exact Or.inr rfl)) dX1_rests_31 (Nat.le_of_ble_eq_true rfl) (Nat.le_of_ble_eq_true rfl) (⟨_, rfl, (by first | exact Or.inl rfl | exact Or.inr rfl), rfl⟩)

set_option maxHeartbeats 4000000 in
set_option maxRecDepth 100000 in
theorem k_X1_acquire {l : Launch} {D : va_G} {cy : Nat → ClassId} {b : Nat} {co lv sc th lg ge re gv tk am lf p so fc c1 c2 n1 n2 : Nat} {csz da gi nu ho1 ho2 s v : Int32}  {g h t : Nat → Int32}  (hs : 0 ≤ s.toInt ∧ 13 * s.toInt ≤ n1 ∧ n1 ≤ 520) (hv : 0 ≤ v.toInt ∧ 2 * v.toInt ≤ n2 ∧ n2 ≤ 80) (hne : so ≠ fc ∧ so ≠ c1 ∧ so ≠ c2 ∧ so ≠ th ∧ fc ≠ c1 ∧ fc ≠ c2 ∧ fc ≠ th) : ∀ (k : Nat) (wd fa wi : Int32) (en ne : Nat) (eg : Nat → Int32) (sz lo fs_ : Int32) (ga : Int64) (sg fg : Nat → Int32) (f : gMem), (f co = some (.inr (1, [.ref lv, .ref sc, .ref lg, .int csz]))) → (f lf = some (.inr (5, [.ref p, .int nu, .int ho1, .int ho2, .ref so, .ref fc, .int fs_, .long ga]))) → (f so = some (.inl (cy 0, 40, .inl (sg)))) → (f fc = some (.inl (cy 0, 40, .inl (fg)))) → (f p = some (.inr (2, [.ref c1, .ref c2, .int s, .int v]))) → (f c1 = some (.inl (cy 0, n1, .inl (g)))) → (f c2 = some (.inl (cy 0, n2, .inl (h)))) → (f sc = some (.inr (7, [.ref th, .int da]))) → (f th = some (.inl (cy 0, 6, .inl (t)))) → (f lg = some (.inr (4, [.ref en, .int sz, .int lo, .ref ge, .ref re, .ref gv, .ref tk, .ref am, .int gi]))) → (f en = some (.inl (cy 0, ne, .inl (eg)))) → (0 ≤ sz.toInt ∧ sz.toInt ≤ 2000 ∧ 6 * sz.toInt ≤ ne ∧ ne ≤ 24000) → (en ≠ so ∧ en ≠ fc ∧ en ≠ c1 ∧ en ≠ c2 ∧ en ≠ th) → (0 ≤ wi.toInt ∧ wi.toInt ≤ 12 ∧ 12 - wi.toInt < (k : Int)) → gU l D cy b yX1_acquire cX1_acquire 8 none (5 + 1 * k) (24000 - ne) (2 * (24000 - ne)) [.ref co, .ref lf, .int wd, .int fa, .int wi] f gTt (fun kk nn r f2 => ∃ (e2 m2 : Nat) (g2 : Nat → Int32) (s2 l2 z2 : Int32) (a2 : Int64) (x2 y2 : Nat → Int32), r = none ∧ f2 lg = some (.inr (4, [.ref e2, .int s2, .int l2, .ref ge, .ref re, .ref gv, .ref tk, .ref am, .int gi])) ∧ f2 e2 = some (.inl (cy 0, m2, .inl (g2))) ∧ f2 lf = some (.inr (5, [.ref p, .int nu, .int ho1, .int ho2, .ref so, .ref fc, .int z2, .long a2])) ∧ f2 so = some (.inl (cy 0, 40, .inl (x2))) ∧ f2 fc = some (.inl (cy 0, 40, .inl (y2))) ∧ (0 ≤ s2.toInt ∧ s2.toInt ≤ 2000 ∧ 6 * s2.toInt ≤ m2 ∧ m2 ≤ 24000) ∧ (kk + ne ≤ m2 ∧ nn + 2 * ne ≤ 2 * m2) ∧ (e2 = en ∨ f e2 = none) ∧ fr [lg, en, lf, so, fc] f f2) := by
  intro k
  induction k with
  | zero =>
    intro wd fa wi en ne eg sz lo fs_ ga sg fg f hco hlf hso hfc hp h1 h2 hsc hth hlg hen hl hen2 hk
    exfalso; omega
  | succ k ih =>
    intro wd fa wi en ne eg sz lo fs_ ga sg fg f hco hlf hso hfc hp h1 h2 hsc hth hlg hen hl hen2 hk
    refine gU_of (by decide) (Nat.le_of_ble_eq_true rfl) ?_
    show gG l _ _ _ D cy b cX1_acquire 8 _ RX1 "acquire" 0 0 f 0 [(0, .ref co), (1, .ref lf), (2, .int wd), (3, .int fa), (4, .int wi)] []
    refine gz_aload_n dX1_acquire_0 rfl rfl ?_
    refine sgX1_39 hlf rfl dX1_acquire_1 ?_
    refine gz_astore (lv' := [(5, .ref p), (0, .ref co), (1, .ref lf), (2, .int wd), (3, .int fa), (4, .int wi)]) dX1_acquire_4 (by decide) rfl ?_
    refine gz_iload_n dX1_acquire_6 rfl rfl ?_
    refine gz_if_lt (tgt := 30) dX1_acquire_7 (by decide) (fun c_7 => ?_) (fun c_7 => ?_)
    ·
      exact gz_vretU rfl dX1_acquire_30 (by omega) (by omega) (⟨_, _, _, _, _, _, _, _, _, rfl, hlg, hen, hlf, hso, hfc, hl, ⟨by omega, by omega⟩, (Or.inl rfl), fr_rf⟩)
    ·
      refine gz_iload dX1_acquire_10 rfl ?_
      refine gz_bipush (v := 11) dX1_acquire_12 (by decide) ?_
      refine gz_icmp_gt (tgt := 30) dX1_acquire_14 (by decide) (fun c_14 => ?_) (fun c_14 => ?_)
      ·
        exact gz_vretU rfl dX1_acquire_30 (by omega) (by omega) (⟨_, _, _, _, _, _, _, _, _, rfl, hlg, hen, hlf, hso, hfc, hl, ⟨by omega, by omega⟩, (Or.inl rfl), fr_rf⟩)
      ·
        refine gz_aload dX1_acquire_17 rfl ?_
        refine gz_iload_n dX1_acquire_19 rfl rfl ?_
        refine gz_aload_n dX1_acquire_20 rfl rfl ?_
        refine sgX1_17 hco rfl dX1_acquire_21 ?_
        refine scX1_43 (k_X2_lapsed (w := wd) hp h1 h2 hsc hth hs hv) hp ⟨(by simp only [gRm]; omega), (by simp only [gRm]; omega)⟩ ⟨(by simp only [gRm]; omega), (by simp only [gRm]; omega)⟩ rfl rfl (Nat.le_of_ble_eq_true rfl) dX1_acquire_24 ?_
        intro v9 f9 z9; rw [z9.1, z9.2]
        refine gz_if_eq (tgt := 31) dX1_acquire_27 (by decide) (fun c_27 => ?_) (fun c_27 => ?_)
        ·
          refine gz_aload dX1_acquire_31 rfl ?_
          refine gz_iload_n dX1_acquire_33 rfl rfl ?_
          refine gz_iconst (v := 0) dX1_acquire_34 (by decide) ?_
          refine scX1_49 (k_X2_field (w := wd) (k := 0) hp h1 hs) hp ⟨(by simp only [gRm]; omega), (by simp only [gRm]; omega)⟩ ⟨(by simp only [gRm]; omega), (by simp only [gRm]; omega)⟩ rfl rfl (Nat.le_of_ble_eq_true rfl) dX1_acquire_35 ?_
          intro v9 f9 z9; rw [z9.1, z9.2]
          refine gz_istore (lv' := [(6, .int (fldF n1 g s wd 0)), (5, .ref p), (0, .ref co), (1, .ref lf), (2, .int wd), (3, .int fa), (4, .int wi)]) dX1_acquire_38 (by decide) rfl ?_
          refine gz_iload dX1_acquire_40 rfl ?_
          by_cases hw_42_0 : (fldF n1 g s wd 0) = (-1)
          ·
            refine gz_ev (w := .int (-1)) (congrArg Value.int hw_42_0) ?_
            refine gz_tableIn (off := 50) (tgt := 92) dX1_acquire_42 (by decide) (by decide) rfl (by decide) ?_
            exact gz_vretU rfl dX1_acquire_92 (by omega) (by omega) (⟨_, _, _, _, _, _, _, _, _, rfl, hlg, hen, hlf, hso, hfc, hl, ⟨by omega, by omega⟩, (Or.inl rfl), fr_rf⟩)
          ·
            by_cases hw_42_1 : (fldF n1 g s wd 0) = 0
            ·
              refine gz_ev (w := .int 0) (congrArg Value.int hw_42_1) ?_
              refine gz_tableIn (off := 50) (tgt := 92) dX1_acquire_42 (by decide) (by decide) rfl (by decide) ?_
              exact gz_vretU rfl dX1_acquire_92 (by omega) (by omega) (⟨_, _, _, _, _, _, _, _, _, rfl, hlg, hen, hlf, hso, hfc, hl, ⟨by omega, by omega⟩, (Or.inl rfl), fr_rf⟩)
            ·
              by_cases hw_42_2 : (fldF n1 g s wd 0) = 1
              ·
                refine gz_ev (w := .int 1) (congrArg Value.int hw_42_2) ?_
                refine gz_tableIn (off := 51) (tgt := 93) dX1_acquire_42 (by decide) (by decide) rfl (by decide) ?_
                refine gz_aload_n dX1_acquire_93 rfl rfl ?_
                refine sgX1_21 hco rfl dX1_acquire_94 ?_
                refine gz_aload_n dX1_acquire_97 rfl rfl ?_
                refine gz_aload_n dX1_acquire_98 rfl rfl ?_
                refine sgX1_17 hco rfl dX1_acquire_99 ?_
                refine sgX1_53 hsc rfl dX1_acquire_102 ?_
                refine gz_aload dX1_acquire_105 rfl ?_
                refine gz_iload_n dX1_acquire_107 rfl rfl ?_
                refine gz_iload_n dX1_acquire_108 rfl rfl ?_
                refine scX1_58 (k_X2_held (w := wd) (x := fa) hp h1 hs) hp ⟨(by simp only [gRm]; omega), (by simp only [gRm]; omega)⟩ ⟨(by simp only [gRm]; omega), (by simp only [gRm]; omega)⟩ rfl rfl (Nat.le_of_ble_eq_true rfl) dX1_acquire_109 ?_
                intro v9 f9 z9; rw [z9.1, z9.2]
                refine gz_iload_n dX1_acquire_112 rfl rfl ?_
                refine suX1_61 (k_X4_pay (da := da) (co := (heldF n1 g s wd fa)) (wd := wd) hlg hen hlf hl) hlg ⟨(by simp only [gRm]; omega), (by simp only [gRm]; omega)⟩ ⟨(by simp only [gRm]; omega), (by simp only [gRm]; omega)⟩ rfl rfl (Nat.le_of_ble_eq_true rfl) dX1_acquire_113 ?_
                rintro kk_1 nn_1 r_1 f1 ⟨e_1, m_1, g_1, s_1, l_1, a_1, rfl, hlg_1, he_1, hlf_1, hl_1, hu_1, hc_1, hr1⟩
                refine gz_eq (st2 := []) rfl rfl rfl rfl ?_
                have hco_1 : f1 co = some (.inr (1, [.ref lv, .ref sc, .ref lg, .int csz])) := hr1 _ _ hco (by simp only [List.mem_cons, List.not_mem_nil, or_false, not_or]; exact ⟨cne hco hlg (by simp), cne hco hen (by simp), cne hco hlf (by simp)⟩)
                have hso_1 : f1 so = some (.inl (cy 0, 40, .inl (sg))) := hr1 _ _ hso (by simp only [List.mem_cons, List.not_mem_nil, or_false, not_or]; exact ⟨cne hso hlg (by simp), Ne.symm (hen2.1), cne hso hlf (by simp)⟩)
                have hfc_1 : f1 fc = some (.inl (cy 0, 40, .inl (fg))) := hr1 _ _ hfc (by simp only [List.mem_cons, List.not_mem_nil, or_false, not_or]; exact ⟨cne hfc hlg (by simp), Ne.symm (hen2.2.1), cne hfc hlf (by simp)⟩)
                have hp_1 : f1 p = some (.inr (2, [.ref c1, .ref c2, .int s, .int v])) := hr1 _ _ hp (by simp only [List.mem_cons, List.not_mem_nil, or_false, not_or]; exact ⟨cne hp hlg (by simp), cne hp hen (by simp), cne hp hlf (by simp)⟩)
                have h1_1 : f1 c1 = some (.inl (cy 0, n1, .inl (g))) := hr1 _ _ h1 (by simp only [List.mem_cons, List.not_mem_nil, or_false, not_or]; exact ⟨cne h1 hlg (by simp), Ne.symm (hen2.2.2.1), cne h1 hlf (by simp)⟩)
                have h2_1 : f1 c2 = some (.inl (cy 0, n2, .inl (h))) := hr1 _ _ h2 (by simp only [List.mem_cons, List.not_mem_nil, or_false, not_or]; exact ⟨cne h2 hlg (by simp), Ne.symm (hen2.2.2.2.1), cne h2 hlf (by simp)⟩)
                have hsc_1 : f1 sc = some (.inr (7, [.ref th, .int da])) := hr1 _ _ hsc (by simp only [List.mem_cons, List.not_mem_nil, or_false, not_or]; exact ⟨cne hsc hlg (by simp), cne hsc hen (by simp), cne hsc hlf (by simp)⟩)
                have hth_1 : f1 th = some (.inl (cy 0, 6, .inl (t))) := hr1 _ _ hth (by simp only [List.mem_cons, List.not_mem_nil, or_false, not_or]; exact ⟨cne hth hlg (by simp), Ne.symm (hen2.2.2.2.2), cne hth hlf (by simp)⟩)
                exact gz_vretU rfl dX1_acquire_116 (by omega) (by omega) (⟨_, _, _, _, _, _, _, _, _, rfl, hlg_1, he_1, hlf_1, hso_1, hfc_1, hl_1, ⟨by omega, by omega⟩, hc_1, (fr_tr fr_rf (fr_mo hr1 (by simp)))⟩)
              ·
                by_cases hw_42_3 : (fldF n1 g s wd 0) = 2
                ·
                  refine gz_ev (w := .int 2) (congrArg Value.int hw_42_3) ?_
                  refine gz_tableIn (off := 83) (tgt := 125) dX1_acquire_42 (by decide) (by decide) rfl (by decide) ?_
                  refine gz_iload dX1_acquire_125 rfl ?_
                  refine gz_bipush (v := 6) dX1_acquire_127 (by decide) ?_
                  refine gz_icmp_ne (tgt := 153) dX1_acquire_129 (by decide) (fun c_129 => ?_) (fun c_129 => ?_)
                  ·
                    refine gz_aload dX1_acquire_153 rfl ?_
                    refine gz_iload_n dX1_acquire_155 rfl rfl ?_
                    refine gz_iload_n dX1_acquire_156 rfl rfl ?_
                    refine gz_aload_n dX1_acquire_157 rfl rfl ?_
                    refine sgX1_17 hco rfl dX1_acquire_158 ?_
                    refine scX1_73 (k_X2_passed (w := wd) (x := fa) hp h1 h2 hsc hth hs hv) hp ⟨(by simp only [gRm]; omega), (by simp only [gRm]; omega)⟩ ⟨(by simp only [gRm]; omega), (by simp only [gRm]; omega)⟩ rfl rfl (Nat.le_of_ble_eq_true rfl) dX1_acquire_161 ?_
                    intro v9 f9 z9; rw [z9.1, z9.2]
                    refine gz_istore (lv' := [(7, .int (pasF n1 n2 g h s v t da wd fa)), (6, .int (fldF n1 g s wd 0)), (5, .ref p), (0, .ref co), (1, .ref lf), (2, .int wd), (3, .int fa), (4, .int wi)]) dX1_acquire_164 (by decide) rfl ?_
                    refine gz_aload_n dX1_acquire_166 rfl rfl ?_
                    refine gz_aload_n dX1_acquire_167 rfl rfl ?_
                    refine gz_aload dX1_acquire_168 rfl ?_
                    refine gz_iload_n dX1_acquire_170 rfl rfl ?_
                    refine gz_aload_n dX1_acquire_171 rfl rfl ?_
                    refine sgX1_17 hco rfl dX1_acquire_172 ?_
                    refine scX1_77 (k_X2_nextDeed (w := wd) hp h1 hsc hs) hp ⟨(by simp only [gRm]; omega), (by simp only [gRm]; omega)⟩ ⟨(by simp only [gRm]; omega), (by simp only [gRm]; omega)⟩ rfl rfl (Nat.le_of_ble_eq_true rfl) dX1_acquire_175 ?_
                    intro v9 f9 z9; rw [z9.1, z9.2]
                    refine gz_iload dX1_acquire_178 rfl ?_
                    refine gz_iload dX1_acquire_180 rfl ?_
                    refine gz_iconst (v := 1) dX1_acquire_182 (by decide) ?_
                    refine gz_iadd dX1_acquire_183 ?_
                    refine suX1_32 (ih (nxtF n1 g s da wd) (pasF n1 n2 g h s v t da wd fa) (wi + 1) en _ _ sz lo fs_ ga _ _ _ hco hlf hso hfc hp h1 h2 hsc hth hlg hen hl hen2 (by have e13 : (13 : Int32).toInt = 13 := rfl; have e0 : (0 : Int32).toInt = 0 := rfl; have e2 : (2 : Int32).toInt = 2 := rfl; have e1 : (1 : Int32).toInt = 1 := rfl; have e6 : (6 : Int32).toInt = 6 := rfl; have em2 : (-2 : Int32).toInt = -2 := rfl; have e11 : (11 : Int32).toInt = 11 := rfl; simp only [fl_lt] at c_14; have hx := T_add (rfl : wi.toInt = wi.toInt) e1 (by omega); rw [hx]; omega)) hco ⟨(by simp only [gRm]; omega), (by simp only [gRm]; omega)⟩ ⟨(by simp only [gRm]; omega), (by simp only [gRm]; omega)⟩ rfl rfl (Nat.le_of_ble_eq_true rfl) dX1_acquire_184 ?_
                    rintro kk_2 nn_2 r_2 f2 ⟨e_2, m_2, g_2, s_2, l_2, z_2, a_2, x_2, y_2, rfl, hlg_2, he_2, hlf_2, hso_2, hfc_2, hl_2, hu_2, hc_2, hr2⟩
                    refine gz_eq (st2 := []) rfl rfl rfl rfl ?_
                    have hco_2 : f2 co = some (.inr (1, [.ref lv, .ref sc, .ref lg, .int csz])) := hr2 _ _ hco (by simp only [List.mem_cons, List.not_mem_nil, or_false, not_or]; exact ⟨cne hco hlg (by simp), cne hco hen (by simp), cne hco hlf (by simp), cne hco hso (by simp), cne hco hfc (by simp)⟩)
                    have hp_2 : f2 p = some (.inr (2, [.ref c1, .ref c2, .int s, .int v])) := hr2 _ _ hp (by simp only [List.mem_cons, List.not_mem_nil, or_false, not_or]; exact ⟨cne hp hlg (by simp), cne hp hen (by simp), cne hp hlf (by simp), cne hp hso (by simp), cne hp hfc (by simp)⟩)
                    have h1_2 : f2 c1 = some (.inl (cy 0, n1, .inl (g))) := hr2 _ _ h1 (by simp only [List.mem_cons, List.not_mem_nil, or_false, not_or]; exact ⟨cne h1 hlg (by simp), Ne.symm (hen2.2.2.1), cne h1 hlf (by simp), Ne.symm (hne.2.1), Ne.symm (hne.2.2.2.2.1)⟩)
                    have h2_2 : f2 c2 = some (.inl (cy 0, n2, .inl (h))) := hr2 _ _ h2 (by simp only [List.mem_cons, List.not_mem_nil, or_false, not_or]; exact ⟨cne h2 hlg (by simp), Ne.symm (hen2.2.2.2.1), cne h2 hlf (by simp), Ne.symm (hne.2.2.1), Ne.symm (hne.2.2.2.2.2.1)⟩)
                    have hsc_2 : f2 sc = some (.inr (7, [.ref th, .int da])) := hr2 _ _ hsc (by simp only [List.mem_cons, List.not_mem_nil, or_false, not_or]; exact ⟨cne hsc hlg (by simp), cne hsc hen (by simp), cne hsc hlf (by simp), cne hsc hso (by simp), cne hsc hfc (by simp)⟩)
                    have hth_2 : f2 th = some (.inl (cy 0, 6, .inl (t))) := hr2 _ _ hth (by simp only [List.mem_cons, List.not_mem_nil, or_false, not_or]; exact ⟨cne hth hlg (by simp), Ne.symm (hen2.2.2.2.2), cne hth hlf (by simp), Ne.symm (hne.2.2.2.1), Ne.symm (hne.2.2.2.2.2.2)⟩)
                    refine gz_iload dX1_acquire_187 rfl ?_
                    refine gz_iconst (v := 3) dX1_acquire_189 (by decide) ?_
                    refine gz_icmp_ne (tgt := 211) dX1_acquire_190 (by decide) (fun c_190 => ?_) (fun c_190 => ?_)
                    ·
                      exact gz_vretU rfl dX1_acquire_211 (by omega) (by omega) (⟨_, _, _, _, _, _, _, _, _, rfl, hlg_2, he_2, hlf_2, hso_2, hfc_2, hl_2, ⟨by omega, by omega⟩, hc_2, (fr_tr fr_rf (fr_mo hr2 (by simp)))⟩)
                    ·
                      refine gz_aload_n dX1_acquire_193 rfl rfl ?_
                      refine gz_aload_n dX1_acquire_194 rfl rfl ?_
                      refine gz_aload dX1_acquire_195 rfl ?_
                      refine gz_iload_n dX1_acquire_197 rfl rfl ?_
                      refine gz_iconst (v := 4) dX1_acquire_198 (by decide) ?_
                      refine scX1_49 (k_X2_field (w := wd) (k := 4) hp_2 h1_2 hs) hp_2 ⟨(by simp only [gRm]; omega), (by simp only [gRm]; omega)⟩ ⟨(by simp only [gRm]; omega), (by simp only [gRm]; omega)⟩ rfl rfl (Nat.le_of_ble_eq_true rfl) dX1_acquire_199 ?_
                      intro v9 f9 z9; rw [z9.1, z9.2]
                      refine gz_iload dX1_acquire_202 rfl ?_
                      refine gz_iload dX1_acquire_204 rfl ?_
                      refine gz_iconst (v := 1) dX1_acquire_206 (by decide) ?_
                      refine gz_iadd dX1_acquire_207 ?_
                      refine suX1_32 (ih (fldF n1 g s wd 4) (pasF n1 n2 g h s v t da wd fa) (wi + 1) e_2 _ _ s_2 l_2 z_2 a_2 _ _ _ hco_2 hlf_2 hso_2 hfc_2 hp_2 h1_2 h2_2 hsc_2 hth_2 hlg_2 he_2 hl_2 ⟨(enn hc_2 hso (hen2.1)), (enn hc_2 hfc (hen2.2.1)), (enn hc_2 h1 (hen2.2.2.1)), (enn hc_2 h2 (hen2.2.2.2.1)), (enn hc_2 hth (hen2.2.2.2.2))⟩ (by have e13 : (13 : Int32).toInt = 13 := rfl; have e0 : (0 : Int32).toInt = 0 := rfl; have e2 : (2 : Int32).toInt = 2 := rfl; have e1 : (1 : Int32).toInt = 1 := rfl; have e6 : (6 : Int32).toInt = 6 := rfl; have em2 : (-2 : Int32).toInt = -2 := rfl; have e11 : (11 : Int32).toInt = 11 := rfl; simp only [fl_lt] at c_14; have hx := T_add (rfl : wi.toInt = wi.toInt) e1 (by omega); rw [hx]; omega)) hco_2 ⟨(by simp only [gRm]; omega), (by simp only [gRm]; omega)⟩ ⟨(by simp only [gRm]; omega), (by simp only [gRm]; omega)⟩ rfl rfl (Nat.le_of_ble_eq_true rfl) dX1_acquire_208 ?_
                      rintro kk_3 nn_3 r_3 f3 ⟨e_3, m_3, g_3, s_3, l_3, z_3, a_3, x_3, y_3, rfl, hlg_3, he_3, hlf_3, hso_3, hfc_3, hl_3, hu_3, hc_3, hr3⟩
                      refine gz_eq (st2 := []) rfl rfl rfl rfl ?_
                      have hco_3 : f3 co = some (.inr (1, [.ref lv, .ref sc, .ref lg, .int csz])) := hr3 _ _ hco_2 (by simp only [List.mem_cons, List.not_mem_nil, or_false, not_or]; exact ⟨cne hco_2 hlg_2 (by simp), cne hco_2 he_2 (by simp), cne hco_2 hlf_2 (by simp), cne hco_2 hso_2 (by simp), cne hco_2 hfc_2 (by simp)⟩)
                      have hp_3 : f3 p = some (.inr (2, [.ref c1, .ref c2, .int s, .int v])) := hr3 _ _ hp_2 (by simp only [List.mem_cons, List.not_mem_nil, or_false, not_or]; exact ⟨cne hp_2 hlg_2 (by simp), cne hp_2 he_2 (by simp), cne hp_2 hlf_2 (by simp), cne hp_2 hso_2 (by simp), cne hp_2 hfc_2 (by simp)⟩)
                      have h1_3 : f3 c1 = some (.inl (cy 0, n1, .inl (g))) := hr3 _ _ h1_2 (by simp only [List.mem_cons, List.not_mem_nil, or_false, not_or]; exact ⟨cne h1_2 hlg_2 (by simp), Ne.symm ((enn hc_2 h1 (hen2.2.2.1))), cne h1_2 hlf_2 (by simp), Ne.symm (hne.2.1), Ne.symm (hne.2.2.2.2.1)⟩)
                      have h2_3 : f3 c2 = some (.inl (cy 0, n2, .inl (h))) := hr3 _ _ h2_2 (by simp only [List.mem_cons, List.not_mem_nil, or_false, not_or]; exact ⟨cne h2_2 hlg_2 (by simp), Ne.symm ((enn hc_2 h2 (hen2.2.2.2.1))), cne h2_2 hlf_2 (by simp), Ne.symm (hne.2.2.1), Ne.symm (hne.2.2.2.2.2.1)⟩)
                      have hsc_3 : f3 sc = some (.inr (7, [.ref th, .int da])) := hr3 _ _ hsc_2 (by simp only [List.mem_cons, List.not_mem_nil, or_false, not_or]; exact ⟨cne hsc_2 hlg_2 (by simp), cne hsc_2 he_2 (by simp), cne hsc_2 hlf_2 (by simp), cne hsc_2 hso_2 (by simp), cne hsc_2 hfc_2 (by simp)⟩)
                      have hth_3 : f3 th = some (.inl (cy 0, 6, .inl (t))) := hr3 _ _ hth_2 (by simp only [List.mem_cons, List.not_mem_nil, or_false, not_or]; exact ⟨cne hth_2 hlg_2 (by simp), Ne.symm ((enn hc_2 hth (hen2.2.2.2.2))), cne hth_2 hlf_2 (by simp), Ne.symm (hne.2.2.2.1), Ne.symm (hne.2.2.2.2.2.2)⟩)
                      have hcc_3 : e_3 = en ∨ f e_3 = none := eny (S := [lg, en, lf, so, fc]) hc_2 hc_3 (fr_tr fr_rf (fr_mo hr2 (by simp))) (by intro z hz2; simp only [List.mem_cons, List.not_mem_nil, or_false] at hz2; rcases hz2 with rfl | rfl | rfl | rfl | rfl; exact Or.inr ⟨_, hlg_2⟩; exact Or.inl rfl; exact Or.inr ⟨_, hlf_2⟩; exact Or.inr ⟨_, hso_2⟩; exact Or.inr ⟨_, hfc_2⟩)
                      exact gz_vretU rfl dX1_acquire_211 (by omega) (by omega) (⟨_, _, _, _, _, _, _, _, _, rfl, hlg_3, he_3, hlf_3, hso_3, hfc_3, hl_3, ⟨by omega, by omega⟩, hcc_3, (frx hc_2 (fr_tr fr_rf (fr_mo hr2 (by simp))) hr3)⟩)
                  ·
                    refine gz_aload dX1_acquire_132 rfl ?_
                    refine gz_iload_n dX1_acquire_134 rfl rfl ?_
                    refine gz_aload_n dX1_acquire_135 rfl rfl ?_
                    refine sgX1_17 hco rfl dX1_acquire_136 ?_
                    refine scX1_70 (k_X2_holds (w := wd) hp h1 h2 hsc hth hs hv) hp ⟨(by simp only [gRm]; omega), (by simp only [gRm]; omega)⟩ ⟨(by simp only [gRm]; omega), (by simp only [gRm]; omega)⟩ rfl rfl (Nat.le_of_ble_eq_true rfl) dX1_acquire_139 ?_
                    intro v9 f9 z9; rw [z9.1, z9.2]
                    refine gz_if_ne (tgt := 153) dX1_acquire_142 (by decide) (fun c_142 => ?_) (fun c_142 => ?_)
                    ·
                      refine gz_aload dX1_acquire_153 rfl ?_
                      refine gz_iload_n dX1_acquire_155 rfl rfl ?_
                      refine gz_iload_n dX1_acquire_156 rfl rfl ?_
                      refine gz_aload_n dX1_acquire_157 rfl rfl ?_
                      refine sgX1_17 hco rfl dX1_acquire_158 ?_
                      refine scX1_73 (k_X2_passed (w := wd) (x := fa) hp h1 h2 hsc hth hs hv) hp ⟨(by simp only [gRm]; omega), (by simp only [gRm]; omega)⟩ ⟨(by simp only [gRm]; omega), (by simp only [gRm]; omega)⟩ rfl rfl (Nat.le_of_ble_eq_true rfl) dX1_acquire_161 ?_
                      intro v9 f9 z9; rw [z9.1, z9.2]
                      refine gz_istore (lv' := [(7, .int (pasF n1 n2 g h s v t da wd fa)), (6, .int (fldF n1 g s wd 0)), (5, .ref p), (0, .ref co), (1, .ref lf), (2, .int wd), (3, .int fa), (4, .int wi)]) dX1_acquire_164 (by decide) rfl ?_
                      refine gz_aload_n dX1_acquire_166 rfl rfl ?_
                      refine gz_aload_n dX1_acquire_167 rfl rfl ?_
                      refine gz_aload dX1_acquire_168 rfl ?_
                      refine gz_iload_n dX1_acquire_170 rfl rfl ?_
                      refine gz_aload_n dX1_acquire_171 rfl rfl ?_
                      refine sgX1_17 hco rfl dX1_acquire_172 ?_
                      refine scX1_77 (k_X2_nextDeed (w := wd) hp h1 hsc hs) hp ⟨(by simp only [gRm]; omega), (by simp only [gRm]; omega)⟩ ⟨(by simp only [gRm]; omega), (by simp only [gRm]; omega)⟩ rfl rfl (Nat.le_of_ble_eq_true rfl) dX1_acquire_175 ?_
                      intro v9 f9 z9; rw [z9.1, z9.2]
                      refine gz_iload dX1_acquire_178 rfl ?_
                      refine gz_iload dX1_acquire_180 rfl ?_
                      refine gz_iconst (v := 1) dX1_acquire_182 (by decide) ?_
                      refine gz_iadd dX1_acquire_183 ?_
                      refine suX1_32 (ih (nxtF n1 g s da wd) (pasF n1 n2 g h s v t da wd fa) (wi + 1) en _ _ sz lo fs_ ga _ _ _ hco hlf hso hfc hp h1 h2 hsc hth hlg hen hl hen2 (by have e13 : (13 : Int32).toInt = 13 := rfl; have e0 : (0 : Int32).toInt = 0 := rfl; have e2 : (2 : Int32).toInt = 2 := rfl; have e1 : (1 : Int32).toInt = 1 := rfl; have e6 : (6 : Int32).toInt = 6 := rfl; have em2 : (-2 : Int32).toInt = -2 := rfl; have e11 : (11 : Int32).toInt = 11 := rfl; simp only [fl_lt] at c_14; have hx := T_add (rfl : wi.toInt = wi.toInt) e1 (by omega); rw [hx]; omega)) hco ⟨(by simp only [gRm]; omega), (by simp only [gRm]; omega)⟩ ⟨(by simp only [gRm]; omega), (by simp only [gRm]; omega)⟩ rfl rfl (Nat.le_of_ble_eq_true rfl) dX1_acquire_184 ?_
                      rintro kk_4 nn_4 r_4 f4 ⟨e_4, m_4, g_4, s_4, l_4, z_4, a_4, x_4, y_4, rfl, hlg_4, he_4, hlf_4, hso_4, hfc_4, hl_4, hu_4, hc_4, hr4⟩
                      refine gz_eq (st2 := []) rfl rfl rfl rfl ?_
                      have hco_4 : f4 co = some (.inr (1, [.ref lv, .ref sc, .ref lg, .int csz])) := hr4 _ _ hco (by simp only [List.mem_cons, List.not_mem_nil, or_false, not_or]; exact ⟨cne hco hlg (by simp), cne hco hen (by simp), cne hco hlf (by simp), cne hco hso (by simp), cne hco hfc (by simp)⟩)
                      have hp_4 : f4 p = some (.inr (2, [.ref c1, .ref c2, .int s, .int v])) := hr4 _ _ hp (by simp only [List.mem_cons, List.not_mem_nil, or_false, not_or]; exact ⟨cne hp hlg (by simp), cne hp hen (by simp), cne hp hlf (by simp), cne hp hso (by simp), cne hp hfc (by simp)⟩)
                      have h1_4 : f4 c1 = some (.inl (cy 0, n1, .inl (g))) := hr4 _ _ h1 (by simp only [List.mem_cons, List.not_mem_nil, or_false, not_or]; exact ⟨cne h1 hlg (by simp), Ne.symm (hen2.2.2.1), cne h1 hlf (by simp), Ne.symm (hne.2.1), Ne.symm (hne.2.2.2.2.1)⟩)
                      have h2_4 : f4 c2 = some (.inl (cy 0, n2, .inl (h))) := hr4 _ _ h2 (by simp only [List.mem_cons, List.not_mem_nil, or_false, not_or]; exact ⟨cne h2 hlg (by simp), Ne.symm (hen2.2.2.2.1), cne h2 hlf (by simp), Ne.symm (hne.2.2.1), Ne.symm (hne.2.2.2.2.2.1)⟩)
                      have hsc_4 : f4 sc = some (.inr (7, [.ref th, .int da])) := hr4 _ _ hsc (by simp only [List.mem_cons, List.not_mem_nil, or_false, not_or]; exact ⟨cne hsc hlg (by simp), cne hsc hen (by simp), cne hsc hlf (by simp), cne hsc hso (by simp), cne hsc hfc (by simp)⟩)
                      have hth_4 : f4 th = some (.inl (cy 0, 6, .inl (t))) := hr4 _ _ hth (by simp only [List.mem_cons, List.not_mem_nil, or_false, not_or]; exact ⟨cne hth hlg (by simp), Ne.symm (hen2.2.2.2.2), cne hth hlf (by simp), Ne.symm (hne.2.2.2.1), Ne.symm (hne.2.2.2.2.2.2)⟩)
                      refine gz_iload dX1_acquire_187 rfl ?_
                      refine gz_iconst (v := 3) dX1_acquire_189 (by decide) ?_
                      refine gz_icmp_ne (tgt := 211) dX1_acquire_190 (by decide) (fun c_190 => ?_) (fun c_190 => ?_)
                      ·
                        exact gz_vretU rfl dX1_acquire_211 (by omega) (by omega) (⟨_, _, _, _, _, _, _, _, _, rfl, hlg_4, he_4, hlf_4, hso_4, hfc_4, hl_4, ⟨by omega, by omega⟩, hc_4, (fr_tr fr_rf (fr_mo hr4 (by simp)))⟩)
                      ·
                        refine gz_aload_n dX1_acquire_193 rfl rfl ?_
                        refine gz_aload_n dX1_acquire_194 rfl rfl ?_
                        refine gz_aload dX1_acquire_195 rfl ?_
                        refine gz_iload_n dX1_acquire_197 rfl rfl ?_
                        refine gz_iconst (v := 4) dX1_acquire_198 (by decide) ?_
                        refine scX1_49 (k_X2_field (w := wd) (k := 4) hp_4 h1_4 hs) hp_4 ⟨(by simp only [gRm]; omega), (by simp only [gRm]; omega)⟩ ⟨(by simp only [gRm]; omega), (by simp only [gRm]; omega)⟩ rfl rfl (Nat.le_of_ble_eq_true rfl) dX1_acquire_199 ?_
                        intro v9 f9 z9; rw [z9.1, z9.2]
                        refine gz_iload dX1_acquire_202 rfl ?_
                        refine gz_iload dX1_acquire_204 rfl ?_
                        refine gz_iconst (v := 1) dX1_acquire_206 (by decide) ?_
                        refine gz_iadd dX1_acquire_207 ?_
                        refine suX1_32 (ih (fldF n1 g s wd 4) (pasF n1 n2 g h s v t da wd fa) (wi + 1) e_4 _ _ s_4 l_4 z_4 a_4 _ _ _ hco_4 hlf_4 hso_4 hfc_4 hp_4 h1_4 h2_4 hsc_4 hth_4 hlg_4 he_4 hl_4 ⟨(enn hc_4 hso (hen2.1)), (enn hc_4 hfc (hen2.2.1)), (enn hc_4 h1 (hen2.2.2.1)), (enn hc_4 h2 (hen2.2.2.2.1)), (enn hc_4 hth (hen2.2.2.2.2))⟩ (by have e13 : (13 : Int32).toInt = 13 := rfl; have e0 : (0 : Int32).toInt = 0 := rfl; have e2 : (2 : Int32).toInt = 2 := rfl; have e1 : (1 : Int32).toInt = 1 := rfl; have e6 : (6 : Int32).toInt = 6 := rfl; have em2 : (-2 : Int32).toInt = -2 := rfl; have e11 : (11 : Int32).toInt = 11 := rfl; simp only [fl_lt] at c_14; have hx := T_add (rfl : wi.toInt = wi.toInt) e1 (by omega); rw [hx]; omega)) hco_4 ⟨(by simp only [gRm]; omega), (by simp only [gRm]; omega)⟩ ⟨(by simp only [gRm]; omega), (by simp only [gRm]; omega)⟩ rfl rfl (Nat.le_of_ble_eq_true rfl) dX1_acquire_208 ?_
                        rintro kk_5 nn_5 r_5 f5 ⟨e_5, m_5, g_5, s_5, l_5, z_5, a_5, x_5, y_5, rfl, hlg_5, he_5, hlf_5, hso_5, hfc_5, hl_5, hu_5, hc_5, hr5⟩
                        refine gz_eq (st2 := []) rfl rfl rfl rfl ?_
                        have hco_5 : f5 co = some (.inr (1, [.ref lv, .ref sc, .ref lg, .int csz])) := hr5 _ _ hco_4 (by simp only [List.mem_cons, List.not_mem_nil, or_false, not_or]; exact ⟨cne hco_4 hlg_4 (by simp), cne hco_4 he_4 (by simp), cne hco_4 hlf_4 (by simp), cne hco_4 hso_4 (by simp), cne hco_4 hfc_4 (by simp)⟩)
                        have hp_5 : f5 p = some (.inr (2, [.ref c1, .ref c2, .int s, .int v])) := hr5 _ _ hp_4 (by simp only [List.mem_cons, List.not_mem_nil, or_false, not_or]; exact ⟨cne hp_4 hlg_4 (by simp), cne hp_4 he_4 (by simp), cne hp_4 hlf_4 (by simp), cne hp_4 hso_4 (by simp), cne hp_4 hfc_4 (by simp)⟩)
                        have h1_5 : f5 c1 = some (.inl (cy 0, n1, .inl (g))) := hr5 _ _ h1_4 (by simp only [List.mem_cons, List.not_mem_nil, or_false, not_or]; exact ⟨cne h1_4 hlg_4 (by simp), Ne.symm ((enn hc_4 h1 (hen2.2.2.1))), cne h1_4 hlf_4 (by simp), Ne.symm (hne.2.1), Ne.symm (hne.2.2.2.2.1)⟩)
                        have h2_5 : f5 c2 = some (.inl (cy 0, n2, .inl (h))) := hr5 _ _ h2_4 (by simp only [List.mem_cons, List.not_mem_nil, or_false, not_or]; exact ⟨cne h2_4 hlg_4 (by simp), Ne.symm ((enn hc_4 h2 (hen2.2.2.2.1))), cne h2_4 hlf_4 (by simp), Ne.symm (hne.2.2.1), Ne.symm (hne.2.2.2.2.2.1)⟩)
                        have hsc_5 : f5 sc = some (.inr (7, [.ref th, .int da])) := hr5 _ _ hsc_4 (by simp only [List.mem_cons, List.not_mem_nil, or_false, not_or]; exact ⟨cne hsc_4 hlg_4 (by simp), cne hsc_4 he_4 (by simp), cne hsc_4 hlf_4 (by simp), cne hsc_4 hso_4 (by simp), cne hsc_4 hfc_4 (by simp)⟩)
                        have hth_5 : f5 th = some (.inl (cy 0, 6, .inl (t))) := hr5 _ _ hth_4 (by simp only [List.mem_cons, List.not_mem_nil, or_false, not_or]; exact ⟨cne hth_4 hlg_4 (by simp), Ne.symm ((enn hc_4 hth (hen2.2.2.2.2))), cne hth_4 hlf_4 (by simp), Ne.symm (hne.2.2.2.1), Ne.symm (hne.2.2.2.2.2.2)⟩)
                        have hcc_5 : e_5 = en ∨ f e_5 = none := eny (S := [lg, en, lf, so, fc]) hc_4 hc_5 (fr_tr fr_rf (fr_mo hr4 (by simp))) (by intro z hz2; simp only [List.mem_cons, List.not_mem_nil, or_false] at hz2; rcases hz2 with rfl | rfl | rfl | rfl | rfl; exact Or.inr ⟨_, hlg_4⟩; exact Or.inl rfl; exact Or.inr ⟨_, hlf_4⟩; exact Or.inr ⟨_, hso_4⟩; exact Or.inr ⟨_, hfc_4⟩)
                        exact gz_vretU rfl dX1_acquire_211 (by omega) (by omega) (⟨_, _, _, _, _, _, _, _, _, rfl, hlg_5, he_5, hlf_5, hso_5, hfc_5, hl_5, ⟨by omega, by omega⟩, hcc_5, (frx hc_4 (fr_tr fr_rf (fr_mo hr4 (by simp))) hr5)⟩)
                    ·
                      refine gz_aload_n dX1_acquire_145 rfl rfl ?_
                      refine gz_aload_n dX1_acquire_146 rfl rfl ?_
                      refine gz_iload_n dX1_acquire_147 rfl rfl ?_
                      refine gz_iload_n dX1_acquire_148 rfl rfl ?_
                      refine scX1_66 (k_X1_keep (wd := wd) (fa := fa) hco hlg hlf hso hfc hne.1) hco ⟨(by simp only [gRm]; omega), (by simp only [gRm]; omega)⟩ ⟨(by simp only [gRm]; omega), (by simp only [gRm]; omega)⟩ rfl rfl (Nat.le_of_ble_eq_true rfl) dX1_acquire_149 ?_
                      rintro f6 ⟨l_6, z_6, x_6, y_6, hlg_6, hlf_6, hso_6, hfc_6, hr6⟩
                      have hco_6 : f6 co = some (.inr (1, [.ref lv, .ref sc, .ref lg, .int csz])) := hr6 _ _ hco (by simp only [List.mem_cons, List.not_mem_nil, or_false, not_or]; exact ⟨cne hco hlg (by simp), cne hco hlf (by simp), cne hco hso (by simp), cne hco hfc (by simp)⟩)
                      have hp_6 : f6 p = some (.inr (2, [.ref c1, .ref c2, .int s, .int v])) := hr6 _ _ hp (by simp only [List.mem_cons, List.not_mem_nil, or_false, not_or]; exact ⟨cne hp hlg (by simp), cne hp hlf (by simp), cne hp hso (by simp), cne hp hfc (by simp)⟩)
                      have h1_6 : f6 c1 = some (.inl (cy 0, n1, .inl (g))) := hr6 _ _ h1 (by simp only [List.mem_cons, List.not_mem_nil, or_false, not_or]; exact ⟨cne h1 hlg (by simp), cne h1 hlf (by simp), Ne.symm (hne.2.1), Ne.symm (hne.2.2.2.2.1)⟩)
                      have h2_6 : f6 c2 = some (.inl (cy 0, n2, .inl (h))) := hr6 _ _ h2 (by simp only [List.mem_cons, List.not_mem_nil, or_false, not_or]; exact ⟨cne h2 hlg (by simp), cne h2 hlf (by simp), Ne.symm (hne.2.2.1), Ne.symm (hne.2.2.2.2.2.1)⟩)
                      have hsc_6 : f6 sc = some (.inr (7, [.ref th, .int da])) := hr6 _ _ hsc (by simp only [List.mem_cons, List.not_mem_nil, or_false, not_or]; exact ⟨cne hsc hlg (by simp), cne hsc hlf (by simp), cne hsc hso (by simp), cne hsc hfc (by simp)⟩)
                      have hth_6 : f6 th = some (.inl (cy 0, 6, .inl (t))) := hr6 _ _ hth (by simp only [List.mem_cons, List.not_mem_nil, or_false, not_or]; exact ⟨cne hth hlg (by simp), cne hth hlf (by simp), Ne.symm (hne.2.2.2.1), Ne.symm (hne.2.2.2.2.2.2)⟩)
                      have hen_6 : f6 en = some (.inl (cy 0, ne, .inl (eg))) := hr6 _ _ hen (by simp only [List.mem_cons, List.not_mem_nil, or_false, not_or]; exact ⟨cne hen hlg (by simp), cne hen hlf (by simp), hen2.1, hen2.2.1⟩)
                      exact gz_vretU rfl dX1_acquire_152 (by omega) (by omega) (⟨_, _, _, _, _, _, _, _, _, rfl, hlg_6, hen_6, hlf_6, hso_6, hfc_6, hl, ⟨by omega, by omega⟩, (Or.inl rfl), (fr_tr fr_rf (fr_mo hr6 (by simp)))⟩)
                ·
                  by_cases hw_42_4 : (fldF n1 g s wd 0) = 3
                  ·
                    refine gz_ev (w := .int 3) (congrArg Value.int hw_42_4) ?_
                    refine gz_tableIn (off := 83) (tgt := 125) dX1_acquire_42 (by decide) (by decide) rfl (by decide) ?_
                    refine gz_iload dX1_acquire_125 rfl ?_
                    refine gz_bipush (v := 6) dX1_acquire_127 (by decide) ?_
                    refine gz_icmp_ne (tgt := 153) dX1_acquire_129 (by decide) (fun c_129 => ?_) (fun c_129 => ?_)
                    ·
                      refine gz_aload dX1_acquire_153 rfl ?_
                      refine gz_iload_n dX1_acquire_155 rfl rfl ?_
                      refine gz_iload_n dX1_acquire_156 rfl rfl ?_
                      refine gz_aload_n dX1_acquire_157 rfl rfl ?_
                      refine sgX1_17 hco rfl dX1_acquire_158 ?_
                      refine scX1_73 (k_X2_passed (w := wd) (x := fa) hp h1 h2 hsc hth hs hv) hp ⟨(by simp only [gRm]; omega), (by simp only [gRm]; omega)⟩ ⟨(by simp only [gRm]; omega), (by simp only [gRm]; omega)⟩ rfl rfl (Nat.le_of_ble_eq_true rfl) dX1_acquire_161 ?_
                      intro v9 f9 z9; rw [z9.1, z9.2]
                      refine gz_istore (lv' := [(7, .int (pasF n1 n2 g h s v t da wd fa)), (6, .int (fldF n1 g s wd 0)), (5, .ref p), (0, .ref co), (1, .ref lf), (2, .int wd), (3, .int fa), (4, .int wi)]) dX1_acquire_164 (by decide) rfl ?_
                      refine gz_aload_n dX1_acquire_166 rfl rfl ?_
                      refine gz_aload_n dX1_acquire_167 rfl rfl ?_
                      refine gz_aload dX1_acquire_168 rfl ?_
                      refine gz_iload_n dX1_acquire_170 rfl rfl ?_
                      refine gz_aload_n dX1_acquire_171 rfl rfl ?_
                      refine sgX1_17 hco rfl dX1_acquire_172 ?_
                      refine scX1_77 (k_X2_nextDeed (w := wd) hp h1 hsc hs) hp ⟨(by simp only [gRm]; omega), (by simp only [gRm]; omega)⟩ ⟨(by simp only [gRm]; omega), (by simp only [gRm]; omega)⟩ rfl rfl (Nat.le_of_ble_eq_true rfl) dX1_acquire_175 ?_
                      intro v9 f9 z9; rw [z9.1, z9.2]
                      refine gz_iload dX1_acquire_178 rfl ?_
                      refine gz_iload dX1_acquire_180 rfl ?_
                      refine gz_iconst (v := 1) dX1_acquire_182 (by decide) ?_
                      refine gz_iadd dX1_acquire_183 ?_
                      refine suX1_32 (ih (nxtF n1 g s da wd) (pasF n1 n2 g h s v t da wd fa) (wi + 1) en _ _ sz lo fs_ ga _ _ _ hco hlf hso hfc hp h1 h2 hsc hth hlg hen hl hen2 (by have e13 : (13 : Int32).toInt = 13 := rfl; have e0 : (0 : Int32).toInt = 0 := rfl; have e2 : (2 : Int32).toInt = 2 := rfl; have e1 : (1 : Int32).toInt = 1 := rfl; have e6 : (6 : Int32).toInt = 6 := rfl; have em2 : (-2 : Int32).toInt = -2 := rfl; have e11 : (11 : Int32).toInt = 11 := rfl; simp only [fl_lt] at c_14; have hx := T_add (rfl : wi.toInt = wi.toInt) e1 (by omega); rw [hx]; omega)) hco ⟨(by simp only [gRm]; omega), (by simp only [gRm]; omega)⟩ ⟨(by simp only [gRm]; omega), (by simp only [gRm]; omega)⟩ rfl rfl (Nat.le_of_ble_eq_true rfl) dX1_acquire_184 ?_
                      rintro kk_7 nn_7 r_7 f7 ⟨e_7, m_7, g_7, s_7, l_7, z_7, a_7, x_7, y_7, rfl, hlg_7, he_7, hlf_7, hso_7, hfc_7, hl_7, hu_7, hc_7, hr7⟩
                      refine gz_eq (st2 := []) rfl rfl rfl rfl ?_
                      have hco_7 : f7 co = some (.inr (1, [.ref lv, .ref sc, .ref lg, .int csz])) := hr7 _ _ hco (by simp only [List.mem_cons, List.not_mem_nil, or_false, not_or]; exact ⟨cne hco hlg (by simp), cne hco hen (by simp), cne hco hlf (by simp), cne hco hso (by simp), cne hco hfc (by simp)⟩)
                      have hp_7 : f7 p = some (.inr (2, [.ref c1, .ref c2, .int s, .int v])) := hr7 _ _ hp (by simp only [List.mem_cons, List.not_mem_nil, or_false, not_or]; exact ⟨cne hp hlg (by simp), cne hp hen (by simp), cne hp hlf (by simp), cne hp hso (by simp), cne hp hfc (by simp)⟩)
                      have h1_7 : f7 c1 = some (.inl (cy 0, n1, .inl (g))) := hr7 _ _ h1 (by simp only [List.mem_cons, List.not_mem_nil, or_false, not_or]; exact ⟨cne h1 hlg (by simp), Ne.symm (hen2.2.2.1), cne h1 hlf (by simp), Ne.symm (hne.2.1), Ne.symm (hne.2.2.2.2.1)⟩)
                      have h2_7 : f7 c2 = some (.inl (cy 0, n2, .inl (h))) := hr7 _ _ h2 (by simp only [List.mem_cons, List.not_mem_nil, or_false, not_or]; exact ⟨cne h2 hlg (by simp), Ne.symm (hen2.2.2.2.1), cne h2 hlf (by simp), Ne.symm (hne.2.2.1), Ne.symm (hne.2.2.2.2.2.1)⟩)
                      have hsc_7 : f7 sc = some (.inr (7, [.ref th, .int da])) := hr7 _ _ hsc (by simp only [List.mem_cons, List.not_mem_nil, or_false, not_or]; exact ⟨cne hsc hlg (by simp), cne hsc hen (by simp), cne hsc hlf (by simp), cne hsc hso (by simp), cne hsc hfc (by simp)⟩)
                      have hth_7 : f7 th = some (.inl (cy 0, 6, .inl (t))) := hr7 _ _ hth (by simp only [List.mem_cons, List.not_mem_nil, or_false, not_or]; exact ⟨cne hth hlg (by simp), Ne.symm (hen2.2.2.2.2), cne hth hlf (by simp), Ne.symm (hne.2.2.2.1), Ne.symm (hne.2.2.2.2.2.2)⟩)
                      refine gz_iload dX1_acquire_187 rfl ?_
                      refine gz_iconst (v := 3) dX1_acquire_189 (by decide) ?_
                      refine gz_icmp_ne (tgt := 211) dX1_acquire_190 (by decide) (fun c_190 => ?_) (fun c_190 => ?_)
                      ·
                        exact gz_vretU rfl dX1_acquire_211 (by omega) (by omega) (⟨_, _, _, _, _, _, _, _, _, rfl, hlg_7, he_7, hlf_7, hso_7, hfc_7, hl_7, ⟨by omega, by omega⟩, hc_7, (fr_tr fr_rf (fr_mo hr7 (by simp)))⟩)
                      ·
                        refine gz_aload_n dX1_acquire_193 rfl rfl ?_
                        refine gz_aload_n dX1_acquire_194 rfl rfl ?_
                        refine gz_aload dX1_acquire_195 rfl ?_
                        refine gz_iload_n dX1_acquire_197 rfl rfl ?_
                        refine gz_iconst (v := 4) dX1_acquire_198 (by decide) ?_
                        refine scX1_49 (k_X2_field (w := wd) (k := 4) hp_7 h1_7 hs) hp_7 ⟨(by simp only [gRm]; omega), (by simp only [gRm]; omega)⟩ ⟨(by simp only [gRm]; omega), (by simp only [gRm]; omega)⟩ rfl rfl (Nat.le_of_ble_eq_true rfl) dX1_acquire_199 ?_
                        intro v9 f9 z9; rw [z9.1, z9.2]
                        refine gz_iload dX1_acquire_202 rfl ?_
                        refine gz_iload dX1_acquire_204 rfl ?_
                        refine gz_iconst (v := 1) dX1_acquire_206 (by decide) ?_
                        refine gz_iadd dX1_acquire_207 ?_
                        refine suX1_32 (ih (fldF n1 g s wd 4) (pasF n1 n2 g h s v t da wd fa) (wi + 1) e_7 _ _ s_7 l_7 z_7 a_7 _ _ _ hco_7 hlf_7 hso_7 hfc_7 hp_7 h1_7 h2_7 hsc_7 hth_7 hlg_7 he_7 hl_7 ⟨(enn hc_7 hso (hen2.1)), (enn hc_7 hfc (hen2.2.1)), (enn hc_7 h1 (hen2.2.2.1)), (enn hc_7 h2 (hen2.2.2.2.1)), (enn hc_7 hth (hen2.2.2.2.2))⟩ (by have e13 : (13 : Int32).toInt = 13 := rfl; have e0 : (0 : Int32).toInt = 0 := rfl; have e2 : (2 : Int32).toInt = 2 := rfl; have e1 : (1 : Int32).toInt = 1 := rfl; have e6 : (6 : Int32).toInt = 6 := rfl; have em2 : (-2 : Int32).toInt = -2 := rfl; have e11 : (11 : Int32).toInt = 11 := rfl; simp only [fl_lt] at c_14; have hx := T_add (rfl : wi.toInt = wi.toInt) e1 (by omega); rw [hx]; omega)) hco_7 ⟨(by simp only [gRm]; omega), (by simp only [gRm]; omega)⟩ ⟨(by simp only [gRm]; omega), (by simp only [gRm]; omega)⟩ rfl rfl (Nat.le_of_ble_eq_true rfl) dX1_acquire_208 ?_
                        rintro kk_8 nn_8 r_8 f8 ⟨e_8, m_8, g_8, s_8, l_8, z_8, a_8, x_8, y_8, rfl, hlg_8, he_8, hlf_8, hso_8, hfc_8, hl_8, hu_8, hc_8, hr8⟩
                        refine gz_eq (st2 := []) rfl rfl rfl rfl ?_
                        have hco_8 : f8 co = some (.inr (1, [.ref lv, .ref sc, .ref lg, .int csz])) := hr8 _ _ hco_7 (by simp only [List.mem_cons, List.not_mem_nil, or_false, not_or]; exact ⟨cne hco_7 hlg_7 (by simp), cne hco_7 he_7 (by simp), cne hco_7 hlf_7 (by simp), cne hco_7 hso_7 (by simp), cne hco_7 hfc_7 (by simp)⟩)
                        have hp_8 : f8 p = some (.inr (2, [.ref c1, .ref c2, .int s, .int v])) := hr8 _ _ hp_7 (by simp only [List.mem_cons, List.not_mem_nil, or_false, not_or]; exact ⟨cne hp_7 hlg_7 (by simp), cne hp_7 he_7 (by simp), cne hp_7 hlf_7 (by simp), cne hp_7 hso_7 (by simp), cne hp_7 hfc_7 (by simp)⟩)
                        have h1_8 : f8 c1 = some (.inl (cy 0, n1, .inl (g))) := hr8 _ _ h1_7 (by simp only [List.mem_cons, List.not_mem_nil, or_false, not_or]; exact ⟨cne h1_7 hlg_7 (by simp), Ne.symm ((enn hc_7 h1 (hen2.2.2.1))), cne h1_7 hlf_7 (by simp), Ne.symm (hne.2.1), Ne.symm (hne.2.2.2.2.1)⟩)
                        have h2_8 : f8 c2 = some (.inl (cy 0, n2, .inl (h))) := hr8 _ _ h2_7 (by simp only [List.mem_cons, List.not_mem_nil, or_false, not_or]; exact ⟨cne h2_7 hlg_7 (by simp), Ne.symm ((enn hc_7 h2 (hen2.2.2.2.1))), cne h2_7 hlf_7 (by simp), Ne.symm (hne.2.2.1), Ne.symm (hne.2.2.2.2.2.1)⟩)
                        have hsc_8 : f8 sc = some (.inr (7, [.ref th, .int da])) := hr8 _ _ hsc_7 (by simp only [List.mem_cons, List.not_mem_nil, or_false, not_or]; exact ⟨cne hsc_7 hlg_7 (by simp), cne hsc_7 he_7 (by simp), cne hsc_7 hlf_7 (by simp), cne hsc_7 hso_7 (by simp), cne hsc_7 hfc_7 (by simp)⟩)
                        have hth_8 : f8 th = some (.inl (cy 0, 6, .inl (t))) := hr8 _ _ hth_7 (by simp only [List.mem_cons, List.not_mem_nil, or_false, not_or]; exact ⟨cne hth_7 hlg_7 (by simp), Ne.symm ((enn hc_7 hth (hen2.2.2.2.2))), cne hth_7 hlf_7 (by simp), Ne.symm (hne.2.2.2.1), Ne.symm (hne.2.2.2.2.2.2)⟩)
                        have hcc_8 : e_8 = en ∨ f e_8 = none := eny (S := [lg, en, lf, so, fc]) hc_7 hc_8 (fr_tr fr_rf (fr_mo hr7 (by simp))) (by intro z hz2; simp only [List.mem_cons, List.not_mem_nil, or_false] at hz2; rcases hz2 with rfl | rfl | rfl | rfl | rfl; exact Or.inr ⟨_, hlg_7⟩; exact Or.inl rfl; exact Or.inr ⟨_, hlf_7⟩; exact Or.inr ⟨_, hso_7⟩; exact Or.inr ⟨_, hfc_7⟩)
                        exact gz_vretU rfl dX1_acquire_211 (by omega) (by omega) (⟨_, _, _, _, _, _, _, _, _, rfl, hlg_8, he_8, hlf_8, hso_8, hfc_8, hl_8, ⟨by omega, by omega⟩, hcc_8, (frx hc_7 (fr_tr fr_rf (fr_mo hr7 (by simp))) hr8)⟩)
                    ·
                      refine gz_aload dX1_acquire_132 rfl ?_
                      refine gz_iload_n dX1_acquire_134 rfl rfl ?_
                      refine gz_aload_n dX1_acquire_135 rfl rfl ?_
                      refine sgX1_17 hco rfl dX1_acquire_136 ?_
                      refine scX1_70 (k_X2_holds (w := wd) hp h1 h2 hsc hth hs hv) hp ⟨(by simp only [gRm]; omega), (by simp only [gRm]; omega)⟩ ⟨(by simp only [gRm]; omega), (by simp only [gRm]; omega)⟩ rfl rfl (Nat.le_of_ble_eq_true rfl) dX1_acquire_139 ?_
                      intro v9 f9 z9; rw [z9.1, z9.2]
                      refine gz_if_ne (tgt := 153) dX1_acquire_142 (by decide) (fun c_142 => ?_) (fun c_142 => ?_)
                      ·
                        refine gz_aload dX1_acquire_153 rfl ?_
                        refine gz_iload_n dX1_acquire_155 rfl rfl ?_
                        refine gz_iload_n dX1_acquire_156 rfl rfl ?_
                        refine gz_aload_n dX1_acquire_157 rfl rfl ?_
                        refine sgX1_17 hco rfl dX1_acquire_158 ?_
                        refine scX1_73 (k_X2_passed (w := wd) (x := fa) hp h1 h2 hsc hth hs hv) hp ⟨(by simp only [gRm]; omega), (by simp only [gRm]; omega)⟩ ⟨(by simp only [gRm]; omega), (by simp only [gRm]; omega)⟩ rfl rfl (Nat.le_of_ble_eq_true rfl) dX1_acquire_161 ?_
                        intro v9 f9 z9; rw [z9.1, z9.2]
                        refine gz_istore (lv' := [(7, .int (pasF n1 n2 g h s v t da wd fa)), (6, .int (fldF n1 g s wd 0)), (5, .ref p), (0, .ref co), (1, .ref lf), (2, .int wd), (3, .int fa), (4, .int wi)]) dX1_acquire_164 (by decide) rfl ?_
                        refine gz_aload_n dX1_acquire_166 rfl rfl ?_
                        refine gz_aload_n dX1_acquire_167 rfl rfl ?_
                        refine gz_aload dX1_acquire_168 rfl ?_
                        refine gz_iload_n dX1_acquire_170 rfl rfl ?_
                        refine gz_aload_n dX1_acquire_171 rfl rfl ?_
                        refine sgX1_17 hco rfl dX1_acquire_172 ?_
                        refine scX1_77 (k_X2_nextDeed (w := wd) hp h1 hsc hs) hp ⟨(by simp only [gRm]; omega), (by simp only [gRm]; omega)⟩ ⟨(by simp only [gRm]; omega), (by simp only [gRm]; omega)⟩ rfl rfl (Nat.le_of_ble_eq_true rfl) dX1_acquire_175 ?_
                        intro v9 f9 z9; rw [z9.1, z9.2]
                        refine gz_iload dX1_acquire_178 rfl ?_
                        refine gz_iload dX1_acquire_180 rfl ?_
                        refine gz_iconst (v := 1) dX1_acquire_182 (by decide) ?_
                        refine gz_iadd dX1_acquire_183 ?_
                        refine suX1_32 (ih (nxtF n1 g s da wd) (pasF n1 n2 g h s v t da wd fa) (wi + 1) en _ _ sz lo fs_ ga _ _ _ hco hlf hso hfc hp h1 h2 hsc hth hlg hen hl hen2 (by have e13 : (13 : Int32).toInt = 13 := rfl; have e0 : (0 : Int32).toInt = 0 := rfl; have e2 : (2 : Int32).toInt = 2 := rfl; have e1 : (1 : Int32).toInt = 1 := rfl; have e6 : (6 : Int32).toInt = 6 := rfl; have em2 : (-2 : Int32).toInt = -2 := rfl; have e11 : (11 : Int32).toInt = 11 := rfl; simp only [fl_lt] at c_14; have hx := T_add (rfl : wi.toInt = wi.toInt) e1 (by omega); rw [hx]; omega)) hco ⟨(by simp only [gRm]; omega), (by simp only [gRm]; omega)⟩ ⟨(by simp only [gRm]; omega), (by simp only [gRm]; omega)⟩ rfl rfl (Nat.le_of_ble_eq_true rfl) dX1_acquire_184 ?_
                        rintro kk_9 nn_9 r_9 f9 ⟨e_9, m_9, g_9, s_9, l_9, z_9, a_9, x_9, y_9, rfl, hlg_9, he_9, hlf_9, hso_9, hfc_9, hl_9, hu_9, hc_9, hr9⟩
                        refine gz_eq (st2 := []) rfl rfl rfl rfl ?_
                        have hco_9 : f9 co = some (.inr (1, [.ref lv, .ref sc, .ref lg, .int csz])) := hr9 _ _ hco (by simp only [List.mem_cons, List.not_mem_nil, or_false, not_or]; exact ⟨cne hco hlg (by simp), cne hco hen (by simp), cne hco hlf (by simp), cne hco hso (by simp), cne hco hfc (by simp)⟩)
                        have hp_9 : f9 p = some (.inr (2, [.ref c1, .ref c2, .int s, .int v])) := hr9 _ _ hp (by simp only [List.mem_cons, List.not_mem_nil, or_false, not_or]; exact ⟨cne hp hlg (by simp), cne hp hen (by simp), cne hp hlf (by simp), cne hp hso (by simp), cne hp hfc (by simp)⟩)
                        have h1_9 : f9 c1 = some (.inl (cy 0, n1, .inl (g))) := hr9 _ _ h1 (by simp only [List.mem_cons, List.not_mem_nil, or_false, not_or]; exact ⟨cne h1 hlg (by simp), Ne.symm (hen2.2.2.1), cne h1 hlf (by simp), Ne.symm (hne.2.1), Ne.symm (hne.2.2.2.2.1)⟩)
                        have h2_9 : f9 c2 = some (.inl (cy 0, n2, .inl (h))) := hr9 _ _ h2 (by simp only [List.mem_cons, List.not_mem_nil, or_false, not_or]; exact ⟨cne h2 hlg (by simp), Ne.symm (hen2.2.2.2.1), cne h2 hlf (by simp), Ne.symm (hne.2.2.1), Ne.symm (hne.2.2.2.2.2.1)⟩)
                        have hsc_9 : f9 sc = some (.inr (7, [.ref th, .int da])) := hr9 _ _ hsc (by simp only [List.mem_cons, List.not_mem_nil, or_false, not_or]; exact ⟨cne hsc hlg (by simp), cne hsc hen (by simp), cne hsc hlf (by simp), cne hsc hso (by simp), cne hsc hfc (by simp)⟩)
                        have hth_9 : f9 th = some (.inl (cy 0, 6, .inl (t))) := hr9 _ _ hth (by simp only [List.mem_cons, List.not_mem_nil, or_false, not_or]; exact ⟨cne hth hlg (by simp), Ne.symm (hen2.2.2.2.2), cne hth hlf (by simp), Ne.symm (hne.2.2.2.1), Ne.symm (hne.2.2.2.2.2.2)⟩)
                        refine gz_iload dX1_acquire_187 rfl ?_
                        refine gz_iconst (v := 3) dX1_acquire_189 (by decide) ?_
                        refine gz_icmp_ne (tgt := 211) dX1_acquire_190 (by decide) (fun c_190 => ?_) (fun c_190 => ?_)
                        ·
                          exact gz_vretU rfl dX1_acquire_211 (by omega) (by omega) (⟨_, _, _, _, _, _, _, _, _, rfl, hlg_9, he_9, hlf_9, hso_9, hfc_9, hl_9, ⟨by omega, by omega⟩, hc_9, (fr_tr fr_rf (fr_mo hr9 (by simp)))⟩)
                        ·
                          refine gz_aload_n dX1_acquire_193 rfl rfl ?_
                          refine gz_aload_n dX1_acquire_194 rfl rfl ?_
                          refine gz_aload dX1_acquire_195 rfl ?_
                          refine gz_iload_n dX1_acquire_197 rfl rfl ?_
                          refine gz_iconst (v := 4) dX1_acquire_198 (by decide) ?_
                          refine scX1_49 (k_X2_field (w := wd) (k := 4) hp_9 h1_9 hs) hp_9 ⟨(by simp only [gRm]; omega), (by simp only [gRm]; omega)⟩ ⟨(by simp only [gRm]; omega), (by simp only [gRm]; omega)⟩ rfl rfl (Nat.le_of_ble_eq_true rfl) dX1_acquire_199 ?_
                          intro v9 f9 z9; rw [z9.1, z9.2]
                          refine gz_iload dX1_acquire_202 rfl ?_
                          refine gz_iload dX1_acquire_204 rfl ?_
                          refine gz_iconst (v := 1) dX1_acquire_206 (by decide) ?_
                          refine gz_iadd dX1_acquire_207 ?_
                          refine suX1_32 (ih (fldF n1 g s wd 4) (pasF n1 n2 g h s v t da wd fa) (wi + 1) e_9 _ _ s_9 l_9 z_9 a_9 _ _ _ hco_9 hlf_9 hso_9 hfc_9 hp_9 h1_9 h2_9 hsc_9 hth_9 hlg_9 he_9 hl_9 ⟨(enn hc_9 hso (hen2.1)), (enn hc_9 hfc (hen2.2.1)), (enn hc_9 h1 (hen2.2.2.1)), (enn hc_9 h2 (hen2.2.2.2.1)), (enn hc_9 hth (hen2.2.2.2.2))⟩ (by have e13 : (13 : Int32).toInt = 13 := rfl; have e0 : (0 : Int32).toInt = 0 := rfl; have e2 : (2 : Int32).toInt = 2 := rfl; have e1 : (1 : Int32).toInt = 1 := rfl; have e6 : (6 : Int32).toInt = 6 := rfl; have em2 : (-2 : Int32).toInt = -2 := rfl; have e11 : (11 : Int32).toInt = 11 := rfl; simp only [fl_lt] at c_14; have hx := T_add (rfl : wi.toInt = wi.toInt) e1 (by omega); rw [hx]; omega)) hco_9 ⟨(by simp only [gRm]; omega), (by simp only [gRm]; omega)⟩ ⟨(by simp only [gRm]; omega), (by simp only [gRm]; omega)⟩ rfl rfl (Nat.le_of_ble_eq_true rfl) dX1_acquire_208 ?_
                          rintro kk_10 nn_10 r_10 f10 ⟨e_10, m_10, g_10, s_10, l_10, z_10, a_10, x_10, y_10, rfl, hlg_10, he_10, hlf_10, hso_10, hfc_10, hl_10, hu_10, hc_10, hr10⟩
                          refine gz_eq (st2 := []) rfl rfl rfl rfl ?_
                          have hco_10 : f10 co = some (.inr (1, [.ref lv, .ref sc, .ref lg, .int csz])) := hr10 _ _ hco_9 (by simp only [List.mem_cons, List.not_mem_nil, or_false, not_or]; exact ⟨cne hco_9 hlg_9 (by simp), cne hco_9 he_9 (by simp), cne hco_9 hlf_9 (by simp), cne hco_9 hso_9 (by simp), cne hco_9 hfc_9 (by simp)⟩)
                          have hp_10 : f10 p = some (.inr (2, [.ref c1, .ref c2, .int s, .int v])) := hr10 _ _ hp_9 (by simp only [List.mem_cons, List.not_mem_nil, or_false, not_or]; exact ⟨cne hp_9 hlg_9 (by simp), cne hp_9 he_9 (by simp), cne hp_9 hlf_9 (by simp), cne hp_9 hso_9 (by simp), cne hp_9 hfc_9 (by simp)⟩)
                          have h1_10 : f10 c1 = some (.inl (cy 0, n1, .inl (g))) := hr10 _ _ h1_9 (by simp only [List.mem_cons, List.not_mem_nil, or_false, not_or]; exact ⟨cne h1_9 hlg_9 (by simp), Ne.symm ((enn hc_9 h1 (hen2.2.2.1))), cne h1_9 hlf_9 (by simp), Ne.symm (hne.2.1), Ne.symm (hne.2.2.2.2.1)⟩)
                          have h2_10 : f10 c2 = some (.inl (cy 0, n2, .inl (h))) := hr10 _ _ h2_9 (by simp only [List.mem_cons, List.not_mem_nil, or_false, not_or]; exact ⟨cne h2_9 hlg_9 (by simp), Ne.symm ((enn hc_9 h2 (hen2.2.2.2.1))), cne h2_9 hlf_9 (by simp), Ne.symm (hne.2.2.1), Ne.symm (hne.2.2.2.2.2.1)⟩)
                          have hsc_10 : f10 sc = some (.inr (7, [.ref th, .int da])) := hr10 _ _ hsc_9 (by simp only [List.mem_cons, List.not_mem_nil, or_false, not_or]; exact ⟨cne hsc_9 hlg_9 (by simp), cne hsc_9 he_9 (by simp), cne hsc_9 hlf_9 (by simp), cne hsc_9 hso_9 (by simp), cne hsc_9 hfc_9 (by simp)⟩)
                          have hth_10 : f10 th = some (.inl (cy 0, 6, .inl (t))) := hr10 _ _ hth_9 (by simp only [List.mem_cons, List.not_mem_nil, or_false, not_or]; exact ⟨cne hth_9 hlg_9 (by simp), Ne.symm ((enn hc_9 hth (hen2.2.2.2.2))), cne hth_9 hlf_9 (by simp), Ne.symm (hne.2.2.2.1), Ne.symm (hne.2.2.2.2.2.2)⟩)
                          have hcc_10 : e_10 = en ∨ f e_10 = none := eny (S := [lg, en, lf, so, fc]) hc_9 hc_10 (fr_tr fr_rf (fr_mo hr9 (by simp))) (by intro z hz2; simp only [List.mem_cons, List.not_mem_nil, or_false] at hz2; rcases hz2 with rfl | rfl | rfl | rfl | rfl; exact Or.inr ⟨_, hlg_9⟩; exact Or.inl rfl; exact Or.inr ⟨_, hlf_9⟩; exact Or.inr ⟨_, hso_9⟩; exact Or.inr ⟨_, hfc_9⟩)
                          exact gz_vretU rfl dX1_acquire_211 (by omega) (by omega) (⟨_, _, _, _, _, _, _, _, _, rfl, hlg_10, he_10, hlf_10, hso_10, hfc_10, hl_10, ⟨by omega, by omega⟩, hcc_10, (frx hc_9 (fr_tr fr_rf (fr_mo hr9 (by simp))) hr10)⟩)
                      ·
                        refine gz_aload_n dX1_acquire_145 rfl rfl ?_
                        refine gz_aload_n dX1_acquire_146 rfl rfl ?_
                        refine gz_iload_n dX1_acquire_147 rfl rfl ?_
                        refine gz_iload_n dX1_acquire_148 rfl rfl ?_
                        refine scX1_66 (k_X1_keep (wd := wd) (fa := fa) hco hlg hlf hso hfc hne.1) hco ⟨(by simp only [gRm]; omega), (by simp only [gRm]; omega)⟩ ⟨(by simp only [gRm]; omega), (by simp only [gRm]; omega)⟩ rfl rfl (Nat.le_of_ble_eq_true rfl) dX1_acquire_149 ?_
                        rintro f11 ⟨l_11, z_11, x_11, y_11, hlg_11, hlf_11, hso_11, hfc_11, hr11⟩
                        have hco_11 : f11 co = some (.inr (1, [.ref lv, .ref sc, .ref lg, .int csz])) := hr11 _ _ hco (by simp only [List.mem_cons, List.not_mem_nil, or_false, not_or]; exact ⟨cne hco hlg (by simp), cne hco hlf (by simp), cne hco hso (by simp), cne hco hfc (by simp)⟩)
                        have hp_11 : f11 p = some (.inr (2, [.ref c1, .ref c2, .int s, .int v])) := hr11 _ _ hp (by simp only [List.mem_cons, List.not_mem_nil, or_false, not_or]; exact ⟨cne hp hlg (by simp), cne hp hlf (by simp), cne hp hso (by simp), cne hp hfc (by simp)⟩)
                        have h1_11 : f11 c1 = some (.inl (cy 0, n1, .inl (g))) := hr11 _ _ h1 (by simp only [List.mem_cons, List.not_mem_nil, or_false, not_or]; exact ⟨cne h1 hlg (by simp), cne h1 hlf (by simp), Ne.symm (hne.2.1), Ne.symm (hne.2.2.2.2.1)⟩)
                        have h2_11 : f11 c2 = some (.inl (cy 0, n2, .inl (h))) := hr11 _ _ h2 (by simp only [List.mem_cons, List.not_mem_nil, or_false, not_or]; exact ⟨cne h2 hlg (by simp), cne h2 hlf (by simp), Ne.symm (hne.2.2.1), Ne.symm (hne.2.2.2.2.2.1)⟩)
                        have hsc_11 : f11 sc = some (.inr (7, [.ref th, .int da])) := hr11 _ _ hsc (by simp only [List.mem_cons, List.not_mem_nil, or_false, not_or]; exact ⟨cne hsc hlg (by simp), cne hsc hlf (by simp), cne hsc hso (by simp), cne hsc hfc (by simp)⟩)
                        have hth_11 : f11 th = some (.inl (cy 0, 6, .inl (t))) := hr11 _ _ hth (by simp only [List.mem_cons, List.not_mem_nil, or_false, not_or]; exact ⟨cne hth hlg (by simp), cne hth hlf (by simp), Ne.symm (hne.2.2.2.1), Ne.symm (hne.2.2.2.2.2.2)⟩)
                        have hen_11 : f11 en = some (.inl (cy 0, ne, .inl (eg))) := hr11 _ _ hen (by simp only [List.mem_cons, List.not_mem_nil, or_false, not_or]; exact ⟨cne hen hlg (by simp), cne hen hlf (by simp), hen2.1, hen2.2.1⟩)
                        exact gz_vretU rfl dX1_acquire_152 (by omega) (by omega) (⟨_, _, _, _, _, _, _, _, _, rfl, hlg_11, hen_11, hlf_11, hso_11, hfc_11, hl, ⟨by omega, by omega⟩, (Or.inl rfl), (fr_tr fr_rf (fr_mo hr11 (by simp)))⟩)
                  ·
                    by_cases hw_42_5 : (fldF n1 g s wd 0) = 4
                    ·
                      refine gz_ev (w := .int 4) (congrArg Value.int hw_42_5) ?_
                      refine gz_tableIn (off := 75) (tgt := 117) dX1_acquire_42 (by decide) (by decide) rfl (by decide) ?_
                      refine gz_aload_n dX1_acquire_117 rfl rfl ?_
                      refine gz_aload_n dX1_acquire_118 rfl rfl ?_
                      refine gz_iload_n dX1_acquire_119 rfl rfl ?_
                      refine gz_iload_n dX1_acquire_120 rfl rfl ?_
                      refine scX1_66 (k_X1_keep (wd := wd) (fa := fa) hco hlg hlf hso hfc hne.1) hco ⟨(by simp only [gRm]; omega), (by simp only [gRm]; omega)⟩ ⟨(by simp only [gRm]; omega), (by simp only [gRm]; omega)⟩ rfl rfl (Nat.le_of_ble_eq_true rfl) dX1_acquire_121 ?_
                      rintro f12 ⟨l_12, z_12, x_12, y_12, hlg_12, hlf_12, hso_12, hfc_12, hr12⟩
                      have hco_12 : f12 co = some (.inr (1, [.ref lv, .ref sc, .ref lg, .int csz])) := hr12 _ _ hco (by simp only [List.mem_cons, List.not_mem_nil, or_false, not_or]; exact ⟨cne hco hlg (by simp), cne hco hlf (by simp), cne hco hso (by simp), cne hco hfc (by simp)⟩)
                      have hp_12 : f12 p = some (.inr (2, [.ref c1, .ref c2, .int s, .int v])) := hr12 _ _ hp (by simp only [List.mem_cons, List.not_mem_nil, or_false, not_or]; exact ⟨cne hp hlg (by simp), cne hp hlf (by simp), cne hp hso (by simp), cne hp hfc (by simp)⟩)
                      have h1_12 : f12 c1 = some (.inl (cy 0, n1, .inl (g))) := hr12 _ _ h1 (by simp only [List.mem_cons, List.not_mem_nil, or_false, not_or]; exact ⟨cne h1 hlg (by simp), cne h1 hlf (by simp), Ne.symm (hne.2.1), Ne.symm (hne.2.2.2.2.1)⟩)
                      have h2_12 : f12 c2 = some (.inl (cy 0, n2, .inl (h))) := hr12 _ _ h2 (by simp only [List.mem_cons, List.not_mem_nil, or_false, not_or]; exact ⟨cne h2 hlg (by simp), cne h2 hlf (by simp), Ne.symm (hne.2.2.1), Ne.symm (hne.2.2.2.2.2.1)⟩)
                      have hsc_12 : f12 sc = some (.inr (7, [.ref th, .int da])) := hr12 _ _ hsc (by simp only [List.mem_cons, List.not_mem_nil, or_false, not_or]; exact ⟨cne hsc hlg (by simp), cne hsc hlf (by simp), cne hsc hso (by simp), cne hsc hfc (by simp)⟩)
                      have hth_12 : f12 th = some (.inl (cy 0, 6, .inl (t))) := hr12 _ _ hth (by simp only [List.mem_cons, List.not_mem_nil, or_false, not_or]; exact ⟨cne hth hlg (by simp), cne hth hlf (by simp), Ne.symm (hne.2.2.2.1), Ne.symm (hne.2.2.2.2.2.2)⟩)
                      have hen_12 : f12 en = some (.inl (cy 0, ne, .inl (eg))) := hr12 _ _ hen (by simp only [List.mem_cons, List.not_mem_nil, or_false, not_or]; exact ⟨cne hen hlg (by simp), cne hen hlf (by simp), hen2.1, hen2.2.1⟩)
                      exact gz_vretU rfl dX1_acquire_124 (by omega) (by omega) (⟨_, _, _, _, _, _, _, _, _, rfl, hlg_12, hen_12, hlf_12, hso_12, hfc_12, hl, ⟨by omega, by omega⟩, (Or.inl rfl), (fr_tr fr_rf (fr_mo hr12 (by simp)))⟩)
                    ·
                      by_cases hw_42_6 : (fldF n1 g s wd 0) = 5
                      ·
                        refine gz_ev (w := .int 5) (congrArg Value.int hw_42_6) ?_
                        refine gz_tableIn (off := 83) (tgt := 125) dX1_acquire_42 (by decide) (by decide) rfl (by decide) ?_
                        refine gz_iload dX1_acquire_125 rfl ?_
                        refine gz_bipush (v := 6) dX1_acquire_127 (by decide) ?_
                        refine gz_icmp_ne (tgt := 153) dX1_acquire_129 (by decide) (fun c_129 => ?_) (fun c_129 => ?_)
                        ·
                          refine gz_aload dX1_acquire_153 rfl ?_
                          refine gz_iload_n dX1_acquire_155 rfl rfl ?_
                          refine gz_iload_n dX1_acquire_156 rfl rfl ?_
                          refine gz_aload_n dX1_acquire_157 rfl rfl ?_
                          refine sgX1_17 hco rfl dX1_acquire_158 ?_
                          refine scX1_73 (k_X2_passed (w := wd) (x := fa) hp h1 h2 hsc hth hs hv) hp ⟨(by simp only [gRm]; omega), (by simp only [gRm]; omega)⟩ ⟨(by simp only [gRm]; omega), (by simp only [gRm]; omega)⟩ rfl rfl (Nat.le_of_ble_eq_true rfl) dX1_acquire_161 ?_
                          intro v9 f9 z9; rw [z9.1, z9.2]
                          refine gz_istore (lv' := [(7, .int (pasF n1 n2 g h s v t da wd fa)), (6, .int (fldF n1 g s wd 0)), (5, .ref p), (0, .ref co), (1, .ref lf), (2, .int wd), (3, .int fa), (4, .int wi)]) dX1_acquire_164 (by decide) rfl ?_
                          refine gz_aload_n dX1_acquire_166 rfl rfl ?_
                          refine gz_aload_n dX1_acquire_167 rfl rfl ?_
                          refine gz_aload dX1_acquire_168 rfl ?_
                          refine gz_iload_n dX1_acquire_170 rfl rfl ?_
                          refine gz_aload_n dX1_acquire_171 rfl rfl ?_
                          refine sgX1_17 hco rfl dX1_acquire_172 ?_
                          refine scX1_77 (k_X2_nextDeed (w := wd) hp h1 hsc hs) hp ⟨(by simp only [gRm]; omega), (by simp only [gRm]; omega)⟩ ⟨(by simp only [gRm]; omega), (by simp only [gRm]; omega)⟩ rfl rfl (Nat.le_of_ble_eq_true rfl) dX1_acquire_175 ?_
                          intro v9 f9 z9; rw [z9.1, z9.2]
                          refine gz_iload dX1_acquire_178 rfl ?_
                          refine gz_iload dX1_acquire_180 rfl ?_
                          refine gz_iconst (v := 1) dX1_acquire_182 (by decide) ?_
                          refine gz_iadd dX1_acquire_183 ?_
                          refine suX1_32 (ih (nxtF n1 g s da wd) (pasF n1 n2 g h s v t da wd fa) (wi + 1) en _ _ sz lo fs_ ga _ _ _ hco hlf hso hfc hp h1 h2 hsc hth hlg hen hl hen2 (by have e13 : (13 : Int32).toInt = 13 := rfl; have e0 : (0 : Int32).toInt = 0 := rfl; have e2 : (2 : Int32).toInt = 2 := rfl; have e1 : (1 : Int32).toInt = 1 := rfl; have e6 : (6 : Int32).toInt = 6 := rfl; have em2 : (-2 : Int32).toInt = -2 := rfl; have e11 : (11 : Int32).toInt = 11 := rfl; simp only [fl_lt] at c_14; have hx := T_add (rfl : wi.toInt = wi.toInt) e1 (by omega); rw [hx]; omega)) hco ⟨(by simp only [gRm]; omega), (by simp only [gRm]; omega)⟩ ⟨(by simp only [gRm]; omega), (by simp only [gRm]; omega)⟩ rfl rfl (Nat.le_of_ble_eq_true rfl) dX1_acquire_184 ?_
                          rintro kk_13 nn_13 r_13 f13 ⟨e_13, m_13, g_13, s_13, l_13, z_13, a_13, x_13, y_13, rfl, hlg_13, he_13, hlf_13, hso_13, hfc_13, hl_13, hu_13, hc_13, hr13⟩
                          refine gz_eq (st2 := []) rfl rfl rfl rfl ?_
                          have hco_13 : f13 co = some (.inr (1, [.ref lv, .ref sc, .ref lg, .int csz])) := hr13 _ _ hco (by simp only [List.mem_cons, List.not_mem_nil, or_false, not_or]; exact ⟨cne hco hlg (by simp), cne hco hen (by simp), cne hco hlf (by simp), cne hco hso (by simp), cne hco hfc (by simp)⟩)
                          have hp_13 : f13 p = some (.inr (2, [.ref c1, .ref c2, .int s, .int v])) := hr13 _ _ hp (by simp only [List.mem_cons, List.not_mem_nil, or_false, not_or]; exact ⟨cne hp hlg (by simp), cne hp hen (by simp), cne hp hlf (by simp), cne hp hso (by simp), cne hp hfc (by simp)⟩)
                          have h1_13 : f13 c1 = some (.inl (cy 0, n1, .inl (g))) := hr13 _ _ h1 (by simp only [List.mem_cons, List.not_mem_nil, or_false, not_or]; exact ⟨cne h1 hlg (by simp), Ne.symm (hen2.2.2.1), cne h1 hlf (by simp), Ne.symm (hne.2.1), Ne.symm (hne.2.2.2.2.1)⟩)
                          have h2_13 : f13 c2 = some (.inl (cy 0, n2, .inl (h))) := hr13 _ _ h2 (by simp only [List.mem_cons, List.not_mem_nil, or_false, not_or]; exact ⟨cne h2 hlg (by simp), Ne.symm (hen2.2.2.2.1), cne h2 hlf (by simp), Ne.symm (hne.2.2.1), Ne.symm (hne.2.2.2.2.2.1)⟩)
                          have hsc_13 : f13 sc = some (.inr (7, [.ref th, .int da])) := hr13 _ _ hsc (by simp only [List.mem_cons, List.not_mem_nil, or_false, not_or]; exact ⟨cne hsc hlg (by simp), cne hsc hen (by simp), cne hsc hlf (by simp), cne hsc hso (by simp), cne hsc hfc (by simp)⟩)
                          have hth_13 : f13 th = some (.inl (cy 0, 6, .inl (t))) := hr13 _ _ hth (by simp only [List.mem_cons, List.not_mem_nil, or_false, not_or]; exact ⟨cne hth hlg (by simp), Ne.symm (hen2.2.2.2.2), cne hth hlf (by simp), Ne.symm (hne.2.2.2.1), Ne.symm (hne.2.2.2.2.2.2)⟩)
                          refine gz_iload dX1_acquire_187 rfl ?_
                          refine gz_iconst (v := 3) dX1_acquire_189 (by decide) ?_
                          refine gz_icmp_ne (tgt := 211) dX1_acquire_190 (by decide) (fun c_190 => ?_) (fun c_190 => ?_)
                          ·
                            exact gz_vretU rfl dX1_acquire_211 (by omega) (by omega) (⟨_, _, _, _, _, _, _, _, _, rfl, hlg_13, he_13, hlf_13, hso_13, hfc_13, hl_13, ⟨by omega, by omega⟩, hc_13, (fr_tr fr_rf (fr_mo hr13 (by simp)))⟩)
                          ·
                            refine gz_aload_n dX1_acquire_193 rfl rfl ?_
                            refine gz_aload_n dX1_acquire_194 rfl rfl ?_
                            refine gz_aload dX1_acquire_195 rfl ?_
                            refine gz_iload_n dX1_acquire_197 rfl rfl ?_
                            refine gz_iconst (v := 4) dX1_acquire_198 (by decide) ?_
                            refine scX1_49 (k_X2_field (w := wd) (k := 4) hp_13 h1_13 hs) hp_13 ⟨(by simp only [gRm]; omega), (by simp only [gRm]; omega)⟩ ⟨(by simp only [gRm]; omega), (by simp only [gRm]; omega)⟩ rfl rfl (Nat.le_of_ble_eq_true rfl) dX1_acquire_199 ?_
                            intro v9 f9 z9; rw [z9.1, z9.2]
                            refine gz_iload dX1_acquire_202 rfl ?_
                            refine gz_iload dX1_acquire_204 rfl ?_
                            refine gz_iconst (v := 1) dX1_acquire_206 (by decide) ?_
                            refine gz_iadd dX1_acquire_207 ?_
                            refine suX1_32 (ih (fldF n1 g s wd 4) (pasF n1 n2 g h s v t da wd fa) (wi + 1) e_13 _ _ s_13 l_13 z_13 a_13 _ _ _ hco_13 hlf_13 hso_13 hfc_13 hp_13 h1_13 h2_13 hsc_13 hth_13 hlg_13 he_13 hl_13 ⟨(enn hc_13 hso (hen2.1)), (enn hc_13 hfc (hen2.2.1)), (enn hc_13 h1 (hen2.2.2.1)), (enn hc_13 h2 (hen2.2.2.2.1)), (enn hc_13 hth (hen2.2.2.2.2))⟩ (by have e13 : (13 : Int32).toInt = 13 := rfl; have e0 : (0 : Int32).toInt = 0 := rfl; have e2 : (2 : Int32).toInt = 2 := rfl; have e1 : (1 : Int32).toInt = 1 := rfl; have e6 : (6 : Int32).toInt = 6 := rfl; have em2 : (-2 : Int32).toInt = -2 := rfl; have e11 : (11 : Int32).toInt = 11 := rfl; simp only [fl_lt] at c_14; have hx := T_add (rfl : wi.toInt = wi.toInt) e1 (by omega); rw [hx]; omega)) hco_13 ⟨(by simp only [gRm]; omega), (by simp only [gRm]; omega)⟩ ⟨(by simp only [gRm]; omega), (by simp only [gRm]; omega)⟩ rfl rfl (Nat.le_of_ble_eq_true rfl) dX1_acquire_208 ?_
                            rintro kk_14 nn_14 r_14 f14 ⟨e_14, m_14, g_14, s_14, l_14, z_14, a_14, x_14, y_14, rfl, hlg_14, he_14, hlf_14, hso_14, hfc_14, hl_14, hu_14, hc_14, hr14⟩
                            refine gz_eq (st2 := []) rfl rfl rfl rfl ?_
                            have hco_14 : f14 co = some (.inr (1, [.ref lv, .ref sc, .ref lg, .int csz])) := hr14 _ _ hco_13 (by simp only [List.mem_cons, List.not_mem_nil, or_false, not_or]; exact ⟨cne hco_13 hlg_13 (by simp), cne hco_13 he_13 (by simp), cne hco_13 hlf_13 (by simp), cne hco_13 hso_13 (by simp), cne hco_13 hfc_13 (by simp)⟩)
                            have hp_14 : f14 p = some (.inr (2, [.ref c1, .ref c2, .int s, .int v])) := hr14 _ _ hp_13 (by simp only [List.mem_cons, List.not_mem_nil, or_false, not_or]; exact ⟨cne hp_13 hlg_13 (by simp), cne hp_13 he_13 (by simp), cne hp_13 hlf_13 (by simp), cne hp_13 hso_13 (by simp), cne hp_13 hfc_13 (by simp)⟩)
                            have h1_14 : f14 c1 = some (.inl (cy 0, n1, .inl (g))) := hr14 _ _ h1_13 (by simp only [List.mem_cons, List.not_mem_nil, or_false, not_or]; exact ⟨cne h1_13 hlg_13 (by simp), Ne.symm ((enn hc_13 h1 (hen2.2.2.1))), cne h1_13 hlf_13 (by simp), Ne.symm (hne.2.1), Ne.symm (hne.2.2.2.2.1)⟩)
                            have h2_14 : f14 c2 = some (.inl (cy 0, n2, .inl (h))) := hr14 _ _ h2_13 (by simp only [List.mem_cons, List.not_mem_nil, or_false, not_or]; exact ⟨cne h2_13 hlg_13 (by simp), Ne.symm ((enn hc_13 h2 (hen2.2.2.2.1))), cne h2_13 hlf_13 (by simp), Ne.symm (hne.2.2.1), Ne.symm (hne.2.2.2.2.2.1)⟩)
                            have hsc_14 : f14 sc = some (.inr (7, [.ref th, .int da])) := hr14 _ _ hsc_13 (by simp only [List.mem_cons, List.not_mem_nil, or_false, not_or]; exact ⟨cne hsc_13 hlg_13 (by simp), cne hsc_13 he_13 (by simp), cne hsc_13 hlf_13 (by simp), cne hsc_13 hso_13 (by simp), cne hsc_13 hfc_13 (by simp)⟩)
                            have hth_14 : f14 th = some (.inl (cy 0, 6, .inl (t))) := hr14 _ _ hth_13 (by simp only [List.mem_cons, List.not_mem_nil, or_false, not_or]; exact ⟨cne hth_13 hlg_13 (by simp), Ne.symm ((enn hc_13 hth (hen2.2.2.2.2))), cne hth_13 hlf_13 (by simp), Ne.symm (hne.2.2.2.1), Ne.symm (hne.2.2.2.2.2.2)⟩)
                            have hcc_14 : e_14 = en ∨ f e_14 = none := eny (S := [lg, en, lf, so, fc]) hc_13 hc_14 (fr_tr fr_rf (fr_mo hr13 (by simp))) (by intro z hz2; simp only [List.mem_cons, List.not_mem_nil, or_false] at hz2; rcases hz2 with rfl | rfl | rfl | rfl | rfl; exact Or.inr ⟨_, hlg_13⟩; exact Or.inl rfl; exact Or.inr ⟨_, hlf_13⟩; exact Or.inr ⟨_, hso_13⟩; exact Or.inr ⟨_, hfc_13⟩)
                            exact gz_vretU rfl dX1_acquire_211 (by omega) (by omega) (⟨_, _, _, _, _, _, _, _, _, rfl, hlg_14, he_14, hlf_14, hso_14, hfc_14, hl_14, ⟨by omega, by omega⟩, hcc_14, (frx hc_13 (fr_tr fr_rf (fr_mo hr13 (by simp))) hr14)⟩)
                        ·
                          refine gz_aload dX1_acquire_132 rfl ?_
                          refine gz_iload_n dX1_acquire_134 rfl rfl ?_
                          refine gz_aload_n dX1_acquire_135 rfl rfl ?_
                          refine sgX1_17 hco rfl dX1_acquire_136 ?_
                          refine scX1_70 (k_X2_holds (w := wd) hp h1 h2 hsc hth hs hv) hp ⟨(by simp only [gRm]; omega), (by simp only [gRm]; omega)⟩ ⟨(by simp only [gRm]; omega), (by simp only [gRm]; omega)⟩ rfl rfl (Nat.le_of_ble_eq_true rfl) dX1_acquire_139 ?_
                          intro v9 f9 z9; rw [z9.1, z9.2]
                          refine gz_if_ne (tgt := 153) dX1_acquire_142 (by decide) (fun c_142 => ?_) (fun c_142 => ?_)
                          ·
                            refine gz_aload dX1_acquire_153 rfl ?_
                            refine gz_iload_n dX1_acquire_155 rfl rfl ?_
                            refine gz_iload_n dX1_acquire_156 rfl rfl ?_
                            refine gz_aload_n dX1_acquire_157 rfl rfl ?_
                            refine sgX1_17 hco rfl dX1_acquire_158 ?_
                            refine scX1_73 (k_X2_passed (w := wd) (x := fa) hp h1 h2 hsc hth hs hv) hp ⟨(by simp only [gRm]; omega), (by simp only [gRm]; omega)⟩ ⟨(by simp only [gRm]; omega), (by simp only [gRm]; omega)⟩ rfl rfl (Nat.le_of_ble_eq_true rfl) dX1_acquire_161 ?_
                            intro v9 f9 z9; rw [z9.1, z9.2]
                            refine gz_istore (lv' := [(7, .int (pasF n1 n2 g h s v t da wd fa)), (6, .int (fldF n1 g s wd 0)), (5, .ref p), (0, .ref co), (1, .ref lf), (2, .int wd), (3, .int fa), (4, .int wi)]) dX1_acquire_164 (by decide) rfl ?_
                            refine gz_aload_n dX1_acquire_166 rfl rfl ?_
                            refine gz_aload_n dX1_acquire_167 rfl rfl ?_
                            refine gz_aload dX1_acquire_168 rfl ?_
                            refine gz_iload_n dX1_acquire_170 rfl rfl ?_
                            refine gz_aload_n dX1_acquire_171 rfl rfl ?_
                            refine sgX1_17 hco rfl dX1_acquire_172 ?_
                            refine scX1_77 (k_X2_nextDeed (w := wd) hp h1 hsc hs) hp ⟨(by simp only [gRm]; omega), (by simp only [gRm]; omega)⟩ ⟨(by simp only [gRm]; omega), (by simp only [gRm]; omega)⟩ rfl rfl (Nat.le_of_ble_eq_true rfl) dX1_acquire_175 ?_
                            intro v9 f9 z9; rw [z9.1, z9.2]
                            refine gz_iload dX1_acquire_178 rfl ?_
                            refine gz_iload dX1_acquire_180 rfl ?_
                            refine gz_iconst (v := 1) dX1_acquire_182 (by decide) ?_
                            refine gz_iadd dX1_acquire_183 ?_
                            refine suX1_32 (ih (nxtF n1 g s da wd) (pasF n1 n2 g h s v t da wd fa) (wi + 1) en _ _ sz lo fs_ ga _ _ _ hco hlf hso hfc hp h1 h2 hsc hth hlg hen hl hen2 (by have e13 : (13 : Int32).toInt = 13 := rfl; have e0 : (0 : Int32).toInt = 0 := rfl; have e2 : (2 : Int32).toInt = 2 := rfl; have e1 : (1 : Int32).toInt = 1 := rfl; have e6 : (6 : Int32).toInt = 6 := rfl; have em2 : (-2 : Int32).toInt = -2 := rfl; have e11 : (11 : Int32).toInt = 11 := rfl; simp only [fl_lt] at c_14; have hx := T_add (rfl : wi.toInt = wi.toInt) e1 (by omega); rw [hx]; omega)) hco ⟨(by simp only [gRm]; omega), (by simp only [gRm]; omega)⟩ ⟨(by simp only [gRm]; omega), (by simp only [gRm]; omega)⟩ rfl rfl (Nat.le_of_ble_eq_true rfl) dX1_acquire_184 ?_
                            rintro kk_15 nn_15 r_15 f15 ⟨e_15, m_15, g_15, s_15, l_15, z_15, a_15, x_15, y_15, rfl, hlg_15, he_15, hlf_15, hso_15, hfc_15, hl_15, hu_15, hc_15, hr15⟩
                            refine gz_eq (st2 := []) rfl rfl rfl rfl ?_
                            have hco_15 : f15 co = some (.inr (1, [.ref lv, .ref sc, .ref lg, .int csz])) := hr15 _ _ hco (by simp only [List.mem_cons, List.not_mem_nil, or_false, not_or]; exact ⟨cne hco hlg (by simp), cne hco hen (by simp), cne hco hlf (by simp), cne hco hso (by simp), cne hco hfc (by simp)⟩)
                            have hp_15 : f15 p = some (.inr (2, [.ref c1, .ref c2, .int s, .int v])) := hr15 _ _ hp (by simp only [List.mem_cons, List.not_mem_nil, or_false, not_or]; exact ⟨cne hp hlg (by simp), cne hp hen (by simp), cne hp hlf (by simp), cne hp hso (by simp), cne hp hfc (by simp)⟩)
                            have h1_15 : f15 c1 = some (.inl (cy 0, n1, .inl (g))) := hr15 _ _ h1 (by simp only [List.mem_cons, List.not_mem_nil, or_false, not_or]; exact ⟨cne h1 hlg (by simp), Ne.symm (hen2.2.2.1), cne h1 hlf (by simp), Ne.symm (hne.2.1), Ne.symm (hne.2.2.2.2.1)⟩)
                            have h2_15 : f15 c2 = some (.inl (cy 0, n2, .inl (h))) := hr15 _ _ h2 (by simp only [List.mem_cons, List.not_mem_nil, or_false, not_or]; exact ⟨cne h2 hlg (by simp), Ne.symm (hen2.2.2.2.1), cne h2 hlf (by simp), Ne.symm (hne.2.2.1), Ne.symm (hne.2.2.2.2.2.1)⟩)
                            have hsc_15 : f15 sc = some (.inr (7, [.ref th, .int da])) := hr15 _ _ hsc (by simp only [List.mem_cons, List.not_mem_nil, or_false, not_or]; exact ⟨cne hsc hlg (by simp), cne hsc hen (by simp), cne hsc hlf (by simp), cne hsc hso (by simp), cne hsc hfc (by simp)⟩)
                            have hth_15 : f15 th = some (.inl (cy 0, 6, .inl (t))) := hr15 _ _ hth (by simp only [List.mem_cons, List.not_mem_nil, or_false, not_or]; exact ⟨cne hth hlg (by simp), Ne.symm (hen2.2.2.2.2), cne hth hlf (by simp), Ne.symm (hne.2.2.2.1), Ne.symm (hne.2.2.2.2.2.2)⟩)
                            refine gz_iload dX1_acquire_187 rfl ?_
                            refine gz_iconst (v := 3) dX1_acquire_189 (by decide) ?_
                            refine gz_icmp_ne (tgt := 211) dX1_acquire_190 (by decide) (fun c_190 => ?_) (fun c_190 => ?_)
                            ·
                              exact gz_vretU rfl dX1_acquire_211 (by omega) (by omega) (⟨_, _, _, _, _, _, _, _, _, rfl, hlg_15, he_15, hlf_15, hso_15, hfc_15, hl_15, ⟨by omega, by omega⟩, hc_15, (fr_tr fr_rf (fr_mo hr15 (by simp)))⟩)
                            ·
                              refine gz_aload_n dX1_acquire_193 rfl rfl ?_
                              refine gz_aload_n dX1_acquire_194 rfl rfl ?_
                              refine gz_aload dX1_acquire_195 rfl ?_
                              refine gz_iload_n dX1_acquire_197 rfl rfl ?_
                              refine gz_iconst (v := 4) dX1_acquire_198 (by decide) ?_
                              refine scX1_49 (k_X2_field (w := wd) (k := 4) hp_15 h1_15 hs) hp_15 ⟨(by simp only [gRm]; omega), (by simp only [gRm]; omega)⟩ ⟨(by simp only [gRm]; omega), (by simp only [gRm]; omega)⟩ rfl rfl (Nat.le_of_ble_eq_true rfl) dX1_acquire_199 ?_
                              intro v9 f9 z9; rw [z9.1, z9.2]
                              refine gz_iload dX1_acquire_202 rfl ?_
                              refine gz_iload dX1_acquire_204 rfl ?_
                              refine gz_iconst (v := 1) dX1_acquire_206 (by decide) ?_
                              refine gz_iadd dX1_acquire_207 ?_
                              refine suX1_32 (ih (fldF n1 g s wd 4) (pasF n1 n2 g h s v t da wd fa) (wi + 1) e_15 _ _ s_15 l_15 z_15 a_15 _ _ _ hco_15 hlf_15 hso_15 hfc_15 hp_15 h1_15 h2_15 hsc_15 hth_15 hlg_15 he_15 hl_15 ⟨(enn hc_15 hso (hen2.1)), (enn hc_15 hfc (hen2.2.1)), (enn hc_15 h1 (hen2.2.2.1)), (enn hc_15 h2 (hen2.2.2.2.1)), (enn hc_15 hth (hen2.2.2.2.2))⟩ (by have e13 : (13 : Int32).toInt = 13 := rfl; have e0 : (0 : Int32).toInt = 0 := rfl; have e2 : (2 : Int32).toInt = 2 := rfl; have e1 : (1 : Int32).toInt = 1 := rfl; have e6 : (6 : Int32).toInt = 6 := rfl; have em2 : (-2 : Int32).toInt = -2 := rfl; have e11 : (11 : Int32).toInt = 11 := rfl; simp only [fl_lt] at c_14; have hx := T_add (rfl : wi.toInt = wi.toInt) e1 (by omega); rw [hx]; omega)) hco_15 ⟨(by simp only [gRm]; omega), (by simp only [gRm]; omega)⟩ ⟨(by simp only [gRm]; omega), (by simp only [gRm]; omega)⟩ rfl rfl (Nat.le_of_ble_eq_true rfl) dX1_acquire_208 ?_
                              rintro kk_16 nn_16 r_16 f16 ⟨e_16, m_16, g_16, s_16, l_16, z_16, a_16, x_16, y_16, rfl, hlg_16, he_16, hlf_16, hso_16, hfc_16, hl_16, hu_16, hc_16, hr16⟩
                              refine gz_eq (st2 := []) rfl rfl rfl rfl ?_
                              have hco_16 : f16 co = some (.inr (1, [.ref lv, .ref sc, .ref lg, .int csz])) := hr16 _ _ hco_15 (by simp only [List.mem_cons, List.not_mem_nil, or_false, not_or]; exact ⟨cne hco_15 hlg_15 (by simp), cne hco_15 he_15 (by simp), cne hco_15 hlf_15 (by simp), cne hco_15 hso_15 (by simp), cne hco_15 hfc_15 (by simp)⟩)
                              have hp_16 : f16 p = some (.inr (2, [.ref c1, .ref c2, .int s, .int v])) := hr16 _ _ hp_15 (by simp only [List.mem_cons, List.not_mem_nil, or_false, not_or]; exact ⟨cne hp_15 hlg_15 (by simp), cne hp_15 he_15 (by simp), cne hp_15 hlf_15 (by simp), cne hp_15 hso_15 (by simp), cne hp_15 hfc_15 (by simp)⟩)
                              have h1_16 : f16 c1 = some (.inl (cy 0, n1, .inl (g))) := hr16 _ _ h1_15 (by simp only [List.mem_cons, List.not_mem_nil, or_false, not_or]; exact ⟨cne h1_15 hlg_15 (by simp), Ne.symm ((enn hc_15 h1 (hen2.2.2.1))), cne h1_15 hlf_15 (by simp), Ne.symm (hne.2.1), Ne.symm (hne.2.2.2.2.1)⟩)
                              have h2_16 : f16 c2 = some (.inl (cy 0, n2, .inl (h))) := hr16 _ _ h2_15 (by simp only [List.mem_cons, List.not_mem_nil, or_false, not_or]; exact ⟨cne h2_15 hlg_15 (by simp), Ne.symm ((enn hc_15 h2 (hen2.2.2.2.1))), cne h2_15 hlf_15 (by simp), Ne.symm (hne.2.2.1), Ne.symm (hne.2.2.2.2.2.1)⟩)
                              have hsc_16 : f16 sc = some (.inr (7, [.ref th, .int da])) := hr16 _ _ hsc_15 (by simp only [List.mem_cons, List.not_mem_nil, or_false, not_or]; exact ⟨cne hsc_15 hlg_15 (by simp), cne hsc_15 he_15 (by simp), cne hsc_15 hlf_15 (by simp), cne hsc_15 hso_15 (by simp), cne hsc_15 hfc_15 (by simp)⟩)
                              have hth_16 : f16 th = some (.inl (cy 0, 6, .inl (t))) := hr16 _ _ hth_15 (by simp only [List.mem_cons, List.not_mem_nil, or_false, not_or]; exact ⟨cne hth_15 hlg_15 (by simp), Ne.symm ((enn hc_15 hth (hen2.2.2.2.2))), cne hth_15 hlf_15 (by simp), Ne.symm (hne.2.2.2.1), Ne.symm (hne.2.2.2.2.2.2)⟩)
                              have hcc_16 : e_16 = en ∨ f e_16 = none := eny (S := [lg, en, lf, so, fc]) hc_15 hc_16 (fr_tr fr_rf (fr_mo hr15 (by simp))) (by intro z hz2; simp only [List.mem_cons, List.not_mem_nil, or_false] at hz2; rcases hz2 with rfl | rfl | rfl | rfl | rfl; exact Or.inr ⟨_, hlg_15⟩; exact Or.inl rfl; exact Or.inr ⟨_, hlf_15⟩; exact Or.inr ⟨_, hso_15⟩; exact Or.inr ⟨_, hfc_15⟩)
                              exact gz_vretU rfl dX1_acquire_211 (by omega) (by omega) (⟨_, _, _, _, _, _, _, _, _, rfl, hlg_16, he_16, hlf_16, hso_16, hfc_16, hl_16, ⟨by omega, by omega⟩, hcc_16, (frx hc_15 (fr_tr fr_rf (fr_mo hr15 (by simp))) hr16)⟩)
                          ·
                            refine gz_aload_n dX1_acquire_145 rfl rfl ?_
                            refine gz_aload_n dX1_acquire_146 rfl rfl ?_
                            refine gz_iload_n dX1_acquire_147 rfl rfl ?_
                            refine gz_iload_n dX1_acquire_148 rfl rfl ?_
                            refine scX1_66 (k_X1_keep (wd := wd) (fa := fa) hco hlg hlf hso hfc hne.1) hco ⟨(by simp only [gRm]; omega), (by simp only [gRm]; omega)⟩ ⟨(by simp only [gRm]; omega), (by simp only [gRm]; omega)⟩ rfl rfl (Nat.le_of_ble_eq_true rfl) dX1_acquire_149 ?_
                            rintro f17 ⟨l_17, z_17, x_17, y_17, hlg_17, hlf_17, hso_17, hfc_17, hr17⟩
                            have hco_17 : f17 co = some (.inr (1, [.ref lv, .ref sc, .ref lg, .int csz])) := hr17 _ _ hco (by simp only [List.mem_cons, List.not_mem_nil, or_false, not_or]; exact ⟨cne hco hlg (by simp), cne hco hlf (by simp), cne hco hso (by simp), cne hco hfc (by simp)⟩)
                            have hp_17 : f17 p = some (.inr (2, [.ref c1, .ref c2, .int s, .int v])) := hr17 _ _ hp (by simp only [List.mem_cons, List.not_mem_nil, or_false, not_or]; exact ⟨cne hp hlg (by simp), cne hp hlf (by simp), cne hp hso (by simp), cne hp hfc (by simp)⟩)
                            have h1_17 : f17 c1 = some (.inl (cy 0, n1, .inl (g))) := hr17 _ _ h1 (by simp only [List.mem_cons, List.not_mem_nil, or_false, not_or]; exact ⟨cne h1 hlg (by simp), cne h1 hlf (by simp), Ne.symm (hne.2.1), Ne.symm (hne.2.2.2.2.1)⟩)
                            have h2_17 : f17 c2 = some (.inl (cy 0, n2, .inl (h))) := hr17 _ _ h2 (by simp only [List.mem_cons, List.not_mem_nil, or_false, not_or]; exact ⟨cne h2 hlg (by simp), cne h2 hlf (by simp), Ne.symm (hne.2.2.1), Ne.symm (hne.2.2.2.2.2.1)⟩)
                            have hsc_17 : f17 sc = some (.inr (7, [.ref th, .int da])) := hr17 _ _ hsc (by simp only [List.mem_cons, List.not_mem_nil, or_false, not_or]; exact ⟨cne hsc hlg (by simp), cne hsc hlf (by simp), cne hsc hso (by simp), cne hsc hfc (by simp)⟩)
                            have hth_17 : f17 th = some (.inl (cy 0, 6, .inl (t))) := hr17 _ _ hth (by simp only [List.mem_cons, List.not_mem_nil, or_false, not_or]; exact ⟨cne hth hlg (by simp), cne hth hlf (by simp), Ne.symm (hne.2.2.2.1), Ne.symm (hne.2.2.2.2.2.2)⟩)
                            have hen_17 : f17 en = some (.inl (cy 0, ne, .inl (eg))) := hr17 _ _ hen (by simp only [List.mem_cons, List.not_mem_nil, or_false, not_or]; exact ⟨cne hen hlg (by simp), cne hen hlf (by simp), hen2.1, hen2.2.1⟩)
                            exact gz_vretU rfl dX1_acquire_152 (by omega) (by omega) (⟨_, _, _, _, _, _, _, _, _, rfl, hlg_17, hen_17, hlf_17, hso_17, hfc_17, hl, ⟨by omega, by omega⟩, (Or.inl rfl), (fr_tr fr_rf (fr_mo hr17 (by simp)))⟩)
                      ·
                        by_cases hw_42_7 : (fldF n1 g s wd 0) = 6
                        ·
                          refine gz_ev (w := .int 6) (congrArg Value.int hw_42_7) ?_
                          refine gz_tableIn (off := 83) (tgt := 125) dX1_acquire_42 (by decide) (by decide) rfl (by decide) ?_
                          refine gz_iload dX1_acquire_125 rfl ?_
                          refine gz_bipush (v := 6) dX1_acquire_127 (by decide) ?_
                          refine gz_icmp_ne (tgt := 153) dX1_acquire_129 (by decide) (fun c_129 => ?_) (fun c_129 => ?_)
                          ·
                            refine gz_aload dX1_acquire_153 rfl ?_
                            refine gz_iload_n dX1_acquire_155 rfl rfl ?_
                            refine gz_iload_n dX1_acquire_156 rfl rfl ?_
                            refine gz_aload_n dX1_acquire_157 rfl rfl ?_
                            refine sgX1_17 hco rfl dX1_acquire_158 ?_
                            refine scX1_73 (k_X2_passed (w := wd) (x := fa) hp h1 h2 hsc hth hs hv) hp ⟨(by simp only [gRm]; omega), (by simp only [gRm]; omega)⟩ ⟨(by simp only [gRm]; omega), (by simp only [gRm]; omega)⟩ rfl rfl (Nat.le_of_ble_eq_true rfl) dX1_acquire_161 ?_
                            intro v9 f9 z9; rw [z9.1, z9.2]
                            refine gz_istore (lv' := [(7, .int (pasF n1 n2 g h s v t da wd fa)), (6, .int (fldF n1 g s wd 0)), (5, .ref p), (0, .ref co), (1, .ref lf), (2, .int wd), (3, .int fa), (4, .int wi)]) dX1_acquire_164 (by decide) rfl ?_
                            refine gz_aload_n dX1_acquire_166 rfl rfl ?_
                            refine gz_aload_n dX1_acquire_167 rfl rfl ?_
                            refine gz_aload dX1_acquire_168 rfl ?_
                            refine gz_iload_n dX1_acquire_170 rfl rfl ?_
                            refine gz_aload_n dX1_acquire_171 rfl rfl ?_
                            refine sgX1_17 hco rfl dX1_acquire_172 ?_
                            refine scX1_77 (k_X2_nextDeed (w := wd) hp h1 hsc hs) hp ⟨(by simp only [gRm]; omega), (by simp only [gRm]; omega)⟩ ⟨(by simp only [gRm]; omega), (by simp only [gRm]; omega)⟩ rfl rfl (Nat.le_of_ble_eq_true rfl) dX1_acquire_175 ?_
                            intro v9 f9 z9; rw [z9.1, z9.2]
                            refine gz_iload dX1_acquire_178 rfl ?_
                            refine gz_iload dX1_acquire_180 rfl ?_
                            refine gz_iconst (v := 1) dX1_acquire_182 (by decide) ?_
                            refine gz_iadd dX1_acquire_183 ?_
                            refine suX1_32 (ih (nxtF n1 g s da wd) (pasF n1 n2 g h s v t da wd fa) (wi + 1) en _ _ sz lo fs_ ga _ _ _ hco hlf hso hfc hp h1 h2 hsc hth hlg hen hl hen2 (by have e13 : (13 : Int32).toInt = 13 := rfl; have e0 : (0 : Int32).toInt = 0 := rfl; have e2 : (2 : Int32).toInt = 2 := rfl; have e1 : (1 : Int32).toInt = 1 := rfl; have e6 : (6 : Int32).toInt = 6 := rfl; have em2 : (-2 : Int32).toInt = -2 := rfl; have e11 : (11 : Int32).toInt = 11 := rfl; simp only [fl_lt] at c_14; have hx := T_add (rfl : wi.toInt = wi.toInt) e1 (by omega); rw [hx]; omega)) hco ⟨(by simp only [gRm]; omega), (by simp only [gRm]; omega)⟩ ⟨(by simp only [gRm]; omega), (by simp only [gRm]; omega)⟩ rfl rfl (Nat.le_of_ble_eq_true rfl) dX1_acquire_184 ?_
                            rintro kk_18 nn_18 r_18 f18 ⟨e_18, m_18, g_18, s_18, l_18, z_18, a_18, x_18, y_18, rfl, hlg_18, he_18, hlf_18, hso_18, hfc_18, hl_18, hu_18, hc_18, hr18⟩
                            refine gz_eq (st2 := []) rfl rfl rfl rfl ?_
                            have hco_18 : f18 co = some (.inr (1, [.ref lv, .ref sc, .ref lg, .int csz])) := hr18 _ _ hco (by simp only [List.mem_cons, List.not_mem_nil, or_false, not_or]; exact ⟨cne hco hlg (by simp), cne hco hen (by simp), cne hco hlf (by simp), cne hco hso (by simp), cne hco hfc (by simp)⟩)
                            have hp_18 : f18 p = some (.inr (2, [.ref c1, .ref c2, .int s, .int v])) := hr18 _ _ hp (by simp only [List.mem_cons, List.not_mem_nil, or_false, not_or]; exact ⟨cne hp hlg (by simp), cne hp hen (by simp), cne hp hlf (by simp), cne hp hso (by simp), cne hp hfc (by simp)⟩)
                            have h1_18 : f18 c1 = some (.inl (cy 0, n1, .inl (g))) := hr18 _ _ h1 (by simp only [List.mem_cons, List.not_mem_nil, or_false, not_or]; exact ⟨cne h1 hlg (by simp), Ne.symm (hen2.2.2.1), cne h1 hlf (by simp), Ne.symm (hne.2.1), Ne.symm (hne.2.2.2.2.1)⟩)
                            have h2_18 : f18 c2 = some (.inl (cy 0, n2, .inl (h))) := hr18 _ _ h2 (by simp only [List.mem_cons, List.not_mem_nil, or_false, not_or]; exact ⟨cne h2 hlg (by simp), Ne.symm (hen2.2.2.2.1), cne h2 hlf (by simp), Ne.symm (hne.2.2.1), Ne.symm (hne.2.2.2.2.2.1)⟩)
                            have hsc_18 : f18 sc = some (.inr (7, [.ref th, .int da])) := hr18 _ _ hsc (by simp only [List.mem_cons, List.not_mem_nil, or_false, not_or]; exact ⟨cne hsc hlg (by simp), cne hsc hen (by simp), cne hsc hlf (by simp), cne hsc hso (by simp), cne hsc hfc (by simp)⟩)
                            have hth_18 : f18 th = some (.inl (cy 0, 6, .inl (t))) := hr18 _ _ hth (by simp only [List.mem_cons, List.not_mem_nil, or_false, not_or]; exact ⟨cne hth hlg (by simp), Ne.symm (hen2.2.2.2.2), cne hth hlf (by simp), Ne.symm (hne.2.2.2.1), Ne.symm (hne.2.2.2.2.2.2)⟩)
                            refine gz_iload dX1_acquire_187 rfl ?_
                            refine gz_iconst (v := 3) dX1_acquire_189 (by decide) ?_
                            refine gz_icmp_ne (tgt := 211) dX1_acquire_190 (by decide) (fun c_190 => ?_) (fun c_190 => ?_)
                            ·
                              exact gz_vretU rfl dX1_acquire_211 (by omega) (by omega) (⟨_, _, _, _, _, _, _, _, _, rfl, hlg_18, he_18, hlf_18, hso_18, hfc_18, hl_18, ⟨by omega, by omega⟩, hc_18, (fr_tr fr_rf (fr_mo hr18 (by simp)))⟩)
                            ·
                              refine gz_aload_n dX1_acquire_193 rfl rfl ?_
                              refine gz_aload_n dX1_acquire_194 rfl rfl ?_
                              refine gz_aload dX1_acquire_195 rfl ?_
                              refine gz_iload_n dX1_acquire_197 rfl rfl ?_
                              refine gz_iconst (v := 4) dX1_acquire_198 (by decide) ?_
                              refine scX1_49 (k_X2_field (w := wd) (k := 4) hp_18 h1_18 hs) hp_18 ⟨(by simp only [gRm]; omega), (by simp only [gRm]; omega)⟩ ⟨(by simp only [gRm]; omega), (by simp only [gRm]; omega)⟩ rfl rfl (Nat.le_of_ble_eq_true rfl) dX1_acquire_199 ?_
                              intro v9 f9 z9; rw [z9.1, z9.2]
                              refine gz_iload dX1_acquire_202 rfl ?_
                              refine gz_iload dX1_acquire_204 rfl ?_
                              refine gz_iconst (v := 1) dX1_acquire_206 (by decide) ?_
                              refine gz_iadd dX1_acquire_207 ?_
                              refine suX1_32 (ih (fldF n1 g s wd 4) (pasF n1 n2 g h s v t da wd fa) (wi + 1) e_18 _ _ s_18 l_18 z_18 a_18 _ _ _ hco_18 hlf_18 hso_18 hfc_18 hp_18 h1_18 h2_18 hsc_18 hth_18 hlg_18 he_18 hl_18 ⟨(enn hc_18 hso (hen2.1)), (enn hc_18 hfc (hen2.2.1)), (enn hc_18 h1 (hen2.2.2.1)), (enn hc_18 h2 (hen2.2.2.2.1)), (enn hc_18 hth (hen2.2.2.2.2))⟩ (by have e13 : (13 : Int32).toInt = 13 := rfl; have e0 : (0 : Int32).toInt = 0 := rfl; have e2 : (2 : Int32).toInt = 2 := rfl; have e1 : (1 : Int32).toInt = 1 := rfl; have e6 : (6 : Int32).toInt = 6 := rfl; have em2 : (-2 : Int32).toInt = -2 := rfl; have e11 : (11 : Int32).toInt = 11 := rfl; simp only [fl_lt] at c_14; have hx := T_add (rfl : wi.toInt = wi.toInt) e1 (by omega); rw [hx]; omega)) hco_18 ⟨(by simp only [gRm]; omega), (by simp only [gRm]; omega)⟩ ⟨(by simp only [gRm]; omega), (by simp only [gRm]; omega)⟩ rfl rfl (Nat.le_of_ble_eq_true rfl) dX1_acquire_208 ?_
                              rintro kk_19 nn_19 r_19 f19 ⟨e_19, m_19, g_19, s_19, l_19, z_19, a_19, x_19, y_19, rfl, hlg_19, he_19, hlf_19, hso_19, hfc_19, hl_19, hu_19, hc_19, hr19⟩
                              refine gz_eq (st2 := []) rfl rfl rfl rfl ?_
                              have hco_19 : f19 co = some (.inr (1, [.ref lv, .ref sc, .ref lg, .int csz])) := hr19 _ _ hco_18 (by simp only [List.mem_cons, List.not_mem_nil, or_false, not_or]; exact ⟨cne hco_18 hlg_18 (by simp), cne hco_18 he_18 (by simp), cne hco_18 hlf_18 (by simp), cne hco_18 hso_18 (by simp), cne hco_18 hfc_18 (by simp)⟩)
                              have hp_19 : f19 p = some (.inr (2, [.ref c1, .ref c2, .int s, .int v])) := hr19 _ _ hp_18 (by simp only [List.mem_cons, List.not_mem_nil, or_false, not_or]; exact ⟨cne hp_18 hlg_18 (by simp), cne hp_18 he_18 (by simp), cne hp_18 hlf_18 (by simp), cne hp_18 hso_18 (by simp), cne hp_18 hfc_18 (by simp)⟩)
                              have h1_19 : f19 c1 = some (.inl (cy 0, n1, .inl (g))) := hr19 _ _ h1_18 (by simp only [List.mem_cons, List.not_mem_nil, or_false, not_or]; exact ⟨cne h1_18 hlg_18 (by simp), Ne.symm ((enn hc_18 h1 (hen2.2.2.1))), cne h1_18 hlf_18 (by simp), Ne.symm (hne.2.1), Ne.symm (hne.2.2.2.2.1)⟩)
                              have h2_19 : f19 c2 = some (.inl (cy 0, n2, .inl (h))) := hr19 _ _ h2_18 (by simp only [List.mem_cons, List.not_mem_nil, or_false, not_or]; exact ⟨cne h2_18 hlg_18 (by simp), Ne.symm ((enn hc_18 h2 (hen2.2.2.2.1))), cne h2_18 hlf_18 (by simp), Ne.symm (hne.2.2.1), Ne.symm (hne.2.2.2.2.2.1)⟩)
                              have hsc_19 : f19 sc = some (.inr (7, [.ref th, .int da])) := hr19 _ _ hsc_18 (by simp only [List.mem_cons, List.not_mem_nil, or_false, not_or]; exact ⟨cne hsc_18 hlg_18 (by simp), cne hsc_18 he_18 (by simp), cne hsc_18 hlf_18 (by simp), cne hsc_18 hso_18 (by simp), cne hsc_18 hfc_18 (by simp)⟩)
                              have hth_19 : f19 th = some (.inl (cy 0, 6, .inl (t))) := hr19 _ _ hth_18 (by simp only [List.mem_cons, List.not_mem_nil, or_false, not_or]; exact ⟨cne hth_18 hlg_18 (by simp), Ne.symm ((enn hc_18 hth (hen2.2.2.2.2))), cne hth_18 hlf_18 (by simp), Ne.symm (hne.2.2.2.1), Ne.symm (hne.2.2.2.2.2.2)⟩)
                              have hcc_19 : e_19 = en ∨ f e_19 = none := eny (S := [lg, en, lf, so, fc]) hc_18 hc_19 (fr_tr fr_rf (fr_mo hr18 (by simp))) (by intro z hz2; simp only [List.mem_cons, List.not_mem_nil, or_false] at hz2; rcases hz2 with rfl | rfl | rfl | rfl | rfl; exact Or.inr ⟨_, hlg_18⟩; exact Or.inl rfl; exact Or.inr ⟨_, hlf_18⟩; exact Or.inr ⟨_, hso_18⟩; exact Or.inr ⟨_, hfc_18⟩)
                              exact gz_vretU rfl dX1_acquire_211 (by omega) (by omega) (⟨_, _, _, _, _, _, _, _, _, rfl, hlg_19, he_19, hlf_19, hso_19, hfc_19, hl_19, ⟨by omega, by omega⟩, hcc_19, (frx hc_18 (fr_tr fr_rf (fr_mo hr18 (by simp))) hr19)⟩)
                          ·
                            refine gz_aload dX1_acquire_132 rfl ?_
                            refine gz_iload_n dX1_acquire_134 rfl rfl ?_
                            refine gz_aload_n dX1_acquire_135 rfl rfl ?_
                            refine sgX1_17 hco rfl dX1_acquire_136 ?_
                            refine scX1_70 (k_X2_holds (w := wd) hp h1 h2 hsc hth hs hv) hp ⟨(by simp only [gRm]; omega), (by simp only [gRm]; omega)⟩ ⟨(by simp only [gRm]; omega), (by simp only [gRm]; omega)⟩ rfl rfl (Nat.le_of_ble_eq_true rfl) dX1_acquire_139 ?_
                            intro v9 f9 z9; rw [z9.1, z9.2]
                            refine gz_if_ne (tgt := 153) dX1_acquire_142 (by decide) (fun c_142 => ?_) (fun c_142 => ?_)
                            ·
                              refine gz_aload dX1_acquire_153 rfl ?_
                              refine gz_iload_n dX1_acquire_155 rfl rfl ?_
                              refine gz_iload_n dX1_acquire_156 rfl rfl ?_
                              refine gz_aload_n dX1_acquire_157 rfl rfl ?_
                              refine sgX1_17 hco rfl dX1_acquire_158 ?_
                              refine scX1_73 (k_X2_passed (w := wd) (x := fa) hp h1 h2 hsc hth hs hv) hp ⟨(by simp only [gRm]; omega), (by simp only [gRm]; omega)⟩ ⟨(by simp only [gRm]; omega), (by simp only [gRm]; omega)⟩ rfl rfl (Nat.le_of_ble_eq_true rfl) dX1_acquire_161 ?_
                              intro v9 f9 z9; rw [z9.1, z9.2]
                              refine gz_istore (lv' := [(7, .int (pasF n1 n2 g h s v t da wd fa)), (6, .int (fldF n1 g s wd 0)), (5, .ref p), (0, .ref co), (1, .ref lf), (2, .int wd), (3, .int fa), (4, .int wi)]) dX1_acquire_164 (by decide) rfl ?_
                              refine gz_aload_n dX1_acquire_166 rfl rfl ?_
                              refine gz_aload_n dX1_acquire_167 rfl rfl ?_
                              refine gz_aload dX1_acquire_168 rfl ?_
                              refine gz_iload_n dX1_acquire_170 rfl rfl ?_
                              refine gz_aload_n dX1_acquire_171 rfl rfl ?_
                              refine sgX1_17 hco rfl dX1_acquire_172 ?_
                              refine scX1_77 (k_X2_nextDeed (w := wd) hp h1 hsc hs) hp ⟨(by simp only [gRm]; omega), (by simp only [gRm]; omega)⟩ ⟨(by simp only [gRm]; omega), (by simp only [gRm]; omega)⟩ rfl rfl (Nat.le_of_ble_eq_true rfl) dX1_acquire_175 ?_
                              intro v9 f9 z9; rw [z9.1, z9.2]
                              refine gz_iload dX1_acquire_178 rfl ?_
                              refine gz_iload dX1_acquire_180 rfl ?_
                              refine gz_iconst (v := 1) dX1_acquire_182 (by decide) ?_
                              refine gz_iadd dX1_acquire_183 ?_
                              refine suX1_32 (ih (nxtF n1 g s da wd) (pasF n1 n2 g h s v t da wd fa) (wi + 1) en _ _ sz lo fs_ ga _ _ _ hco hlf hso hfc hp h1 h2 hsc hth hlg hen hl hen2 (by have e13 : (13 : Int32).toInt = 13 := rfl; have e0 : (0 : Int32).toInt = 0 := rfl; have e2 : (2 : Int32).toInt = 2 := rfl; have e1 : (1 : Int32).toInt = 1 := rfl; have e6 : (6 : Int32).toInt = 6 := rfl; have em2 : (-2 : Int32).toInt = -2 := rfl; have e11 : (11 : Int32).toInt = 11 := rfl; simp only [fl_lt] at c_14; have hx := T_add (rfl : wi.toInt = wi.toInt) e1 (by omega); rw [hx]; omega)) hco ⟨(by simp only [gRm]; omega), (by simp only [gRm]; omega)⟩ ⟨(by simp only [gRm]; omega), (by simp only [gRm]; omega)⟩ rfl rfl (Nat.le_of_ble_eq_true rfl) dX1_acquire_184 ?_
                              rintro kk_20 nn_20 r_20 f20 ⟨e_20, m_20, g_20, s_20, l_20, z_20, a_20, x_20, y_20, rfl, hlg_20, he_20, hlf_20, hso_20, hfc_20, hl_20, hu_20, hc_20, hr20⟩
                              refine gz_eq (st2 := []) rfl rfl rfl rfl ?_
                              have hco_20 : f20 co = some (.inr (1, [.ref lv, .ref sc, .ref lg, .int csz])) := hr20 _ _ hco (by simp only [List.mem_cons, List.not_mem_nil, or_false, not_or]; exact ⟨cne hco hlg (by simp), cne hco hen (by simp), cne hco hlf (by simp), cne hco hso (by simp), cne hco hfc (by simp)⟩)
                              have hp_20 : f20 p = some (.inr (2, [.ref c1, .ref c2, .int s, .int v])) := hr20 _ _ hp (by simp only [List.mem_cons, List.not_mem_nil, or_false, not_or]; exact ⟨cne hp hlg (by simp), cne hp hen (by simp), cne hp hlf (by simp), cne hp hso (by simp), cne hp hfc (by simp)⟩)
                              have h1_20 : f20 c1 = some (.inl (cy 0, n1, .inl (g))) := hr20 _ _ h1 (by simp only [List.mem_cons, List.not_mem_nil, or_false, not_or]; exact ⟨cne h1 hlg (by simp), Ne.symm (hen2.2.2.1), cne h1 hlf (by simp), Ne.symm (hne.2.1), Ne.symm (hne.2.2.2.2.1)⟩)
                              have h2_20 : f20 c2 = some (.inl (cy 0, n2, .inl (h))) := hr20 _ _ h2 (by simp only [List.mem_cons, List.not_mem_nil, or_false, not_or]; exact ⟨cne h2 hlg (by simp), Ne.symm (hen2.2.2.2.1), cne h2 hlf (by simp), Ne.symm (hne.2.2.1), Ne.symm (hne.2.2.2.2.2.1)⟩)
                              have hsc_20 : f20 sc = some (.inr (7, [.ref th, .int da])) := hr20 _ _ hsc (by simp only [List.mem_cons, List.not_mem_nil, or_false, not_or]; exact ⟨cne hsc hlg (by simp), cne hsc hen (by simp), cne hsc hlf (by simp), cne hsc hso (by simp), cne hsc hfc (by simp)⟩)
                              have hth_20 : f20 th = some (.inl (cy 0, 6, .inl (t))) := hr20 _ _ hth (by simp only [List.mem_cons, List.not_mem_nil, or_false, not_or]; exact ⟨cne hth hlg (by simp), Ne.symm (hen2.2.2.2.2), cne hth hlf (by simp), Ne.symm (hne.2.2.2.1), Ne.symm (hne.2.2.2.2.2.2)⟩)
                              refine gz_iload dX1_acquire_187 rfl ?_
                              refine gz_iconst (v := 3) dX1_acquire_189 (by decide) ?_
                              refine gz_icmp_ne (tgt := 211) dX1_acquire_190 (by decide) (fun c_190 => ?_) (fun c_190 => ?_)
                              ·
                                exact gz_vretU rfl dX1_acquire_211 (by omega) (by omega) (⟨_, _, _, _, _, _, _, _, _, rfl, hlg_20, he_20, hlf_20, hso_20, hfc_20, hl_20, ⟨by omega, by omega⟩, hc_20, (fr_tr fr_rf (fr_mo hr20 (by simp)))⟩)
                              ·
                                refine gz_aload_n dX1_acquire_193 rfl rfl ?_
                                refine gz_aload_n dX1_acquire_194 rfl rfl ?_
                                refine gz_aload dX1_acquire_195 rfl ?_
                                refine gz_iload_n dX1_acquire_197 rfl rfl ?_
                                refine gz_iconst (v := 4) dX1_acquire_198 (by decide) ?_
                                refine scX1_49 (k_X2_field (w := wd) (k := 4) hp_20 h1_20 hs) hp_20 ⟨(by simp only [gRm]; omega), (by simp only [gRm]; omega)⟩ ⟨(by simp only [gRm]; omega), (by simp only [gRm]; omega)⟩ rfl rfl (Nat.le_of_ble_eq_true rfl) dX1_acquire_199 ?_
                                intro v9 f9 z9; rw [z9.1, z9.2]
                                refine gz_iload dX1_acquire_202 rfl ?_
                                refine gz_iload dX1_acquire_204 rfl ?_
                                refine gz_iconst (v := 1) dX1_acquire_206 (by decide) ?_
                                refine gz_iadd dX1_acquire_207 ?_
                                refine suX1_32 (ih (fldF n1 g s wd 4) (pasF n1 n2 g h s v t da wd fa) (wi + 1) e_20 _ _ s_20 l_20 z_20 a_20 _ _ _ hco_20 hlf_20 hso_20 hfc_20 hp_20 h1_20 h2_20 hsc_20 hth_20 hlg_20 he_20 hl_20 ⟨(enn hc_20 hso (hen2.1)), (enn hc_20 hfc (hen2.2.1)), (enn hc_20 h1 (hen2.2.2.1)), (enn hc_20 h2 (hen2.2.2.2.1)), (enn hc_20 hth (hen2.2.2.2.2))⟩ (by have e13 : (13 : Int32).toInt = 13 := rfl; have e0 : (0 : Int32).toInt = 0 := rfl; have e2 : (2 : Int32).toInt = 2 := rfl; have e1 : (1 : Int32).toInt = 1 := rfl; have e6 : (6 : Int32).toInt = 6 := rfl; have em2 : (-2 : Int32).toInt = -2 := rfl; have e11 : (11 : Int32).toInt = 11 := rfl; simp only [fl_lt] at c_14; have hx := T_add (rfl : wi.toInt = wi.toInt) e1 (by omega); rw [hx]; omega)) hco_20 ⟨(by simp only [gRm]; omega), (by simp only [gRm]; omega)⟩ ⟨(by simp only [gRm]; omega), (by simp only [gRm]; omega)⟩ rfl rfl (Nat.le_of_ble_eq_true rfl) dX1_acquire_208 ?_
                                rintro kk_21 nn_21 r_21 f21 ⟨e_21, m_21, g_21, s_21, l_21, z_21, a_21, x_21, y_21, rfl, hlg_21, he_21, hlf_21, hso_21, hfc_21, hl_21, hu_21, hc_21, hr21⟩
                                refine gz_eq (st2 := []) rfl rfl rfl rfl ?_
                                have hco_21 : f21 co = some (.inr (1, [.ref lv, .ref sc, .ref lg, .int csz])) := hr21 _ _ hco_20 (by simp only [List.mem_cons, List.not_mem_nil, or_false, not_or]; exact ⟨cne hco_20 hlg_20 (by simp), cne hco_20 he_20 (by simp), cne hco_20 hlf_20 (by simp), cne hco_20 hso_20 (by simp), cne hco_20 hfc_20 (by simp)⟩)
                                have hp_21 : f21 p = some (.inr (2, [.ref c1, .ref c2, .int s, .int v])) := hr21 _ _ hp_20 (by simp only [List.mem_cons, List.not_mem_nil, or_false, not_or]; exact ⟨cne hp_20 hlg_20 (by simp), cne hp_20 he_20 (by simp), cne hp_20 hlf_20 (by simp), cne hp_20 hso_20 (by simp), cne hp_20 hfc_20 (by simp)⟩)
                                have h1_21 : f21 c1 = some (.inl (cy 0, n1, .inl (g))) := hr21 _ _ h1_20 (by simp only [List.mem_cons, List.not_mem_nil, or_false, not_or]; exact ⟨cne h1_20 hlg_20 (by simp), Ne.symm ((enn hc_20 h1 (hen2.2.2.1))), cne h1_20 hlf_20 (by simp), Ne.symm (hne.2.1), Ne.symm (hne.2.2.2.2.1)⟩)
                                have h2_21 : f21 c2 = some (.inl (cy 0, n2, .inl (h))) := hr21 _ _ h2_20 (by simp only [List.mem_cons, List.not_mem_nil, or_false, not_or]; exact ⟨cne h2_20 hlg_20 (by simp), Ne.symm ((enn hc_20 h2 (hen2.2.2.2.1))), cne h2_20 hlf_20 (by simp), Ne.symm (hne.2.2.1), Ne.symm (hne.2.2.2.2.2.1)⟩)
                                have hsc_21 : f21 sc = some (.inr (7, [.ref th, .int da])) := hr21 _ _ hsc_20 (by simp only [List.mem_cons, List.not_mem_nil, or_false, not_or]; exact ⟨cne hsc_20 hlg_20 (by simp), cne hsc_20 he_20 (by simp), cne hsc_20 hlf_20 (by simp), cne hsc_20 hso_20 (by simp), cne hsc_20 hfc_20 (by simp)⟩)
                                have hth_21 : f21 th = some (.inl (cy 0, 6, .inl (t))) := hr21 _ _ hth_20 (by simp only [List.mem_cons, List.not_mem_nil, or_false, not_or]; exact ⟨cne hth_20 hlg_20 (by simp), Ne.symm ((enn hc_20 hth (hen2.2.2.2.2))), cne hth_20 hlf_20 (by simp), Ne.symm (hne.2.2.2.1), Ne.symm (hne.2.2.2.2.2.2)⟩)
                                have hcc_21 : e_21 = en ∨ f e_21 = none := eny (S := [lg, en, lf, so, fc]) hc_20 hc_21 (fr_tr fr_rf (fr_mo hr20 (by simp))) (by intro z hz2; simp only [List.mem_cons, List.not_mem_nil, or_false] at hz2; rcases hz2 with rfl | rfl | rfl | rfl | rfl; exact Or.inr ⟨_, hlg_20⟩; exact Or.inl rfl; exact Or.inr ⟨_, hlf_20⟩; exact Or.inr ⟨_, hso_20⟩; exact Or.inr ⟨_, hfc_20⟩)
                                exact gz_vretU rfl dX1_acquire_211 (by omega) (by omega) (⟨_, _, _, _, _, _, _, _, _, rfl, hlg_21, he_21, hlf_21, hso_21, hfc_21, hl_21, ⟨by omega, by omega⟩, hcc_21, (frx hc_20 (fr_tr fr_rf (fr_mo hr20 (by simp))) hr21)⟩)
                            ·
                              refine gz_aload_n dX1_acquire_145 rfl rfl ?_
                              refine gz_aload_n dX1_acquire_146 rfl rfl ?_
                              refine gz_iload_n dX1_acquire_147 rfl rfl ?_
                              refine gz_iload_n dX1_acquire_148 rfl rfl ?_
                              refine scX1_66 (k_X1_keep (wd := wd) (fa := fa) hco hlg hlf hso hfc hne.1) hco ⟨(by simp only [gRm]; omega), (by simp only [gRm]; omega)⟩ ⟨(by simp only [gRm]; omega), (by simp only [gRm]; omega)⟩ rfl rfl (Nat.le_of_ble_eq_true rfl) dX1_acquire_149 ?_
                              rintro f22 ⟨l_22, z_22, x_22, y_22, hlg_22, hlf_22, hso_22, hfc_22, hr22⟩
                              have hco_22 : f22 co = some (.inr (1, [.ref lv, .ref sc, .ref lg, .int csz])) := hr22 _ _ hco (by simp only [List.mem_cons, List.not_mem_nil, or_false, not_or]; exact ⟨cne hco hlg (by simp), cne hco hlf (by simp), cne hco hso (by simp), cne hco hfc (by simp)⟩)
                              have hp_22 : f22 p = some (.inr (2, [.ref c1, .ref c2, .int s, .int v])) := hr22 _ _ hp (by simp only [List.mem_cons, List.not_mem_nil, or_false, not_or]; exact ⟨cne hp hlg (by simp), cne hp hlf (by simp), cne hp hso (by simp), cne hp hfc (by simp)⟩)
                              have h1_22 : f22 c1 = some (.inl (cy 0, n1, .inl (g))) := hr22 _ _ h1 (by simp only [List.mem_cons, List.not_mem_nil, or_false, not_or]; exact ⟨cne h1 hlg (by simp), cne h1 hlf (by simp), Ne.symm (hne.2.1), Ne.symm (hne.2.2.2.2.1)⟩)
                              have h2_22 : f22 c2 = some (.inl (cy 0, n2, .inl (h))) := hr22 _ _ h2 (by simp only [List.mem_cons, List.not_mem_nil, or_false, not_or]; exact ⟨cne h2 hlg (by simp), cne h2 hlf (by simp), Ne.symm (hne.2.2.1), Ne.symm (hne.2.2.2.2.2.1)⟩)
                              have hsc_22 : f22 sc = some (.inr (7, [.ref th, .int da])) := hr22 _ _ hsc (by simp only [List.mem_cons, List.not_mem_nil, or_false, not_or]; exact ⟨cne hsc hlg (by simp), cne hsc hlf (by simp), cne hsc hso (by simp), cne hsc hfc (by simp)⟩)
                              have hth_22 : f22 th = some (.inl (cy 0, 6, .inl (t))) := hr22 _ _ hth (by simp only [List.mem_cons, List.not_mem_nil, or_false, not_or]; exact ⟨cne hth hlg (by simp), cne hth hlf (by simp), Ne.symm (hne.2.2.2.1), Ne.symm (hne.2.2.2.2.2.2)⟩)
                              have hen_22 : f22 en = some (.inl (cy 0, ne, .inl (eg))) := hr22 _ _ hen (by simp only [List.mem_cons, List.not_mem_nil, or_false, not_or]; exact ⟨cne hen hlg (by simp), cne hen hlf (by simp), hen2.1, hen2.2.1⟩)
                              exact gz_vretU rfl dX1_acquire_152 (by omega) (by omega) (⟨_, _, _, _, _, _, _, _, _, rfl, hlg_22, hen_22, hlf_22, hso_22, hfc_22, hl, ⟨by omega, by omega⟩, (Or.inl rfl), (fr_tr fr_rf (fr_mo hr22 (by simp)))⟩)
                        ·
                          by_cases hw_42_8 : (fldF n1 g s wd 0) = 7
                          ·
                            refine gz_ev (w := .int 7) (congrArg Value.int hw_42_8) ?_
                            refine gz_tableIn (off := 75) (tgt := 117) dX1_acquire_42 (by decide) (by decide) rfl (by decide) ?_
                            refine gz_aload_n dX1_acquire_117 rfl rfl ?_
                            refine gz_aload_n dX1_acquire_118 rfl rfl ?_
                            refine gz_iload_n dX1_acquire_119 rfl rfl ?_
                            refine gz_iload_n dX1_acquire_120 rfl rfl ?_
                            refine scX1_66 (k_X1_keep (wd := wd) (fa := fa) hco hlg hlf hso hfc hne.1) hco ⟨(by simp only [gRm]; omega), (by simp only [gRm]; omega)⟩ ⟨(by simp only [gRm]; omega), (by simp only [gRm]; omega)⟩ rfl rfl (Nat.le_of_ble_eq_true rfl) dX1_acquire_121 ?_
                            rintro f23 ⟨l_23, z_23, x_23, y_23, hlg_23, hlf_23, hso_23, hfc_23, hr23⟩
                            have hco_23 : f23 co = some (.inr (1, [.ref lv, .ref sc, .ref lg, .int csz])) := hr23 _ _ hco (by simp only [List.mem_cons, List.not_mem_nil, or_false, not_or]; exact ⟨cne hco hlg (by simp), cne hco hlf (by simp), cne hco hso (by simp), cne hco hfc (by simp)⟩)
                            have hp_23 : f23 p = some (.inr (2, [.ref c1, .ref c2, .int s, .int v])) := hr23 _ _ hp (by simp only [List.mem_cons, List.not_mem_nil, or_false, not_or]; exact ⟨cne hp hlg (by simp), cne hp hlf (by simp), cne hp hso (by simp), cne hp hfc (by simp)⟩)
                            have h1_23 : f23 c1 = some (.inl (cy 0, n1, .inl (g))) := hr23 _ _ h1 (by simp only [List.mem_cons, List.not_mem_nil, or_false, not_or]; exact ⟨cne h1 hlg (by simp), cne h1 hlf (by simp), Ne.symm (hne.2.1), Ne.symm (hne.2.2.2.2.1)⟩)
                            have h2_23 : f23 c2 = some (.inl (cy 0, n2, .inl (h))) := hr23 _ _ h2 (by simp only [List.mem_cons, List.not_mem_nil, or_false, not_or]; exact ⟨cne h2 hlg (by simp), cne h2 hlf (by simp), Ne.symm (hne.2.2.1), Ne.symm (hne.2.2.2.2.2.1)⟩)
                            have hsc_23 : f23 sc = some (.inr (7, [.ref th, .int da])) := hr23 _ _ hsc (by simp only [List.mem_cons, List.not_mem_nil, or_false, not_or]; exact ⟨cne hsc hlg (by simp), cne hsc hlf (by simp), cne hsc hso (by simp), cne hsc hfc (by simp)⟩)
                            have hth_23 : f23 th = some (.inl (cy 0, 6, .inl (t))) := hr23 _ _ hth (by simp only [List.mem_cons, List.not_mem_nil, or_false, not_or]; exact ⟨cne hth hlg (by simp), cne hth hlf (by simp), Ne.symm (hne.2.2.2.1), Ne.symm (hne.2.2.2.2.2.2)⟩)
                            have hen_23 : f23 en = some (.inl (cy 0, ne, .inl (eg))) := hr23 _ _ hen (by simp only [List.mem_cons, List.not_mem_nil, or_false, not_or]; exact ⟨cne hen hlg (by simp), cne hen hlf (by simp), hen2.1, hen2.2.1⟩)
                            exact gz_vretU rfl dX1_acquire_124 (by omega) (by omega) (⟨_, _, _, _, _, _, _, _, _, rfl, hlg_23, hen_23, hlf_23, hso_23, hfc_23, hl, ⟨by omega, by omega⟩, (Or.inl rfl), (fr_tr fr_rf (fr_mo hr23 (by simp)))⟩)
                          ·
                            refine gz_tableOut (tgt := 125) dX1_acquire_42 (by have g0 : (fldF n1 g s wd 0).toInt ≠ -1 := fun e => hw_42_0 (Int32.toInt_inj.mp (e.trans rfl)); have g1 : (fldF n1 g s wd 0).toInt ≠ 0 := fun e => hw_42_1 (Int32.toInt_inj.mp (e.trans rfl)); have g2 : (fldF n1 g s wd 0).toInt ≠ 1 := fun e => hw_42_2 (Int32.toInt_inj.mp (e.trans rfl)); have g3 : (fldF n1 g s wd 0).toInt ≠ 2 := fun e => hw_42_3 (Int32.toInt_inj.mp (e.trans rfl)); have g4 : (fldF n1 g s wd 0).toInt ≠ 3 := fun e => hw_42_4 (Int32.toInt_inj.mp (e.trans rfl)); have g5 : (fldF n1 g s wd 0).toInt ≠ 4 := fun e => hw_42_5 (Int32.toInt_inj.mp (e.trans rfl)); have g6 : (fldF n1 g s wd 0).toInt ≠ 5 := fun e => hw_42_6 (Int32.toInt_inj.mp (e.trans rfl)); have g7 : (fldF n1 g s wd 0).toInt ≠ 6 := fun e => hw_42_7 (Int32.toInt_inj.mp (e.trans rfl)); have g8 : (fldF n1 g s wd 0).toInt ≠ 7 := fun e => hw_42_8 (Int32.toInt_inj.mp (e.trans rfl)); omega) (by decide) ?_
                            refine gz_iload dX1_acquire_125 rfl ?_
                            refine gz_bipush (v := 6) dX1_acquire_127 (by decide) ?_
                            refine gz_icmp_ne (tgt := 153) dX1_acquire_129 (by decide) (fun c_129 => ?_) (fun c_129 => ?_)
                            ·
                              refine gz_aload dX1_acquire_153 rfl ?_
                              refine gz_iload_n dX1_acquire_155 rfl rfl ?_
                              refine gz_iload_n dX1_acquire_156 rfl rfl ?_
                              refine gz_aload_n dX1_acquire_157 rfl rfl ?_
                              refine sgX1_17 hco rfl dX1_acquire_158 ?_
                              refine scX1_73 (k_X2_passed (w := wd) (x := fa) hp h1 h2 hsc hth hs hv) hp ⟨(by simp only [gRm]; omega), (by simp only [gRm]; omega)⟩ ⟨(by simp only [gRm]; omega), (by simp only [gRm]; omega)⟩ rfl rfl (Nat.le_of_ble_eq_true rfl) dX1_acquire_161 ?_
                              intro v9 f9 z9; rw [z9.1, z9.2]
                              refine gz_istore (lv' := [(7, .int (pasF n1 n2 g h s v t da wd fa)), (6, .int (fldF n1 g s wd 0)), (5, .ref p), (0, .ref co), (1, .ref lf), (2, .int wd), (3, .int fa), (4, .int wi)]) dX1_acquire_164 (by decide) rfl ?_
                              refine gz_aload_n dX1_acquire_166 rfl rfl ?_
                              refine gz_aload_n dX1_acquire_167 rfl rfl ?_
                              refine gz_aload dX1_acquire_168 rfl ?_
                              refine gz_iload_n dX1_acquire_170 rfl rfl ?_
                              refine gz_aload_n dX1_acquire_171 rfl rfl ?_
                              refine sgX1_17 hco rfl dX1_acquire_172 ?_
                              refine scX1_77 (k_X2_nextDeed (w := wd) hp h1 hsc hs) hp ⟨(by simp only [gRm]; omega), (by simp only [gRm]; omega)⟩ ⟨(by simp only [gRm]; omega), (by simp only [gRm]; omega)⟩ rfl rfl (Nat.le_of_ble_eq_true rfl) dX1_acquire_175 ?_
                              intro v9 f9 z9; rw [z9.1, z9.2]
                              refine gz_iload dX1_acquire_178 rfl ?_
                              refine gz_iload dX1_acquire_180 rfl ?_
                              refine gz_iconst (v := 1) dX1_acquire_182 (by decide) ?_
                              refine gz_iadd dX1_acquire_183 ?_
                              refine suX1_32 (ih (nxtF n1 g s da wd) (pasF n1 n2 g h s v t da wd fa) (wi + 1) en _ _ sz lo fs_ ga _ _ _ hco hlf hso hfc hp h1 h2 hsc hth hlg hen hl hen2 (by have e13 : (13 : Int32).toInt = 13 := rfl; have e0 : (0 : Int32).toInt = 0 := rfl; have e2 : (2 : Int32).toInt = 2 := rfl; have e1 : (1 : Int32).toInt = 1 := rfl; have e6 : (6 : Int32).toInt = 6 := rfl; have em2 : (-2 : Int32).toInt = -2 := rfl; have e11 : (11 : Int32).toInt = 11 := rfl; simp only [fl_lt] at c_14; have hx := T_add (rfl : wi.toInt = wi.toInt) e1 (by omega); rw [hx]; omega)) hco ⟨(by simp only [gRm]; omega), (by simp only [gRm]; omega)⟩ ⟨(by simp only [gRm]; omega), (by simp only [gRm]; omega)⟩ rfl rfl (Nat.le_of_ble_eq_true rfl) dX1_acquire_184 ?_
                              rintro kk_24 nn_24 r_24 f24 ⟨e_24, m_24, g_24, s_24, l_24, z_24, a_24, x_24, y_24, rfl, hlg_24, he_24, hlf_24, hso_24, hfc_24, hl_24, hu_24, hc_24, hr24⟩
                              refine gz_eq (st2 := []) rfl rfl rfl rfl ?_
                              have hco_24 : f24 co = some (.inr (1, [.ref lv, .ref sc, .ref lg, .int csz])) := hr24 _ _ hco (by simp only [List.mem_cons, List.not_mem_nil, or_false, not_or]; exact ⟨cne hco hlg (by simp), cne hco hen (by simp), cne hco hlf (by simp), cne hco hso (by simp), cne hco hfc (by simp)⟩)
                              have hp_24 : f24 p = some (.inr (2, [.ref c1, .ref c2, .int s, .int v])) := hr24 _ _ hp (by simp only [List.mem_cons, List.not_mem_nil, or_false, not_or]; exact ⟨cne hp hlg (by simp), cne hp hen (by simp), cne hp hlf (by simp), cne hp hso (by simp), cne hp hfc (by simp)⟩)
                              have h1_24 : f24 c1 = some (.inl (cy 0, n1, .inl (g))) := hr24 _ _ h1 (by simp only [List.mem_cons, List.not_mem_nil, or_false, not_or]; exact ⟨cne h1 hlg (by simp), Ne.symm (hen2.2.2.1), cne h1 hlf (by simp), Ne.symm (hne.2.1), Ne.symm (hne.2.2.2.2.1)⟩)
                              have h2_24 : f24 c2 = some (.inl (cy 0, n2, .inl (h))) := hr24 _ _ h2 (by simp only [List.mem_cons, List.not_mem_nil, or_false, not_or]; exact ⟨cne h2 hlg (by simp), Ne.symm (hen2.2.2.2.1), cne h2 hlf (by simp), Ne.symm (hne.2.2.1), Ne.symm (hne.2.2.2.2.2.1)⟩)
                              have hsc_24 : f24 sc = some (.inr (7, [.ref th, .int da])) := hr24 _ _ hsc (by simp only [List.mem_cons, List.not_mem_nil, or_false, not_or]; exact ⟨cne hsc hlg (by simp), cne hsc hen (by simp), cne hsc hlf (by simp), cne hsc hso (by simp), cne hsc hfc (by simp)⟩)
                              have hth_24 : f24 th = some (.inl (cy 0, 6, .inl (t))) := hr24 _ _ hth (by simp only [List.mem_cons, List.not_mem_nil, or_false, not_or]; exact ⟨cne hth hlg (by simp), Ne.symm (hen2.2.2.2.2), cne hth hlf (by simp), Ne.symm (hne.2.2.2.1), Ne.symm (hne.2.2.2.2.2.2)⟩)
                              refine gz_iload dX1_acquire_187 rfl ?_
                              refine gz_iconst (v := 3) dX1_acquire_189 (by decide) ?_
                              refine gz_icmp_ne (tgt := 211) dX1_acquire_190 (by decide) (fun c_190 => ?_) (fun c_190 => ?_)
                              ·
                                exact gz_vretU rfl dX1_acquire_211 (by omega) (by omega) (⟨_, _, _, _, _, _, _, _, _, rfl, hlg_24, he_24, hlf_24, hso_24, hfc_24, hl_24, ⟨by omega, by omega⟩, hc_24, (fr_tr fr_rf (fr_mo hr24 (by simp)))⟩)
                              ·
                                refine gz_aload_n dX1_acquire_193 rfl rfl ?_
                                refine gz_aload_n dX1_acquire_194 rfl rfl ?_
                                refine gz_aload dX1_acquire_195 rfl ?_
                                refine gz_iload_n dX1_acquire_197 rfl rfl ?_
                                refine gz_iconst (v := 4) dX1_acquire_198 (by decide) ?_
                                refine scX1_49 (k_X2_field (w := wd) (k := 4) hp_24 h1_24 hs) hp_24 ⟨(by simp only [gRm]; omega), (by simp only [gRm]; omega)⟩ ⟨(by simp only [gRm]; omega), (by simp only [gRm]; omega)⟩ rfl rfl (Nat.le_of_ble_eq_true rfl) dX1_acquire_199 ?_
                                intro v9 f9 z9; rw [z9.1, z9.2]
                                refine gz_iload dX1_acquire_202 rfl ?_
                                refine gz_iload dX1_acquire_204 rfl ?_
                                refine gz_iconst (v := 1) dX1_acquire_206 (by decide) ?_
                                refine gz_iadd dX1_acquire_207 ?_
                                refine suX1_32 (ih (fldF n1 g s wd 4) (pasF n1 n2 g h s v t da wd fa) (wi + 1) e_24 _ _ s_24 l_24 z_24 a_24 _ _ _ hco_24 hlf_24 hso_24 hfc_24 hp_24 h1_24 h2_24 hsc_24 hth_24 hlg_24 he_24 hl_24 ⟨(enn hc_24 hso (hen2.1)), (enn hc_24 hfc (hen2.2.1)), (enn hc_24 h1 (hen2.2.2.1)), (enn hc_24 h2 (hen2.2.2.2.1)), (enn hc_24 hth (hen2.2.2.2.2))⟩ (by have e13 : (13 : Int32).toInt = 13 := rfl; have e0 : (0 : Int32).toInt = 0 := rfl; have e2 : (2 : Int32).toInt = 2 := rfl; have e1 : (1 : Int32).toInt = 1 := rfl; have e6 : (6 : Int32).toInt = 6 := rfl; have em2 : (-2 : Int32).toInt = -2 := rfl; have e11 : (11 : Int32).toInt = 11 := rfl; simp only [fl_lt] at c_14; have hx := T_add (rfl : wi.toInt = wi.toInt) e1 (by omega); rw [hx]; omega)) hco_24 ⟨(by simp only [gRm]; omega), (by simp only [gRm]; omega)⟩ ⟨(by simp only [gRm]; omega), (by simp only [gRm]; omega)⟩ rfl rfl (Nat.le_of_ble_eq_true rfl) dX1_acquire_208 ?_
                                rintro kk_25 nn_25 r_25 f25 ⟨e_25, m_25, g_25, s_25, l_25, z_25, a_25, x_25, y_25, rfl, hlg_25, he_25, hlf_25, hso_25, hfc_25, hl_25, hu_25, hc_25, hr25⟩
                                refine gz_eq (st2 := []) rfl rfl rfl rfl ?_
                                have hco_25 : f25 co = some (.inr (1, [.ref lv, .ref sc, .ref lg, .int csz])) := hr25 _ _ hco_24 (by simp only [List.mem_cons, List.not_mem_nil, or_false, not_or]; exact ⟨cne hco_24 hlg_24 (by simp), cne hco_24 he_24 (by simp), cne hco_24 hlf_24 (by simp), cne hco_24 hso_24 (by simp), cne hco_24 hfc_24 (by simp)⟩)
                                have hp_25 : f25 p = some (.inr (2, [.ref c1, .ref c2, .int s, .int v])) := hr25 _ _ hp_24 (by simp only [List.mem_cons, List.not_mem_nil, or_false, not_or]; exact ⟨cne hp_24 hlg_24 (by simp), cne hp_24 he_24 (by simp), cne hp_24 hlf_24 (by simp), cne hp_24 hso_24 (by simp), cne hp_24 hfc_24 (by simp)⟩)
                                have h1_25 : f25 c1 = some (.inl (cy 0, n1, .inl (g))) := hr25 _ _ h1_24 (by simp only [List.mem_cons, List.not_mem_nil, or_false, not_or]; exact ⟨cne h1_24 hlg_24 (by simp), Ne.symm ((enn hc_24 h1 (hen2.2.2.1))), cne h1_24 hlf_24 (by simp), Ne.symm (hne.2.1), Ne.symm (hne.2.2.2.2.1)⟩)
                                have h2_25 : f25 c2 = some (.inl (cy 0, n2, .inl (h))) := hr25 _ _ h2_24 (by simp only [List.mem_cons, List.not_mem_nil, or_false, not_or]; exact ⟨cne h2_24 hlg_24 (by simp), Ne.symm ((enn hc_24 h2 (hen2.2.2.2.1))), cne h2_24 hlf_24 (by simp), Ne.symm (hne.2.2.1), Ne.symm (hne.2.2.2.2.2.1)⟩)
                                have hsc_25 : f25 sc = some (.inr (7, [.ref th, .int da])) := hr25 _ _ hsc_24 (by simp only [List.mem_cons, List.not_mem_nil, or_false, not_or]; exact ⟨cne hsc_24 hlg_24 (by simp), cne hsc_24 he_24 (by simp), cne hsc_24 hlf_24 (by simp), cne hsc_24 hso_24 (by simp), cne hsc_24 hfc_24 (by simp)⟩)
                                have hth_25 : f25 th = some (.inl (cy 0, 6, .inl (t))) := hr25 _ _ hth_24 (by simp only [List.mem_cons, List.not_mem_nil, or_false, not_or]; exact ⟨cne hth_24 hlg_24 (by simp), Ne.symm ((enn hc_24 hth (hen2.2.2.2.2))), cne hth_24 hlf_24 (by simp), Ne.symm (hne.2.2.2.1), Ne.symm (hne.2.2.2.2.2.2)⟩)
                                have hcc_25 : e_25 = en ∨ f e_25 = none := eny (S := [lg, en, lf, so, fc]) hc_24 hc_25 (fr_tr fr_rf (fr_mo hr24 (by simp))) (by intro z hz2; simp only [List.mem_cons, List.not_mem_nil, or_false] at hz2; rcases hz2 with rfl | rfl | rfl | rfl | rfl; exact Or.inr ⟨_, hlg_24⟩; exact Or.inl rfl; exact Or.inr ⟨_, hlf_24⟩; exact Or.inr ⟨_, hso_24⟩; exact Or.inr ⟨_, hfc_24⟩)
                                exact gz_vretU rfl dX1_acquire_211 (by omega) (by omega) (⟨_, _, _, _, _, _, _, _, _, rfl, hlg_25, he_25, hlf_25, hso_25, hfc_25, hl_25, ⟨by omega, by omega⟩, hcc_25, (frx hc_24 (fr_tr fr_rf (fr_mo hr24 (by simp))) hr25)⟩)
                            ·
                              refine gz_aload dX1_acquire_132 rfl ?_
                              refine gz_iload_n dX1_acquire_134 rfl rfl ?_
                              refine gz_aload_n dX1_acquire_135 rfl rfl ?_
                              refine sgX1_17 hco rfl dX1_acquire_136 ?_
                              refine scX1_70 (k_X2_holds (w := wd) hp h1 h2 hsc hth hs hv) hp ⟨(by simp only [gRm]; omega), (by simp only [gRm]; omega)⟩ ⟨(by simp only [gRm]; omega), (by simp only [gRm]; omega)⟩ rfl rfl (Nat.le_of_ble_eq_true rfl) dX1_acquire_139 ?_
                              intro v9 f9 z9; rw [z9.1, z9.2]
                              refine gz_if_ne (tgt := 153) dX1_acquire_142 (by decide) (fun c_142 => ?_) (fun c_142 => ?_)
                              ·
                                refine gz_aload dX1_acquire_153 rfl ?_
                                refine gz_iload_n dX1_acquire_155 rfl rfl ?_
                                refine gz_iload_n dX1_acquire_156 rfl rfl ?_
                                refine gz_aload_n dX1_acquire_157 rfl rfl ?_
                                refine sgX1_17 hco rfl dX1_acquire_158 ?_
                                refine scX1_73 (k_X2_passed (w := wd) (x := fa) hp h1 h2 hsc hth hs hv) hp ⟨(by simp only [gRm]; omega), (by simp only [gRm]; omega)⟩ ⟨(by simp only [gRm]; omega), (by simp only [gRm]; omega)⟩ rfl rfl (Nat.le_of_ble_eq_true rfl) dX1_acquire_161 ?_
                                intro v9 f9 z9; rw [z9.1, z9.2]
                                refine gz_istore (lv' := [(7, .int (pasF n1 n2 g h s v t da wd fa)), (6, .int (fldF n1 g s wd 0)), (5, .ref p), (0, .ref co), (1, .ref lf), (2, .int wd), (3, .int fa), (4, .int wi)]) dX1_acquire_164 (by decide) rfl ?_
                                refine gz_aload_n dX1_acquire_166 rfl rfl ?_
                                refine gz_aload_n dX1_acquire_167 rfl rfl ?_
                                refine gz_aload dX1_acquire_168 rfl ?_
                                refine gz_iload_n dX1_acquire_170 rfl rfl ?_
                                refine gz_aload_n dX1_acquire_171 rfl rfl ?_
                                refine sgX1_17 hco rfl dX1_acquire_172 ?_
                                refine scX1_77 (k_X2_nextDeed (w := wd) hp h1 hsc hs) hp ⟨(by simp only [gRm]; omega), (by simp only [gRm]; omega)⟩ ⟨(by simp only [gRm]; omega), (by simp only [gRm]; omega)⟩ rfl rfl (Nat.le_of_ble_eq_true rfl) dX1_acquire_175 ?_
                                intro v9 f9 z9; rw [z9.1, z9.2]
                                refine gz_iload dX1_acquire_178 rfl ?_
                                refine gz_iload dX1_acquire_180 rfl ?_
                                refine gz_iconst (v := 1) dX1_acquire_182 (by decide) ?_
                                refine gz_iadd dX1_acquire_183 ?_
                                refine suX1_32 (ih (nxtF n1 g s da wd) (pasF n1 n2 g h s v t da wd fa) (wi + 1) en _ _ sz lo fs_ ga _ _ _ hco hlf hso hfc hp h1 h2 hsc hth hlg hen hl hen2 (by have e13 : (13 : Int32).toInt = 13 := rfl; have e0 : (0 : Int32).toInt = 0 := rfl; have e2 : (2 : Int32).toInt = 2 := rfl; have e1 : (1 : Int32).toInt = 1 := rfl; have e6 : (6 : Int32).toInt = 6 := rfl; have em2 : (-2 : Int32).toInt = -2 := rfl; have e11 : (11 : Int32).toInt = 11 := rfl; simp only [fl_lt] at c_14; have hx := T_add (rfl : wi.toInt = wi.toInt) e1 (by omega); rw [hx]; omega)) hco ⟨(by simp only [gRm]; omega), (by simp only [gRm]; omega)⟩ ⟨(by simp only [gRm]; omega), (by simp only [gRm]; omega)⟩ rfl rfl (Nat.le_of_ble_eq_true rfl) dX1_acquire_184 ?_
                                rintro kk_26 nn_26 r_26 f26 ⟨e_26, m_26, g_26, s_26, l_26, z_26, a_26, x_26, y_26, rfl, hlg_26, he_26, hlf_26, hso_26, hfc_26, hl_26, hu_26, hc_26, hr26⟩
                                refine gz_eq (st2 := []) rfl rfl rfl rfl ?_
                                have hco_26 : f26 co = some (.inr (1, [.ref lv, .ref sc, .ref lg, .int csz])) := hr26 _ _ hco (by simp only [List.mem_cons, List.not_mem_nil, or_false, not_or]; exact ⟨cne hco hlg (by simp), cne hco hen (by simp), cne hco hlf (by simp), cne hco hso (by simp), cne hco hfc (by simp)⟩)
                                have hp_26 : f26 p = some (.inr (2, [.ref c1, .ref c2, .int s, .int v])) := hr26 _ _ hp (by simp only [List.mem_cons, List.not_mem_nil, or_false, not_or]; exact ⟨cne hp hlg (by simp), cne hp hen (by simp), cne hp hlf (by simp), cne hp hso (by simp), cne hp hfc (by simp)⟩)
                                have h1_26 : f26 c1 = some (.inl (cy 0, n1, .inl (g))) := hr26 _ _ h1 (by simp only [List.mem_cons, List.not_mem_nil, or_false, not_or]; exact ⟨cne h1 hlg (by simp), Ne.symm (hen2.2.2.1), cne h1 hlf (by simp), Ne.symm (hne.2.1), Ne.symm (hne.2.2.2.2.1)⟩)
                                have h2_26 : f26 c2 = some (.inl (cy 0, n2, .inl (h))) := hr26 _ _ h2 (by simp only [List.mem_cons, List.not_mem_nil, or_false, not_or]; exact ⟨cne h2 hlg (by simp), Ne.symm (hen2.2.2.2.1), cne h2 hlf (by simp), Ne.symm (hne.2.2.1), Ne.symm (hne.2.2.2.2.2.1)⟩)
                                have hsc_26 : f26 sc = some (.inr (7, [.ref th, .int da])) := hr26 _ _ hsc (by simp only [List.mem_cons, List.not_mem_nil, or_false, not_or]; exact ⟨cne hsc hlg (by simp), cne hsc hen (by simp), cne hsc hlf (by simp), cne hsc hso (by simp), cne hsc hfc (by simp)⟩)
                                have hth_26 : f26 th = some (.inl (cy 0, 6, .inl (t))) := hr26 _ _ hth (by simp only [List.mem_cons, List.not_mem_nil, or_false, not_or]; exact ⟨cne hth hlg (by simp), Ne.symm (hen2.2.2.2.2), cne hth hlf (by simp), Ne.symm (hne.2.2.2.1), Ne.symm (hne.2.2.2.2.2.2)⟩)
                                refine gz_iload dX1_acquire_187 rfl ?_
                                refine gz_iconst (v := 3) dX1_acquire_189 (by decide) ?_
                                refine gz_icmp_ne (tgt := 211) dX1_acquire_190 (by decide) (fun c_190 => ?_) (fun c_190 => ?_)
                                ·
                                  exact gz_vretU rfl dX1_acquire_211 (by omega) (by omega) (⟨_, _, _, _, _, _, _, _, _, rfl, hlg_26, he_26, hlf_26, hso_26, hfc_26, hl_26, ⟨by omega, by omega⟩, hc_26, (fr_tr fr_rf (fr_mo hr26 (by simp)))⟩)
                                ·
                                  refine gz_aload_n dX1_acquire_193 rfl rfl ?_
                                  refine gz_aload_n dX1_acquire_194 rfl rfl ?_
                                  refine gz_aload dX1_acquire_195 rfl ?_
                                  refine gz_iload_n dX1_acquire_197 rfl rfl ?_
                                  refine gz_iconst (v := 4) dX1_acquire_198 (by decide) ?_
                                  refine scX1_49 (k_X2_field (w := wd) (k := 4) hp_26 h1_26 hs) hp_26 ⟨(by simp only [gRm]; omega), (by simp only [gRm]; omega)⟩ ⟨(by simp only [gRm]; omega), (by simp only [gRm]; omega)⟩ rfl rfl (Nat.le_of_ble_eq_true rfl) dX1_acquire_199 ?_
                                  intro v9 f9 z9; rw [z9.1, z9.2]
                                  refine gz_iload dX1_acquire_202 rfl ?_
                                  refine gz_iload dX1_acquire_204 rfl ?_
                                  refine gz_iconst (v := 1) dX1_acquire_206 (by decide) ?_
                                  refine gz_iadd dX1_acquire_207 ?_
                                  refine suX1_32 (ih (fldF n1 g s wd 4) (pasF n1 n2 g h s v t da wd fa) (wi + 1) e_26 _ _ s_26 l_26 z_26 a_26 _ _ _ hco_26 hlf_26 hso_26 hfc_26 hp_26 h1_26 h2_26 hsc_26 hth_26 hlg_26 he_26 hl_26 ⟨(enn hc_26 hso (hen2.1)), (enn hc_26 hfc (hen2.2.1)), (enn hc_26 h1 (hen2.2.2.1)), (enn hc_26 h2 (hen2.2.2.2.1)), (enn hc_26 hth (hen2.2.2.2.2))⟩ (by have e13 : (13 : Int32).toInt = 13 := rfl; have e0 : (0 : Int32).toInt = 0 := rfl; have e2 : (2 : Int32).toInt = 2 := rfl; have e1 : (1 : Int32).toInt = 1 := rfl; have e6 : (6 : Int32).toInt = 6 := rfl; have em2 : (-2 : Int32).toInt = -2 := rfl; have e11 : (11 : Int32).toInt = 11 := rfl; simp only [fl_lt] at c_14; have hx := T_add (rfl : wi.toInt = wi.toInt) e1 (by omega); rw [hx]; omega)) hco_26 ⟨(by simp only [gRm]; omega), (by simp only [gRm]; omega)⟩ ⟨(by simp only [gRm]; omega), (by simp only [gRm]; omega)⟩ rfl rfl (Nat.le_of_ble_eq_true rfl) dX1_acquire_208 ?_
                                  rintro kk_27 nn_27 r_27 f27 ⟨e_27, m_27, g_27, s_27, l_27, z_27, a_27, x_27, y_27, rfl, hlg_27, he_27, hlf_27, hso_27, hfc_27, hl_27, hu_27, hc_27, hr27⟩
                                  refine gz_eq (st2 := []) rfl rfl rfl rfl ?_
                                  have hco_27 : f27 co = some (.inr (1, [.ref lv, .ref sc, .ref lg, .int csz])) := hr27 _ _ hco_26 (by simp only [List.mem_cons, List.not_mem_nil, or_false, not_or]; exact ⟨cne hco_26 hlg_26 (by simp), cne hco_26 he_26 (by simp), cne hco_26 hlf_26 (by simp), cne hco_26 hso_26 (by simp), cne hco_26 hfc_26 (by simp)⟩)
                                  have hp_27 : f27 p = some (.inr (2, [.ref c1, .ref c2, .int s, .int v])) := hr27 _ _ hp_26 (by simp only [List.mem_cons, List.not_mem_nil, or_false, not_or]; exact ⟨cne hp_26 hlg_26 (by simp), cne hp_26 he_26 (by simp), cne hp_26 hlf_26 (by simp), cne hp_26 hso_26 (by simp), cne hp_26 hfc_26 (by simp)⟩)
                                  have h1_27 : f27 c1 = some (.inl (cy 0, n1, .inl (g))) := hr27 _ _ h1_26 (by simp only [List.mem_cons, List.not_mem_nil, or_false, not_or]; exact ⟨cne h1_26 hlg_26 (by simp), Ne.symm ((enn hc_26 h1 (hen2.2.2.1))), cne h1_26 hlf_26 (by simp), Ne.symm (hne.2.1), Ne.symm (hne.2.2.2.2.1)⟩)
                                  have h2_27 : f27 c2 = some (.inl (cy 0, n2, .inl (h))) := hr27 _ _ h2_26 (by simp only [List.mem_cons, List.not_mem_nil, or_false, not_or]; exact ⟨cne h2_26 hlg_26 (by simp), Ne.symm ((enn hc_26 h2 (hen2.2.2.2.1))), cne h2_26 hlf_26 (by simp), Ne.symm (hne.2.2.1), Ne.symm (hne.2.2.2.2.2.1)⟩)
                                  have hsc_27 : f27 sc = some (.inr (7, [.ref th, .int da])) := hr27 _ _ hsc_26 (by simp only [List.mem_cons, List.not_mem_nil, or_false, not_or]; exact ⟨cne hsc_26 hlg_26 (by simp), cne hsc_26 he_26 (by simp), cne hsc_26 hlf_26 (by simp), cne hsc_26 hso_26 (by simp), cne hsc_26 hfc_26 (by simp)⟩)
                                  have hth_27 : f27 th = some (.inl (cy 0, 6, .inl (t))) := hr27 _ _ hth_26 (by simp only [List.mem_cons, List.not_mem_nil, or_false, not_or]; exact ⟨cne hth_26 hlg_26 (by simp), Ne.symm ((enn hc_26 hth (hen2.2.2.2.2))), cne hth_26 hlf_26 (by simp), Ne.symm (hne.2.2.2.1), Ne.symm (hne.2.2.2.2.2.2)⟩)
                                  have hcc_27 : e_27 = en ∨ f e_27 = none := eny (S := [lg, en, lf, so, fc]) hc_26 hc_27 (fr_tr fr_rf (fr_mo hr26 (by simp))) (by intro z hz2; simp only [List.mem_cons, List.not_mem_nil, or_false] at hz2; rcases hz2 with rfl | rfl | rfl | rfl | rfl; exact Or.inr ⟨_, hlg_26⟩; exact Or.inl rfl; exact Or.inr ⟨_, hlf_26⟩; exact Or.inr ⟨_, hso_26⟩; exact Or.inr ⟨_, hfc_26⟩)
                                  exact gz_vretU rfl dX1_acquire_211 (by omega) (by omega) (⟨_, _, _, _, _, _, _, _, _, rfl, hlg_27, he_27, hlf_27, hso_27, hfc_27, hl_27, ⟨by omega, by omega⟩, hcc_27, (frx hc_26 (fr_tr fr_rf (fr_mo hr26 (by simp))) hr27)⟩)
                              ·
                                refine gz_aload_n dX1_acquire_145 rfl rfl ?_
                                refine gz_aload_n dX1_acquire_146 rfl rfl ?_
                                refine gz_iload_n dX1_acquire_147 rfl rfl ?_
                                refine gz_iload_n dX1_acquire_148 rfl rfl ?_
                                refine scX1_66 (k_X1_keep (wd := wd) (fa := fa) hco hlg hlf hso hfc hne.1) hco ⟨(by simp only [gRm]; omega), (by simp only [gRm]; omega)⟩ ⟨(by simp only [gRm]; omega), (by simp only [gRm]; omega)⟩ rfl rfl (Nat.le_of_ble_eq_true rfl) dX1_acquire_149 ?_
                                rintro f28 ⟨l_28, z_28, x_28, y_28, hlg_28, hlf_28, hso_28, hfc_28, hr28⟩
                                have hco_28 : f28 co = some (.inr (1, [.ref lv, .ref sc, .ref lg, .int csz])) := hr28 _ _ hco (by simp only [List.mem_cons, List.not_mem_nil, or_false, not_or]; exact ⟨cne hco hlg (by simp), cne hco hlf (by simp), cne hco hso (by simp), cne hco hfc (by simp)⟩)
                                have hp_28 : f28 p = some (.inr (2, [.ref c1, .ref c2, .int s, .int v])) := hr28 _ _ hp (by simp only [List.mem_cons, List.not_mem_nil, or_false, not_or]; exact ⟨cne hp hlg (by simp), cne hp hlf (by simp), cne hp hso (by simp), cne hp hfc (by simp)⟩)
                                have h1_28 : f28 c1 = some (.inl (cy 0, n1, .inl (g))) := hr28 _ _ h1 (by simp only [List.mem_cons, List.not_mem_nil, or_false, not_or]; exact ⟨cne h1 hlg (by simp), cne h1 hlf (by simp), Ne.symm (hne.2.1), Ne.symm (hne.2.2.2.2.1)⟩)
                                have h2_28 : f28 c2 = some (.inl (cy 0, n2, .inl (h))) := hr28 _ _ h2 (by simp only [List.mem_cons, List.not_mem_nil, or_false, not_or]; exact ⟨cne h2 hlg (by simp), cne h2 hlf (by simp), Ne.symm (hne.2.2.1), Ne.symm (hne.2.2.2.2.2.1)⟩)
                                have hsc_28 : f28 sc = some (.inr (7, [.ref th, .int da])) := hr28 _ _ hsc (by simp only [List.mem_cons, List.not_mem_nil, or_false, not_or]; exact ⟨cne hsc hlg (by simp), cne hsc hlf (by simp), cne hsc hso (by simp), cne hsc hfc (by simp)⟩)
                                have hth_28 : f28 th = some (.inl (cy 0, 6, .inl (t))) := hr28 _ _ hth (by simp only [List.mem_cons, List.not_mem_nil, or_false, not_or]; exact ⟨cne hth hlg (by simp), cne hth hlf (by simp), Ne.symm (hne.2.2.2.1), Ne.symm (hne.2.2.2.2.2.2)⟩)
                                have hen_28 : f28 en = some (.inl (cy 0, ne, .inl (eg))) := hr28 _ _ hen (by simp only [List.mem_cons, List.not_mem_nil, or_false, not_or]; exact ⟨cne hen hlg (by simp), cne hen hlf (by simp), hen2.1, hen2.2.1⟩)
                                exact gz_vretU rfl dX1_acquire_152 (by omega) (by omega) (⟨_, _, _, _, _, _, _, _, _, rfl, hlg_28, hen_28, hlf_28, hso_28, hfc_28, hl, ⟨by omega, by omega⟩, (Or.inl rfl), (fr_tr fr_rf (fr_mo hr28 (by simp)))⟩)
        ·
          exact gz_vretU rfl dX1_acquire_30 (by omega) (by omega) (⟨_, _, _, _, _, _, _, _, _, rfl, hlg, hen, hlf, hso, hfc, hl, ⟨by omega, by omega⟩, (Or.inl rfl), fr_rf⟩)
