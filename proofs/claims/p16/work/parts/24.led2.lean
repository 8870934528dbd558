set_option maxHeartbeats 4000000 in
set_option maxRecDepth 100000 in
theorem l_X4_settle4 {l : Launch} {D : va_G} {cy : Nat → ClassId} {b : Nat} {f : gMem} {lg en ge re gv tk am ne : Nat} {sz lo : Int32} {eg : Nat → Int32}  {x : Int32} (hn : ne < 2 ^ 31) (hs : 0 ≤ sz.toInt ∧ sz.toInt ≤ 2000) (hna : en ≠ ge ∧ en ≠ re ∧ en ≠ gv ∧ en ≠ tk ∧ en ≠ am ∧ ge ≠ re ∧ ge ≠ gv ∧ ge ≠ tk ∧ ge ≠ am ∧ re ≠ gv ∧ re ≠ tk ∧ re ≠ am ∧ gv ≠ tk ∧ gv ≠ am ∧ tk ≠ am) : ∀ (k : Nat) (i : Int32) (geg reg amg : Nat → Int64) (gvg tkg : Nat → Int32) (gi : Int32) (fm : gMem), fr [lg, ge, re, gv, tk, am] f fm → (fm lg = some (.inr (4, [.ref en, .int sz, .int lo, .ref ge, .ref re, .ref gv, .ref tk, .ref am, .int gi]))) → (fm en = some (.inl (cy 0, ne, .inl (eg)))) → (fm ge = some (.inl (cy 2, 8, .inr (.inl (geg))))) → (fm re = some (.inl (cy 2, 8, .inr (.inl (reg))))) → (fm gv = some (.inl (cy 0, 8, .inl (gvg)))) → (fm tk = some (.inl (cy 0, 8, .inl (tkg)))) → (fm am = some (.inl (cy 2, 8, .inr (.inl (amg))))) → (0 ≤ i.toInt ∧ i.toInt ≤ 8 ∧ i.toInt + (k : Int) = 9 ∧ gi.toInt = i.toInt) → gG l (gRm 3 0 0) (gQf D b (pI fun r f2 => ∃ (g2 r2 a2 : Nat → Int64) (v2 k2 : Nat → Int32) (gi2 : Int32), f2 lg = some (.inr (4, [.ref en, .int sz, .int lo, .ref ge, .ref re, .ref gv, .ref tk, .ref am, .int gi2])) ∧ f2 ge = some (.inl (cy 2, 8, .inr (.inl (g2)))) ∧ f2 re = some (.inl (cy 2, 8, .inr (.inl (r2)))) ∧ f2 gv = some (.inl (cy 0, 8, .inl (v2))) ∧ f2 tk = some (.inl (cy 0, 8, .inl (k2))) ∧ f2 am = some (.inl (cy 2, 8, .inr (.inl (a2)))) ∧ (0 ≤ gi2.toInt ∧ gi2.toInt ≤ 8) ∧ fr [lg, ge, re, gv, tk, am] f f2) 0 0) gTt D cy b cX4_settle 3 (some .int) RX4 "settle" (0) (0) fm 113 [(2, .int i), (0, .ref lg), (1, .int x)] [] := by
  intro k
  induction k with
  | zero =>
    intro i geg reg amg gvg tkg gi fm hfr hlg hen hge hre hgv htk ham hk
    exfalso; omega
  | succ k ih =>
    intro i geg reg amg gvg tkg gi fm hfr hlg hen hge hre hgv htk ham hk
    refine gz_iload_n dX4_settle_113 rfl rfl ?_
    refine gz_bipush (v := 8) dX4_settle_114 (by decide) ?_
    refine gz_icmp_ge (tgt := 142) dX4_settle_116 (by decide) (fun c_116 => ?_) (fun c_116 => ?_)
    ·
      refine gz_aload_n dX4_settle_142 rfl rfl ?_
      refine sgX4_31 hlg rfl dX4_settle_143 ?_
      exact gz_iret rfl dX4_settle_146 (Nat.le_of_ble_eq_true rfl) (Nat.le_of_ble_eq_true rfl) (⟨_, rfl, _, _, _, _, _, _, hlg, hge, hre, hgv, htk, ham, (by omega), hfr⟩)
    ·
      refine gz_aload_n dX4_settle_119 rfl rfl ?_
      obtain ⟨x1, hx1⟩ : ∃ x0, (adgF reg gvg tkg amg gi) = x0 := ⟨_, rfl⟩
      refine scX4_77 (k_X4_addGift hlg hre hgv htk ham ⟨hna.2.2.2.2.2.2.2.2.2.2.2.2.1, hna.2.2.2.2.2.2.2.2.2.2.2.1⟩ ⟨hna.2.2.2.2.2.2.2.2.2.1, hna.2.2.2.2.2.2.2.2.2.2.1, (Ne.symm hna.2.2.2.2.2.2.2.2.2.2.2.2.2.1), (Ne.symm hna.2.2.2.2.2.2.2.2.2.2.2.2.2.2)⟩) hlg ⟨(Nat.le_of_ble_eq_true rfl), (Nat.le_of_ble_eq_true rfl)⟩ ⟨(Nat.le_of_ble_eq_true rfl), (Nat.le_of_ble_eq_true rfl)⟩ rfl rfl (Nat.le_of_ble_eq_true rfl) dX4_settle_120 ?_
      rintro r1 f1 ⟨z1, hre_1, hgv_1, htk_1, ham_1, hr1⟩; rw [hx1] at z1 hre_1 hgv_1 htk_1 ham_1; rw [z1]
      have hlg_1 : f1 lg = some (.inr (4, [.ref en, .int sz, .int lo, .ref ge, .ref re, .ref gv, .ref tk, .ref am, .int gi])) := hr1 _ _ hlg (by simp only [List.mem_cons, List.not_mem_nil, or_false, not_or]; exact ⟨cne hlg hre (by simp), cne hlg hgv (by simp), cne hlg htk (by simp), cne hlg ham (by simp)⟩)
      have hen_1 : f1 en = some (.inl (cy 0, ne, .inl (eg))) := hr1 _ _ hen (by simp only [List.mem_cons, List.not_mem_nil, or_false, not_or]; exact ⟨hna.2.1, hna.2.2.1, hna.2.2.2.1, hna.2.2.2.2.1⟩)
      have hge_1 : f1 ge = some (.inl (cy 2, 8, .inr (.inl (geg)))) := hr1 _ _ hge (by simp only [List.mem_cons, List.not_mem_nil, or_false, not_or]; exact ⟨hna.2.2.2.2.2.1, hna.2.2.2.2.2.2.1, hna.2.2.2.2.2.2.2.1, hna.2.2.2.2.2.2.2.2.1⟩)
      refine gz_if_eq (tgt := 142) dX4_settle_123 (by decide) (fun c_123 => ?_) (fun c_123 => ?_)
      ·
        refine gz_aload_n dX4_settle_142 rfl rfl ?_
        refine sgX4_31 hlg_1 rfl dX4_settle_143 ?_
        exact gz_iret rfl dX4_settle_146 (Nat.le_of_ble_eq_true rfl) (Nat.le_of_ble_eq_true rfl) (⟨_, rfl, _, _, _, _, _, _, hlg_1, hge_1, hre_1, hgv_1, htk_1, ham_1, (by omega), (fr_tr hfr (fr_mo hr1 (by simp)))⟩)
      ·
        refine gz_aload_n dX4_settle_126 rfl rfl ?_
        refine gz_dup dX4_settle_127 rfl ?_
        refine sgX4_31 hlg_1 rfl dX4_settle_128 ?_
        refine gz_iconst (v := 1) dX4_settle_131 (by decide) ?_
        refine gz_iadd dX4_settle_132 ?_
        refine spX4_31 hlg_1  (Nat.le_of_ble_eq_true rfl) dX4_settle_133 ?_
        obtain ⟨f2, hf2⟩ : ∃ gg : gMem, gg = va_up f1 lg (some (.inr (4, [.ref en, .int sz, .int lo, .ref ge, .ref re, .ref gv, .ref tk, .ref am, .int (gi + 1)]))) := ⟨_, rfl⟩
        refine gz_eq (f2 := f2) hf2.symm rfl rfl rfl ?_
        have hen_2 : f2 en = some (.inl (cy 0, ne, .inl (eg))) := by rw [hf2, va_up_ne _ _ (cne hen_1 hlg_1 (by simp))]; exact hen_1
        have hge_2 : f2 ge = some (.inl (cy 2, 8, .inr (.inl (geg)))) := by rw [hf2, va_up_ne _ _ (cne hge_1 hlg_1 (by simp))]; exact hge_1
        have hre_2 : f2 re = some (.inl (cy 2, 8, .inr (.inl (x1.2.1)))) := by rw [hf2, va_up_ne _ _ (cne hre_1 hlg_1 (by simp))]; exact hre_1
        have hgv_2 : f2 gv = some (.inl (cy 0, 8, .inl (x1.2.2.1))) := by rw [hf2, va_up_ne _ _ (cne hgv_1 hlg_1 (by simp))]; exact hgv_1
        have htk_2 : f2 tk = some (.inl (cy 0, 8, .inl (x1.2.2.2.1))) := by rw [hf2, va_up_ne _ _ (cne htk_1 hlg_1 (by simp))]; exact htk_1
        have ham_2 : f2 am = some (.inl (cy 2, 8, .inr (.inl (x1.2.2.2.2)))) := by rw [hf2, va_up_ne _ _ (cne ham_1 hlg_1 (by simp))]; exact ham_1
        have hlg_2 : f2 lg = some (.inr (4, [.ref en, .int sz, .int lo, .ref ge, .ref re, .ref gv, .ref tk, .ref am, .int (gi + 1)])) := by rw [hf2]; exact va_up_self _ _ _
        refine gz_iinc (v := (i + 1)) (lv' := [(2, .int (i + 1)), (0, .ref lg), (1, .int x)]) dX4_settle_136 rfl rfl (by decide) rfl ?_
        refine gz_goto (tgt := 113) dX4_settle_139 (by decide) ?_
        refine gz_sub (lv' := [(2, .int (i + 1)), (0, .ref lg), (1, .int x)]) (by simp [List.lookup]) ?_
        exact ih (i + 1) geg x1.2.1 x1.2.2.2.2 x1.2.2.1 x1.2.2.2.1 (gi + 1) _ (by rw [hf2]; exact fr_up (fr_tr hfr (fr_mo hr1 (by simp))) (by simp)) hlg_2 hen_2 hge_2 hre_2 hgv_2 htk_2 ham_2 (by have e13 : (13 : Int32).toInt = 13 := rfl; have e0 : (0 : Int32).toInt = 0 := rfl; have e2 : (2 : Int32).toInt = 2 := rfl; have e1 : (1 : Int32).toInt = 1 := rfl; have e6 : (6 : Int32).toInt = 6 := rfl; have em2 : (-2 : Int32).toInt = -2 := rfl; have e8 : (8 : Int32).toInt = 8 := rfl; simp only [fl_le] at c_116; have hx := T_add (rfl : i.toInt = i.toInt) e1 (by omega); have hy := T_add (rfl : gi.toInt = gi.toInt) e1 (by omega); omega)

set_option maxHeartbeats 4000000 in
set_option maxRecDepth 100000 in
theorem l_X4_settle3 {l : Launch} {D : va_G} {cy : Nat → ClassId} {b : Nat} {f : gMem} {lg en ge re gv tk am ne : Nat} {sz lo : Int32} {eg : Nat → Int32}  {x : Int32} (hn : ne < 2 ^ 31) (hs : 0 ≤ sz.toInt ∧ sz.toInt ≤ 2000) (hna : en ≠ ge ∧ en ≠ re ∧ en ≠ gv ∧ en ≠ tk ∧ en ≠ am ∧ ge ≠ re ∧ ge ≠ gv ∧ ge ≠ tk ∧ ge ≠ am ∧ re ≠ gv ∧ re ≠ tk ∧ re ≠ am ∧ gv ≠ tk ∧ gv ≠ am ∧ tk ≠ am) : ∀ (k : Nat) (i : Int32) (geg reg amg : Nat → Int64) (gvg tkg : Nat → Int32) (gi : Int32) (fm : gMem), fr [lg, ge, re, gv, tk, am] f fm → (fm lg = some (.inr (4, [.ref en, .int sz, .int lo, .ref ge, .ref re, .ref gv, .ref tk, .ref am, .int gi]))) → (fm en = some (.inl (cy 0, ne, .inl (eg)))) → (fm ge = some (.inl (cy 2, 8, .inr (.inl (geg))))) → (fm re = some (.inl (cy 2, 8, .inr (.inl (reg))))) → (fm gv = some (.inl (cy 0, 8, .inl (gvg)))) → (fm tk = some (.inl (cy 0, 8, .inl (tkg)))) → (fm am = some (.inl (cy 2, 8, .inr (.inl (amg))))) → (0 ≤ i.toInt ∧ i.toInt ≤ 8 ∧ i.toInt + (k : Int) = 9) → gG l (gRm 3 0 0) (gQf D b (pI fun r f2 => ∃ (g2 r2 a2 : Nat → Int64) (v2 k2 : Nat → Int32) (gi2 : Int32), f2 lg = some (.inr (4, [.ref en, .int sz, .int lo, .ref ge, .ref re, .ref gv, .ref tk, .ref am, .int gi2])) ∧ f2 ge = some (.inl (cy 2, 8, .inr (.inl (g2)))) ∧ f2 re = some (.inl (cy 2, 8, .inr (.inl (r2)))) ∧ f2 gv = some (.inl (cy 0, 8, .inl (v2))) ∧ f2 tk = some (.inl (cy 0, 8, .inl (k2))) ∧ f2 am = some (.inl (cy 2, 8, .inr (.inl (a2)))) ∧ (0 ≤ gi2.toInt ∧ gi2.toInt ≤ 8) ∧ fr [lg, ge, re, gv, tk, am] f f2) 0 0) gTt D cy b cX4_settle 3 (some .int) RX4 "settle" (0) (0) fm 82 [(2, .int i), (0, .ref lg), (1, .int x)] [] := by
  intro k
  induction k with
  | zero =>
    intro i geg reg amg gvg tkg gi fm hfr hlg hen hge hre hgv htk ham hk
    exfalso; omega
  | succ k ih =>
    intro i geg reg amg gvg tkg gi fm hfr hlg hen hge hre hgv htk ham hk
    refine gz_iload_n dX4_settle_82 rfl rfl ?_
    refine gz_bipush (v := 8) dX4_settle_83 (by decide) ?_
    refine gz_icmp_ge (tgt := 106) dX4_settle_85 (by decide) (fun c_85 => ?_) (fun c_85 => ?_)
    ·
      refine gz_aload_n dX4_settle_106 rfl rfl ?_
      refine gz_iconst (v := 0) dX4_settle_107 (by decide) ?_
      refine spX4_31 hlg  (Nat.le_of_ble_eq_true rfl) dX4_settle_108 ?_
      obtain ⟨f1, hf1⟩ : ∃ gg : gMem, gg = va_up fm lg (some (.inr (4, [.ref en, .int sz, .int lo, .ref ge, .ref re, .ref gv, .ref tk, .ref am, .int 0]))) := ⟨_, rfl⟩
      refine gz_eq (f2 := f1) hf1.symm rfl rfl rfl ?_
      have hen_1 : f1 en = some (.inl (cy 0, ne, .inl (eg))) := by rw [hf1, va_up_ne _ _ (cne hen hlg (by simp))]; exact hen
      have hge_1 : f1 ge = some (.inl (cy 2, 8, .inr (.inl (geg)))) := by rw [hf1, va_up_ne _ _ (cne hge hlg (by simp))]; exact hge
      have hre_1 : f1 re = some (.inl (cy 2, 8, .inr (.inl (reg)))) := by rw [hf1, va_up_ne _ _ (cne hre hlg (by simp))]; exact hre
      have hgv_1 : f1 gv = some (.inl (cy 0, 8, .inl (gvg))) := by rw [hf1, va_up_ne _ _ (cne hgv hlg (by simp))]; exact hgv
      have htk_1 : f1 tk = some (.inl (cy 0, 8, .inl (tkg))) := by rw [hf1, va_up_ne _ _ (cne htk hlg (by simp))]; exact htk
      have ham_1 : f1 am = some (.inl (cy 2, 8, .inr (.inl (amg)))) := by rw [hf1, va_up_ne _ _ (cne ham hlg (by simp))]; exact ham
      have hlg_1 : f1 lg = some (.inr (4, [.ref en, .int sz, .int lo, .ref ge, .ref re, .ref gv, .ref tk, .ref am, .int 0])) := by rw [hf1]; exact va_up_self _ _ _
      refine gz_iconst (v := 0) dX4_settle_111 (by decide) ?_
      refine gz_istore_n (lv' := [(2, .int 0), (0, .ref lg), (1, .int x)]) dX4_settle_112 rfl (by decide) rfl ?_
      refine gz_sub (lv' := [(2, .int 0), (0, .ref lg), (1, .int x)]) (by simp [List.lookup]) ?_
      exact l_X4_settle4 hn hs hna 9 0 geg reg amg gvg tkg 0 _ (by rw [hf1]; exact fr_up hfr (by simp)) hlg_1 hen_1 hge_1 hre_1 hgv_1 htk_1 ham_1 (⟨by decide, by decide, by decide, by decide⟩)
    ·
      refine gz_aload_n dX4_settle_88 rfl rfl ?_
      refine sgX4_19 hlg rfl dX4_settle_89 ?_
      refine gz_iload_n dX4_settle_92 rfl rfl ?_
      refine gz_aload_n dX4_settle_93 rfl rfl ?_
      refine sgX4_15 hlg rfl dX4_settle_94 ?_
      refine gz_iload_n dX4_settle_97 rfl rfl ?_
      refine gz_lald hge ((by have e13 : (13 : Int32).toInt = 13 := rfl; have e0 : (0 : Int32).toInt = 0 := rfl; have e2 : (2 : Int32).toInt = 2 := rfl; have e1 : (1 : Int32).toInt = 1 := rfl; have e6 : (6 : Int32).toInt = 6 := rfl; have em2 : (-2 : Int32).toInt = -2 := rfl; have e6 : (6 : Int32).toInt = 6 := rfl; have e8 : (8 : Int32).toInt = 8 := rfl; have e10 : (10 : Int32).toInt = 10 := rfl; have e18 : (18 : Int32).toInt = 18 := rfl; simp only [fl_le] at c_85; exact vin_T (rfl : i.toInt = i.toInt) (by omega) (by omega))) dX4_settle_98 ?_
      refine gz_last hre ((by have e13 : (13 : Int32).toInt = 13 := rfl; have e0 : (0 : Int32).toInt = 0 := rfl; have e2 : (2 : Int32).toInt = 2 := rfl; have e1 : (1 : Int32).toInt = 1 := rfl; have e6 : (6 : Int32).toInt = 6 := rfl; have em2 : (-2 : Int32).toInt = -2 := rfl; have e6 : (6 : Int32).toInt = 6 := rfl; have e8 : (8 : Int32).toInt = 8 := rfl; have e10 : (10 : Int32).toInt = 10 := rfl; have e18 : (18 : Int32).toInt = 18 := rfl; simp only [fl_le] at c_85; exact vin_T (rfl : i.toInt = i.toInt) (by omega) (by omega))) dX4_settle_99 ?_
      obtain ⟨f2, hf2⟩ : ∃ gg : gMem, gg = va_up fm re (some (.inl (cy 2, 8, .inr (.inl (vp_updL reg (Int32.toNatClampNeg i) (geg (Int32.toNatClampNeg i))))))) := ⟨_, rfl⟩
      refine gz_eq (f2 := f2) hf2.symm rfl rfl rfl ?_
      have hlg_2 : f2 lg = some (.inr (4, [.ref en, .int sz, .int lo, .ref ge, .ref re, .ref gv, .ref tk, .ref am, .int gi])) := by rw [hf2, va_up_ne _ _ (cne hlg hre (by simp))]; exact hlg
      have hen_2 : f2 en = some (.inl (cy 0, ne, .inl (eg))) := by rw [hf2, va_up_ne _ _ (hna.2.1)]; exact hen
      have hge_2 : f2 ge = some (.inl (cy 2, 8, .inr (.inl (geg)))) := by rw [hf2, va_up_ne _ _ (hna.2.2.2.2.2.1)]; exact hge
      have hgv_2 : f2 gv = some (.inl (cy 0, 8, .inl (gvg))) := by rw [hf2, va_up_ne _ _ (Ne.symm (hna.2.2.2.2.2.2.2.2.2.1))]; exact hgv
      have htk_2 : f2 tk = some (.inl (cy 0, 8, .inl (tkg))) := by rw [hf2, va_up_ne _ _ (Ne.symm (hna.2.2.2.2.2.2.2.2.2.2.1))]; exact htk
      have ham_2 : f2 am = some (.inl (cy 2, 8, .inr (.inl (amg)))) := by rw [hf2, va_up_ne _ _ (Ne.symm (hna.2.2.2.2.2.2.2.2.2.2.2.1))]; exact ham
      have hre_2 : f2 re = some (.inl (cy 2, 8, .inr (.inl (vp_updL reg (Int32.toNatClampNeg i) (geg (Int32.toNatClampNeg i)))))) := by rw [hf2]; exact va_up_self _ _ _
      refine gz_iinc (v := (i + 1)) (lv' := [(2, .int (i + 1)), (0, .ref lg), (1, .int x)]) dX4_settle_100 rfl rfl (by decide) rfl ?_
      refine gz_goto (tgt := 82) dX4_settle_103 (by decide) ?_
      refine gz_sub (lv' := [(2, .int (i + 1)), (0, .ref lg), (1, .int x)]) (by simp [List.lookup]) ?_
      exact ih (i + 1) geg (vp_updL reg (Int32.toNatClampNeg i) (geg (Int32.toNatClampNeg i))) amg gvg tkg gi _ (by rw [hf2]; exact fr_up hfr (by simp)) hlg_2 hen_2 hge_2 hre_2 hgv_2 htk_2 ham_2 (by have e13 : (13 : Int32).toInt = 13 := rfl; have e0 : (0 : Int32).toInt = 0 := rfl; have e2 : (2 : Int32).toInt = 2 := rfl; have e1 : (1 : Int32).toInt = 1 := rfl; have e6 : (6 : Int32).toInt = 6 := rfl; have em2 : (-2 : Int32).toInt = -2 := rfl; have e6 : (6 : Int32).toInt = 6 := rfl; have e8 : (8 : Int32).toInt = 8 := rfl; have e10 : (10 : Int32).toInt = 10 := rfl; have e18 : (18 : Int32).toInt = 18 := rfl; have eb : (8 : Int32).toInt = 8 := rfl; simp only [fl_le] at c_85; have hx := T_add (rfl : i.toInt = i.toInt) e1 (by omega); omega)

set_option maxHeartbeats 4000000 in
set_option maxRecDepth 100000 in
theorem l_X4_settle2 {l : Launch} {D : va_G} {cy : Nat → ClassId} {b : Nat} {f : gMem} {lg en ge re gv tk am ne : Nat} {sz lo : Int32} {eg : Nat → Int32}  {x : Int32} (hn : ne < 2 ^ 31) (hs : 0 ≤ sz.toInt ∧ sz.toInt ≤ 2000) (hna : en ≠ ge ∧ en ≠ re ∧ en ≠ gv ∧ en ≠ tk ∧ en ≠ am ∧ ge ≠ re ∧ ge ≠ gv ∧ ge ≠ tk ∧ ge ≠ am ∧ re ≠ gv ∧ re ≠ tk ∧ re ≠ am ∧ gv ≠ tk ∧ gv ≠ am ∧ tk ≠ am) : ∀ (k : Nat) (i : Int32) (geg reg amg : Nat → Int64) (gvg tkg : Nat → Int32) (gi : Int32) (fm : gMem), fr [lg, ge, re, gv, tk, am] f fm → (fm lg = some (.inr (4, [.ref en, .int sz, .int lo, .ref ge, .ref re, .ref gv, .ref tk, .ref am, .int gi]))) → (fm en = some (.inl (cy 0, ne, .inl (eg)))) → (fm ge = some (.inl (cy 2, 8, .inr (.inl (geg))))) → (fm re = some (.inl (cy 2, 8, .inr (.inl (reg))))) → (fm gv = some (.inl (cy 0, 8, .inl (gvg)))) → (fm tk = some (.inl (cy 0, 8, .inl (tkg)))) → (fm am = some (.inl (cy 2, 8, .inr (.inl (amg))))) → (0 ≤ i.toInt ∧ 0 < k ∧ (i.toInt < sz.toInt → sz.toInt - i.toInt < (k : Int))) → gG l (gRm 3 0 0) (gQf D b (pI fun r f2 => ∃ (g2 r2 a2 : Nat → Int64) (v2 k2 : Nat → Int32) (gi2 : Int32), f2 lg = some (.inr (4, [.ref en, .int sz, .int lo, .ref ge, .ref re, .ref gv, .ref tk, .ref am, .int gi2])) ∧ f2 ge = some (.inl (cy 2, 8, .inr (.inl (g2)))) ∧ f2 re = some (.inl (cy 2, 8, .inr (.inl (r2)))) ∧ f2 gv = some (.inl (cy 0, 8, .inl (v2))) ∧ f2 tk = some (.inl (cy 0, 8, .inl (k2))) ∧ f2 am = some (.inl (cy 2, 8, .inr (.inl (a2)))) ∧ (0 ≤ gi2.toInt ∧ gi2.toInt ≤ 8) ∧ fr [lg, ge, re, gv, tk, am] f f2) 0 0) gTt D cy b cX4_settle 3 (some .int) RX4 "settle" (0) (0) fm 23 [(2, .int i), (0, .ref lg), (1, .int x)] [] := by
  intro k
  induction k with
  | zero =>
    intro i geg reg amg gvg tkg gi fm hfr hlg hen hge hre hgv htk ham hk
    exfalso; omega
  | succ k ih =>
    intro i geg reg amg gvg tkg gi fm hfr hlg hen hge hre hgv htk ham hk
    refine gz_iload_n dX4_settle_23 rfl rfl ?_
    refine gz_aload_n dX4_settle_24 rfl rfl ?_
    refine sgX4_35 hlg rfl dX4_settle_25 ?_
    refine gz_icmp_ge (tgt := 80) dX4_settle_28 (by decide) (fun c_28 => ?_) (fun c_28 => ?_)
    ·
      refine gz_iconst (v := 0) dX4_settle_80 (by decide) ?_
      refine gz_istore_n (lv' := [(2, .int 0), (0, .ref lg), (1, .int x)]) dX4_settle_81 rfl (by decide) rfl ?_
      refine gz_sub (lv' := [(2, .int 0), (0, .ref lg), (1, .int x)]) (by simp [List.lookup]) ?_
      exact l_X4_settle3 hn hs hna 9 0 geg reg amg gvg tkg gi _ hfr hlg hen hge hre hgv htk ham (⟨by decide, by decide, by decide⟩)
    ·
      refine gz_aload_n dX4_settle_31 rfl rfl ?_
      refine gz_iload_n dX4_settle_32 rfl rfl ?_
      refine gz_iconst (v := 1) dX4_settle_33 (by decide) ?_
      refine scX4_70 (k_X4_entry (k := i) (x := 1) hlg hen hn hs) hlg ⟨(Nat.le_of_ble_eq_true rfl), (Nat.le_of_ble_eq_true rfl)⟩ ⟨(Nat.le_of_ble_eq_true rfl), (Nat.le_of_ble_eq_true rfl)⟩ rfl rfl (Nat.le_of_ble_eq_true rfl) dX4_settle_34 ?_
      intro v9 f9 z9; rw [z9.1, z9.2]
      refine gz_iload_n dX4_settle_37 rfl rfl ?_
      refine gz_icmp_ne (tgt := 74) dX4_settle_38 (by decide) (fun c_38 => ?_) (fun c_38 => ?_)
      ·
        refine gz_iinc (v := (i + 1)) (lv' := [(2, .int (i + 1)), (0, .ref lg), (1, .int x)]) dX4_settle_74 rfl rfl (by decide) rfl ?_
        refine gz_goto (tgt := 23) dX4_settle_77 (by decide) ?_
        refine gz_sub (lv' := [(2, .int (i + 1)), (0, .ref lg), (1, .int x)]) (by simp [List.lookup]) ?_
        exact ih (i + 1) geg reg amg gvg tkg gi _ hfr hlg hen hge hre hgv htk ham (by have e13 : (13 : Int32).toInt = 13 := rfl; have e0 : (0 : Int32).toInt = 0 := rfl; have e2 : (2 : Int32).toInt = 2 := rfl; have e1 : (1 : Int32).toInt = 1 := rfl; have e6 : (6 : Int32).toInt = 6 := rfl; have em2 : (-2 : Int32).toInt = -2 := rfl; have e6 : (6 : Int32).toInt = 6 := rfl; have e8 : (8 : Int32).toInt = 8 := rfl; have e10 : (10 : Int32).toInt = 10 := rfl; have e18 : (18 : Int32).toInt = 18 := rfl; simp only [fl_le] at c_28; have hx := T_add (rfl : i.toInt = i.toInt) e1 (by omega); omega)
      ·
        refine gz_aload_n dX4_settle_41 rfl rfl ?_
        refine gz_aload_n dX4_settle_42 rfl rfl ?_
        refine gz_iload_n dX4_settle_43 rfl rfl ?_
        refine gz_iconst (v := 4) dX4_settle_44 (by decide) ?_
        refine scX4_70 (k_X4_entry (k := i) (x := 4) hlg hen hn hs) hlg ⟨(Nat.le_of_ble_eq_true rfl), (Nat.le_of_ble_eq_true rfl)⟩ ⟨(Nat.le_of_ble_eq_true rfl), (Nat.le_of_ble_eq_true rfl)⟩ rfl rfl (Nat.le_of_ble_eq_true rfl) dX4_settle_45 ?_
        intro v9 f9 z9; rw [z9.1, z9.2]
        refine gz_aload_n dX4_settle_48 rfl rfl ?_
        refine gz_iload_n dX4_settle_49 rfl rfl ?_
        refine gz_iconst (v := 2) dX4_settle_50 (by decide) ?_
        refine scX4_70 (k_X4_entry (k := i) (x := 2) hlg hen hn hs) hlg ⟨(Nat.le_of_ble_eq_true rfl), (Nat.le_of_ble_eq_true rfl)⟩ ⟨(Nat.le_of_ble_eq_true rfl), (Nat.le_of_ble_eq_true rfl)⟩ rfl rfl (Nat.le_of_ble_eq_true rfl) dX4_settle_51 ?_
        intro v9 f9 z9; rw [z9.1, z9.2]
        obtain ⟨x1, hx1⟩ : ∃ x0, (bokF geg (entF ne eg sz i 4) (entF ne eg sz i 2)) = x0 := ⟨_, rfl⟩
        refine scX4_73 (k_X4_book (x := (entF ne eg sz i 4)) (y := (entF ne eg sz i 2)) hlg hge) hlg ⟨(Nat.le_of_ble_eq_true rfl), (Nat.le_of_ble_eq_true rfl)⟩ ⟨(Nat.le_of_ble_eq_true rfl), (Nat.le_of_ble_eq_true rfl)⟩ rfl rfl (Nat.le_of_ble_eq_true rfl) dX4_settle_54 ?_
        rintro f1 ⟨hge_1, hr1⟩; rw [hx1] at hge_1
        have hlg_1 : f1 lg = some (.inr (4, [.ref en, .int sz, .int lo, .ref ge, .ref re, .ref gv, .ref tk, .ref am, .int gi])) := hr1 _ _ hlg (by simp only [List.mem_cons, List.not_mem_nil, or_false, not_or]; exact cne hlg hge (by simp))
        have hen_1 : f1 en = some (.inl (cy 0, ne, .inl (eg))) := hr1 _ _ hen (by simp only [List.mem_cons, List.not_mem_nil, or_false, not_or]; exact hna.1)
        have hre_1 : f1 re = some (.inl (cy 2, 8, .inr (.inl (reg)))) := hr1 _ _ hre (by simp only [List.mem_cons, List.not_mem_nil, or_false, not_or]; exact Ne.symm (hna.2.2.2.2.2.1))
        have hgv_1 : f1 gv = some (.inl (cy 0, 8, .inl (gvg))) := hr1 _ _ hgv (by simp only [List.mem_cons, List.not_mem_nil, or_false, not_or]; exact Ne.symm (hna.2.2.2.2.2.2.1))
        have htk_1 : f1 tk = some (.inl (cy 0, 8, .inl (tkg))) := hr1 _ _ htk (by simp only [List.mem_cons, List.not_mem_nil, or_false, not_or]; exact Ne.symm (hna.2.2.2.2.2.2.2.1))
        have ham_1 : f1 am = some (.inl (cy 2, 8, .inr (.inl (amg)))) := hr1 _ _ ham (by simp only [List.mem_cons, List.not_mem_nil, or_false, not_or]; exact Ne.symm (hna.2.2.2.2.2.2.2.2.1))
        refine gz_aload_n dX4_settle_57 rfl rfl ?_
        refine gz_aload_n dX4_settle_58 rfl rfl ?_
        refine gz_iload_n dX4_settle_59 rfl rfl ?_
        refine gz_iconst (v := 5) dX4_settle_60 (by decide) ?_
        refine scX4_70 (k_X4_entry (k := i) (x := 5) hlg_1 hen_1 hn hs) hlg_1 ⟨(Nat.le_of_ble_eq_true rfl), (Nat.le_of_ble_eq_true rfl)⟩ ⟨(Nat.le_of_ble_eq_true rfl), (Nat.le_of_ble_eq_true rfl)⟩ rfl rfl (Nat.le_of_ble_eq_true rfl) dX4_settle_61 ?_
        intro v9 f9 z9; rw [z9.1, z9.2]
        refine gz_aload_n dX4_settle_64 rfl rfl ?_
        refine gz_iload_n dX4_settle_65 rfl rfl ?_
        refine gz_iconst (v := 2) dX4_settle_66 (by decide) ?_
        refine scX4_70 (k_X4_entry (k := i) (x := 2) hlg_1 hen_1 hn hs) hlg_1 ⟨(Nat.le_of_ble_eq_true rfl), (Nat.le_of_ble_eq_true rfl)⟩ ⟨(Nat.le_of_ble_eq_true rfl), (Nat.le_of_ble_eq_true rfl)⟩ rfl rfl (Nat.le_of_ble_eq_true rfl) dX4_settle_67 ?_
        intro v9 f9 z9; rw [z9.1, z9.2]
        refine gz_ineg dX4_settle_70 ?_
        obtain ⟨x2, hx2⟩ : ∃ x0, (bokF x1 (entF ne eg sz i 5) (-(entF ne eg sz i 2))) = x0 := ⟨_, rfl⟩
        refine scX4_73 (k_X4_book (x := (entF ne eg sz i 5)) (y := (-(entF ne eg sz i 2))) hlg_1 hge_1) hlg_1 ⟨(Nat.le_of_ble_eq_true rfl), (Nat.le_of_ble_eq_true rfl)⟩ ⟨(Nat.le_of_ble_eq_true rfl), (Nat.le_of_ble_eq_true rfl)⟩ rfl rfl (Nat.le_of_ble_eq_true rfl) dX4_settle_71 ?_
        rintro f2 ⟨hge_2, hr2⟩; rw [hx2] at hge_2
        have hlg_2 : f2 lg = some (.inr (4, [.ref en, .int sz, .int lo, .ref ge, .ref re, .ref gv, .ref tk, .ref am, .int gi])) := hr2 _ _ hlg_1 (by simp only [List.mem_cons, List.not_mem_nil, or_false, not_or]; exact cne hlg_1 hge_1 (by simp))
        have hen_2 : f2 en = some (.inl (cy 0, ne, .inl (eg))) := hr2 _ _ hen_1 (by simp only [List.mem_cons, List.not_mem_nil, or_false, not_or]; exact hna.1)
        have hre_2 : f2 re = some (.inl (cy 2, 8, .inr (.inl (reg)))) := hr2 _ _ hre_1 (by simp only [List.mem_cons, List.not_mem_nil, or_false, not_or]; exact Ne.symm (hna.2.2.2.2.2.1))
        have hgv_2 : f2 gv = some (.inl (cy 0, 8, .inl (gvg))) := hr2 _ _ hgv_1 (by simp only [List.mem_cons, List.not_mem_nil, or_false, not_or]; exact Ne.symm (hna.2.2.2.2.2.2.1))
        have htk_2 : f2 tk = some (.inl (cy 0, 8, .inl (tkg))) := hr2 _ _ htk_1 (by simp only [List.mem_cons, List.not_mem_nil, or_false, not_or]; exact Ne.symm (hna.2.2.2.2.2.2.2.1))
        have ham_2 : f2 am = some (.inl (cy 2, 8, .inr (.inl (amg)))) := hr2 _ _ ham_1 (by simp only [List.mem_cons, List.not_mem_nil, or_false, not_or]; exact Ne.symm (hna.2.2.2.2.2.2.2.2.1))
        refine gz_iinc (v := (i + 1)) (lv' := [(2, .int (i + 1)), (0, .ref lg), (1, .int x)]) dX4_settle_74 rfl rfl (by decide) rfl ?_
        refine gz_goto (tgt := 23) dX4_settle_77 (by decide) ?_
        refine gz_sub (lv' := [(2, .int (i + 1)), (0, .ref lg), (1, .int x)]) (by simp [List.lookup]) ?_
        exact ih (i + 1) x2 reg amg gvg tkg gi _ (fr_tr (fr_tr hfr (fr_mo hr1 (by simp))) (fr_mo hr2 (by simp))) hlg_2 hen_2 hge_2 hre_2 hgv_2 htk_2 ham_2 (by have e13 : (13 : Int32).toInt = 13 := rfl; have e0 : (0 : Int32).toInt = 0 := rfl; have e2 : (2 : Int32).toInt = 2 := rfl; have e1 : (1 : Int32).toInt = 1 := rfl; have e6 : (6 : Int32).toInt = 6 := rfl; have em2 : (-2 : Int32).toInt = -2 := rfl; have e6 : (6 : Int32).toInt = 6 := rfl; have e8 : (8 : Int32).toInt = 8 := rfl; have e10 : (10 : Int32).toInt = 10 := rfl; have e18 : (18 : Int32).toInt = 18 := rfl; simp only [fl_le] at c_28; have hx := T_add (rfl : i.toInt = i.toInt) e1 (by omega); omega)

set_option maxHeartbeats 4000000 in
set_option maxRecDepth 100000 in
theorem l_X4_settle1 {l : Launch} {D : va_G} {cy : Nat → ClassId} {b : Nat} {f : gMem} {lg en ge re gv tk am ne : Nat} {sz lo : Int32} {eg : Nat → Int32}  {x : Int32} (hn : ne < 2 ^ 31) (hs : 0 ≤ sz.toInt ∧ sz.toInt ≤ 2000) (hna : en ≠ ge ∧ en ≠ re ∧ en ≠ gv ∧ en ≠ tk ∧ en ≠ am ∧ ge ≠ re ∧ ge ≠ gv ∧ ge ≠ tk ∧ ge ≠ am ∧ re ≠ gv ∧ re ≠ tk ∧ re ≠ am ∧ gv ≠ tk ∧ gv ≠ am ∧ tk ≠ am) : ∀ (k : Nat) (i : Int32) (geg reg amg : Nat → Int64) (gvg tkg : Nat → Int32) (gi : Int32) (fm : gMem), fr [lg, ge, re, gv, tk, am] f fm → (fm lg = some (.inr (4, [.ref en, .int sz, .int lo, .ref ge, .ref re, .ref gv, .ref tk, .ref am, .int gi]))) → (fm en = some (.inl (cy 0, ne, .inl (eg)))) → (fm ge = some (.inl (cy 2, 8, .inr (.inl (geg))))) → (fm re = some (.inl (cy 2, 8, .inr (.inl (reg))))) → (fm gv = some (.inl (cy 0, 8, .inl (gvg)))) → (fm tk = some (.inl (cy 0, 8, .inl (tkg)))) → (fm am = some (.inl (cy 2, 8, .inr (.inl (amg))))) → (0 ≤ i.toInt ∧ i.toInt ≤ 8 ∧ i.toInt + (k : Int) = 9) → gG l (gRm 3 0 0) (gQf D b (pI fun r f2 => ∃ (g2 r2 a2 : Nat → Int64) (v2 k2 : Nat → Int32) (gi2 : Int32), f2 lg = some (.inr (4, [.ref en, .int sz, .int lo, .ref ge, .ref re, .ref gv, .ref tk, .ref am, .int gi2])) ∧ f2 ge = some (.inl (cy 2, 8, .inr (.inl (g2)))) ∧ f2 re = some (.inl (cy 2, 8, .inr (.inl (r2)))) ∧ f2 gv = some (.inl (cy 0, 8, .inl (v2))) ∧ f2 tk = some (.inl (cy 0, 8, .inl (k2))) ∧ f2 am = some (.inl (cy 2, 8, .inr (.inl (a2)))) ∧ (0 ≤ gi2.toInt ∧ gi2.toInt ≤ 8) ∧ fr [lg, ge, re, gv, tk, am] f f2) 0 0) gTt D cy b cX4_settle 3 (some .int) RX4 "settle" (0) (0) fm 2 [(2, .int i), (0, .ref lg), (1, .int x)] [] := by
  intro k
  induction k with
  | zero =>
    intro i geg reg amg gvg tkg gi fm hfr hlg hen hge hre hgv htk ham hk
    exfalso; omega
  | succ k ih =>
    intro i geg reg amg gvg tkg gi fm hfr hlg hen hge hre hgv htk ham hk
    refine gz_iload_n dX4_settle_2 rfl rfl ?_
    refine gz_bipush (v := 8) dX4_settle_3 (by decide) ?_
    refine gz_icmp_ge (tgt := 21) dX4_settle_5 (by decide) (fun c_5 => ?_) (fun c_5 => ?_)
    ·
      refine gz_iconst (v := 0) dX4_settle_21 (by decide) ?_
      refine gz_istore_n (lv' := [(2, .int 0), (0, .ref lg), (1, .int x)]) dX4_settle_22 rfl (by decide) rfl ?_
      refine gz_sub (lv' := [(2, .int 0), (0, .ref lg), (1, .int x)]) (by simp [List.lookup]) ?_
      exact l_X4_settle2 hn hs hna 2001 0 geg reg amg gvg tkg gi _ hfr hlg hen hge hre hgv htk ham (⟨by decide, by decide, fun _ => by have e0 : (0 : Int32).toInt = 0 := rfl; omega⟩)
    ·
      refine gz_aload_n dX4_settle_8 rfl rfl ?_
      refine sgX4_15 hlg rfl dX4_settle_9 ?_
      refine gz_iload_n dX4_settle_12 rfl rfl ?_
      refine gz_lconst (v := 0) dX4_settle_13 (by decide) ?_
      refine gz_last hge ((by have e13 : (13 : Int32).toInt = 13 := rfl; have e0 : (0 : Int32).toInt = 0 := rfl; have e2 : (2 : Int32).toInt = 2 := rfl; have e1 : (1 : Int32).toInt = 1 := rfl; have e6 : (6 : Int32).toInt = 6 := rfl; have em2 : (-2 : Int32).toInt = -2 := rfl; have e6 : (6 : Int32).toInt = 6 := rfl; have e8 : (8 : Int32).toInt = 8 := rfl; have e10 : (10 : Int32).toInt = 10 := rfl; have e18 : (18 : Int32).toInt = 18 := rfl; simp only [fl_le] at c_5; exact vin_T (rfl : i.toInt = i.toInt) (by omega) (by omega))) dX4_settle_14 ?_
      obtain ⟨f1, hf1⟩ : ∃ gg : gMem, gg = va_up fm ge (some (.inl (cy 2, 8, .inr (.inl (vp_updL geg (Int32.toNatClampNeg i) 0))))) := ⟨_, rfl⟩
      refine gz_eq (f2 := f1) hf1.symm rfl rfl rfl ?_
      have hlg_1 : f1 lg = some (.inr (4, [.ref en, .int sz, .int lo, .ref ge, .ref re, .ref gv, .ref tk, .ref am, .int gi])) := by rw [hf1, va_up_ne _ _ (cne hlg hge (by simp))]; exact hlg
      have hen_1 : f1 en = some (.inl (cy 0, ne, .inl (eg))) := by rw [hf1, va_up_ne _ _ (hna.1)]; exact hen
      have hre_1 : f1 re = some (.inl (cy 2, 8, .inr (.inl (reg)))) := by rw [hf1, va_up_ne _ _ (Ne.symm (hna.2.2.2.2.2.1))]; exact hre
      have hgv_1 : f1 gv = some (.inl (cy 0, 8, .inl (gvg))) := by rw [hf1, va_up_ne _ _ (Ne.symm (hna.2.2.2.2.2.2.1))]; exact hgv
      have htk_1 : f1 tk = some (.inl (cy 0, 8, .inl (tkg))) := by rw [hf1, va_up_ne _ _ (Ne.symm (hna.2.2.2.2.2.2.2.1))]; exact htk
      have ham_1 : f1 am = some (.inl (cy 2, 8, .inr (.inl (amg)))) := by rw [hf1, va_up_ne _ _ (Ne.symm (hna.2.2.2.2.2.2.2.2.1))]; exact ham
      have hge_1 : f1 ge = some (.inl (cy 2, 8, .inr (.inl (vp_updL geg (Int32.toNatClampNeg i) 0)))) := by rw [hf1]; exact va_up_self _ _ _
      refine gz_iinc (v := (i + 1)) (lv' := [(2, .int (i + 1)), (0, .ref lg), (1, .int x)]) dX4_settle_15 rfl rfl (by decide) rfl ?_
      refine gz_goto (tgt := 2) dX4_settle_18 (by decide) ?_
      refine gz_sub (lv' := [(2, .int (i + 1)), (0, .ref lg), (1, .int x)]) (by simp [List.lookup]) ?_
      exact ih (i + 1) (vp_updL geg (Int32.toNatClampNeg i) 0) reg amg gvg tkg gi _ (by rw [hf1]; exact fr_up hfr (by simp)) hlg_1 hen_1 hge_1 hre_1 hgv_1 htk_1 ham_1 (by have e13 : (13 : Int32).toInt = 13 := rfl; have e0 : (0 : Int32).toInt = 0 := rfl; have e2 : (2 : Int32).toInt = 2 := rfl; have e1 : (1 : Int32).toInt = 1 := rfl; have e6 : (6 : Int32).toInt = 6 := rfl; have em2 : (-2 : Int32).toInt = -2 := rfl; have e6 : (6 : Int32).toInt = 6 := rfl; have e8 : (8 : Int32).toInt = 8 := rfl; have e10 : (10 : Int32).toInt = 10 := rfl; have e18 : (18 : Int32).toInt = 18 := rfl; have eb : (8 : Int32).toInt = 8 := rfl; simp only [fl_le] at c_5; have hx := T_add (rfl : i.toInt = i.toInt) e1 (by omega); omega)

set_option maxHeartbeats 4000000 in
set_option maxRecDepth 100000 in
theorem k_X4_settle {l : Launch} {D : va_G} {cy : Nat → ClassId} {b : Nat} {f : gMem} {lg en ge re gv tk am ne : Nat} {sz lo gi : Int32} {eg gvg tkg : Nat → Int32} {geg reg amg : Nat → Int64} {x : Int32} (hlg : f lg = some (.inr (4, [.ref en, .int sz, .int lo, .ref ge, .ref re, .ref gv, .ref tk, .ref am, .int gi]))) (hen : f en = some (.inl (cy 0, ne, .inl (eg)))) (hge : f ge = some (.inl (cy 2, 8, .inr (.inl (geg))))) (hre : f re = some (.inl (cy 2, 8, .inr (.inl (reg))))) (hgv : f gv = some (.inl (cy 0, 8, .inl (gvg)))) (htk : f tk = some (.inl (cy 0, 8, .inl (tkg)))) (ham : f am = some (.inl (cy 2, 8, .inr (.inl (amg))))) (hn : ne < 2 ^ 31) (hs : 0 ≤ sz.toInt ∧ sz.toInt ≤ 2000) (hna : en ≠ ge ∧ en ≠ re ∧ en ≠ gv ∧ en ≠ tk ∧ en ≠ am ∧ ge ≠ re ∧ ge ≠ gv ∧ ge ≠ tk ∧ ge ≠ am ∧ re ≠ gv ∧ re ≠ tk ∧ re ≠ am ∧ gv ≠ tk ∧ gv ≠ am ∧ tk ≠ am) : gC l D cy b yX4_settle cX4_settle 3 (some .int) 3 0 0 [.ref lg, .int x] f (pI fun r f2 => ∃ (g2 r2 a2 : Nat → Int64) (v2 k2 : Nat → Int32) (gi2 : Int32), f2 lg = some (.inr (4, [.ref en, .int sz, .int lo, .ref ge, .ref re, .ref gv, .ref tk, .ref am, .int gi2])) ∧ f2 ge = some (.inl (cy 2, 8, .inr (.inl (g2)))) ∧ f2 re = some (.inl (cy 2, 8, .inr (.inl (r2)))) ∧ f2 gv = some (.inl (cy 0, 8, .inl (v2))) ∧ f2 tk = some (.inl (cy 0, 8, .inl (k2))) ∧ f2 am = some (.inl (cy 2, 8, .inr (.inl (a2)))) ∧ (0 ≤ gi2.toInt ∧ gi2.toInt ≤ 8) ∧ fr [lg, ge, re, gv, tk, am] f f2) := by
  refine gC_of (by decide) (Nat.le_of_ble_eq_true rfl) ?_
  show gG l _ _ _ D cy b cX4_settle 3 _ RX4 "settle" 0 0 f 0 [(0, .ref lg), (1, .int x)] []
  refine gz_iconst (v := 0) dX4_settle_0 (by decide) ?_
  refine gz_istore_n (lv' := [(2, .int 0), (0, .ref lg), (1, .int x)]) dX4_settle_1 rfl (by decide) rfl ?_
  refine gz_sub (lv' := [(2, .int 0), (0, .ref lg), (1, .int x)]) (by simp [List.lookup]) ?_
  exact l_X4_settle1 hn hs hna 9 0 geg reg amg gvg tkg gi _ fr_rf hlg hen hge hre hgv htk ham (⟨by decide, by decide, by decide⟩)
