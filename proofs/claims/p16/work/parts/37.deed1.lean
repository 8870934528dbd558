def xseeF (tg t : Nat → Int32) (da x y u : Int32) : (Int32) × (Nat → Int32) × (Nat → Int32) := (lett (wrtF tg t da x y u) fun x1 => (x1.1, (x1.2.1), (x1.2.2)))
set_option maxHeartbeats 4000000 in
set_option maxRecDepth 100000 in
theorem k_X11_see {l : Launch} {D : va_G} {cy : Nat → ClassId} {b : Nat} {f : gMem} {xo ch tp ou fm dr dt_ rd te la lg co wo : Nat} {fcn : Int32} {tl sc th : Nat} {da : Int32} {tg t : Nat → Int32} {x y u : Int32} (hxo : f xo = some (.inr (11, [.ref ch, .ref tp, .ref ou, .ref fm, .ref dr, .ref dt_, .ref rd, .ref te, .ref la, .ref lg, .ref co, .ref wo, .int fcn]))) (hch : f ch = some (.inr (0, [.ref tl, .ref sc]))) (htl : f tl = some (.inl (cy 0, 2400, .inl (tg)))) (hsc : f sc = some (.inr (7, [.ref th, .int da]))) (hth : f th = some (.inl (cy 0, 6, .inl (t)))) (hne : tl ≠ th) : gC l D cy b yX11_see cX11_see 4 (some .boolean) 2 0 0 [.ref xo, .int x, .int y, .int u] f (pI fun r f2 => r = (xseeF tg t da x y u).1 ∧ f2 tl = some (.inl (cy 0, 2400, .inl ((xseeF tg t da x y u).2.1))) ∧ f2 th = some (.inl (cy 0, 6, .inl ((xseeF tg t da x y u).2.2))) ∧ fr [tl, th] f f2) := by
  refine gC_of (by decide) (Nat.le_of_ble_eq_true rfl) ?_
  show gG l _ _ _ D cy b cX11_see 4 _ RX11 "see" 0 0 f 0 [(0, .ref xo), (1, .int x), (2, .int y), (3, .int u)] []
  refine gz_aload_n dX11_see_0 rfl rfl ?_
  refine sgX11_12 hxo rfl dX11_see_1 ?_
  refine gz_iload_n dX11_see_4 rfl rfl ?_
  refine gz_iload_n dX11_see_5 rfl rfl ?_
  refine gz_iload_n dX11_see_6 rfl rfl ?_
  obtain ⟨x1, hx1⟩ : ∃ x0, (wrtF tg t da x y u) = x0 := ⟨_, rfl⟩
  refine scX11_98 (k_X0_write (x := x) (y := y) (u := u) hch htl hsc hth hne) hch ⟨(Nat.le_of_ble_eq_true rfl), (Nat.le_of_ble_eq_true rfl)⟩ ⟨(Nat.le_of_ble_eq_true rfl), (Nat.le_of_ble_eq_true rfl)⟩ rfl rfl (Nat.le_of_ble_eq_true rfl) dX11_see_7 ?_
  rintro r1 f1 ⟨z1, htl_1, hth_1, hr1⟩; rw [hx1] at z1 htl_1 hth_1; rw [z1]
  have hxo_1 : f1 xo = some (.inr (11, [.ref ch, .ref tp, .ref ou, .ref fm, .ref dr, .ref dt_, .ref rd, .ref te, .ref la, .ref lg, .ref co, .ref wo, .int fcn])) := hr1 _ _ hxo (by simp only [List.mem_cons, List.not_mem_nil, or_false, not_or]; exact ⟨cne hxo htl (by simp), cne hxo hth (by simp)⟩)
  have hch_1 : f1 ch = some (.inr (0, [.ref tl, .ref sc])) := hr1 _ _ hch (by simp only [List.mem_cons, List.not_mem_nil, or_false, not_or]; exact ⟨cne hch htl (by simp), cne hch hth (by simp)⟩)
  have hsc_1 : f1 sc = some (.inr (7, [.ref th, .int da])) := hr1 _ _ hsc (by simp only [List.mem_cons, List.not_mem_nil, or_false, not_or]; exact ⟨cne hsc htl (by simp), cne hsc hth (by simp)⟩)
  have hbx1 : x1.1 = 0 ∨ x1.1 = 1 := by rw [← hx1]; exact bz_wrtF
  exact gz_zret rfl (by first | decide | exact nrb (Or.inl rfl) | (refine nrb ?_; (repeat' split) <;> first | assumption | exact Or.inl rfl | exact Or.inr rfl)) dX11_see_10 (Nat.le_of_ble_eq_true rfl) (Nat.le_of_ble_eq_true rfl) (⟨_, rfl, (by rw [(show xseeF tg t da x y u = _ from (by unfold xseeF; rw [lett_eq hx1]))]), (by rw [(show xseeF tg t da x y u = _ from (by unfold xseeF; rw [lett_eq hx1]))]; exact htl_1), (by rw [(show xseeF tg t da x y u = _ from (by unfold xseeF; rw [lett_eq hx1]))]; exact hth_1), (fr_tr fr_rf (fr_mo hr1 (by simp)))⟩)

def xsenF (tg : Nat → Int32) (x y : Int32) : Int32 := (redF tg x y)
set_option maxHeartbeats 4000000 in
set_option maxRecDepth 100000 in
theorem k_X11_seen {l : Launch} {D : va_G} {cy : Nat → ClassId} {b : Nat} {f : gMem} {xo ch tp ou fm dr dt_ rd te la lg co wo : Nat} {fcn : Int32} {tl sc : Nat} {tg : Nat → Int32} {x y : Int32} (hxo : f xo = some (.inr (11, [.ref ch, .ref tp, .ref ou, .ref fm, .ref dr, .ref dt_, .ref rd, .ref te, .ref la, .ref lg, .ref co, .ref wo, .int fcn]))) (hch : f ch = some (.inr (0, [.ref tl, .ref sc]))) (htl : f tl = some (.inl (cy 0, 2400, .inl (tg))))  : gC l D cy b yX11_seen cX11_seen 3 (some .int) 1 0 0 [.ref xo, .int x, .int y] f (pI fun r f2 => r = xsenF tg x y ∧ f2 = f) := by
  refine gC_of (by decide) (Nat.le_of_ble_eq_true rfl) ?_
  show gG l _ _ _ D cy b cX11_seen 3 _ RX11 "seen" 0 0 f 0 [(0, .ref xo), (1, .int x), (2, .int y)] []
  refine gz_aload_n dX11_seen_0 rfl rfl ?_
  refine sgX11_12 hxo rfl dX11_seen_1 ?_
  refine gz_iload_n dX11_seen_4 rfl rfl ?_
  refine gz_iload_n dX11_seen_5 rfl rfl ?_
  refine scX11_102 (k_X0_read (x := x) (y := y) hch htl) hch ⟨(Nat.le_of_ble_eq_true rfl), (Nat.le_of_ble_eq_true rfl)⟩ ⟨(Nat.le_of_ble_eq_true rfl), (Nat.le_of_ble_eq_true rfl)⟩ rfl rfl (Nat.le_of_ble_eq_true rfl) dX11_seen_6 ?_
  intro v9 f9 z9; rw [z9.1, z9.2]
  exact gz_iret rfl dX11_seen_9 (Nat.le_of_ble_eq_true rfl) (Nat.le_of_ble_eq_true rfl) (⟨_, rfl, (show _ = _ from Eq.symm (by unfold xsenF; rfl)), rfl⟩)

def xendF (len x : Int32) : (Int32) × (Int32) := (if (x : Int32) < 0 then ((-1), len) else (if (x : Int32) ≤ len then (x, (tCut len x)) else ((-1), len)))
set_option maxHeartbeats 4000000 in
set_option maxRecDepth 100000 in
theorem k_X11_end {l : Launch} {D : va_G} {cy : Nat → ClassId} {b : Nat} {f : gMem} {xo ch tp ou fm dr dt_ rd te la lg co wo tb : Nat} {fcn len : Int32} {x : Int32} (hxo : f xo = some (.inr (11, [.ref ch, .ref tp, .ref ou, .ref fm, .ref dr, .ref dt_, .ref rd, .ref te, .ref la, .ref lg, .ref co, .ref wo, .int fcn]))) (htp : f tp = some (.inr (9, [.ref tb, .int len])))  : gC l D cy b yX11_end cX11_end 2 (some .int) 1 0 0 [.ref xo, .int x] f (pI fun r f2 => r = (xendF len x).1 ∧ f2 tp = some (.inr (9, [.ref tb, .int (xendF len x).2])) ∧ fr [tp] f f2) := by
  refine gC_of (by decide) (Nat.le_of_ble_eq_true rfl) ?_
  show gG l _ _ _ D cy b cX11_end 2 _ RX11 "end" 0 0 f 0 [(0, .ref xo), (1, .int x)] []
  refine gz_iload_n dX11_end_0 rfl rfl ?_
  refine gz_if_lt (tgt := 15) dX11_end_1 (by decide) (fun c_1 => ?_) (fun c_1 => ?_)
  ·
    refine gz_iconst (v := (-1)) dX11_end_15 (by decide) ?_
    exact gz_iret rfl dX11_end_16 (Nat.le_of_ble_eq_true rfl) (Nat.le_of_ble_eq_true rfl) (⟨_, rfl, (by rw [(show xendF len x = _ from (by unfold xendF; rw [if_pos c_1]))]), (by rw [(show xendF len x = _ from (by unfold xendF; rw [if_pos c_1]))]; exact htp), fr_rf⟩)
  ·
    refine gz_iload_n dX11_end_4 rfl rfl ?_
    refine gz_aload_n dX11_end_5 rfl rfl ?_
    refine sgX11_21 hxo rfl dX11_end_6 ?_
    refine scX11_106 (k_X9_size htp) htp ⟨(Nat.le_of_ble_eq_true rfl), (Nat.le_of_ble_eq_true rfl)⟩ ⟨(Nat.le_of_ble_eq_true rfl), (Nat.le_of_ble_eq_true rfl)⟩ rfl rfl (Nat.le_of_ble_eq_true rfl) dX11_end_9 ?_
    intro v9 f9 z9; rw [z9.1, z9.2]
    refine gz_icmp_le (tgt := 17) dX11_end_12 (by decide) (fun c_12 => ?_) (fun c_12 => ?_)
    ·
      refine gz_aload_n dX11_end_17 rfl rfl ?_
      refine sgX11_21 hxo rfl dX11_end_18 ?_
      refine gz_iload_n dX11_end_21 rfl rfl ?_
      refine scX11_113 (k_X9_cut (x := x) htp) htp ⟨(Nat.le_of_ble_eq_true rfl), (Nat.le_of_ble_eq_true rfl)⟩ ⟨(Nat.le_of_ble_eq_true rfl), (Nat.le_of_ble_eq_true rfl)⟩ rfl rfl (Nat.le_of_ble_eq_true rfl) dX11_end_22 ?_
      rintro f1 ⟨htp_1, hr1⟩
      have hxo_1 : f1 xo = some (.inr (11, [.ref ch, .ref tp, .ref ou, .ref fm, .ref dr, .ref dt_, .ref rd, .ref te, .ref la, .ref lg, .ref co, .ref wo, .int fcn])) := hr1 _ _ hxo (by simp only [List.mem_cons, List.not_mem_nil, or_false, not_or]; exact cne hxo htp (by simp))
      refine gz_iload_n dX11_end_25 rfl rfl ?_
      exact gz_iret rfl dX11_end_26 (Nat.le_of_ble_eq_true rfl) (Nat.le_of_ble_eq_true rfl) (⟨_, rfl, (by rw [(show xendF len x = _ from (by unfold xendF; rw [if_neg c_1, if_pos c_12]))]), (by rw [(show xendF len x = _ from (by unfold xendF; rw [if_neg c_1, if_pos c_12]))]; exact htp_1), (fr_tr fr_rf (fr_mo hr1 (by simp)))⟩)
    ·
      refine gz_iconst (v := (-1)) dX11_end_15 (by decide) ?_
      exact gz_iret rfl dX11_end_16 (Nat.le_of_ble_eq_true rfl) (Nat.le_of_ble_eq_true rfl) (⟨_, rfl, (by rw [(show xendF len x = _ from (by unfold xendF; rw [if_neg c_1, if_neg c_12]))]), (by rw [(show xendF len x = _ from (by unfold xendF; rw [if_neg c_1, if_neg c_12]))]; exact htp), fr_rf⟩)

def xoctF (ln : Int32) (n : Nat) (og : Nat → Int32) (x : Int32) : Int32 := (tAt ln n og x)
set_option maxHeartbeats 4000000 in
set_option maxRecDepth 100000 in
theorem k_X11_octet {l : Launch} {D : va_G} {cy : Nat → ClassId} {b : Nat} {f : gMem} {xo ch tp ou fm dr dt_ rd te la lg co wo ob n : Nat} {fcn ln : Int32} {og : Nat → Int32} {x : Int32} (hxo : f xo = some (.inr (11, [.ref ch, .ref tp, .ref ou, .ref fm, .ref dr, .ref dt_, .ref rd, .ref te, .ref la, .ref lg, .ref co, .ref wo, .int fcn]))) (hou : f ou = some (.inr (9, [.ref ob, .int ln]))) (hob : f ob = some (.inl (cy 1, n, .inl (og)))) (hn : n < 2 ^ 31) : gC l D cy b yX11_octet cX11_octet 2 (some .int) 1 0 0 [.ref xo, .int x] f (pI fun r f2 => r = xoctF ln n og x ∧ f2 = f) := by
  refine gC_of (by decide) (Nat.le_of_ble_eq_true rfl) ?_
  show gG l _ _ _ D cy b cX11_octet 2 _ RX11 "octet" 0 0 f 0 [(0, .ref xo), (1, .int x)] []
  refine gz_aload_n dX11_octet_0 rfl rfl ?_
  refine sgX11_25 hxo rfl dX11_octet_1 ?_
  refine gz_iload_n dX11_octet_4 rfl rfl ?_
  refine scX11_145 (k_X9_at (i := x) hou hob hn) hou ⟨(Nat.le_of_ble_eq_true rfl), (Nat.le_of_ble_eq_true rfl)⟩ ⟨(Nat.le_of_ble_eq_true rfl), (Nat.le_of_ble_eq_true rfl)⟩ rfl rfl (Nat.le_of_ble_eq_true rfl) dX11_octet_5 ?_
  intro v9 f9 z9; rw [z9.1, z9.2]
  exact gz_iret rfl dX11_octet_8 (Nat.le_of_ble_eq_true rfl) (Nat.le_of_ble_eq_true rfl) (⟨_, rfl, (show _ = _ from Eq.symm (by unfold xoctF; rfl)), rfl⟩)

def xwgtF (weg : Nat → Int32) (sz x y : Int32) : (Int32) × (Nat → Int32) := (lett (wghF weg sz x y) fun x1 => (x1.1, (x1.2)))
set_option maxHeartbeats 4000000 in
set_option maxRecDepth 100000 in
theorem k_X11_weight {l : Launch} {D : va_G} {cy : Nat → ClassId} {b : Nat} {f : gMem} {xo ch tp ou fm dr dt_ rd te la lg co wo : Nat} {fcn : Int32} {we stp pa ba td p : Nat} {sz ah go : Int32} {weg : Nat → Int32} {x y : Int32} (hxo : f xo = some (.inr (11, [.ref ch, .ref tp, .ref ou, .ref fm, .ref dr, .ref dt_, .ref rd, .ref te, .ref la, .ref lg, .ref co, .ref wo, .int fcn]))) (hwo : f wo = some (.inr (10, [.int sz, .ref we, .ref stp, .ref pa, .ref ba, .ref td, .ref p, .int ah, .int go]))) (hwe : f we = some (.inl (cy 0, 3, .inl (weg))))  : gC l D cy b yX11_weight cX11_weight 3 (some .boolean) 1 0 0 [.ref xo, .int x, .int y] f (pI fun r f2 => r = (xwgtF weg sz x y).1 ∧ f2 we = some (.inl (cy 0, 3, .inl ((xwgtF weg sz x y).2))) ∧ fr [we] f f2) := by
  refine gC_of (by decide) (Nat.le_of_ble_eq_true rfl) ?_
  show gG l _ _ _ D cy b cX11_weight 3 _ RX11 "weight" 0 0 f 0 [(0, .ref xo), (1, .int x), (2, .int y)] []
  refine gz_aload_n dX11_weight_0 rfl rfl ?_
  refine sgX11_94 hxo rfl dX11_weight_1 ?_
  refine gz_iload_n dX11_weight_4 rfl rfl ?_
  refine gz_iload_n dX11_weight_5 rfl rfl ?_
  obtain ⟨x1, hx1⟩ : ∃ x0, (wghF weg sz x y) = x0 := ⟨_, rfl⟩
  refine scX11_199 (k_X10_weigh (x := x) (y := y) hwo hwe) hwo ⟨(Nat.le_of_ble_eq_true rfl), (Nat.le_of_ble_eq_true rfl)⟩ ⟨(Nat.le_of_ble_eq_true rfl), (Nat.le_of_ble_eq_true rfl)⟩ rfl rfl (Nat.le_of_ble_eq_true rfl) dX11_weight_6 ?_
  rintro r1 f1 ⟨z1, hwe_1, hr1⟩; rw [hx1] at z1 hwe_1; rw [z1]
  have hxo_1 : f1 xo = some (.inr (11, [.ref ch, .ref tp, .ref ou, .ref fm, .ref dr, .ref dt_, .ref rd, .ref te, .ref la, .ref lg, .ref co, .ref wo, .int fcn])) := hr1 _ _ hxo (by simp only [List.mem_cons, List.not_mem_nil, or_false, not_or]; exact cne hxo hwe (by simp))
  have hwo_1 : f1 wo = some (.inr (10, [.int sz, .ref we, .ref stp, .ref pa, .ref ba, .ref td, .ref p, .int ah, .int go])) := hr1 _ _ hwo (by simp only [List.mem_cons, List.not_mem_nil, or_false, not_or]; exact cne hwo hwe (by simp))
  have hbx1 : x1.1 = 0 ∨ x1.1 = 1 := by rw [← hx1]; exact bz_wghF
  exact gz_zret rfl (by first | decide | exact nrb (Or.inl rfl) | (refine nrb ?_; (repeat' split) <;> first | assumption | exact Or.inl rfl | exact Or.inr rfl)) dX11_weight_9 (Nat.le_of_ble_eq_true rfl) (Nat.le_of_ble_eq_true rfl) (⟨_, rfl, (by rw [(show xwgtF weg sz x y = _ from (by unfold xwgtF; rw [lett_eq hx1]))]), (by rw [(show xwgtF weg sz x y = _ from (by unfold xwgtF; rw [lett_eq hx1]))]; exact hwe_1), (fr_tr fr_rf (fr_mo hr1 (by simp)))⟩)

def xaddF (stg : Nat → Int32) (sz x y u : Int32) : (Int32) × (Nat → Int32) := (lett (shfF stg sz x y u) fun x1 => (x1.1, (x1.2)))
set_option maxHeartbeats 4000000 in
set_option maxRecDepth 100000 in
theorem k_X11_adds {l : Launch} {D : va_G} {cy : Nat → ClassId} {b : Nat} {f : gMem} {xo ch tp ou fm dr dt_ rd te la lg co wo : Nat} {fcn : Int32} {we stp pa ba td p : Nat} {sz ah go : Int32} {stg : Nat → Int32} {x y u : Int32} (hxo : f xo = some (.inr (11, [.ref ch, .ref tp, .ref ou, .ref fm, .ref dr, .ref dt_, .ref rd, .ref te, .ref la, .ref lg, .ref co, .ref wo, .int fcn]))) (hwo : f wo = some (.inr (10, [.int sz, .ref we, .ref stp, .ref pa, .ref ba, .ref td, .ref p, .int ah, .int go]))) (hst : f stp = some (.inl (cy 0, 18, .inl (stg))))  : gC l D cy b yX11_adds cX11_adds 4 (some .boolean) 1 0 0 [.ref xo, .int x, .int y, .int u] f (pI fun r f2 => r = (xaddF stg sz x y u).1 ∧ f2 stp = some (.inl (cy 0, 18, .inl ((xaddF stg sz x y u).2))) ∧ fr [stp] f f2) := by
  refine gC_of (by decide) (Nat.le_of_ble_eq_true rfl) ?_
  show gG l _ _ _ D cy b cX11_adds 4 _ RX11 "adds" 0 0 f 0 [(0, .ref xo), (1, .int x), (2, .int y), (3, .int u)] []
  refine gz_aload_n dX11_adds_0 rfl rfl ?_
  refine sgX11_94 hxo rfl dX11_adds_1 ?_
  refine gz_iload_n dX11_adds_4 rfl rfl ?_
  refine gz_iload_n dX11_adds_5 rfl rfl ?_
  refine gz_iload_n dX11_adds_6 rfl rfl ?_
  obtain ⟨x1, hx1⟩ : ∃ x0, (shfF stg sz x y u) = x0 := ⟨_, rfl⟩
  refine scX11_203 (k_X10_shift (x := x) (y := y) (u := u) hwo hst) hwo ⟨(Nat.le_of_ble_eq_true rfl), (Nat.le_of_ble_eq_true rfl)⟩ ⟨(Nat.le_of_ble_eq_true rfl), (Nat.le_of_ble_eq_true rfl)⟩ rfl rfl (Nat.le_of_ble_eq_true rfl) dX11_adds_7 ?_
  rintro r1 f1 ⟨z1, hst_1, hr1⟩; rw [hx1] at z1 hst_1; rw [z1]
  have hxo_1 : f1 xo = some (.inr (11, [.ref ch, .ref tp, .ref ou, .ref fm, .ref dr, .ref dt_, .ref rd, .ref te, .ref la, .ref lg, .ref co, .ref wo, .int fcn])) := hr1 _ _ hxo (by simp only [List.mem_cons, List.not_mem_nil, or_false, not_or]; exact cne hxo hst (by simp))
  have hwo_1 : f1 wo = some (.inr (10, [.int sz, .ref we, .ref stp, .ref pa, .ref ba, .ref td, .ref p, .int ah, .int go])) := hr1 _ _ hwo (by simp only [List.mem_cons, List.not_mem_nil, or_false, not_or]; exact cne hwo hst (by simp))
  have hbx1 : x1.1 = 0 ∨ x1.1 = 1 := by rw [← hx1]; exact bz_shfF
  exact gz_zret rfl (by first | decide | exact nrb (Or.inl rfl) | (refine nrb ?_; (repeat' split) <;> first | assumption | exact Or.inl rfl | exact Or.inr rfl)) dX11_adds_10 (Nat.le_of_ble_eq_true rfl) (Nat.le_of_ble_eq_true rfl) (⟨_, rfl, (by rw [(show xaddF stg sz x y u = _ from (by unfold xaddF; rw [lett_eq hx1]))]), (by rw [(show xaddF stg sz x y u = _ from (by unfold xaddF; rw [lett_eq hx1]))]; exact hst_1), (fr_tr fr_rf (fr_mo hr1 (by simp)))⟩)

set_option maxHeartbeats 4000000 in
set_option maxRecDepth 100000 in
theorem k_X11_waysN {l : Launch} {D : va_G} {cy : Nat → ClassId} {b : Nat} {f : gMem} {xo ch tp ou fm dr dt_ rd te la lg co wo : Nat} {fcn : Int32} {x : Int32} (hxo : f xo = some (.inr (11, [.ref ch, .ref tp, .ref ou, .ref fm, .ref dr, .ref dt_, .ref rd, .ref te, .ref la, .ref lg, .ref co, .ref wo, .int fcn]))) (hx : x.toInt < 1 ∨ 3 < x.toInt) : gC l D cy b yX11_ways cX11_ways 2 (some .boolean) 1 0 0 [.ref xo, .int x] f (pI fun r f2 => r = 0 ∧ f2 = f) := by
  refine gC_of (by decide) (Nat.le_of_ble_eq_true rfl) ?_
  show gG l _ _ _ D cy b cX11_ways 2 _ RX11 "ways" 0 0 f 0 [(0, .ref xo), (1, .int x)] []
  refine gz_iload_n dX11_ways_0 rfl rfl ?_
  refine gz_iconst (v := 1) dX11_ways_1 (by decide) ?_
  refine gz_icmp_lt (tgt := 10) dX11_ways_2 (by decide) (fun c_2 => ?_) (fun c_2 => ?_)
  ·
    refine gz_iconst (v := 0) dX11_ways_10 (by decide) ?_
    exact gz_zret rfl (by first | decide | exact nrb (Or.inl rfl) | (refine nrb ?_; (repeat' split) <;> first | assumption | exact Or.inl rfl | exact Or.inr rfl)) dX11_ways_11 (Nat.le_of_ble_eq_true rfl) (Nat.le_of_ble_eq_true rfl) (⟨_, rfl, rfl, rfl⟩)
  ·
    refine gz_iload_n dX11_ways_5 rfl rfl ?_
    refine gz_iconst (v := 3) dX11_ways_6 (by decide) ?_
    refine gz_icmp_le (tgt := 12) dX11_ways_7 (by decide) (fun c_7 => ?_) (fun c_7 => ?_)
    · exfalso; have e1 : (1 : Int32).toInt = 1 := rfl; have e3 : (3 : Int32).toInt = 3 := rfl; simp only [fl_lt, fl_le] at c_7 c_2; omega
    ·
      refine gz_iconst (v := 0) dX11_ways_10 (by decide) ?_
      exact gz_zret rfl (by first | decide | exact nrb (Or.inl rfl) | (refine nrb ?_; (repeat' split) <;> first | assumption | exact Or.inl rfl | exact Or.inr rfl)) dX11_ways_11 (Nat.le_of_ble_eq_true rfl) (Nat.le_of_ble_eq_true rfl) (⟨_, rfl, rfl, rfl⟩)

set_option maxHeartbeats 4000000 in
set_option maxRecDepth 100000 in
theorem k_X11_waysY {l : Launch} {D : va_G} {cy : Nat → ClassId} {b : Nat} {f : gMem} {xo ch tp ou fm dr dt_ rd te la lg co wo : Nat} {fcn : Int32} {we stp pa ba td p : Nat} {sz ah go : Int32} {weg stg : Nat → Int32} {x : Int32} (hxo : f xo = some (.inr (11, [.ref ch, .ref tp, .ref ou, .ref fm, .ref dr, .ref dt_, .ref rd, .ref te, .ref la, .ref lg, .ref co, .ref wo, .int fcn]))) (hwo : f wo = some (.inr (10, [.int sz, .ref we, .ref stp, .ref pa, .ref ba, .ref td, .ref p, .int ah, .int go]))) (hwe : f we = some (.inl (cy 0, 3, .inl (weg)))) (hst : f stp = some (.inl (cy 0, 18, .inl (stg)))) (hne : we ≠ stp) (hx : 1 ≤ x.toInt ∧ x.toInt ≤ 3) : gC l D cy b yX11_ways cX11_ways 2 (some .boolean) 1 0 0 [.ref xo, .int x] f (pI fun r f2 => r = 1 ∧ f2 wo = some (.inr (10, [.int x, .ref we, .ref stp, .ref pa, .ref ba, .ref td, .ref p, .int ah, .int go])) ∧ f2 we = some (.inl (cy 0, 3, .inl ((rnw1L 4 0 weg stg).1))) ∧ f2 stp = some (.inl (cy 0, 18, .inl ((rnw1L 4 0 weg stg).2))) ∧ fr [wo, we, stp] f f2) := by
  refine gC_of (by decide) (Nat.le_of_ble_eq_true rfl) ?_
  show gG l _ _ _ D cy b cX11_ways 2 _ RX11 "ways" 0 0 f 0 [(0, .ref xo), (1, .int x)] []
  refine gz_iload_n dX11_ways_0 rfl rfl ?_
  refine gz_iconst (v := 1) dX11_ways_1 (by decide) ?_
  refine gz_icmp_lt (tgt := 10) dX11_ways_2 (by decide) (fun c_2 => ?_) (fun c_2 => ?_)
  · exfalso; have e1 : (1 : Int32).toInt = 1 := rfl; have e3 : (3 : Int32).toInt = 3 := rfl; simp only [fl_lt] at c_2; omega
  ·
    refine gz_iload_n dX11_ways_5 rfl rfl ?_
    refine gz_iconst (v := 3) dX11_ways_6 (by decide) ?_
    refine gz_icmp_le (tgt := 12) dX11_ways_7 (by decide) (fun c_7 => ?_) (fun c_7 => ?_)
    ·
      refine gz_aload_n dX11_ways_12 rfl rfl ?_
      refine sgX11_94 hxo rfl dX11_ways_13 ?_
      refine gz_iload_n dX11_ways_16 rfl rfl ?_
      refine scX11_196 (k_X10_renew (x := x) hwo hwe hst hne) hwo ⟨(Nat.le_of_ble_eq_true rfl), (Nat.le_of_ble_eq_true rfl)⟩ ⟨(Nat.le_of_ble_eq_true rfl), (Nat.le_of_ble_eq_true rfl)⟩ rfl rfl (Nat.le_of_ble_eq_true rfl) dX11_ways_17 ?_
      rintro f1 ⟨hwo_1, hwe_1, hst_1, hr1⟩
      have hxo_1 : f1 xo = some (.inr (11, [.ref ch, .ref tp, .ref ou, .ref fm, .ref dr, .ref dt_, .ref rd, .ref te, .ref la, .ref lg, .ref co, .ref wo, .int fcn])) := hr1 _ _ hxo (by simp only [List.mem_cons, List.not_mem_nil, or_false, not_or]; exact ⟨cne hxo hwo (by simp), cne hxo hwe (by simp), cne hxo hst (by simp)⟩)
      refine gz_iconst (v := 1) dX11_ways_20 (by decide) ?_
      exact gz_zret rfl (by first | decide | exact nrb (Or.inl rfl) | (refine nrb ?_; (repeat' split) <;> first | assumption | exact Or.inl rfl | exact Or.inr rfl)) dX11_ways_21 (Nat.le_of_ble_eq_true rfl) (Nat.le_of_ble_eq_true rfl) (⟨_, rfl, rfl, hwo_1, hwe_1, hst_1, (fr_tr fr_rf (fr_mo hr1 (by simp)))⟩)
    · exfalso; have e1 : (1 : Int32).toInt = 1 := rfl; have e3 : (3 : Int32).toInt = 3 := rfl; simp only [fl_le] at c_7; omega
