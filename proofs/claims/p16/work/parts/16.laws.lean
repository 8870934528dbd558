def folF (n1 : Nat) (g : Nat → Int32) (s : Int32) (bg : Nat → Int32) (x y : Int32) : (Nat → Int32) := (if ((fldF n1 g s x y) : Int32) < 0 then (g) else (if 40 ≤ ((fldF n1 g s x y) : Int32) then (g) else (stF n1 g s x y (bg (Int32.toNatClampNeg (fldF n1 g s x y))))))
set_option maxHeartbeats 4000000 in
set_option maxRecDepth 100000 in
theorem k_X3_follow {l : Launch} {D : va_G} {cy : Nat → ClassId} {b : Nat} {f : gMem} {la p c1 c2 n1 bc : Nat} {s v : Int32} {g bg : Nat → Int32} {x y : Int32} (hla : f la = some (.inr (3, [.ref p, .ref bc]))) (hbc : f bc = some (.inl (cy 0, 40, .inl (bg)))) (hp : f p = some (.inr (2, [.ref c1, .ref c2, .int s, .int v]))) (h1 : f c1 = some (.inl (cy 0, n1, .inl (g)))) (hs : 0 ≤ s.toInt ∧ 13 * s.toInt ≤ n1 ∧ n1 ≤ 520) (hne : bc ≠ c1) : gC l D cy b yX3_follow cX3_follow 4 none 1 0 0 [.ref la, .int x, .int y] f (pV fun f2 => f2 c1 = some (.inl (cy 0, n1, .inl ((folF n1 g s bg x y)))) ∧ fr [c1] f f2) := by
  refine gC_of (by decide) (Nat.le_of_ble_eq_true rfl) ?_
  show gG l _ _ _ D cy b cX3_follow 4 _ RX3 "follow" 0 0 f 0 [(0, .ref la), (1, .int x), (2, .int y)] []
  refine gz_aload_n dX3_follow_0 rfl rfl ?_
  refine sgX3_14 hla rfl dX3_follow_1 ?_
  refine gz_iload_n dX3_follow_4 rfl rfl ?_
  refine gz_iload_n dX3_follow_5 rfl rfl ?_
  refine scX3_52 (k_X2_field (w := x) (k := y) hp h1 hs) hp ⟨(Nat.le_of_ble_eq_true rfl), (Nat.le_of_ble_eq_true rfl)⟩ ⟨(Nat.le_of_ble_eq_true rfl), (Nat.le_of_ble_eq_true rfl)⟩ rfl rfl (Nat.le_of_ble_eq_true rfl) dX3_follow_6 ?_
  intro v9 f9 z9; rw [z9.1, z9.2]
  refine gz_istore_n (lv' := [(3, .int (fldF n1 g s x y)), (0, .ref la), (1, .int x), (2, .int y)]) dX3_follow_9 rfl (by decide) rfl ?_
  refine gz_iload_n dX3_follow_10 rfl rfl ?_
  refine gz_if_lt (tgt := 35) dX3_follow_11 (by decide) (fun c_11 => ?_) (fun c_11 => ?_)
  ·
    exact gz_vret rfl dX3_follow_35 (Nat.le_of_ble_eq_true rfl) (Nat.le_of_ble_eq_true rfl) (⟨rfl, (by rw [(show folF n1 g s bg x y = _ from (by unfold folF; rw [if_pos c_11]))]; exact h1), fr_rf⟩)
  ·
    refine gz_iload_n dX3_follow_14 rfl rfl ?_
    refine gz_bipush (v := 40) dX3_follow_15 (by decide) ?_
    refine gz_icmp_ge (tgt := 35) dX3_follow_17 (by decide) (fun c_17 => ?_) (fun c_17 => ?_)
    ·
      exact gz_vret rfl dX3_follow_35 (Nat.le_of_ble_eq_true rfl) (Nat.le_of_ble_eq_true rfl) (⟨rfl, (by rw [(show folF n1 g s bg x y = _ from (by unfold folF; rw [if_neg c_11, if_pos c_17]))]; exact h1), fr_rf⟩)
    ·
      refine gz_aload_n dX3_follow_20 rfl rfl ?_
      refine sgX3_14 hla rfl dX3_follow_21 ?_
      refine gz_iload_n dX3_follow_24 rfl rfl ?_
      refine gz_iload_n dX3_follow_25 rfl rfl ?_
      refine gz_aload_n dX3_follow_26 rfl rfl ?_
      refine sgX3_20 hla rfl dX3_follow_27 ?_
      refine gz_iload_n dX3_follow_30 rfl rfl ?_
      refine gz_iald hbc ((by have e13 : (13 : Int32).toInt = 13 := rfl; have e0 : (0 : Int32).toInt = 0 := rfl; have e2 : (2 : Int32).toInt = 2 := rfl; have e1 : (1 : Int32).toInt = 1 := rfl; have e6 : (6 : Int32).toInt = 6 := rfl; have em2 : (-2 : Int32).toInt = -2 := rfl; have e40 : (40 : Int32).toInt = 40 := rfl; simp only [fl_lt, fl_le] at c_11 c_17; exact vin_T rfl (by omega) (by omega))) dX3_follow_31 ?_
      refine scX3_55 (k_X2_setField (w := x) (k := y) (x := (bg (Int32.toNatClampNeg (fldF n1 g s x y)))) hp h1 hs) hp ⟨(Nat.le_of_ble_eq_true rfl), (Nat.le_of_ble_eq_true rfl)⟩ ⟨(Nat.le_of_ble_eq_true rfl), (Nat.le_of_ble_eq_true rfl)⟩ rfl rfl (Nat.le_of_ble_eq_true rfl) dX3_follow_32 ?_
      rintro f1 ⟨h1_1, hr1⟩
      have hla_1 : f1 la = some (.inr (3, [.ref p, .ref bc])) := hr1 _ _ hla (by simp only [List.mem_cons, List.not_mem_nil, or_false, not_or]; exact cne hla h1 (by simp))
      have hbc_1 : f1 bc = some (.inl (cy 0, 40, .inl (bg))) := hr1 _ _ hbc (by simp only [List.mem_cons, List.not_mem_nil, or_false, not_or]; exact hne)
      have hp_1 : f1 p = some (.inr (2, [.ref c1, .ref c2, .int s, .int v])) := hr1 _ _ hp (by simp only [List.mem_cons, List.not_mem_nil, or_false, not_or]; exact cne hp h1 (by simp))
      exact gz_vret rfl dX3_follow_35 (Nat.le_of_ble_eq_true rfl) (Nat.le_of_ble_eq_true rfl) (⟨rfl, (by rw [(show folF n1 g s bg x y = _ from (by unfold folF; rw [if_neg c_11, if_neg c_17]))]; exact h1_1), (fr_tr fr_rf (fr_mo hr1 (by simp)))⟩)

def mknF (n1 : Nat) (g : Nat → Int32) (s : Int32) (x : Int32) : (Nat → Int32) := (stF n1 (stF n1 (stF n1 (stF n1 g s x 0 0) s x 5 (-1)) s x 6 (-1)) s x 7 (-1))
set_option maxHeartbeats 4000000 in
set_option maxRecDepth 100000 in
theorem k_X3_makeNothing {l : Launch} {D : va_G} {cy : Nat → ClassId} {b : Nat} {f : gMem} {la p c1 c2 n1 bc : Nat} {s v : Int32} {g : Nat → Int32} {x : Int32} (hla : f la = some (.inr (3, [.ref p, .ref bc]))) (hp : f p = some (.inr (2, [.ref c1, .ref c2, .int s, .int v]))) (h1 : f c1 = some (.inl (cy 0, n1, .inl (g)))) (hs : 0 ≤ s.toInt ∧ 13 * s.toInt ≤ n1 ∧ n1 ≤ 520) : gC l D cy b yX3_makeNothing cX3_makeNothing 2 none 1 0 0 [.ref la, .int x] f (pV fun f2 => f2 c1 = some (.inl (cy 0, n1, .inl ((mknF n1 g s x)))) ∧ fr [c1] f f2) := by
  refine gC_of (by decide) (Nat.le_of_ble_eq_true rfl) ?_
  show gG l _ _ _ D cy b cX3_makeNothing 2 _ RX3 "makeNothing" 0 0 f 0 [(0, .ref la), (1, .int x)] []
  refine gz_aload_n dX3_makeNothing_0 rfl rfl ?_
  refine sgX3_14 hla rfl dX3_makeNothing_1 ?_
  refine gz_iload_n dX3_makeNothing_4 rfl rfl ?_
  refine gz_iconst (v := 0) dX3_makeNothing_5 (by decide) ?_
  refine gz_iconst (v := 0) dX3_makeNothing_6 (by decide) ?_
  refine scX3_55 (k_X2_setField (w := x) (k := 0) (x := 0) hp h1 hs) hp ⟨(Nat.le_of_ble_eq_true rfl), (Nat.le_of_ble_eq_true rfl)⟩ ⟨(Nat.le_of_ble_eq_true rfl), (Nat.le_of_ble_eq_true rfl)⟩ rfl rfl (Nat.le_of_ble_eq_true rfl) dX3_makeNothing_7 ?_
  rintro f1 ⟨h1_1, hr1⟩
  have hla_1 : f1 la = some (.inr (3, [.ref p, .ref bc])) := hr1 _ _ hla (by simp only [List.mem_cons, List.not_mem_nil, or_false, not_or]; exact cne hla h1 (by simp))
  have hp_1 : f1 p = some (.inr (2, [.ref c1, .ref c2, .int s, .int v])) := hr1 _ _ hp (by simp only [List.mem_cons, List.not_mem_nil, or_false, not_or]; exact cne hp h1 (by simp))
  refine gz_aload_n dX3_makeNothing_10 rfl rfl ?_
  refine sgX3_14 hla_1 rfl dX3_makeNothing_11 ?_
  refine gz_iload_n dX3_makeNothing_14 rfl rfl ?_
  refine gz_iconst (v := 5) dX3_makeNothing_15 (by decide) ?_
  refine gz_iconst (v := (-1)) dX3_makeNothing_16 (by decide) ?_
  refine scX3_55 (k_X2_setField (w := x) (k := 5) (x := (-1)) hp_1 h1_1 hs) hp_1 ⟨(Nat.le_of_ble_eq_true rfl), (Nat.le_of_ble_eq_true rfl)⟩ ⟨(Nat.le_of_ble_eq_true rfl), (Nat.le_of_ble_eq_true rfl)⟩ rfl rfl (Nat.le_of_ble_eq_true rfl) dX3_makeNothing_17 ?_
  rintro f2 ⟨h1_2, hr2⟩
  have hla_2 : f2 la = some (.inr (3, [.ref p, .ref bc])) := hr2 _ _ hla_1 (by simp only [List.mem_cons, List.not_mem_nil, or_false, not_or]; exact cne hla_1 h1_1 (by simp))
  have hp_2 : f2 p = some (.inr (2, [.ref c1, .ref c2, .int s, .int v])) := hr2 _ _ hp_1 (by simp only [List.mem_cons, List.not_mem_nil, or_false, not_or]; exact cne hp_1 h1_1 (by simp))
  refine gz_aload_n dX3_makeNothing_20 rfl rfl ?_
  refine sgX3_14 hla_2 rfl dX3_makeNothing_21 ?_
  refine gz_iload_n dX3_makeNothing_24 rfl rfl ?_
  refine gz_bipush (v := 6) dX3_makeNothing_25 (by decide) ?_
  refine gz_iconst (v := (-1)) dX3_makeNothing_27 (by decide) ?_
  refine scX3_55 (k_X2_setField (w := x) (k := 6) (x := (-1)) hp_2 h1_2 hs) hp_2 ⟨(Nat.le_of_ble_eq_true rfl), (Nat.le_of_ble_eq_true rfl)⟩ ⟨(Nat.le_of_ble_eq_true rfl), (Nat.le_of_ble_eq_true rfl)⟩ rfl rfl (Nat.le_of_ble_eq_true rfl) dX3_makeNothing_28 ?_
  rintro f3 ⟨h1_3, hr3⟩
  have hla_3 : f3 la = some (.inr (3, [.ref p, .ref bc])) := hr3 _ _ hla_2 (by simp only [List.mem_cons, List.not_mem_nil, or_false, not_or]; exact cne hla_2 h1_2 (by simp))
  have hp_3 : f3 p = some (.inr (2, [.ref c1, .ref c2, .int s, .int v])) := hr3 _ _ hp_2 (by simp only [List.mem_cons, List.not_mem_nil, or_false, not_or]; exact cne hp_2 h1_2 (by simp))
  refine gz_aload_n dX3_makeNothing_31 rfl rfl ?_
  refine sgX3_14 hla_3 rfl dX3_makeNothing_32 ?_
  refine gz_iload_n dX3_makeNothing_35 rfl rfl ?_
  refine gz_bipush (v := 7) dX3_makeNothing_36 (by decide) ?_
  refine gz_iconst (v := (-1)) dX3_makeNothing_38 (by decide) ?_
  refine scX3_55 (k_X2_setField (w := x) (k := 7) (x := (-1)) hp_3 h1_3 hs) hp_3 ⟨(Nat.le_of_ble_eq_true rfl), (Nat.le_of_ble_eq_true rfl)⟩ ⟨(Nat.le_of_ble_eq_true rfl), (Nat.le_of_ble_eq_true rfl)⟩ rfl rfl (Nat.le_of_ble_eq_true rfl) dX3_makeNothing_39 ?_
  rintro f4 ⟨h1_4, hr4⟩
  have hla_4 : f4 la = some (.inr (3, [.ref p, .ref bc])) := hr4 _ _ hla_3 (by simp only [List.mem_cons, List.not_mem_nil, or_false, not_or]; exact cne hla_3 h1_3 (by simp))
  have hp_4 : f4 p = some (.inr (2, [.ref c1, .ref c2, .int s, .int v])) := hr4 _ _ hp_3 (by simp only [List.mem_cons, List.not_mem_nil, or_false, not_or]; exact cne hp_3 h1_3 (by simp))
  exact gz_vret rfl dX3_makeNothing_42 (Nat.le_of_ble_eq_true rfl) (Nat.le_of_ble_eq_true rfl) (⟨rfl, (by rw [(show mknF n1 g s x = _ from (by unfold mknF; rfl))]; exact h1_4), (fr_tr (fr_tr (fr_tr (fr_tr fr_rf (fr_mo hr1 (by simp))) (fr_mo hr2 (by simp))) (fr_mo hr3 (by simp))) (fr_mo hr4 (by simp)))⟩)

def cpLF (n1 : Nat) (g : Nat → Int32) (s : Int32) (x y : Int32) : (Int32) × (Nat → Int32) := (y, (stF n1 g s y 2 (if (fldF n1 g s y 2) < (fldF n1 g s x 2) then (fldF n1 g s y 2) else (fldF n1 g s x 2))))
set_option maxHeartbeats 4000000 in
set_option maxRecDepth 100000 in
theorem k_X3_capLaw {l : Launch} {D : va_G} {cy : Nat → ClassId} {b : Nat} {f : gMem} {la p c1 c2 n1 bc : Nat} {s v : Int32} {g : Nat → Int32} {x y : Int32} (hla : f la = some (.inr (3, [.ref p, .ref bc]))) (hp : f p = some (.inr (2, [.ref c1, .ref c2, .int s, .int v]))) (h1 : f c1 = some (.inl (cy 0, n1, .inl (g)))) (hs : 0 ≤ s.toInt ∧ 13 * s.toInt ≤ n1 ∧ n1 ≤ 520) : gC l D cy b yX3_capLaw cX3_capLaw 4 (some .int) 1 0 0 [.ref la, .int x, .int y] f (pI fun r f2 => r = (cpLF n1 g s x y).1 ∧ f2 c1 = some (.inl (cy 0, n1, .inl ((cpLF n1 g s x y).2))) ∧ fr [c1] f f2) := by
  refine gC_of (by decide) (Nat.le_of_ble_eq_true rfl) ?_
  show gG l _ _ _ D cy b cX3_capLaw 4 _ RX3 "capLaw" 0 0 f 0 [(0, .ref la), (1, .int x), (2, .int y)] []
  refine gz_aload_n dX3_capLaw_0 rfl rfl ?_
  refine sgX3_14 hla rfl dX3_capLaw_1 ?_
  refine gz_iload_n dX3_capLaw_4 rfl rfl ?_
  refine gz_iconst (v := 2) dX3_capLaw_5 (by decide) ?_
  refine scX3_52 (k_X2_field (w := x) (k := 2) hp h1 hs) hp ⟨(Nat.le_of_ble_eq_true rfl), (Nat.le_of_ble_eq_true rfl)⟩ ⟨(Nat.le_of_ble_eq_true rfl), (Nat.le_of_ble_eq_true rfl)⟩ rfl rfl (Nat.le_of_ble_eq_true rfl) dX3_capLaw_6 ?_
  intro v9 f9 z9; rw [z9.1, z9.2]
  refine gz_aload_n dX3_capLaw_9 rfl rfl ?_
  refine sgX3_14 hla rfl dX3_capLaw_10 ?_
  refine gz_iload_n dX3_capLaw_13 rfl rfl ?_
  refine gz_iconst (v := 2) dX3_capLaw_14 (by decide) ?_
  refine scX3_52 (k_X2_field (w := y) (k := 2) hp h1 hs) hp ⟨(Nat.le_of_ble_eq_true rfl), (Nat.le_of_ble_eq_true rfl)⟩ ⟨(Nat.le_of_ble_eq_true rfl), (Nat.le_of_ble_eq_true rfl)⟩ rfl rfl (Nat.le_of_ble_eq_true rfl) dX3_capLaw_15 ?_
  intro v9 f9 z9; rw [z9.1, z9.2]
  refine scX3_35 (Nat.le_of_ble_eq_true rfl) (Nat.le_of_ble_eq_true rfl) (Nat.le_of_ble_eq_true rfl) (Nat.le_of_ble_eq_true rfl) (Nat.le_of_ble_eq_true rfl) dX3_capLaw_18 ?_
  refine gz_istore_n (lv' := [(3, .int (if (fldF n1 g s y 2) < (fldF n1 g s x 2) then (fldF n1 g s y 2) else (fldF n1 g s x 2))), (0, .ref la), (1, .int x), (2, .int y)]) dX3_capLaw_21 rfl (by decide) rfl ?_
  refine gz_aload_n dX3_capLaw_22 rfl rfl ?_
  refine sgX3_14 hla rfl dX3_capLaw_23 ?_
  refine gz_iload_n dX3_capLaw_26 rfl rfl ?_
  refine gz_iconst (v := 2) dX3_capLaw_27 (by decide) ?_
  refine gz_iload_n dX3_capLaw_28 rfl rfl ?_
  refine scX3_55 (k_X2_setField (w := y) (k := 2) (x := (if (fldF n1 g s y 2) < (fldF n1 g s x 2) then (fldF n1 g s y 2) else (fldF n1 g s x 2))) hp h1 hs) hp ⟨(Nat.le_of_ble_eq_true rfl), (Nat.le_of_ble_eq_true rfl)⟩ ⟨(Nat.le_of_ble_eq_true rfl), (Nat.le_of_ble_eq_true rfl)⟩ rfl rfl (Nat.le_of_ble_eq_true rfl) dX3_capLaw_29 ?_
  rintro f1 ⟨h1_1, hr1⟩
  have hla_1 : f1 la = some (.inr (3, [.ref p, .ref bc])) := hr1 _ _ hla (by simp only [List.mem_cons, List.not_mem_nil, or_false, not_or]; exact cne hla h1 (by simp))
  have hp_1 : f1 p = some (.inr (2, [.ref c1, .ref c2, .int s, .int v])) := hr1 _ _ hp (by simp only [List.mem_cons, List.not_mem_nil, or_false, not_or]; exact cne hp h1 (by simp))
  refine gz_iload_n dX3_capLaw_32 rfl rfl ?_
  exact gz_iret rfl dX3_capLaw_33 (Nat.le_of_ble_eq_true rfl) (Nat.le_of_ble_eq_true rfl) (⟨_, rfl, (by rw [(show cpLF n1 g s x y = _ from (by unfold cpLF; rfl))]), (by rw [(show cpLF n1 g s x y = _ from (by unfold cpLF; rfl))]; exact h1_1), (fr_tr fr_rf (fr_mo hr1 (by simp)))⟩)

def scLF (n1 n2 : Nat) (g h : Nat → Int32) (s v x y : Int32) : (Int32) × (Nat → Int32) := (if (((fldF n1 g s x 6) - (fldF n1 g s x 5)) : Int32) = 1 then (if ((valF n2 h v (fldF n1 g s x 5)) : Int32) = 0 then (lett (mknF n1 g s x) fun x1 => (if ((valF n2 h v (fldF n1 g s x 5)) : Int32) = 1 then (y, (x1)) else (x, (x1)))) else (if ((valF n2 h v (fldF n1 g s x 5)) : Int32) = 1 then (y, (g)) else (x, (g)))) else (x, (g)))
set_option maxHeartbeats 4000000 in
set_option maxRecDepth 100000 in
theorem k_X3_scaleLaw {l : Launch} {D : va_G} {cy : Nat → ClassId} {b : Nat} {f : gMem} {la p c1 c2 n1 n2 bc : Nat} {s v : Int32} {g h : Nat → Int32} {x y : Int32} (hla : f la = some (.inr (3, [.ref p, .ref bc]))) (hp : f p = some (.inr (2, [.ref c1, .ref c2, .int s, .int v]))) (h1 : f c1 = some (.inl (cy 0, n1, .inl (g)))) (h2 : f c2 = some (.inl (cy 0, n2, .inl (h)))) (hs : 0 ≤ s.toInt ∧ 13 * s.toInt ≤ n1 ∧ n1 ≤ 520) (hv : 0 ≤ v.toInt ∧ 2 * v.toInt ≤ n2 ∧ n2 ≤ 80) (hne : c1 ≠ c2) : gC l D cy b yX3_scaleLaw cX3_scaleLaw 5 (some .int) 2 0 0 [.ref la, .int x, .int y] f (pI fun r f2 => r = (scLF n1 n2 g h s v x y).1 ∧ f2 c1 = some (.inl (cy 0, n1, .inl ((scLF n1 n2 g h s v x y).2))) ∧ fr [c1] f f2) := by
  refine gC_of (by decide) (Nat.le_of_ble_eq_true rfl) ?_
  show gG l _ _ _ D cy b cX3_scaleLaw 5 _ RX3 "scaleLaw" 0 0 f 0 [(0, .ref la), (1, .int x), (2, .int y)] []
  refine gz_aload_n dX3_scaleLaw_0 rfl rfl ?_
  refine sgX3_14 hla rfl dX3_scaleLaw_1 ?_
  refine gz_iload_n dX3_scaleLaw_4 rfl rfl ?_
  refine gz_iconst (v := 5) dX3_scaleLaw_5 (by decide) ?_
  refine scX3_52 (k_X2_field (w := x) (k := 5) hp h1 hs) hp ⟨(Nat.le_of_ble_eq_true rfl), (Nat.le_of_ble_eq_true rfl)⟩ ⟨(Nat.le_of_ble_eq_true rfl), (Nat.le_of_ble_eq_true rfl)⟩ rfl rfl (Nat.le_of_ble_eq_true rfl) dX3_scaleLaw_6 ?_
  intro v9 f9 z9; rw [z9.1, z9.2]
  refine gz_istore_n (lv' := [(3, .int (fldF n1 g s x 5)), (0, .ref la), (1, .int x), (2, .int y)]) dX3_scaleLaw_9 rfl (by decide) rfl ?_
  refine gz_aload_n dX3_scaleLaw_10 rfl rfl ?_
  refine sgX3_14 hla rfl dX3_scaleLaw_11 ?_
  refine gz_iload_n dX3_scaleLaw_14 rfl rfl ?_
  refine gz_bipush (v := 6) dX3_scaleLaw_15 (by decide) ?_
  refine scX3_52 (k_X2_field (w := x) (k := 6) hp h1 hs) hp ⟨(Nat.le_of_ble_eq_true rfl), (Nat.le_of_ble_eq_true rfl)⟩ ⟨(Nat.le_of_ble_eq_true rfl), (Nat.le_of_ble_eq_true rfl)⟩ rfl rfl (Nat.le_of_ble_eq_true rfl) dX3_scaleLaw_17 ?_
  intro v9 f9 z9; rw [z9.1, z9.2]
  refine gz_iload_n dX3_scaleLaw_20 rfl rfl ?_
  refine gz_isub dX3_scaleLaw_21 ?_
  refine gz_iconst (v := 1) dX3_scaleLaw_22 (by decide) ?_
  refine gz_icmp_eq (tgt := 28) dX3_scaleLaw_23 (by decide) (fun c_23 => ?_) (fun c_23 => ?_)
  ·
    refine gz_aload_n dX3_scaleLaw_28 rfl rfl ?_
    refine sgX3_14 hla rfl dX3_scaleLaw_29 ?_
    refine gz_iload_n dX3_scaleLaw_32 rfl rfl ?_
    refine scX3_65 (k_X2_value (i := (fldF n1 g s x 5)) hp h2 hv) hp ⟨(Nat.le_of_ble_eq_true rfl), (Nat.le_of_ble_eq_true rfl)⟩ ⟨(Nat.le_of_ble_eq_true rfl), (Nat.le_of_ble_eq_true rfl)⟩ rfl rfl (Nat.le_of_ble_eq_true rfl) dX3_scaleLaw_33 ?_
    intro v9 f9 z9; rw [z9.1, z9.2]
    refine gz_istore (lv' := [(4, .int (valF n2 h v (fldF n1 g s x 5))), (3, .int (fldF n1 g s x 5)), (0, .ref la), (1, .int x), (2, .int y)]) dX3_scaleLaw_36 (by decide) rfl ?_
    refine gz_iload dX3_scaleLaw_38 rfl ?_
    refine gz_if_ne (tgt := 48) dX3_scaleLaw_40 (by decide) (fun c_40 => ?_) (fun c_40 => ?_)
    ·
      refine gz_iload dX3_scaleLaw_48 rfl ?_
      refine gz_iconst (v := 1) dX3_scaleLaw_50 (by decide) ?_
      refine gz_icmp_ne (tgt := 58) dX3_scaleLaw_51 (by decide) (fun c_51 => ?_) (fun c_51 => ?_)
      ·
        refine gz_iload_n dX3_scaleLaw_58 rfl rfl ?_
        exact gz_iret rfl dX3_scaleLaw_59 (Nat.le_of_ble_eq_true rfl) (Nat.le_of_ble_eq_true rfl) (⟨_, rfl, (by rw [(show scLF n1 n2 g h s v x y = _ from (by unfold scLF; rw [if_pos c_23, if_neg c_40, if_neg c_51]))]), (by rw [(show scLF n1 n2 g h s v x y = _ from (by unfold scLF; rw [if_pos c_23, if_neg c_40, if_neg c_51]))]; exact h1), fr_rf⟩)
      ·
        refine gz_iload_n dX3_scaleLaw_54 rfl rfl ?_
        refine gz_goto (tgt := 59) dX3_scaleLaw_55 (by decide) ?_
        exact gz_iret rfl dX3_scaleLaw_59 (Nat.le_of_ble_eq_true rfl) (Nat.le_of_ble_eq_true rfl) (⟨_, rfl, (by rw [(show scLF n1 n2 g h s v x y = _ from (by unfold scLF; rw [if_pos c_23, if_neg c_40, if_pos c_51]))]), (by rw [(show scLF n1 n2 g h s v x y = _ from (by unfold scLF; rw [if_pos c_23, if_neg c_40, if_pos c_51]))]; exact h1), fr_rf⟩)
    ·
      refine gz_aload_n dX3_scaleLaw_43 rfl rfl ?_
      refine gz_iload_n dX3_scaleLaw_44 rfl rfl ?_
      obtain ⟨x1, hx1⟩ : ∃ x0, (mknF n1 g s x) = x0 := ⟨_, rfl⟩
      refine scX3_68 (k_X3_makeNothing (x := x) hla hp h1 hs) hla ⟨(Nat.le_of_ble_eq_true rfl), (Nat.le_of_ble_eq_true rfl)⟩ ⟨(Nat.le_of_ble_eq_true rfl), (Nat.le_of_ble_eq_true rfl)⟩ rfl rfl (Nat.le_of_ble_eq_true rfl) dX3_scaleLaw_45 ?_
      rintro f1 ⟨h1_1, hr1⟩; rw [hx1] at h1_1
      have hla_1 : f1 la = some (.inr (3, [.ref p, .ref bc])) := hr1 _ _ hla (by simp only [List.mem_cons, List.not_mem_nil, or_false, not_or]; exact cne hla h1 (by simp))
      have hp_1 : f1 p = some (.inr (2, [.ref c1, .ref c2, .int s, .int v])) := hr1 _ _ hp (by simp only [List.mem_cons, List.not_mem_nil, or_false, not_or]; exact cne hp h1 (by simp))
      have h2_1 : f1 c2 = some (.inl (cy 0, n2, .inl (h))) := hr1 _ _ h2 (by simp only [List.mem_cons, List.not_mem_nil, or_false, not_or]; exact Ne.symm (hne))
      refine gz_iload dX3_scaleLaw_48 rfl ?_
      refine gz_iconst (v := 1) dX3_scaleLaw_50 (by decide) ?_
      refine gz_icmp_ne (tgt := 58) dX3_scaleLaw_51 (by decide) (fun c_51 => ?_) (fun c_51 => ?_)
      ·
        refine gz_iload_n dX3_scaleLaw_58 rfl rfl ?_
        exact gz_iret rfl dX3_scaleLaw_59 (Nat.le_of_ble_eq_true rfl) (Nat.le_of_ble_eq_true rfl) (⟨_, rfl, (by rw [(show scLF n1 n2 g h s v x y = _ from (by unfold scLF; rw [if_pos c_23, if_pos c_40, lett_eq hx1, if_neg c_51]))]), (by rw [(show scLF n1 n2 g h s v x y = _ from (by unfold scLF; rw [if_pos c_23, if_pos c_40, lett_eq hx1, if_neg c_51]))]; exact h1_1), (fr_tr fr_rf (fr_mo hr1 (by simp)))⟩)
      ·
        refine gz_iload_n dX3_scaleLaw_54 rfl rfl ?_
        refine gz_goto (tgt := 59) dX3_scaleLaw_55 (by decide) ?_
        exact gz_iret rfl dX3_scaleLaw_59 (Nat.le_of_ble_eq_true rfl) (Nat.le_of_ble_eq_true rfl) (⟨_, rfl, (by rw [(show scLF n1 n2 g h s v x y = _ from (by unfold scLF; rw [if_pos c_23, if_pos c_40, lett_eq hx1, if_pos c_51]))]), (by rw [(show scLF n1 n2 g h s v x y = _ from (by unfold scLF; rw [if_pos c_23, if_pos c_40, lett_eq hx1, if_pos c_51]))]; exact h1_1), (fr_tr fr_rf (fr_mo hr1 (by simp)))⟩)
  ·
    refine gz_iload_n dX3_scaleLaw_26 rfl rfl ?_
    exact gz_iret rfl dX3_scaleLaw_27 (Nat.le_of_ble_eq_true rfl) (Nat.le_of_ble_eq_true rfl) (⟨_, rfl, (by rw [(show scLF n1 n2 g h s v x y = _ from (by unfold scLF; rw [if_neg c_23]))]), (by rw [(show scLF n1 n2 g h s v x y = _ from (by unfold scLF; rw [if_neg c_23]))]; exact h1), fr_rf⟩)

def healL (n2 m2 : Nat) (h hh : Nat → Int32) (v qv fr_ st_ le_ : Int32)  : Nat → Int32 → Int32
  | 0, _ => 0
  | k + 1, i => (if le_ ≤ (i : Int32) then 1 else (if ((jntF n2 h v (fr_ + i)) : Int32) = (jntF m2 hh qv (st_ + i)) then (if ((valF n2 h v (fr_ + i)) : Int32) = (valF m2 hh qv (st_ + i)) then healL n2 m2 h hh v qv fr_ st_ le_ k (i + 1) else 0) else 0))
set_option maxHeartbeats 4000000 in
set_option maxRecDepth 100000 in
theorem l_X3_headsAlike {l : Launch} {D : va_G} {cy : Nat → ClassId} {b mc ms : Nat} {f : gMem} {Po : Option Value → gMem → Prop} {p c1 c2 n1 n2 q d1 d2 m1 m2 : Nat} {s v qs qv : Int32} {g h gq hh : Nat → Int32} {x y fr_ st_ le_ : Int32}  (hp : f p = some (.inr (2, [.ref c1, .ref c2, .int s, .int v]))) (h1 : f c1 = some (.inl (cy 0, n1, .inl (g)))) (h2 : f c2 = some (.inl (cy 0, n2, .inl (h)))) (hq0 : f q = some (.inr (2, [.ref d1, .ref d2, .int qs, .int qv]))) (hd1 : f d1 = some (.inl (cy 0, m1, .inl (gq)))) (hd2 : f d2 = some (.inl (cy 0, m2, .inl (hh)))) (hs : 0 ≤ s.toInt ∧ 13 * s.toInt ≤ n1 ∧ n1 ≤ 520) (hv : 0 ≤ v.toInt ∧ 2 * v.toInt ≤ n2 ∧ n2 ≤ 80) (hqs : 0 ≤ qs.toInt ∧ 13 * qs.toInt ≤ m1 ∧ m1 ≤ 520) (hqv : 0 ≤ qv.toInt ∧ 2 * qv.toInt ≤ m2 ∧ m2 ≤ 80) : ∀ (k : Nat) (i : Int32), (0 ≤ i.toInt ∧ 0 < k ∧ (i.toInt < le_.toInt → le_.toInt - i.toInt < (k : Int))) → (Po (some (.int (healL n2 m2 h hh v qv fr_ st_ le_ k i))) f) → gG l (gRm 1 mc ms) (gQf D b Po mc ms) gTt D cy b cX3_headsAlike 8 (some .boolean) RX3 "headsAlike" 0 0 f 103 [(7, .int i), (6, .int le_), (5, .int st_), (4, .int fr_), (0, .ref p), (1, .int x), (2, .ref q), (3, .int y)] [] := by
  intro k
  induction k with
  | zero =>
    intro i hk hq
    exfalso; omega
  | succ k ih =>
    intro i hk hq
    refine gz_iload dX3_headsAlike_103 rfl ?_
    refine gz_iload dX3_headsAlike_105 rfl ?_
    refine gz_icmp_ge (tgt := 160) dX3_headsAlike_107 (by decide) (fun c_107 => ?_) (fun c_107 => ?_)
    ·
      refine gz_iconst (v := 1) dX3_headsAlike_160 (by decide) ?_
      exact gz_zret rfl (by first | decide | exact nrb (Or.inl rfl) | (refine nrb ?_; (repeat' split) <;> first | assumption | exact Or.inl rfl | exact Or.inr rfl)) dX3_headsAlike_161 (Nat.zero_le _) (Nat.zero_le _) ((by rw [healL, if_pos c_107] at hq; exact hq))
    ·
      refine gz_aload_n dX3_headsAlike_110 rfl rfl ?_
      refine gz_iload dX3_headsAlike_111 rfl ?_
      refine gz_iload dX3_headsAlike_113 rfl ?_
      refine gz_iadd dX3_headsAlike_115 ?_
      refine scX3_94 (k_X2_joint (i := (fr_ + i)) hp h2 hv) hp ⟨(Nat.le_of_ble_eq_true rfl), (Nat.le_of_ble_eq_true rfl)⟩ ⟨(Nat.zero_le _), (Nat.zero_le _)⟩ rfl rfl (Nat.le_of_ble_eq_true rfl) dX3_headsAlike_116 ?_
      intro v9 f9 z9; rw [z9.1, z9.2]
      refine gz_aload_n dX3_headsAlike_119 rfl rfl ?_
      refine gz_iload dX3_headsAlike_120 rfl ?_
      refine gz_iload dX3_headsAlike_122 rfl ?_
      refine gz_iadd dX3_headsAlike_124 ?_
      refine scX3_94 (k_X2_joint (i := (st_ + i)) hq0 hd2 hqv) hq0 ⟨(Nat.le_of_ble_eq_true rfl), (Nat.le_of_ble_eq_true rfl)⟩ ⟨(Nat.zero_le _), (Nat.zero_le _)⟩ rfl rfl (Nat.le_of_ble_eq_true rfl) dX3_headsAlike_125 ?_
      intro v9 f9 z9; rw [z9.1, z9.2]
      refine gz_icmp_ne (tgt := 152) dX3_headsAlike_128 (by decide) (fun c_128 => ?_) (fun c_128 => ?_)
      ·
        refine gz_iconst (v := 0) dX3_headsAlike_152 (by decide) ?_
        exact gz_zret rfl (by first | decide | exact nrb (Or.inl rfl) | (refine nrb ?_; (repeat' split) <;> first | assumption | exact Or.inl rfl | exact Or.inr rfl)) dX3_headsAlike_153 (Nat.zero_le _) (Nat.zero_le _) ((by rw [healL, if_neg c_107, if_neg c_128] at hq; exact hq))
      ·
        refine gz_aload_n dX3_headsAlike_131 rfl rfl ?_
        refine gz_iload dX3_headsAlike_132 rfl ?_
        refine gz_iload dX3_headsAlike_134 rfl ?_
        refine gz_iadd dX3_headsAlike_136 ?_
        refine scX3_65 (k_X2_value (i := (fr_ + i)) hp h2 hv) hp ⟨(Nat.le_of_ble_eq_true rfl), (Nat.le_of_ble_eq_true rfl)⟩ ⟨(Nat.zero_le _), (Nat.zero_le _)⟩ rfl rfl (Nat.le_of_ble_eq_true rfl) dX3_headsAlike_137 ?_
        intro v9 f9 z9; rw [z9.1, z9.2]
        refine gz_aload_n dX3_headsAlike_140 rfl rfl ?_
        refine gz_iload dX3_headsAlike_141 rfl ?_
        refine gz_iload dX3_headsAlike_143 rfl ?_
        refine gz_iadd dX3_headsAlike_145 ?_
        refine scX3_65 (k_X2_value (i := (st_ + i)) hq0 hd2 hqv) hq0 ⟨(Nat.le_of_ble_eq_true rfl), (Nat.le_of_ble_eq_true rfl)⟩ ⟨(Nat.zero_le _), (Nat.zero_le _)⟩ rfl rfl (Nat.le_of_ble_eq_true rfl) dX3_headsAlike_146 ?_
        intro v9 f9 z9; rw [z9.1, z9.2]
        refine gz_icmp_eq (tgt := 154) dX3_headsAlike_149 (by decide) (fun c_149 => ?_) (fun c_149 => ?_)
        ·
          refine gz_iinc (v := (i + 1)) (lv' := [(7, .int (i + 1)), (6, .int le_), (5, .int st_), (4, .int fr_), (0, .ref p), (1, .int x), (2, .ref q), (3, .int y)]) dX3_headsAlike_154 rfl rfl (by decide) rfl ?_
          refine gz_goto (tgt := 103) dX3_headsAlike_157 (by decide) ?_
          refine gz_sub (lv' := [(7, .int (i + 1)), (6, .int le_), (5, .int st_), (4, .int fr_), (0, .ref p), (1, .int x), (2, .ref q), (3, .int y)]) (by simp [List.lookup]) ?_
          exact ih (i + 1) (by have e13 : (13 : Int32).toInt = 13 := rfl; have e0 : (0 : Int32).toInt = 0 := rfl; have e2 : (2 : Int32).toInt = 2 := rfl; have e1 : (1 : Int32).toInt = 1 := rfl; have e6 : (6 : Int32).toInt = 6 := rfl; have em2 : (-2 : Int32).toInt = -2 := rfl; have e40 : (40 : Int32).toInt = 40 := rfl; simp only [fl_le] at c_107; have hx := T_add (rfl : i.toInt = i.toInt) e1 (by have := Int32.toInt_lt le_; omega); omega) (by rw [healL, if_neg c_107, if_pos c_128, if_pos c_149] at hq; exact hq)
        ·
          refine gz_iconst (v := 0) dX3_headsAlike_152 (by decide) ?_
          exact gz_zret rfl (by first | decide | exact nrb (Or.inl rfl) | (refine nrb ?_; (repeat' split) <;> first | assumption | exact Or.inl rfl | exact Or.inr rfl)) dX3_headsAlike_153 (Nat.zero_le _) (Nat.zero_le _) ((by rw [healL, if_neg c_107, if_pos c_128, if_neg c_149] at hq; exact hq))

def healF (n1 n2 m1 m2 : Nat) (g h gq hh : Nat → Int32) (s v qs qv x y : Int32) : Int32 := (if ((fldF n1 g s x 2) : Int32) = (fldF m1 gq qs y 2) then (if ((fldF n1 g s x 8) : Int32) = (fldF m1 gq qs y 8) then (if (((fldF n1 g s x 6) - (fldF n1 g s x 5)) : Int32) = ((fldF m1 gq qs y 6) - (fldF m1 gq qs y 5)) then (if (((fldF n1 g s x 7) - (fldF n1 g s x 5)) : Int32) = ((fldF m1 gq qs y 7) - (fldF m1 gq qs y 5)) then (healL n2 m2 h hh v qv (fldF n1 g s x 5) (fldF m1 gq qs y 5) ((fldF n1 g s x 7) - (fldF n1 g s x 5)) (((fldF n1 g s x 7) - (fldF n1 g s x 5)).toInt.toNat + 1) 0) else 0) else 0) else 0) else 0)
set_option maxHeartbeats 4000000 in
set_option maxRecDepth 100000 in
theorem k_X3_headsAlike {l : Launch} {D : va_G} {cy : Nat → ClassId} {b : Nat} {f : gMem} {p c1 c2 n1 n2 q d1 d2 m1 m2 : Nat} {s v qs qv : Int32} {g h gq hh : Nat → Int32} {x y : Int32} (hp : f p = some (.inr (2, [.ref c1, .ref c2, .int s, .int v]))) (h1 : f c1 = some (.inl (cy 0, n1, .inl (g)))) (h2 : f c2 = some (.inl (cy 0, n2, .inl (h)))) (hq0 : f q = some (.inr (2, [.ref d1, .ref d2, .int qs, .int qv]))) (hd1 : f d1 = some (.inl (cy 0, m1, .inl (gq)))) (hd2 : f d2 = some (.inl (cy 0, m2, .inl (hh)))) (hs : 0 ≤ s.toInt ∧ 13 * s.toInt ≤ n1 ∧ n1 ≤ 520) (hv : 0 ≤ v.toInt ∧ 2 * v.toInt ≤ n2 ∧ n2 ≤ 80) (hqs : 0 ≤ qs.toInt ∧ 13 * qs.toInt ≤ m1 ∧ m1 ≤ 520) (hqv : 0 ≤ qv.toInt ∧ 2 * qv.toInt ≤ m2 ∧ m2 ≤ 80) : gC l D cy b yX3_headsAlike cX3_headsAlike 8 (some .boolean) 1 0 0 [.ref p, .int x, .ref q, .int y] f (pI fun r f2 => r = healF n1 n2 m1 m2 g h gq hh s v qs qv x y ∧ f2 = f) := by
  refine gC_of (by decide) (Nat.le_of_ble_eq_true rfl) ?_
  show gG l _ _ _ D cy b cX3_headsAlike 8 _ RX3 "headsAlike" 0 0 f 0 [(0, .ref p), (1, .int x), (2, .ref q), (3, .int y)] []
  refine gz_aload_n dX3_headsAlike_0 rfl rfl ?_
  refine gz_iload_n dX3_headsAlike_1 rfl rfl ?_
  refine gz_iconst (v := 5) dX3_headsAlike_2 (by decide) ?_
  refine scX3_52 (k_X2_field (w := x) (k := 5) hp h1 hs) hp ⟨(Nat.le_of_ble_eq_true rfl), (Nat.le_of_ble_eq_true rfl)⟩ ⟨(Nat.le_of_ble_eq_true rfl), (Nat.le_of_ble_eq_true rfl)⟩ rfl rfl (Nat.le_of_ble_eq_true rfl) dX3_headsAlike_3 ?_
  intro v9 f9 z9; rw [z9.1, z9.2]
  refine gz_istore (lv' := [(4, .int (fldF n1 g s x 5)), (0, .ref p), (1, .int x), (2, .ref q), (3, .int y)]) dX3_headsAlike_6 (by decide) rfl ?_
  refine gz_aload_n dX3_headsAlike_8 rfl rfl ?_
  refine gz_iload_n dX3_headsAlike_9 rfl rfl ?_
  refine gz_iconst (v := 5) dX3_headsAlike_10 (by decide) ?_
  refine scX3_52 (k_X2_field (w := y) (k := 5) hq0 hd1 hqs) hq0 ⟨(Nat.le_of_ble_eq_true rfl), (Nat.le_of_ble_eq_true rfl)⟩ ⟨(Nat.le_of_ble_eq_true rfl), (Nat.le_of_ble_eq_true rfl)⟩ rfl rfl (Nat.le_of_ble_eq_true rfl) dX3_headsAlike_11 ?_
  intro v9 f9 z9; rw [z9.1, z9.2]
  refine gz_istore (lv' := [(5, .int (fldF m1 gq qs y 5)), (4, .int (fldF n1 g s x 5)), (0, .ref p), (1, .int x), (2, .ref q), (3, .int y)]) dX3_headsAlike_14 (by decide) rfl ?_
  refine gz_aload_n dX3_headsAlike_16 rfl rfl ?_
  refine gz_iload_n dX3_headsAlike_17 rfl rfl ?_
  refine gz_bipush (v := 7) dX3_headsAlike_18 (by decide) ?_
  refine scX3_52 (k_X2_field (w := x) (k := 7) hp h1 hs) hp ⟨(Nat.le_of_ble_eq_true rfl), (Nat.le_of_ble_eq_true rfl)⟩ ⟨(Nat.le_of_ble_eq_true rfl), (Nat.le_of_ble_eq_true rfl)⟩ rfl rfl (Nat.le_of_ble_eq_true rfl) dX3_headsAlike_20 ?_
  intro v9 f9 z9; rw [z9.1, z9.2]
  refine gz_iload dX3_headsAlike_23 rfl ?_
  refine gz_isub dX3_headsAlike_25 ?_
  refine gz_istore (lv' := [(6, .int ((fldF n1 g s x 7) - (fldF n1 g s x 5))), (5, .int (fldF m1 gq qs y 5)), (4, .int (fldF n1 g s x 5)), (0, .ref p), (1, .int x), (2, .ref q), (3, .int y)]) dX3_headsAlike_26 (by decide) rfl ?_
  refine gz_aload_n dX3_headsAlike_28 rfl rfl ?_
  refine gz_iload_n dX3_headsAlike_29 rfl rfl ?_
  refine gz_iconst (v := 2) dX3_headsAlike_30 (by decide) ?_
  refine scX3_52 (k_X2_field (w := x) (k := 2) hp h1 hs) hp ⟨(Nat.le_of_ble_eq_true rfl), (Nat.le_of_ble_eq_true rfl)⟩ ⟨(Nat.le_of_ble_eq_true rfl), (Nat.le_of_ble_eq_true rfl)⟩ rfl rfl (Nat.le_of_ble_eq_true rfl) dX3_headsAlike_31 ?_
  intro v9 f9 z9; rw [z9.1, z9.2]
  refine gz_aload_n dX3_headsAlike_34 rfl rfl ?_
  refine gz_iload_n dX3_headsAlike_35 rfl rfl ?_
  refine gz_iconst (v := 2) dX3_headsAlike_36 (by decide) ?_
  refine scX3_52 (k_X2_field (w := y) (k := 2) hq0 hd1 hqs) hq0 ⟨(Nat.le_of_ble_eq_true rfl), (Nat.le_of_ble_eq_true rfl)⟩ ⟨(Nat.le_of_ble_eq_true rfl), (Nat.le_of_ble_eq_true rfl)⟩ rfl rfl (Nat.le_of_ble_eq_true rfl) dX3_headsAlike_37 ?_
  intro v9 f9 z9; rw [z9.1, z9.2]
  refine gz_icmp_ne (tgt := 98) dX3_headsAlike_40 (by decide) (fun c_40 => ?_) (fun c_40 => ?_)
  ·
    refine gz_iconst (v := 0) dX3_headsAlike_98 (by decide) ?_
    exact gz_zret rfl (by first | decide | exact nrb (Or.inl rfl) | (refine nrb ?_; (repeat' split) <;> first | assumption | exact Or.inl rfl | exact Or.inr rfl)) dX3_headsAlike_99 (Nat.le_of_ble_eq_true rfl) (Nat.le_of_ble_eq_true rfl) (⟨_, rfl, (show _ = _ from Eq.symm (by unfold healF; rw [if_neg c_40])), rfl⟩)
  ·
    refine gz_aload_n dX3_headsAlike_43 rfl rfl ?_
    refine gz_iload_n dX3_headsAlike_44 rfl rfl ?_
    refine gz_bipush (v := 8) dX3_headsAlike_45 (by decide) ?_
    refine scX3_52 (k_X2_field (w := x) (k := 8) hp h1 hs) hp ⟨(Nat.le_of_ble_eq_true rfl), (Nat.le_of_ble_eq_true rfl)⟩ ⟨(Nat.le_of_ble_eq_true rfl), (Nat.le_of_ble_eq_true rfl)⟩ rfl rfl (Nat.le_of_ble_eq_true rfl) dX3_headsAlike_47 ?_
    intro v9 f9 z9; rw [z9.1, z9.2]
    refine gz_aload_n dX3_headsAlike_50 rfl rfl ?_
    refine gz_iload_n dX3_headsAlike_51 rfl rfl ?_
    refine gz_bipush (v := 8) dX3_headsAlike_52 (by decide) ?_
    refine scX3_52 (k_X2_field (w := y) (k := 8) hq0 hd1 hqs) hq0 ⟨(Nat.le_of_ble_eq_true rfl), (Nat.le_of_ble_eq_true rfl)⟩ ⟨(Nat.le_of_ble_eq_true rfl), (Nat.le_of_ble_eq_true rfl)⟩ rfl rfl (Nat.le_of_ble_eq_true rfl) dX3_headsAlike_54 ?_
    intro v9 f9 z9; rw [z9.1, z9.2]
    refine gz_icmp_ne (tgt := 98) dX3_headsAlike_57 (by decide) (fun c_57 => ?_) (fun c_57 => ?_)
    ·
      refine gz_iconst (v := 0) dX3_headsAlike_98 (by decide) ?_
      exact gz_zret rfl (by first | decide | exact nrb (Or.inl rfl) | (refine nrb ?_; (repeat' split) <;> first | assumption | exact Or.inl rfl | exact Or.inr rfl)) dX3_headsAlike_99 (Nat.le_of_ble_eq_true rfl) (Nat.le_of_ble_eq_true rfl) (⟨_, rfl, (show _ = _ from Eq.symm (by unfold healF; rw [if_pos c_40, if_neg c_57])), rfl⟩)
    ·
      refine gz_aload_n dX3_headsAlike_60 rfl rfl ?_
      refine gz_iload_n dX3_headsAlike_61 rfl rfl ?_
      refine gz_bipush (v := 6) dX3_headsAlike_62 (by decide) ?_
      refine scX3_52 (k_X2_field (w := x) (k := 6) hp h1 hs) hp ⟨(Nat.le_of_ble_eq_true rfl), (Nat.le_of_ble_eq_true rfl)⟩ ⟨(Nat.le_of_ble_eq_true rfl), (Nat.le_of_ble_eq_true rfl)⟩ rfl rfl (Nat.le_of_ble_eq_true rfl) dX3_headsAlike_64 ?_
      intro v9 f9 z9; rw [z9.1, z9.2]
      refine gz_iload dX3_headsAlike_67 rfl ?_
      refine gz_isub dX3_headsAlike_69 ?_
      refine gz_aload_n dX3_headsAlike_70 rfl rfl ?_
      refine gz_iload_n dX3_headsAlike_71 rfl rfl ?_
      refine gz_bipush (v := 6) dX3_headsAlike_72 (by decide) ?_
      refine scX3_52 (k_X2_field (w := y) (k := 6) hq0 hd1 hqs) hq0 ⟨(Nat.le_of_ble_eq_true rfl), (Nat.le_of_ble_eq_true rfl)⟩ ⟨(Nat.le_of_ble_eq_true rfl), (Nat.le_of_ble_eq_true rfl)⟩ rfl rfl (Nat.le_of_ble_eq_true rfl) dX3_headsAlike_74 ?_
      intro v9 f9 z9; rw [z9.1, z9.2]
      refine gz_iload dX3_headsAlike_77 rfl ?_
      refine gz_isub dX3_headsAlike_79 ?_
      refine gz_icmp_ne (tgt := 98) dX3_headsAlike_80 (by decide) (fun c_80 => ?_) (fun c_80 => ?_)
      ·
        refine gz_iconst (v := 0) dX3_headsAlike_98 (by decide) ?_
        exact gz_zret rfl (by first | decide | exact nrb (Or.inl rfl) | (refine nrb ?_; (repeat' split) <;> first | assumption | exact Or.inl rfl | exact Or.inr rfl)) dX3_headsAlike_99 (Nat.le_of_ble_eq_true rfl) (Nat.le_of_ble_eq_true rfl) (⟨_, rfl, (show _ = _ from Eq.symm (by unfold healF; rw [if_pos c_40, if_pos c_57, if_neg c_80])), rfl⟩)
      ·
        refine gz_iload dX3_headsAlike_83 rfl ?_
        refine gz_aload_n dX3_headsAlike_85 rfl rfl ?_
        refine gz_iload_n dX3_headsAlike_86 rfl rfl ?_
        refine gz_bipush (v := 7) dX3_headsAlike_87 (by decide) ?_
        refine scX3_52 (k_X2_field (w := y) (k := 7) hq0 hd1 hqs) hq0 ⟨(Nat.le_of_ble_eq_true rfl), (Nat.le_of_ble_eq_true rfl)⟩ ⟨(Nat.le_of_ble_eq_true rfl), (Nat.le_of_ble_eq_true rfl)⟩ rfl rfl (Nat.le_of_ble_eq_true rfl) dX3_headsAlike_89 ?_
        intro v9 f9 z9; rw [z9.1, z9.2]
        refine gz_iload dX3_headsAlike_92 rfl ?_
        refine gz_isub dX3_headsAlike_94 ?_
        refine gz_icmp_eq (tgt := 100) dX3_headsAlike_95 (by decide) (fun c_95 => ?_) (fun c_95 => ?_)
        ·
          refine gz_iconst (v := 0) dX3_headsAlike_100 (by decide) ?_
          refine gz_istore (lv' := [(7, .int 0), (6, .int ((fldF n1 g s x 7) - (fldF n1 g s x 5))), (5, .int (fldF m1 gq qs y 5)), (4, .int (fldF n1 g s x 5)), (0, .ref p), (1, .int x), (2, .ref q), (3, .int y)]) dX3_headsAlike_101 (by decide) rfl ?_
          refine gz_sub (lv' := [(7, .int 0), (6, .int ((fldF n1 g s x 7) - (fldF n1 g s x 5))), (5, .int (fldF m1 gq qs y 5)), (4, .int (fldF n1 g s x 5)), (0, .ref p), (1, .int x), (2, .ref q), (3, .int y)]) (by simp [List.lookup]) ?_
          exact l_X3_headsAlike hp h1 h2 hq0 hd1 hd2 hs hv hqs hqv (((fldF n1 g s x 7) - (fldF n1 g s x 5)).toInt.toNat + 1) 0 ⟨by decide, by omega, fun _ => by have e0 : (0 : Int32).toInt = 0 := rfl; omega⟩ ⟨_, rfl, (show _ = _ from Eq.symm (by unfold healF; rw [if_pos c_40, if_pos c_57, if_pos c_80, if_pos c_95])), rfl⟩
        ·
          refine gz_iconst (v := 0) dX3_headsAlike_98 (by decide) ?_
          exact gz_zret rfl (by first | decide | exact nrb (Or.inl rfl) | (refine nrb ?_; (repeat' split) <;> first | assumption | exact Or.inl rfl | exact Or.inr rfl)) dX3_headsAlike_99 (Nat.le_of_ble_eq_true rfl) (Nat.le_of_ble_eq_true rfl) (⟨_, rfl, (show _ = _ from Eq.symm (by unfold healF; rw [if_pos c_40, if_pos c_57, if_pos c_80, if_neg c_95])), rfl⟩)

def cpsL (n1 n2 m1 m2 : Nat) (g h : Nat → Int32) (s v qs x y le_ cl_ st_ : Int32)  : Nat → (Int32) → (Nat → Int32) → (Int32) → (Nat → Int32) → (Nat → Int32) × (Int32) × (Nat → Int32)
  | 0, _, hh, qv, gq => (hh, qv, gq)
  | k + 1, i, hh, qv, gq => (if cl_ ≤ (i : Int32) then ((hh), qv, (stF m1 (stF m1 (stF m1 (stF m1 gq qs y 5 st_) qs y 6 ((st_ + (fldF n1 g s x 6)) - le_)) qs y 7 ((st_ + cl_) - le_)) qs y 8 (fldF n1 g s x 8))) else (if v ≤ (i : Int32) then ((hh), qv, (stF m1 (stF m1 (stF m1 (stF m1 gq qs y 5 st_) qs y 6 ((st_ + (fldF n1 g s x 6)) - le_)) qs y 7 ((st_ + cl_) - le_)) qs y 8 (fldF n1 g s x 8))) else (lett (addF m2 hh qv (jntF n2 h v i) (valF n2 h v i)) fun x1 => (cpsL n1 n2 m1 m2 g h s v qs x y le_ cl_ st_ k (i + 1) (x1.2.1) x1.2.2 (gq)))))
set_option maxHeartbeats 4000000 in
set_option maxRecDepth 100000 in
theorem l_X3_copySums {l : Launch} {D : va_G} {cy : Nat → ClassId} {b mc ms : Nat} {f : gMem} {Po : Option Value → gMem → Prop} {p c1 c2 n1 n2 q d1 d2 m1 m2 : Nat} {s v qs : Int32} {g h : Nat → Int32} {x y le_ cl_ st_ : Int32}  (hs : 0 ≤ s.toInt ∧ 13 * s.toInt ≤ n1 ∧ n1 ≤ 520) (hv : 0 ≤ v.toInt ∧ 2 * v.toInt ≤ n2 ∧ n2 ≤ 80) (hqs : 0 ≤ qs.toInt ∧ 13 * qs.toInt ≤ m1 ∧ m1 ≤ 520) (hne : p ≠ q ∧ c1 ≠ d1 ∧ c1 ≠ d2 ∧ c2 ≠ d1 ∧ c2 ≠ d2 ∧ d1 ≠ d2) : ∀ (k : Nat) (i : Int32) (hh : Nat → Int32) (qv : Int32) (gq : Nat → Int32) (fm : gMem), fr [q, d1, d2] f fm → (fm p = some (.inr (2, [.ref c1, .ref c2, .int s, .int v]))) → (fm c1 = some (.inl (cy 0, n1, .inl (g)))) → (fm c2 = some (.inl (cy 0, n2, .inl (h)))) → (fm q = some (.inr (2, [.ref d1, .ref d2, .int qs, .int qv]))) → (fm d1 = some (.inl (cy 0, m1, .inl (gq)))) → (fm d2 = some (.inl (cy 0, m2, .inl (hh)))) → (0 ≤ qv.toInt ∧ 2 * qv.toInt ≤ m2 ∧ m2 ≤ 80) → (0 ≤ i.toInt ∧ 0 < k ∧ (i.toInt < v.toInt → v.toInt - i.toInt < (k : Int))) → (∀ (f2 : gMem), f2 d2 = some (.inl (cy 0, m2, .inl ((cpsL n1 n2 m1 m2 g h s v qs x y le_ cl_ st_ k i hh qv gq).1))) → f2 q = some (.inr (2, [.ref d1, .ref d2, .int qs, .int (cpsL n1 n2 m1 m2 g h s v qs x y le_ cl_ st_ k i hh qv gq).2.1])) → f2 d1 = some (.inl (cy 0, m1, .inl ((cpsL n1 n2 m1 m2 g h s v qs x y le_ cl_ st_ k i hh qv gq).2.2))) → fr [q, d1, d2] f f2 → Po none f2) → gG l (gRm 1 mc ms) (gQf D b Po mc ms) gTt D cy b cX3_copySums 8 none RX3 "copySums" 0 0 fm 31 [(7, .int i), (6, .int st_), (5, .int cl_), (4, .int le_), (0, .ref p), (1, .int x), (2, .ref q), (3, .int y)] [] := by
  intro k
  induction k with
  | zero =>
    intro i hh qv gq fm hfr hp h1 h2 hq0 hd1 hd2 hqv hk hq
    exfalso; omega
  | succ k ih =>
    intro i hh qv gq fm hfr hp h1 h2 hq0 hd1 hd2 hqv hk hq
    refine gz_iload dX3_copySums_31 rfl ?_
    refine gz_iload dX3_copySums_33 rfl ?_
    refine gz_icmp_ge (tgt := 70) dX3_copySums_35 (by decide) (fun c_35 => ?_) (fun c_35 => ?_)
    ·
      refine gz_aload_n dX3_copySums_70 rfl rfl ?_
      refine gz_iload_n dX3_copySums_71 rfl rfl ?_
      refine gz_iconst (v := 5) dX3_copySums_72 (by decide) ?_
      refine gz_iload dX3_copySums_73 rfl ?_
      refine scX3_55 (k_X2_setField (w := y) (k := 5) (x := st_) hq0 hd1 hqs) hq0 ⟨(Nat.le_of_ble_eq_true rfl), (Nat.le_of_ble_eq_true rfl)⟩ ⟨(Nat.zero_le _), (Nat.zero_le _)⟩ rfl rfl (Nat.le_of_ble_eq_true rfl) dX3_copySums_75 ?_
      rintro f1 ⟨hd1_1, hr1⟩
      have hp_1 : f1 p = some (.inr (2, [.ref c1, .ref c2, .int s, .int v])) := hr1 _ _ hp (by simp only [List.mem_cons, List.not_mem_nil, or_false, not_or]; exact cne hp hd1 (by simp))
      have h1_1 : f1 c1 = some (.inl (cy 0, n1, .inl (g))) := hr1 _ _ h1 (by simp only [List.mem_cons, List.not_mem_nil, or_false, not_or]; exact hne.2.1)
      have h2_1 : f1 c2 = some (.inl (cy 0, n2, .inl (h))) := hr1 _ _ h2 (by simp only [List.mem_cons, List.not_mem_nil, or_false, not_or]; exact hne.2.2.2.1)
      have hq0_1 : f1 q = some (.inr (2, [.ref d1, .ref d2, .int qs, .int qv])) := hr1 _ _ hq0 (by simp only [List.mem_cons, List.not_mem_nil, or_false, not_or]; exact cne hq0 hd1 (by simp))
      have hd2_1 : f1 d2 = some (.inl (cy 0, m2, .inl (hh))) := hr1 _ _ hd2 (by simp only [List.mem_cons, List.not_mem_nil, or_false, not_or]; exact Ne.symm (hne.2.2.2.2.2))
      refine gz_aload_n dX3_copySums_78 rfl rfl ?_
      refine gz_iload_n dX3_copySums_79 rfl rfl ?_
      refine gz_bipush (v := 6) dX3_copySums_80 (by decide) ?_
      refine gz_iload dX3_copySums_82 rfl ?_
      refine gz_aload_n dX3_copySums_84 rfl rfl ?_
      refine gz_iload_n dX3_copySums_85 rfl rfl ?_
      refine gz_bipush (v := 6) dX3_copySums_86 (by decide) ?_
      refine scX3_52 (k_X2_field (w := x) (k := 6) hp_1 h1_1 hs) hp_1 ⟨(Nat.le_of_ble_eq_true rfl), (Nat.le_of_ble_eq_true rfl)⟩ ⟨(Nat.zero_le _), (Nat.zero_le _)⟩ rfl rfl (Nat.le_of_ble_eq_true rfl) dX3_copySums_88 ?_
      intro v9 f9 z9; rw [z9.1, z9.2]
      refine gz_iadd dX3_copySums_91 ?_
      refine gz_iload dX3_copySums_92 rfl ?_
      refine gz_isub dX3_copySums_94 ?_
      refine scX3_55 (k_X2_setField (w := y) (k := 6) (x := ((st_ + (fldF n1 g s x 6)) - le_)) hq0_1 hd1_1 hqs) hq0_1 ⟨(Nat.le_of_ble_eq_true rfl), (Nat.le_of_ble_eq_true rfl)⟩ ⟨(Nat.zero_le _), (Nat.zero_le _)⟩ rfl rfl (Nat.le_of_ble_eq_true rfl) dX3_copySums_95 ?_
      rintro f2 ⟨hd1_2, hr2⟩
      have hp_2 : f2 p = some (.inr (2, [.ref c1, .ref c2, .int s, .int v])) := hr2 _ _ hp_1 (by simp only [List.mem_cons, List.not_mem_nil, or_false, not_or]; exact cne hp_1 hd1_1 (by simp))
      have h1_2 : f2 c1 = some (.inl (cy 0, n1, .inl (g))) := hr2 _ _ h1_1 (by simp only [List.mem_cons, List.not_mem_nil, or_false, not_or]; exact hne.2.1)
      have h2_2 : f2 c2 = some (.inl (cy 0, n2, .inl (h))) := hr2 _ _ h2_1 (by simp only [List.mem_cons, List.not_mem_nil, or_false, not_or]; exact hne.2.2.2.1)
      have hq0_2 : f2 q = some (.inr (2, [.ref d1, .ref d2, .int qs, .int qv])) := hr2 _ _ hq0_1 (by simp only [List.mem_cons, List.not_mem_nil, or_false, not_or]; exact cne hq0_1 hd1_1 (by simp))
      have hd2_2 : f2 d2 = some (.inl (cy 0, m2, .inl (hh))) := hr2 _ _ hd2_1 (by simp only [List.mem_cons, List.not_mem_nil, or_false, not_or]; exact Ne.symm (hne.2.2.2.2.2))
      refine gz_aload_n dX3_copySums_98 rfl rfl ?_
      refine gz_iload_n dX3_copySums_99 rfl rfl ?_
      refine gz_bipush (v := 7) dX3_copySums_100 (by decide) ?_
      refine gz_iload dX3_copySums_102 rfl ?_
      refine gz_iload dX3_copySums_104 rfl ?_
      refine gz_iadd dX3_copySums_106 ?_
      refine gz_iload dX3_copySums_107 rfl ?_
      refine gz_isub dX3_copySums_109 ?_
      refine scX3_55 (k_X2_setField (w := y) (k := 7) (x := ((st_ + cl_) - le_)) hq0_2 hd1_2 hqs) hq0_2 ⟨(Nat.le_of_ble_eq_true rfl), (Nat.le_of_ble_eq_true rfl)⟩ ⟨(Nat.zero_le _), (Nat.zero_le _)⟩ rfl rfl (Nat.le_of_ble_eq_true rfl) dX3_copySums_110 ?_
      rintro f3 ⟨hd1_3, hr3⟩
      have hp_3 : f3 p = some (.inr (2, [.ref c1, .ref c2, .int s, .int v])) := hr3 _ _ hp_2 (by simp only [List.mem_cons, List.not_mem_nil, or_false, not_or]; exact cne hp_2 hd1_2 (by simp))
      have h1_3 : f3 c1 = some (.inl (cy 0, n1, .inl (g))) := hr3 _ _ h1_2 (by simp only [List.mem_cons, List.not_mem_nil, or_false, not_or]; exact hne.2.1)
      have h2_3 : f3 c2 = some (.inl (cy 0, n2, .inl (h))) := hr3 _ _ h2_2 (by simp only [List.mem_cons, List.not_mem_nil, or_false, not_or]; exact hne.2.2.2.1)
      have hq0_3 : f3 q = some (.inr (2, [.ref d1, .ref d2, .int qs, .int qv])) := hr3 _ _ hq0_2 (by simp only [List.mem_cons, List.not_mem_nil, or_false, not_or]; exact cne hq0_2 hd1_2 (by simp))
      have hd2_3 : f3 d2 = some (.inl (cy 0, m2, .inl (hh))) := hr3 _ _ hd2_2 (by simp only [List.mem_cons, List.not_mem_nil, or_false, not_or]; exact Ne.symm (hne.2.2.2.2.2))
      refine gz_aload_n dX3_copySums_113 rfl rfl ?_
      refine gz_iload_n dX3_copySums_114 rfl rfl ?_
      refine gz_bipush (v := 8) dX3_copySums_115 (by decide) ?_
      refine gz_aload_n dX3_copySums_117 rfl rfl ?_
      refine gz_iload_n dX3_copySums_118 rfl rfl ?_
      refine gz_bipush (v := 8) dX3_copySums_119 (by decide) ?_
      refine scX3_52 (k_X2_field (w := x) (k := 8) hp_3 h1_3 hs) hp_3 ⟨(Nat.le_of_ble_eq_true rfl), (Nat.le_of_ble_eq_true rfl)⟩ ⟨(Nat.zero_le _), (Nat.zero_le _)⟩ rfl rfl (Nat.le_of_ble_eq_true rfl) dX3_copySums_121 ?_
      intro v9 f9 z9; rw [z9.1, z9.2]
      refine scX3_55 (k_X2_setField (w := y) (k := 8) (x := (fldF n1 g s x 8)) hq0_3 hd1_3 hqs) hq0_3 ⟨(Nat.le_of_ble_eq_true rfl), (Nat.le_of_ble_eq_true rfl)⟩ ⟨(Nat.zero_le _), (Nat.zero_le _)⟩ rfl rfl (Nat.le_of_ble_eq_true rfl) dX3_copySums_124 ?_
      rintro f4 ⟨hd1_4, hr4⟩
      have hp_4 : f4 p = some (.inr (2, [.ref c1, .ref c2, .int s, .int v])) := hr4 _ _ hp_3 (by simp only [List.mem_cons, List.not_mem_nil, or_false, not_or]; exact cne hp_3 hd1_3 (by simp))
      have h1_4 : f4 c1 = some (.inl (cy 0, n1, .inl (g))) := hr4 _ _ h1_3 (by simp only [List.mem_cons, List.not_mem_nil, or_false, not_or]; exact hne.2.1)
      have h2_4 : f4 c2 = some (.inl (cy 0, n2, .inl (h))) := hr4 _ _ h2_3 (by simp only [List.mem_cons, List.not_mem_nil, or_false, not_or]; exact hne.2.2.2.1)
      have hq0_4 : f4 q = some (.inr (2, [.ref d1, .ref d2, .int qs, .int qv])) := hr4 _ _ hq0_3 (by simp only [List.mem_cons, List.not_mem_nil, or_false, not_or]; exact cne hq0_3 hd1_3 (by simp))
      have hd2_4 : f4 d2 = some (.inl (cy 0, m2, .inl (hh))) := hr4 _ _ hd2_3 (by simp only [List.mem_cons, List.not_mem_nil, or_false, not_or]; exact Ne.symm (hne.2.2.2.2.2))
      exact gz_vret rfl dX3_copySums_127 (Nat.zero_le _) (Nat.zero_le _) ((by rw [cpsL, if_pos c_35] at hq; exact hq _ hd2_4 hq0_4 hd1_4 (fr_tr (fr_tr (fr_tr (fr_tr hfr (fr_mo hr1 (by simp))) (fr_mo hr2 (by simp))) (fr_mo hr3 (by simp))) (fr_mo hr4 (by simp)))))
    ·
      refine gz_iload dX3_copySums_38 rfl ?_
      refine gz_aload_n dX3_copySums_40 rfl rfl ?_
      refine scX3_88 (k_X2_valueCount hp) hp ⟨(Nat.le_of_ble_eq_true rfl), (Nat.le_of_ble_eq_true rfl)⟩ ⟨(Nat.zero_le _), (Nat.zero_le _)⟩ rfl rfl (Nat.le_of_ble_eq_true rfl) dX3_copySums_41 ?_
      intro v9 f9 z9; rw [z9.1, z9.2]
      refine gz_icmp_ge (tgt := 70) dX3_copySums_44 (by decide) (fun c_44 => ?_) (fun c_44 => ?_)
      ·
        refine gz_aload_n dX3_copySums_70 rfl rfl ?_
        refine gz_iload_n dX3_copySums_71 rfl rfl ?_
        refine gz_iconst (v := 5) dX3_copySums_72 (by decide) ?_
        refine gz_iload dX3_copySums_73 rfl ?_
        refine scX3_55 (k_X2_setField (w := y) (k := 5) (x := st_) hq0 hd1 hqs) hq0 ⟨(Nat.le_of_ble_eq_true rfl), (Nat.le_of_ble_eq_true rfl)⟩ ⟨(Nat.zero_le _), (Nat.zero_le _)⟩ rfl rfl (Nat.le_of_ble_eq_true rfl) dX3_copySums_75 ?_
        rintro f5 ⟨hd1_5, hr5⟩
        have hp_5 : f5 p = some (.inr (2, [.ref c1, .ref c2, .int s, .int v])) := hr5 _ _ hp (by simp only [List.mem_cons, List.not_mem_nil, or_false, not_or]; exact cne hp hd1 (by simp))
        have h1_5 : f5 c1 = some (.inl (cy 0, n1, .inl (g))) := hr5 _ _ h1 (by simp only [List.mem_cons, List.not_mem_nil, or_false, not_or]; exact hne.2.1)
        have h2_5 : f5 c2 = some (.inl (cy 0, n2, .inl (h))) := hr5 _ _ h2 (by simp only [List.mem_cons, List.not_mem_nil, or_false, not_or]; exact hne.2.2.2.1)
        have hq0_5 : f5 q = some (.inr (2, [.ref d1, .ref d2, .int qs, .int qv])) := hr5 _ _ hq0 (by simp only [List.mem_cons, List.not_mem_nil, or_false, not_or]; exact cne hq0 hd1 (by simp))
        have hd2_5 : f5 d2 = some (.inl (cy 0, m2, .inl (hh))) := hr5 _ _ hd2 (by simp only [List.mem_cons, List.not_mem_nil, or_false, not_or]; exact Ne.symm (hne.2.2.2.2.2))
        refine gz_aload_n dX3_copySums_78 rfl rfl ?_
        refine gz_iload_n dX3_copySums_79 rfl rfl ?_
        refine gz_bipush (v := 6) dX3_copySums_80 (by decide) ?_
        refine gz_iload dX3_copySums_82 rfl ?_
        refine gz_aload_n dX3_copySums_84 rfl rfl ?_
        refine gz_iload_n dX3_copySums_85 rfl rfl ?_
        refine gz_bipush (v := 6) dX3_copySums_86 (by decide) ?_
        refine scX3_52 (k_X2_field (w := x) (k := 6) hp_5 h1_5 hs) hp_5 ⟨(Nat.le_of_ble_eq_true rfl), (Nat.le_of_ble_eq_true rfl)⟩ ⟨(Nat.zero_le _), (Nat.zero_le _)⟩ rfl rfl (Nat.le_of_ble_eq_true rfl) dX3_copySums_88 ?_
        intro v9 f9 z9; rw [z9.1, z9.2]
        refine gz_iadd dX3_copySums_91 ?_
        refine gz_iload dX3_copySums_92 rfl ?_
        refine gz_isub dX3_copySums_94 ?_
        refine scX3_55 (k_X2_setField (w := y) (k := 6) (x := ((st_ + (fldF n1 g s x 6)) - le_)) hq0_5 hd1_5 hqs) hq0_5 ⟨(Nat.le_of_ble_eq_true rfl), (Nat.le_of_ble_eq_true rfl)⟩ ⟨(Nat.zero_le _), (Nat.zero_le _)⟩ rfl rfl (Nat.le_of_ble_eq_true rfl) dX3_copySums_95 ?_
        rintro f6 ⟨hd1_6, hr6⟩
        have hp_6 : f6 p = some (.inr (2, [.ref c1, .ref c2, .int s, .int v])) := hr6 _ _ hp_5 (by simp only [List.mem_cons, List.not_mem_nil, or_false, not_or]; exact cne hp_5 hd1_5 (by simp))
        have h1_6 : f6 c1 = some (.inl (cy 0, n1, .inl (g))) := hr6 _ _ h1_5 (by simp only [List.mem_cons, List.not_mem_nil, or_false, not_or]; exact hne.2.1)
        have h2_6 : f6 c2 = some (.inl (cy 0, n2, .inl (h))) := hr6 _ _ h2_5 (by simp only [List.mem_cons, List.not_mem_nil, or_false, not_or]; exact hne.2.2.2.1)
        have hq0_6 : f6 q = some (.inr (2, [.ref d1, .ref d2, .int qs, .int qv])) := hr6 _ _ hq0_5 (by simp only [List.mem_cons, List.not_mem_nil, or_false, not_or]; exact cne hq0_5 hd1_5 (by simp))
        have hd2_6 : f6 d2 = some (.inl (cy 0, m2, .inl (hh))) := hr6 _ _ hd2_5 (by simp only [List.mem_cons, List.not_mem_nil, or_false, not_or]; exact Ne.symm (hne.2.2.2.2.2))
        refine gz_aload_n dX3_copySums_98 rfl rfl ?_
        refine gz_iload_n dX3_copySums_99 rfl rfl ?_
        refine gz_bipush (v := 7) dX3_copySums_100 (by decide) ?_
        refine gz_iload dX3_copySums_102 rfl ?_
        refine gz_iload dX3_copySums_104 rfl ?_
        refine gz_iadd dX3_copySums_106 ?_
        refine gz_iload dX3_copySums_107 rfl ?_
        refine gz_isub dX3_copySums_109 ?_
        refine scX3_55 (k_X2_setField (w := y) (k := 7) (x := ((st_ + cl_) - le_)) hq0_6 hd1_6 hqs) hq0_6 ⟨(Nat.le_of_ble_eq_true rfl), (Nat.le_of_ble_eq_true rfl)⟩ ⟨(Nat.zero_le _), (Nat.zero_le _)⟩ rfl rfl (Nat.le_of_ble_eq_true rfl) dX3_copySums_110 ?_
        rintro f7 ⟨hd1_7, hr7⟩
        have hp_7 : f7 p = some (.inr (2, [.ref c1, .ref c2, .int s, .int v])) := hr7 _ _ hp_6 (by simp only [List.mem_cons, List.not_mem_nil, or_false, not_or]; exact cne hp_6 hd1_6 (by simp))
        have h1_7 : f7 c1 = some (.inl (cy 0, n1, .inl (g))) := hr7 _ _ h1_6 (by simp only [List.mem_cons, List.not_mem_nil, or_false, not_or]; exact hne.2.1)
        have h2_7 : f7 c2 = some (.inl (cy 0, n2, .inl (h))) := hr7 _ _ h2_6 (by simp only [List.mem_cons, List.not_mem_nil, or_false, not_or]; exact hne.2.2.2.1)
        have hq0_7 : f7 q = some (.inr (2, [.ref d1, .ref d2, .int qs, .int qv])) := hr7 _ _ hq0_6 (by simp only [List.mem_cons, List.not_mem_nil, or_false, not_or]; exact cne hq0_6 hd1_6 (by simp))
        have hd2_7 : f7 d2 = some (.inl (cy 0, m2, .inl (hh))) := hr7 _ _ hd2_6 (by simp only [List.mem_cons, List.not_mem_nil, or_false, not_or]; exact Ne.symm (hne.2.2.2.2.2))
        refine gz_aload_n dX3_copySums_113 rfl rfl ?_
        refine gz_iload_n dX3_copySums_114 rfl rfl ?_
        refine gz_bipush (v := 8) dX3_copySums_115 (by decide) ?_
        refine gz_aload_n dX3_copySums_117 rfl rfl ?_
        refine gz_iload_n dX3_copySums_118 rfl rfl ?_
        refine gz_bipush (v := 8) dX3_copySums_119 (by decide) ?_
        refine scX3_52 (k_X2_field (w := x) (k := 8) hp_7 h1_7 hs) hp_7 ⟨(Nat.le_of_ble_eq_true rfl), (Nat.le_of_ble_eq_true rfl)⟩ ⟨(Nat.zero_le _), (Nat.zero_le _)⟩ rfl rfl (Nat.le_of_ble_eq_true rfl) dX3_copySums_121 ?_
        intro v9 f9 z9; rw [z9.1, z9.2]
        refine scX3_55 (k_X2_setField (w := y) (k := 8) (x := (fldF n1 g s x 8)) hq0_7 hd1_7 hqs) hq0_7 ⟨(Nat.le_of_ble_eq_true rfl), (Nat.le_of_ble_eq_true rfl)⟩ ⟨(Nat.zero_le _), (Nat.zero_le _)⟩ rfl rfl (Nat.le_of_ble_eq_true rfl) dX3_copySums_124 ?_
        rintro f8 ⟨hd1_8, hr8⟩
        have hp_8 : f8 p = some (.inr (2, [.ref c1, .ref c2, .int s, .int v])) := hr8 _ _ hp_7 (by simp only [List.mem_cons, List.not_mem_nil, or_false, not_or]; exact cne hp_7 hd1_7 (by simp))
        have h1_8 : f8 c1 = some (.inl (cy 0, n1, .inl (g))) := hr8 _ _ h1_7 (by simp only [List.mem_cons, List.not_mem_nil, or_false, not_or]; exact hne.2.1)
        have h2_8 : f8 c2 = some (.inl (cy 0, n2, .inl (h))) := hr8 _ _ h2_7 (by simp only [List.mem_cons, List.not_mem_nil, or_false, not_or]; exact hne.2.2.2.1)
        have hq0_8 : f8 q = some (.inr (2, [.ref d1, .ref d2, .int qs, .int qv])) := hr8 _ _ hq0_7 (by simp only [List.mem_cons, List.not_mem_nil, or_false, not_or]; exact cne hq0_7 hd1_7 (by simp))
        have hd2_8 : f8 d2 = some (.inl (cy 0, m2, .inl (hh))) := hr8 _ _ hd2_7 (by simp only [List.mem_cons, List.not_mem_nil, or_false, not_or]; exact Ne.symm (hne.2.2.2.2.2))
        exact gz_vret rfl dX3_copySums_127 (Nat.zero_le _) (Nat.zero_le _) ((by rw [cpsL, if_neg c_35, if_pos c_44] at hq; exact hq _ hd2_8 hq0_8 hd1_8 (fr_tr (fr_tr (fr_tr (fr_tr hfr (fr_mo hr5 (by simp))) (fr_mo hr6 (by simp))) (fr_mo hr7 (by simp))) (fr_mo hr8 (by simp)))))
      ·
        refine gz_aload_n dX3_copySums_47 rfl rfl ?_
        refine gz_aload_n dX3_copySums_48 rfl rfl ?_
        refine gz_iload dX3_copySums_49 rfl ?_
        refine scX3_94 (k_X2_joint (i := i) hp h2 hv) hp ⟨(Nat.le_of_ble_eq_true rfl), (Nat.le_of_ble_eq_true rfl)⟩ ⟨(Nat.zero_le _), (Nat.zero_le _)⟩ rfl rfl (Nat.le_of_ble_eq_true rfl) dX3_copySums_51 ?_
        intro v9 f9 z9; rw [z9.1, z9.2]
        refine gz_aload_n dX3_copySums_54 rfl rfl ?_
        refine gz_iload dX3_copySums_55 rfl ?_
        refine scX3_65 (k_X2_value (i := i) hp h2 hv) hp ⟨(Nat.le_of_ble_eq_true rfl), (Nat.le_of_ble_eq_true rfl)⟩ ⟨(Nat.zero_le _), (Nat.zero_le _)⟩ rfl rfl (Nat.le_of_ble_eq_true rfl) dX3_copySums_57 ?_
        intro v9 f9 z9; rw [z9.1, z9.2]
        obtain ⟨x1, hx1⟩ : ∃ x0, (addF m2 hh qv (jntF n2 h v i) (valF n2 h v i)) = x0 := ⟨_, rfl⟩
        refine scX3_97 (k_X2_addValue (j := (jntF n2 h v i)) (x := (valF n2 h v i)) hq0 hd2 hqv) hq0 ⟨(Nat.le_of_ble_eq_true rfl), (Nat.le_of_ble_eq_true rfl)⟩ ⟨(Nat.zero_le _), (Nat.zero_le _)⟩ rfl rfl (Nat.le_of_ble_eq_true rfl) dX3_copySums_60 ?_
        rintro r9 f9 ⟨z9, hd2_9, hq0_9, hr9⟩; rw [hx1] at z9 hd2_9 hq0_9; rw [z9]
        have hp_9 : f9 p = some (.inr (2, [.ref c1, .ref c2, .int s, .int v])) := hr9 _ _ hp (by simp only [List.mem_cons, List.not_mem_nil, or_false, not_or]; exact ⟨hne.1, cne hp hd2 (by simp)⟩)
        have h1_9 : f9 c1 = some (.inl (cy 0, n1, .inl (g))) := hr9 _ _ h1 (by simp only [List.mem_cons, List.not_mem_nil, or_false, not_or]; exact ⟨cne h1 hq0 (by simp), hne.2.2.1⟩)
        have h2_9 : f9 c2 = some (.inl (cy 0, n2, .inl (h))) := hr9 _ _ h2 (by simp only [List.mem_cons, List.not_mem_nil, or_false, not_or]; exact ⟨cne h2 hq0 (by simp), hne.2.2.2.2.1⟩)
        have hd1_9 : f9 d1 = some (.inl (cy 0, m1, .inl (gq))) := hr9 _ _ hd1 (by simp only [List.mem_cons, List.not_mem_nil, or_false, not_or]; exact ⟨cne hd1 hq0 (by simp), hne.2.2.2.2.2⟩)
        have hvx1 : 0 ≤ (x1.2.2).toInt ∧ 2 * (x1.2.2).toInt ≤ m2 ∧ m2 ≤ 80 := by rw [← hx1]; exact addF_ok hqv
        refine gz_pop dX3_copySums_63 rfl ?_
        refine gz_iinc (v := (i + 1)) (lv' := [(7, .int (i + 1)), (6, .int st_), (5, .int cl_), (4, .int le_), (0, .ref p), (1, .int x), (2, .ref q), (3, .int y)]) dX3_copySums_64 rfl rfl (by decide) rfl ?_
        refine gz_goto (tgt := 31) dX3_copySums_67 (by decide) ?_
        refine gz_sub (lv' := [(7, .int (i + 1)), (6, .int st_), (5, .int cl_), (4, .int le_), (0, .ref p), (1, .int x), (2, .ref q), (3, .int y)]) (by simp [List.lookup]) ?_
        exact ih (i + 1) (x1.2.1) x1.2.2 (gq) _ (fr_tr hfr (fr_mo hr9 (by simp))) hp_9 h1_9 h2_9 hq0_9 hd1_9 hd2_9 (hvx1) (by have e13 : (13 : Int32).toInt = 13 := rfl; have e0 : (0 : Int32).toInt = 0 := rfl; have e2 : (2 : Int32).toInt = 2 := rfl; have e1 : (1 : Int32).toInt = 1 := rfl; have e6 : (6 : Int32).toInt = 6 := rfl; have em2 : (-2 : Int32).toInt = -2 := rfl; have e40 : (40 : Int32).toInt = 40 := rfl; simp only [fl_le] at c_44; have hx := T_add (rfl : i.toInt = i.toInt) e1 (by omega); omega) (by rw [cpsL, if_neg c_35, if_neg c_44, lett_eq hx1] at hq; exact hq)

def cpsF (n1 n2 m1 m2 : Nat) (g h gq hh : Nat → Int32) (s v qs qv x y : Int32)  : (Nat → Int32) × (Int32) × (Nat → Int32) := (cpsL n1 n2 m1 m2 g h s v qs x y (fldF n1 g s x 5) (fldF n1 g s x 7) qv 41 (if (fldF n1 g s x 5) < 0 then 0 else (fldF n1 g s x 5)) (hh) qv (gq))
set_option maxHeartbeats 4000000 in
set_option maxRecDepth 100000 in
theorem k_X3_copySums {l : Launch} {D : va_G} {cy : Nat → ClassId} {b : Nat} {f : gMem} {p c1 c2 n1 n2 q d1 d2 m1 m2 : Nat} {s v qs qv : Int32} {g h gq hh : Nat → Int32} {x y : Int32} (hp : f p = some (.inr (2, [.ref c1, .ref c2, .int s, .int v]))) (h1 : f c1 = some (.inl (cy 0, n1, .inl (g)))) (h2 : f c2 = some (.inl (cy 0, n2, .inl (h)))) (hq0 : f q = some (.inr (2, [.ref d1, .ref d2, .int qs, .int qv]))) (hd1 : f d1 = some (.inl (cy 0, m1, .inl (gq)))) (hd2 : f d2 = some (.inl (cy 0, m2, .inl (hh)))) (hs : 0 ≤ s.toInt ∧ 13 * s.toInt ≤ n1 ∧ n1 ≤ 520) (hv : 0 ≤ v.toInt ∧ 2 * v.toInt ≤ n2 ∧ n2 ≤ 80) (hqs : 0 ≤ qs.toInt ∧ 13 * qs.toInt ≤ m1 ∧ m1 ≤ 520) (hqv : 0 ≤ qv.toInt ∧ 2 * qv.toInt ≤ m2 ∧ m2 ≤ 80) (hne : p ≠ q ∧ c1 ≠ d1 ∧ c1 ≠ d2 ∧ c2 ≠ d1 ∧ c2 ≠ d2 ∧ d1 ≠ d2) : gC l D cy b yX3_copySums cX3_copySums 8 none 1 0 0 [.ref p, .int x, .ref q, .int y] f (pV fun f2 => f2 d2 = some (.inl (cy 0, m2, .inl ((cpsF n1 n2 m1 m2 g h gq hh s v qs qv x y).1))) ∧ f2 q = some (.inr (2, [.ref d1, .ref d2, .int qs, .int (cpsF n1 n2 m1 m2 g h gq hh s v qs qv x y).2.1])) ∧ f2 d1 = some (.inl (cy 0, m1, .inl ((cpsF n1 n2 m1 m2 g h gq hh s v qs qv x y).2.2))) ∧ fr [q, d1, d2] f f2) := by
  refine gC_of (by decide) (Nat.le_of_ble_eq_true rfl) ?_
  show gG l _ _ _ D cy b cX3_copySums 8 _ RX3 "copySums" 0 0 f 0 [(0, .ref p), (1, .int x), (2, .ref q), (3, .int y)] []
  refine gz_aload_n dX3_copySums_0 rfl rfl ?_
  refine gz_iload_n dX3_copySums_1 rfl rfl ?_
  refine gz_iconst (v := 5) dX3_copySums_2 (by decide) ?_
  refine scX3_52 (k_X2_field (w := x) (k := 5) hp h1 hs) hp ⟨(Nat.le_of_ble_eq_true rfl), (Nat.le_of_ble_eq_true rfl)⟩ ⟨(Nat.le_of_ble_eq_true rfl), (Nat.le_of_ble_eq_true rfl)⟩ rfl rfl (Nat.le_of_ble_eq_true rfl) dX3_copySums_3 ?_
  intro v9 f9 z9; rw [z9.1, z9.2]
  refine gz_istore (lv' := [(4, .int (fldF n1 g s x 5)), (0, .ref p), (1, .int x), (2, .ref q), (3, .int y)]) dX3_copySums_6 (by decide) rfl ?_
  refine gz_aload_n dX3_copySums_8 rfl rfl ?_
  refine gz_iload_n dX3_copySums_9 rfl rfl ?_
  refine gz_bipush (v := 7) dX3_copySums_10 (by decide) ?_
  refine scX3_52 (k_X2_field (w := x) (k := 7) hp h1 hs) hp ⟨(Nat.le_of_ble_eq_true rfl), (Nat.le_of_ble_eq_true rfl)⟩ ⟨(Nat.le_of_ble_eq_true rfl), (Nat.le_of_ble_eq_true rfl)⟩ rfl rfl (Nat.le_of_ble_eq_true rfl) dX3_copySums_12 ?_
  intro v9 f9 z9; rw [z9.1, z9.2]
  refine gz_istore (lv' := [(5, .int (fldF n1 g s x 7)), (4, .int (fldF n1 g s x 5)), (0, .ref p), (1, .int x), (2, .ref q), (3, .int y)]) dX3_copySums_15 (by decide) rfl ?_
  refine gz_aload_n dX3_copySums_17 rfl rfl ?_
  refine scX3_88 (k_X2_valueCount hq0) hq0 ⟨(Nat.le_of_ble_eq_true rfl), (Nat.le_of_ble_eq_true rfl)⟩ ⟨(Nat.le_of_ble_eq_true rfl), (Nat.le_of_ble_eq_true rfl)⟩ rfl rfl (Nat.le_of_ble_eq_true rfl) dX3_copySums_18 ?_
  intro v9 f9 z9; rw [z9.1, z9.2]
  refine gz_istore (lv' := [(6, .int qv), (5, .int (fldF n1 g s x 7)), (4, .int (fldF n1 g s x 5)), (0, .ref p), (1, .int x), (2, .ref q), (3, .int y)]) dX3_copySums_21 (by decide) rfl ?_
  refine gz_iload dX3_copySums_23 rfl ?_
  refine gz_iconst (v := 0) dX3_copySums_25 (by decide) ?_
  refine scX3_91 (Nat.le_of_ble_eq_true rfl) (Nat.le_of_ble_eq_true rfl) (Nat.le_of_ble_eq_true rfl) (Nat.le_of_ble_eq_true rfl) (Nat.le_of_ble_eq_true rfl) dX3_copySums_26 ?_
  refine gz_istore (lv' := [(7, .int (if (fldF n1 g s x 5) < 0 then 0 else (fldF n1 g s x 5))), (6, .int qv), (5, .int (fldF n1 g s x 7)), (4, .int (fldF n1 g s x 5)), (0, .ref p), (1, .int x), (2, .ref q), (3, .int y)]) dX3_copySums_29 (by decide) rfl ?_
  exact l_X3_copySums hs hv hqs hne 41 (if (fldF n1 g s x 5) < 0 then 0 else (fldF n1 g s x 5)) (hh) qv (gq) _ fr_rf hp h1 h2 hq0 hd1 hd2 (hqv) (⟨max0, by decide, fun _ => by have := @max0 (fldF n1 g s x 5); omega⟩) (fun  f2 z0 z1 z2 zf => ⟨rfl, (by rw [(show cpsF n1 n2 m1 m2 g h gq hh s v qs qv x y = _ from (by unfold cpsF; rfl))]; exact z0), (by rw [(show cpsF n1 n2 m1 m2 g h gq hh s v qs qv x y = _ from (by unfold cpsF; rfl))]; exact z1), (by rw [(show cpsF n1 n2 m1 m2 g h gq hh s v qs qv x y = _ from (by unfold cpsF; rfl))]; exact z2), zf⟩)
