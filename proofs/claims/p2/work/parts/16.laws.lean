def folF (n1 : Nat) (g : Nat → Int32) (s : Int32) (bg : Nat → Int32) (x y : Int32) : (Nat → Int32) := (if ((fldF n1 g s x y) : Int32) < 0 then (g) else (if 40 ≤ ((fldF n1 g s x y) : Int32) then (g) else (stF n1 g s x y (bg (Int32.toNatClampNeg (fldF n1 g s x y))))))
set_option maxHeartbeats 4000000 in
set_option maxRecDepth 100000 in
theorem k_X3_follow {l : Launch} {D : va_G} {cy : Nat → ClassId} {b : Nat} {f : gMem} {la p c1 c2 n1 bc : Nat} {s v : Int32} {g bg : Nat → Int32} {x y : Int32} (hla : f la = some (.inr (3, [.ref p, .ref bc]))) (hbc : f bc = some (.inl (cy 0, 40, .inl (bg)))) (hp : f p = some (.inr (2, [.ref c1, .ref c2, .int s, .int v]))) (h1 : f c1 = some (.inl (cy 0, n1, .inl (g)))) (hs : 0 ≤ s.toInt ∧ 13 * s.toInt ≤ n1 ∧ n1 ≤ 520) (hne : bc ≠ c1) : gC l D cy b yX3_follow cX3_follow 4 none 1 0 0 [.ref la, .int x, .int y] f (pV fun f2 => f2 c1 = some (.inl (cy 0, n1, .inl ((folF n1 g s bg x y)))) ∧ fr [c1] f f2) := by
  refine gC_of (by decide) (Nat.le_of_ble_eq_true rfl) ?_
  show gG l _ _ _ D cy b cX3_follow 4 _ RX3 "follow" 0 0 f 0 [(0, .ref la), (1, .int x), (2, .int y)] []
  refine gz_aload_n dX3_follow_0 rfl rfl ?_
  refine sgX3_14 hla rfl dX3_follow_1 ?_
  refine gz_iload_n dX3_follow_4 rfl rfl ?_
  refine gz_iload_n dX3_follow_5 rfl rfl ?_
  refine scX3_52 (k_X2_field (w := x) (k := y) hp h1 hs) hp ⟨(Nat.le_of_ble_eq_true rfl), (Nat.le_of_ble_eq_true rfl)⟩ ⟨(Nat.le_of_ble_eq_true rfl), (Nat.le_of_ble_eq_true rfl)⟩ rfl rfl (Nat.le_of_ble_eq_true rfl) dX3_follow_6 ?_
  intro v9 f9 z9; rw [z9.1, z9.2]
  refine gz_istore_n (lv' := [(3, .int (fldF n1 g s x y)), (0, .ref la), (1, .int x), (2, .int y)]) dX3_follow_9 rfl (by decide) rfl ?_
  refine gz_iload_n dX3_follow_10 rfl rfl ?_
  refine gz_if_lt (tgt := 35) dX3_follow_11 (by decide) (fun c_11 => ?_) (fun c_11 => ?_)
  ·
    exact gz_vret rfl dX3_follow_35 (Nat.le_of_ble_eq_true rfl) (Nat.le_of_ble_eq_true rfl) (⟨rfl, (by rw [(show folF n1 g s bg x y = _ from (by unfold folF; rw [if_pos c_11]))]; exact h1), fr_rf⟩)
  ·
    refine gz_iload_n dX3_follow_14 rfl rfl ?_
    refine gz_bipush (v := 40) dX3_follow_15 (by decide) ?_
    refine gz_icmp_ge (tgt := 35) dX3_follow_17 (by decide) (fun c_17 => ?_) (fun c_17 => ?_)
    ·
      exact gz_vret rfl dX3_follow_35 (Nat.le_of_ble_eq_true rfl) (Nat.le_of_ble_eq_true rfl) (⟨rfl, (by rw [(show folF n1 g s bg x y = _ from (by unfold folF; rw [if_neg c_11, if_pos c_17]))]; exact h1), fr_rf⟩)
    ·
      refine gz_aload_n dX3_follow_20 rfl rfl ?_
      refine sgX3_14 hla rfl dX3_follow_21 ?_
      refine gz_iload_n dX3_follow_24 rfl rfl ?_
      refine gz_iload_n dX3_follow_25 rfl rfl ?_
      refine gz_aload_n dX3_follow_26 rfl rfl ?_
      refine sgX3_20 hla rfl dX3_follow_27 ?_
      refine gz_iload_n dX3_follow_30 rfl rfl ?_
      refine gz_iald hbc ((by have e13 : (13 : Int32).toInt = 13 := rfl; have e0 : (0 : Int32).toInt = 0 := rfl; have e2 : (2 : Int32).toInt = 2 := rfl; have e1 : (1 : Int32).toInt = 1 := rfl; have e6 : (6 : Int32).toInt = 6 := rfl; have em2 : (-2 : Int32).toInt = -2 := rfl; have e40 : (40 : Int32).toInt = 40 := rfl; simp only [fl_lt, fl_le] at c_11 c_17; exact vin_T rfl (by omega) (by omega))) dX3_follow_31 ?_
      refine scX3_55 (k_X2_setField (w := x) (k := y) (x := (bg (Int32.toNatClampNeg (fldF n1 g s x y)))) hp h1 hs) hp ⟨(Nat.le_of_ble_eq_true rfl), (Nat.le_of_ble_eq_true rfl)⟩ ⟨(Nat.le_of_ble_eq_true rfl), (Nat.le_of_ble_eq_true rfl)⟩ rfl rfl (Nat.le_of_ble_eq_true rfl) dX3_follow_32 ?_
      rintro f1 ⟨h1_1, hr1⟩
      have hla_1 : f1 la = some (.inr (3, [.ref p, .ref bc])) := hr1 _ _ hla (by simp only [List.mem_cons, List.not_mem_nil, or_false, not_or]; exact cne hla h1 (by simp))
      have hbc_1 : f1 bc = some (.inl (cy 0, 40, .inl (bg))) := hr1 _ _ hbc (by simp only [List.mem_cons, List.not_mem_nil, or_false, not_or]; exact hne)
      have hp_1 : f1 p = some (.inr (2, [.ref c1, .ref c2, .int s, .int v])) := hr1 _ _ hp (by simp only [List.mem_cons, List.not_mem_nil, or_false, not_or]; exact cne hp h1 (by simp))
      exact gz_vret rfl dX3_follow_35 (Nat.le_of_ble_eq_true rfl) (Nat.le_of_ble_eq_true rfl) (⟨rfl, (by rw [(show folF n1 g s bg x y = _ from (by unfold folF; rw [if_neg c_11, if_neg c_17]))]; exact h1_1), (fr_tr fr_rf (fr_mo hr1 (by simp)))⟩)

def mknF (n1 : Nat) (g : Nat → Int32) (s : Int32) (x : Int32) : (Nat → Int32) := (stF n1 (stF n1 (stF n1 (stF n1 g s x 0 0) s x 5 (-1)) s x 6 (-1)) s x 7 (-1))
set_option maxHeartbeats 4000000 in
set_option maxRecDepth 100000 in
theorem k_X3_makeNothing {l : Launch} {D : va_G} {cy : Nat → ClassId} {b : Nat} {f : gMem} {la p c1 c2 n1 bc : Nat} {s v : Int32} {g : Nat → Int32} {x : Int32} (hla : f la = some (.inr (3, [.ref p, .ref bc]))) (hp : f p = some (.inr (2, [.ref c1, .ref c2, .int s, .int v]))) (h1 : f c1 = some (.inl (cy 0, n1, .inl (g)))) (hs : 0 ≤ s.toInt ∧ 13 * s.toInt ≤ n1 ∧ n1 ≤ 520) : gC l D cy b yX3_makeNothing cX3_makeNothing 2 none 1 0 0 [.ref la, .int x] f (pV fun f2 => f2 c1 = some (.inl (cy 0, n1, .inl ((mknF n1 g s x)))) ∧ fr [c1] f f2) := by
  refine gC_of (by decide) (Nat.le_of_ble_eq_true rfl) ?_
  show gG l _ _ _ D cy b cX3_makeNothing 2 _ RX3 "makeNothing" 0 0 f 0 [(0, .ref la), (1, .int x)] []
  refine gz_aload_n dX3_makeNothing_0 rfl rfl ?_
  refine sgX3_14 hla rfl dX3_makeNothing_1 ?_
  refine gz_iload_n dX3_makeNothing_4 rfl rfl ?_
  refine gz_iconst (v := 0) dX3_makeNothing_5 (by decide) ?_
  refine gz_iconst (v := 0) dX3_makeNothing_6 (by decide) ?_
  refine scX3_55 (k_X2_setField (w := x) (k := 0) (x := 0) hp h1 hs) hp ⟨(Nat.le_of_ble_eq_true rfl), (Nat.le_of_ble_eq_true rfl)⟩ ⟨(Nat.le_of_ble_eq_true rfl), (Nat.le_of_ble_eq_true rfl)⟩ rfl rfl (Nat.le_of_ble_eq_true rfl) dX3_makeNothing_7 ?_
  rintro f1 ⟨h1_1, hr1⟩
  have hla_1 : f1 la = some (.inr (3, [.ref p, .ref bc])) := hr1 _ _ hla (by simp only [List.mem_cons, List.not_mem_nil, or_false, not_or]; exact cne hla h1 (by simp))
  have hp_1 : f1 p = some (.inr (2, [.ref c1, .ref c2, .int s, .int v])) := hr1 _ _ hp (by simp only [List.mem_cons, List.not_mem_nil, or_false, not_or]; exact cne hp h1 (by simp))
  refine gz_aload_n dX3_makeNothing_10 rfl rfl ?_
  refine sgX3_14 hla_1 rfl dX3_makeNothing_11 ?_
  refine gz_iload_n dX3_makeNothing_14 rfl rfl ?_
  refine gz_iconst (v := 5) dX3_makeNothing_15 (by decide) ?_
  refine gz_iconst (v := (-1)) dX3_makeNothing_16 (by decide) ?_
  refine scX3_55 (k_X2_setField (w := x) (k := 5) (x := (-1)) hp_1 h1_1 hs) hp_1 ⟨(Nat.le_of_ble_eq_true rfl), (Nat.le_of_ble_eq_true rfl)⟩ ⟨(Nat.le_of_ble_eq_true rfl), (Nat.le_of_ble_eq_true rfl)⟩ rfl rfl (Nat.le_of_ble_eq_true rfl) dX3_makeNothing_17 ?_
  rintro f2 ⟨h1_2, hr2⟩
  have hla_2 : f2 la = some (.inr (3, [.ref p, .ref bc])) := hr2 _ _ hla_1 (by simp only [List.mem_cons, List.not_mem_nil, or_false, not_or]; exact cne hla_1 h1_1 (by simp))
  have hp_2 : f2 p = some (.inr (2, [.ref c1, .ref c2, .int s, .int v])) := hr2 _ _ hp_1 (by simp only [List.mem_cons, List.not_mem_nil, or_false, not_or]; exact cne hp_1 h1_1 (by simp))
  refine gz_aload_n dX3_makeNothing_20 rfl rfl ?_
  refine sgX3_14 hla_2 rfl dX3_makeNothing_21 ?_
  refine gz_iload_n dX3_makeNothing_24 rfl rfl ?_
  refine gz_bipush (v := 6) dX3_makeNothing_25 (by decide) ?_
  refine gz_iconst (v := (-1)) dX3_makeNothing_27 (by decide) ?_
  refine scX3_55 (k_X2_setField (w := x) (k := 6) (x := (-1)) hp_2 h1_2 hs) hp_2 ⟨(Nat.le_of_ble_eq_true rfl), (Nat.le_of_ble_eq_true rfl)⟩ ⟨(Nat.le_of_ble_eq_true rfl), (Nat.le_of_ble_eq_true rfl)⟩ rfl rfl (Nat.le_of_ble_eq_true rfl) dX3_makeNothing_28 ?_
  rintro f3 ⟨h1_3, hr3⟩
  have hla_3 : f3 la = some (.inr (3, [.ref p, .ref bc])) := hr3 _ _ hla_2 (by simp only [List.mem_cons, List.not_mem_nil, or_false, not_or]; exact cne hla_2 h1_2 (by simp))
  have hp_3 : f3 p = some (.inr (2, [.ref c1, .ref c2, .int s, .int v])) := hr3 _ _ hp_2 (by simp only [List.mem_cons, List.not_mem_nil, or_false, not_or]; exact cne hp_2 h1_2 (by simp))
  refine gz_aload_n dX3_makeNothing_31 rfl rfl ?_
  refine sgX3_14 hla_3 rfl dX3_makeNothing_32 ?_
  refine gz_iload_n dX3_makeNothing_35 rfl rfl ?_
  refine gz_bipush (v := 7) dX3_makeNothing_36 (by decide) ?_
  refine gz_iconst (v := (-1)) dX3_makeNothing_38 (by decide) ?_
  refine scX3_55 (k_X2_setField (w := x) (k := 7) (x := (-1)) hp_3 h1_3 hs) hp_3 ⟨(Nat.le_of_ble_eq_true rfl), (Nat.le_of_ble_eq_true rfl)⟩ ⟨(Nat.le_of_ble_eq_true rfl), (Nat.le_of_ble_eq_true rfl)⟩ rfl rfl (Nat.le_of_ble_eq_true rfl) dX3_makeNothing_39 ?_
  rintro f4 ⟨h1_4, hr4⟩
  have hla_4 : f4 la = some (.inr (3, [.ref p, .ref bc])) := hr4 _ _ hla_3 (by simp only [List.mem_cons, List.not_mem_nil, or_false, not_or]; exact cne hla_3 h1_3 (by simp))
  have hp_4 : f4 p = some (.inr (2, [.ref c1, .ref c2, .int s, .int v])) := hr4 _ _ hp_3 (by simp only [List.mem_cons, List.not_mem_nil, or_false, not_or]; exact cne hp_3 h1_3 (by simp))
  exact gz_vret rfl dX3_makeNothing_42 (Nat.le_of_ble_eq_true rfl) (Nat.le_of_ble_eq_true rfl) (⟨rfl, (by rw [(show mknF n1 g s x = _ from (by unfold mknF; rfl))]; exact h1_4), (fr_tr (fr_tr (fr_tr (fr_tr fr_rf (fr_mo hr1 (by simp))) (fr_mo hr2 (by simp))) (fr_mo hr3 (by simp))) (fr_mo hr4 (by simp)))⟩)

def cpLF (n1 : Nat) (g : Nat → Int32) (s : Int32) (x y : Int32) : (Int32) × (Nat → Int32) := (y, (stF n1 g s y 2 (if (fldF n1 g s y 2) < (fldF n1 g s x 2) then (fldF n1 g s y 2) else (fldF n1 g s x 2))))
set_option maxHeartbeats 4000000 in
set_option maxRecDepth 100000 in
theorem k_X3_capLaw {l : Launch} {D : va_G} {cy : Nat → ClassId} {b : Nat} {f : gMem} {la p c1 c2 n1 bc : Nat} {s v : Int32} {g : Nat → Int32} {x y : Int32} (hla : f la = some (.inr (3, [.ref p, .ref bc]))) (hp : f p = some (.inr (2, [.ref c1, .ref c2, .int s, .int v]))) (h1 : f c1 = some (.inl (cy 0, n1, .inl (g)))) (hs : 0 ≤ s.toInt ∧ 13 * s.toInt ≤ n1 ∧ n1 ≤ 520) : gC l D cy b yX3_capLaw cX3_capLaw 4 (some .int) 1 0 0 [.ref la, .int x, .int y] f (pI fun r f2 => r = (cpLF n1 g s x y).1 ∧ f2 c1 = some (.inl (cy 0, n1, .inl ((cpLF n1 g s x y).2))) ∧ fr [c1] f f2) := by
  refine gC_of (by decide) (Nat.le_of_ble_eq_true rfl) ?_
  show gG l _ _ _ D cy b cX3_capLaw 4 _ RX3 "capLaw" 0 0 f 0 [(0, .ref la), (1, .int x), (2, .int y)] []
  refine gz_aload_n dX3_capLaw_0 rfl rfl ?_
  refine sgX3_14 hla rfl dX3_capLaw_1 ?_
  refine gz_iload_n dX3_capLaw_4 rfl rfl ?_
  refine gz_iconst (v := 2) dX3_capLaw_5 (by decide) ?_
  refine scX3_52 (k_X2_field (w := x) (k := 2) hp h1 hs) hp ⟨(Nat.le_of_ble_eq_true rfl), (Nat.le_of_ble_eq_true rfl)⟩ ⟨(Nat.le_of_ble_eq_true rfl), (Nat.le_of_ble_eq_true rfl)⟩ rfl rfl (Nat.le_of_ble_eq_true rfl) dX3_capLaw_6 ?_
  intro v9 f9 z9; rw [z9.1, z9.2]
  refine gz_aload_n dX3_capLaw_9 rfl rfl ?_
  refine sgX3_14 hla rfl dX3_capLaw_10 ?_
  refine gz_iload_n dX3_capLaw_13 rfl rfl ?_
  refine gz_iconst (v := 2) dX3_capLaw_14 (by decide) ?_
  refine scX3_52 (k_X2_field (w := y) (k := 2) hp h1 hs) hp ⟨(Nat.le_of_ble_eq_true rfl), (Nat.le_of_ble_eq_true rfl)⟩ ⟨(Nat.le_of_ble_eq_true rfl), (Nat.le_of_ble_eq_true rfl)⟩ rfl rfl (Nat.le_of_ble_eq_true rfl) dX3_capLaw_15 ?_
  intro v9 f9 z9; rw [z9.1, z9.2]
  refine scX3_35 (Nat.le_of_ble_eq_true rfl) (Nat.le_of_ble_eq_true rfl) (Nat.le_of_ble_eq_true rfl) (Nat.le_of_ble_eq_true rfl) (Nat.le_of_ble_eq_true rfl) dX3_capLaw_18 ?_
  refine gz_istore_n (lv' := [(3, .int (if (fldF n1 g s y 2) < (fldF n1 g s x 2) then (fldF n1 g s y 2) else (fldF n1 g s x 2))), (0, .ref la), (1, .int x), (2, .int y)]) dX3_capLaw_21 rfl (by decide) rfl ?_
  refine gz_aload_n dX3_capLaw_22 rfl rfl ?_
  refine sgX3_14 hla rfl dX3_capLaw_23 ?_
  refine gz_iload_n dX3_capLaw_26 rfl rfl ?_
  refine gz_iconst (v := 2) dX3_capLaw_27 (by decide) ?_
  refine gz_iload_n dX3_capLaw_28 rfl rfl ?_
  refine scX3_55 (k_X2_setField (w := y) (k := 2) (x := (if (fldF n1 g s y 2) < (fldF n1 g s x 2) then (fldF n1 g s y 2) else (fldF n1 g s x 2))) hp h1 hs) hp ⟨(Nat.le_of_ble_eq_true rfl), (Nat.le_of_ble_eq_true rfl)⟩ ⟨(Nat.le_of_ble_eq_true rfl), (Nat.le_of_ble_eq_true rfl)⟩ rfl rfl (Nat.le_of_ble_eq_true rfl) dX3_capLaw_29 ?_
  rintro f1 ⟨h1_1, hr1⟩
  have hla_1 : f1 la = some (.inr (3, [.ref p, .ref bc])) := hr1 _ _ hla (by simp only [List.mem_cons, List.not_mem_nil, or_false, not_or]; exact cne hla h1 (by simp))
  have hp_1 : f1 p = some (.inr (2, [.ref c1, .ref c2, .int s, .int v])) := hr1 _ _ hp (by simp only [List.mem_cons, List.not_mem_nil, or_false, not_or]; exact cne hp h1 (by simp))
  refine gz_iload_n dX3_capLaw_32 rfl rfl ?_
  exact gz_iret rfl dX3_capLaw_33 (Nat.le_of_ble_eq_true rfl) (Nat.le_of_ble_eq_true rfl) (⟨_, rfl, (by rw [(show cpLF n1 g s x y = _ from (by unfold cpLF; rfl))]), (by rw [(show cpLF n1 g s x y = _ from (by unfold cpLF; rfl))]; exact h1_1), (fr_tr fr_rf (fr_mo hr1 (by simp)))⟩)

def scLF (n1 n2 : Nat) (g h : Nat → Int32) (s v x y : Int32) : (Int32) × (Nat → Int32) := (if (((fldF n1 g s x 6) - (fldF n1 g s x 5)) : Int32) = 1 then (if ((valF n2 h v (fldF n1 g s x 5)) : Int32) = 0 then (lett (mknF n1 g s x) fun x1 => (if ((valF n2 h v (fldF n1 g s x 5)) : Int32) = 1 then (y, (x1)) else (x, (x1)))) else (if ((valF n2 h v (fldF n1 g s x 5)) : Int32) = 1 then (y, (g)) else (x, (g)))) else (x, (g)))
set_option maxHeartbeats 4000000 in
set_option maxRecDepth 100000 in
theorem k_X3_scaleLaw {l : Launch} {D : va_G} {cy : Nat → ClassId} {b : Nat} {f : gMem} {la p c1 c2 n1 n2 bc : Nat} {s v : Int32} {g h : Nat → Int32} {x y : Int32} (hla : f la = some (.inr (3, [.ref p, .ref bc]))) (hp : f p = some (.inr (2, [.ref c1, .ref c2, .int s, .int v]))) (h1 : f c1 = some (.inl (cy 0, n1, .inl (g)))) (h2 : f c2 = some (.inl (cy 0, n2, .inl (h)))) (hs : 0 ≤ s.toInt ∧ 13 * s.toInt ≤ n1 ∧ n1 ≤ 520) (hv : 0 ≤ v.toInt ∧ 2 * v.toInt ≤ n2 ∧ n2 ≤ 80) (hne : c1 ≠ c2) : gC l D cy b yX3_scaleLaw cX3_scaleLaw 5 (some .int) 2 0 0 [.ref la, .int x, .int y] f (pI fun r f2 => r = (scLF n1 n2 g h s v x y).1 ∧ f2 c1 = some (.inl (cy 0, n1, .inl ((scLF n1 n2 g h s v x y).2))) ∧ fr [c1] f f2) := by
  refine gC_of (by decide) (Nat.le_of_ble_eq_true rfl) ?_
  show gG l _ _ _ D cy b cX3_scaleLaw 5 _ RX3 "scaleLaw" 0 0 f 0 [(0, .ref la), (1, .int x), (2, .int y)] []
  refine gz_aload_n dX3_scaleLaw_0 rfl rfl ?_
  refine sgX3_14 hla rfl dX3_scaleLaw_1 ?_
  refine gz_iload_n dX3_scaleLaw_4 rfl rfl ?_
  refine gz_iconst (v := 5) dX3_scaleLaw_5 (by decide) ?_
  refine scX3_52 (k_X2_field (w := x) (k := 5) hp h1 hs) hp ⟨(Nat.le_of_ble_eq_true rfl), (Nat.le_of_ble_eq_true rfl)⟩ ⟨(Nat.le_of_ble_eq_true rfl), (Nat.le_of_ble_eq_true rfl)⟩ rfl rfl (Nat.le_of_ble_eq_true rfl) dX3_scaleLaw_6 ?_
  intro v9 f9 z9; rw [z9.1, z9.2]
  refine gz_istore_n (lv' := [(3, .int (fldF n1 g s x 5)), (0, .ref la), (1, .int x), (2, .int y)]) dX3_scaleLaw_9 rfl (by decide) rfl ?_
  refine gz_aload_n dX3_scaleLaw_10 rfl rfl ?_
  refine sgX3_14 hla rfl dX3_scaleLaw_11 ?_
  refine gz_iload_n dX3_scaleLaw_14 rfl rfl ?_
  refine gz_bipush (v := 6) dX3_scaleLaw_15 (by decide) ?_
  refine scX3_52 (k_X2_field (w := x) (k := 6) hp h1 hs) hp ⟨(Nat.le_of_ble_eq_true rfl), (Nat.le_of_ble_eq_true rfl)⟩ ⟨(Nat.le_of_ble_eq_true rfl), (Nat.le_of_ble_eq_true rfl)⟩ rfl rfl (Nat.le_of_ble_eq_true rfl) dX3_scaleLaw_17 ?_
  intro v9 f9 z9; rw [z9.1, z9.2]
  refine gz_iload_n dX3_scaleLaw_20 rfl rfl ?_
  refine gz_isub dX3_scaleLaw_21 ?_
  refine gz_iconst (v := 1) dX3_scaleLaw_22 (by decide) ?_
  refine gz_icmp_eq (tgt := 28) dX3_scaleLaw_23 (by decide) (fun c_23 => ?_) (fun c_23 => ?_)
  ·
    refine gz_aload_n dX3_scaleLaw_28 rfl rfl ?_
    refine sgX3_14 hla rfl dX3_scaleLaw_29 ?_
    refine gz_iload_n dX3_scaleLaw_32 rfl rfl ?_
    refine scX3_65 (k_X2_value (i := (fldF n1 g s x 5)) hp h2 hv) hp ⟨(Nat.le_of_ble_eq_true rfl), (Nat.le_of_ble_eq_true rfl)⟩ ⟨(Nat.le_of_ble_eq_true rfl), (Nat.le_of_ble_eq_true rfl)⟩ rfl rfl (Nat.le_of_ble_eq_true rfl) dX3_scaleLaw_33 ?_
    intro v9 f9 z9; rw [z9.1, z9.2]
    refine gz_istore (lv' := [(4, .int (valF n2 h v (fldF n1 g s x 5))), (3, .int (fldF n1 g s x 5)), (0, .ref la), (1, .int x), (2, .int y)]) dX3_scaleLaw_36 (by decide) rfl ?_
    refine gz_iload dX3_scaleLaw_38 rfl ?_
    refine gz_if_ne (tgt := 48) dX3_scaleLaw_40 (by decide) (fun c_40 => ?_) (fun c_40 => ?_)
    ·
      refine gz_iload dX3_scaleLaw_48 rfl ?_
      refine gz_iconst (v := 1) dX3_scaleLaw_50 (by decide) ?_
      refine gz_icmp_ne (tgt := 58) dX3_scaleLaw_51 (by decide) (fun c_51 => ?_) (fun c_51 => ?_)
      ·
        refine gz_iload_n dX3_scaleLaw_58 rfl rfl ?_
        exact gz_iret rfl dX3_scaleLaw_59 (Nat.le_of_ble_eq_true rfl) (Nat.le_of_ble_eq_true rfl) (⟨_, rfl, (by rw [(show scLF n1 n2 g h s v x y = _ from (by unfold scLF; rw [if_pos c_23, if_neg c_40, if_neg c_51]))]), (by rw [(show scLF n1 n2 g h s v x y = _ from (by unfold scLF; rw [if_pos c_23, if_neg c_40, if_neg c_51]))]; exact h1), fr_rf⟩)
      ·
        refine gz_iload_n dX3_scaleLaw_54 rfl rfl ?_
        refine gz_goto (tgt := 59) dX3_scaleLaw_55 (by decide) ?_
        exact gz_iret rfl dX3_scaleLaw_59 (Nat.le_of_ble_eq_true rfl) (Nat.le_of_ble_eq_true rfl) (⟨_, rfl, (by rw [(show scLF n1 n2 g h s v x y = _ from (by unfold scLF; rw [if_pos c_23, if_neg c_40, if_pos c_51]))]), (by rw [(show scLF n1 n2 g h s v x y = _ from (by unfold scLF; rw [if_pos c_23, if_neg c_40, if_pos c_51]))]; exact h1), fr_rf⟩)
    ·
      refine gz_aload_n dX3_scaleLaw_43 rfl rfl ?_
      refine gz_iload_n dX3_scaleLaw_44 rfl rfl ?_
      obtain ⟨x1, hx1⟩ : ∃ x0, (mknF n1 g s x) = x0 := ⟨_, rfl⟩
      refine scX3_68 (k_X3_makeNothing (x := x) hla hp h1 hs) hla ⟨(Nat.le_of_ble_eq_true rfl), (Nat.le_of_ble_eq_true rfl)⟩ ⟨(Nat.le_of_ble_eq_true rfl), (Nat.le_of_ble_eq_true rfl)⟩ rfl rfl (Nat.le_of_ble_eq_true rfl) dX3_scaleLaw_45 ?_
      rintro f1 ⟨h1_1, hr1⟩; rw [hx1] at h1_1
      have hla_1 : f1 la = some (.inr (3, [.ref p, .ref bc])) := hr1 _ _ hla (by simp only [List.mem_cons, List.not_mem_nil, or_false, not_or]; exact cne hla h1 (by simp))
      have hp_1 : f1 p = some (.inr (2, [.ref c1, .ref c2, .int s, .int v])) := hr1 _ _ hp (by simp only [List.mem_cons, List.not_mem_nil, or_false, not_or]; exact cne hp h1 (by simp))
      have h2_1 : f1 c2 = some (.inl (cy 0, n2, .inl (h))) := hr1 _ _ h2 (by simp only [List.mem_cons, List.not_mem_nil, or_false, not_or]; exact Ne.symm (hne))
      refine gz_iload dX3_scaleLaw_48 rfl ?_
      refine gz_iconst (v := 1) dX3_scaleLaw_50 (by decide) ?_
      refine gz_icmp_ne (tgt := 58) dX3_scaleLaw_51 (by decide) (fun c_51 => ?_) (fun c_51 => ?_)
      ·
        refine gz_iload_n dX3_scaleLaw_58 rfl rfl ?_
        exact gz_iret rfl dX3_scaleLaw_59 (Nat.le_of_ble_eq_true rfl) (Nat.le_of_ble_eq_true rfl) (⟨_, rfl, (by rw [(show scLF n1 n2 g h s v x y = _ from (by unfold scLF; rw [if_pos c_23, if_pos c_40, lett_eq hx1, if_neg c_51]))]), (by rw [(show scLF n1 n2 g h s v x y = _ from (by unfold scLF; rw [if_pos c_23, if_pos c_40, lett_eq hx1, if_neg c_51]))]; exact h1_1), (fr_tr fr_rf (fr_mo hr1 (by simp)))⟩)
      ·
        refine gz_iload_n dX3_scaleLaw_54 rfl rfl ?_
        refine gz_goto (tgt := 59) dX3_scaleLaw_55 (by decide) ?_
        exact gz_iret rfl dX3_scaleLaw_59 (Nat.le_of_ble_eq_true rfl) (Nat.le_of_ble_eq_true rfl) (⟨_, rfl, (by rw [(show scLF n1 n2 g h s v x y = _ from (by unfold scLF; rw [if_pos c_23, if_pos c_40, lett_eq hx1, if_pos c_51]))]), (by rw [(show scLF n1 n2 g h s v x y = _ from (by unfold scLF; rw [if_pos c_23, if_pos c_40, lett_eq hx1, if_pos c_51]))]; exact h1_1), (fr_tr fr_rf (fr_mo hr1 (by simp)))⟩)
  ·
    refine gz_iload_n dX3_scaleLaw_26 rfl rfl ?_
    exact gz_iret rfl dX3_scaleLaw_27 (Nat.le_of_ble_eq_true rfl) (Nat.le_of_ble_eq_true rfl) (⟨_, rfl, (by rw [(show scLF n1 n2 g h s v x y = _ from (by unfold scLF; rw [if_neg c_23]))]), (by rw [(show scLF n1 n2 g h s v x y = _ from (by unfold scLF; rw [if_neg c_23]))]; exact h1), fr_rf⟩)

def healL (n2 m2 : Nat) (h hh : Nat → Int32) (v qv fr_ st_ le_ : Int32)  : Nat → Int32 → Int32
  | 0, _ => 0
  | k + 1, i => (if le_ ≤ (i : Int32) then 1 else (if ((jntF n2 h v (fr_ + i)) : Int32) = (jntF m2 hh qv (st_ + i)) then (if ((valF n2 h v (fr_ + i)) : Int32) = (valF m2 hh qv (st_ + i)) then healL n2 m2 h hh v qv fr_ st_ le_ k (i + 1) else 0) else 0))
set_option maxHeartbeats 4000000 in
set_option maxRecDepth 100000 in
theorem l_X3_headsAlike {l : Launch} {D : va_G} {cy : Nat → ClassId} {b mc ms : Nat} {f : gMem} {Po : Option Value → gMem → Prop} {p c1 c2 n1 n2 q d1 d2 m1 m2 : Nat} {s v qs qv : Int32} {g h gq hh : Nat → Int32} {x y fr_ st_ le_ : Int32}  (hp : f p = some (.inr (2, [.ref c1, .ref c2, .int s, .int v]))) (h1 : f c1 = some (.inl (cy 0, n1, .inl (g)))) (h2 : f c2 = some (.inl (cy 0, n2, .inl (h)))) (hq0 : f q = some (.inr (2, [.ref d1, .ref d2, .int qs, .int qv]))) (hd1 : f d1 = some (.inl (cy 0, m1, .inl (gq)))) (hd2 : f d2 = some (.inl (cy 0, m2, .inl (hh)))) (hs : 0 ≤ s.toInt ∧ 13 * s.toInt ≤ n1 ∧ n1 ≤ 520) (hv : 0 ≤ v.toInt ∧ 2 * v.toInt ≤ n2 ∧ n2 ≤ 80) (hqs : 0 ≤ qs.toInt ∧ 13 * qs.toInt ≤ m1 ∧ m1 ≤ 520) (hqv : 0 ≤ qv.toInt ∧ 2 * qv.toInt ≤ m2 ∧ m2 ≤ 80) : ∀ (k : Nat) (i : Int32), (0 ≤ i.toInt ∧ 0 < k ∧ (i.toInt < le_.toInt → le_.toInt - i.toInt < (k : Int))) → (Po (some (.int (healL n2 m2 h hh v qv fr_ st_ le_ k i))) f) → gG l (gRm 1 mc ms) (gQf D b Po mc ms) gTt D cy b cX3_headsAlike 8 (some .boolean) RX3 "headsAlike" 0 0 f 103 [(7, .int i), (6, .int le_), (5, .int st_), (4, .int fr_), (0, .ref p), (1, .int x), (2, .ref q), (3, .int y)] [] := by
  intro k
  induction k with
  | zero =>
    intro i hk hq
    exfalso; omega
  | succ k ih =>
    intro i hk hq
    refine gz_iload dX3_headsAlike_103 rfl ?_
    refine gz_iload dX3_headsAlike_105 rfl ?_
    refine gz_icmp_ge (tgt := 160) dX3_headsAlike_107 (by decide) (fun c_107 => ?_) (fun c_107 => ?_)
    ·
      refine gz_iconst (v := 1) dX3_headsAlike_160 (by decide) ?_
      exact gz_zret rfl (by first | decide | exact nrb (Or.inl rfl) | (refine nrb ?_; (repeat' split) <;> first | assumption | exact Or.inl rfl | exact Or.inr rfl)) dX3_headsAlike_161 (Nat.zero_le _) (Nat.zero_le _) ((by rw [healL, if_pos c_107] at hq; exact hq))
    ·
      refine gz_aload_n dX3_headsAlike_110 rfl rfl ?_
      refine gz_iload dX3_headsAlike_111 rfl ?_
      refine gz_iload dX3_headsAlike_113 rfl ?_
      refine gz_iadd dX3_headsAlike_115 ?_
      refine scX3_94 (k_X2_joint (i := (fr_ + i)) hp h2 hv) hp ⟨(Nat.le_of_ble_eq_true rfl), (Nat.le_of_ble_eq_true rfl)⟩ ⟨(Nat.zero_le _), (Nat.zero_le _)⟩ rfl rfl (Nat.le_of_ble_eq_true rfl) dX3_headsAlike_116 ?_
      intro v9 f9 z9; rw [z9.1, z9.2]
      refine gz_aload_n dX3_headsAlike_119 rfl rfl ?_
      refine gz_iload dX3_headsAlike_120 rfl ?_
      refine gz_iload dX3_headsAlike_122 rfl ?_
      refine gz_iadd dX3_headsAlike_124 ?_
      refine scX3_94 (k_X2_joint (i := (st_ + i)) hq0 hd2 hqv) hq0 ⟨(Nat.le_of_ble_eq_true rfl), (Nat.le_of_ble_eq_true rfl)⟩ ⟨(Nat.zero_le _), (Nat.zero_le _)⟩ rfl rfl (Nat.le_of_ble_eq_true rfl) dX3_headsAlike_125 ?_
      intro v9 f9 z9; rw [z9.1, z9.2]
      refine gz_icmp_ne (tgt := 152) dX3_headsAlike_128 (by decide) (fun c_128 => ?_) (fun c_128 => ?_)
      ·
        refine gz_iconst (v := 0) dX3_headsAlike_152 (by decide) ?_
        exact gz_zret rfl (by first | decide | exact nrb (Or.inl rfl) | (refine nrb ?_; (repeat' split) <;> first | assumption | exact Or.inl rfl | exact Or.inr rfl)) dX3_headsAlike_153 (Nat.zero_le _) (Nat.zero_le _) ((by rw [healL, if_neg c_107, if_neg c_128] at hq; exact hq))
      ·
        refine gz_aload_n dX3_headsAlike_131 rfl rfl ?_
        refine gz_iload dX3_headsAlike_132 rfl ?_
        refine gz_iload dX3_headsAlike_134 rfl ?_
        refine gz_iadd dX3_headsAlike_136 ?_
        refine scX3_65 (k_X2_value (i := (fr_ + i)) hp h2 hv) hp ⟨(Nat.le_of_ble_eq_true rfl), (Nat.le_of_ble_eq_true rfl)⟩ ⟨(Nat.zero_le _), (Nat.zero_le _)⟩ rfl rfl (Nat.le_of_ble_eq_true rfl) dX3_headsAlike_137 ?_
        intro v9 f9 z9; rw [z9.1, z9.2]
        refine gz_aload_n dX3_headsAlike_140 rfl rfl ?_
        refine gz_iload dX3_headsAlike_141 rfl ?_
        refine gz_iload dX3_headsAlike_143 rfl ?_
        refine gz_iadd dX3_headsAlike_145 ?_
        refine scX3_65 (k_X2_value (i := (st_ + i)) hq0 hd2 hqv) hq0 ⟨(Nat.le_of_ble_eq_true rfl), (Nat.le_of_ble_eq_true rfl)⟩ ⟨(Nat.zero_le _), (Nat.zero_le _)⟩ rfl rfl (Nat.le_of_ble_eq_true rfl) dX3_headsAlike_146 ?_
        intro v9 f9 z9; rw [z9.1, z9.2]
        refine gz_icmp_eq (tgt := 154) dX3_headsAlike_149 (by decide) (fun c_149 => ?_) (fun c_149 => ?_)
        ·
          refine gz_iinc (v := (i + 1)) (lv' := [(7, .int (i + 1)), (6, .int le_), (5, .int st_), (4, .int fr_), (0, .ref p), (1, .int x), (2, .ref q), (3, .int y)]) dX3_headsAlike_154 rfl rfl (by decide) rfl ?_
          refine gz_goto (tgt := 103) dX3_headsAlike_157 (by decide) ?_
          refine gz_sub (lv' := [(7, .int (i + 1)), (6, .int le_), (5, .int st_), (4, .int fr_), (0, .ref p), (1, .int x), (2, .ref q), (3, .int y)]) (by simp [List.lookup]) ?_
          exact ih (i + 1) (by have e13 : (13 : Int32).toInt = 13 := rfl; have e0 : (0 : Int32).toInt = 0 := rfl; have e2 : (2 : Int32).toInt = 2 := rfl; have e1 : (1 : Int32).toInt = 1 := rfl; have e6 : (6 : Int32).toInt = 6 := rfl; have em2 : (-2 : Int32).toInt = -2 := rfl; have e40 : (40 : Int32).toInt = 40 := rfl; simp only [fl_le] at c_107; have hx := T_add (rfl : i.toInt = i.toInt) e1 (by have := Int32.toInt_lt le_; omega); omega) (by rw [healL, if_neg c_107, if_pos c_128, if_pos c_149] at hq; exact hq)
        ·
          refine gz_iconst (v := 0) dX3_headsAlike_152 (by decide) ?_
          exact gz_zret rfl (by first | decide | exact nrb (Or.inl rfl) | (refine nrb ?_; (repeat' split) <;> first | assumption | exact Or.inl rfl | exact Or.inr rfl)) dX3_headsAlike_153 (Nat.zero_le _) (Nat.zero_le _) ((by rw [healL, if_neg c_107, if_pos c_128, if_neg c_149] at hq; exact hq))
