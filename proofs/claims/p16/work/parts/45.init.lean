set_option maxHeartbeats 4000000 in
set_option maxRecDepth 100000 in
theorem k_X7_init {l : Launch} {D : va_G} {cy : Nat → ClassId} {b : Nat} {f : gMem} {x : Nat} (hx : f x = some (.inr (7, [.null, .int 0])))  : gC l D cy b yX7_init cX7_init 1 none 1 1 6 [.ref x] f (pV fun f2 => ∃ q1 : Nat, cW f x [(x, .inr (7, [.ref q1, .int 0])), (q1, .inl (cy 0, 6, .inl (fun _ => 0)))] f2) := by
  refine gC_of (by decide) (Nat.le_of_ble_eq_true rfl) ?_
  show gG l _ _ _ D cy b cX7_init 1 _ RX7 "<init>" 0 0 f 0 [(0, .ref x)] []
  have hW0 : cW f x [(x, .inr (7, [.null, .int 0]))] f := cW_0 hx
  refine gz_aload_n dX7_init_0 rfl rfl ?_
  refine scX7_3 (Nat.le_of_ble_eq_true rfl) (Nat.le_of_ble_eq_true rfl) (Nat.le_of_ble_eq_true rfl) dX7_init_1 ?_
  refine gz_aload_n dX7_init_4 rfl rfl ?_
  refine gz_bipush (v := 6) dX7_init_5 (by decide) ?_
  refine gz_newa0 (N' := 6) (by decide) (by decide) (by decide) (Nat.le_of_ble_eq_true rfl) (Nat.le_of_ble_eq_true rfl) wd_3 dX7_init_7 (fun q1 hq1n => ?_)
  refine gz_gen (fun f1 hf1 => ?_)
  have hW1 : cW f x [(x, .inr (7, [.null, .int 0])), (q1, .inl (cy 0, 6, .inl (fun _ => 0)))] f1 := by rw [hf1]; exact cW_new hW0 hq1n
  refine spX7_9 (hW1.1.1 0 _ rfl) rfl (Nat.le_of_ble_eq_true rfl) dX7_init_9 ?_
  refine gz_gen (fun f2 hf2 => ?_)
  have hW2 : cW f x [(x, .inr (7, [.ref q1, .int 0])), (q1, .inl (cy 0, 6, .inl (fun _ => 0)))] f2 := by rw [hf2]; exact cW_put hW1 0 rfl
  exact gz_vret rfl dX7_init_12 (Nat.le_of_ble_eq_true rfl) (Nat.le_of_ble_eq_true rfl) (⟨rfl, _, hW2⟩)

set_option maxHeartbeats 4000000 in
set_option maxRecDepth 100000 in
theorem k_X0_init {l : Launch} {D : va_G} {cy : Nat → ClassId} {b : Nat} {f : gMem} {x : Nat} (hx : f x = some (.inr (0, [.null, .null])))  : gC l D cy b yX0_init cX0_init 1 none 2 3 2408 [.ref x] f (pV fun f2 => ∃ q1 q2 q3 : Nat, cW f x [(x, .inr (0, [.ref q1, .ref q2])), (q1, .inl (cy 0, 2400, .inl (fun _ => 0))), (q2, .inr (7, [.ref q3, .int 0])), (q3, .inl (cy 0, 6, .inl (fun _ => 0)))] f2) := by
  refine gC_of (by decide) (Nat.le_of_ble_eq_true rfl) ?_
  show gG l _ _ _ D cy b cX0_init 1 _ RX0 "<init>" 0 0 f 0 [(0, .ref x)] []
  have hW0 : cW f x [(x, .inr (0, [.null, .null]))] f := cW_0 hx
  refine gz_aload_n dX0_init_0 rfl rfl ?_
  refine scX0_3 (Nat.le_of_ble_eq_true rfl) (Nat.le_of_ble_eq_true rfl) (Nat.le_of_ble_eq_true rfl) dX0_init_1 ?_
  refine gz_aload_n dX0_init_4 rfl rfl ?_
  refine gz_sipush (v := 2400) dX0_init_5 (by decide) ?_
  refine gz_newa0 (N' := 2400) (by decide) (by decide) (by decide) (Nat.le_of_ble_eq_true rfl) (Nat.le_of_ble_eq_true rfl) wd_3 dX0_init_8 (fun q1 hq1n => ?_)
  refine gz_gen (fun f1 hf1 => ?_)
  have hW1 : cW f x [(x, .inr (0, [.null, .null])), (q1, .inl (cy 0, 2400, .inl (fun _ => 0)))] f1 := by rw [hf1]; exact cW_new hW0 hq1n
  refine spX0_9 (hW1.1.1 0 _ rfl) rfl (Nat.le_of_ble_eq_true rfl) dX0_init_10 ?_
  refine gz_gen (fun f2 hf2 => ?_)
  have hW2 : cW f x [(x, .inr (0, [.ref q1, .null])), (q1, .inl (cy 0, 2400, .inl (fun _ => 0)))] f2 := by rw [hf2]; exact cW_put hW1 0 rfl
  refine gz_aload_n dX0_init_13 rfl rfl ?_
  refine snX0_15 (Nat.le_of_ble_eq_true rfl) (Nat.le_of_ble_eq_true rfl) dX0_init_14 (fun q2 hq2n => ?_)
  refine gz_gen (fun f3 hf3 => ?_)
  have hW3 : cW f x [(x, .inr (0, [.ref q1, .null])), (q1, .inl (cy 0, 2400, .inl (fun _ => 0))), (q2, .inr (7, [.null, .int 0]))] f3 := by rw [hf3]; exact cW_new hW2 hq2n
  refine gz_dup dX0_init_17 rfl ?_
  refine scX0_17 (k_X7_init (hW3.1.1 2 _ rfl)) ⟨(Nat.le_of_ble_eq_true rfl), (Nat.le_of_ble_eq_true rfl)⟩ ⟨(Nat.le_of_ble_eq_true rfl), (Nat.le_of_ble_eq_true rfl)⟩ rfl rfl (Nat.le_of_ble_eq_true rfl) dX0_init_18 ?_
  rintro f4 ⟨q3, hC4⟩
  have hW4 : cW f x [(x, .inr (0, [.ref q1, .null])), (q1, .inl (cy 0, 2400, .inl (fun _ => 0))), (q2, .inr (7, [.ref q3, .int 0])), (q3, .inl (cy 0, 6, .inl (fun _ => 0)))] f4 := cW_call hW3 2 (by decide) rfl hC4
  refine spX0_18 (hW4.1.1 0 _ rfl) rfl (Nat.le_of_ble_eq_true rfl) dX0_init_21 ?_
  refine gz_gen (fun f5 hf5 => ?_)
  have hW5 : cW f x [(x, .inr (0, [.ref q1, .ref q2])), (q1, .inl (cy 0, 2400, .inl (fun _ => 0))), (q2, .inr (7, [.ref q3, .int 0])), (q3, .inl (cy 0, 6, .inl (fun _ => 0)))] f5 := by rw [hf5]; exact cW_put hW4 0 rfl
  exact gz_vret rfl dX0_init_24 (Nat.le_of_ble_eq_true rfl) (Nat.le_of_ble_eq_true rfl) (⟨rfl, _, _, _, hW5⟩)

set_option maxHeartbeats 4000000 in
set_option maxRecDepth 100000 in
theorem k_X9_init_400 {l : Launch} {D : va_G} {cy : Nat → ClassId} {b : Nat} {f : gMem} {x : Nat} (hx : f x = some (.inr (9, [.null, .int 0])))  : gC l D cy b yX9_init cX9_init 2 none 1 1 400 [.ref x, .int 400] f (pV fun f2 => ∃ q1 : Nat, cW f x [(x, .inr (9, [.ref q1, .int 0])), (q1, .inl (cy 1, 400, .inl (fun _ => 0)))] f2) := by
  refine gC_of (by decide) (Nat.le_of_ble_eq_true rfl) ?_
  show gG l _ _ _ D cy b cX9_init 2 _ RX9 "<init>" 0 0 f 0 [(0, .ref x), (1, .int 400)] []
  have hW0 : cW f x [(x, .inr (9, [.null, .int 0]))] f := cW_0 hx
  refine gz_aload_n dX9_init_0 rfl rfl ?_
  refine scX9_3 (Nat.le_of_ble_eq_true rfl) (Nat.le_of_ble_eq_true rfl) (Nat.le_of_ble_eq_true rfl) dX9_init_1 ?_
  refine gz_aload_n dX9_init_4 rfl rfl ?_
  refine gz_iload_n dX9_init_5 rfl rfl ?_
  refine gz_iconst (v := 0) dX9_init_6 (by decide) ?_
  refine scX9_9 (Nat.le_of_ble_eq_true rfl) (Nat.le_of_ble_eq_true rfl) (Nat.le_of_ble_eq_true rfl) (Nat.le_of_ble_eq_true rfl) (Nat.le_of_ble_eq_true rfl) dX9_init_7 ?_
  refine gz_ev (w := .int 400) (by decide) ?_
  refine gz_newa1 (N' := 400) (by decide) (by decide) (by decide) (Nat.le_of_ble_eq_true rfl) (Nat.le_of_ble_eq_true rfl) wd_433 dX9_init_10 (fun q1 hq1n => ?_)
  refine gz_gen (fun f1 hf1 => ?_)
  have hW1 : cW f x [(x, .inr (9, [.null, .int 0])), (q1, .inl (cy 1, 400, .inl (fun _ => 0)))] f1 := by rw [hf1]; exact cW_new hW0 hq1n
  refine spX9_15 (hW1.1.1 0 _ rfl) rfl (Nat.le_of_ble_eq_true rfl) dX9_init_12 ?_
  refine gz_gen (fun f2 hf2 => ?_)
  have hW2 : cW f x [(x, .inr (9, [.ref q1, .int 0])), (q1, .inl (cy 1, 400, .inl (fun _ => 0)))] f2 := by rw [hf2]; exact cW_put hW1 0 rfl
  exact gz_vret rfl dX9_init_15 (Nat.le_of_ble_eq_true rfl) (Nat.le_of_ble_eq_true rfl) (⟨rfl, _, hW2⟩)

set_option maxHeartbeats 4000000 in
set_option maxRecDepth 100000 in
theorem k_X9_init_480 {l : Launch} {D : va_G} {cy : Nat → ClassId} {b : Nat} {f : gMem} {x : Nat} (hx : f x = some (.inr (9, [.null, .int 0])))  : gC l D cy b yX9_init cX9_init 2 none 1 1 480 [.ref x, .int 480] f (pV fun f2 => ∃ q1 : Nat, cW f x [(x, .inr (9, [.ref q1, .int 0])), (q1, .inl (cy 1, 480, .inl (fun _ => 0)))] f2) := by
  refine gC_of (by decide) (Nat.le_of_ble_eq_true rfl) ?_
  show gG l _ _ _ D cy b cX9_init 2 _ RX9 "<init>" 0 0 f 0 [(0, .ref x), (1, .int 480)] []
  have hW0 : cW f x [(x, .inr (9, [.null, .int 0]))] f := cW_0 hx
  refine gz_aload_n dX9_init_0 rfl rfl ?_
  refine scX9_3 (Nat.le_of_ble_eq_true rfl) (Nat.le_of_ble_eq_true rfl) (Nat.le_of_ble_eq_true rfl) dX9_init_1 ?_
  refine gz_aload_n dX9_init_4 rfl rfl ?_
  refine gz_iload_n dX9_init_5 rfl rfl ?_
  refine gz_iconst (v := 0) dX9_init_6 (by decide) ?_
  refine scX9_9 (Nat.le_of_ble_eq_true rfl) (Nat.le_of_ble_eq_true rfl) (Nat.le_of_ble_eq_true rfl) (Nat.le_of_ble_eq_true rfl) (Nat.le_of_ble_eq_true rfl) dX9_init_7 ?_
  refine gz_ev (w := .int 480) (by decide) ?_
  refine gz_newa1 (N' := 480) (by decide) (by decide) (by decide) (Nat.le_of_ble_eq_true rfl) (Nat.le_of_ble_eq_true rfl) wd_433 dX9_init_10 (fun q1 hq1n => ?_)
  refine gz_gen (fun f1 hf1 => ?_)
  have hW1 : cW f x [(x, .inr (9, [.null, .int 0])), (q1, .inl (cy 1, 480, .inl (fun _ => 0)))] f1 := by rw [hf1]; exact cW_new hW0 hq1n
  refine spX9_15 (hW1.1.1 0 _ rfl) rfl (Nat.le_of_ble_eq_true rfl) dX9_init_12 ?_
  refine gz_gen (fun f2 hf2 => ?_)
  have hW2 : cW f x [(x, .inr (9, [.ref q1, .int 0])), (q1, .inl (cy 1, 480, .inl (fun _ => 0)))] f2 := by rw [hf2]; exact cW_put hW1 0 rfl
  exact gz_vret rfl dX9_init_15 (Nat.le_of_ble_eq_true rfl) (Nat.le_of_ble_eq_true rfl) (⟨rfl, _, hW2⟩)

set_option maxHeartbeats 4000000 in
set_option maxRecDepth 100000 in
theorem k_X2_init_40 {l : Launch} {D : va_G} {cy : Nat → ClassId} {b : Nat} {f : gMem} {x : Nat} (hx : f x = some (.inr (2, [.null, .null, .int 0, .int 0])))  : gC l D cy b yX2_init cX2_init 3 none 1 2 600 [.ref x, .int 40, .int 40] f (pV fun f2 => ∃ q1 q2 : Nat, cW f x [(x, .inr (2, [.ref q1, .ref q2, .int 0, .int 0])), (q1, .inl (cy 0, 520, .inl (fun _ => 0))), (q2, .inl (cy 0, 80, .inl (fun _ => 0)))] f2) := by
  refine gC_of (by decide) (Nat.le_of_ble_eq_true rfl) ?_
  show gG l _ _ _ D cy b cX2_init 3 _ RX2 "<init>" 0 0 f 0 [(0, .ref x), (1, .int 40), (2, .int 40)] []
  have hW0 : cW f x [(x, .inr (2, [.null, .null, .int 0, .int 0]))] f := cW_0 hx
  refine gz_aload_n dX2_init_0 rfl rfl ?_
  refine scX2_3 (Nat.le_of_ble_eq_true rfl) (Nat.le_of_ble_eq_true rfl) (Nat.le_of_ble_eq_true rfl) dX2_init_1 ?_
  refine gz_aload_n dX2_init_4 rfl rfl ?_
  refine gz_iload_n dX2_init_5 rfl rfl ?_
  refine gz_iconst (v := 0) dX2_init_6 (by decide) ?_
  refine scX2_9 (Nat.le_of_ble_eq_true rfl) (Nat.le_of_ble_eq_true rfl) (Nat.le_of_ble_eq_true rfl) (Nat.le_of_ble_eq_true rfl) (Nat.le_of_ble_eq_true rfl) dX2_init_7 ?_
  refine gz_ev (w := .int 40) (by decide) ?_
  refine gz_bipush (v := 13) dX2_init_10 (by decide) ?_
  refine gz_imul dX2_init_12 ?_
  refine gz_ev (w := .int 520) (by decide) ?_
  refine gz_newa0 (N' := 520) (by decide) (by decide) (by decide) (Nat.le_of_ble_eq_true rfl) (Nat.le_of_ble_eq_true rfl) wd_3 dX2_init_13 (fun q1 hq1n => ?_)
  refine gz_gen (fun f1 hf1 => ?_)
  have hW1 : cW f x [(x, .inr (2, [.null, .null, .int 0, .int 0])), (q1, .inl (cy 0, 520, .inl (fun _ => 0)))] f1 := by rw [hf1]; exact cW_new hW0 hq1n
  refine spX2_15 (hW1.1.1 0 _ rfl) rfl (Nat.le_of_ble_eq_true rfl) dX2_init_15 ?_
  refine gz_gen (fun f2 hf2 => ?_)
  have hW2 : cW f x [(x, .inr (2, [.ref q1, .null, .int 0, .int 0])), (q1, .inl (cy 0, 520, .inl (fun _ => 0)))] f2 := by rw [hf2]; exact cW_put hW1 0 rfl
  refine gz_aload_n dX2_init_18 rfl rfl ?_
  refine gz_iload_n dX2_init_19 rfl rfl ?_
  refine gz_iconst (v := 0) dX2_init_20 (by decide) ?_
  refine scX2_9 (Nat.le_of_ble_eq_true rfl) (Nat.le_of_ble_eq_true rfl) (Nat.le_of_ble_eq_true rfl) (Nat.le_of_ble_eq_true rfl) (Nat.le_of_ble_eq_true rfl) dX2_init_21 ?_
  refine gz_ev (w := .int 40) (by decide) ?_
  refine gz_iconst (v := 2) dX2_init_24 (by decide) ?_
  refine gz_imul dX2_init_25 ?_
  refine gz_ev (w := .int 80) (by decide) ?_
  refine gz_newa0 (N' := 80) (by decide) (by decide) (by decide) (Nat.le_of_ble_eq_true rfl) (Nat.le_of_ble_eq_true rfl) wd_3 dX2_init_26 (fun q2 hq2n => ?_)
  refine gz_gen (fun f3 hf3 => ?_)
  have hW3 : cW f x [(x, .inr (2, [.ref q1, .null, .int 0, .int 0])), (q1, .inl (cy 0, 520, .inl (fun _ => 0))), (q2, .inl (cy 0, 80, .inl (fun _ => 0)))] f3 := by rw [hf3]; exact cW_new hW2 hq2n
  refine spX2_21 (hW3.1.1 0 _ rfl) rfl (Nat.le_of_ble_eq_true rfl) dX2_init_28 ?_
  refine gz_gen (fun f4 hf4 => ?_)
  have hW4 : cW f x [(x, .inr (2, [.ref q1, .ref q2, .int 0, .int 0])), (q1, .inl (cy 0, 520, .inl (fun _ => 0))), (q2, .inl (cy 0, 80, .inl (fun _ => 0)))] f4 := by rw [hf4]; exact cW_put hW3 0 rfl
  exact gz_vret rfl dX2_init_31 (Nat.le_of_ble_eq_true rfl) (Nat.le_of_ble_eq_true rfl) (⟨rfl, _, _, hW4⟩)

set_option maxHeartbeats 4000000 in
set_option maxRecDepth 100000 in
theorem k_X2_init_0 {l : Launch} {D : va_G} {cy : Nat → ClassId} {b : Nat} {f : gMem} {x : Nat} (hx : f x = some (.inr (2, [.null, .null, .int 0, .int 0])))  : gC l D cy b yX2_init cX2_init 3 none 1 2 0 [.ref x, .int 0, .int 0] f (pV fun f2 => ∃ q1 q2 : Nat, cW f x [(x, .inr (2, [.ref q1, .ref q2, .int 0, .int 0])), (q1, .inl (cy 0, 0, .inl (fun _ => 0))), (q2, .inl (cy 0, 0, .inl (fun _ => 0)))] f2) := by
  refine gC_of (by decide) (Nat.le_of_ble_eq_true rfl) ?_
  show gG l _ _ _ D cy b cX2_init 3 _ RX2 "<init>" 0 0 f 0 [(0, .ref x), (1, .int 0), (2, .int 0)] []
  have hW0 : cW f x [(x, .inr (2, [.null, .null, .int 0, .int 0]))] f := cW_0 hx
  refine gz_aload_n dX2_init_0 rfl rfl ?_
  refine scX2_3 (Nat.le_of_ble_eq_true rfl) (Nat.le_of_ble_eq_true rfl) (Nat.le_of_ble_eq_true rfl) dX2_init_1 ?_
  refine gz_aload_n dX2_init_4 rfl rfl ?_
  refine gz_iload_n dX2_init_5 rfl rfl ?_
  refine gz_iconst (v := 0) dX2_init_6 (by decide) ?_
  refine scX2_9 (Nat.le_of_ble_eq_true rfl) (Nat.le_of_ble_eq_true rfl) (Nat.le_of_ble_eq_true rfl) (Nat.le_of_ble_eq_true rfl) (Nat.le_of_ble_eq_true rfl) dX2_init_7 ?_
  refine gz_ev (w := .int 0) (by decide) ?_
  refine gz_bipush (v := 13) dX2_init_10 (by decide) ?_
  refine gz_imul dX2_init_12 ?_
  refine gz_ev (w := .int 0) (by decide) ?_
  refine gz_newa0 (N' := 0) (by decide) (by decide) (by decide) (Nat.le_of_ble_eq_true rfl) (Nat.le_of_ble_eq_true rfl) wd_3 dX2_init_13 (fun q1 hq1n => ?_)
  refine gz_gen (fun f1 hf1 => ?_)
  have hW1 : cW f x [(x, .inr (2, [.null, .null, .int 0, .int 0])), (q1, .inl (cy 0, 0, .inl (fun _ => 0)))] f1 := by rw [hf1]; exact cW_new hW0 hq1n
  refine spX2_15 (hW1.1.1 0 _ rfl) rfl (Nat.le_of_ble_eq_true rfl) dX2_init_15 ?_
  refine gz_gen (fun f2 hf2 => ?_)
  have hW2 : cW f x [(x, .inr (2, [.ref q1, .null, .int 0, .int 0])), (q1, .inl (cy 0, 0, .inl (fun _ => 0)))] f2 := by rw [hf2]; exact cW_put hW1 0 rfl
  refine gz_aload_n dX2_init_18 rfl rfl ?_
  refine gz_iload_n dX2_init_19 rfl rfl ?_
  refine gz_iconst (v := 0) dX2_init_20 (by decide) ?_
  refine scX2_9 (Nat.le_of_ble_eq_true rfl) (Nat.le_of_ble_eq_true rfl) (Nat.le_of_ble_eq_true rfl) (Nat.le_of_ble_eq_true rfl) (Nat.le_of_ble_eq_true rfl) dX2_init_21 ?_
  refine gz_ev (w := .int 0) (by decide) ?_
  refine gz_iconst (v := 2) dX2_init_24 (by decide) ?_
  refine gz_imul dX2_init_25 ?_
  refine gz_ev (w := .int 0) (by decide) ?_
  refine gz_newa0 (N' := 0) (by decide) (by decide) (by decide) (Nat.le_of_ble_eq_true rfl) (Nat.le_of_ble_eq_true rfl) wd_3 dX2_init_26 (fun q2 hq2n => ?_)
  refine gz_gen (fun f3 hf3 => ?_)
  have hW3 : cW f x [(x, .inr (2, [.ref q1, .null, .int 0, .int 0])), (q1, .inl (cy 0, 0, .inl (fun _ => 0))), (q2, .inl (cy 0, 0, .inl (fun _ => 0)))] f3 := by rw [hf3]; exact cW_new hW2 hq2n
  refine spX2_21 (hW3.1.1 0 _ rfl) rfl (Nat.le_of_ble_eq_true rfl) dX2_init_28 ?_
  refine gz_gen (fun f4 hf4 => ?_)
  have hW4 : cW f x [(x, .inr (2, [.ref q1, .ref q2, .int 0, .int 0])), (q1, .inl (cy 0, 0, .inl (fun _ => 0))), (q2, .inl (cy 0, 0, .inl (fun _ => 0)))] f4 := by rw [hf4]; exact cW_put hW3 0 rfl
  exact gz_vret rfl dX2_init_31 (Nat.le_of_ble_eq_true rfl) (Nat.le_of_ble_eq_true rfl) (⟨rfl, _, _, hW4⟩)

set_option maxHeartbeats 4000000 in
set_option maxRecDepth 100000 in
theorem k_X6_init {l : Launch} {D : va_G} {cy : Nat → ClassId} {b : Nat} {f : gMem} {x tx dr : Nat} (hx : f x = some (.inr (6, [.null, .null, .int 0, .int 0])))  : gC l D cy b yX6_init cX6_init 3 none 1 0 0 [.ref x, .ref tx, .ref dr] f (pV fun f2 => cW f x [(x, .inr (6, [.ref tx, .ref dr, .int 0, .int 0]))] f2) := by
  refine gC_of (by decide) (Nat.le_of_ble_eq_true rfl) ?_
  show gG l _ _ _ D cy b cX6_init 3 _ RX6 "<init>" 0 0 f 0 [(0, .ref x), (1, .ref tx), (2, .ref dr)] []
  have hW0 : cW f x [(x, .inr (6, [.null, .null, .int 0, .int 0]))] f := cW_0 hx
  refine gz_aload_n dX6_init_0 rfl rfl ?_
  refine scX6_3 (Nat.le_of_ble_eq_true rfl) (Nat.le_of_ble_eq_true rfl) (Nat.le_of_ble_eq_true rfl) dX6_init_1 ?_
  refine gz_aload_n dX6_init_4 rfl rfl ?_
  refine gz_aload_n dX6_init_5 rfl rfl ?_
  refine spX6_9 (hW0.1.1 0 _ rfl) rfl (Nat.le_of_ble_eq_true rfl) dX6_init_6 ?_
  refine gz_gen (fun f1 hf1 => ?_)
  have hW1 : cW f x [(x, .inr (6, [.ref tx, .null, .int 0, .int 0]))] f1 := by rw [hf1]; exact cW_put hW0 0 rfl
  refine gz_aload_n dX6_init_9 rfl rfl ?_
  refine gz_aload_n dX6_init_10 rfl rfl ?_
  refine spX6_15 (hW1.1.1 0 _ rfl) rfl (Nat.le_of_ble_eq_true rfl) dX6_init_11 ?_
  refine gz_gen (fun f2 hf2 => ?_)
  have hW2 : cW f x [(x, .inr (6, [.ref tx, .ref dr, .int 0, .int 0]))] f2 := by rw [hf2]; exact cW_put hW1 0 rfl
  exact gz_vret rfl dX6_init_14 (Nat.le_of_ble_eq_true rfl) (Nat.le_of_ble_eq_true rfl) (⟨rfl, hW2⟩)

set_option maxHeartbeats 4000000 in
set_option maxRecDepth 100000 in
theorem k_X8_init {l : Launch} {D : va_G} {cy : Nat → ClassId} {b : Nat} {f : gMem} {x tx : Nat} (hx : f x = some (.inr (8, [.null])))  : gC l D cy b yX8_init cX8_init 2 none 1 0 0 [.ref x, .ref tx] f (pV fun f2 => cW f x [(x, .inr (8, [.ref tx]))] f2) := by
  refine gC_of (by decide) (Nat.le_of_ble_eq_true rfl) ?_
  show gG l _ _ _ D cy b cX8_init 2 _ RX8 "<init>" 0 0 f 0 [(0, .ref x), (1, .ref tx)] []
  have hW0 : cW f x [(x, .inr (8, [.null]))] f := cW_0 hx
  refine gz_aload_n dX8_init_0 rfl rfl ?_
  refine scX8_3 (Nat.le_of_ble_eq_true rfl) (Nat.le_of_ble_eq_true rfl) (Nat.le_of_ble_eq_true rfl) dX8_init_1 ?_
  refine gz_aload_n dX8_init_4 rfl rfl ?_
  refine gz_aload_n dX8_init_5 rfl rfl ?_
  refine spX8_9 (hW0.1.1 0 _ rfl) rfl (Nat.le_of_ble_eq_true rfl) dX8_init_6 ?_
  refine gz_gen (fun f1 hf1 => ?_)
  have hW1 : cW f x [(x, .inr (8, [.ref tx]))] f1 := by rw [hf1]; exact cW_put hW0 0 rfl
  exact gz_vret rfl dX8_init_9 (Nat.le_of_ble_eq_true rfl) (Nat.le_of_ble_eq_true rfl) (⟨rfl, hW1⟩)

set_option maxHeartbeats 4000000 in
set_option maxRecDepth 100000 in
theorem k_X3_init {l : Launch} {D : va_G} {cy : Nat → ClassId} {b : Nat} {f : gMem} {x : Nat} (hx : f x = some (.inr (3, [.null, .null])))  : gC l D cy b yX3_init cX3_init 1 none 2 4 644 [.ref x] f (pV fun f2 => ∃ q1 q2 q3 q4 : Nat, cW f x [(x, .inr (3, [.ref q1, .ref q4])), (q1, .inr (2, [.ref q2, .ref q3, .int 0, .int 0])), (q2, .inl (cy 0, 520, .inl (fun _ => 0))), (q3, .inl (cy 0, 80, .inl (fun _ => 0))), (q4, .inl (cy 0, 40, .inl (fun _ => 0)))] f2) := by
  refine gC_of (by decide) (Nat.le_of_ble_eq_true rfl) ?_
  show gG l _ _ _ D cy b cX3_init 1 _ RX3 "<init>" 0 0 f 0 [(0, .ref x)] []
  have hW0 : cW f x [(x, .inr (3, [.null, .null]))] f := cW_0 hx
  refine gz_aload_n dX3_init_0 rfl rfl ?_
  refine scX3_3 (Nat.le_of_ble_eq_true rfl) (Nat.le_of_ble_eq_true rfl) (Nat.le_of_ble_eq_true rfl) dX3_init_1 ?_
  refine gz_aload_n dX3_init_4 rfl rfl ?_
  refine snX3_9 (Nat.le_of_ble_eq_true rfl) (Nat.le_of_ble_eq_true rfl) dX3_init_5 (fun q1 hq1n => ?_)
  refine gz_gen (fun f1 hf1 => ?_)
  have hW1 : cW f x [(x, .inr (3, [.null, .null])), (q1, .inr (2, [.null, .null, .int 0, .int 0]))] f1 := by rw [hf1]; exact cW_new hW0 hq1n
  refine gz_dup dX3_init_8 rfl ?_
  refine gz_bipush (v := 40) dX3_init_9 (by decide) ?_
  refine gz_bipush (v := 40) dX3_init_11 (by decide) ?_
  refine scX3_11 (k_X2_init_40 (hW1.1.1 1 _ rfl)) ⟨(Nat.le_of_ble_eq_true rfl), (Nat.le_of_ble_eq_true rfl)⟩ ⟨(Nat.le_of_ble_eq_true rfl), (Nat.le_of_ble_eq_true rfl)⟩ rfl rfl (Nat.le_of_ble_eq_true rfl) dX3_init_13 ?_
  rintro f2 ⟨q2, q3, hC2⟩
  have hW2 : cW f x [(x, .inr (3, [.null, .null])), (q1, .inr (2, [.ref q2, .ref q3, .int 0, .int 0])), (q2, .inl (cy 0, 520, .inl (fun _ => 0))), (q3, .inl (cy 0, 80, .inl (fun _ => 0)))] f2 := cW_call hW1 1 (by decide) rfl hC2
  refine spX3_14 (hW2.1.1 0 _ rfl) rfl (Nat.le_of_ble_eq_true rfl) dX3_init_16 ?_
  refine gz_gen (fun f3 hf3 => ?_)
  have hW3 : cW f x [(x, .inr (3, [.ref q1, .null])), (q1, .inr (2, [.ref q2, .ref q3, .int 0, .int 0])), (q2, .inl (cy 0, 520, .inl (fun _ => 0))), (q3, .inl (cy 0, 80, .inl (fun _ => 0)))] f3 := by rw [hf3]; exact cW_put hW2 0 rfl
  refine gz_aload_n dX3_init_19 rfl rfl ?_
  refine gz_bipush (v := 40) dX3_init_20 (by decide) ?_
  refine gz_newa0 (N' := 40) (by decide) (by decide) (by decide) (Nat.le_of_ble_eq_true rfl) (Nat.le_of_ble_eq_true rfl) wd_3 dX3_init_22 (fun q4 hq4n => ?_)
  refine gz_gen (fun f4 hf4 => ?_)
  have hW4 : cW f x [(x, .inr (3, [.ref q1, .null])), (q1, .inr (2, [.ref q2, .ref q3, .int 0, .int 0])), (q2, .inl (cy 0, 520, .inl (fun _ => 0))), (q3, .inl (cy 0, 80, .inl (fun _ => 0))), (q4, .inl (cy 0, 40, .inl (fun _ => 0)))] f4 := by rw [hf4]; exact cW_new hW3 hq4n
  refine spX3_20 (hW4.1.1 0 _ rfl) rfl (Nat.le_of_ble_eq_true rfl) dX3_init_24 ?_
  refine gz_gen (fun f5 hf5 => ?_)
  have hW5 : cW f x [(x, .inr (3, [.ref q1, .ref q4])), (q1, .inr (2, [.ref q2, .ref q3, .int 0, .int 0])), (q2, .inl (cy 0, 520, .inl (fun _ => 0))), (q3, .inl (cy 0, 80, .inl (fun _ => 0))), (q4, .inl (cy 0, 40, .inl (fun _ => 0)))] f5 := by rw [hf5]; exact cW_put hW4 0 rfl
  exact gz_vret rfl dX3_init_27 (Nat.le_of_ble_eq_true rfl) (Nat.le_of_ble_eq_true rfl) (⟨rfl, _, _, _, _, hW5⟩)

set_option maxHeartbeats 4000000 in
set_option maxRecDepth 100000 in
theorem k_X4_init {l : Launch} {D : va_G} {cy : Nat → ClassId} {b : Nat} {f : gMem} {x : Nat} (hx : f x = some (.inr (4, [.null, .int 0, .int 0, .null, .null, .null, .null, .null, .int 0])))  : gC l D cy b yX4_init cX4_init 1 none 1 6 136 [.ref x] f (pV fun f2 => ∃ q1 q2 q3 q4 q5 q6 : Nat, cW f x [(x, .inr (4, [.ref q1, .int 0, .int 0, .ref q2, .ref q3, .ref q4, .ref q5, .ref q6, .int (-1)])), (q1, .inl (cy 0, 96, .inl (fun _ => 0))), (q2, .inl (cy 2, 8, .inr (.inl (fun _ => 0)))), (q3, .inl (cy 2, 8, .inr (.inl (fun _ => 0)))), (q4, .inl (cy 0, 8, .inl (fun _ => 0))), (q5, .inl (cy 0, 8, .inl (fun _ => 0))), (q6, .inl (cy 2, 8, .inr (.inl (fun _ => 0))))] f2) := by
  refine gC_of (by decide) (Nat.le_of_ble_eq_true rfl) ?_
  show gG l _ _ _ D cy b cX4_init 1 _ RX4 "<init>" 0 0 f 0 [(0, .ref x)] []
  have hW0 : cW f x [(x, .inr (4, [.null, .int 0, .int 0, .null, .null, .null, .null, .null, .int 0]))] f := cW_0 hx
  refine gz_aload_n dX4_init_0 rfl rfl ?_
  refine scX4_3 (Nat.le_of_ble_eq_true rfl) (Nat.le_of_ble_eq_true rfl) (Nat.le_of_ble_eq_true rfl) dX4_init_1 ?_
  refine gz_aload_n dX4_init_4 rfl rfl ?_
  refine gz_bipush (v := 96) dX4_init_5 (by decide) ?_
  refine gz_newa0 (N' := 96) (by decide) (by decide) (by decide) (Nat.le_of_ble_eq_true rfl) (Nat.le_of_ble_eq_true rfl) wd_3 dX4_init_7 (fun q1 hq1n => ?_)
  refine gz_gen (fun f1 hf1 => ?_)
  have hW1 : cW f x [(x, .inr (4, [.null, .int 0, .int 0, .null, .null, .null, .null, .null, .int 0])), (q1, .inl (cy 0, 96, .inl (fun _ => 0)))] f1 := by rw [hf1]; exact cW_new hW0 hq1n
  refine spX4_9 (hW1.1.1 0 _ rfl)  (Nat.le_of_ble_eq_true rfl) dX4_init_9 ?_
  refine gz_gen (fun f2 hf2 => ?_)
  have hW2 : cW f x [(x, .inr (4, [.ref q1, .int 0, .int 0, .null, .null, .null, .null, .null, .int 0])), (q1, .inl (cy 0, 96, .inl (fun _ => 0)))] f2 := by rw [hf2]; exact cW_put hW1 0 rfl
  refine gz_aload_n dX4_init_12 rfl rfl ?_
  refine gz_bipush (v := 8) dX4_init_13 (by decide) ?_
  refine gz_newa2 (N' := 8) (by decide) (by decide) (by decide) (Nat.le_of_ble_eq_true rfl) (Nat.le_of_ble_eq_true rfl) wd_236 dX4_init_15 (fun q2 hq2n => ?_)
  refine gz_gen (fun f3 hf3 => ?_)
  have hW3 : cW f x [(x, .inr (4, [.ref q1, .int 0, .int 0, .null, .null, .null, .null, .null, .int 0])), (q1, .inl (cy 0, 96, .inl (fun _ => 0))), (q2, .inl (cy 2, 8, .inr (.inl (fun _ => 0))))] f3 := by rw [hf3]; exact cW_new hW2 hq2n
  refine spX4_15 (hW3.1.1 0 _ rfl) rfl (Nat.le_of_ble_eq_true rfl) dX4_init_17 ?_
  refine gz_gen (fun f4 hf4 => ?_)
  have hW4 : cW f x [(x, .inr (4, [.ref q1, .int 0, .int 0, .ref q2, .null, .null, .null, .null, .int 0])), (q1, .inl (cy 0, 96, .inl (fun _ => 0))), (q2, .inl (cy 2, 8, .inr (.inl (fun _ => 0))))] f4 := by rw [hf4]; exact cW_put hW3 0 rfl
  refine gz_aload_n dX4_init_20 rfl rfl ?_
  refine gz_bipush (v := 8) dX4_init_21 (by decide) ?_
  refine gz_newa2 (N' := 8) (by decide) (by decide) (by decide) (Nat.le_of_ble_eq_true rfl) (Nat.le_of_ble_eq_true rfl) wd_236 dX4_init_23 (fun q3 hq3n => ?_)
  refine gz_gen (fun f5 hf5 => ?_)
  have hW5 : cW f x [(x, .inr (4, [.ref q1, .int 0, .int 0, .ref q2, .null, .null, .null, .null, .int 0])), (q1, .inl (cy 0, 96, .inl (fun _ => 0))), (q2, .inl (cy 2, 8, .inr (.inl (fun _ => 0)))), (q3, .inl (cy 2, 8, .inr (.inl (fun _ => 0))))] f5 := by rw [hf5]; exact cW_new hW4 hq3n
  refine spX4_19 (hW5.1.1 0 _ rfl) rfl (Nat.le_of_ble_eq_true rfl) dX4_init_25 ?_
  refine gz_gen (fun f6 hf6 => ?_)
  have hW6 : cW f x [(x, .inr (4, [.ref q1, .int 0, .int 0, .ref q2, .ref q3, .null, .null, .null, .int 0])), (q1, .inl (cy 0, 96, .inl (fun _ => 0))), (q2, .inl (cy 2, 8, .inr (.inl (fun _ => 0)))), (q3, .inl (cy 2, 8, .inr (.inl (fun _ => 0))))] f6 := by rw [hf6]; exact cW_put hW5 0 rfl
  refine gz_aload_n dX4_init_28 rfl rfl ?_
  refine gz_bipush (v := 8) dX4_init_29 (by decide) ?_
  refine gz_newa0 (N' := 8) (by decide) (by decide) (by decide) (Nat.le_of_ble_eq_true rfl) (Nat.le_of_ble_eq_true rfl) wd_3 dX4_init_31 (fun q4 hq4n => ?_)
  refine gz_gen (fun f7 hf7 => ?_)
  have hW7 : cW f x [(x, .inr (4, [.ref q1, .int 0, .int 0, .ref q2, .ref q3, .null, .null, .null, .int 0])), (q1, .inl (cy 0, 96, .inl (fun _ => 0))), (q2, .inl (cy 2, 8, .inr (.inl (fun _ => 0)))), (q3, .inl (cy 2, 8, .inr (.inl (fun _ => 0)))), (q4, .inl (cy 0, 8, .inl (fun _ => 0)))] f7 := by rw [hf7]; exact cW_new hW6 hq4n
  refine spX4_22 (hW7.1.1 0 _ rfl) rfl (Nat.le_of_ble_eq_true rfl) dX4_init_33 ?_
  refine gz_gen (fun f8 hf8 => ?_)
  have hW8 : cW f x [(x, .inr (4, [.ref q1, .int 0, .int 0, .ref q2, .ref q3, .ref q4, .null, .null, .int 0])), (q1, .inl (cy 0, 96, .inl (fun _ => 0))), (q2, .inl (cy 2, 8, .inr (.inl (fun _ => 0)))), (q3, .inl (cy 2, 8, .inr (.inl (fun _ => 0)))), (q4, .inl (cy 0, 8, .inl (fun _ => 0)))] f8 := by rw [hf8]; exact cW_put hW7 0 rfl
  refine gz_aload_n dX4_init_36 rfl rfl ?_
  refine gz_bipush (v := 8) dX4_init_37 (by decide) ?_
  refine gz_newa0 (N' := 8) (by decide) (by decide) (by decide) (Nat.le_of_ble_eq_true rfl) (Nat.le_of_ble_eq_true rfl) wd_3 dX4_init_39 (fun q5 hq5n => ?_)
  refine gz_gen (fun f9 hf9 => ?_)
  have hW9 : cW f x [(x, .inr (4, [.ref q1, .int 0, .int 0, .ref q2, .ref q3, .ref q4, .null, .null, .int 0])), (q1, .inl (cy 0, 96, .inl (fun _ => 0))), (q2, .inl (cy 2, 8, .inr (.inl (fun _ => 0)))), (q3, .inl (cy 2, 8, .inr (.inl (fun _ => 0)))), (q4, .inl (cy 0, 8, .inl (fun _ => 0))), (q5, .inl (cy 0, 8, .inl (fun _ => 0)))] f9 := by rw [hf9]; exact cW_new hW8 hq5n
  refine spX4_25 (hW9.1.1 0 _ rfl) rfl (Nat.le_of_ble_eq_true rfl) dX4_init_41 ?_
  refine gz_gen (fun f10 hf10 => ?_)
  have hW10 : cW f x [(x, .inr (4, [.ref q1, .int 0, .int 0, .ref q2, .ref q3, .ref q4, .ref q5, .null, .int 0])), (q1, .inl (cy 0, 96, .inl (fun _ => 0))), (q2, .inl (cy 2, 8, .inr (.inl (fun _ => 0)))), (q3, .inl (cy 2, 8, .inr (.inl (fun _ => 0)))), (q4, .inl (cy 0, 8, .inl (fun _ => 0))), (q5, .inl (cy 0, 8, .inl (fun _ => 0)))] f10 := by rw [hf10]; exact cW_put hW9 0 rfl
  refine gz_aload_n dX4_init_44 rfl rfl ?_
  refine gz_bipush (v := 8) dX4_init_45 (by decide) ?_
  refine gz_newa2 (N' := 8) (by decide) (by decide) (by decide) (Nat.le_of_ble_eq_true rfl) (Nat.le_of_ble_eq_true rfl) wd_236 dX4_init_47 (fun q6 hq6n => ?_)
  refine gz_gen (fun f11 hf11 => ?_)
  have hW11 : cW f x [(x, .inr (4, [.ref q1, .int 0, .int 0, .ref q2, .ref q3, .ref q4, .ref q5, .null, .int 0])), (q1, .inl (cy 0, 96, .inl (fun _ => 0))), (q2, .inl (cy 2, 8, .inr (.inl (fun _ => 0)))), (q3, .inl (cy 2, 8, .inr (.inl (fun _ => 0)))), (q4, .inl (cy 0, 8, .inl (fun _ => 0))), (q5, .inl (cy 0, 8, .inl (fun _ => 0))), (q6, .inl (cy 2, 8, .inr (.inl (fun _ => 0))))] f11 := by rw [hf11]; exact cW_new hW10 hq6n
  refine spX4_28 (hW11.1.1 0 _ rfl) rfl (Nat.le_of_ble_eq_true rfl) dX4_init_49 ?_
  refine gz_gen (fun f12 hf12 => ?_)
  have hW12 : cW f x [(x, .inr (4, [.ref q1, .int 0, .int 0, .ref q2, .ref q3, .ref q4, .ref q5, .ref q6, .int 0])), (q1, .inl (cy 0, 96, .inl (fun _ => 0))), (q2, .inl (cy 2, 8, .inr (.inl (fun _ => 0)))), (q3, .inl (cy 2, 8, .inr (.inl (fun _ => 0)))), (q4, .inl (cy 0, 8, .inl (fun _ => 0))), (q5, .inl (cy 0, 8, .inl (fun _ => 0))), (q6, .inl (cy 2, 8, .inr (.inl (fun _ => 0))))] f12 := by rw [hf12]; exact cW_put hW11 0 rfl
  refine gz_aload_n dX4_init_52 rfl rfl ?_
  refine gz_iconst (v := (-1)) dX4_init_53 (by decide) ?_
  refine spX4_31 (hW12.1.1 0 _ rfl)  (Nat.le_of_ble_eq_true rfl) dX4_init_54 ?_
  refine gz_gen (fun f13 hf13 => ?_)
  have hW13 : cW f x [(x, .inr (4, [.ref q1, .int 0, .int 0, .ref q2, .ref q3, .ref q4, .ref q5, .ref q6, .int (-1)])), (q1, .inl (cy 0, 96, .inl (fun _ => 0))), (q2, .inl (cy 2, 8, .inr (.inl (fun _ => 0)))), (q3, .inl (cy 2, 8, .inr (.inl (fun _ => 0)))), (q4, .inl (cy 0, 8, .inl (fun _ => 0))), (q5, .inl (cy 0, 8, .inl (fun _ => 0))), (q6, .inl (cy 2, 8, .inr (.inl (fun _ => 0))))] f13 := by rw [hf13]; exact cW_put hW12 0 rfl
  exact gz_vret rfl dX4_init_57 (Nat.le_of_ble_eq_true rfl) (Nat.le_of_ble_eq_true rfl) (⟨rfl, _, _, _, _, _, _, hW13⟩)

set_option maxHeartbeats 4000000 in
set_option maxRecDepth 100000 in
theorem k_X1_init {l : Launch} {D : va_G} {cy : Nat → ClassId} {b : Nat} {f : gMem} {x td le : Nat} (hx : f x = some (.inr (1, [.null, .null, .null, .int 0])))  : gC l D cy b yX1_init cX1_init 3 none 1 1 40 [.ref x, .ref td, .ref le] f (pV fun f2 => ∃ q1 : Nat, cW f x [(x, .inr (1, [.ref q1, .ref td, .ref le, .int 0])), (q1, .inl (cy 5, 40, .inr (.inr (.inr (.inr (fun _ => none))))))] f2) := by
  refine gC_of (by decide) (Nat.le_of_ble_eq_true rfl) ?_
  show gG l _ _ _ D cy b cX1_init 3 _ RX1 "<init>" 0 0 f 0 [(0, .ref x), (1, .ref td), (2, .ref le)] []
  have hW0 : cW f x [(x, .inr (1, [.null, .null, .null, .int 0]))] f := cW_0 hx
  refine gz_aload_n dX1_init_0 rfl rfl ?_
  refine scX1_3 (Nat.le_of_ble_eq_true rfl) (Nat.le_of_ble_eq_true rfl) (Nat.le_of_ble_eq_true rfl) dX1_init_1 ?_
  refine gz_aload_n dX1_init_4 rfl rfl ?_
  refine gz_bipush (v := 40) dX1_init_5 (by decide) ?_
  refine gz_newa5 (N' := 40) (by decide) (by decide) (by decide) (Nat.le_of_ble_eq_true rfl) (Nat.le_of_ble_eq_true rfl) wd_21 dX1_init_7 (fun q1 hq1n => ?_)
  refine gz_gen (fun f1 hf1 => ?_)
  have hW1 : cW f x [(x, .inr (1, [.null, .null, .null, .int 0])), (q1, .inl (cy 5, 40, .inr (.inr (.inr (.inr (fun _ => none))))))] f1 := by rw [hf1]; exact cW_new hW0 hq1n
  refine spX1_11 (hW1.1.1 0 _ rfl) rfl (Nat.le_of_ble_eq_true rfl) dX1_init_10 ?_
  refine gz_gen (fun f2 hf2 => ?_)
  have hW2 : cW f x [(x, .inr (1, [.ref q1, .null, .null, .int 0])), (q1, .inl (cy 5, 40, .inr (.inr (.inr (.inr (fun _ => none))))))] f2 := by rw [hf2]; exact cW_put hW1 0 rfl
  refine gz_aload_n dX1_init_13 rfl rfl ?_
  refine gz_aload_n dX1_init_14 rfl rfl ?_
  refine spX1_17 (hW2.1.1 0 _ rfl) rfl (Nat.le_of_ble_eq_true rfl) dX1_init_15 ?_
  refine gz_gen (fun f3 hf3 => ?_)
  have hW3 : cW f x [(x, .inr (1, [.ref q1, .ref td, .null, .int 0])), (q1, .inl (cy 5, 40, .inr (.inr (.inr (.inr (fun _ => none))))))] f3 := by rw [hf3]; exact cW_put hW2 0 rfl
  refine gz_aload_n dX1_init_18 rfl rfl ?_
  refine gz_aload_n dX1_init_19 rfl rfl ?_
  refine spX1_21 (hW3.1.1 0 _ rfl) rfl (Nat.le_of_ble_eq_true rfl) dX1_init_20 ?_
  refine gz_gen (fun f4 hf4 => ?_)
  have hW4 : cW f x [(x, .inr (1, [.ref q1, .ref td, .ref le, .int 0])), (q1, .inl (cy 5, 40, .inr (.inr (.inr (.inr (fun _ => none))))))] f4 := by rw [hf4]; exact cW_put hW3 0 rfl
  exact gz_vret rfl dX1_init_23 (Nat.le_of_ble_eq_true rfl) (Nat.le_of_ble_eq_true rfl) (⟨rfl, _, hW4⟩)

set_option maxHeartbeats 4000000 in
set_option maxRecDepth 100000 in
theorem k_X10_init {l : Launch} {D : va_G} {cy : Nat → ClassId} {b : Nat} {f : gMem} {x td : Nat} (hx : f x = some (.inr (10, [.int 0, .null, .null, .null, .null, .null, .null, .int 0, .int 0])))  : gC l D cy b yX10_init cX10_init 3 none 2 17 75 [.ref x, .ref td] f (pV fun f2 => ∃ q1 q2 q3 q4 q5 q6 q7 q8 q9 q11 q12 q14 q15 q17 q18 q20 q21 : Nat, cW f x [(x, .inr (10, [.int 1, .ref q1, .ref q2, .ref q3, .ref q4, .ref td, .ref q5, .int 0, .int 0])), (q1, .inl (cy 0, 3, .inl (upd (fun _ => 0) (Int32.toNatClampNeg 0) 1))), (q2, .inl (cy 0, 18, .inl (fun _ => 0))), (q3, .inl (cy 6, 5, .inr (.inr (.inr (.inr (va_up (va_up (va_up (va_up (va_up (fun _ => none) (Int32.toNatClampNeg 0) (some q8)) (Int32.toNatClampNeg 1) (some q11)) (Int32.toNatClampNeg 2) (some q14)) (Int32.toNatClampNeg 3) (some q17)) (Int32.toNatClampNeg 4) (some q20))))))), (q4, .inl (cy 2, 5, .inr (.inl (fun _ => 0)))), (q5, .inr (2, [.ref q6, .ref q7, .int 0, .int 0])), (q6, .inl (cy 0, 0, .inl (fun _ => 0))), (q7, .inl (cy 0, 0, .inl (fun _ => 0))), (q8, .inr (7, [.ref q9, .int 0])), (q9, .inl (cy 0, 6, .inl (fun _ => 0))), (q11, .inr (7, [.ref q12, .int 0])), (q12, .inl (cy 0, 6, .inl (fun _ => 0))), (q14, .inr (7, [.ref q15, .int 0])), (q15, .inl (cy 0, 6, .inl (fun _ => 0))), (q17, .inr (7, [.ref q18, .int 0])), (q18, .inl (cy 0, 6, .inl (fun _ => 0))), (q20, .inr (7, [.ref q21, .int 0])), (q21, .inl (cy 0, 6, .inl (fun _ => 0)))] f2) := by
  refine gC_of (by decide) (Nat.le_of_ble_eq_true rfl) ?_
  show gG l _ _ _ D cy b cX10_init 3 _ RX10 "<init>" 0 0 f 0 [(0, .ref x), (1, .ref td)] []
  have hW0 : cW f x [(x, .inr (10, [.int 0, .null, .null, .null, .null, .null, .null, .int 0, .int 0]))] f := cW_0 hx
  refine gz_aload_n dX10_init_0 rfl rfl ?_
  refine scX10_3 (Nat.le_of_ble_eq_true rfl) (Nat.le_of_ble_eq_true rfl) (Nat.le_of_ble_eq_true rfl) dX10_init_1 ?_
  refine gz_aload_n dX10_init_4 rfl rfl ?_
  refine gz_iconst (v := 1) dX10_init_5 (by decide) ?_
  refine spX10_9 (hW0.1.1 0 _ rfl)  (Nat.le_of_ble_eq_true rfl) dX10_init_6 ?_
  refine gz_gen (fun f1 hf1 => ?_)
  have hW1 : cW f x [(x, .inr (10, [.int 1, .null, .null, .null, .null, .null, .null, .int 0, .int 0]))] f1 := by rw [hf1]; exact cW_put hW0 0 rfl
  refine gz_aload_n dX10_init_9 rfl rfl ?_
  refine gz_iconst (v := 3) dX10_init_10 (by decide) ?_
  refine gz_newa0 (N' := 3) (by decide) (by decide) (by decide) (Nat.le_of_ble_eq_true rfl) (Nat.le_of_ble_eq_true rfl) wd_3 dX10_init_11 (fun q1 hq1n => ?_)
  refine gz_gen (fun f2 hf2 => ?_)
  have hW2 : cW f x [(x, .inr (10, [.int 1, .null, .null, .null, .null, .null, .null, .int 0, .int 0])), (q1, .inl (cy 0, 3, .inl (fun _ => 0)))] f2 := by rw [hf2]; exact cW_new hW1 hq1n
  refine spX10_15 (hW2.1.1 0 _ rfl) rfl (Nat.le_of_ble_eq_true rfl) dX10_init_13 ?_
  refine gz_gen (fun f3 hf3 => ?_)
  have hW3 : cW f x [(x, .inr (10, [.int 1, .ref q1, .null, .null, .null, .null, .null, .int 0, .int 0])), (q1, .inl (cy 0, 3, .inl (fun _ => 0)))] f3 := by rw [hf3]; exact cW_put hW2 0 rfl
  refine gz_aload_n dX10_init_16 rfl rfl ?_
  refine gz_bipush (v := 18) dX10_init_17 (by decide) ?_
  refine gz_newa0 (N' := 18) (by decide) (by decide) (by decide) (Nat.le_of_ble_eq_true rfl) (Nat.le_of_ble_eq_true rfl) wd_3 dX10_init_19 (fun q2 hq2n => ?_)
  refine gz_gen (fun f4 hf4 => ?_)
  have hW4 : cW f x [(x, .inr (10, [.int 1, .ref q1, .null, .null, .null, .null, .null, .int 0, .int 0])), (q1, .inl (cy 0, 3, .inl (fun _ => 0))), (q2, .inl (cy 0, 18, .inl (fun _ => 0)))] f4 := by rw [hf4]; exact cW_new hW3 hq2n
  refine spX10_19 (hW4.1.1 0 _ rfl) rfl (Nat.le_of_ble_eq_true rfl) dX10_init_21 ?_
  refine gz_gen (fun f5 hf5 => ?_)
  have hW5 : cW f x [(x, .inr (10, [.int 1, .ref q1, .ref q2, .null, .null, .null, .null, .int 0, .int 0])), (q1, .inl (cy 0, 3, .inl (fun _ => 0))), (q2, .inl (cy 0, 18, .inl (fun _ => 0)))] f5 := by rw [hf5]; exact cW_put hW4 0 rfl
  refine gz_aload_n dX10_init_24 rfl rfl ?_
  refine gz_iconst (v := 5) dX10_init_25 (by decide) ?_
  refine gz_newa6 (N' := 5) (by decide) (by decide) (by decide) (Nat.le_of_ble_eq_true rfl) (Nat.le_of_ble_eq_true rfl) wd_441 dX10_init_26 (fun q3 hq3n => ?_)
  refine gz_gen (fun f6 hf6 => ?_)
  have hW6 : cW f x [(x, .inr (10, [.int 1, .ref q1, .ref q2, .null, .null, .null, .null, .int 0, .int 0])), (q1, .inl (cy 0, 3, .inl (fun _ => 0))), (q2, .inl (cy 0, 18, .inl (fun _ => 0))), (q3, .inl (cy 6, 5, .inr (.inr (.inr (.inr (fun _ => none))))))] f6 := by rw [hf6]; exact cW_new hW5 hq3n
  refine spX10_24 (hW6.1.1 0 _ rfl) rfl (Nat.le_of_ble_eq_true rfl) dX10_init_29 ?_
  refine gz_gen (fun f7 hf7 => ?_)
  have hW7 : cW f x [(x, .inr (10, [.int 1, .ref q1, .ref q2, .ref q3, .null, .null, .null, .int 0, .int 0])), (q1, .inl (cy 0, 3, .inl (fun _ => 0))), (q2, .inl (cy 0, 18, .inl (fun _ => 0))), (q3, .inl (cy 6, 5, .inr (.inr (.inr (.inr (fun _ => none))))))] f7 := by rw [hf7]; exact cW_put hW6 0 rfl
  refine gz_aload_n dX10_init_32 rfl rfl ?_
  refine gz_iconst (v := 5) dX10_init_33 (by decide) ?_
  refine gz_newa2 (N' := 5) (by decide) (by decide) (by decide) (Nat.le_of_ble_eq_true rfl) (Nat.le_of_ble_eq_true rfl) wd_236 dX10_init_34 (fun q4 hq4n => ?_)
  refine gz_gen (fun f8 hf8 => ?_)
  have hW8 : cW f x [(x, .inr (10, [.int 1, .ref q1, .ref q2, .ref q3, .null, .null, .null, .int 0, .int 0])), (q1, .inl (cy 0, 3, .inl (fun _ => 0))), (q2, .inl (cy 0, 18, .inl (fun _ => 0))), (q3, .inl (cy 6, 5, .inr (.inr (.inr (.inr (fun _ => none)))))), (q4, .inl (cy 2, 5, .inr (.inl (fun _ => 0))))] f8 := by rw [hf8]; exact cW_new hW7 hq4n
  refine spX10_28 (hW8.1.1 0 _ rfl) rfl (Nat.le_of_ble_eq_true rfl) dX10_init_36 ?_
  refine gz_gen (fun f9 hf9 => ?_)
  have hW9 : cW f x [(x, .inr (10, [.int 1, .ref q1, .ref q2, .ref q3, .ref q4, .null, .null, .int 0, .int 0])), (q1, .inl (cy 0, 3, .inl (fun _ => 0))), (q2, .inl (cy 0, 18, .inl (fun _ => 0))), (q3, .inl (cy 6, 5, .inr (.inr (.inr (.inr (fun _ => none)))))), (q4, .inl (cy 2, 5, .inr (.inl (fun _ => 0))))] f9 := by rw [hf9]; exact cW_put hW8 0 rfl
  refine gz_aload_n dX10_init_39 rfl rfl ?_
  refine snX10_32 (Nat.le_of_ble_eq_true rfl) (Nat.le_of_ble_eq_true rfl) dX10_init_40 (fun q5 hq5n => ?_)
  refine gz_gen (fun f10 hf10 => ?_)
  have hW10 : cW f x [(x, .inr (10, [.int 1, .ref q1, .ref q2, .ref q3, .ref q4, .null, .null, .int 0, .int 0])), (q1, .inl (cy 0, 3, .inl (fun _ => 0))), (q2, .inl (cy 0, 18, .inl (fun _ => 0))), (q3, .inl (cy 6, 5, .inr (.inr (.inr (.inr (fun _ => none)))))), (q4, .inl (cy 2, 5, .inr (.inl (fun _ => 0)))), (q5, .inr (2, [.null, .null, .int 0, .int 0]))] f10 := by rw [hf10]; exact cW_new hW9 hq5n
  refine gz_dup dX10_init_43 rfl ?_
  refine gz_iconst (v := 0) dX10_init_44 (by decide) ?_
  refine gz_iconst (v := 0) dX10_init_45 (by decide) ?_
  refine scX10_34 (k_X2_init_0 (hW10.1.1 5 _ rfl)) ⟨(Nat.le_of_ble_eq_true rfl), (Nat.le_of_ble_eq_true rfl)⟩ ⟨(Nat.le_of_ble_eq_true rfl), (Nat.le_of_ble_eq_true rfl)⟩ rfl rfl (Nat.le_of_ble_eq_true rfl) dX10_init_46 ?_
  rintro f11 ⟨q6, q7, hC11⟩
  have hW11 : cW f x [(x, .inr (10, [.int 1, .ref q1, .ref q2, .ref q3, .ref q4, .null, .null, .int 0, .int 0])), (q1, .inl (cy 0, 3, .inl (fun _ => 0))), (q2, .inl (cy 0, 18, .inl (fun _ => 0))), (q3, .inl (cy 6, 5, .inr (.inr (.inr (.inr (fun _ => none)))))), (q4, .inl (cy 2, 5, .inr (.inl (fun _ => 0)))), (q5, .inr (2, [.ref q6, .ref q7, .int 0, .int 0])), (q6, .inl (cy 0, 0, .inl (fun _ => 0))), (q7, .inl (cy 0, 0, .inl (fun _ => 0)))] f11 := cW_call hW10 5 (by decide) rfl hC11
  refine spX10_37 (hW11.1.1 0 _ rfl)  (Nat.le_of_ble_eq_true rfl) dX10_init_49 ?_
  refine gz_gen (fun f12 hf12 => ?_)
  have hW12 : cW f x [(x, .inr (10, [.int 1, .ref q1, .ref q2, .ref q3, .ref q4, .null, .ref q5, .int 0, .int 0])), (q1, .inl (cy 0, 3, .inl (fun _ => 0))), (q2, .inl (cy 0, 18, .inl (fun _ => 0))), (q3, .inl (cy 6, 5, .inr (.inr (.inr (.inr (fun _ => none)))))), (q4, .inl (cy 2, 5, .inr (.inl (fun _ => 0)))), (q5, .inr (2, [.ref q6, .ref q7, .int 0, .int 0])), (q6, .inl (cy 0, 0, .inl (fun _ => 0))), (q7, .inl (cy 0, 0, .inl (fun _ => 0)))] f12 := by rw [hf12]; exact cW_put hW11 0 rfl
  refine gz_aload_n dX10_init_52 rfl rfl ?_
  refine gz_aload_n dX10_init_53 rfl rfl ?_
  refine spX10_41 (hW12.1.1 0 _ rfl) rfl (Nat.le_of_ble_eq_true rfl) dX10_init_54 ?_
  refine gz_gen (fun f13 hf13 => ?_)
  have hW13 : cW f x [(x, .inr (10, [.int 1, .ref q1, .ref q2, .ref q3, .ref q4, .ref td, .ref q5, .int 0, .int 0])), (q1, .inl (cy 0, 3, .inl (fun _ => 0))), (q2, .inl (cy 0, 18, .inl (fun _ => 0))), (q3, .inl (cy 6, 5, .inr (.inr (.inr (.inr (fun _ => none)))))), (q4, .inl (cy 2, 5, .inr (.inl (fun _ => 0)))), (q5, .inr (2, [.ref q6, .ref q7, .int 0, .int 0])), (q6, .inl (cy 0, 0, .inl (fun _ => 0))), (q7, .inl (cy 0, 0, .inl (fun _ => 0)))] f13 := by rw [hf13]; exact cW_put hW12 0 rfl
  refine gz_iconst (v := 0) dX10_init_57 (by decide) ?_
  refine gz_istore_n (lv' := [(2, .int 0), (0, .ref x), (1, .ref td)]) dX10_init_58 rfl (by decide) rfl ?_
  refine gz_iload_n dX10_init_59 rfl rfl ?_
  refine gz_aload_n dX10_init_60 rfl rfl ?_
  refine sgX10_24 (hW13.1.1 0 _ rfl) rfl dX10_init_61 ?_
  refine gz_alen6 (v := 5) (hW13.1.1 3 _ rfl) (by decide) dX10_init_64 ?_
  refine gz_icmp_ge (tgt := 87) dX10_init_65 (by decide) (fun c_65 => ?_) (fun c_65 => ?_)
  · exact absurd c_65 (by decide)
  ·
    refine gz_aload_n dX10_init_68 rfl rfl ?_
    refine sgX10_24 (hW13.1.1 0 _ rfl) rfl dX10_init_69 ?_
    refine gz_iload_n dX10_init_72 rfl rfl ?_
    refine snX10_22 (Nat.le_of_ble_eq_true rfl) (Nat.le_of_ble_eq_true rfl) dX10_init_73 (fun q8 hq8n => ?_)
    refine gz_gen (fun f14 hf14 => ?_)
    have hW14 : cW f x [(x, .inr (10, [.int 1, .ref q1, .ref q2, .ref q3, .ref q4, .ref td, .ref q5, .int 0, .int 0])), (q1, .inl (cy 0, 3, .inl (fun _ => 0))), (q2, .inl (cy 0, 18, .inl (fun _ => 0))), (q3, .inl (cy 6, 5, .inr (.inr (.inr (.inr (fun _ => none)))))), (q4, .inl (cy 2, 5, .inr (.inl (fun _ => 0)))), (q5, .inr (2, [.ref q6, .ref q7, .int 0, .int 0])), (q6, .inl (cy 0, 0, .inl (fun _ => 0))), (q7, .inl (cy 0, 0, .inl (fun _ => 0))), (q8, .inr (7, [.null, .int 0]))] f14 := by rw [hf14]; exact cW_new hW13 hq8n
    refine gz_dup dX10_init_76 rfl ?_
    refine scX10_45 (k_X7_init (hW14.1.1 8 _ rfl)) ⟨(Nat.le_of_ble_eq_true rfl), (Nat.le_of_ble_eq_true rfl)⟩ ⟨(Nat.le_of_ble_eq_true rfl), (Nat.le_of_ble_eq_true rfl)⟩ rfl rfl (Nat.le_of_ble_eq_true rfl) dX10_init_77 ?_
    rintro f15 ⟨q9, hC15⟩
    have hW15 : cW f x [(x, .inr (10, [.int 1, .ref q1, .ref q2, .ref q3, .ref q4, .ref td, .ref q5, .int 0, .int 0])), (q1, .inl (cy 0, 3, .inl (fun _ => 0))), (q2, .inl (cy 0, 18, .inl (fun _ => 0))), (q3, .inl (cy 6, 5, .inr (.inr (.inr (.inr (fun _ => none)))))), (q4, .inl (cy 2, 5, .inr (.inl (fun _ => 0)))), (q5, .inr (2, [.ref q6, .ref q7, .int 0, .int 0])), (q6, .inl (cy 0, 0, .inl (fun _ => 0))), (q7, .inl (cy 0, 0, .inl (fun _ => 0))), (q8, .inr (7, [.ref q9, .int 0])), (q9, .inl (cy 0, 6, .inl (fun _ => 0)))] f15 := cW_call hW14 8 (by decide) rfl hC15
    refine gz_aast6 (hW15.1.1 3 _ rfl) (hW15.1.1 8 _ rfl) (vin_T (v := 0) rfl (by decide) (by decide)) dX10_init_80 ?_
    refine gz_gen (fun f16 hf16 => ?_)
    have hW16 : cW f x [(x, .inr (10, [.int 1, .ref q1, .ref q2, .ref q3, .ref q4, .ref td, .ref q5, .int 0, .int 0])), (q1, .inl (cy 0, 3, .inl (fun _ => 0))), (q2, .inl (cy 0, 18, .inl (fun _ => 0))), (q3, .inl (cy 6, 5, .inr (.inr (.inr (.inr (va_up (fun _ => none) (Int32.toNatClampNeg 0) (some q8))))))), (q4, .inl (cy 2, 5, .inr (.inl (fun _ => 0)))), (q5, .inr (2, [.ref q6, .ref q7, .int 0, .int 0])), (q6, .inl (cy 0, 0, .inl (fun _ => 0))), (q7, .inl (cy 0, 0, .inl (fun _ => 0))), (q8, .inr (7, [.ref q9, .int 0])), (q9, .inl (cy 0, 6, .inl (fun _ => 0)))] f16 := by rw [hf16]; exact cW_put hW15 3 rfl
    refine gz_iinc (v := 1) (lv' := [(2, .int 1), (0, .ref x), (1, .ref td)]) dX10_init_81 rfl (by decide) (by decide) rfl ?_
    refine gz_goto (tgt := 59) dX10_init_84 (by decide) ?_
    refine gz_iload_n dX10_init_59 rfl rfl ?_
    refine gz_aload_n dX10_init_60 rfl rfl ?_
    refine sgX10_24 (hW16.1.1 0 _ rfl) rfl dX10_init_61 ?_
    refine gz_alen6 (v := 5) (hW16.1.1 3 _ rfl) (by decide) dX10_init_64 ?_
    refine gz_icmp_ge (tgt := 87) dX10_init_65 (by decide) (fun c_65_10 => ?_) (fun c_65_10 => ?_)
    · exact absurd c_65_10 (by decide)
    ·
      refine gz_aload_n dX10_init_68 rfl rfl ?_
      refine sgX10_24 (hW16.1.1 0 _ rfl) rfl dX10_init_69 ?_
      refine gz_iload_n dX10_init_72 rfl rfl ?_
      refine snX10_22 (Nat.le_of_ble_eq_true rfl) (Nat.le_of_ble_eq_true rfl) dX10_init_73 (fun q11 hq11n => ?_)
      refine gz_gen (fun f17 hf17 => ?_)
      have hW17 : cW f x [(x, .inr (10, [.int 1, .ref q1, .ref q2, .ref q3, .ref q4, .ref td, .ref q5, .int 0, .int 0])), (q1, .inl (cy 0, 3, .inl (fun _ => 0))), (q2, .inl (cy 0, 18, .inl (fun _ => 0))), (q3, .inl (cy 6, 5, .inr (.inr (.inr (.inr (va_up (fun _ => none) (Int32.toNatClampNeg 0) (some q8))))))), (q4, .inl (cy 2, 5, .inr (.inl (fun _ => 0)))), (q5, .inr (2, [.ref q6, .ref q7, .int 0, .int 0])), (q6, .inl (cy 0, 0, .inl (fun _ => 0))), (q7, .inl (cy 0, 0, .inl (fun _ => 0))), (q8, .inr (7, [.ref q9, .int 0])), (q9, .inl (cy 0, 6, .inl (fun _ => 0))), (q11, .inr (7, [.null, .int 0]))] f17 := by rw [hf17]; exact cW_new hW16 hq11n
      refine gz_dup dX10_init_76 rfl ?_
      refine scX10_45 (k_X7_init (hW17.1.1 10 _ rfl)) ⟨(Nat.le_of_ble_eq_true rfl), (Nat.le_of_ble_eq_true rfl)⟩ ⟨(Nat.le_of_ble_eq_true rfl), (Nat.le_of_ble_eq_true rfl)⟩ rfl rfl (Nat.le_of_ble_eq_true rfl) dX10_init_77 ?_
      rintro f18 ⟨q12, hC18⟩
      have hW18 : cW f x [(x, .inr (10, [.int 1, .ref q1, .ref q2, .ref q3, .ref q4, .ref td, .ref q5, .int 0, .int 0])), (q1, .inl (cy 0, 3, .inl (fun _ => 0))), (q2, .inl (cy 0, 18, .inl (fun _ => 0))), (q3, .inl (cy 6, 5, .inr (.inr (.inr (.inr (va_up (fun _ => none) (Int32.toNatClampNeg 0) (some q8))))))), (q4, .inl (cy 2, 5, .inr (.inl (fun _ => 0)))), (q5, .inr (2, [.ref q6, .ref q7, .int 0, .int 0])), (q6, .inl (cy 0, 0, .inl (fun _ => 0))), (q7, .inl (cy 0, 0, .inl (fun _ => 0))), (q8, .inr (7, [.ref q9, .int 0])), (q9, .inl (cy 0, 6, .inl (fun _ => 0))), (q11, .inr (7, [.ref q12, .int 0])), (q12, .inl (cy 0, 6, .inl (fun _ => 0)))] f18 := cW_call hW17 10 (by decide) rfl hC18
      refine gz_aast6 (hW18.1.1 3 _ rfl) (hW18.1.1 10 _ rfl) (vin_T (v := 1) rfl (by decide) (by decide)) dX10_init_80 ?_
      refine gz_gen (fun f19 hf19 => ?_)
      have hW19 : cW f x [(x, .inr (10, [.int 1, .ref q1, .ref q2, .ref q3, .ref q4, .ref td, .ref q5, .int 0, .int 0])), (q1, .inl (cy 0, 3, .inl (fun _ => 0))), (q2, .inl (cy 0, 18, .inl (fun _ => 0))), (q3, .inl (cy 6, 5, .inr (.inr (.inr (.inr (va_up (va_up (fun _ => none) (Int32.toNatClampNeg 0) (some q8)) (Int32.toNatClampNeg 1) (some q11))))))), (q4, .inl (cy 2, 5, .inr (.inl (fun _ => 0)))), (q5, .inr (2, [.ref q6, .ref q7, .int 0, .int 0])), (q6, .inl (cy 0, 0, .inl (fun _ => 0))), (q7, .inl (cy 0, 0, .inl (fun _ => 0))), (q8, .inr (7, [.ref q9, .int 0])), (q9, .inl (cy 0, 6, .inl (fun _ => 0))), (q11, .inr (7, [.ref q12, .int 0])), (q12, .inl (cy 0, 6, .inl (fun _ => 0)))] f19 := by rw [hf19]; exact cW_put hW18 3 rfl
      refine gz_iinc (v := 2) (lv' := [(2, .int 2), (0, .ref x), (1, .ref td)]) dX10_init_81 rfl (by decide) (by decide) rfl ?_
      refine gz_goto (tgt := 59) dX10_init_84 (by decide) ?_
      refine gz_iload_n dX10_init_59 rfl rfl ?_
      refine gz_aload_n dX10_init_60 rfl rfl ?_
      refine sgX10_24 (hW19.1.1 0 _ rfl) rfl dX10_init_61 ?_
      refine gz_alen6 (v := 5) (hW19.1.1 3 _ rfl) (by decide) dX10_init_64 ?_
      refine gz_icmp_ge (tgt := 87) dX10_init_65 (by decide) (fun c_65_13 => ?_) (fun c_65_13 => ?_)
      · exact absurd c_65_13 (by decide)
      ·
        refine gz_aload_n dX10_init_68 rfl rfl ?_
        refine sgX10_24 (hW19.1.1 0 _ rfl) rfl dX10_init_69 ?_
        refine gz_iload_n dX10_init_72 rfl rfl ?_
        refine snX10_22 (Nat.le_of_ble_eq_true rfl) (Nat.le_of_ble_eq_true rfl) dX10_init_73 (fun q14 hq14n => ?_)
        refine gz_gen (fun f20 hf20 => ?_)
        have hW20 : cW f x [(x, .inr (10, [.int 1, .ref q1, .ref q2, .ref q3, .ref q4, .ref td, .ref q5, .int 0, .int 0])), (q1, .inl (cy 0, 3, .inl (fun _ => 0))), (q2, .inl (cy 0, 18, .inl (fun _ => 0))), (q3, .inl (cy 6, 5, .inr (.inr (.inr (.inr (va_up (va_up (fun _ => none) (Int32.toNatClampNeg 0) (some q8)) (Int32.toNatClampNeg 1) (some q11))))))), (q4, .inl (cy 2, 5, .inr (.inl (fun _ => 0)))), (q5, .inr (2, [.ref q6, .ref q7, .int 0, .int 0])), (q6, .inl (cy 0, 0, .inl (fun _ => 0))), (q7, .inl (cy 0, 0, .inl (fun _ => 0))), (q8, .inr (7, [.ref q9, .int 0])), (q9, .inl (cy 0, 6, .inl (fun _ => 0))), (q11, .inr (7, [.ref q12, .int 0])), (q12, .inl (cy 0, 6, .inl (fun _ => 0))), (q14, .inr (7, [.null, .int 0]))] f20 := by rw [hf20]; exact cW_new hW19 hq14n
        refine gz_dup dX10_init_76 rfl ?_
        refine scX10_45 (k_X7_init (hW20.1.1 12 _ rfl)) ⟨(Nat.le_of_ble_eq_true rfl), (Nat.le_of_ble_eq_true rfl)⟩ ⟨(Nat.le_of_ble_eq_true rfl), (Nat.le_of_ble_eq_true rfl)⟩ rfl rfl (Nat.le_of_ble_eq_true rfl) dX10_init_77 ?_
        rintro f21 ⟨q15, hC21⟩
        have hW21 : cW f x [(x, .inr (10, [.int 1, .ref q1, .ref q2, .ref q3, .ref q4, .ref td, .ref q5, .int 0, .int 0])), (q1, .inl (cy 0, 3, .inl (fun _ => 0))), (q2, .inl (cy 0, 18, .inl (fun _ => 0))), (q3, .inl (cy 6, 5, .inr (.inr (.inr (.inr (va_up (va_up (fun _ => none) (Int32.toNatClampNeg 0) (some q8)) (Int32.toNatClampNeg 1) (some q11))))))), (q4, .inl (cy 2, 5, .inr (.inl (fun _ => 0)))), (q5, .inr (2, [.ref q6, .ref q7, .int 0, .int 0])), (q6, .inl (cy 0, 0, .inl (fun _ => 0))), (q7, .inl (cy 0, 0, .inl (fun _ => 0))), (q8, .inr (7, [.ref q9, .int 0])), (q9, .inl (cy 0, 6, .inl (fun _ => 0))), (q11, .inr (7, [.ref q12, .int 0])), (q12, .inl (cy 0, 6, .inl (fun _ => 0))), (q14, .inr (7, [.ref q15, .int 0])), (q15, .inl (cy 0, 6, .inl (fun _ => 0)))] f21 := cW_call hW20 12 (by decide) rfl hC21
        refine gz_aast6 (hW21.1.1 3 _ rfl) (hW21.1.1 12 _ rfl) (vin_T (v := 2) rfl (by decide) (by decide)) dX10_init_80 ?_
        refine gz_gen (fun f22 hf22 => ?_)
        have hW22 : cW f x [(x, .inr (10, [.int 1, .ref q1, .ref q2, .ref q3, .ref q4, .ref td, .ref q5, .int 0, .int 0])), (q1, .inl (cy 0, 3, .inl (fun _ => 0))), (q2, .inl (cy 0, 18, .inl (fun _ => 0))), (q3, .inl (cy 6, 5, .inr (.inr (.inr (.inr (va_up (va_up (va_up (fun _ => none) (Int32.toNatClampNeg 0) (some q8)) (Int32.toNatClampNeg 1) (some q11)) (Int32.toNatClampNeg 2) (some q14))))))), (q4, .inl (cy 2, 5, .inr (.inl (fun _ => 0)))), (q5, .inr (2, [.ref q6, .ref q7, .int 0, .int 0])), (q6, .inl (cy 0, 0, .inl (fun _ => 0))), (q7, .inl (cy 0, 0, .inl (fun _ => 0))), (q8, .inr (7, [.ref q9, .int 0])), (q9, .inl (cy 0, 6, .inl (fun _ => 0))), (q11, .inr (7, [.ref q12, .int 0])), (q12, .inl (cy 0, 6, .inl (fun _ => 0))), (q14, .inr (7, [.ref q15, .int 0])), (q15, .inl (cy 0, 6, .inl (fun _ => 0)))] f22 := by rw [hf22]; exact cW_put hW21 3 rfl
        refine gz_iinc (v := 3) (lv' := [(2, .int 3), (0, .ref x), (1, .ref td)]) dX10_init_81 rfl (by decide) (by decide) rfl ?_
        refine gz_goto (tgt := 59) dX10_init_84 (by decide) ?_
        refine gz_iload_n dX10_init_59 rfl rfl ?_
        refine gz_aload_n dX10_init_60 rfl rfl ?_
        refine sgX10_24 (hW22.1.1 0 _ rfl) rfl dX10_init_61 ?_
        refine gz_alen6 (v := 5) (hW22.1.1 3 _ rfl) (by decide) dX10_init_64 ?_
        refine gz_icmp_ge (tgt := 87) dX10_init_65 (by decide) (fun c_65_16 => ?_) (fun c_65_16 => ?_)
        · exact absurd c_65_16 (by decide)
        ·
          refine gz_aload_n dX10_init_68 rfl rfl ?_
          refine sgX10_24 (hW22.1.1 0 _ rfl) rfl dX10_init_69 ?_
          refine gz_iload_n dX10_init_72 rfl rfl ?_
          refine snX10_22 (Nat.le_of_ble_eq_true rfl) (Nat.le_of_ble_eq_true rfl) dX10_init_73 (fun q17 hq17n => ?_)
          refine gz_gen (fun f23 hf23 => ?_)
          have hW23 : cW f x [(x, .inr (10, [.int 1, .ref q1, .ref q2, .ref q3, .ref q4, .ref td, .ref q5, .int 0, .int 0])), (q1, .inl (cy 0, 3, .inl (fun _ => 0))), (q2, .inl (cy 0, 18, .inl (fun _ => 0))), (q3, .inl (cy 6, 5, .inr (.inr (.inr (.inr (va_up (va_up (va_up (fun _ => none) (Int32.toNatClampNeg 0) (some q8)) (Int32.toNatClampNeg 1) (some q11)) (Int32.toNatClampNeg 2) (some q14))))))), (q4, .inl (cy 2, 5, .inr (.inl (fun _ => 0)))), (q5, .inr (2, [.ref q6, .ref q7, .int 0, .int 0])), (q6, .inl (cy 0, 0, .inl (fun _ => 0))), (q7, .inl (cy 0, 0, .inl (fun _ => 0))), (q8, .inr (7, [.ref q9, .int 0])), (q9, .inl (cy 0, 6, .inl (fun _ => 0))), (q11, .inr (7, [.ref q12, .int 0])), (q12, .inl (cy 0, 6, .inl (fun _ => 0))), (q14, .inr (7, [.ref q15, .int 0])), (q15, .inl (cy 0, 6, .inl (fun _ => 0))), (q17, .inr (7, [.null, .int 0]))] f23 := by rw [hf23]; exact cW_new hW22 hq17n
          refine gz_dup dX10_init_76 rfl ?_
          refine scX10_45 (k_X7_init (hW23.1.1 14 _ rfl)) ⟨(Nat.le_of_ble_eq_true rfl), (Nat.le_of_ble_eq_true rfl)⟩ ⟨(Nat.le_of_ble_eq_true rfl), (Nat.le_of_ble_eq_true rfl)⟩ rfl rfl (Nat.le_of_ble_eq_true rfl) dX10_init_77 ?_
          rintro f24 ⟨q18, hC24⟩
          have hW24 : cW f x [(x, .inr (10, [.int 1, .ref q1, .ref q2, .ref q3, .ref q4, .ref td, .ref q5, .int 0, .int 0])), (q1, .inl (cy 0, 3, .inl (fun _ => 0))), (q2, .inl (cy 0, 18, .inl (fun _ => 0))), (q3, .inl (cy 6, 5, .inr (.inr (.inr (.inr (va_up (va_up (va_up (fun _ => none) (Int32.toNatClampNeg 0) (some q8)) (Int32.toNatClampNeg 1) (some q11)) (Int32.toNatClampNeg 2) (some q14))))))), (q4, .inl (cy 2, 5, .inr (.inl (fun _ => 0)))), (q5, .inr (2, [.ref q6, .ref q7, .int 0, .int 0])), (q6, .inl (cy 0, 0, .inl (fun _ => 0))), (q7, .inl (cy 0, 0, .inl (fun _ => 0))), (q8, .inr (7, [.ref q9, .int 0])), (q9, .inl (cy 0, 6, .inl (fun _ => 0))), (q11, .inr (7, [.ref q12, .int 0])), (q12, .inl (cy 0, 6, .inl (fun _ => 0))), (q14, .inr (7, [.ref q15, .int 0])), (q15, .inl (cy 0, 6, .inl (fun _ => 0))), (q17, .inr (7, [.ref q18, .int 0])), (q18, .inl (cy 0, 6, .inl (fun _ => 0)))] f24 := cW_call hW23 14 (by decide) rfl hC24
          refine gz_aast6 (hW24.1.1 3 _ rfl) (hW24.1.1 14 _ rfl) (vin_T (v := 3) rfl (by decide) (by decide)) dX10_init_80 ?_
          refine gz_gen (fun f25 hf25 => ?_)
          have hW25 : cW f x [(x, .inr (10, [.int 1, .ref q1, .ref q2, .ref q3, .ref q4, .ref td, .ref q5, .int 0, .int 0])), (q1, .inl (cy 0, 3, .inl (fun _ => 0))), (q2, .inl (cy 0, 18, .inl (fun _ => 0))), (q3, .inl (cy 6, 5, .inr (.inr (.inr (.inr (va_up (va_up (va_up (va_up (fun _ => none) (Int32.toNatClampNeg 0) (some q8)) (Int32.toNatClampNeg 1) (some q11)) (Int32.toNatClampNeg 2) (some q14)) (Int32.toNatClampNeg 3) (some q17))))))), (q4, .inl (cy 2, 5, .inr (.inl (fun _ => 0)))), (q5, .inr (2, [.ref q6, .ref q7, .int 0, .int 0])), (q6, .inl (cy 0, 0, .inl (fun _ => 0))), (q7, .inl (cy 0, 0, .inl (fun _ => 0))), (q8, .inr (7, [.ref q9, .int 0])), (q9, .inl (cy 0, 6, .inl (fun _ => 0))), (q11, .inr (7, [.ref q12, .int 0])), (q12, .inl (cy 0, 6, .inl (fun _ => 0))), (q14, .inr (7, [.ref q15, .int 0])), (q15, .inl (cy 0, 6, .inl (fun _ => 0))), (q17, .inr (7, [.ref q18, .int 0])), (q18, .inl (cy 0, 6, .inl (fun _ => 0)))] f25 := by rw [hf25]; exact cW_put hW24 3 rfl
          refine gz_iinc (v := 4) (lv' := [(2, .int 4), (0, .ref x), (1, .ref td)]) dX10_init_81 rfl (by decide) (by decide) rfl ?_
          refine gz_goto (tgt := 59) dX10_init_84 (by decide) ?_
          refine gz_iload_n dX10_init_59 rfl rfl ?_
          refine gz_aload_n dX10_init_60 rfl rfl ?_
          refine sgX10_24 (hW25.1.1 0 _ rfl) rfl dX10_init_61 ?_
          refine gz_alen6 (v := 5) (hW25.1.1 3 _ rfl) (by decide) dX10_init_64 ?_
          refine gz_icmp_ge (tgt := 87) dX10_init_65 (by decide) (fun c_65_19 => ?_) (fun c_65_19 => ?_)
          · exact absurd c_65_19 (by decide)
          ·
            refine gz_aload_n dX10_init_68 rfl rfl ?_
            refine sgX10_24 (hW25.1.1 0 _ rfl) rfl dX10_init_69 ?_
            refine gz_iload_n dX10_init_72 rfl rfl ?_
            refine snX10_22 (Nat.le_of_ble_eq_true rfl) (Nat.le_of_ble_eq_true rfl) dX10_init_73 (fun q20 hq20n => ?_)
            refine gz_gen (fun f26 hf26 => ?_)
            have hW26 : cW f x [(x, .inr (10, [.int 1, .ref q1, .ref q2, .ref q3, .ref q4, .ref td, .ref q5, .int 0, .int 0])), (q1, .inl (cy 0, 3, .inl (fun _ => 0))), (q2, .inl (cy 0, 18, .inl (fun _ => 0))), (q3, .inl (cy 6, 5, .inr (.inr (.inr (.inr (va_up (va_up (va_up (va_up (fun _ => none) (Int32.toNatClampNeg 0) (some q8)) (Int32.toNatClampNeg 1) (some q11)) (Int32.toNatClampNeg 2) (some q14)) (Int32.toNatClampNeg 3) (some q17))))))), (q4, .inl (cy 2, 5, .inr (.inl (fun _ => 0)))), (q5, .inr (2, [.ref q6, .ref q7, .int 0, .int 0])), (q6, .inl (cy 0, 0, .inl (fun _ => 0))), (q7, .inl (cy 0, 0, .inl (fun _ => 0))), (q8, .inr (7, [.ref q9, .int 0])), (q9, .inl (cy 0, 6, .inl (fun _ => 0))), (q11, .inr (7, [.ref q12, .int 0])), (q12, .inl (cy 0, 6, .inl (fun _ => 0))), (q14, .inr (7, [.ref q15, .int 0])), (q15, .inl (cy 0, 6, .inl (fun _ => 0))), (q17, .inr (7, [.ref q18, .int 0])), (q18, .inl (cy 0, 6, .inl (fun _ => 0))), (q20, .inr (7, [.null, .int 0]))] f26 := by rw [hf26]; exact cW_new hW25 hq20n
            refine gz_dup dX10_init_76 rfl ?_
            refine scX10_45 (k_X7_init (hW26.1.1 16 _ rfl)) ⟨(Nat.le_of_ble_eq_true rfl), (Nat.le_of_ble_eq_true rfl)⟩ ⟨(Nat.le_of_ble_eq_true rfl), (Nat.le_of_ble_eq_true rfl)⟩ rfl rfl (Nat.le_of_ble_eq_true rfl) dX10_init_77 ?_
            rintro f27 ⟨q21, hC27⟩
            have hW27 : cW f x [(x, .inr (10, [.int 1, .ref q1, .ref q2, .ref q3, .ref q4, .ref td, .ref q5, .int 0, .int 0])), (q1, .inl (cy 0, 3, .inl (fun _ => 0))), (q2, .inl (cy 0, 18, .inl (fun _ => 0))), (q3, .inl (cy 6, 5, .inr (.inr (.inr (.inr (va_up (va_up (va_up (va_up (fun _ => none) (Int32.toNatClampNeg 0) (some q8)) (Int32.toNatClampNeg 1) (some q11)) (Int32.toNatClampNeg 2) (some q14)) (Int32.toNatClampNeg 3) (some q17))))))), (q4, .inl (cy 2, 5, .inr (.inl (fun _ => 0)))), (q5, .inr (2, [.ref q6, .ref q7, .int 0, .int 0])), (q6, .inl (cy 0, 0, .inl (fun _ => 0))), (q7, .inl (cy 0, 0, .inl (fun _ => 0))), (q8, .inr (7, [.ref q9, .int 0])), (q9, .inl (cy 0, 6, .inl (fun _ => 0))), (q11, .inr (7, [.ref q12, .int 0])), (q12, .inl (cy 0, 6, .inl (fun _ => 0))), (q14, .inr (7, [.ref q15, .int 0])), (q15, .inl (cy 0, 6, .inl (fun _ => 0))), (q17, .inr (7, [.ref q18, .int 0])), (q18, .inl (cy 0, 6, .inl (fun _ => 0))), (q20, .inr (7, [.ref q21, .int 0])), (q21, .inl (cy 0, 6, .inl (fun _ => 0)))] f27 := cW_call hW26 16 (by decide) rfl hC27
            refine gz_aast6 (hW27.1.1 3 _ rfl) (hW27.1.1 16 _ rfl) (vin_T (v := 4) rfl (by decide) (by decide)) dX10_init_80 ?_
            refine gz_gen (fun f28 hf28 => ?_)
            have hW28 : cW f x [(x, .inr (10, [.int 1, .ref q1, .ref q2, .ref q3, .ref q4, .ref td, .ref q5, .int 0, .int 0])), (q1, .inl (cy 0, 3, .inl (fun _ => 0))), (q2, .inl (cy 0, 18, .inl (fun _ => 0))), (q3, .inl (cy 6, 5, .inr (.inr (.inr (.inr (va_up (va_up (va_up (va_up (va_up (fun _ => none) (Int32.toNatClampNeg 0) (some q8)) (Int32.toNatClampNeg 1) (some q11)) (Int32.toNatClampNeg 2) (some q14)) (Int32.toNatClampNeg 3) (some q17)) (Int32.toNatClampNeg 4) (some q20))))))), (q4, .inl (cy 2, 5, .inr (.inl (fun _ => 0)))), (q5, .inr (2, [.ref q6, .ref q7, .int 0, .int 0])), (q6, .inl (cy 0, 0, .inl (fun _ => 0))), (q7, .inl (cy 0, 0, .inl (fun _ => 0))), (q8, .inr (7, [.ref q9, .int 0])), (q9, .inl (cy 0, 6, .inl (fun _ => 0))), (q11, .inr (7, [.ref q12, .int 0])), (q12, .inl (cy 0, 6, .inl (fun _ => 0))), (q14, .inr (7, [.ref q15, .int 0])), (q15, .inl (cy 0, 6, .inl (fun _ => 0))), (q17, .inr (7, [.ref q18, .int 0])), (q18, .inl (cy 0, 6, .inl (fun _ => 0))), (q20, .inr (7, [.ref q21, .int 0])), (q21, .inl (cy 0, 6, .inl (fun _ => 0)))] f28 := by rw [hf28]; exact cW_put hW27 3 rfl
            refine gz_iinc (v := 5) (lv' := [(2, .int 5), (0, .ref x), (1, .ref td)]) dX10_init_81 rfl (by decide) (by decide) rfl ?_
            refine gz_goto (tgt := 59) dX10_init_84 (by decide) ?_
            refine gz_iload_n dX10_init_59 rfl rfl ?_
            refine gz_aload_n dX10_init_60 rfl rfl ?_
            refine sgX10_24 (hW28.1.1 0 _ rfl) rfl dX10_init_61 ?_
            refine gz_alen6 (v := 5) (hW28.1.1 3 _ rfl) (by decide) dX10_init_64 ?_
            refine gz_icmp_ge (tgt := 87) dX10_init_65 (by decide) (fun c_65_22 => ?_) (fun c_65_22 => ?_)
            ·
              refine gz_aload_n dX10_init_87 rfl rfl ?_
              refine sgX10_15 (hW28.1.1 0 _ rfl) rfl dX10_init_88 ?_
              refine gz_iconst (v := 0) dX10_init_91 (by decide) ?_
              refine gz_iconst (v := 1) dX10_init_92 (by decide) ?_
              refine gz_iast (hW28.1.1 1 _ rfl) (vin_T (v := 0) rfl (by decide) (by decide)) dX10_init_93 ?_
              refine gz_gen (fun f29 hf29 => ?_)
              have hW29 : cW f x [(x, .inr (10, [.int 1, .ref q1, .ref q2, .ref q3, .ref q4, .ref td, .ref q5, .int 0, .int 0])), (q1, .inl (cy 0, 3, .inl (upd (fun _ => 0) (Int32.toNatClampNeg 0) 1))), (q2, .inl (cy 0, 18, .inl (fun _ => 0))), (q3, .inl (cy 6, 5, .inr (.inr (.inr (.inr (va_up (va_up (va_up (va_up (va_up (fun _ => none) (Int32.toNatClampNeg 0) (some q8)) (Int32.toNatClampNeg 1) (some q11)) (Int32.toNatClampNeg 2) (some q14)) (Int32.toNatClampNeg 3) (some q17)) (Int32.toNatClampNeg 4) (some q20))))))), (q4, .inl (cy 2, 5, .inr (.inl (fun _ => 0)))), (q5, .inr (2, [.ref q6, .ref q7, .int 0, .int 0])), (q6, .inl (cy 0, 0, .inl (fun _ => 0))), (q7, .inl (cy 0, 0, .inl (fun _ => 0))), (q8, .inr (7, [.ref q9, .int 0])), (q9, .inl (cy 0, 6, .inl (fun _ => 0))), (q11, .inr (7, [.ref q12, .int 0])), (q12, .inl (cy 0, 6, .inl (fun _ => 0))), (q14, .inr (7, [.ref q15, .int 0])), (q15, .inl (cy 0, 6, .inl (fun _ => 0))), (q17, .inr (7, [.ref q18, .int 0])), (q18, .inl (cy 0, 6, .inl (fun _ => 0))), (q20, .inr (7, [.ref q21, .int 0])), (q21, .inl (cy 0, 6, .inl (fun _ => 0)))] f29 := by rw [hf29]; exact cW_put hW28 1 rfl
              exact gz_vret rfl dX10_init_94 (Nat.le_of_ble_eq_true rfl) (Nat.le_of_ble_eq_true rfl) (⟨rfl, _, _, _, _, _, _, _, _, _, _, _, _, _, _, _, _, _, hW29⟩)
            · exact absurd c_65_22 (by decide)

set_option maxHeartbeats 4000000 in
set_option maxRecDepth 100000 in
theorem k_X11_init {l : Launch} {D : va_G} {cy : Nat → ClassId} {b : Nat} {f : gMem} {x : Nat} (hx : f x = some (.inr (11, [.null, .null, .null, .null, .null, .null, .null, .null, .null, .null, .null, .null, .int 0])))  : gC l D cy b yX11_init cX11_init 1 none 3 49 5446 [.ref x] f (pV fun f2 => ∃ q1 q2 q3 q4 q5 q6 q7 q8 q9 q10 q11 q12 q13 q14 q15 q16 q17 q18 q19 q20 q21 q22 q23 q24 q25 q26 q27 q28 q29 q30 q31 q32 q33 q34 q35 q36 q37 q38 q39 q40 q41 q42 q43 q44 q45 q46 q47 q48 q49 : Nat, cW f x [(x, .inr (11, [.ref q1, .ref q5, .ref q7, .ref q9, .ref q10, .ref q13, .ref q16, .ref q17, .ref q18, .ref q23, .ref q30, .ref q32, .int 0])), (q1, .inr (0, [.ref q2, .ref q3])), (q2, .inl (cy 0, 2400, .inl (fun _ => 0))), (q3, .inr (7, [.ref q4, .int 0])), (q4, .inl (cy 0, 6, .inl (fun _ => 0))), (q5, .inr (9, [.ref q6, .int 0])), (q6, .inl (cy 1, 400, .inl (fun _ => 0))), (q7, .inr (9, [.ref q8, .int 0])), (q8, .inl (cy 1, 480, .inl (fun _ => 0))), (q9, .inl (cy 4, 20, .inr (.inr (.inr (.inr (fun _ => none)))))), (q10, .inr (2, [.ref q11, .ref q12, .int 0, .int 0])), (q11, .inl (cy 0, 520, .inl (fun _ => 0))), (q12, .inl (cy 0, 80, .inl (fun _ => 0))), (q13, .inr (2, [.ref q14, .ref q15, .int 0, .int 0])), (q14, .inl (cy 0, 520, .inl (fun _ => 0))), (q15, .inl (cy 0, 80, .inl (fun _ => 0))), (q16, .inr (6, [.ref q5, .ref q10, .int 0, .int 0])), (q17, .inr (8, [.ref q7])), (q18, .inr (3, [.ref q19, .ref q22])), (q19, .inr (2, [.ref q20, .ref q21, .int 0, .int 0])), (q20, .inl (cy 0, 520, .inl (fun _ => 0))), (q21, .inl (cy 0, 80, .inl (fun _ => 0))), (q22, .inl (cy 0, 40, .inl (fun _ => 0))), (q23, .inr (4, [.ref q24, .int 0, .int 0, .ref q25, .ref q26, .ref q27, .ref q28, .ref q29, .int (-1)])), (q24, .inl (cy 0, 96, .inl (fun _ => 0))), (q25, .inl (cy 2, 8, .inr (.inl (fun _ => 0)))), (q26, .inl (cy 2, 8, .inr (.inl (fun _ => 0)))), (q27, .inl (cy 0, 8, .inl (fun _ => 0))), (q28, .inl (cy 0, 8, .inl (fun _ => 0))), (q29, .inl (cy 2, 8, .inr (.inl (fun _ => 0)))), (q30, .inr (1, [.ref q31, .ref q3, .ref q23, .int 0])), (q31, .inl (cy 5, 40, .inr (.inr (.inr (.inr (fun _ => none)))))), (q32, .inr (10, [.int 1, .ref q33, .ref q34, .ref q35, .ref q36, .ref q3, .ref q37, .int 0, .int 0])), (q33, .inl (cy 0, 3, .inl (upd (fun _ => 0) (Int32.toNatClampNeg 0) 1))), (q34, .inl (cy 0, 18, .inl (fun _ => 0))), (q35, .inl (cy 6, 5, .inr (.inr (.inr (.inr (va_up (va_up (va_up (va_up (va_up (fun _ => none) (Int32.toNatClampNeg 0) (some q40)) (Int32.toNatClampNeg 1) (some q42)) (Int32.toNatClampNeg 2) (some q44)) (Int32.toNatClampNeg 3) (some q46)) (Int32.toNatClampNeg 4) (some q48))))))), (q36, .inl (cy 2, 5, .inr (.inl (fun _ => 0)))), (q37, .inr (2, [.ref q38, .ref q39, .int 0, .int 0])), (q38, .inl (cy 0, 0, .inl (fun _ => 0))), (q39, .inl (cy 0, 0, .inl (fun _ => 0))), (q40, .inr (7, [.ref q41, .int 0])), (q41, .inl (cy 0, 6, .inl (fun _ => 0))), (q42, .inr (7, [.ref q43, .int 0])), (q43, .inl (cy 0, 6, .inl (fun _ => 0))), (q44, .inr (7, [.ref q45, .int 0])), (q45, .inl (cy 0, 6, .inl (fun _ => 0))), (q46, .inr (7, [.ref q47, .int 0])), (q47, .inl (cy 0, 6, .inl (fun _ => 0))), (q48, .inr (7, [.ref q49, .int 0])), (q49, .inl (cy 0, 6, .inl (fun _ => 0)))] f2) := by
  refine gC_of (by decide) (Nat.le_of_ble_eq_true rfl) ?_
  show gG l _ _ _ D cy b cX11_init 1 _ RX11 "<init>" 0 0 f 0 [(0, .ref x)] []
  have hW0 : cW f x [(x, .inr (11, [.null, .null, .null, .null, .null, .null, .null, .null, .null, .null, .null, .null, .int 0]))] f := cW_0 hx
  refine gz_aload_n dX11_init_0 rfl rfl ?_
  refine scX11_3 (Nat.le_of_ble_eq_true rfl) (Nat.le_of_ble_eq_true rfl) (Nat.le_of_ble_eq_true rfl) dX11_init_1 ?_
  refine gz_aload_n dX11_init_4 rfl rfl ?_
  refine snX11_9 (Nat.le_of_ble_eq_true rfl) (Nat.le_of_ble_eq_true rfl) dX11_init_5 (fun q1 hq1n => ?_)
  refine gz_gen (fun f1 hf1 => ?_)
  have hW1 : cW f x [(x, .inr (11, [.null, .null, .null, .null, .null, .null, .null, .null, .null, .null, .null, .null, .int 0])), (q1, .inr (0, [.null, .null]))] f1 := by rw [hf1]; exact cW_new hW0 hq1n
  refine gz_dup dX11_init_8 rfl ?_
  refine scX11_11 (k_X0_init (hW1.1.1 1 _ rfl)) ⟨(Nat.le_of_ble_eq_true rfl), (Nat.le_of_ble_eq_true rfl)⟩ ⟨(Nat.le_of_ble_eq_true rfl), (Nat.le_of_ble_eq_true rfl)⟩ rfl rfl (Nat.le_of_ble_eq_true rfl) dX11_init_9 ?_
  rintro f2 ⟨q2, q3, q4, hC2⟩
  have hW2 : cW f x [(x, .inr (11, [.null, .null, .null, .null, .null, .null, .null, .null, .null, .null, .null, .null, .int 0])), (q1, .inr (0, [.ref q2, .ref q3])), (q2, .inl (cy 0, 2400, .inl (fun _ => 0))), (q3, .inr (7, [.ref q4, .int 0])), (q4, .inl (cy 0, 6, .inl (fun _ => 0)))] f2 := cW_call hW1 1 (by decide) rfl hC2
  refine spX11_12 (hW2.1.1 0 _ rfl) rfl (Nat.le_of_ble_eq_true rfl) dX11_init_12 ?_
  refine gz_gen (fun f3 hf3 => ?_)
  have hW3 : cW f x [(x, .inr (11, [.ref q1, .null, .null, .null, .null, .null, .null, .null, .null, .null, .null, .null, .int 0])), (q1, .inr (0, [.ref q2, .ref q3])), (q2, .inl (cy 0, 2400, .inl (fun _ => 0))), (q3, .inr (7, [.ref q4, .int 0])), (q4, .inl (cy 0, 6, .inl (fun _ => 0)))] f3 := by rw [hf3]; exact cW_put hW2 0 rfl
  refine gz_aload_n dX11_init_15 rfl rfl ?_
  refine snX11_16 (Nat.le_of_ble_eq_true rfl) (Nat.le_of_ble_eq_true rfl) dX11_init_16 (fun q5 hq5n => ?_)
  refine gz_gen (fun f4 hf4 => ?_)
  have hW4 : cW f x [(x, .inr (11, [.ref q1, .null, .null, .null, .null, .null, .null, .null, .null, .null, .null, .null, .int 0])), (q1, .inr (0, [.ref q2, .ref q3])), (q2, .inl (cy 0, 2400, .inl (fun _ => 0))), (q3, .inr (7, [.ref q4, .int 0])), (q4, .inl (cy 0, 6, .inl (fun _ => 0))), (q5, .inr (9, [.null, .int 0]))] f4 := by rw [hf4]; exact cW_new hW3 hq5n
  refine gz_dup dX11_init_19 rfl ?_
  refine gz_sipush (v := 400) dX11_init_20 (by decide) ?_
  refine scX11_18 (k_X9_init_400 (hW4.1.1 5 _ rfl)) ⟨(Nat.le_of_ble_eq_true rfl), (Nat.le_of_ble_eq_true rfl)⟩ ⟨(Nat.le_of_ble_eq_true rfl), (Nat.le_of_ble_eq_true rfl)⟩ rfl rfl (Nat.le_of_ble_eq_true rfl) dX11_init_23 ?_
  rintro f5 ⟨q6, hC5⟩
  have hW5 : cW f x [(x, .inr (11, [.ref q1, .null, .null, .null, .null, .null, .null, .null, .null, .null, .null, .null, .int 0])), (q1, .inr (0, [.ref q2, .ref q3])), (q2, .inl (cy 0, 2400, .inl (fun _ => 0))), (q3, .inr (7, [.ref q4, .int 0])), (q4, .inl (cy 0, 6, .inl (fun _ => 0))), (q5, .inr (9, [.ref q6, .int 0])), (q6, .inl (cy 1, 400, .inl (fun _ => 0)))] f5 := cW_call hW4 5 (by decide) rfl hC5
  refine spX11_21 (hW5.1.1 0 _ rfl) rfl (Nat.le_of_ble_eq_true rfl) dX11_init_26 ?_
  refine gz_gen (fun f6 hf6 => ?_)
  have hW6 : cW f x [(x, .inr (11, [.ref q1, .ref q5, .null, .null, .null, .null, .null, .null, .null, .null, .null, .null, .int 0])), (q1, .inr (0, [.ref q2, .ref q3])), (q2, .inl (cy 0, 2400, .inl (fun _ => 0))), (q3, .inr (7, [.ref q4, .int 0])), (q4, .inl (cy 0, 6, .inl (fun _ => 0))), (q5, .inr (9, [.ref q6, .int 0])), (q6, .inl (cy 1, 400, .inl (fun _ => 0)))] f6 := by rw [hf6]; exact cW_put hW5 0 rfl
  refine gz_aload_n dX11_init_29 rfl rfl ?_
  refine snX11_16 (Nat.le_of_ble_eq_true rfl) (Nat.le_of_ble_eq_true rfl) dX11_init_30 (fun q7 hq7n => ?_)
  refine gz_gen (fun f7 hf7 => ?_)
  have hW7 : cW f x [(x, .inr (11, [.ref q1, .ref q5, .null, .null, .null, .null, .null, .null, .null, .null, .null, .null, .int 0])), (q1, .inr (0, [.ref q2, .ref q3])), (q2, .inl (cy 0, 2400, .inl (fun _ => 0))), (q3, .inr (7, [.ref q4, .int 0])), (q4, .inl (cy 0, 6, .inl (fun _ => 0))), (q5, .inr (9, [.ref q6, .int 0])), (q6, .inl (cy 1, 400, .inl (fun _ => 0))), (q7, .inr (9, [.null, .int 0]))] f7 := by rw [hf7]; exact cW_new hW6 hq7n
  refine gz_dup dX11_init_33 rfl ?_
  refine gz_sipush (v := 480) dX11_init_34 (by decide) ?_
  refine scX11_18 (k_X9_init_480 (hW7.1.1 7 _ rfl)) ⟨(Nat.le_of_ble_eq_true rfl), (Nat.le_of_ble_eq_true rfl)⟩ ⟨(Nat.le_of_ble_eq_true rfl), (Nat.le_of_ble_eq_true rfl)⟩ rfl rfl (Nat.le_of_ble_eq_true rfl) dX11_init_37 ?_
  rintro f8 ⟨q8, hC8⟩
  have hW8 : cW f x [(x, .inr (11, [.ref q1, .ref q5, .null, .null, .null, .null, .null, .null, .null, .null, .null, .null, .int 0])), (q1, .inr (0, [.ref q2, .ref q3])), (q2, .inl (cy 0, 2400, .inl (fun _ => 0))), (q3, .inr (7, [.ref q4, .int 0])), (q4, .inl (cy 0, 6, .inl (fun _ => 0))), (q5, .inr (9, [.ref q6, .int 0])), (q6, .inl (cy 1, 400, .inl (fun _ => 0))), (q7, .inr (9, [.ref q8, .int 0])), (q8, .inl (cy 1, 480, .inl (fun _ => 0)))] f8 := cW_call hW7 7 (by decide) rfl hC8
  refine spX11_25 (hW8.1.1 0 _ rfl) rfl (Nat.le_of_ble_eq_true rfl) dX11_init_40 ?_
  refine gz_gen (fun f9 hf9 => ?_)
  have hW9 : cW f x [(x, .inr (11, [.ref q1, .ref q5, .ref q7, .null, .null, .null, .null, .null, .null, .null, .null, .null, .int 0])), (q1, .inr (0, [.ref q2, .ref q3])), (q2, .inl (cy 0, 2400, .inl (fun _ => 0))), (q3, .inr (7, [.ref q4, .int 0])), (q4, .inl (cy 0, 6, .inl (fun _ => 0))), (q5, .inr (9, [.ref q6, .int 0])), (q6, .inl (cy 1, 400, .inl (fun _ => 0))), (q7, .inr (9, [.ref q8, .int 0])), (q8, .inl (cy 1, 480, .inl (fun _ => 0)))] f9 := by rw [hf9]; exact cW_put hW8 0 rfl
  refine gz_aload_n dX11_init_43 rfl rfl ?_
  refine gz_bipush (v := 20) dX11_init_44 (by decide) ?_
  refine gz_newa4 (N' := 20) (by decide) (by decide) (by decide) (Nat.le_of_ble_eq_true rfl) (Nat.le_of_ble_eq_true rfl) wd_539 dX11_init_46 (fun q9 hq9n => ?_)
  refine gz_gen (fun f10 hf10 => ?_)
  have hW10 : cW f x [(x, .inr (11, [.ref q1, .ref q5, .ref q7, .null, .null, .null, .null, .null, .null, .null, .null, .null, .int 0])), (q1, .inr (0, [.ref q2, .ref q3])), (q2, .inl (cy 0, 2400, .inl (fun _ => 0))), (q3, .inr (7, [.ref q4, .int 0])), (q4, .inl (cy 0, 6, .inl (fun _ => 0))), (q5, .inr (9, [.ref q6, .int 0])), (q6, .inl (cy 1, 400, .inl (fun _ => 0))), (q7, .inr (9, [.ref q8, .int 0])), (q8, .inl (cy 1, 480, .inl (fun _ => 0))), (q9, .inl (cy 4, 20, .inr (.inr (.inr (.inr (fun _ => none))))))] f10 := by rw [hf10]; exact cW_new hW9 hq9n
  refine spX11_30 (hW10.1.1 0 _ rfl) rfl (Nat.le_of_ble_eq_true rfl) dX11_init_49 ?_
  refine gz_gen (fun f11 hf11 => ?_)
  have hW11 : cW f x [(x, .inr (11, [.ref q1, .ref q5, .ref q7, .ref q9, .null, .null, .null, .null, .null, .null, .null, .null, .int 0])), (q1, .inr (0, [.ref q2, .ref q3])), (q2, .inl (cy 0, 2400, .inl (fun _ => 0))), (q3, .inr (7, [.ref q4, .int 0])), (q4, .inl (cy 0, 6, .inl (fun _ => 0))), (q5, .inr (9, [.ref q6, .int 0])), (q6, .inl (cy 1, 400, .inl (fun _ => 0))), (q7, .inr (9, [.ref q8, .int 0])), (q8, .inl (cy 1, 480, .inl (fun _ => 0))), (q9, .inl (cy 4, 20, .inr (.inr (.inr (.inr (fun _ => none))))))] f11 := by rw [hf11]; exact cW_put hW10 0 rfl
  refine gz_aload_n dX11_init_52 rfl rfl ?_
  refine snX11_28 (Nat.le_of_ble_eq_true rfl) (Nat.le_of_ble_eq_true rfl) dX11_init_53 (fun q10 hq10n => ?_)
  refine gz_gen (fun f12 hf12 => ?_)
  have hW12 : cW f x [(x, .inr (11, [.ref q1, .ref q5, .ref q7, .ref q9, .null, .null, .null, .null, .null, .null, .null, .null, .int 0])), (q1, .inr (0, [.ref q2, .ref q3])), (q2, .inl (cy 0, 2400, .inl (fun _ => 0))), (q3, .inr (7, [.ref q4, .int 0])), (q4, .inl (cy 0, 6, .inl (fun _ => 0))), (q5, .inr (9, [.ref q6, .int 0])), (q6, .inl (cy 1, 400, .inl (fun _ => 0))), (q7, .inr (9, [.ref q8, .int 0])), (q8, .inl (cy 1, 480, .inl (fun _ => 0))), (q9, .inl (cy 4, 20, .inr (.inr (.inr (.inr (fun _ => none)))))), (q10, .inr (2, [.null, .null, .int 0, .int 0]))] f12 := by rw [hf12]; exact cW_new hW11 hq10n
  refine gz_dup dX11_init_56 rfl ?_
  refine gz_bipush (v := 40) dX11_init_57 (by decide) ?_
  refine gz_bipush (v := 40) dX11_init_59 (by decide) ?_
  refine scX11_34 (k_X2_init_40 (hW12.1.1 10 _ rfl)) ⟨(Nat.le_of_ble_eq_true rfl), (Nat.le_of_ble_eq_true rfl)⟩ ⟨(Nat.le_of_ble_eq_true rfl), (Nat.le_of_ble_eq_true rfl)⟩ rfl rfl (Nat.le_of_ble_eq_true rfl) dX11_init_61 ?_
  rintro f13 ⟨q11, q12, hC13⟩
  have hW13 : cW f x [(x, .inr (11, [.ref q1, .ref q5, .ref q7, .ref q9, .null, .null, .null, .null, .null, .null, .null, .null, .int 0])), (q1, .inr (0, [.ref q2, .ref q3])), (q2, .inl (cy 0, 2400, .inl (fun _ => 0))), (q3, .inr (7, [.ref q4, .int 0])), (q4, .inl (cy 0, 6, .inl (fun _ => 0))), (q5, .inr (9, [.ref q6, .int 0])), (q6, .inl (cy 1, 400, .inl (fun _ => 0))), (q7, .inr (9, [.ref q8, .int 0])), (q8, .inl (cy 1, 480, .inl (fun _ => 0))), (q9, .inl (cy 4, 20, .inr (.inr (.inr (.inr (fun _ => none)))))), (q10, .inr (2, [.ref q11, .ref q12, .int 0, .int 0])), (q11, .inl (cy 0, 520, .inl (fun _ => 0))), (q12, .inl (cy 0, 80, .inl (fun _ => 0)))] f13 := cW_call hW12 10 (by decide) rfl hC13
  refine spX11_37 (hW13.1.1 0 _ rfl) rfl (Nat.le_of_ble_eq_true rfl) dX11_init_64 ?_
  refine gz_gen (fun f14 hf14 => ?_)
  have hW14 : cW f x [(x, .inr (11, [.ref q1, .ref q5, .ref q7, .ref q9, .ref q10, .null, .null, .null, .null, .null, .null, .null, .int 0])), (q1, .inr (0, [.ref q2, .ref q3])), (q2, .inl (cy 0, 2400, .inl (fun _ => 0))), (q3, .inr (7, [.ref q4, .int 0])), (q4, .inl (cy 0, 6, .inl (fun _ => 0))), (q5, .inr (9, [.ref q6, .int 0])), (q6, .inl (cy 1, 400, .inl (fun _ => 0))), (q7, .inr (9, [.ref q8, .int 0])), (q8, .inl (cy 1, 480, .inl (fun _ => 0))), (q9, .inl (cy 4, 20, .inr (.inr (.inr (.inr (fun _ => none)))))), (q10, .inr (2, [.ref q11, .ref q12, .int 0, .int 0])), (q11, .inl (cy 0, 520, .inl (fun _ => 0))), (q12, .inl (cy 0, 80, .inl (fun _ => 0)))] f14 := by rw [hf14]; exact cW_put hW13 0 rfl
  refine gz_aload_n dX11_init_67 rfl rfl ?_
  refine snX11_28 (Nat.le_of_ble_eq_true rfl) (Nat.le_of_ble_eq_true rfl) dX11_init_68 (fun q13 hq13n => ?_)
  refine gz_gen (fun f15 hf15 => ?_)
  have hW15 : cW f x [(x, .inr (11, [.ref q1, .ref q5, .ref q7, .ref q9, .ref q10, .null, .null, .null, .null, .null, .null, .null, .int 0])), (q1, .inr (0, [.ref q2, .ref q3])), (q2, .inl (cy 0, 2400, .inl (fun _ => 0))), (q3, .inr (7, [.ref q4, .int 0])), (q4, .inl (cy 0, 6, .inl (fun _ => 0))), (q5, .inr (9, [.ref q6, .int 0])), (q6, .inl (cy 1, 400, .inl (fun _ => 0))), (q7, .inr (9, [.ref q8, .int 0])), (q8, .inl (cy 1, 480, .inl (fun _ => 0))), (q9, .inl (cy 4, 20, .inr (.inr (.inr (.inr (fun _ => none)))))), (q10, .inr (2, [.ref q11, .ref q12, .int 0, .int 0])), (q11, .inl (cy 0, 520, .inl (fun _ => 0))), (q12, .inl (cy 0, 80, .inl (fun _ => 0))), (q13, .inr (2, [.null, .null, .int 0, .int 0]))] f15 := by rw [hf15]; exact cW_new hW14 hq13n
  refine gz_dup dX11_init_71 rfl ?_
  refine gz_bipush (v := 40) dX11_init_72 (by decide) ?_
  refine gz_bipush (v := 40) dX11_init_74 (by decide) ?_
  refine scX11_34 (k_X2_init_40 (hW15.1.1 13 _ rfl)) ⟨(Nat.le_of_ble_eq_true rfl), (Nat.le_of_ble_eq_true rfl)⟩ ⟨(Nat.le_of_ble_eq_true rfl), (Nat.le_of_ble_eq_true rfl)⟩ rfl rfl (Nat.le_of_ble_eq_true rfl) dX11_init_76 ?_
  rintro f16 ⟨q14, q15, hC16⟩
  have hW16 : cW f x [(x, .inr (11, [.ref q1, .ref q5, .ref q7, .ref q9, .ref q10, .null, .null, .null, .null, .null, .null, .null, .int 0])), (q1, .inr (0, [.ref q2, .ref q3])), (q2, .inl (cy 0, 2400, .inl (fun _ => 0))), (q3, .inr (7, [.ref q4, .int 0])), (q4, .inl (cy 0, 6, .inl (fun _ => 0))), (q5, .inr (9, [.ref q6, .int 0])), (q6, .inl (cy 1, 400, .inl (fun _ => 0))), (q7, .inr (9, [.ref q8, .int 0])), (q8, .inl (cy 1, 480, .inl (fun _ => 0))), (q9, .inl (cy 4, 20, .inr (.inr (.inr (.inr (fun _ => none)))))), (q10, .inr (2, [.ref q11, .ref q12, .int 0, .int 0])), (q11, .inl (cy 0, 520, .inl (fun _ => 0))), (q12, .inl (cy 0, 80, .inl (fun _ => 0))), (q13, .inr (2, [.ref q14, .ref q15, .int 0, .int 0])), (q14, .inl (cy 0, 520, .inl (fun _ => 0))), (q15, .inl (cy 0, 80, .inl (fun _ => 0)))] f16 := cW_call hW15 13 (by decide) rfl hC16
  refine spX11_41 (hW16.1.1 0 _ rfl) rfl (Nat.le_of_ble_eq_true rfl) dX11_init_79 ?_
  refine gz_gen (fun f17 hf17 => ?_)
  have hW17 : cW f x [(x, .inr (11, [.ref q1, .ref q5, .ref q7, .ref q9, .ref q10, .ref q13, .null, .null, .null, .null, .null, .null, .int 0])), (q1, .inr (0, [.ref q2, .ref q3])), (q2, .inl (cy 0, 2400, .inl (fun _ => 0))), (q3, .inr (7, [.ref q4, .int 0])), (q4, .inl (cy 0, 6, .inl (fun _ => 0))), (q5, .inr (9, [.ref q6, .int 0])), (q6, .inl (cy 1, 400, .inl (fun _ => 0))), (q7, .inr (9, [.ref q8, .int 0])), (q8, .inl (cy 1, 480, .inl (fun _ => 0))), (q9, .inl (cy 4, 20, .inr (.inr (.inr (.inr (fun _ => none)))))), (q10, .inr (2, [.ref q11, .ref q12, .int 0, .int 0])), (q11, .inl (cy 0, 520, .inl (fun _ => 0))), (q12, .inl (cy 0, 80, .inl (fun _ => 0))), (q13, .inr (2, [.ref q14, .ref q15, .int 0, .int 0])), (q14, .inl (cy 0, 520, .inl (fun _ => 0))), (q15, .inl (cy 0, 80, .inl (fun _ => 0)))] f17 := by rw [hf17]; exact cW_put hW16 0 rfl
  refine gz_aload_n dX11_init_82 rfl rfl ?_
  refine snX11_44 (Nat.le_of_ble_eq_true rfl) (Nat.le_of_ble_eq_true rfl) dX11_init_83 (fun q16 hq16n => ?_)
  refine gz_gen (fun f18 hf18 => ?_)
  have hW18 : cW f x [(x, .inr (11, [.ref q1, .ref q5, .ref q7, .ref q9, .ref q10, .ref q13, .null, .null, .null, .null, .null, .null, .int 0])), (q1, .inr (0, [.ref q2, .ref q3])), (q2, .inl (cy 0, 2400, .inl (fun _ => 0))), (q3, .inr (7, [.ref q4, .int 0])), (q4, .inl (cy 0, 6, .inl (fun _ => 0))), (q5, .inr (9, [.ref q6, .int 0])), (q6, .inl (cy 1, 400, .inl (fun _ => 0))), (q7, .inr (9, [.ref q8, .int 0])), (q8, .inl (cy 1, 480, .inl (fun _ => 0))), (q9, .inl (cy 4, 20, .inr (.inr (.inr (.inr (fun _ => none)))))), (q10, .inr (2, [.ref q11, .ref q12, .int 0, .int 0])), (q11, .inl (cy 0, 520, .inl (fun _ => 0))), (q12, .inl (cy 0, 80, .inl (fun _ => 0))), (q13, .inr (2, [.ref q14, .ref q15, .int 0, .int 0])), (q14, .inl (cy 0, 520, .inl (fun _ => 0))), (q15, .inl (cy 0, 80, .inl (fun _ => 0))), (q16, .inr (6, [.null, .null, .int 0, .int 0]))] f18 := by rw [hf18]; exact cW_new hW17 hq16n
  refine gz_dup dX11_init_86 rfl ?_
  refine gz_aload_n dX11_init_87 rfl rfl ?_
  refine sgX11_21 (hW18.1.1 0 _ rfl) rfl dX11_init_88 ?_
  refine gz_aload_n dX11_init_91 rfl rfl ?_
  refine sgX11_37 (hW18.1.1 0 _ rfl) rfl dX11_init_92 ?_
  refine scX11_46 (k_X6_init (hW18.1.1 16 _ rfl)) ⟨(Nat.le_of_ble_eq_true rfl), (Nat.le_of_ble_eq_true rfl)⟩ ⟨(Nat.le_of_ble_eq_true rfl), (Nat.le_of_ble_eq_true rfl)⟩ rfl rfl (Nat.le_of_ble_eq_true rfl) dX11_init_95 ?_
  intro f19 hC19
  have hW19 : cW f x [(x, .inr (11, [.ref q1, .ref q5, .ref q7, .ref q9, .ref q10, .ref q13, .null, .null, .null, .null, .null, .null, .int 0])), (q1, .inr (0, [.ref q2, .ref q3])), (q2, .inl (cy 0, 2400, .inl (fun _ => 0))), (q3, .inr (7, [.ref q4, .int 0])), (q4, .inl (cy 0, 6, .inl (fun _ => 0))), (q5, .inr (9, [.ref q6, .int 0])), (q6, .inl (cy 1, 400, .inl (fun _ => 0))), (q7, .inr (9, [.ref q8, .int 0])), (q8, .inl (cy 1, 480, .inl (fun _ => 0))), (q9, .inl (cy 4, 20, .inr (.inr (.inr (.inr (fun _ => none)))))), (q10, .inr (2, [.ref q11, .ref q12, .int 0, .int 0])), (q11, .inl (cy 0, 520, .inl (fun _ => 0))), (q12, .inl (cy 0, 80, .inl (fun _ => 0))), (q13, .inr (2, [.ref q14, .ref q15, .int 0, .int 0])), (q14, .inl (cy 0, 520, .inl (fun _ => 0))), (q15, .inl (cy 0, 80, .inl (fun _ => 0))), (q16, .inr (6, [.ref q5, .ref q10, .int 0, .int 0]))] f19 := cW_call hW18 16 (by decide) rfl hC19
  refine spX11_49 (hW19.1.1 0 _ rfl) rfl (Nat.le_of_ble_eq_true rfl) dX11_init_98 ?_
  refine gz_gen (fun f20 hf20 => ?_)
  have hW20 : cW f x [(x, .inr (11, [.ref q1, .ref q5, .ref q7, .ref q9, .ref q10, .ref q13, .ref q16, .null, .null, .null, .null, .null, .int 0])), (q1, .inr (0, [.ref q2, .ref q3])), (q2, .inl (cy 0, 2400, .inl (fun _ => 0))), (q3, .inr (7, [.ref q4, .int 0])), (q4, .inl (cy 0, 6, .inl (fun _ => 0))), (q5, .inr (9, [.ref q6, .int 0])), (q6, .inl (cy 1, 400, .inl (fun _ => 0))), (q7, .inr (9, [.ref q8, .int 0])), (q8, .inl (cy 1, 480, .inl (fun _ => 0))), (q9, .inl (cy 4, 20, .inr (.inr (.inr (.inr (fun _ => none)))))), (q10, .inr (2, [.ref q11, .ref q12, .int 0, .int 0])), (q11, .inl (cy 0, 520, .inl (fun _ => 0))), (q12, .inl (cy 0, 80, .inl (fun _ => 0))), (q13, .inr (2, [.ref q14, .ref q15, .int 0, .int 0])), (q14, .inl (cy 0, 520, .inl (fun _ => 0))), (q15, .inl (cy 0, 80, .inl (fun _ => 0))), (q16, .inr (6, [.ref q5, .ref q10, .int 0, .int 0]))] f20 := by rw [hf20]; exact cW_put hW19 0 rfl
  refine gz_aload_n dX11_init_101 rfl rfl ?_
  refine snX11_53 (Nat.le_of_ble_eq_true rfl) (Nat.le_of_ble_eq_true rfl) dX11_init_102 (fun q17 hq17n => ?_)
  refine gz_gen (fun f21 hf21 => ?_)
  have hW21 : cW f x [(x, .inr (11, [.ref q1, .ref q5, .ref q7, .ref q9, .ref q10, .ref q13, .ref q16, .null, .null, .null, .null, .null, .int 0])), (q1, .inr (0, [.ref q2, .ref q3])), (q2, .inl (cy 0, 2400, .inl (fun _ => 0))), (q3, .inr (7, [.ref q4, .int 0])), (q4, .inl (cy 0, 6, .inl (fun _ => 0))), (q5, .inr (9, [.ref q6, .int 0])), (q6, .inl (cy 1, 400, .inl (fun _ => 0))), (q7, .inr (9, [.ref q8, .int 0])), (q8, .inl (cy 1, 480, .inl (fun _ => 0))), (q9, .inl (cy 4, 20, .inr (.inr (.inr (.inr (fun _ => none)))))), (q10, .inr (2, [.ref q11, .ref q12, .int 0, .int 0])), (q11, .inl (cy 0, 520, .inl (fun _ => 0))), (q12, .inl (cy 0, 80, .inl (fun _ => 0))), (q13, .inr (2, [.ref q14, .ref q15, .int 0, .int 0])), (q14, .inl (cy 0, 520, .inl (fun _ => 0))), (q15, .inl (cy 0, 80, .inl (fun _ => 0))), (q16, .inr (6, [.ref q5, .ref q10, .int 0, .int 0])), (q17, .inr (8, [.null]))] f21 := by rw [hf21]; exact cW_new hW20 hq17n
  refine gz_dup dX11_init_105 rfl ?_
  refine gz_aload_n dX11_init_106 rfl rfl ?_
  refine sgX11_25 (hW21.1.1 0 _ rfl) rfl dX11_init_107 ?_
  refine scX11_55 (k_X8_init (hW21.1.1 17 _ rfl)) ⟨(Nat.le_of_ble_eq_true rfl), (Nat.le_of_ble_eq_true rfl)⟩ ⟨(Nat.le_of_ble_eq_true rfl), (Nat.le_of_ble_eq_true rfl)⟩ rfl rfl (Nat.le_of_ble_eq_true rfl) dX11_init_110 ?_
  intro f22 hC22
  have hW22 : cW f x [(x, .inr (11, [.ref q1, .ref q5, .ref q7, .ref q9, .ref q10, .ref q13, .ref q16, .null, .null, .null, .null, .null, .int 0])), (q1, .inr (0, [.ref q2, .ref q3])), (q2, .inl (cy 0, 2400, .inl (fun _ => 0))), (q3, .inr (7, [.ref q4, .int 0])), (q4, .inl (cy 0, 6, .inl (fun _ => 0))), (q5, .inr (9, [.ref q6, .int 0])), (q6, .inl (cy 1, 400, .inl (fun _ => 0))), (q7, .inr (9, [.ref q8, .int 0])), (q8, .inl (cy 1, 480, .inl (fun _ => 0))), (q9, .inl (cy 4, 20, .inr (.inr (.inr (.inr (fun _ => none)))))), (q10, .inr (2, [.ref q11, .ref q12, .int 0, .int 0])), (q11, .inl (cy 0, 520, .inl (fun _ => 0))), (q12, .inl (cy 0, 80, .inl (fun _ => 0))), (q13, .inr (2, [.ref q14, .ref q15, .int 0, .int 0])), (q14, .inl (cy 0, 520, .inl (fun _ => 0))), (q15, .inl (cy 0, 80, .inl (fun _ => 0))), (q16, .inr (6, [.ref q5, .ref q10, .int 0, .int 0])), (q17, .inr (8, [.ref q7]))] f22 := cW_call hW21 17 (by decide) rfl hC22
  refine spX11_58 (hW22.1.1 0 _ rfl) rfl (Nat.le_of_ble_eq_true rfl) dX11_init_113 ?_
  refine gz_gen (fun f23 hf23 => ?_)
  have hW23 : cW f x [(x, .inr (11, [.ref q1, .ref q5, .ref q7, .ref q9, .ref q10, .ref q13, .ref q16, .ref q17, .null, .null, .null, .null, .int 0])), (q1, .inr (0, [.ref q2, .ref q3])), (q2, .inl (cy 0, 2400, .inl (fun _ => 0))), (q3, .inr (7, [.ref q4, .int 0])), (q4, .inl (cy 0, 6, .inl (fun _ => 0))), (q5, .inr (9, [.ref q6, .int 0])), (q6, .inl (cy 1, 400, .inl (fun _ => 0))), (q7, .inr (9, [.ref q8, .int 0])), (q8, .inl (cy 1, 480, .inl (fun _ => 0))), (q9, .inl (cy 4, 20, .inr (.inr (.inr (.inr (fun _ => none)))))), (q10, .inr (2, [.ref q11, .ref q12, .int 0, .int 0])), (q11, .inl (cy 0, 520, .inl (fun _ => 0))), (q12, .inl (cy 0, 80, .inl (fun _ => 0))), (q13, .inr (2, [.ref q14, .ref q15, .int 0, .int 0])), (q14, .inl (cy 0, 520, .inl (fun _ => 0))), (q15, .inl (cy 0, 80, .inl (fun _ => 0))), (q16, .inr (6, [.ref q5, .ref q10, .int 0, .int 0])), (q17, .inr (8, [.ref q7]))] f23 := by rw [hf23]; exact cW_put hW22 0 rfl
  refine gz_aload_n dX11_init_116 rfl rfl ?_
  refine snX11_62 (Nat.le_of_ble_eq_true rfl) (Nat.le_of_ble_eq_true rfl) dX11_init_117 (fun q18 hq18n => ?_)
  refine gz_gen (fun f24 hf24 => ?_)
  have hW24 : cW f x [(x, .inr (11, [.ref q1, .ref q5, .ref q7, .ref q9, .ref q10, .ref q13, .ref q16, .ref q17, .null, .null, .null, .null, .int 0])), (q1, .inr (0, [.ref q2, .ref q3])), (q2, .inl (cy 0, 2400, .inl (fun _ => 0))), (q3, .inr (7, [.ref q4, .int 0])), (q4, .inl (cy 0, 6, .inl (fun _ => 0))), (q5, .inr (9, [.ref q6, .int 0])), (q6, .inl (cy 1, 400, .inl (fun _ => 0))), (q7, .inr (9, [.ref q8, .int 0])), (q8, .inl (cy 1, 480, .inl (fun _ => 0))), (q9, .inl (cy 4, 20, .inr (.inr (.inr (.inr (fun _ => none)))))), (q10, .inr (2, [.ref q11, .ref q12, .int 0, .int 0])), (q11, .inl (cy 0, 520, .inl (fun _ => 0))), (q12, .inl (cy 0, 80, .inl (fun _ => 0))), (q13, .inr (2, [.ref q14, .ref q15, .int 0, .int 0])), (q14, .inl (cy 0, 520, .inl (fun _ => 0))), (q15, .inl (cy 0, 80, .inl (fun _ => 0))), (q16, .inr (6, [.ref q5, .ref q10, .int 0, .int 0])), (q17, .inr (8, [.ref q7])), (q18, .inr (3, [.null, .null]))] f24 := by rw [hf24]; exact cW_new hW23 hq18n
  refine gz_dup dX11_init_120 rfl ?_
  refine scX11_64 (k_X3_init (hW24.1.1 18 _ rfl)) ⟨(Nat.le_of_ble_eq_true rfl), (Nat.le_of_ble_eq_true rfl)⟩ ⟨(Nat.le_of_ble_eq_true rfl), (Nat.le_of_ble_eq_true rfl)⟩ rfl rfl (Nat.le_of_ble_eq_true rfl) dX11_init_121 ?_
  rintro f25 ⟨q19, q20, q21, q22, hC25⟩
  have hW25 : cW f x [(x, .inr (11, [.ref q1, .ref q5, .ref q7, .ref q9, .ref q10, .ref q13, .ref q16, .ref q17, .null, .null, .null, .null, .int 0])), (q1, .inr (0, [.ref q2, .ref q3])), (q2, .inl (cy 0, 2400, .inl (fun _ => 0))), (q3, .inr (7, [.ref q4, .int 0])), (q4, .inl (cy 0, 6, .inl (fun _ => 0))), (q5, .inr (9, [.ref q6, .int 0])), (q6, .inl (cy 1, 400, .inl (fun _ => 0))), (q7, .inr (9, [.ref q8, .int 0])), (q8, .inl (cy 1, 480, .inl (fun _ => 0))), (q9, .inl (cy 4, 20, .inr (.inr (.inr (.inr (fun _ => none)))))), (q10, .inr (2, [.ref q11, .ref q12, .int 0, .int 0])), (q11, .inl (cy 0, 520, .inl (fun _ => 0))), (q12, .inl (cy 0, 80, .inl (fun _ => 0))), (q13, .inr (2, [.ref q14, .ref q15, .int 0, .int 0])), (q14, .inl (cy 0, 520, .inl (fun _ => 0))), (q15, .inl (cy 0, 80, .inl (fun _ => 0))), (q16, .inr (6, [.ref q5, .ref q10, .int 0, .int 0])), (q17, .inr (8, [.ref q7])), (q18, .inr (3, [.ref q19, .ref q22])), (q19, .inr (2, [.ref q20, .ref q21, .int 0, .int 0])), (q20, .inl (cy 0, 520, .inl (fun _ => 0))), (q21, .inl (cy 0, 80, .inl (fun _ => 0))), (q22, .inl (cy 0, 40, .inl (fun _ => 0)))] f25 := cW_call hW24 18 (by decide) rfl hC25
  refine spX11_65 (hW25.1.1 0 _ rfl) rfl (Nat.le_of_ble_eq_true rfl) dX11_init_124 ?_
  refine gz_gen (fun f26 hf26 => ?_)
  have hW26 : cW f x [(x, .inr (11, [.ref q1, .ref q5, .ref q7, .ref q9, .ref q10, .ref q13, .ref q16, .ref q17, .ref q18, .null, .null, .null, .int 0])), (q1, .inr (0, [.ref q2, .ref q3])), (q2, .inl (cy 0, 2400, .inl (fun _ => 0))), (q3, .inr (7, [.ref q4, .int 0])), (q4, .inl (cy 0, 6, .inl (fun _ => 0))), (q5, .inr (9, [.ref q6, .int 0])), (q6, .inl (cy 1, 400, .inl (fun _ => 0))), (q7, .inr (9, [.ref q8, .int 0])), (q8, .inl (cy 1, 480, .inl (fun _ => 0))), (q9, .inl (cy 4, 20, .inr (.inr (.inr (.inr (fun _ => none)))))), (q10, .inr (2, [.ref q11, .ref q12, .int 0, .int 0])), (q11, .inl (cy 0, 520, .inl (fun _ => 0))), (q12, .inl (cy 0, 80, .inl (fun _ => 0))), (q13, .inr (2, [.ref q14, .ref q15, .int 0, .int 0])), (q14, .inl (cy 0, 520, .inl (fun _ => 0))), (q15, .inl (cy 0, 80, .inl (fun _ => 0))), (q16, .inr (6, [.ref q5, .ref q10, .int 0, .int 0])), (q17, .inr (8, [.ref q7])), (q18, .inr (3, [.ref q19, .ref q22])), (q19, .inr (2, [.ref q20, .ref q21, .int 0, .int 0])), (q20, .inl (cy 0, 520, .inl (fun _ => 0))), (q21, .inl (cy 0, 80, .inl (fun _ => 0))), (q22, .inl (cy 0, 40, .inl (fun _ => 0)))] f26 := by rw [hf26]; exact cW_put hW25 0 rfl
  refine gz_aload_n dX11_init_127 rfl rfl ?_
  refine snX11_69 (Nat.le_of_ble_eq_true rfl) (Nat.le_of_ble_eq_true rfl) dX11_init_128 (fun q23 hq23n => ?_)
  refine gz_gen (fun f27 hf27 => ?_)
  have hW27 : cW f x [(x, .inr (11, [.ref q1, .ref q5, .ref q7, .ref q9, .ref q10, .ref q13, .ref q16, .ref q17, .ref q18, .null, .null, .null, .int 0])), (q1, .inr (0, [.ref q2, .ref q3])), (q2, .inl (cy 0, 2400, .inl (fun _ => 0))), (q3, .inr (7, [.ref q4, .int 0])), (q4, .inl (cy 0, 6, .inl (fun _ => 0))), (q5, .inr (9, [.ref q6, .int 0])), (q6, .inl (cy 1, 400, .inl (fun _ => 0))), (q7, .inr (9, [.ref q8, .int 0])), (q8, .inl (cy 1, 480, .inl (fun _ => 0))), (q9, .inl (cy 4, 20, .inr (.inr (.inr (.inr (fun _ => none)))))), (q10, .inr (2, [.ref q11, .ref q12, .int 0, .int 0])), (q11, .inl (cy 0, 520, .inl (fun _ => 0))), (q12, .inl (cy 0, 80, .inl (fun _ => 0))), (q13, .inr (2, [.ref q14, .ref q15, .int 0, .int 0])), (q14, .inl (cy 0, 520, .inl (fun _ => 0))), (q15, .inl (cy 0, 80, .inl (fun _ => 0))), (q16, .inr (6, [.ref q5, .ref q10, .int 0, .int 0])), (q17, .inr (8, [.ref q7])), (q18, .inr (3, [.ref q19, .ref q22])), (q19, .inr (2, [.ref q20, .ref q21, .int 0, .int 0])), (q20, .inl (cy 0, 520, .inl (fun _ => 0))), (q21, .inl (cy 0, 80, .inl (fun _ => 0))), (q22, .inl (cy 0, 40, .inl (fun _ => 0))), (q23, .inr (4, [.null, .int 0, .int 0, .null, .null, .null, .null, .null, .int 0]))] f27 := by rw [hf27]; exact cW_new hW26 hq23n
  refine gz_dup dX11_init_131 rfl ?_
  refine scX11_71 (k_X4_init (hW27.1.1 23 _ rfl)) ⟨(Nat.le_of_ble_eq_true rfl), (Nat.le_of_ble_eq_true rfl)⟩ ⟨(Nat.le_of_ble_eq_true rfl), (Nat.le_of_ble_eq_true rfl)⟩ rfl rfl (Nat.le_of_ble_eq_true rfl) dX11_init_132 ?_
  rintro f28 ⟨q24, q25, q26, q27, q28, q29, hC28⟩
  have hW28 : cW f x [(x, .inr (11, [.ref q1, .ref q5, .ref q7, .ref q9, .ref q10, .ref q13, .ref q16, .ref q17, .ref q18, .null, .null, .null, .int 0])), (q1, .inr (0, [.ref q2, .ref q3])), (q2, .inl (cy 0, 2400, .inl (fun _ => 0))), (q3, .inr (7, [.ref q4, .int 0])), (q4, .inl (cy 0, 6, .inl (fun _ => 0))), (q5, .inr (9, [.ref q6, .int 0])), (q6, .inl (cy 1, 400, .inl (fun _ => 0))), (q7, .inr (9, [.ref q8, .int 0])), (q8, .inl (cy 1, 480, .inl (fun _ => 0))), (q9, .inl (cy 4, 20, .inr (.inr (.inr (.inr (fun _ => none)))))), (q10, .inr (2, [.ref q11, .ref q12, .int 0, .int 0])), (q11, .inl (cy 0, 520, .inl (fun _ => 0))), (q12, .inl (cy 0, 80, .inl (fun _ => 0))), (q13, .inr (2, [.ref q14, .ref q15, .int 0, .int 0])), (q14, .inl (cy 0, 520, .inl (fun _ => 0))), (q15, .inl (cy 0, 80, .inl (fun _ => 0))), (q16, .inr (6, [.ref q5, .ref q10, .int 0, .int 0])), (q17, .inr (8, [.ref q7])), (q18, .inr (3, [.ref q19, .ref q22])), (q19, .inr (2, [.ref q20, .ref q21, .int 0, .int 0])), (q20, .inl (cy 0, 520, .inl (fun _ => 0))), (q21, .inl (cy 0, 80, .inl (fun _ => 0))), (q22, .inl (cy 0, 40, .inl (fun _ => 0))), (q23, .inr (4, [.ref q24, .int 0, .int 0, .ref q25, .ref q26, .ref q27, .ref q28, .ref q29, .int (-1)])), (q24, .inl (cy 0, 96, .inl (fun _ => 0))), (q25, .inl (cy 2, 8, .inr (.inl (fun _ => 0)))), (q26, .inl (cy 2, 8, .inr (.inl (fun _ => 0)))), (q27, .inl (cy 0, 8, .inl (fun _ => 0))), (q28, .inl (cy 0, 8, .inl (fun _ => 0))), (q29, .inl (cy 2, 8, .inr (.inl (fun _ => 0))))] f28 := cW_call hW27 23 (by decide) rfl hC28
  refine spX11_72 (hW28.1.1 0 _ rfl) rfl (Nat.le_of_ble_eq_true rfl) dX11_init_135 ?_
  refine gz_gen (fun f29 hf29 => ?_)
  have hW29 : cW f x [(x, .inr (11, [.ref q1, .ref q5, .ref q7, .ref q9, .ref q10, .ref q13, .ref q16, .ref q17, .ref q18, .ref q23, .null, .null, .int 0])), (q1, .inr (0, [.ref q2, .ref q3])), (q2, .inl (cy 0, 2400, .inl (fun _ => 0))), (q3, .inr (7, [.ref q4, .int 0])), (q4, .inl (cy 0, 6, .inl (fun _ => 0))), (q5, .inr (9, [.ref q6, .int 0])), (q6, .inl (cy 1, 400, .inl (fun _ => 0))), (q7, .inr (9, [.ref q8, .int 0])), (q8, .inl (cy 1, 480, .inl (fun _ => 0))), (q9, .inl (cy 4, 20, .inr (.inr (.inr (.inr (fun _ => none)))))), (q10, .inr (2, [.ref q11, .ref q12, .int 0, .int 0])), (q11, .inl (cy 0, 520, .inl (fun _ => 0))), (q12, .inl (cy 0, 80, .inl (fun _ => 0))), (q13, .inr (2, [.ref q14, .ref q15, .int 0, .int 0])), (q14, .inl (cy 0, 520, .inl (fun _ => 0))), (q15, .inl (cy 0, 80, .inl (fun _ => 0))), (q16, .inr (6, [.ref q5, .ref q10, .int 0, .int 0])), (q17, .inr (8, [.ref q7])), (q18, .inr (3, [.ref q19, .ref q22])), (q19, .inr (2, [.ref q20, .ref q21, .int 0, .int 0])), (q20, .inl (cy 0, 520, .inl (fun _ => 0))), (q21, .inl (cy 0, 80, .inl (fun _ => 0))), (q22, .inl (cy 0, 40, .inl (fun _ => 0))), (q23, .inr (4, [.ref q24, .int 0, .int 0, .ref q25, .ref q26, .ref q27, .ref q28, .ref q29, .int (-1)])), (q24, .inl (cy 0, 96, .inl (fun _ => 0))), (q25, .inl (cy 2, 8, .inr (.inl (fun _ => 0)))), (q26, .inl (cy 2, 8, .inr (.inl (fun _ => 0)))), (q27, .inl (cy 0, 8, .inl (fun _ => 0))), (q28, .inl (cy 0, 8, .inl (fun _ => 0))), (q29, .inl (cy 2, 8, .inr (.inl (fun _ => 0))))] f29 := by rw [hf29]; exact cW_put hW28 0 rfl
  refine gz_aload_n dX11_init_138 rfl rfl ?_
  refine snX11_76 (Nat.le_of_ble_eq_true rfl) (Nat.le_of_ble_eq_true rfl) dX11_init_139 (fun q30 hq30n => ?_)
  refine gz_gen (fun f30 hf30 => ?_)
  have hW30 : cW f x [(x, .inr (11, [.ref q1, .ref q5, .ref q7, .ref q9, .ref q10, .ref q13, .ref q16, .ref q17, .ref q18, .ref q23, .null, .null, .int 0])), (q1, .inr (0, [.ref q2, .ref q3])), (q2, .inl (cy 0, 2400, .inl (fun _ => 0))), (q3, .inr (7, [.ref q4, .int 0])), (q4, .inl (cy 0, 6, .inl (fun _ => 0))), (q5, .inr (9, [.ref q6, .int 0])), (q6, .inl (cy 1, 400, .inl (fun _ => 0))), (q7, .inr (9, [.ref q8, .int 0])), (q8, .inl (cy 1, 480, .inl (fun _ => 0))), (q9, .inl (cy 4, 20, .inr (.inr (.inr (.inr (fun _ => none)))))), (q10, .inr (2, [.ref q11, .ref q12, .int 0, .int 0])), (q11, .inl (cy 0, 520, .inl (fun _ => 0))), (q12, .inl (cy 0, 80, .inl (fun _ => 0))), (q13, .inr (2, [.ref q14, .ref q15, .int 0, .int 0])), (q14, .inl (cy 0, 520, .inl (fun _ => 0))), (q15, .inl (cy 0, 80, .inl (fun _ => 0))), (q16, .inr (6, [.ref q5, .ref q10, .int 0, .int 0])), (q17, .inr (8, [.ref q7])), (q18, .inr (3, [.ref q19, .ref q22])), (q19, .inr (2, [.ref q20, .ref q21, .int 0, .int 0])), (q20, .inl (cy 0, 520, .inl (fun _ => 0))), (q21, .inl (cy 0, 80, .inl (fun _ => 0))), (q22, .inl (cy 0, 40, .inl (fun _ => 0))), (q23, .inr (4, [.ref q24, .int 0, .int 0, .ref q25, .ref q26, .ref q27, .ref q28, .ref q29, .int (-1)])), (q24, .inl (cy 0, 96, .inl (fun _ => 0))), (q25, .inl (cy 2, 8, .inr (.inl (fun _ => 0)))), (q26, .inl (cy 2, 8, .inr (.inl (fun _ => 0)))), (q27, .inl (cy 0, 8, .inl (fun _ => 0))), (q28, .inl (cy 0, 8, .inl (fun _ => 0))), (q29, .inl (cy 2, 8, .inr (.inl (fun _ => 0)))), (q30, .inr (1, [.null, .null, .null, .int 0]))] f30 := by rw [hf30]; exact cW_new hW29 hq30n
  refine gz_dup dX11_init_142 rfl ?_
  refine gz_aload_n dX11_init_143 rfl rfl ?_
  refine sgX11_12 (hW30.1.1 0 _ rfl) rfl dX11_init_144 ?_
  refine sgX11_78 (hW30.1.1 1 _ rfl) rfl dX11_init_147 ?_
  refine gz_aload_n dX11_init_150 rfl rfl ?_
  refine sgX11_72 (hW30.1.1 0 _ rfl) rfl dX11_init_151 ?_
  refine scX11_82 (k_X1_init (hW30.1.1 30 _ rfl)) ⟨(Nat.le_of_ble_eq_true rfl), (Nat.le_of_ble_eq_true rfl)⟩ ⟨(Nat.le_of_ble_eq_true rfl), (Nat.le_of_ble_eq_true rfl)⟩ rfl rfl (Nat.le_of_ble_eq_true rfl) dX11_init_154 ?_
  rintro f31 ⟨q31, hC31⟩
  have hW31 : cW f x [(x, .inr (11, [.ref q1, .ref q5, .ref q7, .ref q9, .ref q10, .ref q13, .ref q16, .ref q17, .ref q18, .ref q23, .null, .null, .int 0])), (q1, .inr (0, [.ref q2, .ref q3])), (q2, .inl (cy 0, 2400, .inl (fun _ => 0))), (q3, .inr (7, [.ref q4, .int 0])), (q4, .inl (cy 0, 6, .inl (fun _ => 0))), (q5, .inr (9, [.ref q6, .int 0])), (q6, .inl (cy 1, 400, .inl (fun _ => 0))), (q7, .inr (9, [.ref q8, .int 0])), (q8, .inl (cy 1, 480, .inl (fun _ => 0))), (q9, .inl (cy 4, 20, .inr (.inr (.inr (.inr (fun _ => none)))))), (q10, .inr (2, [.ref q11, .ref q12, .int 0, .int 0])), (q11, .inl (cy 0, 520, .inl (fun _ => 0))), (q12, .inl (cy 0, 80, .inl (fun _ => 0))), (q13, .inr (2, [.ref q14, .ref q15, .int 0, .int 0])), (q14, .inl (cy 0, 520, .inl (fun _ => 0))), (q15, .inl (cy 0, 80, .inl (fun _ => 0))), (q16, .inr (6, [.ref q5, .ref q10, .int 0, .int 0])), (q17, .inr (8, [.ref q7])), (q18, .inr (3, [.ref q19, .ref q22])), (q19, .inr (2, [.ref q20, .ref q21, .int 0, .int 0])), (q20, .inl (cy 0, 520, .inl (fun _ => 0))), (q21, .inl (cy 0, 80, .inl (fun _ => 0))), (q22, .inl (cy 0, 40, .inl (fun _ => 0))), (q23, .inr (4, [.ref q24, .int 0, .int 0, .ref q25, .ref q26, .ref q27, .ref q28, .ref q29, .int (-1)])), (q24, .inl (cy 0, 96, .inl (fun _ => 0))), (q25, .inl (cy 2, 8, .inr (.inl (fun _ => 0)))), (q26, .inl (cy 2, 8, .inr (.inl (fun _ => 0)))), (q27, .inl (cy 0, 8, .inl (fun _ => 0))), (q28, .inl (cy 0, 8, .inl (fun _ => 0))), (q29, .inl (cy 2, 8, .inr (.inl (fun _ => 0)))), (q30, .inr (1, [.ref q31, .ref q3, .ref q23, .int 0])), (q31, .inl (cy 5, 40, .inr (.inr (.inr (.inr (fun _ => none))))))] f31 := cW_call hW30 30 (by decide) rfl hC31
  refine spX11_85 (hW31.1.1 0 _ rfl) rfl (Nat.le_of_ble_eq_true rfl) dX11_init_157 ?_
  refine gz_gen (fun f32 hf32 => ?_)
  have hW32 : cW f x [(x, .inr (11, [.ref q1, .ref q5, .ref q7, .ref q9, .ref q10, .ref q13, .ref q16, .ref q17, .ref q18, .ref q23, .ref q30, .null, .int 0])), (q1, .inr (0, [.ref q2, .ref q3])), (q2, .inl (cy 0, 2400, .inl (fun _ => 0))), (q3, .inr (7, [.ref q4, .int 0])), (q4, .inl (cy 0, 6, .inl (fun _ => 0))), (q5, .inr (9, [.ref q6, .int 0])), (q6, .inl (cy 1, 400, .inl (fun _ => 0))), (q7, .inr (9, [.ref q8, .int 0])), (q8, .inl (cy 1, 480, .inl (fun _ => 0))), (q9, .inl (cy 4, 20, .inr (.inr (.inr (.inr (fun _ => none)))))), (q10, .inr (2, [.ref q11, .ref q12, .int 0, .int 0])), (q11, .inl (cy 0, 520, .inl (fun _ => 0))), (q12, .inl (cy 0, 80, .inl (fun _ => 0))), (q13, .inr (2, [.ref q14, .ref q15, .int 0, .int 0])), (q14, .inl (cy 0, 520, .inl (fun _ => 0))), (q15, .inl (cy 0, 80, .inl (fun _ => 0))), (q16, .inr (6, [.ref q5, .ref q10, .int 0, .int 0])), (q17, .inr (8, [.ref q7])), (q18, .inr (3, [.ref q19, .ref q22])), (q19, .inr (2, [.ref q20, .ref q21, .int 0, .int 0])), (q20, .inl (cy 0, 520, .inl (fun _ => 0))), (q21, .inl (cy 0, 80, .inl (fun _ => 0))), (q22, .inl (cy 0, 40, .inl (fun _ => 0))), (q23, .inr (4, [.ref q24, .int 0, .int 0, .ref q25, .ref q26, .ref q27, .ref q28, .ref q29, .int (-1)])), (q24, .inl (cy 0, 96, .inl (fun _ => 0))), (q25, .inl (cy 2, 8, .inr (.inl (fun _ => 0)))), (q26, .inl (cy 2, 8, .inr (.inl (fun _ => 0)))), (q27, .inl (cy 0, 8, .inl (fun _ => 0))), (q28, .inl (cy 0, 8, .inl (fun _ => 0))), (q29, .inl (cy 2, 8, .inr (.inl (fun _ => 0)))), (q30, .inr (1, [.ref q31, .ref q3, .ref q23, .int 0])), (q31, .inl (cy 5, 40, .inr (.inr (.inr (.inr (fun _ => none))))))] f32 := by rw [hf32]; exact cW_put hW31 0 rfl
  refine gz_aload_n dX11_init_160 rfl rfl ?_
  refine snX11_89 (Nat.le_of_ble_eq_true rfl) (Nat.le_of_ble_eq_true rfl) dX11_init_161 (fun q32 hq32n => ?_)
  refine gz_gen (fun f33 hf33 => ?_)
  have hW33 : cW f x [(x, .inr (11, [.ref q1, .ref q5, .ref q7, .ref q9, .ref q10, .ref q13, .ref q16, .ref q17, .ref q18, .ref q23, .ref q30, .null, .int 0])), (q1, .inr (0, [.ref q2, .ref q3])), (q2, .inl (cy 0, 2400, .inl (fun _ => 0))), (q3, .inr (7, [.ref q4, .int 0])), (q4, .inl (cy 0, 6, .inl (fun _ => 0))), (q5, .inr (9, [.ref q6, .int 0])), (q6, .inl (cy 1, 400, .inl (fun _ => 0))), (q7, .inr (9, [.ref q8, .int 0])), (q8, .inl (cy 1, 480, .inl (fun _ => 0))), (q9, .inl (cy 4, 20, .inr (.inr (.inr (.inr (fun _ => none)))))), (q10, .inr (2, [.ref q11, .ref q12, .int 0, .int 0])), (q11, .inl (cy 0, 520, .inl (fun _ => 0))), (q12, .inl (cy 0, 80, .inl (fun _ => 0))), (q13, .inr (2, [.ref q14, .ref q15, .int 0, .int 0])), (q14, .inl (cy 0, 520, .inl (fun _ => 0))), (q15, .inl (cy 0, 80, .inl (fun _ => 0))), (q16, .inr (6, [.ref q5, .ref q10, .int 0, .int 0])), (q17, .inr (8, [.ref q7])), (q18, .inr (3, [.ref q19, .ref q22])), (q19, .inr (2, [.ref q20, .ref q21, .int 0, .int 0])), (q20, .inl (cy 0, 520, .inl (fun _ => 0))), (q21, .inl (cy 0, 80, .inl (fun _ => 0))), (q22, .inl (cy 0, 40, .inl (fun _ => 0))), (q23, .inr (4, [.ref q24, .int 0, .int 0, .ref q25, .ref q26, .ref q27, .ref q28, .ref q29, .int (-1)])), (q24, .inl (cy 0, 96, .inl (fun _ => 0))), (q25, .inl (cy 2, 8, .inr (.inl (fun _ => 0)))), (q26, .inl (cy 2, 8, .inr (.inl (fun _ => 0)))), (q27, .inl (cy 0, 8, .inl (fun _ => 0))), (q28, .inl (cy 0, 8, .inl (fun _ => 0))), (q29, .inl (cy 2, 8, .inr (.inl (fun _ => 0)))), (q30, .inr (1, [.ref q31, .ref q3, .ref q23, .int 0])), (q31, .inl (cy 5, 40, .inr (.inr (.inr (.inr (fun _ => none)))))), (q32, .inr (10, [.int 0, .null, .null, .null, .null, .null, .null, .int 0, .int 0]))] f33 := by rw [hf33]; exact cW_new hW32 hq32n
  refine gz_dup dX11_init_164 rfl ?_
  refine gz_aload_n dX11_init_165 rfl rfl ?_
  refine sgX11_12 (hW33.1.1 0 _ rfl) rfl dX11_init_166 ?_
  refine sgX11_78 (hW33.1.1 1 _ rfl) rfl dX11_init_169 ?_
  refine scX11_91 (k_X10_init (hW33.1.1 32 _ rfl)) ⟨(Nat.le_of_ble_eq_true rfl), (Nat.le_of_ble_eq_true rfl)⟩ ⟨(Nat.le_of_ble_eq_true rfl), (Nat.le_of_ble_eq_true rfl)⟩ rfl rfl (Nat.le_of_ble_eq_true rfl) dX11_init_172 ?_
  rintro f34 ⟨q33, q34, q35, q36, q37, q38, q39, q40, q41, q42, q43, q44, q45, q46, q47, q48, q49, hC34⟩
  have hW34 : cW f x [(x, .inr (11, [.ref q1, .ref q5, .ref q7, .ref q9, .ref q10, .ref q13, .ref q16, .ref q17, .ref q18, .ref q23, .ref q30, .null, .int 0])), (q1, .inr (0, [.ref q2, .ref q3])), (q2, .inl (cy 0, 2400, .inl (fun _ => 0))), (q3, .inr (7, [.ref q4, .int 0])), (q4, .inl (cy 0, 6, .inl (fun _ => 0))), (q5, .inr (9, [.ref q6, .int 0])), (q6, .inl (cy 1, 400, .inl (fun _ => 0))), (q7, .inr (9, [.ref q8, .int 0])), (q8, .inl (cy 1, 480, .inl (fun _ => 0))), (q9, .inl (cy 4, 20, .inr (.inr (.inr (.inr (fun _ => none)))))), (q10, .inr (2, [.ref q11, .ref q12, .int 0, .int 0])), (q11, .inl (cy 0, 520, .inl (fun _ => 0))), (q12, .inl (cy 0, 80, .inl (fun _ => 0))), (q13, .inr (2, [.ref q14, .ref q15, .int 0, .int 0])), (q14, .inl (cy 0, 520, .inl (fun _ => 0))), (q15, .inl (cy 0, 80, .inl (fun _ => 0))), (q16, .inr (6, [.ref q5, .ref q10, .int 0, .int 0])), (q17, .inr (8, [.ref q7])), (q18, .inr (3, [.ref q19, .ref q22])), (q19, .inr (2, [.ref q20, .ref q21, .int 0, .int 0])), (q20, .inl (cy 0, 520, .inl (fun _ => 0))), (q21, .inl (cy 0, 80, .inl (fun _ => 0))), (q22, .inl (cy 0, 40, .inl (fun _ => 0))), (q23, .inr (4, [.ref q24, .int 0, .int 0, .ref q25, .ref q26, .ref q27, .ref q28, .ref q29, .int (-1)])), (q24, .inl (cy 0, 96, .inl (fun _ => 0))), (q25, .inl (cy 2, 8, .inr (.inl (fun _ => 0)))), (q26, .inl (cy 2, 8, .inr (.inl (fun _ => 0)))), (q27, .inl (cy 0, 8, .inl (fun _ => 0))), (q28, .inl (cy 0, 8, .inl (fun _ => 0))), (q29, .inl (cy 2, 8, .inr (.inl (fun _ => 0)))), (q30, .inr (1, [.ref q31, .ref q3, .ref q23, .int 0])), (q31, .inl (cy 5, 40, .inr (.inr (.inr (.inr (fun _ => none)))))), (q32, .inr (10, [.int 1, .ref q33, .ref q34, .ref q35, .ref q36, .ref q3, .ref q37, .int 0, .int 0])), (q33, .inl (cy 0, 3, .inl (upd (fun _ => 0) (Int32.toNatClampNeg 0) 1))), (q34, .inl (cy 0, 18, .inl (fun _ => 0))), (q35, .inl (cy 6, 5, .inr (.inr (.inr (.inr (va_up (va_up (va_up (va_up (va_up (fun _ => none) (Int32.toNatClampNeg 0) (some q40)) (Int32.toNatClampNeg 1) (some q42)) (Int32.toNatClampNeg 2) (some q44)) (Int32.toNatClampNeg 3) (some q46)) (Int32.toNatClampNeg 4) (some q48))))))), (q36, .inl (cy 2, 5, .inr (.inl (fun _ => 0)))), (q37, .inr (2, [.ref q38, .ref q39, .int 0, .int 0])), (q38, .inl (cy 0, 0, .inl (fun _ => 0))), (q39, .inl (cy 0, 0, .inl (fun _ => 0))), (q40, .inr (7, [.ref q41, .int 0])), (q41, .inl (cy 0, 6, .inl (fun _ => 0))), (q42, .inr (7, [.ref q43, .int 0])), (q43, .inl (cy 0, 6, .inl (fun _ => 0))), (q44, .inr (7, [.ref q45, .int 0])), (q45, .inl (cy 0, 6, .inl (fun _ => 0))), (q46, .inr (7, [.ref q47, .int 0])), (q47, .inl (cy 0, 6, .inl (fun _ => 0))), (q48, .inr (7, [.ref q49, .int 0])), (q49, .inl (cy 0, 6, .inl (fun _ => 0)))] f34 := cW_call hW33 32 (by decide) rfl hC34
  refine spX11_94 (hW34.1.1 0 _ rfl) rfl (Nat.le_of_ble_eq_true rfl) dX11_init_175 ?_
  refine gz_gen (fun f35 hf35 => ?_)
  have hW35 : cW f x [(x, .inr (11, [.ref q1, .ref q5, .ref q7, .ref q9, .ref q10, .ref q13, .ref q16, .ref q17, .ref q18, .ref q23, .ref q30, .ref q32, .int 0])), (q1, .inr (0, [.ref q2, .ref q3])), (q2, .inl (cy 0, 2400, .inl (fun _ => 0))), (q3, .inr (7, [.ref q4, .int 0])), (q4, .inl (cy 0, 6, .inl (fun _ => 0))), (q5, .inr (9, [.ref q6, .int 0])), (q6, .inl (cy 1, 400, .inl (fun _ => 0))), (q7, .inr (9, [.ref q8, .int 0])), (q8, .inl (cy 1, 480, .inl (fun _ => 0))), (q9, .inl (cy 4, 20, .inr (.inr (.inr (.inr (fun _ => none)))))), (q10, .inr (2, [.ref q11, .ref q12, .int 0, .int 0])), (q11, .inl (cy 0, 520, .inl (fun _ => 0))), (q12, .inl (cy 0, 80, .inl (fun _ => 0))), (q13, .inr (2, [.ref q14, .ref q15, .int 0, .int 0])), (q14, .inl (cy 0, 520, .inl (fun _ => 0))), (q15, .inl (cy 0, 80, .inl (fun _ => 0))), (q16, .inr (6, [.ref q5, .ref q10, .int 0, .int 0])), (q17, .inr (8, [.ref q7])), (q18, .inr (3, [.ref q19, .ref q22])), (q19, .inr (2, [.ref q20, .ref q21, .int 0, .int 0])), (q20, .inl (cy 0, 520, .inl (fun _ => 0))), (q21, .inl (cy 0, 80, .inl (fun _ => 0))), (q22, .inl (cy 0, 40, .inl (fun _ => 0))), (q23, .inr (4, [.ref q24, .int 0, .int 0, .ref q25, .ref q26, .ref q27, .ref q28, .ref q29, .int (-1)])), (q24, .inl (cy 0, 96, .inl (fun _ => 0))), (q25, .inl (cy 2, 8, .inr (.inl (fun _ => 0)))), (q26, .inl (cy 2, 8, .inr (.inl (fun _ => 0)))), (q27, .inl (cy 0, 8, .inl (fun _ => 0))), (q28, .inl (cy 0, 8, .inl (fun _ => 0))), (q29, .inl (cy 2, 8, .inr (.inl (fun _ => 0)))), (q30, .inr (1, [.ref q31, .ref q3, .ref q23, .int 0])), (q31, .inl (cy 5, 40, .inr (.inr (.inr (.inr (fun _ => none)))))), (q32, .inr (10, [.int 1, .ref q33, .ref q34, .ref q35, .ref q36, .ref q3, .ref q37, .int 0, .int 0])), (q33, .inl (cy 0, 3, .inl (upd (fun _ => 0) (Int32.toNatClampNeg 0) 1))), (q34, .inl (cy 0, 18, .inl (fun _ => 0))), (q35, .inl (cy 6, 5, .inr (.inr (.inr (.inr (va_up (va_up (va_up (va_up (va_up (fun _ => none) (Int32.toNatClampNeg 0) (some q40)) (Int32.toNatClampNeg 1) (some q42)) (Int32.toNatClampNeg 2) (some q44)) (Int32.toNatClampNeg 3) (some q46)) (Int32.toNatClampNeg 4) (some q48))))))), (q36, .inl (cy 2, 5, .inr (.inl (fun _ => 0)))), (q37, .inr (2, [.ref q38, .ref q39, .int 0, .int 0])), (q38, .inl (cy 0, 0, .inl (fun _ => 0))), (q39, .inl (cy 0, 0, .inl (fun _ => 0))), (q40, .inr (7, [.ref q41, .int 0])), (q41, .inl (cy 0, 6, .inl (fun _ => 0))), (q42, .inr (7, [.ref q43, .int 0])), (q43, .inl (cy 0, 6, .inl (fun _ => 0))), (q44, .inr (7, [.ref q45, .int 0])), (q45, .inl (cy 0, 6, .inl (fun _ => 0))), (q46, .inr (7, [.ref q47, .int 0])), (q47, .inl (cy 0, 6, .inl (fun _ => 0))), (q48, .inr (7, [.ref q49, .int 0])), (q49, .inl (cy 0, 6, .inl (fun _ => 0)))] f35 := by rw [hf35]; exact cW_put hW34 0 rfl
  exact gz_vret rfl dX11_init_178 (Nat.le_of_ble_eq_true rfl) (Nat.le_of_ble_eq_true rfl) (⟨rfl, _, _, _, _, _, _, _, _, _, _, _, _, _, _, _, _, _, _, _, _, _, _, _, _, _, _, _, _, _, _, _, _, _, _, _, _, _, _, _, _, _, _, _, _, _, _, _, _, _, hW35⟩)

def ownT : List (Nat × va_E) → List Nat → Nat → Nat
  | q :: W, t :: T, a => if a = q.1 then t else ownT W T a
  | [], _, _ => 0
  | _, [], _ => 0
theorem ownT_at : ∀ (W : List (Nat × va_E)) (T : List Nat) (k : Nat) (q : Nat × va_E) (t : Nat), (∀ (i j : Nat) (p r : Nat × va_E), W[i]? = some p → W[j]? = some r → p.1 = r.1 → i = j) → W[k]? = some q → T[k]? = some t → ownT W T q.1 = t := by
  intro W
  induction W with
  | nil => intro T k q t hd h1 h2; cases h1
  | cons p W ih =>
    intro T k q t hd h1 h2
    cases T with
    | nil => cases h2
    | cons t0 T =>
      by_cases e : q.1 = p.1
      · have hk : k = 0 := hd k 0 q p h1 rfl e
        subst hk
        cases h1
        cases h2
        exact if_pos rfl
      · rw [ownT, if_neg e]
        cases k with
        | zero => cases h1; exact absurd rfl e
        | succ k => exact ih T k q t (fun i j p r hi hj he => Nat.succ.inj (hd (i + 1) (j + 1) p r hi hj he)) h1 h2
theorem ownT_out : ∀ (W : List (Nat × va_E)) (T : List Nat) (a : Nat), (∀ q, q ∈ W → q.1 ≠ a) → ownT W T a = 0 := by
  intro W
  induction W with
  | nil => intro T a h; cases T <;> rfl
  | cons p W ih =>
    intro T a h
    cases T with
    | nil => rfl
    | cons t0 T =>
      rw [ownT, if_neg (fun e => h p List.mem_cons_self e.symm)]
      exact ih T a (fun q hq => h q (List.mem_cons_of_mem _ hq))

set_option maxHeartbeats 4000000 in
set_option maxRecDepth 100000 in
theorem xI_init {cy : Nat → ClassId} {f f2 : gMem} {x q1 q2 q3 q4 q5 q6 q7 q8 q9 q10 q11 q12 q13 q14 q15 q16 q17 q18 q19 q20 q21 q22 q23 q24 q25 q26 q27 q28 q29 q30 q31 q32 q33 q34 q35 q36 q37 q38 q39 q40 q41 q42 q43 q44 q45 q46 q47 q48 q49 : Nat} (hW : cW f x [(x, .inr (11, [.ref q1, .ref q5, .ref q7, .ref q9, .ref q10, .ref q13, .ref q16, .ref q17, .ref q18, .ref q23, .ref q30, .ref q32, .int 0])), (q1, .inr (0, [.ref q2, .ref q3])), (q2, .inl (cy 0, 2400, .inl (fun _ => 0))), (q3, .inr (7, [.ref q4, .int 0])), (q4, .inl (cy 0, 6, .inl (fun _ => 0))), (q5, .inr (9, [.ref q6, .int 0])), (q6, .inl (cy 1, 400, .inl (fun _ => 0))), (q7, .inr (9, [.ref q8, .int 0])), (q8, .inl (cy 1, 480, .inl (fun _ => 0))), (q9, .inl (cy 4, 20, .inr (.inr (.inr (.inr (fun _ => none)))))), (q10, .inr (2, [.ref q11, .ref q12, .int 0, .int 0])), (q11, .inl (cy 0, 520, .inl (fun _ => 0))), (q12, .inl (cy 0, 80, .inl (fun _ => 0))), (q13, .inr (2, [.ref q14, .ref q15, .int 0, .int 0])), (q14, .inl (cy 0, 520, .inl (fun _ => 0))), (q15, .inl (cy 0, 80, .inl (fun _ => 0))), (q16, .inr (6, [.ref q5, .ref q10, .int 0, .int 0])), (q17, .inr (8, [.ref q7])), (q18, .inr (3, [.ref q19, .ref q22])), (q19, .inr (2, [.ref q20, .ref q21, .int 0, .int 0])), (q20, .inl (cy 0, 520, .inl (fun _ => 0))), (q21, .inl (cy 0, 80, .inl (fun _ => 0))), (q22, .inl (cy 0, 40, .inl (fun _ => 0))), (q23, .inr (4, [.ref q24, .int 0, .int 0, .ref q25, .ref q26, .ref q27, .ref q28, .ref q29, .int (-1)])), (q24, .inl (cy 0, 96, .inl (fun _ => 0))), (q25, .inl (cy 2, 8, .inr (.inl (fun _ => 0)))), (q26, .inl (cy 2, 8, .inr (.inl (fun _ => 0)))), (q27, .inl (cy 0, 8, .inl (fun _ => 0))), (q28, .inl (cy 0, 8, .inl (fun _ => 0))), (q29, .inl (cy 2, 8, .inr (.inl (fun _ => 0)))), (q30, .inr (1, [.ref q31, .ref q3, .ref q23, .int 0])), (q31, .inl (cy 5, 40, .inr (.inr (.inr (.inr (fun _ => none)))))), (q32, .inr (10, [.int 1, .ref q33, .ref q34, .ref q35, .ref q36, .ref q3, .ref q37, .int 0, .int 0])), (q33, .inl (cy 0, 3, .inl (upd (fun _ => 0) (Int32.toNatClampNeg 0) 1))), (q34, .inl (cy 0, 18, .inl (fun _ => 0))), (q35, .inl (cy 6, 5, .inr (.inr (.inr (.inr (va_up (va_up (va_up (va_up (va_up (fun _ => none) (Int32.toNatClampNeg 0) (some q40)) (Int32.toNatClampNeg 1) (some q42)) (Int32.toNatClampNeg 2) (some q44)) (Int32.toNatClampNeg 3) (some q46)) (Int32.toNatClampNeg 4) (some q48))))))), (q36, .inl (cy 2, 5, .inr (.inl (fun _ => 0)))), (q37, .inr (2, [.ref q38, .ref q39, .int 0, .int 0])), (q38, .inl (cy 0, 0, .inl (fun _ => 0))), (q39, .inl (cy 0, 0, .inl (fun _ => 0))), (q40, .inr (7, [.ref q41, .int 0])), (q41, .inl (cy 0, 6, .inl (fun _ => 0))), (q42, .inr (7, [.ref q43, .int 0])), (q43, .inl (cy 0, 6, .inl (fun _ => 0))), (q44, .inr (7, [.ref q45, .int 0])), (q45, .inl (cy 0, 6, .inl (fun _ => 0))), (q46, .inr (7, [.ref q47, .int 0])), (q47, .inl (cy 0, 6, .inl (fun _ => 0))), (q48, .inr (7, [.ref q49, .int 0])), (q49, .inl (cy 0, 6, .inl (fun _ => 0)))] f2) : ∃ own : Nat → Nat, xI cy own x 0 0 0 0 0 0 1 0 (fun _ => 0) (upd (fun _ => 0) (Int32.toNatClampNeg 0) 1) (fun _ => 0) (fun _ => 0) (fun _ _ _ _ _ => False) (fun _ => 0) (fun _ => 0) (fun _ _ _ _ _ _ _ _ _ => False) 96 f2 ∧ (∀ a : Nat, (a ≠ x ∧ f a ≠ none) ∨ f2 a = none → own a = 0) := by
  obtain ⟨own, hown⟩ : ∃ own : Nat → Nat, own = ownT [(x, .inr (11, [.ref q1, .ref q5, .ref q7, .ref q9, .ref q10, .ref q13, .ref q16, .ref q17, .ref q18, .ref q23, .ref q30, .ref q32, .int 0])), (q1, .inr (0, [.ref q2, .ref q3])), (q2, .inl (cy 0, 2400, .inl (fun _ => 0))), (q3, .inr (7, [.ref q4, .int 0])), (q4, .inl (cy 0, 6, .inl (fun _ => 0))), (q5, .inr (9, [.ref q6, .int 0])), (q6, .inl (cy 1, 400, .inl (fun _ => 0))), (q7, .inr (9, [.ref q8, .int 0])), (q8, .inl (cy 1, 480, .inl (fun _ => 0))), (q9, .inl (cy 4, 20, .inr (.inr (.inr (.inr (fun _ => none)))))), (q10, .inr (2, [.ref q11, .ref q12, .int 0, .int 0])), (q11, .inl (cy 0, 520, .inl (fun _ => 0))), (q12, .inl (cy 0, 80, .inl (fun _ => 0))), (q13, .inr (2, [.ref q14, .ref q15, .int 0, .int 0])), (q14, .inl (cy 0, 520, .inl (fun _ => 0))), (q15, .inl (cy 0, 80, .inl (fun _ => 0))), (q16, .inr (6, [.ref q5, .ref q10, .int 0, .int 0])), (q17, .inr (8, [.ref q7])), (q18, .inr (3, [.ref q19, .ref q22])), (q19, .inr (2, [.ref q20, .ref q21, .int 0, .int 0])), (q20, .inl (cy 0, 520, .inl (fun _ => 0))), (q21, .inl (cy 0, 80, .inl (fun _ => 0))), (q22, .inl (cy 0, 40, .inl (fun _ => 0))), (q23, .inr (4, [.ref q24, .int 0, .int 0, .ref q25, .ref q26, .ref q27, .ref q28, .ref q29, .int (-1)])), (q24, .inl (cy 0, 96, .inl (fun _ => 0))), (q25, .inl (cy 2, 8, .inr (.inl (fun _ => 0)))), (q26, .inl (cy 2, 8, .inr (.inl (fun _ => 0)))), (q27, .inl (cy 0, 8, .inl (fun _ => 0))), (q28, .inl (cy 0, 8, .inl (fun _ => 0))), (q29, .inl (cy 2, 8, .inr (.inl (fun _ => 0)))), (q30, .inr (1, [.ref q31, .ref q3, .ref q23, .int 0])), (q31, .inl (cy 5, 40, .inr (.inr (.inr (.inr (fun _ => none)))))), (q32, .inr (10, [.int 1, .ref q33, .ref q34, .ref q35, .ref q36, .ref q3, .ref q37, .int 0, .int 0])), (q33, .inl (cy 0, 3, .inl (upd (fun _ => 0) (Int32.toNatClampNeg 0) 1))), (q34, .inl (cy 0, 18, .inl (fun _ => 0))), (q35, .inl (cy 6, 5, .inr (.inr (.inr (.inr (va_up (va_up (va_up (va_up (va_up (fun _ => none) (Int32.toNatClampNeg 0) (some q40)) (Int32.toNatClampNeg 1) (some q42)) (Int32.toNatClampNeg 2) (some q44)) (Int32.toNatClampNeg 3) (some q46)) (Int32.toNatClampNeg 4) (some q48))))))), (q36, .inl (cy 2, 5, .inr (.inl (fun _ => 0)))), (q37, .inr (2, [.ref q38, .ref q39, .int 0, .int 0])), (q38, .inl (cy 0, 0, .inl (fun _ => 0))), (q39, .inl (cy 0, 0, .inl (fun _ => 0))), (q40, .inr (7, [.ref q41, .int 0])), (q41, .inl (cy 0, 6, .inl (fun _ => 0))), (q42, .inr (7, [.ref q43, .int 0])), (q43, .inl (cy 0, 6, .inl (fun _ => 0))), (q44, .inr (7, [.ref q45, .int 0])), (q45, .inl (cy 0, 6, .inl (fun _ => 0))), (q46, .inr (7, [.ref q47, .int 0])), (q47, .inl (cy 0, 6, .inl (fun _ => 0))), (q48, .inr (7, [.ref q49, .int 0])), (q49, .inl (cy 0, 6, .inl (fun _ => 0)))] [13000, 1000, 1001, 1002, 1003, 2000, 2001, 14000, 14001, 5000, 6000, 6001, 6002, 7000, 7001, 7002, 3000, 3001, 8000, 8002, 8003, 8004, 8001, 9000, 9001, 9002, 9003, 9004, 9005, 9006, 10000, 10001, 11000, 11001, 11002, 11003, 11004, 16000, 16001, 16002, 15000, 15100, 15001, 15101, 15002, 15102, 15003, 15103, 15004, 15104] := ⟨_, rfl⟩
  have c_x : f2 x = some (.inr (11, [.ref q1, .ref q5, .ref q7, .ref q9, .ref q10, .ref q13, .ref q16, .ref q17, .ref q18, .ref q23, .ref q30, .ref q32, .int 0])) := hW.1.1 0 _ rfl
  have t_x : own x = 13000 := by rw [hown]; exact ownT_at _ [13000, 1000, 1001, 1002, 1003, 2000, 2001, 14000, 14001, 5000, 6000, 6001, 6002, 7000, 7001, 7002, 3000, 3001, 8000, 8002, 8003, 8004, 8001, 9000, 9001, 9002, 9003, 9004, 9005, 9006, 10000, 10001, 11000, 11001, 11002, 11003, 11004, 16000, 16001, 16002, 15000, 15100, 15001, 15101, 15002, 15102, 15003, 15103, 15004, 15104] 0 _ _ (fun i j p r hi hj he => hW.1.2 i j p r hi hj he) rfl rfl
  have c_q1 : f2 q1 = some (.inr (0, [.ref q2, .ref q3])) := hW.1.1 1 _ rfl
  have t_q1 : own q1 = 1000 := by rw [hown]; exact ownT_at _ [13000, 1000, 1001, 1002, 1003, 2000, 2001, 14000, 14001, 5000, 6000, 6001, 6002, 7000, 7001, 7002, 3000, 3001, 8000, 8002, 8003, 8004, 8001, 9000, 9001, 9002, 9003, 9004, 9005, 9006, 10000, 10001, 11000, 11001, 11002, 11003, 11004, 16000, 16001, 16002, 15000, 15100, 15001, 15101, 15002, 15102, 15003, 15103, 15004, 15104] 1 _ _ (fun i j p r hi hj he => hW.1.2 i j p r hi hj he) rfl rfl
  have c_q2 : f2 q2 = some (.inl (cy 0, 2400, .inl (fun _ => 0))) := hW.1.1 2 _ rfl
  have t_q2 : own q2 = 1001 := by rw [hown]; exact ownT_at _ [13000, 1000, 1001, 1002, 1003, 2000, 2001, 14000, 14001, 5000, 6000, 6001, 6002, 7000, 7001, 7002, 3000, 3001, 8000, 8002, 8003, 8004, 8001, 9000, 9001, 9002, 9003, 9004, 9005, 9006, 10000, 10001, 11000, 11001, 11002, 11003, 11004, 16000, 16001, 16002, 15000, 15100, 15001, 15101, 15002, 15102, 15003, 15103, 15004, 15104] 2 _ _ (fun i j p r hi hj he => hW.1.2 i j p r hi hj he) rfl rfl
  have c_q3 : f2 q3 = some (.inr (7, [.ref q4, .int 0])) := hW.1.1 3 _ rfl
  have t_q3 : own q3 = 1002 := by rw [hown]; exact ownT_at _ [13000, 1000, 1001, 1002, 1003, 2000, 2001, 14000, 14001, 5000, 6000, 6001, 6002, 7000, 7001, 7002, 3000, 3001, 8000, 8002, 8003, 8004, 8001, 9000, 9001, 9002, 9003, 9004, 9005, 9006, 10000, 10001, 11000, 11001, 11002, 11003, 11004, 16000, 16001, 16002, 15000, 15100, 15001, 15101, 15002, 15102, 15003, 15103, 15004, 15104] 3 _ _ (fun i j p r hi hj he => hW.1.2 i j p r hi hj he) rfl rfl
  have c_q4 : f2 q4 = some (.inl (cy 0, 6, .inl (fun _ => 0))) := hW.1.1 4 _ rfl
  have t_q4 : own q4 = 1003 := by rw [hown]; exact ownT_at _ [13000, 1000, 1001, 1002, 1003, 2000, 2001, 14000, 14001, 5000, 6000, 6001, 6002, 7000, 7001, 7002, 3000, 3001, 8000, 8002, 8003, 8004, 8001, 9000, 9001, 9002, 9003, 9004, 9005, 9006, 10000, 10001, 11000, 11001, 11002, 11003, 11004, 16000, 16001, 16002, 15000, 15100, 15001, 15101, 15002, 15102, 15003, 15103, 15004, 15104] 4 _ _ (fun i j p r hi hj he => hW.1.2 i j p r hi hj he) rfl rfl
  have c_q5 : f2 q5 = some (.inr (9, [.ref q6, .int 0])) := hW.1.1 5 _ rfl
  have t_q5 : own q5 = 2000 := by rw [hown]; exact ownT_at _ [13000, 1000, 1001, 1002, 1003, 2000, 2001, 14000, 14001, 5000, 6000, 6001, 6002, 7000, 7001, 7002, 3000, 3001, 8000, 8002, 8003, 8004, 8001, 9000, 9001, 9002, 9003, 9004, 9005, 9006, 10000, 10001, 11000, 11001, 11002, 11003, 11004, 16000, 16001, 16002, 15000, 15100, 15001, 15101, 15002, 15102, 15003, 15103, 15004, 15104] 5 _ _ (fun i j p r hi hj he => hW.1.2 i j p r hi hj he) rfl rfl
  have c_q6 : f2 q6 = some (.inl (cy 1, 400, .inl (fun _ => 0))) := hW.1.1 6 _ rfl
  have t_q6 : own q6 = 2001 := by rw [hown]; exact ownT_at _ [13000, 1000, 1001, 1002, 1003, 2000, 2001, 14000, 14001, 5000, 6000, 6001, 6002, 7000, 7001, 7002, 3000, 3001, 8000, 8002, 8003, 8004, 8001, 9000, 9001, 9002, 9003, 9004, 9005, 9006, 10000, 10001, 11000, 11001, 11002, 11003, 11004, 16000, 16001, 16002, 15000, 15100, 15001, 15101, 15002, 15102, 15003, 15103, 15004, 15104] 6 _ _ (fun i j p r hi hj he => hW.1.2 i j p r hi hj he) rfl rfl
  have c_q7 : f2 q7 = some (.inr (9, [.ref q8, .int 0])) := hW.1.1 7 _ rfl
  have t_q7 : own q7 = 14000 := by rw [hown]; exact ownT_at _ [13000, 1000, 1001, 1002, 1003, 2000, 2001, 14000, 14001, 5000, 6000, 6001, 6002, 7000, 7001, 7002, 3000, 3001, 8000, 8002, 8003, 8004, 8001, 9000, 9001, 9002, 9003, 9004, 9005, 9006, 10000, 10001, 11000, 11001, 11002, 11003, 11004, 16000, 16001, 16002, 15000, 15100, 15001, 15101, 15002, 15102, 15003, 15103, 15004, 15104] 7 _ _ (fun i j p r hi hj he => hW.1.2 i j p r hi hj he) rfl rfl
  have c_q8 : f2 q8 = some (.inl (cy 1, 480, .inl (fun _ => 0))) := hW.1.1 8 _ rfl
  have t_q8 : own q8 = 14001 := by rw [hown]; exact ownT_at _ [13000, 1000, 1001, 1002, 1003, 2000, 2001, 14000, 14001, 5000, 6000, 6001, 6002, 7000, 7001, 7002, 3000, 3001, 8000, 8002, 8003, 8004, 8001, 9000, 9001, 9002, 9003, 9004, 9005, 9006, 10000, 10001, 11000, 11001, 11002, 11003, 11004, 16000, 16001, 16002, 15000, 15100, 15001, 15101, 15002, 15102, 15003, 15103, 15004, 15104] 8 _ _ (fun i j p r hi hj he => hW.1.2 i j p r hi hj he) rfl rfl
  have c_q9 : f2 q9 = some (.inl (cy 4, 20, .inr (.inr (.inr (.inr (fun _ => none)))))) := hW.1.1 9 _ rfl
  have t_q9 : own q9 = 5000 := by rw [hown]; exact ownT_at _ [13000, 1000, 1001, 1002, 1003, 2000, 2001, 14000, 14001, 5000, 6000, 6001, 6002, 7000, 7001, 7002, 3000, 3001, 8000, 8002, 8003, 8004, 8001, 9000, 9001, 9002, 9003, 9004, 9005, 9006, 10000, 10001, 11000, 11001, 11002, 11003, 11004, 16000, 16001, 16002, 15000, 15100, 15001, 15101, 15002, 15102, 15003, 15103, 15004, 15104] 9 _ _ (fun i j p r hi hj he => hW.1.2 i j p r hi hj he) rfl rfl
  have c_q10 : f2 q10 = some (.inr (2, [.ref q11, .ref q12, .int 0, .int 0])) := hW.1.1 10 _ rfl
  have t_q10 : own q10 = 6000 := by rw [hown]; exact ownT_at _ [13000, 1000, 1001, 1002, 1003, 2000, 2001, 14000, 14001, 5000, 6000, 6001, 6002, 7000, 7001, 7002, 3000, 3001, 8000, 8002, 8003, 8004, 8001, 9000, 9001, 9002, 9003, 9004, 9005, 9006, 10000, 10001, 11000, 11001, 11002, 11003, 11004, 16000, 16001, 16002, 15000, 15100, 15001, 15101, 15002, 15102, 15003, 15103, 15004, 15104] 10 _ _ (fun i j p r hi hj he => hW.1.2 i j p r hi hj he) rfl rfl
  have c_q11 : f2 q11 = some (.inl (cy 0, 520, .inl (fun _ => 0))) := hW.1.1 11 _ rfl
  have t_q11 : own q11 = 6001 := by rw [hown]; exact ownT_at _ [13000, 1000, 1001, 1002, 1003, 2000, 2001, 14000, 14001, 5000, 6000, 6001, 6002, 7000, 7001, 7002, 3000, 3001, 8000, 8002, 8003, 8004, 8001, 9000, 9001, 9002, 9003, 9004, 9005, 9006, 10000, 10001, 11000, 11001, 11002, 11003, 11004, 16000, 16001, 16002, 15000, 15100, 15001, 15101, 15002, 15102, 15003, 15103, 15004, 15104] 11 _ _ (fun i j p r hi hj he => hW.1.2 i j p r hi hj he) rfl rfl
  have c_q12 : f2 q12 = some (.inl (cy 0, 80, .inl (fun _ => 0))) := hW.1.1 12 _ rfl
  have t_q12 : own q12 = 6002 := by rw [hown]; exact ownT_at _ [13000, 1000, 1001, 1002, 1003, 2000, 2001, 14000, 14001, 5000, 6000, 6001, 6002, 7000, 7001, 7002, 3000, 3001, 8000, 8002, 8003, 8004, 8001, 9000, 9001, 9002, 9003, 9004, 9005, 9006, 10000, 10001, 11000, 11001, 11002, 11003, 11004, 16000, 16001, 16002, 15000, 15100, 15001, 15101, 15002, 15102, 15003, 15103, 15004, 15104] 12 _ _ (fun i j p r hi hj he => hW.1.2 i j p r hi hj he) rfl rfl
  have c_q13 : f2 q13 = some (.inr (2, [.ref q14, .ref q15, .int 0, .int 0])) := hW.1.1 13 _ rfl
  have t_q13 : own q13 = 7000 := by rw [hown]; exact ownT_at _ [13000, 1000, 1001, 1002, 1003, 2000, 2001, 14000, 14001, 5000, 6000, 6001, 6002, 7000, 7001, 7002, 3000, 3001, 8000, 8002, 8003, 8004, 8001, 9000, 9001, 9002, 9003, 9004, 9005, 9006, 10000, 10001, 11000, 11001, 11002, 11003, 11004, 16000, 16001, 16002, 15000, 15100, 15001, 15101, 15002, 15102, 15003, 15103, 15004, 15104] 13 _ _ (fun i j p r hi hj he => hW.1.2 i j p r hi hj he) rfl rfl
  have c_q14 : f2 q14 = some (.inl (cy 0, 520, .inl (fun _ => 0))) := hW.1.1 14 _ rfl
  have t_q14 : own q14 = 7001 := by rw [hown]; exact ownT_at _ [13000, 1000, 1001, 1002, 1003, 2000, 2001, 14000, 14001, 5000, 6000, 6001, 6002, 7000, 7001, 7002, 3000, 3001, 8000, 8002, 8003, 8004, 8001, 9000, 9001, 9002, 9003, 9004, 9005, 9006, 10000, 10001, 11000, 11001, 11002, 11003, 11004, 16000, 16001, 16002, 15000, 15100, 15001, 15101, 15002, 15102, 15003, 15103, 15004, 15104] 14 _ _ (fun i j p r hi hj he => hW.1.2 i j p r hi hj he) rfl rfl
  have c_q15 : f2 q15 = some (.inl (cy 0, 80, .inl (fun _ => 0))) := hW.1.1 15 _ rfl
  have t_q15 : own q15 = 7002 := by rw [hown]; exact ownT_at _ [13000, 1000, 1001, 1002, 1003, 2000, 2001, 14000, 14001, 5000, 6000, 6001, 6002, 7000, 7001, 7002, 3000, 3001, 8000, 8002, 8003, 8004, 8001, 9000, 9001, 9002, 9003, 9004, 9005, 9006, 10000, 10001, 11000, 11001, 11002, 11003, 11004, 16000, 16001, 16002, 15000, 15100, 15001, 15101, 15002, 15102, 15003, 15103, 15004, 15104] 15 _ _ (fun i j p r hi hj he => hW.1.2 i j p r hi hj he) rfl rfl
  have c_q16 : f2 q16 = some (.inr (6, [.ref q5, .ref q10, .int 0, .int 0])) := hW.1.1 16 _ rfl
  have t_q16 : own q16 = 3000 := by rw [hown]; exact ownT_at _ [13000, 1000, 1001, 1002, 1003, 2000, 2001, 14000, 14001, 5000, 6000, 6001, 6002, 7000, 7001, 7002, 3000, 3001, 8000, 8002, 8003, 8004, 8001, 9000, 9001, 9002, 9003, 9004, 9005, 9006, 10000, 10001, 11000, 11001, 11002, 11003, 11004, 16000, 16001, 16002, 15000, 15100, 15001, 15101, 15002, 15102, 15003, 15103, 15004, 15104] 16 _ _ (fun i j p r hi hj he => hW.1.2 i j p r hi hj he) rfl rfl
  have c_q17 : f2 q17 = some (.inr (8, [.ref q7])) := hW.1.1 17 _ rfl
  have t_q17 : own q17 = 3001 := by rw [hown]; exact ownT_at _ [13000, 1000, 1001, 1002, 1003, 2000, 2001, 14000, 14001, 5000, 6000, 6001, 6002, 7000, 7001, 7002, 3000, 3001, 8000, 8002, 8003, 8004, 8001, 9000, 9001, 9002, 9003, 9004, 9005, 9006, 10000, 10001, 11000, 11001, 11002, 11003, 11004, 16000, 16001, 16002, 15000, 15100, 15001, 15101, 15002, 15102, 15003, 15103, 15004, 15104] 17 _ _ (fun i j p r hi hj he => hW.1.2 i j p r hi hj he) rfl rfl
  have c_q18 : f2 q18 = some (.inr (3, [.ref q19, .ref q22])) := hW.1.1 18 _ rfl
  have t_q18 : own q18 = 8000 := by rw [hown]; exact ownT_at _ [13000, 1000, 1001, 1002, 1003, 2000, 2001, 14000, 14001, 5000, 6000, 6001, 6002, 7000, 7001, 7002, 3000, 3001, 8000, 8002, 8003, 8004, 8001, 9000, 9001, 9002, 9003, 9004, 9005, 9006, 10000, 10001, 11000, 11001, 11002, 11003, 11004, 16000, 16001, 16002, 15000, 15100, 15001, 15101, 15002, 15102, 15003, 15103, 15004, 15104] 18 _ _ (fun i j p r hi hj he => hW.1.2 i j p r hi hj he) rfl rfl
  have c_q19 : f2 q19 = some (.inr (2, [.ref q20, .ref q21, .int 0, .int 0])) := hW.1.1 19 _ rfl
  have t_q19 : own q19 = 8002 := by rw [hown]; exact ownT_at _ [13000, 1000, 1001, 1002, 1003, 2000, 2001, 14000, 14001, 5000, 6000, 6001, 6002, 7000, 7001, 7002, 3000, 3001, 8000, 8002, 8003, 8004, 8001, 9000, 9001, 9002, 9003, 9004, 9005, 9006, 10000, 10001, 11000, 11001, 11002, 11003, 11004, 16000, 16001, 16002, 15000, 15100, 15001, 15101, 15002, 15102, 15003, 15103, 15004, 15104] 19 _ _ (fun i j p r hi hj he => hW.1.2 i j p r hi hj he) rfl rfl
  have c_q20 : f2 q20 = some (.inl (cy 0, 520, .inl (fun _ => 0))) := hW.1.1 20 _ rfl
  have t_q20 : own q20 = 8003 := by rw [hown]; exact ownT_at _ [13000, 1000, 1001, 1002, 1003, 2000, 2001, 14000, 14001, 5000, 6000, 6001, 6002, 7000, 7001, 7002, 3000, 3001, 8000, 8002, 8003, 8004, 8001, 9000, 9001, 9002, 9003, 9004, 9005, 9006, 10000, 10001, 11000, 11001, 11002, 11003, 11004, 16000, 16001, 16002, 15000, 15100, 15001, 15101, 15002, 15102, 15003, 15103, 15004, 15104] 20 _ _ (fun i j p r hi hj he => hW.1.2 i j p r hi hj he) rfl rfl
  have c_q21 : f2 q21 = some (.inl (cy 0, 80, .inl (fun _ => 0))) := hW.1.1 21 _ rfl
  have t_q21 : own q21 = 8004 := by rw [hown]; exact ownT_at _ [13000, 1000, 1001, 1002, 1003, 2000, 2001, 14000, 14001, 5000, 6000, 6001, 6002, 7000, 7001, 7002, 3000, 3001, 8000, 8002, 8003, 8004, 8001, 9000, 9001, 9002, 9003, 9004, 9005, 9006, 10000, 10001, 11000, 11001, 11002, 11003, 11004, 16000, 16001, 16002, 15000, 15100, 15001, 15101, 15002, 15102, 15003, 15103, 15004, 15104] 21 _ _ (fun i j p r hi hj he => hW.1.2 i j p r hi hj he) rfl rfl
  have c_q22 : f2 q22 = some (.inl (cy 0, 40, .inl (fun _ => 0))) := hW.1.1 22 _ rfl
  have t_q22 : own q22 = 8001 := by rw [hown]; exact ownT_at _ [13000, 1000, 1001, 1002, 1003, 2000, 2001, 14000, 14001, 5000, 6000, 6001, 6002, 7000, 7001, 7002, 3000, 3001, 8000, 8002, 8003, 8004, 8001, 9000, 9001, 9002, 9003, 9004, 9005, 9006, 10000, 10001, 11000, 11001, 11002, 11003, 11004, 16000, 16001, 16002, 15000, 15100, 15001, 15101, 15002, 15102, 15003, 15103, 15004, 15104] 22 _ _ (fun i j p r hi hj he => hW.1.2 i j p r hi hj he) rfl rfl
  have c_q23 : f2 q23 = some (.inr (4, [.ref q24, .int 0, .int 0, .ref q25, .ref q26, .ref q27, .ref q28, .ref q29, .int (-1)])) := hW.1.1 23 _ rfl
  have t_q23 : own q23 = 9000 := by rw [hown]; exact ownT_at _ [13000, 1000, 1001, 1002, 1003, 2000, 2001, 14000, 14001, 5000, 6000, 6001, 6002, 7000, 7001, 7002, 3000, 3001, 8000, 8002, 8003, 8004, 8001, 9000, 9001, 9002, 9003, 9004, 9005, 9006, 10000, 10001, 11000, 11001, 11002, 11003, 11004, 16000, 16001, 16002, 15000, 15100, 15001, 15101, 15002, 15102, 15003, 15103, 15004, 15104] 23 _ _ (fun i j p r hi hj he => hW.1.2 i j p r hi hj he) rfl rfl
  have c_q24 : f2 q24 = some (.inl (cy 0, 96, .inl (fun _ => 0))) := hW.1.1 24 _ rfl
  have t_q24 : own q24 = 9001 := by rw [hown]; exact ownT_at _ [13000, 1000, 1001, 1002, 1003, 2000, 2001, 14000, 14001, 5000, 6000, 6001, 6002, 7000, 7001, 7002, 3000, 3001, 8000, 8002, 8003, 8004, 8001, 9000, 9001, 9002, 9003, 9004, 9005, 9006, 10000, 10001, 11000, 11001, 11002, 11003, 11004, 16000, 16001, 16002, 15000, 15100, 15001, 15101, 15002, 15102, 15003, 15103, 15004, 15104] 24 _ _ (fun i j p r hi hj he => hW.1.2 i j p r hi hj he) rfl rfl
  have c_q25 : f2 q25 = some (.inl (cy 2, 8, .inr (.inl (fun _ => 0)))) := hW.1.1 25 _ rfl
  have t_q25 : own q25 = 9002 := by rw [hown]; exact ownT_at _ [13000, 1000, 1001, 1002, 1003, 2000, 2001, 14000, 14001, 5000, 6000, 6001, 6002, 7000, 7001, 7002, 3000, 3001, 8000, 8002, 8003, 8004, 8001, 9000, 9001, 9002, 9003, 9004, 9005, 9006, 10000, 10001, 11000, 11001, 11002, 11003, 11004, 16000, 16001, 16002, 15000, 15100, 15001, 15101, 15002, 15102, 15003, 15103, 15004, 15104] 25 _ _ (fun i j p r hi hj he => hW.1.2 i j p r hi hj he) rfl rfl
  have c_q26 : f2 q26 = some (.inl (cy 2, 8, .inr (.inl (fun _ => 0)))) := hW.1.1 26 _ rfl
  have t_q26 : own q26 = 9003 := by rw [hown]; exact ownT_at _ [13000, 1000, 1001, 1002, 1003, 2000, 2001, 14000, 14001, 5000, 6000, 6001, 6002, 7000, 7001, 7002, 3000, 3001, 8000, 8002, 8003, 8004, 8001, 9000, 9001, 9002, 9003, 9004, 9005, 9006, 10000, 10001, 11000, 11001, 11002, 11003, 11004, 16000, 16001, 16002, 15000, 15100, 15001, 15101, 15002, 15102, 15003, 15103, 15004, 15104] 26 _ _ (fun i j p r hi hj he => hW.1.2 i j p r hi hj he) rfl rfl
  have c_q27 : f2 q27 = some (.inl (cy 0, 8, .inl (fun _ => 0))) := hW.1.1 27 _ rfl
  have t_q27 : own q27 = 9004 := by rw [hown]; exact ownT_at _ [13000, 1000, 1001, 1002, 1003, 2000, 2001, 14000, 14001, 5000, 6000, 6001, 6002, 7000, 7001, 7002, 3000, 3001, 8000, 8002, 8003, 8004, 8001, 9000, 9001, 9002, 9003, 9004, 9005, 9006, 10000, 10001, 11000, 11001, 11002, 11003, 11004, 16000, 16001, 16002, 15000, 15100, 15001, 15101, 15002, 15102, 15003, 15103, 15004, 15104] 27 _ _ (fun i j p r hi hj he => hW.1.2 i j p r hi hj he) rfl rfl
  have c_q28 : f2 q28 = some (.inl (cy 0, 8, .inl (fun _ => 0))) := hW.1.1 28 _ rfl
  have t_q28 : own q28 = 9005 := by rw [hown]; exact ownT_at _ [13000, 1000, 1001, 1002, 1003, 2000, 2001, 14000, 14001, 5000, 6000, 6001, 6002, 7000, 7001, 7002, 3000, 3001, 8000, 8002, 8003, 8004, 8001, 9000, 9001, 9002, 9003, 9004, 9005, 9006, 10000, 10001, 11000, 11001, 11002, 11003, 11004, 16000, 16001, 16002, 15000, 15100, 15001, 15101, 15002, 15102, 15003, 15103, 15004, 15104] 28 _ _ (fun i j p r hi hj he => hW.1.2 i j p r hi hj he) rfl rfl
  have c_q29 : f2 q29 = some (.inl (cy 2, 8, .inr (.inl (fun _ => 0)))) := hW.1.1 29 _ rfl
  have t_q29 : own q29 = 9006 := by rw [hown]; exact ownT_at _ [13000, 1000, 1001, 1002, 1003, 2000, 2001, 14000, 14001, 5000, 6000, 6001, 6002, 7000, 7001, 7002, 3000, 3001, 8000, 8002, 8003, 8004, 8001, 9000, 9001, 9002, 9003, 9004, 9005, 9006, 10000, 10001, 11000, 11001, 11002, 11003, 11004, 16000, 16001, 16002, 15000, 15100, 15001, 15101, 15002, 15102, 15003, 15103, 15004, 15104] 29 _ _ (fun i j p r hi hj he => hW.1.2 i j p r hi hj he) rfl rfl
  have c_q30 : f2 q30 = some (.inr (1, [.ref q31, .ref q3, .ref q23, .int 0])) := hW.1.1 30 _ rfl
  have t_q30 : own q30 = 10000 := by rw [hown]; exact ownT_at _ [13000, 1000, 1001, 1002, 1003, 2000, 2001, 14000, 14001, 5000, 6000, 6001, 6002, 7000, 7001, 7002, 3000, 3001, 8000, 8002, 8003, 8004, 8001, 9000, 9001, 9002, 9003, 9004, 9005, 9006, 10000, 10001, 11000, 11001, 11002, 11003, 11004, 16000, 16001, 16002, 15000, 15100, 15001, 15101, 15002, 15102, 15003, 15103, 15004, 15104] 30 _ _ (fun i j p r hi hj he => hW.1.2 i j p r hi hj he) rfl rfl
  have c_q31 : f2 q31 = some (.inl (cy 5, 40, .inr (.inr (.inr (.inr (fun _ => none)))))) := hW.1.1 31 _ rfl
  have t_q31 : own q31 = 10001 := by rw [hown]; exact ownT_at _ [13000, 1000, 1001, 1002, 1003, 2000, 2001, 14000, 14001, 5000, 6000, 6001, 6002, 7000, 7001, 7002, 3000, 3001, 8000, 8002, 8003, 8004, 8001, 9000, 9001, 9002, 9003, 9004, 9005, 9006, 10000, 10001, 11000, 11001, 11002, 11003, 11004, 16000, 16001, 16002, 15000, 15100, 15001, 15101, 15002, 15102, 15003, 15103, 15004, 15104] 31 _ _ (fun i j p r hi hj he => hW.1.2 i j p r hi hj he) rfl rfl
  have c_q32 : f2 q32 = some (.inr (10, [.int 1, .ref q33, .ref q34, .ref q35, .ref q36, .ref q3, .ref q37, .int 0, .int 0])) := hW.1.1 32 _ rfl
  have t_q32 : own q32 = 11000 := by rw [hown]; exact ownT_at _ [13000, 1000, 1001, 1002, 1003, 2000, 2001, 14000, 14001, 5000, 6000, 6001, 6002, 7000, 7001, 7002, 3000, 3001, 8000, 8002, 8003, 8004, 8001, 9000, 9001, 9002, 9003, 9004, 9005, 9006, 10000, 10001, 11000, 11001, 11002, 11003, 11004, 16000, 16001, 16002, 15000, 15100, 15001, 15101, 15002, 15102, 15003, 15103, 15004, 15104] 32 _ _ (fun i j p r hi hj he => hW.1.2 i j p r hi hj he) rfl rfl
  have c_q33 : f2 q33 = some (.inl (cy 0, 3, .inl (upd (fun _ => 0) (Int32.toNatClampNeg 0) 1))) := hW.1.1 33 _ rfl
  have t_q33 : own q33 = 11001 := by rw [hown]; exact ownT_at _ [13000, 1000, 1001, 1002, 1003, 2000, 2001, 14000, 14001, 5000, 6000, 6001, 6002, 7000, 7001, 7002, 3000, 3001, 8000, 8002, 8003, 8004, 8001, 9000, 9001, 9002, 9003, 9004, 9005, 9006, 10000, 10001, 11000, 11001, 11002, 11003, 11004, 16000, 16001, 16002, 15000, 15100, 15001, 15101, 15002, 15102, 15003, 15103, 15004, 15104] 33 _ _ (fun i j p r hi hj he => hW.1.2 i j p r hi hj he) rfl rfl
  have c_q34 : f2 q34 = some (.inl (cy 0, 18, .inl (fun _ => 0))) := hW.1.1 34 _ rfl
  have t_q34 : own q34 = 11002 := by rw [hown]; exact ownT_at _ [13000, 1000, 1001, 1002, 1003, 2000, 2001, 14000, 14001, 5000, 6000, 6001, 6002, 7000, 7001, 7002, 3000, 3001, 8000, 8002, 8003, 8004, 8001, 9000, 9001, 9002, 9003, 9004, 9005, 9006, 10000, 10001, 11000, 11001, 11002, 11003, 11004, 16000, 16001, 16002, 15000, 15100, 15001, 15101, 15002, 15102, 15003, 15103, 15004, 15104] 34 _ _ (fun i j p r hi hj he => hW.1.2 i j p r hi hj he) rfl rfl
  have c_q35 : f2 q35 = some (.inl (cy 6, 5, .inr (.inr (.inr (.inr (va_up (va_up (va_up (va_up (va_up (fun _ => none) (Int32.toNatClampNeg 0) (some q40)) (Int32.toNatClampNeg 1) (some q42)) (Int32.toNatClampNeg 2) (some q44)) (Int32.toNatClampNeg 3) (some q46)) (Int32.toNatClampNeg 4) (some q48))))))) := hW.1.1 35 _ rfl
  have t_q35 : own q35 = 11003 := by rw [hown]; exact ownT_at _ [13000, 1000, 1001, 1002, 1003, 2000, 2001, 14000, 14001, 5000, 6000, 6001, 6002, 7000, 7001, 7002, 3000, 3001, 8000, 8002, 8003, 8004, 8001, 9000, 9001, 9002, 9003, 9004, 9005, 9006, 10000, 10001, 11000, 11001, 11002, 11003, 11004, 16000, 16001, 16002, 15000, 15100, 15001, 15101, 15002, 15102, 15003, 15103, 15004, 15104] 35 _ _ (fun i j p r hi hj he => hW.1.2 i j p r hi hj he) rfl rfl
  have c_q36 : f2 q36 = some (.inl (cy 2, 5, .inr (.inl (fun _ => 0)))) := hW.1.1 36 _ rfl
  have t_q36 : own q36 = 11004 := by rw [hown]; exact ownT_at _ [13000, 1000, 1001, 1002, 1003, 2000, 2001, 14000, 14001, 5000, 6000, 6001, 6002, 7000, 7001, 7002, 3000, 3001, 8000, 8002, 8003, 8004, 8001, 9000, 9001, 9002, 9003, 9004, 9005, 9006, 10000, 10001, 11000, 11001, 11002, 11003, 11004, 16000, 16001, 16002, 15000, 15100, 15001, 15101, 15002, 15102, 15003, 15103, 15004, 15104] 36 _ _ (fun i j p r hi hj he => hW.1.2 i j p r hi hj he) rfl rfl
  have c_q37 : f2 q37 = some (.inr (2, [.ref q38, .ref q39, .int 0, .int 0])) := hW.1.1 37 _ rfl
  have t_q37 : own q37 = 16000 := by rw [hown]; exact ownT_at _ [13000, 1000, 1001, 1002, 1003, 2000, 2001, 14000, 14001, 5000, 6000, 6001, 6002, 7000, 7001, 7002, 3000, 3001, 8000, 8002, 8003, 8004, 8001, 9000, 9001, 9002, 9003, 9004, 9005, 9006, 10000, 10001, 11000, 11001, 11002, 11003, 11004, 16000, 16001, 16002, 15000, 15100, 15001, 15101, 15002, 15102, 15003, 15103, 15004, 15104] 37 _ _ (fun i j p r hi hj he => hW.1.2 i j p r hi hj he) rfl rfl
  have c_q38 : f2 q38 = some (.inl (cy 0, 0, .inl (fun _ => 0))) := hW.1.1 38 _ rfl
  have t_q38 : own q38 = 16001 := by rw [hown]; exact ownT_at _ [13000, 1000, 1001, 1002, 1003, 2000, 2001, 14000, 14001, 5000, 6000, 6001, 6002, 7000, 7001, 7002, 3000, 3001, 8000, 8002, 8003, 8004, 8001, 9000, 9001, 9002, 9003, 9004, 9005, 9006, 10000, 10001, 11000, 11001, 11002, 11003, 11004, 16000, 16001, 16002, 15000, 15100, 15001, 15101, 15002, 15102, 15003, 15103, 15004, 15104] 38 _ _ (fun i j p r hi hj he => hW.1.2 i j p r hi hj he) rfl rfl
  have c_q39 : f2 q39 = some (.inl (cy 0, 0, .inl (fun _ => 0))) := hW.1.1 39 _ rfl
  have t_q39 : own q39 = 16002 := by rw [hown]; exact ownT_at _ [13000, 1000, 1001, 1002, 1003, 2000, 2001, 14000, 14001, 5000, 6000, 6001, 6002, 7000, 7001, 7002, 3000, 3001, 8000, 8002, 8003, 8004, 8001, 9000, 9001, 9002, 9003, 9004, 9005, 9006, 10000, 10001, 11000, 11001, 11002, 11003, 11004, 16000, 16001, 16002, 15000, 15100, 15001, 15101, 15002, 15102, 15003, 15103, 15004, 15104] 39 _ _ (fun i j p r hi hj he => hW.1.2 i j p r hi hj he) rfl rfl
  have c_q40 : f2 q40 = some (.inr (7, [.ref q41, .int 0])) := hW.1.1 40 _ rfl
  have t_q40 : own q40 = 15000 := by rw [hown]; exact ownT_at _ [13000, 1000, 1001, 1002, 1003, 2000, 2001, 14000, 14001, 5000, 6000, 6001, 6002, 7000, 7001, 7002, 3000, 3001, 8000, 8002, 8003, 8004, 8001, 9000, 9001, 9002, 9003, 9004, 9005, 9006, 10000, 10001, 11000, 11001, 11002, 11003, 11004, 16000, 16001, 16002, 15000, 15100, 15001, 15101, 15002, 15102, 15003, 15103, 15004, 15104] 40 _ _ (fun i j p r hi hj he => hW.1.2 i j p r hi hj he) rfl rfl
  have c_q41 : f2 q41 = some (.inl (cy 0, 6, .inl (fun _ => 0))) := hW.1.1 41 _ rfl
  have t_q41 : own q41 = 15100 := by rw [hown]; exact ownT_at _ [13000, 1000, 1001, 1002, 1003, 2000, 2001, 14000, 14001, 5000, 6000, 6001, 6002, 7000, 7001, 7002, 3000, 3001, 8000, 8002, 8003, 8004, 8001, 9000, 9001, 9002, 9003, 9004, 9005, 9006, 10000, 10001, 11000, 11001, 11002, 11003, 11004, 16000, 16001, 16002, 15000, 15100, 15001, 15101, 15002, 15102, 15003, 15103, 15004, 15104] 41 _ _ (fun i j p r hi hj he => hW.1.2 i j p r hi hj he) rfl rfl
  have c_q42 : f2 q42 = some (.inr (7, [.ref q43, .int 0])) := hW.1.1 42 _ rfl
  have t_q42 : own q42 = 15001 := by rw [hown]; exact ownT_at _ [13000, 1000, 1001, 1002, 1003, 2000, 2001, 14000, 14001, 5000, 6000, 6001, 6002, 7000, 7001, 7002, 3000, 3001, 8000, 8002, 8003, 8004, 8001, 9000, 9001, 9002, 9003, 9004, 9005, 9006, 10000, 10001, 11000, 11001, 11002, 11003, 11004, 16000, 16001, 16002, 15000, 15100, 15001, 15101, 15002, 15102, 15003, 15103, 15004, 15104] 42 _ _ (fun i j p r hi hj he => hW.1.2 i j p r hi hj he) rfl rfl
  have c_q43 : f2 q43 = some (.inl (cy 0, 6, .inl (fun _ => 0))) := hW.1.1 43 _ rfl
  have t_q43 : own q43 = 15101 := by rw [hown]; exact ownT_at _ [13000, 1000, 1001, 1002, 1003, 2000, 2001, 14000, 14001, 5000, 6000, 6001, 6002, 7000, 7001, 7002, 3000, 3001, 8000, 8002, 8003, 8004, 8001, 9000, 9001, 9002, 9003, 9004, 9005, 9006, 10000, 10001, 11000, 11001, 11002, 11003, 11004, 16000, 16001, 16002, 15000, 15100, 15001, 15101, 15002, 15102, 15003, 15103, 15004, 15104] 43 _ _ (fun i j p r hi hj he => hW.1.2 i j p r hi hj he) rfl rfl
  have c_q44 : f2 q44 = some (.inr (7, [.ref q45, .int 0])) := hW.1.1 44 _ rfl
  have t_q44 : own q44 = 15002 := by rw [hown]; exact ownT_at _ [13000, 1000, 1001, 1002, 1003, 2000, 2001, 14000, 14001, 5000, 6000, 6001, 6002, 7000, 7001, 7002, 3000, 3001, 8000, 8002, 8003, 8004, 8001, 9000, 9001, 9002, 9003, 9004, 9005, 9006, 10000, 10001, 11000, 11001, 11002, 11003, 11004, 16000, 16001, 16002, 15000, 15100, 15001, 15101, 15002, 15102, 15003, 15103, 15004, 15104] 44 _ _ (fun i j p r hi hj he => hW.1.2 i j p r hi hj he) rfl rfl
  have c_q45 : f2 q45 = some (.inl (cy 0, 6, .inl (fun _ => 0))) := hW.1.1 45 _ rfl
  have t_q45 : own q45 = 15102 := by rw [hown]; exact ownT_at _ [13000, 1000, 1001, 1002, 1003, 2000, 2001, 14000, 14001, 5000, 6000, 6001, 6002, 7000, 7001, 7002, 3000, 3001, 8000, 8002, 8003, 8004, 8001, 9000, 9001, 9002, 9003, 9004, 9005, 9006, 10000, 10001, 11000, 11001, 11002, 11003, 11004, 16000, 16001, 16002, 15000, 15100, 15001, 15101, 15002, 15102, 15003, 15103, 15004, 15104] 45 _ _ (fun i j p r hi hj he => hW.1.2 i j p r hi hj he) rfl rfl
  have c_q46 : f2 q46 = some (.inr (7, [.ref q47, .int 0])) := hW.1.1 46 _ rfl
  have t_q46 : own q46 = 15003 := by rw [hown]; exact ownT_at _ [13000, 1000, 1001, 1002, 1003, 2000, 2001, 14000, 14001, 5000, 6000, 6001, 6002, 7000, 7001, 7002, 3000, 3001, 8000, 8002, 8003, 8004, 8001, 9000, 9001, 9002, 9003, 9004, 9005, 9006, 10000, 10001, 11000, 11001, 11002, 11003, 11004, 16000, 16001, 16002, 15000, 15100, 15001, 15101, 15002, 15102, 15003, 15103, 15004, 15104] 46 _ _ (fun i j p r hi hj he => hW.1.2 i j p r hi hj he) rfl rfl
  have c_q47 : f2 q47 = some (.inl (cy 0, 6, .inl (fun _ => 0))) := hW.1.1 47 _ rfl
  have t_q47 : own q47 = 15103 := by rw [hown]; exact ownT_at _ [13000, 1000, 1001, 1002, 1003, 2000, 2001, 14000, 14001, 5000, 6000, 6001, 6002, 7000, 7001, 7002, 3000, 3001, 8000, 8002, 8003, 8004, 8001, 9000, 9001, 9002, 9003, 9004, 9005, 9006, 10000, 10001, 11000, 11001, 11002, 11003, 11004, 16000, 16001, 16002, 15000, 15100, 15001, 15101, 15002, 15102, 15003, 15103, 15004, 15104] 47 _ _ (fun i j p r hi hj he => hW.1.2 i j p r hi hj he) rfl rfl
  have c_q48 : f2 q48 = some (.inr (7, [.ref q49, .int 0])) := hW.1.1 48 _ rfl
  have t_q48 : own q48 = 15004 := by rw [hown]; exact ownT_at _ [13000, 1000, 1001, 1002, 1003, 2000, 2001, 14000, 14001, 5000, 6000, 6001, 6002, 7000, 7001, 7002, 3000, 3001, 8000, 8002, 8003, 8004, 8001, 9000, 9001, 9002, 9003, 9004, 9005, 9006, 10000, 10001, 11000, 11001, 11002, 11003, 11004, 16000, 16001, 16002, 15000, 15100, 15001, 15101, 15002, 15102, 15003, 15103, 15004, 15104] 48 _ _ (fun i j p r hi hj he => hW.1.2 i j p r hi hj he) rfl rfl
  have c_q49 : f2 q49 = some (.inl (cy 0, 6, .inl (fun _ => 0))) := hW.1.1 49 _ rfl
  have t_q49 : own q49 = 15104 := by rw [hown]; exact ownT_at _ [13000, 1000, 1001, 1002, 1003, 2000, 2001, 14000, 14001, 5000, 6000, 6001, 6002, 7000, 7001, 7002, 3000, 3001, 8000, 8002, 8003, 8004, 8001, 9000, 9001, 9002, 9003, 9004, 9005, 9006, 10000, 10001, 11000, 11001, 11002, 11003, 11004, 16000, 16001, 16002, 15000, 15100, 15001, 15101, 15002, 15102, 15003, 15103, 15004, 15104] 49 _ _ (fun i j p r hi hj he => hW.1.2 i j p r hi hj he) rfl rfl
  refine ⟨own, ?_, fun a ha => ?_⟩
  · exact ⟨_, _, _, _, _, _, _, _, _, _, _, _, _, fun _ => none, fun _ => none, ⟨t_x, c_x, ⟨by decide, by decide⟩⟩, ⟨_, _, ⟨⟨t_q1, t_q2, t_q3, t_q4⟩, c_q1, c_q2, c_q3, c_q4, ⟨by decide, by decide⟩⟩⟩, ⟨_, ⟨⟨t_q5, t_q6⟩, c_q5, c_q6⟩⟩, ⟨_, _, ⟨⟨t_q7, t_q8⟩, c_q7, c_q8⟩⟩, ⟨t_q9, c_q9⟩, (fun i p hi hp => by cases hp), ⟨_, _, _, _, _, _, ⟨⟨t_q10, t_q11, t_q12⟩, c_q10, c_q11, c_q12⟩⟩, ⟨_, _, _, _, _, _, ⟨⟨t_q13, t_q14, t_q15⟩, c_q13, c_q14, c_q15⟩⟩, ⟨_, _, ⟨⟨t_q16, t_q17⟩, c_q16, c_q17⟩⟩, ⟨_, _, _, _, _, _, _, _, _, ⟨⟨t_q18, t_q22, t_q19, t_q20, t_q21⟩, c_q18, c_q22, c_q19, c_q20, c_q21⟩⟩, ⟨_, _, _, _, _, _, _, _, _, _, _, _, ⟨⟨t_q23, t_q24, t_q25, t_q26, t_q27, t_q28, t_q29⟩, c_q23, c_q24, c_q25, c_q26, c_q27, c_q28, c_q29, ⟨by decide, by decide, by decide, by decide⟩⟩⟩, ⟨_, ⟨⟨t_q30, t_q31⟩, c_q30, c_q31, ⟨by decide, by decide⟩⟩⟩, (fun i p hi hp => by cases hp), ⟨_, _, _, _, _, _, _, _, _, (fun i => match i with | 0 => q40 | 1 => q42 | 2 => q44 | 3 => q46 | _ => q48), (fun i => match i with | 0 => q41 | 1 => q43 | 2 => q45 | 3 => q47 | _ => q49), ⟨⟨t_q32, t_q33, t_q34, t_q35, t_q36⟩, c_q32, c_q33, c_q34, c_q35, c_q36, ⟨by decide, by decide⟩⟩, ⟨(fun i hi => by match i, hi with | 0, _ => exact ⟨t_q40, t_q41⟩ | 1, _ => exact ⟨t_q42, t_q43⟩ | 2, _ => exact ⟨t_q44, t_q45⟩ | 3, _ => exact ⟨t_q46, t_q47⟩ | 4, _ => exact ⟨t_q48, t_q49⟩), (fun i hi => by match i, hi with | 0, _ => exact rfl | 1, _ => exact rfl | 2, _ => exact rfl | 3, _ => exact rfl | 4, _ => exact rfl), (fun i hi => by match i, hi with | 0, _ => exact ⟨_, _, c_q40, c_q41⟩ | 1, _ => exact ⟨_, _, c_q42, c_q43⟩ | 2, _ => exact ⟨_, _, c_q44, c_q45⟩ | 3, _ => exact ⟨_, _, c_q46, c_q47⟩ | 4, _ => exact ⟨_, _, c_q48, c_q49⟩)⟩⟩, ⟨fun i hi hx => rfl, fun i hi => absurd hi (by show ¬ (i : Int) < 0; omega)⟩, (fun i hi => absurd hi (by show ¬ (i : Int) < 0; omega))⟩
  · rw [hown]
    refine ownT_out _ _ _ (fun q hq e => ?_)
    obtain ⟨i, hi⟩ := List.getElem?_of_mem hq
    have h1 := hW.2.2.1 i q hi
    have h2 := hW.1.1 i q hi
    rw [e] at h1 h2
    rcases ha with ⟨ha1, ha2⟩ | ha
    · rcases h1 with h1 | h1
      · exact ha1 h1
      · exact ha2 h1
    · rw [ha] at h2; cases h2
