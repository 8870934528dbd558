theorem dJ0_length_8abf5_0 : decode cJ0_length_8abf5 0 = .ok (.aload_n 0, 1) := by decide +kernel
theorem dJ0_length_8abf5_1 : decode cJ0_length_8abf5 1 = .ok (.getfield 9, 3) := by decide +kernel
theorem dJ0_length_8abf5_4 : decode cJ0_length_8abf5 4 = .ok (.arraylength, 1) := by decide +kernel
theorem dJ0_length_8abf5_5 : decode cJ0_length_8abf5 5 = .ok (.aload_n 0, 1) := by decide +kernel
theorem dJ0_length_8abf5_6 : decode cJ0_length_8abf5 6 = .ok (.invokevirtual 335, 3) := by decide +kernel
theorem dJ0_length_8abf5_9 : decode cJ0_length_8abf5 9 = .ok (.ishr, 1) := by decide +kernel
theorem dJ0_length_8abf5_10 : decode cJ0_length_8abf5 10 = .ok (.ireturn, 1) := by decide +kernel
theorem dJ0_charAt_5068e_0 : decode cJ0_charAt_5068e 0 = .ok (.aload_n 0, 1) := by decide +kernel
theorem dJ0_charAt_5068e_1 : decode cJ0_charAt_5068e 1 = .ok (.invokevirtual 492, 3) := by decide +kernel
theorem dJ0_charAt_5068e_4 : decode cJ0_charAt_5068e 4 = .ok (.ifCond .eq 12, 3) := by decide +kernel
theorem dJ0_charAt_5068e_7 : decode cJ0_charAt_5068e 7 = .ok (.aload_n 0, 1) := by decide +kernel
theorem dJ0_charAt_5068e_8 : decode cJ0_charAt_5068e 8 = .ok (.getfield 9, 3) := by decide +kernel
theorem dJ0_charAt_5068e_11 : decode cJ0_charAt_5068e 11 = .ok (.iload_n 1, 1) := by decide +kernel
theorem dJ0_charAt_5068e_12 : decode cJ0_charAt_5068e 12 = .ok (.invokestatic 495, 3) := by decide +kernel
theorem dJ0_charAt_5068e_15 : decode cJ0_charAt_5068e 15 = .ok (.ireturn, 1) := by decide +kernel
theorem dJ0_charAt_5068e_16 : decode cJ0_charAt_5068e 16 = .ok (.aload_n 0, 1) := by decide +kernel
theorem dJ0_charAt_5068e_17 : decode cJ0_charAt_5068e 17 = .ok (.getfield 9, 3) := by decide +kernel
theorem dJ0_charAt_5068e_20 : decode cJ0_charAt_5068e 20 = .ok (.iload_n 1, 1) := by decide +kernel
theorem dJ0_charAt_5068e_21 : decode cJ0_charAt_5068e 21 = .ok (.invokestatic 498, 3) := by decide +kernel
theorem dJ0_charAt_5068e_24 : decode cJ0_charAt_5068e 24 = .ok (.ireturn, 1) := by decide +kernel
theorem dJ0_coder_7d493_0 : decode cJ0_coder_7d493 0 = .ok (.getstatic 38, 3) := by decide +kernel
theorem dJ0_coder_7d493_3 : decode cJ0_coder_7d493 3 = .ok (.ifCond .eq 10, 3) := by decide +kernel
theorem dJ0_coder_7d493_6 : decode cJ0_coder_7d493 6 = .ok (.aload_n 0, 1) := by decide +kernel
theorem dJ0_coder_7d493_7 : decode cJ0_coder_7d493 7 = .ok (.getfield 15, 3) := by decide +kernel
theorem dJ0_coder_7d493_10 : decode cJ0_coder_7d493 10 = .ok (.goto 4, 3) := by decide +kernel
theorem dJ0_coder_7d493_13 : decode cJ0_coder_7d493 13 = .ok (.iconst 1, 1) := by decide +kernel
theorem dJ0_coder_7d493_14 : decode cJ0_coder_7d493 14 = .ok (.ireturn, 1) := by decide +kernel
theorem dJ0_isLatin1_aae02_0 : decode cJ0_isLatin1_aae02 0 = .ok (.getstatic 38, 3) := by decide +kernel
theorem dJ0_isLatin1_aae02_3 : decode cJ0_isLatin1_aae02 3 = .ok (.ifCond .eq 14, 3) := by decide +kernel
theorem dJ0_isLatin1_aae02_6 : decode cJ0_isLatin1_aae02 6 = .ok (.aload_n 0, 1) := by decide +kernel
theorem dJ0_isLatin1_aae02_7 : decode cJ0_isLatin1_aae02 7 = .ok (.getfield 15, 3) := by decide +kernel
theorem dJ0_isLatin1_aae02_10 : decode cJ0_isLatin1_aae02 10 = .ok (.ifCond .ne 7, 3) := by decide +kernel
theorem dJ0_isLatin1_aae02_13 : decode cJ0_isLatin1_aae02 13 = .ok (.iconst 1, 1) := by decide +kernel
theorem dJ0_isLatin1_aae02_14 : decode cJ0_isLatin1_aae02 14 = .ok (.goto 4, 3) := by decide +kernel
theorem dJ0_isLatin1_aae02_17 : decode cJ0_isLatin1_aae02 17 = .ok (.iconst 0, 1) := by decide +kernel
theorem dJ0_isLatin1_aae02_18 : decode cJ0_isLatin1_aae02 18 = .ok (.ireturn, 1) := by decide +kernel
theorem dJ0_checkIndex_df160_0 : decode cJ0_checkIndex_df160 0 = .ok (.iload_n 0, 1) := by decide +kernel
theorem dJ0_checkIndex_df160_1 : decode cJ0_checkIndex_df160 1 = .ok (.iload_n 1, 1) := by decide +kernel
theorem dJ0_checkIndex_df160_2 : decode cJ0_checkIndex_df160 2 = .ok (.getstatic 1053, 3) := by decide +kernel
theorem dJ0_checkIndex_df160_5 : decode cJ0_checkIndex_df160 5 = .ok (.invokestatic 1059, 3) := by decide +kernel
theorem dJ0_checkIndex_df160_8 : decode cJ0_checkIndex_df160 8 = .ok (.pop, 1) := by decide +kernel
theorem dJ0_checkIndex_df160_9 : decode cJ0_checkIndex_df160 9 = .ok (.return_, 1) := by decide +kernel
theorem dJ1_charAt_3b067_0 : decode cJ1_charAt_3b067 0 = .ok (.iload_n 1, 1) := by decide +kernel
theorem dJ1_charAt_3b067_1 : decode cJ1_charAt_3b067 1 = .ok (.aload_n 0, 1) := by decide +kernel
theorem dJ1_charAt_3b067_2 : decode cJ1_charAt_3b067 2 = .ok (.arraylength, 1) := by decide +kernel
theorem dJ1_charAt_3b067_3 : decode cJ1_charAt_3b067 3 = .ok (.invokestatic 9, 3) := by decide +kernel
theorem dJ1_charAt_3b067_6 : decode cJ1_charAt_3b067 6 = .ok (.aload_n 0, 1) := by decide +kernel
theorem dJ1_charAt_3b067_7 : decode cJ1_charAt_3b067 7 = .ok (.iload_n 1, 1) := by decide +kernel
theorem dJ1_charAt_3b067_8 : decode cJ1_charAt_3b067 8 = .ok (.baload, 1) := by decide +kernel
theorem dJ1_charAt_3b067_9 : decode cJ1_charAt_3b067 9 = .ok (.sipush 255, 3) := by decide +kernel
theorem dJ1_charAt_3b067_12 : decode cJ1_charAt_3b067 12 = .ok (.iand, 1) := by decide +kernel
theorem dJ1_charAt_3b067_13 : decode cJ1_charAt_3b067 13 = .ok (.i2c, 1) := by decide +kernel
theorem dJ1_charAt_3b067_14 : decode cJ1_charAt_3b067 14 = .ok (.ireturn, 1) := by decide +kernel
theorem dJ3_checkIndex_8e157_0 : decode cJ3_checkIndex_8e157 0 = .ok (.iload_n 0, 1) := by decide +kernel
theorem dJ3_checkIndex_8e157_1 : decode cJ3_checkIndex_8e157 1 = .ok (.ifCond .lt 8, 3) := by decide +kernel
theorem dJ3_checkIndex_8e157_4 : decode cJ3_checkIndex_8e157 4 = .ok (.iload_n 0, 1) := by decide +kernel
theorem dJ3_checkIndex_8e157_5 : decode cJ3_checkIndex_8e157 5 = .ok (.iload_n 1, 1) := by decide +kernel
theorem dJ3_checkIndex_8e157_6 : decode cJ3_checkIndex_8e157 6 = .ok (.if_icmp .lt 10, 3) := by decide +kernel
theorem dJ3_checkIndex_8e157_9 : decode cJ3_checkIndex_8e157 9 = .ok (.aload_n 2, 1) := by decide +kernel
theorem dJ3_checkIndex_8e157_10 : decode cJ3_checkIndex_8e157 10 = .ok (.iload_n 0, 1) := by decide +kernel
theorem dJ3_checkIndex_8e157_11 : decode cJ3_checkIndex_8e157 11 = .ok (.iload_n 1, 1) := by decide +kernel
theorem dJ3_checkIndex_8e157_12 : decode cJ3_checkIndex_8e157 12 = .ok (.invokestatic 95, 3) := by decide +kernel
theorem dJ3_checkIndex_8e157_15 : decode cJ3_checkIndex_8e157 15 = .ok (.athrow, 1) := by decide +kernel
theorem dJ3_checkIndex_8e157_16 : decode cJ3_checkIndex_8e157 16 = .ok (.iload_n 0, 1) := by decide +kernel
theorem dJ3_checkIndex_8e157_17 : decode cJ3_checkIndex_8e157 17 = .ok (.ireturn, 1) := by decide +kernel
theorem gBy_ok : ∀ j, j < 88 → ((gBy.getD j 0 &&& 255).toUInt32 % 65536).toInt32 = gBy.getD j 0 := by decide +kernel
theorem gBy_le : ∀ j, j < 88 → 0 ≤ (gBy.getD j 0).toInt ∧ (gBy.getD j 0).toInt < 128 := by decide +kernel
theorem gBy_nar : ∀ j, j < 88 → narrow .char (.int (gBy.getD j 0)) = .int (gBy.getD j 0) := by
  intro j hj
  show Value.int ((gBy.getD j 0).toUInt32 % 65536).toInt32 = _
  have h : ∀ j, j < 88 → ((gBy.getD j 0).toUInt32 % 65536).toInt32 = gBy.getD j 0 := by decide +kernel
  rw [h j hj]
theorem gEok_T {b t : Nat} : gEok b (fun U => va_T .byte t 88 (fun j => .int (gBy.getD j 0)) (fun x : Nat => b ≤ x) U U.heap) := by
  refine ⟨fun s U hW hq h => (va_T.moved hW.alike h).kept hq, fun s U hvm hh h => ?_⟩
  have A := Vm.Alike.refl s.vm
  show va_T _ _ _ _ _ U U.heap
  rw [hh]; exact va_T.moved (hvm ▸ A) h
theorem vin_l88 {i : Int32} (h : vp_in i 88) : i.toNatClampNeg < 88 := Nat.not_le.mp fun q => h (Or.inr q)
set_option maxRecDepth 100000 in
theorem ws_0 : Cond.fieldLink RJ0 38 "java/lang/String" "COMPACT_STRINGS" "Z" ∈ gW := gWi (List.mem_of_getElem? (i := 489) rfl) rfl
set_option maxRecDepth 100000 in
theorem ws_1 : Cond.fieldLink RJ0 15 "java/lang/String" "coder" "B" ∈ gW := gWi (List.mem_of_getElem? (i := 1834) rfl) rfl
set_option maxRecDepth 100000 in
theorem ws_2 : Cond.fieldLink RJ0 9 "java/lang/String" "value" "[B" ∈ gW := gWi (List.mem_of_getElem? (i := 1833) rfl) rfl
set_option maxHeartbeats 4000000 in
set_option maxRecDepth 100000 in
theorem k_coder {l : Launch} {D : va_G} {cy : Nat → ClassId} {b : Nat} {f : gMem} {q : Nat}  : gU l D cy b yJ0_coder_7d493 cJ0_coder_7d493 1 (some .byte) 0 0 0 [.ref q] f (gStr b q) (fun k n r f' => k = 0 ∧ n = 0 ∧ r = some (.int 0) ∧ f' = f) := by
  refine gU_of (by decide) ((Nat.le_of_ble_eq_true rfl)) ?_
  show gG l _ _ _ D cy b cJ0_coder_7d493 1 _ RJ0 "coder" 0 0 f 0 [(0, .ref q)] []
  refine gz_compact ws_0 dJ0_coder_7d493_0 ?_
  refine gz_if_eq (tgt := 13) dJ0_coder_7d493_3 (by decide) (fun c => absurd c (by decide)) (fun _ => ?_)
  refine gz_aload_n dJ0_coder_7d493_6 rfl rfl ?_
  refine gz_coder ws_1 dJ0_coder_7d493_7 ?_
  refine gz_goto (tgt := 14) dJ0_coder_7d493_10 (by decide) ?_
  exact gz_zretU rfl rfl dJ0_coder_7d493_14 (Nat.le_refl _) (Nat.le_refl _) ⟨rfl, rfl, rfl, rfl⟩
set_option maxHeartbeats 4000000 in
set_option maxRecDepth 100000 in
theorem k_lat1 {l : Launch} {D : va_G} {cy : Nat → ClassId} {b : Nat} {f : gMem} {q : Nat}  : gU l D cy b yJ0_isLatin1_aae02 cJ0_isLatin1_aae02 1 (some .boolean) 0 0 0 [.ref q] f (gStr b q) (fun k n r f' => k = 0 ∧ n = 0 ∧ r = some (.int 1) ∧ f' = f) := by
  refine gU_of (by decide) ((Nat.le_of_ble_eq_true rfl)) ?_
  show gG l _ _ _ D cy b cJ0_isLatin1_aae02 1 _ RJ0 "isLatin1" 0 0 f 0 [(0, .ref q)] []
  refine gz_compact ws_0 dJ0_isLatin1_aae02_0 ?_
  refine gz_if_eq (tgt := 17) dJ0_isLatin1_aae02_3 (by decide) (fun c => absurd c (by decide)) (fun _ => ?_)
  refine gz_aload_n dJ0_isLatin1_aae02_6 rfl rfl ?_
  refine gz_coder ws_1 dJ0_isLatin1_aae02_7 ?_
  refine gz_if_ne (tgt := 17) dJ0_isLatin1_aae02_10 (by decide) (fun c => absurd rfl c) (fun _ => ?_)
  refine gz_iconst (v := 1) dJ0_isLatin1_aae02_13 (by decide) ?_
  refine gz_goto (tgt := 18) dJ0_isLatin1_aae02_14 (by decide) ?_
  exact gz_zretU rfl rfl dJ0_isLatin1_aae02_18 (Nat.le_refl _) (Nat.le_refl _) ⟨rfl, rfl, rfl, rfl⟩
set_option maxRecDepth 100000 in
theorem ws_3 : Cond.methodLink RJ0 335 yJ0_coder_7d493 ∈ gW := gWi (List.mem_of_getElem? (i := 485) rfl) rfl
set_option maxRecDepth 100000 in
theorem ws_4 : Cond.instanceMethod yJ0_coder_7d493 ∈ gW := gWi (List.mem_of_getElem? (i := 486) rfl) rfl
set_option maxRecDepth 100000 in
theorem ws_5 : Cond.selects RJ0 yJ0_coder_7d493 yJ0_coder_7d493 ∈ gW := gWi (List.mem_of_getElem? (i := 487) rfl) rfl
set_option maxRecDepth 100000 in
theorem ws_6 : Cond.initialized RJ0 ∈ gW := gWi (List.mem_of_getElem? (i := 128) rfl) rfl
set_option maxRecDepth 100000 in
theorem ws_7 : Cond.code yJ0_coder_7d493 cJ0_coder_7d493 1 (some .byte) ∈ gW := gWi (List.mem_of_getElem? (i := 488) rfl) rfl
set_option maxHeartbeats 4000000 in
set_option maxRecDepth 100000 in
theorem k_slen {l : Launch} {D : va_G} {cy : Nat → ClassId} {b : Nat} {f : gMem} {q : Nat}  : gU l D cy b yJ0_length_8abf5 cJ0_length_8abf5 1 (some .int) 1 0 0 [.ref q] f (gStr b q) (fun k n r f' => k = 0 ∧ n = 0 ∧ r = some (.int 88) ∧ f' = f) := by
  refine gU_of (by decide) ((Nat.le_of_ble_eq_true rfl)) ?_
  show gG l _ _ _ D cy b cJ0_length_8abf5 1 _ RJ0 "length" 0 0 f 0 [(0, .ref q)] []
  refine gz_aload_n dJ0_length_8abf5_0 rfl rfl ?_
  refine gz_svalue ws_2 dJ0_length_8abf5_1 (fun t => ?_)
  refine gz_stlen (fun U h => h.2) dJ0_length_8abf5_4 ?_
  refine gz_aload_n dJ0_length_8abf5_5 rfl rfl ?_
  refine gz_callVS (n := 0) (k_coder (q := q)) gEok_str (fun U h => h.1) (fun U h => by obtain ⟨t, h1, -⟩ := h.1; exact h1) ws_7 ⟨ws_3, ws_4, ws_5, ws_6⟩ ⟨rfl, by decide, by decide, by decide +kernel⟩ ⟨(Nat.le_of_ble_eq_true rfl), (Nat.le_of_ble_eq_true rfl)⟩ ⟨(Nat.le_of_ble_eq_true rfl), (Nat.le_of_ble_eq_true rfl)⟩ rfl rfl (Nat.le_of_ble_eq_true rfl) dJ0_length_8abf5_6 ?_
  rintro kk nn r f1 ⟨rfl, rfl, rfl, rfl⟩
  refine gz_ishr dJ0_length_8abf5_9 ?_
  refine gz_ev (w := .int 88) (by decide) ?_
  exact gz_iretU rfl dJ0_length_8abf5_10 (Nat.le_refl _) (Nat.le_refl _) ⟨rfl, rfl, rfl, rfl⟩
set_option maxHeartbeats 4000000 in
set_option maxRecDepth 100000 in
theorem k_pchk {l : Launch} {D : va_G} {cy : Nat → ClassId} {b : Nat} {f : gMem} {i n : Int32} {o : Option Nat} (h1 : ¬ i < 0) (h2 : i < n) : gU l D cy b yJ3_checkIndex_8e157 cJ3_checkIndex_8e157 3 (some .int) 0 0 0 [.int i, .int n, va_rf o] f gTt (fun k n r f' => k = 0 ∧ n = 0 ∧ r = some (.int i) ∧ f' = f) := by
  refine gU_of (by decide) (by cases o <;> exact Nat.le_of_ble_eq_true rfl) ?_
  show gG l _ _ _ D cy b cJ3_checkIndex_8e157 3 _ RJ3 "checkIndex" 0 0 f 0 [(0, .int i), (1, .int n), (2, va_rf o)] []
  refine gz_iload_n dJ3_checkIndex_8e157_0 rfl rfl ?_
  refine gz_if_lt (tgt := 9) dJ3_checkIndex_8e157_1 (by decide) (fun c => absurd c h1) (fun _ => ?_)
  refine gz_iload_n dJ3_checkIndex_8e157_4 rfl rfl ?_
  refine gz_iload_n dJ3_checkIndex_8e157_5 rfl rfl ?_
  refine gz_icmp_lt (tgt := 16) dJ3_checkIndex_8e157_6 (by decide) (fun _ => ?_) (fun c => absurd h2 c)
  refine gz_iload_n dJ3_checkIndex_8e157_16 rfl rfl ?_
  exact gz_iretU rfl dJ3_checkIndex_8e157_17 (Nat.le_refl _) (Nat.le_refl _) ⟨rfl, rfl, rfl, rfl⟩
set_option maxRecDepth 100000 in
theorem ws_8 : Cond.fieldLink RJ0 1053 "jdk/internal/util/Preconditions" "SIOOBE_FORMATTER" "Ljava/util/function/BiFunction;" ∈ gW := gWi (List.mem_of_getElem? (i := 505) rfl) rfl
set_option maxRecDepth 100000 in
theorem ws_9 : Cond.methodLink RJ0 1059 yJ3_checkIndex_8e157 ∈ gW := gWi (List.mem_of_getElem? (i := 507) rfl) rfl
set_option maxRecDepth 100000 in
theorem ws_10 : Cond.static yJ3_checkIndex_8e157 ∈ gW := gWi (List.mem_of_getElem? (i := 508) rfl) rfl
set_option maxRecDepth 100000 in
theorem ws_11 : Cond.initialized RJ3 ∈ gW := gWi (List.mem_of_getElem? (i := 130) rfl) rfl
set_option maxRecDepth 100000 in
theorem ws_12 : Cond.code yJ3_checkIndex_8e157 cJ3_checkIndex_8e157 3 (some .int) ∈ gW := gWi (List.mem_of_getElem? (i := 509) rfl) rfl
set_option maxHeartbeats 4000000 in
set_option maxRecDepth 100000 in
theorem k_schk {l : Launch} {D : va_G} {cy : Nat → ClassId} {b : Nat} {f : gMem} {i n : Int32} (h1 : ¬ i < 0) (h2 : i < n) : gU l D cy b yJ0_checkIndex_df160 cJ0_checkIndex_df160 2 none 1 0 0 [.int i, .int n] f gTt (fun k m r f' => k = 0 ∧ m = 0 ∧ r = none ∧ f' = f) := by
  refine gU_of (by decide) ((Nat.le_of_ble_eq_true rfl)) ?_
  show gG l _ _ _ D cy b cJ0_checkIndex_df160 2 _ RJ0 "checkIndex" 0 0 f 0 [(0, .int i), (1, .int n)] []
  refine gz_iload_n dJ0_checkIndex_df160_0 rfl rfl ?_
  refine gz_iload_n dJ0_checkIndex_df160_1 rfl rfl ?_
  refine gz_fmt ws_8 dJ0_checkIndex_df160_2 (fun o => ?_)
  refine gz_callSU (n := 3) (k_pchk (i := i) (n := n) (o := o) h1 h2) gEok_tt (fun _ _ => trivial) ws_12 ⟨ws_9, ws_10, ws_11⟩ ⟨by decide, by decide, by decide +kernel⟩ ⟨(Nat.le_of_ble_eq_true rfl), (Nat.le_of_ble_eq_true rfl)⟩ ⟨(Nat.le_of_ble_eq_true rfl), (Nat.le_of_ble_eq_true rfl)⟩ rfl rfl (Nat.le_of_ble_eq_true rfl) dJ0_checkIndex_df160_5 ?_
  rintro kk nn r f1 ⟨rfl, rfl, rfl, rfl⟩
  refine gz_pop dJ0_checkIndex_df160_8 rfl ?_
  exact gz_vretU rfl dJ0_checkIndex_df160_9 (Nat.le_refl _) (Nat.le_refl _) ⟨rfl, rfl, rfl, rfl⟩
set_option maxRecDepth 100000 in
theorem ws_13 : Cond.methodLink RJ1 9 yJ0_checkIndex_df160 ∈ gW := gWi (List.mem_of_getElem? (i := 502) rfl) rfl
set_option maxRecDepth 100000 in
theorem ws_14 : Cond.static yJ0_checkIndex_df160 ∈ gW := gWi (List.mem_of_getElem? (i := 503) rfl) rfl
set_option maxRecDepth 100000 in
theorem ws_15 : Cond.code yJ0_checkIndex_df160 cJ0_checkIndex_df160 2 none ∈ gW := gWi (List.mem_of_getElem? (i := 504) rfl) rfl
set_option maxHeartbeats 4000000 in
set_option maxRecDepth 100000 in
theorem k_lchar {l : Launch} {D : va_G} {cy : Nat → ClassId} {b : Nat} {f : gMem} {t : Nat} {i : Int32} (h1 : ¬ i < 0) (h2 : i < 88) (h3 : vp_in i 88) : gU l D cy b yJ1_charAt_3b067 cJ1_charAt_3b067 2 (some .char) 2 0 0 [.ref t, .int i] f (fun U => va_T .byte t 88 (fun j => .int (gBy.getD j 0)) (fun x : Nat => b ≤ x) U U.heap) (fun k n r f' => k = 0 ∧ n = 0 ∧ r = some (.int (gBy.getD i.toNatClampNeg 0)) ∧ f' = f) := by
  refine gU_of (by decide) ((Nat.le_of_ble_eq_true rfl)) ?_
  show gG l _ _ _ D cy b cJ1_charAt_3b067 2 _ RJ1 "charAt" 0 0 f 0 [(0, .ref t), (1, .int i)] []
  refine gz_iload_n dJ1_charAt_3b067_0 rfl rfl ?_
  refine gz_aload_n dJ1_charAt_3b067_1 rfl rfl ?_
  refine gz_stlen (fun U h => h) dJ1_charAt_3b067_2 ?_
  refine gz_callSU (n := 2) (k_schk (i := i) (n := 88) h1 h2) gEok_tt (fun _ _ => trivial) ws_15 ⟨ws_13, ws_14, ws_6⟩ ⟨by decide, by decide, by decide +kernel⟩ ⟨(Nat.le_of_ble_eq_true rfl), (Nat.le_of_ble_eq_true rfl)⟩ ⟨(Nat.le_of_ble_eq_true rfl), (Nat.le_of_ble_eq_true rfl)⟩ rfl rfl (Nat.le_of_ble_eq_true rfl) dJ1_charAt_3b067_3 ?_
  rintro kk nn r f1 ⟨rfl, rfl, rfl, rfl⟩
  refine gz_aload_n dJ1_charAt_3b067_6 rfl rfl ?_
  refine gz_iload_n dJ1_charAt_3b067_7 rfl rfl ?_
  refine gz_stb (fun U h => h) h3 dJ1_charAt_3b067_8 ?_
  refine gz_sipush (v := 255) dJ1_charAt_3b067_9 (by decide) ?_
  refine gz_iand dJ1_charAt_3b067_12 ?_
  refine gz_i2c dJ1_charAt_3b067_13 (gBy_ok _ (vin_l88 h3)) ?_
  exact gz_zretU rfl (gBy_nar _ (vin_l88 h3)) dJ1_charAt_3b067_14 (Nat.le_refl _) (Nat.le_refl _) ⟨rfl, rfl, rfl, rfl⟩
set_option maxRecDepth 100000 in
theorem ws_16 : Cond.methodLink RJ0 492 yJ0_isLatin1_aae02 ∈ gW := gWi (List.mem_of_getElem? (i := 495) rfl) rfl
set_option maxRecDepth 100000 in
theorem ws_17 : Cond.instanceMethod yJ0_isLatin1_aae02 ∈ gW := gWi (List.mem_of_getElem? (i := 496) rfl) rfl
set_option maxRecDepth 100000 in
theorem ws_18 : Cond.selects RJ0 yJ0_isLatin1_aae02 yJ0_isLatin1_aae02 ∈ gW := gWi (List.mem_of_getElem? (i := 497) rfl) rfl
set_option maxRecDepth 100000 in
theorem ws_19 : Cond.code yJ0_isLatin1_aae02 cJ0_isLatin1_aae02 1 (some .boolean) ∈ gW := gWi (List.mem_of_getElem? (i := 498) rfl) rfl
set_option maxRecDepth 100000 in
theorem ws_20 : Cond.methodLink RJ0 495 yJ1_charAt_3b067 ∈ gW := gWi (List.mem_of_getElem? (i := 499) rfl) rfl
set_option maxRecDepth 100000 in
theorem ws_21 : Cond.static yJ1_charAt_3b067 ∈ gW := gWi (List.mem_of_getElem? (i := 500) rfl) rfl
set_option maxRecDepth 100000 in
theorem ws_22 : Cond.initialized RJ1 ∈ gW := gWi (List.mem_of_getElem? (i := 129) rfl) rfl
set_option maxRecDepth 100000 in
theorem ws_23 : Cond.code yJ1_charAt_3b067 cJ1_charAt_3b067 2 (some .char) ∈ gW := gWi (List.mem_of_getElem? (i := 501) rfl) rfl
set_option maxHeartbeats 4000000 in
set_option maxRecDepth 100000 in
theorem k_schar {l : Launch} {D : va_G} {cy : Nat → ClassId} {b : Nat} {f : gMem} {q : Nat} {i : Int32} (h1 : ¬ i < 0) (h2 : i < 88) (h3 : vp_in i 88) : gU l D cy b yJ0_charAt_5068e cJ0_charAt_5068e 2 (some .char) 3 0 0 [.ref q, .int i] f (gStr b q) (fun k n r f' => k = 0 ∧ n = 0 ∧ r = some (.int (gBy.getD i.toNatClampNeg 0)) ∧ f' = f) := by
  refine gU_of (by decide) ((Nat.le_of_ble_eq_true rfl)) ?_
  show gG l _ _ _ D cy b cJ0_charAt_5068e 2 _ RJ0 "charAt" 0 0 f 0 [(0, .ref q), (1, .int i)] []
  refine gz_aload_n dJ0_charAt_5068e_0 rfl rfl ?_
  refine gz_callVS (n := 0) (k_lat1 (q := q)) gEok_str (fun U h => h) (fun U h => by obtain ⟨t, h1, -⟩ := h; exact h1) ws_19 ⟨ws_16, ws_17, ws_18, ws_6⟩ ⟨rfl, by decide, by decide, by decide +kernel⟩ ⟨(Nat.le_of_ble_eq_true rfl), (Nat.le_of_ble_eq_true rfl)⟩ ⟨(Nat.le_of_ble_eq_true rfl), (Nat.le_of_ble_eq_true rfl)⟩ rfl rfl (Nat.le_of_ble_eq_true rfl) dJ0_charAt_5068e_1 ?_
  rintro kk nn r f1 ⟨rfl, rfl, rfl, rfl⟩
  refine gz_if_eq (tgt := 16) dJ0_charAt_5068e_4 (by decide) (fun c => absurd c (by decide)) (fun _ => ?_)
  refine gz_aload_n dJ0_charAt_5068e_7 rfl rfl ?_
  refine gz_svalue ws_2 dJ0_charAt_5068e_8 (fun t => ?_)
  refine gz_iload_n dJ0_charAt_5068e_11 rfl rfl ?_
  refine gz_callSU (n := 2) (k_lchar (t := t) (i := i) h1 h2 h3) gEok_T (fun U h => h.2) ws_23 ⟨ws_20, ws_21, ws_22⟩ ⟨by decide, by decide, by decide +kernel⟩ ⟨(Nat.le_of_ble_eq_true rfl), (Nat.le_of_ble_eq_true rfl)⟩ ⟨(Nat.le_of_ble_eq_true rfl), (Nat.le_of_ble_eq_true rfl)⟩ rfl rfl (Nat.le_of_ble_eq_true rfl) dJ0_charAt_5068e_12 ?_
  rintro kk nn r f2 ⟨rfl, rfl, rfl, rfl⟩
  exact gz_zretU rfl (gBy_nar _ (vin_l88 h3)) dJ0_charAt_5068e_15 (Nat.le_refl _) (Nat.le_refl _) ⟨rfl, rfl, rfl, rfl⟩
set_option maxRecDepth 100000 in
theorem ws_24 : Cond.methodLink RX11 253 yJ0_length_8abf5 ∈ gW := gWi (List.mem_of_getElem? (i := 481) rfl) rfl
set_option maxRecDepth 100000 in
theorem ws_25 : Cond.instanceMethod yJ0_length_8abf5 ∈ gW := gWi (List.mem_of_getElem? (i := 482) rfl) rfl
set_option maxRecDepth 100000 in
theorem ws_26 : Cond.selects RJ0 yJ0_length_8abf5 yJ0_length_8abf5 ∈ gW := gWi (List.mem_of_getElem? (i := 483) rfl) rfl
set_option maxRecDepth 100000 in
theorem ws_27 : Cond.code yJ0_length_8abf5 cJ0_length_8abf5 1 (some .int) ∈ gW := gWi (List.mem_of_getElem? (i := 484) rfl) rfl
set_option maxRecDepth 100000 in
theorem ws_28 : Cond.methodLink RX11 258 yJ0_charAt_5068e ∈ gW := gWi (List.mem_of_getElem? (i := 491) rfl) rfl
set_option maxRecDepth 100000 in
theorem ws_29 : Cond.instanceMethod yJ0_charAt_5068e ∈ gW := gWi (List.mem_of_getElem? (i := 492) rfl) rfl
set_option maxRecDepth 100000 in
theorem ws_30 : Cond.selects RJ0 yJ0_charAt_5068e yJ0_charAt_5068e ∈ gW := gWi (List.mem_of_getElem? (i := 493) rfl) rfl
set_option maxRecDepth 100000 in
theorem ws_31 : Cond.code yJ0_charAt_5068e cJ0_charAt_5068e 2 (some .char) ∈ gW := gWi (List.mem_of_getElem? (i := 494) rfl) rfl
def nlF (x y : Int32) : Int32 := (if (x : Int32) < 0 then 32 else (if 11 ≤ (x : Int32) then 32 else (if (y : Int32) < 0 then 32 else (if (y : Int32) < 8 then (gBy.getD (Int32.toNatClampNeg ((x * 8) + y)) 0) else 32))))
set_option maxHeartbeats 4000000 in
set_option maxRecDepth 100000 in
theorem k_X11_nameLetter {l : Launch} {D : va_G} {cy : Nat → ClassId} {b : Nat} {f : gMem} {x y : Int32}   : gC l D cy b yX11_nameLetter cX11_nameLetter 3 (some .int) 4 0 0 [.int x, .int y] f (pI fun r f2 => r = nlF x y ∧ f2 = f) := by
  refine gC_of (by decide) (Nat.le_of_ble_eq_true rfl) ?_
  show gG l _ _ _ D cy b cX11_nameLetter 3 _ RX11 "nameLetter" 0 0 f 0 [(0, .int x), (1, .int y)] []
  refine gz_iload_n dX11_nameLetter_0 rfl rfl ?_
  refine gz_if_lt (tgt := 20) dX11_nameLetter_1 (by decide) (fun c_1 => ?_) (fun c_1 => ?_)
  ·
    refine gz_bipush (v := 32) dX11_nameLetter_20 (by decide) ?_
    exact gz_iret rfl dX11_nameLetter_22 (Nat.le_of_ble_eq_true rfl) (Nat.le_of_ble_eq_true rfl) (⟨_, rfl, (show _ = _ from Eq.symm (by unfold nlF; rw [if_pos c_1])), rfl⟩)
  ·
    refine gz_iload_n dX11_nameLetter_4 rfl rfl ?_
    refine gz_bipush (v := 11) dX11_nameLetter_5 (by decide) ?_
    refine gz_icmp_ge (tgt := 20) dX11_nameLetter_7 (by decide) (fun c_7 => ?_) (fun c_7 => ?_)
    ·
      refine gz_bipush (v := 32) dX11_nameLetter_20 (by decide) ?_
      exact gz_iret rfl dX11_nameLetter_22 (Nat.le_of_ble_eq_true rfl) (Nat.le_of_ble_eq_true rfl) (⟨_, rfl, (show _ = _ from Eq.symm (by unfold nlF; rw [if_neg c_1, if_pos c_7])), rfl⟩)
    ·
      refine gz_iload_n dX11_nameLetter_10 rfl rfl ?_
      refine gz_if_lt (tgt := 20) dX11_nameLetter_11 (by decide) (fun c_11 => ?_) (fun c_11 => ?_)
      ·
        refine gz_bipush (v := 32) dX11_nameLetter_20 (by decide) ?_
        exact gz_iret rfl dX11_nameLetter_22 (Nat.le_of_ble_eq_true rfl) (Nat.le_of_ble_eq_true rfl) (⟨_, rfl, (show _ = _ from Eq.symm (by unfold nlF; rw [if_neg c_1, if_neg c_7, if_pos c_11])), rfl⟩)
      ·
        refine gz_iload_n dX11_nameLetter_14 rfl rfl ?_
        refine gz_bipush (v := 8) dX11_nameLetter_15 (by decide) ?_
        refine gz_icmp_lt (tgt := 23) dX11_nameLetter_17 (by decide) (fun c_17 => ?_) (fun c_17 => ?_)
        ·
          refine gz_iload_n dX11_nameLetter_23 rfl rfl ?_
          refine gz_bipush (v := 8) dX11_nameLetter_24 (by decide) ?_
          refine gz_imul dX11_nameLetter_26 ?_
          refine gz_iload_n dX11_nameLetter_27 rfl rfl ?_
          refine gz_iadd dX11_nameLetter_28 ?_
          refine gz_istore_n (lv' := [(2, .int ((x * 8) + y)), (0, .int x), (1, .int y)]) dX11_nameLetter_29 rfl (by decide) rfl ?_
          refine gz_iload_n dX11_nameLetter_30 rfl rfl ?_
          refine gz_ldcS rfl dX11_nameLetter_31 (fun q1 => ?_)
          refine gz_callVS (n := 0) (k_slen (q := q1)) gEok_str (fun U h => h) (fun U h => by obtain ⟨t, h1, -⟩ := h; exact h1) ws_27 ⟨ws_24, ws_25, ws_26, ws_6⟩ ⟨rfl, by decide, by decide, by decide +kernel⟩ ⟨(Nat.le_of_ble_eq_true rfl), (Nat.le_of_ble_eq_true rfl)⟩ ⟨(Nat.le_of_ble_eq_true rfl), (Nat.le_of_ble_eq_true rfl)⟩ rfl rfl (Nat.le_of_ble_eq_true rfl) dX11_nameLetter_33 ?_
          rintro kk nn r f1 ⟨rfl, rfl, rfl, rfl⟩
          refine gz_icmp_ge (tgt := 48) dX11_nameLetter_36 (by decide) (fun c_36 => ?_) (fun c_36 => ?_)
          · exfalso; have e13 : (13 : Int32).toInt = 13 := rfl; have e0 : (0 : Int32).toInt = 0 := rfl; have e2 : (2 : Int32).toInt = 2 := rfl; have e1 : (1 : Int32).toInt = 1 := rfl; have e6 : (6 : Int32).toInt = 6 := rfl; have em2 : (-2 : Int32).toInt = -2 := rfl; have e8 : (8 : Int32).toInt = 8 := rfl; have e11 : (11 : Int32).toInt = 11 := rfl; have e88 : (88 : Int32).toInt = 88 := rfl; simp only [fl_lt, fl_le] at c_1 c_7 c_11 c_17; have hx := T_add (T_mul (rfl : x.toInt = x.toInt) e8 (by omega)) (rfl : y.toInt = y.toInt) (by omega); simp only [fl_le] at c_36; rw [hx] at c_36; omega
          ·
            refine gz_ldcS rfl dX11_nameLetter_39 (fun q2 => ?_)
            refine gz_iload_n dX11_nameLetter_41 rfl rfl ?_
            refine gz_callVS (n := 1) (k_schar (q := q2) (i := ((x * 8) + y)) (by have e13 : (13 : Int32).toInt = 13 := rfl; have e0 : (0 : Int32).toInt = 0 := rfl; have e2 : (2 : Int32).toInt = 2 := rfl; have e1 : (1 : Int32).toInt = 1 := rfl; have e6 : (6 : Int32).toInt = 6 := rfl; have em2 : (-2 : Int32).toInt = -2 := rfl; have e8 : (8 : Int32).toInt = 8 := rfl; have e11 : (11 : Int32).toInt = 11 := rfl; have e88 : (88 : Int32).toInt = 88 := rfl; simp only [fl_lt, fl_le] at c_1 c_7 c_11 c_17; have hx := T_add (T_mul (rfl : x.toInt = x.toInt) e8 (by omega)) (rfl : y.toInt = y.toInt) (by omega); rw [fl_lt, hx]; omega) (by have e13 : (13 : Int32).toInt = 13 := rfl; have e0 : (0 : Int32).toInt = 0 := rfl; have e2 : (2 : Int32).toInt = 2 := rfl; have e1 : (1 : Int32).toInt = 1 := rfl; have e6 : (6 : Int32).toInt = 6 := rfl; have em2 : (-2 : Int32).toInt = -2 := rfl; have e8 : (8 : Int32).toInt = 8 := rfl; have e11 : (11 : Int32).toInt = 11 := rfl; have e88 : (88 : Int32).toInt = 88 := rfl; simp only [fl_lt, fl_le] at c_1 c_7 c_11 c_17; have hx := T_add (T_mul (rfl : x.toInt = x.toInt) e8 (by omega)) (rfl : y.toInt = y.toInt) (by omega); rw [fl_lt, hx]; omega) (by have e13 : (13 : Int32).toInt = 13 := rfl; have e0 : (0 : Int32).toInt = 0 := rfl; have e2 : (2 : Int32).toInt = 2 := rfl; have e1 : (1 : Int32).toInt = 1 := rfl; have e6 : (6 : Int32).toInt = 6 := rfl; have em2 : (-2 : Int32).toInt = -2 := rfl; have e8 : (8 : Int32).toInt = 8 := rfl; have e11 : (11 : Int32).toInt = 11 := rfl; have e88 : (88 : Int32).toInt = 88 := rfl; simp only [fl_lt, fl_le] at c_1 c_7 c_11 c_17; have hx := T_add (T_mul (rfl : x.toInt = x.toInt) e8 (by omega)) (rfl : y.toInt = y.toInt) (by omega); exact vin_T hx (by omega) (by omega))) gEok_str (fun U h => h) (fun U h => by obtain ⟨t, h1, -⟩ := h; exact h1) ws_31 ⟨ws_28, ws_29, ws_30, ws_6⟩ ⟨rfl, by decide, by decide, by decide +kernel⟩ ⟨(Nat.le_of_ble_eq_true rfl), (Nat.le_of_ble_eq_true rfl)⟩ ⟨(Nat.le_of_ble_eq_true rfl), (Nat.le_of_ble_eq_true rfl)⟩ rfl rfl (Nat.le_of_ble_eq_true rfl) dX11_nameLetter_42 ?_
            rintro kk nn r f1 ⟨rfl, rfl, rfl, rfl⟩
            refine gz_goto (tgt := 50) dX11_nameLetter_45 (by decide) ?_
            exact gz_iret rfl dX11_nameLetter_50 (Nat.le_of_ble_eq_true rfl) (Nat.le_of_ble_eq_true rfl) (⟨_, rfl, (show _ = _ from Eq.symm (by unfold nlF; rw [if_neg c_1, if_neg c_7, if_neg c_11, if_pos c_17])), rfl⟩)
        ·
          refine gz_bipush (v := 32) dX11_nameLetter_20 (by decide) ?_
          exact gz_iret rfl dX11_nameLetter_22 (Nat.le_of_ble_eq_true rfl) (Nat.le_of_ble_eq_true rfl) (⟨_, rfl, (show _ = _ from Eq.symm (by unfold nlF; rw [if_neg c_1, if_neg c_7, if_neg c_11, if_neg c_17])), rfl⟩)

def isnL (len : Int32) (n : Nat) (tg : Nat → Int32) (kd sa ln : Int32)  : Nat → Int32 → Int32
  | 0, _ => 0
  | k + 1, i => (if ln ≤ (i : Int32) then (if (ln : Int32) ≤ 0 then 0 else (if ((nlF kd ln) : Int32) = 32 then 1 else 0)) else (if ((nlF kd i) : Int32) = (tAt len n tg (sa + i)) then isnL len n tg kd sa ln k (i + 1) else 0))
set_option maxHeartbeats 4000000 in
set_option maxRecDepth 100000 in
theorem l_X6_isNamed {l : Launch} {D : va_G} {cy : Nat → ClassId} {b mc ms : Nat} {f : gMem} {Po : Option Value → gMem → Prop} {rd tx tb p n : Nat} {len pl fa : Int32} {tg : Nat → Int32} {kd sa ln : Int32}  (hrd : f rd = some (.inr (6, [.ref tx, .ref p, .int pl, .int fa]))) (htx : f tx = some (.inr (9, [.ref tb, .int len]))) (htb : f tb = some (.inl (cy 1, n, .inl (tg)))) (hn : n < 2 ^ 31) : ∀ (k : Nat) (i : Int32), (0 ≤ i.toInt ∧ ln.toInt < 8 ∧ 0 < k ∧ (i.toInt < ln.toInt → ln.toInt - i.toInt < (k : Int))) → (Po (some (.int (isnL len n tg kd sa ln k i))) f) → gG l (gRm 5 mc ms) (gQf D b Po mc ms) gTt D cy b cX6_isNamed 5 (some .boolean) RX6 "isNamed" 0 0 f 11 [(4, .int i), (0, .ref rd), (1, .int kd), (2, .int sa), (3, .int ln)] [] := by
  intro k
  induction k with
  | zero =>
    intro i hk hq
    exfalso; omega
  | succ k ih =>
    intro i hk hq
    refine gz_iload dX6_isNamed_11 rfl ?_
    refine gz_iload_n dX6_isNamed_13 rfl rfl ?_
    refine gz_icmp_ge (tgt := 45) dX6_isNamed_14 (by decide) (fun c_14 => ?_) (fun c_14 => ?_)
    ·
      refine gz_iload_n dX6_isNamed_45 rfl rfl ?_
      refine gz_if_le (tgt := 63) dX6_isNamed_46 (by decide) (fun c_46 => ?_) (fun c_46 => ?_)
      ·
        refine gz_iconst (v := 0) dX6_isNamed_63 (by decide) ?_
        exact gz_zret rfl (by first | decide | exact nrb (Or.inl rfl) | (refine nrb ?_; (repeat' split) <;> first | assumption | exact Or.inl rfl | exact Or.inr rfl)) dX6_isNamed_64 (Nat.zero_le _) (Nat.zero_le _) ((by rw [isnL, if_pos c_14, if_pos c_46] at hq; exact hq))
      ·
        refine gz_iload_n dX6_isNamed_49 rfl rfl ?_
        refine gz_iload_n dX6_isNamed_50 rfl rfl ?_
        refine scX6_58 (k_X11_nameLetter (x := kd) (y := ln)) ⟨(Nat.le_of_ble_eq_true rfl), (Nat.le_of_ble_eq_true rfl)⟩ ⟨(Nat.zero_le _), (Nat.zero_le _)⟩ rfl rfl (Nat.le_of_ble_eq_true rfl) dX6_isNamed_51 ?_
        intro v9 f9 z9; rw [z9.1, z9.2]
        refine gz_bipush (v := 32) dX6_isNamed_54 (by decide) ?_
        refine gz_icmp_ne (tgt := 63) dX6_isNamed_56 (by decide) (fun c_56 => ?_) (fun c_56 => ?_)
        ·
          refine gz_iconst (v := 0) dX6_isNamed_63 (by decide) ?_
          exact gz_zret rfl (by first | decide | exact nrb (Or.inl rfl) | (refine nrb ?_; (repeat' split) <;> first | assumption | exact Or.inl rfl | exact Or.inr rfl)) dX6_isNamed_64 (Nat.zero_le _) (Nat.zero_le _) ((by rw [isnL, if_pos c_14, if_neg c_46, if_neg c_56] at hq; exact hq))
        ·
          refine gz_iconst (v := 1) dX6_isNamed_59 (by decide) ?_
          refine gz_goto (tgt := 64) dX6_isNamed_60 (by decide) ?_
          exact gz_zret rfl (by first | decide | exact nrb (Or.inl rfl) | (refine nrb ?_; (repeat' split) <;> first | assumption | exact Or.inl rfl | exact Or.inr rfl)) dX6_isNamed_64 (Nat.zero_le _) (Nat.zero_le _) ((by rw [isnL, if_pos c_14, if_neg c_46, if_pos c_56] at hq; exact hq))
    ·
      refine gz_iload_n dX6_isNamed_17 rfl rfl ?_
      refine gz_iload dX6_isNamed_18 rfl ?_
      refine scX6_58 (k_X11_nameLetter (x := kd) (y := i)) ⟨(Nat.le_of_ble_eq_true rfl), (Nat.le_of_ble_eq_true rfl)⟩ ⟨(Nat.zero_le _), (Nat.zero_le _)⟩ rfl rfl (Nat.le_of_ble_eq_true rfl) dX6_isNamed_20 ?_
      intro v9 f9 z9; rw [z9.1, z9.2]
      refine gz_aload_n dX6_isNamed_23 rfl rfl ?_
      refine sgX6_9 hrd rfl dX6_isNamed_24 ?_
      refine gz_iload_n dX6_isNamed_27 rfl rfl ?_
      refine gz_iload dX6_isNamed_28 rfl ?_
      refine gz_iadd dX6_isNamed_30 ?_
      refine scX6_48 (k_X9_at (i := (sa + i)) htx htb hn) htx ⟨(Nat.le_of_ble_eq_true rfl), (Nat.le_of_ble_eq_true rfl)⟩ ⟨(Nat.zero_le _), (Nat.zero_le _)⟩ rfl rfl (Nat.le_of_ble_eq_true rfl) dX6_isNamed_31 ?_
      intro v9 f9 z9; rw [z9.1, z9.2]
      refine gz_icmp_eq (tgt := 39) dX6_isNamed_34 (by decide) (fun c_34 => ?_) (fun c_34 => ?_)
      ·
        refine gz_iinc (v := (i + 1)) (lv' := [(4, .int (i + 1)), (0, .ref rd), (1, .int kd), (2, .int sa), (3, .int ln)]) dX6_isNamed_39 rfl rfl (by decide) rfl ?_
        refine gz_goto (tgt := 11) dX6_isNamed_42 (by decide) ?_
        refine gz_sub (lv' := [(4, .int (i + 1)), (0, .ref rd), (1, .int kd), (2, .int sa), (3, .int ln)]) (by simp [List.lookup]) ?_
        exact ih (i + 1) (by have e13 : (13 : Int32).toInt = 13 := rfl; have e0 : (0 : Int32).toInt = 0 := rfl; have e2 : (2 : Int32).toInt = 2 := rfl; have e1 : (1 : Int32).toInt = 1 := rfl; have e6 : (6 : Int32).toInt = 6 := rfl; have em2 : (-2 : Int32).toInt = -2 := rfl; have e8 : (8 : Int32).toInt = 8 := rfl; have e11 : (11 : Int32).toInt = 11 := rfl; have e88 : (88 : Int32).toInt = 88 := rfl; simp only [fl_le] at c_14; have hx := T_add (rfl : i.toInt = i.toInt) e1 (by omega); omega) (by rw [isnL, if_neg c_14, if_pos c_34] at hq; exact hq)
      ·
        refine gz_iconst (v := 0) dX6_isNamed_37 (by decide) ?_
        exact gz_zret rfl (by first | decide | exact nrb (Or.inl rfl) | (refine nrb ?_; (repeat' split) <;> first | assumption | exact Or.inl rfl | exact Or.inr rfl)) dX6_isNamed_38 (Nat.zero_le _) (Nat.zero_le _) ((by rw [isnL, if_neg c_14, if_neg c_34] at hq; exact hq))

def isnF (len : Int32) (n : Nat) (tg : Nat → Int32) (kd sa ln : Int32) : Int32 := (if (ln : Int32) < 8 then (isnL len n tg kd sa ln 9 0) else 0)
set_option maxHeartbeats 4000000 in
set_option maxRecDepth 100000 in
theorem k_X6_isNamed {l : Launch} {D : va_G} {cy : Nat → ClassId} {b : Nat} {f : gMem} {rd tx tb p n : Nat} {len pl fa : Int32} {tg : Nat → Int32} {kd sa ln : Int32} (hrd : f rd = some (.inr (6, [.ref tx, .ref p, .int pl, .int fa]))) (htx : f tx = some (.inr (9, [.ref tb, .int len]))) (htb : f tb = some (.inl (cy 1, n, .inl (tg)))) (hn : n < 2 ^ 31) : gC l D cy b yX6_isNamed cX6_isNamed 5 (some .boolean) 5 0 0 [.ref rd, .int kd, .int sa, .int ln] f (pI fun r f2 => r = isnF len n tg kd sa ln ∧ f2 = f) := by
  refine gC_of (by decide) (Nat.le_of_ble_eq_true rfl) ?_
  show gG l _ _ _ D cy b cX6_isNamed 5 _ RX6 "isNamed" 0 0 f 0 [(0, .ref rd), (1, .int kd), (2, .int sa), (3, .int ln)] []
  refine gz_iload_n dX6_isNamed_0 rfl rfl ?_
  refine gz_bipush (v := 8) dX6_isNamed_1 (by decide) ?_
  refine gz_icmp_lt (tgt := 8) dX6_isNamed_3 (by decide) (fun c_3 => ?_) (fun c_3 => ?_)
  ·
    refine gz_iconst (v := 0) dX6_isNamed_8 (by decide) ?_
    refine gz_istore (lv' := [(4, .int 0), (0, .ref rd), (1, .int kd), (2, .int sa), (3, .int ln)]) dX6_isNamed_9 (by decide) rfl ?_
    refine gz_sub (lv' := [(4, .int 0), (0, .ref rd), (1, .int kd), (2, .int sa), (3, .int ln)]) (by simp [List.lookup]) ?_
    exact l_X6_isNamed hrd htx htb hn 9 0 (by have e13 : (13 : Int32).toInt = 13 := rfl; have e0 : (0 : Int32).toInt = 0 := rfl; have e2 : (2 : Int32).toInt = 2 := rfl; have e1 : (1 : Int32).toInt = 1 := rfl; have e6 : (6 : Int32).toInt = 6 := rfl; have em2 : (-2 : Int32).toInt = -2 := rfl; have e8 : (8 : Int32).toInt = 8 := rfl; have e11 : (11 : Int32).toInt = 11 := rfl; have e88 : (88 : Int32).toInt = 88 := rfl; simp only [fl_lt] at c_3; omega) ⟨_, rfl, (show _ = _ from Eq.symm (by unfold isnF; rw [if_pos c_3])), rfl⟩
  ·
    refine gz_iconst (v := 0) dX6_isNamed_6 (by decide) ?_
    exact gz_zret rfl (by first | decide | exact nrb (Or.inl rfl) | (refine nrb ?_; (repeat' split) <;> first | assumption | exact Or.inl rfl | exact Or.inr rfl)) dX6_isNamed_7 (Nat.le_of_ble_eq_true rfl) (Nat.le_of_ble_eq_true rfl) (⟨_, rfl, (show _ = _ from Eq.symm (by unfold isnF; rw [if_neg c_3])), rfl⟩)

def kdfL (len : Int32) (n : Nat) (tg : Nat → Int32) (sa ln : Int32)  : Nat → Int32 → Int32
  | 0, _ => 0
  | k + 1, kd => (if 11 ≤ (kd : Int32) then (-1) else (if ((isnF len n tg kd sa ln) : Int32) = 0 then kdfL len n tg sa ln k (kd + 1) else kd))
set_option maxHeartbeats 4000000 in
set_option maxRecDepth 100000 in
theorem l_X6_kindFrom {l : Launch} {D : va_G} {cy : Nat → ClassId} {b mc ms : Nat} {f : gMem} {Po : Option Value → gMem → Prop} {rd tx tb p n : Nat} {len pl fa : Int32} {tg : Nat → Int32} {sa ln : Int32}  (hrd : f rd = some (.inr (6, [.ref tx, .ref p, .int pl, .int fa]))) (htx : f tx = some (.inr (9, [.ref tb, .int len]))) (htb : f tb = some (.inl (cy 1, n, .inl (tg)))) (hn : n < 2 ^ 31) : ∀ (k : Nat) (kd : Int32), (0 ≤ kd.toInt ∧ kd.toInt ≤ 11 ∧ kd.toInt + (k : Int) = 12) → (Po (some (.int (kdfL len n tg sa ln k kd))) f) → gG l (gRm 6 mc ms) (gQf D b Po mc ms) gTt D cy b cX6_kindFrom 4 (some .int) RX6 "kindFrom" 0 0 f 2 [(3, .int kd), (0, .ref rd), (1, .int sa), (2, .int ln)] [] := by
  intro k
  induction k with
  | zero =>
    intro kd hk hq
    exfalso; omega
  | succ k ih =>
    intro kd hk hq
    refine gz_iload_n dX6_kindFrom_2 rfl rfl ?_
    refine gz_bipush (v := 11) dX6_kindFrom_3 (by decide) ?_
    refine gz_icmp_ge (tgt := 26) dX6_kindFrom_5 (by decide) (fun c_5 => ?_) (fun c_5 => ?_)
    ·
      refine gz_iconst (v := (-1)) dX6_kindFrom_26 (by decide) ?_
      exact gz_iret rfl dX6_kindFrom_27 (Nat.zero_le _) (Nat.zero_le _) ((by rw [kdfL, if_pos c_5] at hq; exact hq))
    ·
      refine gz_aload_n dX6_kindFrom_8 rfl rfl ?_
      refine gz_iload_n dX6_kindFrom_9 rfl rfl ?_
      refine gz_iload_n dX6_kindFrom_10 rfl rfl ?_
      refine gz_iload_n dX6_kindFrom_11 rfl rfl ?_
      refine scX6_61 (k_X6_isNamed (kd := kd) (sa := sa) (ln := ln) hrd htx htb hn) hrd ⟨(Nat.le_of_ble_eq_true rfl), (Nat.le_of_ble_eq_true rfl)⟩ ⟨(Nat.zero_le _), (Nat.zero_le _)⟩ rfl rfl (Nat.le_of_ble_eq_true rfl) dX6_kindFrom_12 ?_
      intro v9 f9 z9; rw [z9.1, z9.2]
      refine gz_if_eq (tgt := 20) dX6_kindFrom_15 (by decide) (fun c_15 => ?_) (fun c_15 => ?_)
      ·
        refine gz_iinc (v := (kd + 1)) (lv' := [(3, .int (kd + 1)), (0, .ref rd), (1, .int sa), (2, .int ln)]) dX6_kindFrom_20 rfl rfl (by decide) rfl ?_
        refine gz_goto (tgt := 2) dX6_kindFrom_23 (by decide) ?_
        refine gz_sub (lv' := [(3, .int (kd + 1)), (0, .ref rd), (1, .int sa), (2, .int ln)]) (by simp [List.lookup]) ?_
        exact ih (kd + 1) (by have e13 : (13 : Int32).toInt = 13 := rfl; have e0 : (0 : Int32).toInt = 0 := rfl; have e2 : (2 : Int32).toInt = 2 := rfl; have e1 : (1 : Int32).toInt = 1 := rfl; have e6 : (6 : Int32).toInt = 6 := rfl; have em2 : (-2 : Int32).toInt = -2 := rfl; have e8 : (8 : Int32).toInt = 8 := rfl; have e11 : (11 : Int32).toInt = 11 := rfl; have e88 : (88 : Int32).toInt = 88 := rfl; simp only [fl_le] at c_5; have hx := T_add (rfl : kd.toInt = kd.toInt) e1 (by omega); omega) (by rw [kdfL, if_neg c_5, if_pos c_15] at hq; exact hq)
      ·
        refine gz_iload_n dX6_kindFrom_18 rfl rfl ?_
        exact gz_iret rfl dX6_kindFrom_19 (Nat.zero_le _) (Nat.zero_le _) ((by rw [kdfL, if_neg c_5, if_neg c_15] at hq; exact hq))

def kdfF (len : Int32) (n : Nat) (tg : Nat → Int32) (sa ln : Int32) : Int32 := (kdfL len n tg sa ln 12 0)
set_option maxHeartbeats 4000000 in
set_option maxRecDepth 100000 in
theorem k_X6_kindFrom {l : Launch} {D : va_G} {cy : Nat → ClassId} {b : Nat} {f : gMem} {rd tx tb p n : Nat} {len pl fa : Int32} {tg : Nat → Int32} {sa ln : Int32} (hrd : f rd = some (.inr (6, [.ref tx, .ref p, .int pl, .int fa]))) (htx : f tx = some (.inr (9, [.ref tb, .int len]))) (htb : f tb = some (.inl (cy 1, n, .inl (tg)))) (hn : n < 2 ^ 31) : gC l D cy b yX6_kindFrom cX6_kindFrom 4 (some .int) 6 0 0 [.ref rd, .int sa, .int ln] f (pI fun r f2 => r = kdfF len n tg sa ln ∧ f2 = f) := by
  refine gC_of (by decide) (Nat.le_of_ble_eq_true rfl) ?_
  show gG l _ _ _ D cy b cX6_kindFrom 4 _ RX6 "kindFrom" 0 0 f 0 [(0, .ref rd), (1, .int sa), (2, .int ln)] []
  refine gz_iconst (v := 0) dX6_kindFrom_0 (by decide) ?_
  refine gz_istore_n (lv' := [(3, .int 0), (0, .ref rd), (1, .int sa), (2, .int ln)]) dX6_kindFrom_1 rfl (by decide) rfl ?_
  refine gz_sub (lv' := [(3, .int 0), (0, .ref rd), (1, .int sa), (2, .int ln)]) (by simp [List.lookup]) ?_
  exact l_X6_kindFrom hrd htx htb hn 12 0 ⟨by decide, by decide, by decide⟩ ⟨_, rfl, rfl, rfl⟩

def wnmL (n : Nat) (x : Int32) : Nat → (Int32) → (Int32) → (Nat → Int32) → (Int32) × (Nat → Int32)
  | 0, _, ln, og => (ln, og)
  | k + 1, i, ln, og => (if 8 ≤ (i : Int32) then (ln, (og)) else (if ((nlF x i) : Int32) = 32 then (ln, (og)) else (wnmL n x k (i + 1) (tpL ln n) ((tpG ln n og (nlF x i))))))
set_option maxHeartbeats 4000000 in
set_option maxRecDepth 100000 in
theorem l_X8_writeName {l : Launch} {D : va_G} {cy : Nat → ClassId} {b mc ms : Nat} {f : gMem} {Po : Option Value → gMem → Prop} {te ot ob n : Nat}   {x : Int32}  (hn : n < 2 ^ 31) : ∀ (k : Nat) (i : Int32) (ln : Int32) (og : Nat → Int32) (fm : gMem), fr [ot, ob] f fm → (fm te = some (.inr (8, [.ref ot]))) → (fm ot = some (.inr (9, [.ref ob, .int ln]))) → (fm ob = some (.inl (cy 1, n, .inl (og)))) → (0 ≤ i.toInt ∧ i.toInt ≤ 8 ∧ i.toInt + (k : Int) = 9) → (∀ (f2 : gMem), f2 ot = some (.inr (9, [.ref ob, .int (wnmL n x k i ln og).1])) → f2 ob = some (.inl (cy 1, n, .inl ((wnmL n x k i ln og).2))) → fr [ot, ob] f f2 → Po none f2) → gG l (gRm 5 mc ms) (gQf D b Po mc ms) gTt D cy b cX8_writeName 3 none RX8 "writeName" 0 0 fm 6 [(2, .int i), (0, .ref te), (1, .int x)] [] := by
  intro k
  induction k with
  | zero =>
    intro i ln og fm hfr hte hot hob hk hq
    exfalso; omega
  | succ k ih =>
    intro i ln og fm hfr hte hot hob hk hq
    refine gz_iload_n dX8_writeName_6 rfl rfl ?_
    refine gz_bipush (v := 8) dX8_writeName_7 (by decide) ?_
    refine gz_icmp_ge (tgt := 40) dX8_writeName_9 (by decide) (fun c_9 => ?_) (fun c_9 => ?_)
    ·
      exact gz_vret rfl dX8_writeName_40 (Nat.zero_le _) (Nat.zero_le _) ((by rw [wnmL, if_pos c_9] at hq; exact hq _ hot hob hfr))
    ·
      refine gz_iload_n dX8_writeName_12 rfl rfl ?_
      refine gz_iload_n dX8_writeName_13 rfl rfl ?_
      refine scX8_82 (k_X11_nameLetter (x := x) (y := i)) ⟨(Nat.le_of_ble_eq_true rfl), (Nat.le_of_ble_eq_true rfl)⟩ ⟨(Nat.zero_le _), (Nat.zero_le _)⟩ rfl rfl (Nat.le_of_ble_eq_true rfl) dX8_writeName_14 ?_
      intro v9 f9 z9; rw [z9.1, z9.2]
      refine gz_bipush (v := 32) dX8_writeName_17 (by decide) ?_
      refine gz_icmp_eq (tgt := 40) dX8_writeName_19 (by decide) (fun c_19 => ?_) (fun c_19 => ?_)
      ·
        exact gz_vret rfl dX8_writeName_40 (Nat.zero_le _) (Nat.zero_le _) ((by rw [wnmL, if_neg c_9, if_pos c_19] at hq; exact hq _ hot hob hfr))
      ·
        refine gz_aload_n dX8_writeName_22 rfl rfl ?_
        refine sgX8_9 hte rfl dX8_writeName_23 ?_
        refine gz_iload_n dX8_writeName_26 rfl rfl ?_
        refine gz_iload_n dX8_writeName_27 rfl rfl ?_
        refine scX8_82 (k_X11_nameLetter (x := x) (y := i)) ⟨(Nat.le_of_ble_eq_true rfl), (Nat.le_of_ble_eq_true rfl)⟩ ⟨(Nat.zero_le _), (Nat.zero_le _)⟩ rfl rfl (Nat.le_of_ble_eq_true rfl) dX8_writeName_28 ?_
        intro v9 f9 z9; rw [z9.1, z9.2]
        refine scX8_41 (k_X9_put (x := (nlF x i)) hot hob hn) hot ⟨(Nat.le_of_ble_eq_true rfl), (Nat.le_of_ble_eq_true rfl)⟩ ⟨(Nat.zero_le _), (Nat.zero_le _)⟩ rfl rfl (Nat.le_of_ble_eq_true rfl) dX8_writeName_31 ?_
        rintro f1 ⟨hot_1, hob_1, hr1⟩
        have hte_1 : f1 te = some (.inr (8, [.ref ot])) := hr1 _ _ hte (by simp only [List.mem_cons, List.not_mem_nil, or_false, not_or]; exact ⟨cne hte hot (by simp), cne hte hob (by simp)⟩)
        refine gz_iinc (v := (i + 1)) (lv' := [(2, .int (i + 1)), (0, .ref te), (1, .int x)]) dX8_writeName_34 rfl rfl (by decide) rfl ?_
        refine gz_goto (tgt := 6) dX8_writeName_37 (by decide) ?_
        refine gz_sub (lv' := [(2, .int (i + 1)), (0, .ref te), (1, .int x)]) (by simp [List.lookup]) ?_
        exact ih (i + 1) (tpL ln n) ((tpG ln n og (nlF x i))) _ (fr_tr hfr (fr_mo hr1 (by simp))) hte_1 hot_1 hob_1 (by have e13 : (13 : Int32).toInt = 13 := rfl; have e0 : (0 : Int32).toInt = 0 := rfl; have e2 : (2 : Int32).toInt = 2 := rfl; have e1 : (1 : Int32).toInt = 1 := rfl; have e6 : (6 : Int32).toInt = 6 := rfl; have em2 : (-2 : Int32).toInt = -2 := rfl; have e8 : (8 : Int32).toInt = 8 := rfl; have e11 : (11 : Int32).toInt = 11 := rfl; have e88 : (88 : Int32).toInt = 88 := rfl; simp only [fl_le] at c_9; have hx := T_add (rfl : i.toInt = i.toInt) e1 (by omega); omega) (by rw [wnmL, if_neg c_9, if_neg c_19] at hq; exact hq)

def wnmF (n : Nat) (ln : Int32) (og : Nat → Int32) (x : Int32) : (Int32) × (Nat → Int32) := (lett (gapF n ln og) fun x1 => (wnmL n x 9 0 x1.1 (x1.2)))
set_option maxHeartbeats 4000000 in
set_option maxRecDepth 100000 in
theorem k_X8_writeName {l : Launch} {D : va_G} {cy : Nat → ClassId} {b : Nat} {f : gMem} {te ot ob n : Nat} {ln : Int32} {og : Nat → Int32} {x : Int32} (hte : f te = some (.inr (8, [.ref ot]))) (hot : f ot = some (.inr (9, [.ref ob, .int ln]))) (hob : f ob = some (.inl (cy 1, n, .inl (og)))) (hn : n < 2 ^ 31) : gC l D cy b yX8_writeName cX8_writeName 3 none 5 0 0 [.ref te, .int x] f (pV fun f2 => f2 ot = some (.inr (9, [.ref ob, .int (wnmF n ln og x).1])) ∧ f2 ob = some (.inl (cy 1, n, .inl ((wnmF n ln og x).2))) ∧ fr [ot, ob] f f2) := by
  refine gC_of (by decide) (Nat.le_of_ble_eq_true rfl) ?_
  show gG l _ _ _ D cy b cX8_writeName 3 _ RX8 "writeName" 0 0 f 0 [(0, .ref te), (1, .int x)] []
  refine gz_aload_n dX8_writeName_0 rfl rfl ?_
  obtain ⟨x1, hx1⟩ : ∃ x0, (gapF n ln og) = x0 := ⟨_, rfl⟩
  refine scX8_50 (k_X8_gap hte hot hob hn) hte ⟨(Nat.le_of_ble_eq_true rfl), (Nat.le_of_ble_eq_true rfl)⟩ ⟨(Nat.le_of_ble_eq_true rfl), (Nat.le_of_ble_eq_true rfl)⟩ rfl rfl (Nat.le_of_ble_eq_true rfl) dX8_writeName_1 ?_
  rintro f1 ⟨hot_1, hob_1, hr1⟩; rw [hx1] at hot_1 hob_1
  have hte_1 : f1 te = some (.inr (8, [.ref ot])) := hr1 _ _ hte (by simp only [List.mem_cons, List.not_mem_nil, or_false, not_or]; exact ⟨cne hte hot (by simp), cne hte hob (by simp)⟩)
  refine gz_iconst (v := 0) dX8_writeName_4 (by decide) ?_
  refine gz_istore_n (lv' := [(2, .int 0), (0, .ref te), (1, .int x)]) dX8_writeName_5 rfl (by decide) rfl ?_
  exact l_X8_writeName hn 9 0 x1.1 (x1.2) _ (fr_tr fr_rf (fr_mo hr1 (by simp))) hte_1 hot_1 hob_1 (⟨by decide, by decide, by decide⟩) (fun  f2 z0 z1 zf => ⟨rfl, (by rw [(show wnmF n ln og x = _ from (by unfold wnmF; rw [lett_eq hx1]))]; exact z0), (by rw [(show wnmF n ln og x = _ from (by unfold wnmF; rw [lett_eq hx1]))]; exact z1), zf⟩)
