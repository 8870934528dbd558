set_option maxHeartbeats 4000000 in
set_option maxRecDepth 100000 in
theorem lw_loop {l : Launch} {D : va_G} {cy : Nat → ClassId} {b bs L x m : Nat} {a : Nat → Nat} {xs : Nat → Int32} {nm : String} (hL : L ≤ 3072) : ∀ (k : Nat) (i : Int32) (t cells slots : Nat) (f : gMem), lwI cy x m a t cells slots f → i.toInt = 6 * (t : Int) → t ≤ 512 ∧ 513 ≤ t + k → gG l room_1 lwQf (lwEx bs L b xs) D cy b code 4 ret RL nm cells slots f 18 [(3, .int i), (2, .ref m), (1, .ref x), (0, .ref bs)] [] := by
  intro k
  induction k with
  | zero =>
    intro i t cells slots f hI hi ht
    exfalso; omega
  | succ k ih =>
    intro i t cells slots f hI hi ht
    have hrm := lwI_room hI (by omega)
    refine gz_iload_n dL_law_18 rfl rfl ?_
    refine gz_aload_n dL_law_19 rfl rfl ?_
    refine lz_slen dL_law_20 ?_
    refine gz_bipush (v := 6) dL_law_21 (by decide) ?_
    refine gz_isub dL_law_23 ?_
    have e6 : (6 : Int32).toInt = 6 := rfl
    have eL : (Int32.ofNat L).toInt = L := ofN_toInt (by omega)
    have eS : ((Int32.ofNat L) - 6).toInt = (L : Int) - 6 := by rw [subT (by omega) (by omega)]; omega
    refine gz_icmp_gt (tgt := 1090) dL_law_24 (by decide) (fun c_24 => ?_) (fun c_24 => ?_)
    · refine gz_iconst (v := 1) dL_law_1090 (by decide) ?_
      exact lz_ret dL_law_1091 (by omega) (by omega)
    ·
      have hl6 : 6 * t + 6 ≤ L := by rw [fl_lt] at c_24; omega
      have hback : ∀ (cells2 slots2 : Nat) (f2 : gMem), lwI cy x m a (t + 1) cells2 slots2 f2 → gG l room_1 lwQf (lwEx bs L b xs) D cy b code 4 ret RL nm cells2 slots2 f2 1084 [(3, .int i), (2, .ref m), (1, .ref x), (0, .ref bs)] [] := by
        intro c2 s2 f2 hJ
        refine gz_iinc (v := (i + 6)) (lv' := [(3, .int (i + 6)), (2, .ref m), (1, .ref x), (0, .ref bs)]) dL_law_1084 rfl rfl (by decide) rfl ?_
        refine gz_goto (tgt := 18) dL_law_1087 (by decide) ?_
        refine gz_sub (lv' := [(3, .int (i + 6)), (2, .ref m), (1, .ref x), (0, .ref bs)]) (by simp [List.lookup]) ?_
        exact ih (i + 6) (t + 1) _ _ _ hJ (by have q := T_add hi e6 (by omega); omega) (by omega)
      have hv0 : vp_in i L := vin_T hi (by omega) (by omega)
      refine gz_aload_n dL_law_27 rfl rfl ?_
      refine gz_iload_n dL_law_28 rfl rfl ?_
      refine lz_sld hv0 dL_law_29 ?_
      refine gz_bipush (v := 31) dL_law_30 (by decide) ?_
      refine gz_iand dL_law_32 ?_
      obtain ⟨j, hj, ej⟩ := pk_andE (xs (Int32.toNatClampNeg i)) (m := 31) 5 (by decide)
      refine gz_ev (w := .int (nI j)) (by rw [ej]) ?_
      match j, hj with
      | 0, _ => exact gz_tableIn (x := 0) (off := 127) (tgt := 160) dL_law_33 (by decide) (by decide) rfl (by decide) (lw_case_0 hL ⟨hi, hl6⟩ hI hback)
      | 1, _ => exact gz_tableIn (x := 1) (off := 170) (tgt := 203) dL_law_33 (by decide) (by decide) rfl (by decide) (lw_case_1 hL ⟨hi, hl6⟩ hI hback)
      | 2, _ => exact gz_tableIn (x := 2) (off := 203) (tgt := 236) dL_law_33 (by decide) (by decide) rfl (by decide) (lw_case_2 hL ⟨hi, hl6⟩ hI hback)
      | 3, _ => exact gz_tableIn (x := 3) (off := 266) (tgt := 299) dL_law_33 (by decide) (by decide) rfl (by decide) (lw_case_3 hL ⟨hi, hl6⟩ hI hback)
      | 4, _ => exact gz_tableIn (x := 4) (off := 289) (tgt := 322) dL_law_33 (by decide) (by decide) rfl (by decide) (lw_case_4 hL ⟨hi, hl6⟩ hI hback)
      | 5, _ => exact gz_tableIn (x := 5) (off := 302) (tgt := 335) dL_law_33 (by decide) (by decide) rfl (by decide) (lw_case_5 hL ⟨hi, hl6⟩ hI hback)
      | 6, _ => exact gz_tableIn (x := 6) (off := 345) (tgt := 378) dL_law_33 (by decide) (by decide) rfl (by decide) (lw_case_6 hL ⟨hi, hl6⟩ hI hback)
      | 7, _ => exact gz_tableIn (x := 7) (off := 368) (tgt := 401) dL_law_33 (by decide) (by decide) rfl (by decide) (lw_case_7 hL ⟨hi, hl6⟩ hI hback)
      | 8, _ => exact gz_tableIn (x := 8) (off := 391) (tgt := 424) dL_law_33 (by decide) (by decide) rfl (by decide) (lw_case_8 hL ⟨hi, hl6⟩ hI hback)
      | 9, _ => exact gz_tableIn (x := 9) (off := 424) (tgt := 457) dL_law_33 (by decide) (by decide) rfl (by decide) (lw_case_9 hL ⟨hi, hl6⟩ hI hback)
      | 10, _ => exact gz_tableIn (x := 10) (off := 447) (tgt := 480) dL_law_33 (by decide) (by decide) rfl (by decide) (lw_case_10 hL ⟨hi, hl6⟩ hI hback)
      | 11, _ => exact gz_tableIn (x := 11) (off := 470) (tgt := 503) dL_law_33 (by decide) (by decide) rfl (by decide) (lw_case_11 hL ⟨hi, hl6⟩ hI hback)
      | 12, _ => exact gz_tableIn (x := 12) (off := 513) (tgt := 546) dL_law_33 (by decide) (by decide) rfl (by decide) (lw_case_12 hL ⟨hi, hl6⟩ hI hback)
      | 13, _ => exact gz_tableIn (x := 13) (off := 526) (tgt := 559) dL_law_33 (by decide) (by decide) rfl (by decide) (lw_case_13 hL ⟨hi, hl6⟩ hI hback)
      | 14, _ => exact gz_tableIn (x := 14) (off := 549) (tgt := 582) dL_law_33 (by decide) (by decide) rfl (by decide) (lw_case_14 hL ⟨hi, hl6⟩ hI hback)
      | 15, _ => exact gz_tableIn (x := 15) (off := 592) (tgt := 625) dL_law_33 (by decide) (by decide) rfl (by decide) (lw_case_15 hL ⟨hi, hl6⟩ hI hback)
      | 16, _ => exact gz_tableIn (x := 16) (off := 645) (tgt := 678) dL_law_33 (by decide) (by decide) rfl (by decide) (lw_case_16 hL ⟨hi, hl6⟩ hI hback)
      | 17, _ => exact gz_tableIn (x := 17) (off := 688) (tgt := 721) dL_law_33 (by decide) (by decide) rfl (by decide) (lw_case_17 hL ⟨hi, hl6⟩ hI hback)
      | 18, _ => exact gz_tableIn (x := 18) (off := 721) (tgt := 754) dL_law_33 (by decide) (by decide) rfl (by decide) (lw_case_18 hL ⟨hi, hl6⟩ hI hback)
      | 19, _ => exact gz_tableIn (x := 19) (off := 744) (tgt := 777) dL_law_33 (by decide) (by decide) rfl (by decide) (lw_case_19 hL ⟨hi, hl6⟩ hI hback)
      | 20, _ => exact gz_tableIn (x := 20) (off := 767) (tgt := 800) dL_law_33 (by decide) (by decide) rfl (by decide) (lw_case_20 hL ⟨hi, hl6⟩ hI hback)
      | 21, _ => exact gz_tableIn (x := 21) (off := 800) (tgt := 833) dL_law_33 (by decide) (by decide) rfl (by decide) (lw_case_21 hL ⟨hi, hl6⟩ hI hback)
      | 22, _ => exact gz_tableIn (x := 22) (off := 823) (tgt := 856) dL_law_33 (by decide) (by decide) rfl (by decide) (lw_case_22 hL ⟨hi, hl6⟩ hI hback)
      | 23, _ => exact gz_tableIn (x := 23) (off := 856) (tgt := 889) dL_law_33 (by decide) (by decide) rfl (by decide) (lw_case_23 hL ⟨hi, hl6⟩ hI hback)
      | 24, _ => exact gz_tableIn (x := 24) (off := 899) (tgt := 932) dL_law_33 (by decide) (by decide) rfl (by decide) (lw_case_24 hL ⟨hi, hl6⟩ hI hback)
      | 25, _ => exact gz_tableIn (x := 25) (off := 942) (tgt := 975) dL_law_33 (by decide) (by decide) rfl (by decide) (lw_case_25 hL ⟨hi, hl6⟩ hI hback)
      | 26, _ => exact gz_tableIn (x := 26) (off := 985) (tgt := 1018) dL_law_33 (by decide) (by decide) rfl (by decide) (lw_case_26 hL ⟨hi, hl6⟩ hI hback)
      | 27, _ => exact gz_tableIn (x := 27) (off := 1028) (tgt := 1061) dL_law_33 (by decide) (by decide) rfl (by decide) (lw_case_27 hL ⟨hi, hl6⟩ hI hback)
      | 28, _ => exact gz_tableOut (x := 28) (tgt := 1084) dL_law_33 (by decide) (by decide) (hback _ _ _ (lwI_up hI))
      | 29, _ => exact gz_tableOut (x := 29) (tgt := 1084) dL_law_33 (by decide) (by decide) (hback _ _ _ (lwI_up hI))
      | 30, _ => exact gz_tableOut (x := 30) (tgt := 1084) dL_law_33 (by decide) (by decide) (hback _ _ _ (lwI_up hI))
      | 31, _ => exact gz_tableOut (x := 31) (tgt := 1084) dL_law_33 (by decide) (by decide) (hback _ _ _ (lwI_up hI))
      | j + 32, h => exact absurd h (by omega)

set_option maxHeartbeats 4000000 in
set_option maxRecDepth 100000 in
theorem lw_all {l : Launch} {D : va_G} {cy : Nat → ClassId} {b bs L : Nat} {xs : Nat → Int32} {nm : String} (hL : L ≤ 3072) : gG l room_1 lwQf (lwEx bs L b xs) D cy b code 4 ret RL nm 0 0 (fun _ => none) 0 [(0, .ref bs)] [] := by
  refine snL_7 (Nat.le_of_ble_eq_true rfl) (Nat.le_of_ble_eq_true rfl) dL_law_0 (fun x hxn => ?_)
  refine gz_dup dL_law_3 rfl ?_
  refine gz_gen (fun f1 hf1 => ?_)
  have hx1 : f1 x = some (.inr (11, [.null, .null, .null, .null, .null, .null, .null, .null, .null, .null, .null, .null, .int 0])) := by rw [hf1]; exact va_up_self _ _ _
  refine scL_9 (k_X11_init hx1) ⟨(Nat.le_of_ble_eq_true rfl), (Nat.le_of_ble_eq_true rfl)⟩ ⟨(Nat.le_of_ble_eq_true rfl), (Nat.le_of_ble_eq_true rfl)⟩ rfl rfl (Nat.le_of_ble_eq_true rfl) dL_law_4 ?_
  rintro f2 ⟨q1, q2, q3, q4, q5, q6, q7, q8, q9, q10, q11, q12, q13, q14, q15, q16, q17, q18, q19, q20, q21, q22, q23, q24, q25, q26, q27, q28, q29, q30, q31, q32, q33, q34, q35, q36, q37, q38, q39, q40, q41, q42, q43, q44, q45, q46, q47, q48, q49, hC⟩
  obtain ⟨own, hI2, hown⟩ := xI_init hC
  refine gz_astore_n (lv' := [(1, .ref x), (0, .ref bs)]) dL_law_7 rfl (by decide) rfl ?_
  refine snL_10 (Nat.le_of_ble_eq_true rfl) (Nat.le_of_ble_eq_true rfl) dL_law_8 (fun m hmn => ?_)
  refine gz_dup dL_law_11 rfl ?_
  refine gz_gen (fun f3 hf3 => ?_)
  have hm3 : f3 m = some (.inr (12, mFo (fun _ => none) (fun _ => 0) (fun _ => 0))) := by rw [hf3]; exact va_up_self _ _ _
  have h0 : own m = 0 := hown m (Or.inr hmn)
  have hI3 := xI_kp (T := fun k => k = 0) (f2 := f3) hI2 ⟨fun _ _ _ => rfl, fun q e hq _ => by rw [hf3, va_up_ne _ _ (cnn hq hmn)]; exact hq⟩ (fun k hk e => by omega)
  refine scL_12 (k_X12_initL hm3) ⟨(Nat.le_of_ble_eq_true rfl), (Nat.le_of_ble_eq_true rfl)⟩ ⟨(Nat.le_of_ble_eq_true rfl), (Nat.le_of_ble_eq_true rfl)⟩ rfl rfl (Nat.le_of_ble_eq_true rfl) dL_law_12 ?_
  rintro f4 ⟨a, n, z, F, G, hS, ha3, hF2, hF, hn, h53, hG⟩
  have ha : ∀ k, mTy k ≠ 0 → own (a k) = 0 := fun k hk => by
    have h9 := ha3 k hk
    rw [hf3, va_up_ne _ _ (hS.2.2.1.2 k hk)] at h9
    exact hown _ (Or.inr h9)
  have hI4 := xI_mS hI3 hS h0 ha
  obtain ⟨hR, hN⟩ := RI_init hn h53 hF
  refine gz_astore_n (lv' := [(2, .ref m), (1, .ref x), (0, .ref bs)]) dL_law_15 rfl (by decide) rfl ?_
  refine gz_iconst (v := 0) dL_law_16 (by decide) ?_
  refine gz_istore_n (lv' := [(3, .int 0), (2, .ref m), (1, .ref x), (0, .ref bs)]) dL_law_17 rfl (by decide) rfl ?_
  exact lw_loop hL 513 0 0 _ _ _ ⟨own, _, _, _, _, _, _, _, _, _, _, _, _, _, _, _, _, _, n, z, F, G, hI4, mS_rf hS, hR, hN, ⟨(hn 0 (by decide)).symm, h53.symm, (hn 4 (by decide)).symm, (hn 5 (by decide)).symm, (fun k hk => absurd hk (by rw [hn 4 (by decide)]; show ¬ (k : Int) < 0; omega)), (fun k _ => by rw [hF 3 (by decide) (by decide)]; show -128 ≤ (0 : Int32).toInt ∧ (0 : Int32).toInt ≤ 127; decide), (fun i hi => (hG i hi).1), ⟨fun _ => [], ([], 0, []), ⟨⟨rfl, by decide⟩, ⟨⟨rfl, by decide⟩, rfl, fun i hi => absurd hi (Nat.not_lt_zero _)⟩, (fun _ _ _ _ _ _ _ _ _ q => q.elim), (fun l hl => absurd hl (Nat.not_lt_zero _)), fun k s v g h hk _ => absurd hk (by show ¬ (k : Int) < 0; omega)⟩, (fun k hk => absurd hk (by show ¬ (k : Int) < 0; omega)), ⟨⟨⟨by rw [hn 38 (by decide)]; rfl, by decide⟩, by rw [hn 1 (by decide)]; rfl, fun i hi => absurd hi (Nat.not_lt_zero _)⟩, ⟨by rw [hn 30 (by decide)]; rfl, by decide⟩, (fun l hl => absurd hl (Nat.not_lt_zero _)), fun l _ hl => ⟨by rw [hF 35 (by decide) (by decide)]; rfl, (hG 0 (by decide)).2 l⟩⟩, (fun i hi => by rw [hF2 i hi]; exact ⟨rfl, by decide, by decide⟩), (fun i d hi h1 h2 => by rw [hF2 (400 * i + d) (by omega)]; decide), ⟨rfl, fun i hi => by show (0 : Int32).toInt = (if -10000 < (F 2 (400 * i + 0)).toInt then F 2 (400 * i + 0) else 0).toInt; rw [hF2 (400 * i + 0) (by omega), if_neg (by decide)]⟩⟩⟩, h0, ha, by decide, by decide⟩ rfl (by decide)

theorem gNF_in : ∀ q ∈ gNF, Cond.fieldLinkNest q.1 q.2.1 q.2.2.1 q.2.2.2.1 q.2.2.2.2.1 q.2.2.2.2.2 ∈ lw_tbl := by decide +kernel
theorem gNM_in : ∀ q ∈ gNM, Cond.methodLinkNest q.1 q.2.1 q.2.2.1 q.2.2.2 ∈ lw_tbl := by decide +kernel
theorem gNO_in : ∀ C ∈ gNO, Cond.arrayOver (.object C) ∈ lw_tbl := by decide +kernel
theorem gin_0 : Cond.instantiable RX0 2 ∈ lw_tbl := by decide +kernel
theorem gin_1 : Cond.instantiable RX1 4 ∈ lw_tbl := by decide +kernel
theorem gin_2 : Cond.instantiable RX2 4 ∈ lw_tbl := by decide +kernel
theorem gin_3 : Cond.instantiable RX3 2 ∈ lw_tbl := by decide +kernel
theorem gin_4 : Cond.instantiable RX4 9 ∈ lw_tbl := by decide +kernel
theorem gin_5 : Cond.instantiable RX5 8 ∈ lw_tbl := by decide +kernel
theorem gin_6 : Cond.instantiable RX6 4 ∈ lw_tbl := by decide +kernel
theorem gin_7 : Cond.instantiable RX7 2 ∈ lw_tbl := by decide +kernel
theorem gin_8 : Cond.instantiable RX8 1 ∈ lw_tbl := by decide +kernel
theorem gin_9 : Cond.instantiable RX9 2 ∈ lw_tbl := by decide +kernel
theorem gin_10 : Cond.instantiable RX10 9 ∈ lw_tbl := by decide +kernel
theorem gin_11 : Cond.instantiable RX11 13 ∈ lw_tbl := by decide +kernel
theorem gin_12 : Cond.instantiable RX12 90 ∈ lw_tbl := by decide +kernel
theorem gac_0 : Cond.arrayClass .int ∈ lw_tbl := by decide +kernel
theorem gac_1 : Cond.arrayClass .byte ∈ lw_tbl := by decide +kernel
theorem gac_2 : Cond.arrayClass .long ∈ lw_tbl := by decide +kernel
theorem gac_3 : Cond.arrayClass .boolean ∈ lw_tbl := by decide +kernel
theorem gZ_el : ∀ j : Nat, j < 88 → Cond.eq (.elem (.field (.string "DeedTongue" 251) "java/lang/String" "value" "[B") (.int (Int32.ofNat j))) (.int (gBy.getD j 0)) ∈ flatC (Jvm.Cond.and given_1 narrow_1) := by decide +kernel
theorem gZ_of {s : State} {b : Nat} (hts : ∀ w ∈ lw_tbl, w.before #[Value.ref b] s = true) (hgv : (Jvm.Cond.and given_1 narrow_1).before #[Value.ref b] s = true) : gZ s.heap.size s := by
  have hs := flat_of_before _ hgv
  have hA : ∀ a : Nat, a < s.heap.size → ¬ (s.heap.size ≤ a) := fun a h => by omega
  obtain ⟨ak, av, hvS, hvT⟩ := vk_Sof (args := #[Value.ref b]) (s := s) (N := 1) (tm := fun _ => Term.string "DeedTongue" 251) (len := [88]) (byt := [gBy]) (A := fun q : Nat => s.heap.size ≤ q)
    (fun i hi => by obtain rfl : i = 0 := (by omega); decide)
    (fun i _ => hs (Cond.exactly (.string "DeedTongue" 251) "java/lang/String") (by decide +kernel))
    (fun i _ => hs (Cond.eq (.field (.string "DeedTongue" 251) "java/lang/String" "coder" "B") (.int 0)) (by decide +kernel))
    (fun i _ => hs (Cond.arrayOf (.field (.string "DeedTongue" 251) "java/lang/String" "value" "[B") .byte) (by decide +kernel))
    (fun i hi => by obtain rfl : i = 0 := (by omega); exact hs (Cond.eq (.length (.field (.string "DeedTongue" 251) "java/lang/String" "value" "[B")) (.int 88)) (by decide +kernel))
    (fun i hi j hj => by obtain rfl : i = 0 := (by omega); exact hs _ (gZ_el j hj))
    (fun i j hi hj hij => absurd (show i = j by omega) hij) hA
  exact ⟨ak, av, hvS, vk_R.of (A := #[Value.ref b]) (hts (Cond.stringRef "DeedTongue" 251 gTx) (by decide +kernel)) (hvT 0 (by decide)),
    va_Zof (args := #[Value.ref b]) (hts (Cond.laysStatic "java/lang/String" "COMPACT_STRINGS" "Z") (by decide +kernel)) (hts (Cond.initialized "java/lang/String") (by decide +kernel)) (va_eqt (hs (Cond.eq (.static "java/lang/String" "COMPACT_STRINGS" "Z") (.int 1)) (by decide +kernel))) hA,
    va_Zqof (args := #[Value.ref b]) (hts (Cond.laysStatic "jdk/internal/util/Preconditions" "SIOOBE_FORMATTER" "Ljava/util/function/BiFunction;") (by decide +kernel)) (hts (Cond.initialized "jdk/internal/util/Preconditions") (by decide +kernel)) (hs (Cond.isRef (.static "jdk/internal/util/Preconditions" "SIOOBE_FORMATTER" "Ljava/util/function/BiFunction;")) (by decide +kernel)) hA⟩
set_option maxHeartbeats 4000000 in
set_option maxRecDepth 100000 in
theorem whole_start {p : Program} {e : Env} {s : State} {m : MethodId} {below : List Frame} {meth : Method} {c : Code} (l : Launch) {b L : Nat} {xs : Nat → Int32} (hL : L ≤ 3072) (C0 : lw_At p s m meth c b L xs) : W p l e room_1 s m #[Value.ref b] below meth c s.heap [] 0 0 (lw_Z below #[Value.ref b] s) (entryFrame m ([Value.ref b] : List Value).toArray 4) := by
  obtain ⟨hx, hb, hr, hml, hown, hts, hX, hbl, hlocks, hgv⟩ := id C0
  obtain ⟨c0, i0, k0⟩ := u_known (C := RX0) (T := TX0) (N := 2) (n := 2) hts (fun w h => gWl (giX0 w h)) (hts _ gin_0)
  obtain ⟨c1, i1, k1⟩ := u_known (C := RX1) (T := TX1) (N := 4) (n := 4) hts (fun w h => gWl (giX1 w h)) (hts _ gin_1)
  obtain ⟨c2, i2, k2⟩ := u_known (C := RX2) (T := TX2) (N := 4) (n := 4) hts (fun w h => gWl (giX2 w h)) (hts _ gin_2)
  obtain ⟨c3, i3, k3⟩ := u_known (C := RX3) (T := TX3) (N := 2) (n := 2) hts (fun w h => gWl (giX3 w h)) (hts _ gin_3)
  obtain ⟨c4, i4, k4⟩ := u_known (C := RX4) (T := TX4) (N := 9) (n := 9) hts (fun w h => gWl (giX4 w h)) (hts _ gin_4)
  obtain ⟨c5, i5, k5⟩ := u_known (C := RX5) (T := TX5) (N := 8) (n := 8) hts (fun w h => gWl (giX5 w h)) (hts _ gin_5)
  obtain ⟨c6, i6, k6⟩ := u_known (C := RX6) (T := TX6) (N := 4) (n := 4) hts (fun w h => gWl (giX6 w h)) (hts _ gin_6)
  obtain ⟨c7, i7, k7⟩ := u_known (C := RX7) (T := TX7) (N := 2) (n := 2) hts (fun w h => gWl (giX7 w h)) (hts _ gin_7)
  obtain ⟨c8, i8, k8⟩ := u_known (C := RX8) (T := TX8) (N := 1) (n := 1) hts (fun w h => gWl (giX8 w h)) (hts _ gin_8)
  obtain ⟨c9, i9, k9⟩ := u_known (C := RX9) (T := TX9) (N := 2) (n := 2) hts (fun w h => gWl (giX9 w h)) (hts _ gin_9)
  obtain ⟨c10, i10, k10⟩ := u_known (C := RX10) (T := TX10) (N := 9) (n := 9) hts (fun w h => gWl (giX10 w h)) (hts _ gin_10)
  obtain ⟨c11, i11, k11⟩ := u_known (C := RX11) (T := TX11) (N := 13) (n := 13) hts (fun w h => gWl (giX11 w h)) (hts _ gin_11)
  obtain ⟨c12, i12, k12⟩ := u_known (C := RX12) (T := TX12) (N := 90) (n := 90) hts (fun w h => gWl (giX12 w h)) (hts _ gin_12)
  obtain ⟨dC, dI, hKc⟩ : ∃ (dC : Nat → ClassId) (dI : Nat → Nat → Nat), ∀ (k : Nat) (q : vw_C), vwCl[k]? = some q → u_Kn s q.1 q.2.1 q.2.2 (dC k) (dI k) := by
    refine ⟨fun k => [c0, c1, c2, c3, c4, c5, c6, c7, c8, c9, c10, c11, c12].getD k c0, fun k => [i0, i1, i2, i3, i4, i5, i6, i7, i8, i9, i10, i11, i12].getD k i0, ?_⟩
    intro k q hq
    match k, hq with
    | 0, hq => cases hq; exact k0
    | 1, hq => cases hq; exact k1
    | 2, hq => cases hq; exact k2
    | 3, hq => cases hq; exact k3
    | 4, hq => cases hq; exact k4
    | 5, hq => cases hq; exact k5
    | 6, hq => cases hq; exact k6
    | 7, hq => cases hq; exact k7
    | 8, hq => cases hq; exact k8
    | 9, hq => cases hq; exact k9
    | 10, hq => cases hq; exact k10
    | 11, hq => cases hq; exact k11
    | 12, hq => cases hq; exact k12
    | k + 13, hq => simp [vwCl] at hq
  obtain ⟨y0, ya0, yc0, yf0, yk0, yd0⟩ := Cond.arrayClass_spec (hts _ gac_0)
  obtain ⟨y1, ya1, yc1, yf1, yk1, yd1⟩ := Cond.arrayClass_spec (hts _ gac_1)
  obtain ⟨y2, ya2, yc2, yf2, yk2, yd2⟩ := Cond.arrayClass_spec (hts _ gac_2)
  obtain ⟨y3, ya3, yc3, yf3, yk3, yd3⟩ := Cond.arrayClass_spec (hts _ gac_3)
  obtain ⟨yc4, y4, ya4, yg4, yi4, yk4, yd4, yf4⟩ := Cond.arrayOver_spec (hts _ (gNO_in "DeedTongue$Form" (by decide)))
  obtain ⟨yc5, y5, ya5, yg5, yi5, yk5, yd5, yf5⟩ := Cond.arrayOver_spec (hts _ (gNO_in "DeedTongue$Life" (by decide)))
  obtain ⟨yc6, y6, ya6, yg6, yi6, yk6, yd6, yf6⟩ := Cond.arrayOver_spec (hts _ (gNO_in "DeedTongue$Scene" (by decide)))
  obtain ⟨cy, hcy⟩ : ∃ cy : Nat → ClassId, cy 0 = y0 ∧ cy 1 = y1 ∧ cy 2 = y2 ∧ cy 3 = y3 ∧ cy 4 = y4 ∧ cy 5 = y5 ∧ cy 6 = y6 := ⟨fun k => [y0, y1, y2, y3, y4, y5, y6].getD k y0, rfl, rfl, rfl, rfl, rfl, rfl, rfl⟩
  obtain ⟨e0, e1, e2, e3, e4, e5, e6⟩ := hcy
  have hK : va_K (dC, dI) vwCl (gTy cy) s := by
    refine ⟨hKc, fun k q hk => ?_⟩
    match k, hk with
    | 0, hk => cases hk; rw [e0]; exact ⟨fun n z => ⟨fun k h => (by cases h), ya0, yk0, yc0, yd0⟩, yf0⟩
    | 1, hk => cases hk; rw [e1]; exact ⟨fun n z => ⟨fun k h => (by cases h), ya1, yk1, yc1, yd1⟩, yf1⟩
    | 2, hk => cases hk; rw [e2]; exact ⟨fun n z => ⟨fun k h => (by cases h), ya2, yk2, yc2, yd2⟩, yf2⟩
    | 3, hk => cases hk; rw [e3]; exact ⟨fun n z => ⟨fun k h => (by cases h), ya3, yk3, yc3, yd3⟩, yf3⟩
    | 4, hk => cases hk; rw [e4]; exact ⟨fun n z => ⟨fun k h => (by cases h), ya4, yk4, yc4, yd4⟩, ya4, yc4, yk4, yd4, yg4, yf4⟩
    | 5, hk => cases hk; rw [e5]; exact ⟨fun n z => ⟨fun k h => (by cases h), ya5, yk5, yc5, yd5⟩, ya5, yc5, yk5, yd5, yg5, yf5⟩
    | 6, hk => cases hk; rw [e6]; exact ⟨fun n z => ⟨fun k h => (by cases h), ya6, yk6, yc6, yd6⟩, ya6, yc6, yk6, yd6, yg6, yf6⟩
    | k + 7, hk => simp [gTy] at hk
  have hN : gN s.heap.size s := ⟨fun q hq => va_Nw.of rfl (hts _ (gNF_in q hq)), fun q hq => va_Nw.of rfl (hts _ (gNM_in q hq)), fun C hC => va_AO.of (hts _ (gNO_in C hC)), gZ_of hts hgv⟩
  have hl := lv_entry ([.ref b]) (n := 4) (Nat.le_of_ble_eq_true rfl)
  rw [lg_entry_eq]
  exact lw_all (D := (dC, dI)) (cy := cy) (b := s.heap.size) (bs := b) (L := L) (xs := xs) (nm := meth.name) hL p e s m _ below meth c s.heap [] _ ⟨hx, hb, hml, hr, hown, fun w hw => hts w (gWl hw), hlocks, rfl, ⟨hK, hN⟩, Nat.le_refl _, ⟨hX, hbl, hbl⟩, Nat.le_refl _⟩ ⟨[], (fun _ => .inr (0, [])), (fun a e h => (by cases h)), (fun k q h => (by simp [va_pl] at h)), ⟨(fun i j p q h => (by simp [va_pl] at h)), (fun k q h => (by simp [va_pl] at h))⟩⟩ va_S.rf hl
