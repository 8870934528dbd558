set_option maxHeartbeats 4000000 in
set_option maxRecDepth 100000 in
theorem l_X0_read {l : Launch} {D : va_G} {cy : Nat → ClassId} {b : Nat} {f : gMem}  {c to td : Nat} {t d : Int32} (hc : f c = some (.inr (0, [.ref to, .ref td]))) (ht : f to = some (.inl (cy 0, 2400, .inl (fun _ => 0)))) (htd : 0 ≤ t.toInt ∧ t.toInt ≤ 5) (hdd : 0 ≤ d.toInt ∧ d.toInt ≤ 399) : ∀ (k : Nat) (x3 : Int32), x3.toInt = (k : Int) - 1 → k ≤ 400 → gG l (gRm 0 0 0) (gQf D b (pI fun r f2 => r = spSeen t d ∧ f2 = f) 0 0) gTt D cy b cX0_read 5 (some .int) RX0 "read" 0 0 f 27 [(3, .int x3), (0, .ref c), (1, .int t), (2, .int d)] [] := by
  intro k
  induction k with
  | zero =>
    intro x3 hx hk
    refine gz_iload_n dX0_read_27 rfl rfl ?_
    refine gz_if_lt (tgt := 63) dX0_read_28 (by decide) (fun c_28 => ?_) (fun c_28 => ?_)
    ·
      refine gz_iconst (v := 0) dX0_read_63 (by decide) ?_
      exact gz_iret rfl dX0_read_64 (Nat.le_of_ble_eq_true rfl) (Nat.le_of_ble_eq_true rfl) (⟨_, rfl, by show _ = _; rw [spSeen, if_pos ⟨htd.1, htd.2, hdd.1, hdd.2⟩], rfl⟩)
    · exfalso; rw [fl_lt] at c_28; have e0 : (0 : Int32).toInt = 0 := rfl; omega
  | succ k ih =>
    intro x3 hx hk
    have hi : vp_in (t * 400 + x3) 2400 := vin_T (idx2 htd ⟨by omega, by omega⟩) (by omega) (by omega)
    refine gz_iload_n dX0_read_27 rfl rfl ?_
    refine gz_if_lt (tgt := 63) dX0_read_28 (by decide) (fun c_28 => ?_) (fun c_28 => ?_)
    · exfalso; rw [fl_lt] at c_28; have e0 : (0 : Int32).toInt = 0 := rfl; omega
    ·
      refine gz_aload_n dX0_read_31 rfl rfl ?_
      refine sgX0_9 hc rfl dX0_read_32 ?_
      refine gz_iload_n dX0_read_35 rfl rfl ?_
      refine gz_sipush (v := 400) dX0_read_36 (by decide) ?_
      refine gz_imul dX0_read_39 ?_
      refine gz_iload_n dX0_read_40 rfl rfl ?_
      refine gz_iadd dX0_read_41 ?_
      refine gz_iald ht (hi) dX0_read_42 ?_
      refine gz_istore (lv' := [(4, .int ((fun _ => 0) (Int32.toNatClampNeg ((t * 400) + x3)))), (3, .int x3), (0, .ref c), (1, .int t), (2, .int d)]) dX0_read_43 (by decide) rfl ?_
      refine gz_iload dX0_read_45 rfl ?_
      refine gz_if_le (tgt := 57) dX0_read_47 (by decide) (fun c_47 => ?_) (fun c_47 => ?_)
      ·
        refine gz_iinc (v := (x3 + (-1))) (lv' := [(3, .int (x3 + (-1))), (4, .int ((fun _ => 0) (Int32.toNatClampNeg ((t * 400) + x3)))), (0, .ref c), (1, .int t), (2, .int d)]) dX0_read_57 rfl rfl (by decide) rfl ?_
        refine gz_goto (tgt := 27) dX0_read_60 (by decide) ?_
        refine gz_sub (lv' := [(3, .int (x3 + (-1))), (0, .ref c), (1, .int t), (2, .int d)]) (by simp [List.lookup]) ?_
        exact ih (x3 + (-1)) (by have e1 : (-1 : Int32).toInt = -1 := rfl; rw [addT (by omega) (by omega)]; omega) (by omega)
      · exact absurd (show (0 : Int32) ≤ 0 by decide) c_47

set_option maxHeartbeats 4000000 in
set_option maxRecDepth 100000 in
theorem k_X0_read {l : Launch} {D : va_G} {cy : Nat → ClassId} {b : Nat} {f : gMem} {c to td : Nat} {t d : Int32} (hc : f c = some (.inr (0, [.ref to, .ref td]))) (ht : f to = some (.inl (cy 0, 2400, .inl (fun _ => 0))))  : gC l D cy b yX0_read cX0_read 5 (some .int) 0 0 0 [.ref c, .int t, .int d] f (pI fun r f2 => r = spSeen t d ∧ f2 = f) := by
  refine gC_of (by decide) (Nat.le_of_ble_eq_true rfl) ?_
  show gG l _ _ _ D cy b cX0_read 5 _ RX0 "read" 0 0 f 0 [(0, .ref c), (1, .int t), (2, .int d)] []
  refine gz_iload_n dX0_read_0 rfl rfl ?_
  refine gz_if_lt (tgt := 21) dX0_read_1 (by decide) (fun c_1 => ?_) (fun c_1 => ?_)
  ·
    refine gz_sipush (v := (-10000)) dX0_read_21 (by decide) ?_
    exact gz_iret rfl dX0_read_24 (Nat.le_of_ble_eq_true rfl) (Nat.le_of_ble_eq_true rfl) (⟨_, rfl, (by show _ = _; have e0 : (0 : Int32).toInt = 0 := rfl; have E0 : (0 : Int64).toInt = 0 := rfl; have e1 : (1 : Int32).toInt = 1 := rfl; have E1 : (1 : Int64).toInt = 1 := rfl; have e2 : (2 : Int32).toInt = 2 := rfl; have E2 : (2 : Int64).toInt = 2 := rfl; have e3 : (3 : Int32).toInt = 3 := rfl; have E3 : (3 : Int64).toInt = 3 := rfl; have e4 : (4 : Int32).toInt = 4 := rfl; have E4 : (4 : Int64).toInt = 4 := rfl; have e5 : (5 : Int32).toInt = 5 := rfl; have E5 : (5 : Int64).toInt = 5 := rfl; have e6 : (6 : Int32).toInt = 6 := rfl; have E6 : (6 : Int64).toInt = 6 := rfl; have e7 : (7 : Int32).toInt = 7 := rfl; have E7 : (7 : Int64).toInt = 7 := rfl; have e8 : (8 : Int32).toInt = 8 := rfl; have E8 : (8 : Int64).toInt = 8 := rfl; have e20 : (20 : Int32).toInt = 20 := rfl; have E20 : (20 : Int64).toInt = 20 := rfl; have e39 : (39 : Int32).toInt = 39 := rfl; have E39 : (39 : Int64).toInt = 39 := rfl; have e40 : (40 : Int32).toInt = 40 := rfl; have E40 : (40 : Int64).toInt = 40 := rfl; have e99 : (99 : Int32).toInt = 99 := rfl; have E99 : (99 : Int64).toInt = 99 := rfl; have em99 : ((-99) : Int32).toInt = (-99) := rfl; have Em99 : ((-99) : Int64).toInt = (-99) := rfl; have e399 : (399 : Int32).toInt = 399 := rfl; have E399 : (399 : Int64).toInt = 399 := rfl; have e400 : (400 : Int32).toInt = 400 := rfl; have E400 : (400 : Int64).toInt = 400 := rfl; have e9999 : (9999 : Int32).toInt = 9999 := rfl; have E9999 : (9999 : Int64).toInt = 9999 := rfl; have em9999 : ((-9999) : Int32).toInt = (-9999) := rfl; have Em9999 : ((-9999) : Int64).toInt = (-9999) := rfl; have em10000 : ((-10000) : Int32).toInt = (-10000) := rfl; have Em10000 : ((-10000) : Int64).toInt = (-10000) := rfl; have em1 : ((-1) : Int32).toInt = (-1) := rfl; have Em1 : ((-1) : Int64).toInt = (-1) := rfl; have e10 : (10 : Int32).toInt = 10 := rfl; have E10 : (10 : Int64).toInt = 10 := rfl; have e17 : (17 : Int32).toInt = 17 := rfl; have E17 : (17 : Int64).toInt = 17 := rfl; (try simp only [mIn_0, lgc_lt, lgc_gt, lgc_eq, lgc_le, lgc_ge] at c_1); (try simp only [fl_lt, fl_le, fl_eq, fL_lt, fL_le, fL_w] at c_1); first | (rw [spSeen, if_pos (by omega)]; first | done | rfl) | (rw [spSeen, if_neg (by omega)]; first | done | rfl)), rfl⟩)
  ·
    refine gz_iload_n dX0_read_4 rfl rfl ?_
    refine gz_bipush (v := 6) dX0_read_5 (by decide) ?_
    refine gz_icmp_ge (tgt := 21) dX0_read_7 (by decide) (fun c_7 => ?_) (fun c_7 => ?_)
    ·
      refine gz_sipush (v := (-10000)) dX0_read_21 (by decide) ?_
      exact gz_iret rfl dX0_read_24 (Nat.le_of_ble_eq_true rfl) (Nat.le_of_ble_eq_true rfl) (⟨_, rfl, (by show _ = _; have e0 : (0 : Int32).toInt = 0 := rfl; have E0 : (0 : Int64).toInt = 0 := rfl; have e1 : (1 : Int32).toInt = 1 := rfl; have E1 : (1 : Int64).toInt = 1 := rfl; have e2 : (2 : Int32).toInt = 2 := rfl; have E2 : (2 : Int64).toInt = 2 := rfl; have e3 : (3 : Int32).toInt = 3 := rfl; have E3 : (3 : Int64).toInt = 3 := rfl; have e4 : (4 : Int32).toInt = 4 := rfl; have E4 : (4 : Int64).toInt = 4 := rfl; have e5 : (5 : Int32).toInt = 5 := rfl; have E5 : (5 : Int64).toInt = 5 := rfl; have e6 : (6 : Int32).toInt = 6 := rfl; have E6 : (6 : Int64).toInt = 6 := rfl; have e7 : (7 : Int32).toInt = 7 := rfl; have E7 : (7 : Int64).toInt = 7 := rfl; have e8 : (8 : Int32).toInt = 8 := rfl; have E8 : (8 : Int64).toInt = 8 := rfl; have e20 : (20 : Int32).toInt = 20 := rfl; have E20 : (20 : Int64).toInt = 20 := rfl; have e39 : (39 : Int32).toInt = 39 := rfl; have E39 : (39 : Int64).toInt = 39 := rfl; have e40 : (40 : Int32).toInt = 40 := rfl; have E40 : (40 : Int64).toInt = 40 := rfl; have e99 : (99 : Int32).toInt = 99 := rfl; have E99 : (99 : Int64).toInt = 99 := rfl; have em99 : ((-99) : Int32).toInt = (-99) := rfl; have Em99 : ((-99) : Int64).toInt = (-99) := rfl; have e399 : (399 : Int32).toInt = 399 := rfl; have E399 : (399 : Int64).toInt = 399 := rfl; have e400 : (400 : Int32).toInt = 400 := rfl; have E400 : (400 : Int64).toInt = 400 := rfl; have e9999 : (9999 : Int32).toInt = 9999 := rfl; have E9999 : (9999 : Int64).toInt = 9999 := rfl; have em9999 : ((-9999) : Int32).toInt = (-9999) := rfl; have Em9999 : ((-9999) : Int64).toInt = (-9999) := rfl; have em10000 : ((-10000) : Int32).toInt = (-10000) := rfl; have Em10000 : ((-10000) : Int64).toInt = (-10000) := rfl; have em1 : ((-1) : Int32).toInt = (-1) := rfl; have Em1 : ((-1) : Int64).toInt = (-1) := rfl; have e10 : (10 : Int32).toInt = 10 := rfl; have E10 : (10 : Int64).toInt = 10 := rfl; have e17 : (17 : Int32).toInt = 17 := rfl; have E17 : (17 : Int64).toInt = 17 := rfl; (try simp only [mIn_0, lgc_lt, lgc_gt, lgc_eq, lgc_le, lgc_ge] at c_1 c_7); (try simp only [fl_lt, fl_le, fl_eq, fL_lt, fL_le, fL_w] at c_1 c_7); first | (rw [spSeen, if_pos (by omega)]; first | done | rfl) | (rw [spSeen, if_neg (by omega)]; first | done | rfl)), rfl⟩)
    ·
      refine gz_iload_n dX0_read_10 rfl rfl ?_
      refine gz_if_lt (tgt := 21) dX0_read_11 (by decide) (fun c_11 => ?_) (fun c_11 => ?_)
      ·
        refine gz_sipush (v := (-10000)) dX0_read_21 (by decide) ?_
        exact gz_iret rfl dX0_read_24 (Nat.le_of_ble_eq_true rfl) (Nat.le_of_ble_eq_true rfl) (⟨_, rfl, (by show _ = _; have e0 : (0 : Int32).toInt = 0 := rfl; have E0 : (0 : Int64).toInt = 0 := rfl; have e1 : (1 : Int32).toInt = 1 := rfl; have E1 : (1 : Int64).toInt = 1 := rfl; have e2 : (2 : Int32).toInt = 2 := rfl; have E2 : (2 : Int64).toInt = 2 := rfl; have e3 : (3 : Int32).toInt = 3 := rfl; have E3 : (3 : Int64).toInt = 3 := rfl; have e4 : (4 : Int32).toInt = 4 := rfl; have E4 : (4 : Int64).toInt = 4 := rfl; have e5 : (5 : Int32).toInt = 5 := rfl; have E5 : (5 : Int64).toInt = 5 := rfl; have e6 : (6 : Int32).toInt = 6 := rfl; have E6 : (6 : Int64).toInt = 6 := rfl; have e7 : (7 : Int32).toInt = 7 := rfl; have E7 : (7 : Int64).toInt = 7 := rfl; have e8 : (8 : Int32).toInt = 8 := rfl; have E8 : (8 : Int64).toInt = 8 := rfl; have e20 : (20 : Int32).toInt = 20 := rfl; have E20 : (20 : Int64).toInt = 20 := rfl; have e39 : (39 : Int32).toInt = 39 := rfl; have E39 : (39 : Int64).toInt = 39 := rfl; have e40 : (40 : Int32).toInt = 40 := rfl; have E40 : (40 : Int64).toInt = 40 := rfl; have e99 : (99 : Int32).toInt = 99 := rfl; have E99 : (99 : Int64).toInt = 99 := rfl; have em99 : ((-99) : Int32).toInt = (-99) := rfl; have Em99 : ((-99) : Int64).toInt = (-99) := rfl; have e399 : (399 : Int32).toInt = 399 := rfl; have E399 : (399 : Int64).toInt = 399 := rfl; have e400 : (400 : Int32).toInt = 400 := rfl; have E400 : (400 : Int64).toInt = 400 := rfl; have e9999 : (9999 : Int32).toInt = 9999 := rfl; have E9999 : (9999 : Int64).toInt = 9999 := rfl; have em9999 : ((-9999) : Int32).toInt = (-9999) := rfl; have Em9999 : ((-9999) : Int64).toInt = (-9999) := rfl; have em10000 : ((-10000) : Int32).toInt = (-10000) := rfl; have Em10000 : ((-10000) : Int64).toInt = (-10000) := rfl; have em1 : ((-1) : Int32).toInt = (-1) := rfl; have Em1 : ((-1) : Int64).toInt = (-1) := rfl; have e10 : (10 : Int32).toInt = 10 := rfl; have E10 : (10 : Int64).toInt = 10 := rfl; have e17 : (17 : Int32).toInt = 17 := rfl; have E17 : (17 : Int64).toInt = 17 := rfl; (try simp only [mIn_0, lgc_lt, lgc_gt, lgc_eq, lgc_le, lgc_ge] at c_1 c_7 c_11); (try simp only [fl_lt, fl_le, fl_eq, fL_lt, fL_le, fL_w] at c_1 c_7 c_11); first | (rw [spSeen, if_pos (by omega)]; first | done | rfl) | (rw [spSeen, if_neg (by omega)]; first | done | rfl)), rfl⟩)
      ·
        refine gz_iload_n dX0_read_14 rfl rfl ?_
        refine gz_sipush (v := 400) dX0_read_15 (by decide) ?_
        refine gz_icmp_lt (tgt := 25) dX0_read_18 (by decide) (fun c_18 => ?_) (fun c_18 => ?_)
        ·
          refine gz_iload_n dX0_read_25 rfl rfl ?_
          refine gz_istore_n (lv' := [(3, .int d), (0, .ref c), (1, .int t), (2, .int d)]) dX0_read_26 rfl (by decide) rfl ?_
          refine gz_sub (lv' := [(3, .int d), (0, .ref c), (1, .int t), (2, .int d)]) (by simp [List.lookup]) ?_
          exact l_X0_read hc ht (by have e0 : (0 : Int32).toInt = 0 := rfl; have E0 : (0 : Int64).toInt = 0 := rfl; have e1 : (1 : Int32).toInt = 1 := rfl; have E1 : (1 : Int64).toInt = 1 := rfl; have e2 : (2 : Int32).toInt = 2 := rfl; have E2 : (2 : Int64).toInt = 2 := rfl; have e3 : (3 : Int32).toInt = 3 := rfl; have E3 : (3 : Int64).toInt = 3 := rfl; have e4 : (4 : Int32).toInt = 4 := rfl; have E4 : (4 : Int64).toInt = 4 := rfl; have e5 : (5 : Int32).toInt = 5 := rfl; have E5 : (5 : Int64).toInt = 5 := rfl; have e6 : (6 : Int32).toInt = 6 := rfl; have E6 : (6 : Int64).toInt = 6 := rfl; have e7 : (7 : Int32).toInt = 7 := rfl; have E7 : (7 : Int64).toInt = 7 := rfl; have e8 : (8 : Int32).toInt = 8 := rfl; have E8 : (8 : Int64).toInt = 8 := rfl; have e20 : (20 : Int32).toInt = 20 := rfl; have E20 : (20 : Int64).toInt = 20 := rfl; have e39 : (39 : Int32).toInt = 39 := rfl; have E39 : (39 : Int64).toInt = 39 := rfl; have e40 : (40 : Int32).toInt = 40 := rfl; have E40 : (40 : Int64).toInt = 40 := rfl; have e99 : (99 : Int32).toInt = 99 := rfl; have E99 : (99 : Int64).toInt = 99 := rfl; have em99 : ((-99) : Int32).toInt = (-99) := rfl; have Em99 : ((-99) : Int64).toInt = (-99) := rfl; have e399 : (399 : Int32).toInt = 399 := rfl; have E399 : (399 : Int64).toInt = 399 := rfl; have e400 : (400 : Int32).toInt = 400 := rfl; have E400 : (400 : Int64).toInt = 400 := rfl; have e9999 : (9999 : Int32).toInt = 9999 := rfl; have E9999 : (9999 : Int64).toInt = 9999 := rfl; have em9999 : ((-9999) : Int32).toInt = (-9999) := rfl; have Em9999 : ((-9999) : Int64).toInt = (-9999) := rfl; have em10000 : ((-10000) : Int32).toInt = (-10000) := rfl; have Em10000 : ((-10000) : Int64).toInt = (-10000) := rfl; have em1 : ((-1) : Int32).toInt = (-1) := rfl; have Em1 : ((-1) : Int64).toInt = (-1) := rfl; have e10 : (10 : Int32).toInt = 10 := rfl; have E10 : (10 : Int64).toInt = 10 := rfl; have e17 : (17 : Int32).toInt = 17 := rfl; have E17 : (17 : Int64).toInt = 17 := rfl; simp only [fl_lt, fl_le] at c_1 c_7 c_11 c_18; omega) (by have e0 : (0 : Int32).toInt = 0 := rfl; have E0 : (0 : Int64).toInt = 0 := rfl; have e1 : (1 : Int32).toInt = 1 := rfl; have E1 : (1 : Int64).toInt = 1 := rfl; have e2 : (2 : Int32).toInt = 2 := rfl; have E2 : (2 : Int64).toInt = 2 := rfl; have e3 : (3 : Int32).toInt = 3 := rfl; have E3 : (3 : Int64).toInt = 3 := rfl; have e4 : (4 : Int32).toInt = 4 := rfl; have E4 : (4 : Int64).toInt = 4 := rfl; have e5 : (5 : Int32).toInt = 5 := rfl; have E5 : (5 : Int64).toInt = 5 := rfl; have e6 : (6 : Int32).toInt = 6 := rfl; have E6 : (6 : Int64).toInt = 6 := rfl; have e7 : (7 : Int32).toInt = 7 := rfl; have E7 : (7 : Int64).toInt = 7 := rfl; have e8 : (8 : Int32).toInt = 8 := rfl; have E8 : (8 : Int64).toInt = 8 := rfl; have e20 : (20 : Int32).toInt = 20 := rfl; have E20 : (20 : Int64).toInt = 20 := rfl; have e39 : (39 : Int32).toInt = 39 := rfl; have E39 : (39 : Int64).toInt = 39 := rfl; have e40 : (40 : Int32).toInt = 40 := rfl; have E40 : (40 : Int64).toInt = 40 := rfl; have e99 : (99 : Int32).toInt = 99 := rfl; have E99 : (99 : Int64).toInt = 99 := rfl; have em99 : ((-99) : Int32).toInt = (-99) := rfl; have Em99 : ((-99) : Int64).toInt = (-99) := rfl; have e399 : (399 : Int32).toInt = 399 := rfl; have E399 : (399 : Int64).toInt = 399 := rfl; have e400 : (400 : Int32).toInt = 400 := rfl; have E400 : (400 : Int64).toInt = 400 := rfl; have e9999 : (9999 : Int32).toInt = 9999 := rfl; have E9999 : (9999 : Int64).toInt = 9999 := rfl; have em9999 : ((-9999) : Int32).toInt = (-9999) := rfl; have Em9999 : ((-9999) : Int64).toInt = (-9999) := rfl; have em10000 : ((-10000) : Int32).toInt = (-10000) := rfl; have Em10000 : ((-10000) : Int64).toInt = (-10000) := rfl; have em1 : ((-1) : Int32).toInt = (-1) := rfl; have Em1 : ((-1) : Int64).toInt = (-1) := rfl; have e10 : (10 : Int32).toInt = 10 := rfl; have E10 : (10 : Int64).toInt = 10 := rfl; have e17 : (17 : Int32).toInt = 17 := rfl; have E17 : (17 : Int64).toInt = 17 := rfl; simp only [fl_lt, fl_le] at c_1 c_7 c_11 c_18; omega) (d.toInt.toNat + 1) d (by have e0 : (0 : Int32).toInt = 0 := rfl; have E0 : (0 : Int64).toInt = 0 := rfl; have e1 : (1 : Int32).toInt = 1 := rfl; have E1 : (1 : Int64).toInt = 1 := rfl; have e2 : (2 : Int32).toInt = 2 := rfl; have E2 : (2 : Int64).toInt = 2 := rfl; have e3 : (3 : Int32).toInt = 3 := rfl; have E3 : (3 : Int64).toInt = 3 := rfl; have e4 : (4 : Int32).toInt = 4 := rfl; have E4 : (4 : Int64).toInt = 4 := rfl; have e5 : (5 : Int32).toInt = 5 := rfl; have E5 : (5 : Int64).toInt = 5 := rfl; have e6 : (6 : Int32).toInt = 6 := rfl; have E6 : (6 : Int64).toInt = 6 := rfl; have e7 : (7 : Int32).toInt = 7 := rfl; have E7 : (7 : Int64).toInt = 7 := rfl; have e8 : (8 : Int32).toInt = 8 := rfl; have E8 : (8 : Int64).toInt = 8 := rfl; have e20 : (20 : Int32).toInt = 20 := rfl; have E20 : (20 : Int64).toInt = 20 := rfl; have e39 : (39 : Int32).toInt = 39 := rfl; have E39 : (39 : Int64).toInt = 39 := rfl; have e40 : (40 : Int32).toInt = 40 := rfl; have E40 : (40 : Int64).toInt = 40 := rfl; have e99 : (99 : Int32).toInt = 99 := rfl; have E99 : (99 : Int64).toInt = 99 := rfl; have em99 : ((-99) : Int32).toInt = (-99) := rfl; have Em99 : ((-99) : Int64).toInt = (-99) := rfl; have e399 : (399 : Int32).toInt = 399 := rfl; have E399 : (399 : Int64).toInt = 399 := rfl; have e400 : (400 : Int32).toInt = 400 := rfl; have E400 : (400 : Int64).toInt = 400 := rfl; have e9999 : (9999 : Int32).toInt = 9999 := rfl; have E9999 : (9999 : Int64).toInt = 9999 := rfl; have em9999 : ((-9999) : Int32).toInt = (-9999) := rfl; have Em9999 : ((-9999) : Int64).toInt = (-9999) := rfl; have em10000 : ((-10000) : Int32).toInt = (-10000) := rfl; have Em10000 : ((-10000) : Int64).toInt = (-10000) := rfl; have em1 : ((-1) : Int32).toInt = (-1) := rfl; have Em1 : ((-1) : Int64).toInt = (-1) := rfl; have e10 : (10 : Int32).toInt = 10 := rfl; have E10 : (10 : Int64).toInt = 10 := rfl; have e17 : (17 : Int32).toInt = 17 := rfl; have E17 : (17 : Int64).toInt = 17 := rfl; simp only [fl_lt, fl_le] at c_1 c_7 c_11 c_18; omega) (by have e0 : (0 : Int32).toInt = 0 := rfl; have E0 : (0 : Int64).toInt = 0 := rfl; have e1 : (1 : Int32).toInt = 1 := rfl; have E1 : (1 : Int64).toInt = 1 := rfl; have e2 : (2 : Int32).toInt = 2 := rfl; have E2 : (2 : Int64).toInt = 2 := rfl; have e3 : (3 : Int32).toInt = 3 := rfl; have E3 : (3 : Int64).toInt = 3 := rfl; have e4 : (4 : Int32).toInt = 4 := rfl; have E4 : (4 : Int64).toInt = 4 := rfl; have e5 : (5 : Int32).toInt = 5 := rfl; have E5 : (5 : Int64).toInt = 5 := rfl; have e6 : (6 : Int32).toInt = 6 := rfl; have E6 : (6 : Int64).toInt = 6 := rfl; have e7 : (7 : Int32).toInt = 7 := rfl; have E7 : (7 : Int64).toInt = 7 := rfl; have e8 : (8 : Int32).toInt = 8 := rfl; have E8 : (8 : Int64).toInt = 8 := rfl; have e20 : (20 : Int32).toInt = 20 := rfl; have E20 : (20 : Int64).toInt = 20 := rfl; have e39 : (39 : Int32).toInt = 39 := rfl; have E39 : (39 : Int64).toInt = 39 := rfl; have e40 : (40 : Int32).toInt = 40 := rfl; have E40 : (40 : Int64).toInt = 40 := rfl; have e99 : (99 : Int32).toInt = 99 := rfl; have E99 : (99 : Int64).toInt = 99 := rfl; have em99 : ((-99) : Int32).toInt = (-99) := rfl; have Em99 : ((-99) : Int64).toInt = (-99) := rfl; have e399 : (399 : Int32).toInt = 399 := rfl; have E399 : (399 : Int64).toInt = 399 := rfl; have e400 : (400 : Int32).toInt = 400 := rfl; have E400 : (400 : Int64).toInt = 400 := rfl; have e9999 : (9999 : Int32).toInt = 9999 := rfl; have E9999 : (9999 : Int64).toInt = 9999 := rfl; have em9999 : ((-9999) : Int32).toInt = (-9999) := rfl; have Em9999 : ((-9999) : Int64).toInt = (-9999) := rfl; have em10000 : ((-10000) : Int32).toInt = (-10000) := rfl; have Em10000 : ((-10000) : Int64).toInt = (-10000) := rfl; have em1 : ((-1) : Int32).toInt = (-1) := rfl; have Em1 : ((-1) : Int64).toInt = (-1) := rfl; have e10 : (10 : Int32).toInt = 10 := rfl; have E10 : (10 : Int64).toInt = 10 := rfl; have e17 : (17 : Int32).toInt = 17 := rfl; have E17 : (17 : Int64).toInt = 17 := rfl; simp only [fl_lt, fl_le] at c_1 c_7 c_11 c_18; omega)
        ·
          refine gz_sipush (v := (-10000)) dX0_read_21 (by decide) ?_
          exact gz_iret rfl dX0_read_24 (Nat.le_of_ble_eq_true rfl) (Nat.le_of_ble_eq_true rfl) (⟨_, rfl, (by show _ = _; have e0 : (0 : Int32).toInt = 0 := rfl; have E0 : (0 : Int64).toInt = 0 := rfl; have e1 : (1 : Int32).toInt = 1 := rfl; have E1 : (1 : Int64).toInt = 1 := rfl; have e2 : (2 : Int32).toInt = 2 := rfl; have E2 : (2 : Int64).toInt = 2 := rfl; have e3 : (3 : Int32).toInt = 3 := rfl; have E3 : (3 : Int64).toInt = 3 := rfl; have e4 : (4 : Int32).toInt = 4 := rfl; have E4 : (4 : Int64).toInt = 4 := rfl; have e5 : (5 : Int32).toInt = 5 := rfl; have E5 : (5 : Int64).toInt = 5 := rfl; have e6 : (6 : Int32).toInt = 6 := rfl; have E6 : (6 : Int64).toInt = 6 := rfl; have e7 : (7 : Int32).toInt = 7 := rfl; have E7 : (7 : Int64).toInt = 7 := rfl; have e8 : (8 : Int32).toInt = 8 := rfl; have E8 : (8 : Int64).toInt = 8 := rfl; have e20 : (20 : Int32).toInt = 20 := rfl; have E20 : (20 : Int64).toInt = 20 := rfl; have e39 : (39 : Int32).toInt = 39 := rfl; have E39 : (39 : Int64).toInt = 39 := rfl; have e40 : (40 : Int32).toInt = 40 := rfl; have E40 : (40 : Int64).toInt = 40 := rfl; have e99 : (99 : Int32).toInt = 99 := rfl; have E99 : (99 : Int64).toInt = 99 := rfl; have em99 : ((-99) : Int32).toInt = (-99) := rfl; have Em99 : ((-99) : Int64).toInt = (-99) := rfl; have e399 : (399 : Int32).toInt = 399 := rfl; have E399 : (399 : Int64).toInt = 399 := rfl; have e400 : (400 : Int32).toInt = 400 := rfl; have E400 : (400 : Int64).toInt = 400 := rfl; have e9999 : (9999 : Int32).toInt = 9999 := rfl; have E9999 : (9999 : Int64).toInt = 9999 := rfl; have em9999 : ((-9999) : Int32).toInt = (-9999) := rfl; have Em9999 : ((-9999) : Int64).toInt = (-9999) := rfl; have em10000 : ((-10000) : Int32).toInt = (-10000) := rfl; have Em10000 : ((-10000) : Int64).toInt = (-10000) := rfl; have em1 : ((-1) : Int32).toInt = (-1) := rfl; have Em1 : ((-1) : Int64).toInt = (-1) := rfl; have e10 : (10 : Int32).toInt = 10 := rfl; have E10 : (10 : Int64).toInt = 10 := rfl; have e17 : (17 : Int32).toInt = 17 := rfl; have E17 : (17 : Int64).toInt = 17 := rfl; (try simp only [mIn_0, lgc_lt, lgc_gt, lgc_eq, lgc_le, lgc_ge] at c_1 c_7 c_11 c_18); (try simp only [fl_lt, fl_le, fl_eq, fL_lt, fL_le, fL_w] at c_1 c_7 c_11 c_18); first | (rw [spSeen, if_pos (by omega)]; first | done | rfl) | (rw [spSeen, if_neg (by omega)]; first | done | rfl)), rfl⟩)

set_option maxHeartbeats 4000000 in
set_option maxRecDepth 100000 in
theorem l_X0_read_any {l : Launch} {D : va_G} {cy : Nat → ClassId} {b : Nat} {f : gMem}  {c to td : Nat} {t d : Int32} {g : Nat → Int32} (hc : f c = some (.inr (0, [.ref to, .ref td]))) (ht : f to = some (.inl (cy 0, 2400, .inl (g)))) (htd : 0 ≤ t.toInt ∧ t.toInt ≤ 5) : ∀ (k : Nat) (x3 : Int32), x3.toInt = (k : Int) - 1 → k ≤ 400 → gG l (gRm 0 0 0) (gQf D b (pI fun r f2 => f2 = f) 0 0) gTt D cy b cX0_read 5 (some .int) RX0 "read" 0 0 f 27 [(3, .int x3), (0, .ref c), (1, .int t), (2, .int d)] [] := by
  intro k
  induction k with
  | zero =>
    intro x3 hx hk
    refine gz_iload_n dX0_read_27 rfl rfl ?_
    refine gz_if_lt (tgt := 63) dX0_read_28 (by decide) (fun c_28 => ?_) (fun c_28 => ?_)
    ·
      refine gz_iconst (v := 0) dX0_read_63 (by decide) ?_
      exact gz_iret rfl dX0_read_64 (Nat.le_of_ble_eq_true rfl) (Nat.le_of_ble_eq_true rfl) (⟨_, rfl, rfl⟩)
    · exfalso; rw [fl_lt] at c_28; have e0 : (0 : Int32).toInt = 0 := rfl; omega
  | succ k ih =>
    intro x3 hx hk
    have hi : vp_in (t * 400 + x3) 2400 := vin_T (idx2 htd ⟨by omega, by omega⟩) (by omega) (by omega)
    refine gz_iload_n dX0_read_27 rfl rfl ?_
    refine gz_if_lt (tgt := 63) dX0_read_28 (by decide) (fun c_28 => ?_) (fun c_28 => ?_)
    · exfalso; rw [fl_lt] at c_28; have e0 : (0 : Int32).toInt = 0 := rfl; omega
    ·
      refine gz_aload_n dX0_read_31 rfl rfl ?_
      refine sgX0_9 hc rfl dX0_read_32 ?_
      refine gz_iload_n dX0_read_35 rfl rfl ?_
      refine gz_sipush (v := 400) dX0_read_36 (by decide) ?_
      refine gz_imul dX0_read_39 ?_
      refine gz_iload_n dX0_read_40 rfl rfl ?_
      refine gz_iadd dX0_read_41 ?_
      refine gz_iald ht (hi) dX0_read_42 ?_
      refine gz_istore (lv' := [(4, .int (g (Int32.toNatClampNeg ((t * 400) + x3)))), (3, .int x3), (0, .ref c), (1, .int t), (2, .int d)]) dX0_read_43 (by decide) rfl ?_
      refine gz_iload dX0_read_45 rfl ?_
      refine gz_if_le (tgt := 57) dX0_read_47 (by decide) (fun c_47 => ?_) (fun c_47 => ?_)
      ·
        refine gz_iinc (v := (x3 + (-1))) (lv' := [(3, .int (x3 + (-1))), (4, .int (g (Int32.toNatClampNeg ((t * 400) + x3)))), (0, .ref c), (1, .int t), (2, .int d)]) dX0_read_57 rfl rfl (by decide) rfl ?_
        refine gz_goto (tgt := 27) dX0_read_60 (by decide) ?_
        refine gz_sub (lv' := [(3, .int (x3 + (-1))), (0, .ref c), (1, .int t), (2, .int d)]) (by simp [List.lookup]) ?_
        exact ih (x3 + (-1)) (by have e1 : (-1 : Int32).toInt = -1 := rfl; rw [addT (by omega) (by omega)]; omega) (by omega)
      ·
        refine gz_iload dX0_read_50 rfl ?_
        refine gz_sipush (v := (-10000)) dX0_read_52 (by decide) ?_
        refine gz_iadd dX0_read_55 ?_
        exact gz_iret rfl dX0_read_56 (Nat.le_of_ble_eq_true rfl) (Nat.le_of_ble_eq_true rfl) (⟨_, rfl, rfl⟩)

set_option maxHeartbeats 4000000 in
set_option maxRecDepth 100000 in
theorem k_X0_read_any {l : Launch} {D : va_G} {cy : Nat → ClassId} {b : Nat} {f : gMem} {c to td : Nat} {t d : Int32} {g : Nat → Int32} (hc : f c = some (.inr (0, [.ref to, .ref td]))) (ht : f to = some (.inl (cy 0, 2400, .inl (g))))  : gC l D cy b yX0_read cX0_read 5 (some .int) 0 0 0 [.ref c, .int t, .int d] f (pI fun r f2 => f2 = f) := by
  refine gC_of (by decide) (Nat.le_of_ble_eq_true rfl) ?_
  show gG l _ _ _ D cy b cX0_read 5 _ RX0 "read" 0 0 f 0 [(0, .ref c), (1, .int t), (2, .int d)] []
  refine gz_iload_n dX0_read_0 rfl rfl ?_
  refine gz_if_lt (tgt := 21) dX0_read_1 (by decide) (fun c_1 => ?_) (fun c_1 => ?_)
  ·
    refine gz_sipush (v := (-10000)) dX0_read_21 (by decide) ?_
    exact gz_iret rfl dX0_read_24 (Nat.le_of_ble_eq_true rfl) (Nat.le_of_ble_eq_true rfl) (⟨_, rfl, rfl⟩)
  ·
    refine gz_iload_n dX0_read_4 rfl rfl ?_
    refine gz_bipush (v := 6) dX0_read_5 (by decide) ?_
    refine gz_icmp_ge (tgt := 21) dX0_read_7 (by decide) (fun c_7 => ?_) (fun c_7 => ?_)
    ·
      refine gz_sipush (v := (-10000)) dX0_read_21 (by decide) ?_
      exact gz_iret rfl dX0_read_24 (Nat.le_of_ble_eq_true rfl) (Nat.le_of_ble_eq_true rfl) (⟨_, rfl, rfl⟩)
    ·
      refine gz_iload_n dX0_read_10 rfl rfl ?_
      refine gz_if_lt (tgt := 21) dX0_read_11 (by decide) (fun c_11 => ?_) (fun c_11 => ?_)
      ·
        refine gz_sipush (v := (-10000)) dX0_read_21 (by decide) ?_
        exact gz_iret rfl dX0_read_24 (Nat.le_of_ble_eq_true rfl) (Nat.le_of_ble_eq_true rfl) (⟨_, rfl, rfl⟩)
      ·
        refine gz_iload_n dX0_read_14 rfl rfl ?_
        refine gz_sipush (v := 400) dX0_read_15 (by decide) ?_
        refine gz_icmp_lt (tgt := 25) dX0_read_18 (by decide) (fun c_18 => ?_) (fun c_18 => ?_)
        ·
          refine gz_iload_n dX0_read_25 rfl rfl ?_
          refine gz_istore_n (lv' := [(3, .int d), (0, .ref c), (1, .int t), (2, .int d)]) dX0_read_26 rfl (by decide) rfl ?_
          refine gz_sub (lv' := [(3, .int d), (0, .ref c), (1, .int t), (2, .int d)]) (by simp [List.lookup]) ?_
          exact l_X0_read_any hc ht (by have e0 : (0 : Int32).toInt = 0 := rfl; have E0 : (0 : Int64).toInt = 0 := rfl; have e1 : (1 : Int32).toInt = 1 := rfl; have E1 : (1 : Int64).toInt = 1 := rfl; have e2 : (2 : Int32).toInt = 2 := rfl; have E2 : (2 : Int64).toInt = 2 := rfl; have e3 : (3 : Int32).toInt = 3 := rfl; have E3 : (3 : Int64).toInt = 3 := rfl; have e4 : (4 : Int32).toInt = 4 := rfl; have E4 : (4 : Int64).toInt = 4 := rfl; have e5 : (5 : Int32).toInt = 5 := rfl; have E5 : (5 : Int64).toInt = 5 := rfl; have e6 : (6 : Int32).toInt = 6 := rfl; have E6 : (6 : Int64).toInt = 6 := rfl; have e7 : (7 : Int32).toInt = 7 := rfl; have E7 : (7 : Int64).toInt = 7 := rfl; have e8 : (8 : Int32).toInt = 8 := rfl; have E8 : (8 : Int64).toInt = 8 := rfl; have e20 : (20 : Int32).toInt = 20 := rfl; have E20 : (20 : Int64).toInt = 20 := rfl; have e39 : (39 : Int32).toInt = 39 := rfl; have E39 : (39 : Int64).toInt = 39 := rfl; have e40 : (40 : Int32).toInt = 40 := rfl; have E40 : (40 : Int64).toInt = 40 := rfl; have e99 : (99 : Int32).toInt = 99 := rfl; have E99 : (99 : Int64).toInt = 99 := rfl; have em99 : ((-99) : Int32).toInt = (-99) := rfl; have Em99 : ((-99) : Int64).toInt = (-99) := rfl; have e399 : (399 : Int32).toInt = 399 := rfl; have E399 : (399 : Int64).toInt = 399 := rfl; have e400 : (400 : Int32).toInt = 400 := rfl; have E400 : (400 : Int64).toInt = 400 := rfl; have e9999 : (9999 : Int32).toInt = 9999 := rfl; have E9999 : (9999 : Int64).toInt = 9999 := rfl; have em9999 : ((-9999) : Int32).toInt = (-9999) := rfl; have Em9999 : ((-9999) : Int64).toInt = (-9999) := rfl; have em10000 : ((-10000) : Int32).toInt = (-10000) := rfl; have Em10000 : ((-10000) : Int64).toInt = (-10000) := rfl; have em1 : ((-1) : Int32).toInt = (-1) := rfl; have Em1 : ((-1) : Int64).toInt = (-1) := rfl; have e10 : (10 : Int32).toInt = 10 := rfl; have E10 : (10 : Int64).toInt = 10 := rfl; have e17 : (17 : Int32).toInt = 17 := rfl; have E17 : (17 : Int64).toInt = 17 := rfl; simp only [fl_lt, fl_le] at c_1 c_7 c_11 c_18; omega) (d.toInt.toNat + 1) d (by have e0 : (0 : Int32).toInt = 0 := rfl; have E0 : (0 : Int64).toInt = 0 := rfl; have e1 : (1 : Int32).toInt = 1 := rfl; have E1 : (1 : Int64).toInt = 1 := rfl; have e2 : (2 : Int32).toInt = 2 := rfl; have E2 : (2 : Int64).toInt = 2 := rfl; have e3 : (3 : Int32).toInt = 3 := rfl; have E3 : (3 : Int64).toInt = 3 := rfl; have e4 : (4 : Int32).toInt = 4 := rfl; have E4 : (4 : Int64).toInt = 4 := rfl; have e5 : (5 : Int32).toInt = 5 := rfl; have E5 : (5 : Int64).toInt = 5 := rfl; have e6 : (6 : Int32).toInt = 6 := rfl; have E6 : (6 : Int64).toInt = 6 := rfl; have e7 : (7 : Int32).toInt = 7 := rfl; have E7 : (7 : Int64).toInt = 7 := rfl; have e8 : (8 : Int32).toInt = 8 := rfl; have E8 : (8 : Int64).toInt = 8 := rfl; have e20 : (20 : Int32).toInt = 20 := rfl; have E20 : (20 : Int64).toInt = 20 := rfl; have e39 : (39 : Int32).toInt = 39 := rfl; have E39 : (39 : Int64).toInt = 39 := rfl; have e40 : (40 : Int32).toInt = 40 := rfl; have E40 : (40 : Int64).toInt = 40 := rfl; have e99 : (99 : Int32).toInt = 99 := rfl; have E99 : (99 : Int64).toInt = 99 := rfl; have em99 : ((-99) : Int32).toInt = (-99) := rfl; have Em99 : ((-99) : Int64).toInt = (-99) := rfl; have e399 : (399 : Int32).toInt = 399 := rfl; have E399 : (399 : Int64).toInt = 399 := rfl; have e400 : (400 : Int32).toInt = 400 := rfl; have E400 : (400 : Int64).toInt = 400 := rfl; have e9999 : (9999 : Int32).toInt = 9999 := rfl; have E9999 : (9999 : Int64).toInt = 9999 := rfl; have em9999 : ((-9999) : Int32).toInt = (-9999) := rfl; have Em9999 : ((-9999) : Int64).toInt = (-9999) := rfl; have em10000 : ((-10000) : Int32).toInt = (-10000) := rfl; have Em10000 : ((-10000) : Int64).toInt = (-10000) := rfl; have em1 : ((-1) : Int32).toInt = (-1) := rfl; have Em1 : ((-1) : Int64).toInt = (-1) := rfl; have e10 : (10 : Int32).toInt = 10 := rfl; have E10 : (10 : Int64).toInt = 10 := rfl; have e17 : (17 : Int32).toInt = 17 := rfl; have E17 : (17 : Int64).toInt = 17 := rfl; simp only [fl_lt, fl_le] at c_1 c_7 c_11 c_18; omega) (by have e0 : (0 : Int32).toInt = 0 := rfl; have E0 : (0 : Int64).toInt = 0 := rfl; have e1 : (1 : Int32).toInt = 1 := rfl; have E1 : (1 : Int64).toInt = 1 := rfl; have e2 : (2 : Int32).toInt = 2 := rfl; have E2 : (2 : Int64).toInt = 2 := rfl; have e3 : (3 : Int32).toInt = 3 := rfl; have E3 : (3 : Int64).toInt = 3 := rfl; have e4 : (4 : Int32).toInt = 4 := rfl; have E4 : (4 : Int64).toInt = 4 := rfl; have e5 : (5 : Int32).toInt = 5 := rfl; have E5 : (5 : Int64).toInt = 5 := rfl; have e6 : (6 : Int32).toInt = 6 := rfl; have E6 : (6 : Int64).toInt = 6 := rfl; have e7 : (7 : Int32).toInt = 7 := rfl; have E7 : (7 : Int64).toInt = 7 := rfl; have e8 : (8 : Int32).toInt = 8 := rfl; have E8 : (8 : Int64).toInt = 8 := rfl; have e20 : (20 : Int32).toInt = 20 := rfl; have E20 : (20 : Int64).toInt = 20 := rfl; have e39 : (39 : Int32).toInt = 39 := rfl; have E39 : (39 : Int64).toInt = 39 := rfl; have e40 : (40 : Int32).toInt = 40 := rfl; have E40 : (40 : Int64).toInt = 40 := rfl; have e99 : (99 : Int32).toInt = 99 := rfl; have E99 : (99 : Int64).toInt = 99 := rfl; have em99 : ((-99) : Int32).toInt = (-99) := rfl; have Em99 : ((-99) : Int64).toInt = (-99) := rfl; have e399 : (399 : Int32).toInt = 399 := rfl; have E399 : (399 : Int64).toInt = 399 := rfl; have e400 : (400 : Int32).toInt = 400 := rfl; have E400 : (400 : Int64).toInt = 400 := rfl; have e9999 : (9999 : Int32).toInt = 9999 := rfl; have E9999 : (9999 : Int64).toInt = 9999 := rfl; have em9999 : ((-9999) : Int32).toInt = (-9999) := rfl; have Em9999 : ((-9999) : Int64).toInt = (-9999) := rfl; have em10000 : ((-10000) : Int32).toInt = (-10000) := rfl; have Em10000 : ((-10000) : Int64).toInt = (-10000) := rfl; have em1 : ((-1) : Int32).toInt = (-1) := rfl; have Em1 : ((-1) : Int64).toInt = (-1) := rfl; have e10 : (10 : Int32).toInt = 10 := rfl; have E10 : (10 : Int64).toInt = 10 := rfl; have e17 : (17 : Int32).toInt = 17 := rfl; have E17 : (17 : Int64).toInt = 17 := rfl; simp only [fl_lt, fl_le] at c_1 c_7 c_11 c_18; omega)
        ·
          refine gz_sipush (v := (-10000)) dX0_read_21 (by decide) ?_
          exact gz_iret rfl dX0_read_24 (Nat.le_of_ble_eq_true rfl) (Nat.le_of_ble_eq_true rfl) (⟨_, rfl, rfl⟩)

set_option maxHeartbeats 4000000 in
set_option maxRecDepth 100000 in
theorem k_X7_setThing {l : Launch} {D : va_G} {cy : Nat → ClassId} {b : Nat} {f : gMem} {s th : Nat} {t v da : Int32} {g : Nat → Int32} (hs : f s = some (.inr (7, [.ref th, .int da]))) (hth : f th = some (.inl (cy 0, 6, .inl (g))))  : gC l D cy b yX7_setThing cX7_setThing 3 none 0 0 0 [.ref s, .int t, .int v] f (pV fun f2 => fr [th] f f2) := by
  refine gC_of (by decide) (Nat.le_of_ble_eq_true rfl) ?_
  show gG l _ _ _ D cy b cX7_setThing 3 _ RX7 "setThing" 0 0 f 0 [(0, .ref s), (1, .int t), (2, .int v)] []
  refine gz_iload_n dX7_setThing_0 rfl rfl ?_
  refine gz_if_lt (tgt := 17) dX7_setThing_1 (by decide) (fun c_1 => ?_) (fun c_1 => ?_)
  ·
    exact gz_vret rfl dX7_setThing_17 (Nat.le_of_ble_eq_true rfl) (Nat.le_of_ble_eq_true rfl) (⟨rfl, fr_rf⟩)
  ·
    refine gz_iload_n dX7_setThing_4 rfl rfl ?_
    refine gz_bipush (v := 6) dX7_setThing_5 (by decide) ?_
    refine gz_icmp_ge (tgt := 17) dX7_setThing_7 (by decide) (fun c_7 => ?_) (fun c_7 => ?_)
    ·
      exact gz_vret rfl dX7_setThing_17 (Nat.le_of_ble_eq_true rfl) (Nat.le_of_ble_eq_true rfl) (⟨rfl, fr_rf⟩)
    ·
      refine gz_aload_n dX7_setThing_10 rfl rfl ?_
      refine sgX7_9 hs rfl dX7_setThing_11 ?_
      refine gz_iload_n dX7_setThing_14 rfl rfl ?_
      refine gz_iload_n dX7_setThing_15 rfl rfl ?_
      refine gz_iast hth (vin c_1 c_7 rfl) dX7_setThing_16 ?_
      obtain ⟨f1, hf1⟩ : ∃ gg : gMem, gg = va_up f th (some (.inl (cy 0, 6, .inl (upd g (Int32.toNatClampNeg t) v)))) := ⟨_, rfl⟩
      refine gz_eq (f2 := f1) hf1.symm rfl rfl rfl ?_
      have hs_1 : f1 s = some (.inr (7, [.ref th, .int da])) := by rw [hf1, va_up_ne _ _ (cne hs hth (by simp))]; exact hs
      have hth_1 : f1 th = some (.inl (cy 0, 6, .inl (upd g (Int32.toNatClampNeg t) v))) := by rw [hf1]; exact va_up_self _ _ _
      exact gz_vret rfl dX7_setThing_17 (Nat.le_of_ble_eq_true rfl) (Nat.le_of_ble_eq_true rfl) (⟨rfl, by rw [hf1]; exact fr_up fr_rf (by simp)⟩)

set_option maxHeartbeats 4000000 in
set_option maxRecDepth 100000 in
theorem k_X0_write {l : Launch} {D : va_G} {cy : Nat → ClassId} {b : Nat} {f : gMem} {c to td th : Nat} {t d v : Int32} {gth : Nat → Int32} (hc : f c = some (.inr (0, [.ref to, .ref td]))) (ht : f to = some (.inl (cy 0, 2400, .inl (fun _ => 0)))) (htd : f td = some (.inr (7, [.ref th, .int 0]))) (hth : f th = some (.inl (cy 0, 6, .inl (gth))))  : gC l D cy b yX0_write cX0_write 4 (some .boolean) 1 0 0 [.ref c, .int t, .int d, .int v] f (pI fun r f2 => r = spSee t d v ∧ fr [to, th] f f2) := by
  refine gC_of (by decide) (Nat.le_of_ble_eq_true rfl) ?_
  show gG l _ _ _ D cy b cX0_write 4 _ RX0 "write" 0 0 f 0 [(0, .ref c), (1, .int t), (2, .int d), (3, .int v)] []
  refine gz_iload_n dX0_write_0 rfl rfl ?_
  refine gz_if_lt (tgt := 32) dX0_write_1 (by decide) (fun c_1 => ?_) (fun c_1 => ?_)
  ·
    refine gz_iconst (v := 0) dX0_write_32 (by decide) ?_
    exact gz_zret rfl (by decide) dX0_write_33 (Nat.le_of_ble_eq_true rfl) (Nat.le_of_ble_eq_true rfl) (⟨_, rfl, (by show _ = _; have e0 : (0 : Int32).toInt = 0 := rfl; have E0 : (0 : Int64).toInt = 0 := rfl; have e1 : (1 : Int32).toInt = 1 := rfl; have E1 : (1 : Int64).toInt = 1 := rfl; have e2 : (2 : Int32).toInt = 2 := rfl; have E2 : (2 : Int64).toInt = 2 := rfl; have e3 : (3 : Int32).toInt = 3 := rfl; have E3 : (3 : Int64).toInt = 3 := rfl; have e4 : (4 : Int32).toInt = 4 := rfl; have E4 : (4 : Int64).toInt = 4 := rfl; have e5 : (5 : Int32).toInt = 5 := rfl; have E5 : (5 : Int64).toInt = 5 := rfl; have e6 : (6 : Int32).toInt = 6 := rfl; have E6 : (6 : Int64).toInt = 6 := rfl; have e7 : (7 : Int32).toInt = 7 := rfl; have E7 : (7 : Int64).toInt = 7 := rfl; have e8 : (8 : Int32).toInt = 8 := rfl; have E8 : (8 : Int64).toInt = 8 := rfl; have e20 : (20 : Int32).toInt = 20 := rfl; have E20 : (20 : Int64).toInt = 20 := rfl; have e39 : (39 : Int32).toInt = 39 := rfl; have E39 : (39 : Int64).toInt = 39 := rfl; have e40 : (40 : Int32).toInt = 40 := rfl; have E40 : (40 : Int64).toInt = 40 := rfl; have e99 : (99 : Int32).toInt = 99 := rfl; have E99 : (99 : Int64).toInt = 99 := rfl; have em99 : ((-99) : Int32).toInt = (-99) := rfl; have Em99 : ((-99) : Int64).toInt = (-99) := rfl; have e399 : (399 : Int32).toInt = 399 := rfl; have E399 : (399 : Int64).toInt = 399 := rfl; have e400 : (400 : Int32).toInt = 400 := rfl; have E400 : (400 : Int64).toInt = 400 := rfl; have e9999 : (9999 : Int32).toInt = 9999 := rfl; have E9999 : (9999 : Int64).toInt = 9999 := rfl; have em9999 : ((-9999) : Int32).toInt = (-9999) := rfl; have Em9999 : ((-9999) : Int64).toInt = (-9999) := rfl; have em10000 : ((-10000) : Int32).toInt = (-10000) := rfl; have Em10000 : ((-10000) : Int64).toInt = (-10000) := rfl; have em1 : ((-1) : Int32).toInt = (-1) := rfl; have Em1 : ((-1) : Int64).toInt = (-1) := rfl; have e10 : (10 : Int32).toInt = 10 := rfl; have E10 : (10 : Int64).toInt = 10 := rfl; have e17 : (17 : Int32).toInt = 17 := rfl; have E17 : (17 : Int64).toInt = 17 := rfl; (try simp only [mIn_0, lgc_lt, lgc_gt, lgc_eq, lgc_le, lgc_ge] at c_1); (try simp only [fl_lt, fl_le, fl_eq, fL_lt, fL_le, fL_w] at c_1); first | (rw [spSee, if_pos (by omega)]; first | done | rfl) | (rw [spSee, if_neg (by omega)]; first | done | rfl)), fr_rf⟩)
  ·
    refine gz_iload_n dX0_write_4 rfl rfl ?_
    refine gz_bipush (v := 6) dX0_write_5 (by decide) ?_
    refine gz_icmp_ge (tgt := 32) dX0_write_7 (by decide) (fun c_7 => ?_) (fun c_7 => ?_)
    ·
      refine gz_iconst (v := 0) dX0_write_32 (by decide) ?_
      exact gz_zret rfl (by decide) dX0_write_33 (Nat.le_of_ble_eq_true rfl) (Nat.le_of_ble_eq_true rfl) (⟨_, rfl, (by show _ = _; have e0 : (0 : Int32).toInt = 0 := rfl; have E0 : (0 : Int64).toInt = 0 := rfl; have e1 : (1 : Int32).toInt = 1 := rfl; have E1 : (1 : Int64).toInt = 1 := rfl; have e2 : (2 : Int32).toInt = 2 := rfl; have E2 : (2 : Int64).toInt = 2 := rfl; have e3 : (3 : Int32).toInt = 3 := rfl; have E3 : (3 : Int64).toInt = 3 := rfl; have e4 : (4 : Int32).toInt = 4 := rfl; have E4 : (4 : Int64).toInt = 4 := rfl; have e5 : (5 : Int32).toInt = 5 := rfl; have E5 : (5 : Int64).toInt = 5 := rfl; have e6 : (6 : Int32).toInt = 6 := rfl; have E6 : (6 : Int64).toInt = 6 := rfl; have e7 : (7 : Int32).toInt = 7 := rfl; have E7 : (7 : Int64).toInt = 7 := rfl; have e8 : (8 : Int32).toInt = 8 := rfl; have E8 : (8 : Int64).toInt = 8 := rfl; have e20 : (20 : Int32).toInt = 20 := rfl; have E20 : (20 : Int64).toInt = 20 := rfl; have e39 : (39 : Int32).toInt = 39 := rfl; have E39 : (39 : Int64).toInt = 39 := rfl; have e40 : (40 : Int32).toInt = 40 := rfl; have E40 : (40 : Int64).toInt = 40 := rfl; have e99 : (99 : Int32).toInt = 99 := rfl; have E99 : (99 : Int64).toInt = 99 := rfl; have em99 : ((-99) : Int32).toInt = (-99) := rfl; have Em99 : ((-99) : Int64).toInt = (-99) := rfl; have e399 : (399 : Int32).toInt = 399 := rfl; have E399 : (399 : Int64).toInt = 399 := rfl; have e400 : (400 : Int32).toInt = 400 := rfl; have E400 : (400 : Int64).toInt = 400 := rfl; have e9999 : (9999 : Int32).toInt = 9999 := rfl; have E9999 : (9999 : Int64).toInt = 9999 := rfl; have em9999 : ((-9999) : Int32).toInt = (-9999) := rfl; have Em9999 : ((-9999) : Int64).toInt = (-9999) := rfl; have em10000 : ((-10000) : Int32).toInt = (-10000) := rfl; have Em10000 : ((-10000) : Int64).toInt = (-10000) := rfl; have em1 : ((-1) : Int32).toInt = (-1) := rfl; have Em1 : ((-1) : Int64).toInt = (-1) := rfl; have e10 : (10 : Int32).toInt = 10 := rfl; have E10 : (10 : Int64).toInt = 10 := rfl; have e17 : (17 : Int32).toInt = 17 := rfl; have E17 : (17 : Int64).toInt = 17 := rfl; (try simp only [mIn_0, lgc_lt, lgc_gt, lgc_eq, lgc_le, lgc_ge] at c_1 c_7); (try simp only [fl_lt, fl_le, fl_eq, fL_lt, fL_le, fL_w] at c_1 c_7); first | (rw [spSee, if_pos (by omega)]; first | done | rfl) | (rw [spSee, if_neg (by omega)]; first | done | rfl)), fr_rf⟩)
    ·
      refine gz_iload_n dX0_write_10 rfl rfl ?_
      refine gz_if_lt (tgt := 32) dX0_write_11 (by decide) (fun c_11 => ?_) (fun c_11 => ?_)
      ·
        refine gz_iconst (v := 0) dX0_write_32 (by decide) ?_
        exact gz_zret rfl (by decide) dX0_write_33 (Nat.le_of_ble_eq_true rfl) (Nat.le_of_ble_eq_true rfl) (⟨_, rfl, (by show _ = _; have e0 : (0 : Int32).toInt = 0 := rfl; have E0 : (0 : Int64).toInt = 0 := rfl; have e1 : (1 : Int32).toInt = 1 := rfl; have E1 : (1 : Int64).toInt = 1 := rfl; have e2 : (2 : Int32).toInt = 2 := rfl; have E2 : (2 : Int64).toInt = 2 := rfl; have e3 : (3 : Int32).toInt = 3 := rfl; have E3 : (3 : Int64).toInt = 3 := rfl; have e4 : (4 : Int32).toInt = 4 := rfl; have E4 : (4 : Int64).toInt = 4 := rfl; have e5 : (5 : Int32).toInt = 5 := rfl; have E5 : (5 : Int64).toInt = 5 := rfl; have e6 : (6 : Int32).toInt = 6 := rfl; have E6 : (6 : Int64).toInt = 6 := rfl; have e7 : (7 : Int32).toInt = 7 := rfl; have E7 : (7 : Int64).toInt = 7 := rfl; have e8 : (8 : Int32).toInt = 8 := rfl; have E8 : (8 : Int64).toInt = 8 := rfl; have e20 : (20 : Int32).toInt = 20 := rfl; have E20 : (20 : Int64).toInt = 20 := rfl; have e39 : (39 : Int32).toInt = 39 := rfl; have E39 : (39 : Int64).toInt = 39 := rfl; have e40 : (40 : Int32).toInt = 40 := rfl; have E40 : (40 : Int64).toInt = 40 := rfl; have e99 : (99 : Int32).toInt = 99 := rfl; have E99 : (99 : Int64).toInt = 99 := rfl; have em99 : ((-99) : Int32).toInt = (-99) := rfl; have Em99 : ((-99) : Int64).toInt = (-99) := rfl; have e399 : (399 : Int32).toInt = 399 := rfl; have E399 : (399 : Int64).toInt = 399 := rfl; have e400 : (400 : Int32).toInt = 400 := rfl; have E400 : (400 : Int64).toInt = 400 := rfl; have e9999 : (9999 : Int32).toInt = 9999 := rfl; have E9999 : (9999 : Int64).toInt = 9999 := rfl; have em9999 : ((-9999) : Int32).toInt = (-9999) := rfl; have Em9999 : ((-9999) : Int64).toInt = (-9999) := rfl; have em10000 : ((-10000) : Int32).toInt = (-10000) := rfl; have Em10000 : ((-10000) : Int64).toInt = (-10000) := rfl; have em1 : ((-1) : Int32).toInt = (-1) := rfl; have Em1 : ((-1) : Int64).toInt = (-1) := rfl; have e10 : (10 : Int32).toInt = 10 := rfl; have E10 : (10 : Int64).toInt = 10 := rfl; have e17 : (17 : Int32).toInt = 17 := rfl; have E17 : (17 : Int64).toInt = 17 := rfl; (try simp only [mIn_0, lgc_lt, lgc_gt, lgc_eq, lgc_le, lgc_ge] at c_1 c_7 c_11); (try simp only [fl_lt, fl_le, fl_eq, fL_lt, fL_le, fL_w] at c_1 c_7 c_11); first | (rw [spSee, if_pos (by omega)]; first | done | rfl) | (rw [spSee, if_neg (by omega)]; first | done | rfl)), fr_rf⟩)
      ·
        refine gz_iload_n dX0_write_14 rfl rfl ?_
        refine gz_sipush (v := 400) dX0_write_15 (by decide) ?_
        refine gz_icmp_ge (tgt := 32) dX0_write_18 (by decide) (fun c_18 => ?_) (fun c_18 => ?_)
        ·
          refine gz_iconst (v := 0) dX0_write_32 (by decide) ?_
          exact gz_zret rfl (by decide) dX0_write_33 (Nat.le_of_ble_eq_true rfl) (Nat.le_of_ble_eq_true rfl) (⟨_, rfl, (by show _ = _; have e0 : (0 : Int32).toInt = 0 := rfl; have E0 : (0 : Int64).toInt = 0 := rfl; have e1 : (1 : Int32).toInt = 1 := rfl; have E1 : (1 : Int64).toInt = 1 := rfl; have e2 : (2 : Int32).toInt = 2 := rfl; have E2 : (2 : Int64).toInt = 2 := rfl; have e3 : (3 : Int32).toInt = 3 := rfl; have E3 : (3 : Int64).toInt = 3 := rfl; have e4 : (4 : Int32).toInt = 4 := rfl; have E4 : (4 : Int64).toInt = 4 := rfl; have e5 : (5 : Int32).toInt = 5 := rfl; have E5 : (5 : Int64).toInt = 5 := rfl; have e6 : (6 : Int32).toInt = 6 := rfl; have E6 : (6 : Int64).toInt = 6 := rfl; have e7 : (7 : Int32).toInt = 7 := rfl; have E7 : (7 : Int64).toInt = 7 := rfl; have e8 : (8 : Int32).toInt = 8 := rfl; have E8 : (8 : Int64).toInt = 8 := rfl; have e20 : (20 : Int32).toInt = 20 := rfl; have E20 : (20 : Int64).toInt = 20 := rfl; have e39 : (39 : Int32).toInt = 39 := rfl; have E39 : (39 : Int64).toInt = 39 := rfl; have e40 : (40 : Int32).toInt = 40 := rfl; have E40 : (40 : Int64).toInt = 40 := rfl; have e99 : (99 : Int32).toInt = 99 := rfl; have E99 : (99 : Int64).toInt = 99 := rfl; have em99 : ((-99) : Int32).toInt = (-99) := rfl; have Em99 : ((-99) : Int64).toInt = (-99) := rfl; have e399 : (399 : Int32).toInt = 399 := rfl; have E399 : (399 : Int64).toInt = 399 := rfl; have e400 : (400 : Int32).toInt = 400 := rfl; have E400 : (400 : Int64).toInt = 400 := rfl; have e9999 : (9999 : Int32).toInt = 9999 := rfl; have E9999 : (9999 : Int64).toInt = 9999 := rfl; have em9999 : ((-9999) : Int32).toInt = (-9999) := rfl; have Em9999 : ((-9999) : Int64).toInt = (-9999) := rfl; have em10000 : ((-10000) : Int32).toInt = (-10000) := rfl; have Em10000 : ((-10000) : Int64).toInt = (-10000) := rfl; have em1 : ((-1) : Int32).toInt = (-1) := rfl; have Em1 : ((-1) : Int64).toInt = (-1) := rfl; have e10 : (10 : Int32).toInt = 10 := rfl; have E10 : (10 : Int64).toInt = 10 := rfl; have e17 : (17 : Int32).toInt = 17 := rfl; have E17 : (17 : Int64).toInt = 17 := rfl; (try simp only [mIn_0, lgc_lt, lgc_gt, lgc_eq, lgc_le, lgc_ge] at c_1 c_7 c_11 c_18); (try simp only [fl_lt, fl_le, fl_eq, fL_lt, fL_le, fL_w] at c_1 c_7 c_11 c_18); first | (rw [spSee, if_pos (by omega)]; first | done | rfl) | (rw [spSee, if_neg (by omega)]; first | done | rfl)), fr_rf⟩)
        ·
          refine gz_iload_n dX0_write_21 rfl rfl ?_
          refine gz_aload_n dX0_write_22 rfl rfl ?_
          refine sgX0_18 hc rfl dX0_write_23 ?_
          refine sgX0_22 htd rfl dX0_write_26 ?_
          refine gz_icmp_le (tgt := 34) dX0_write_29 (by decide) (fun c_29 => ?_) (fun c_29 => ?_)
          ·
            refine gz_iload_n dX0_write_34 rfl rfl ?_
            refine gz_sipush (v := (-9999)) dX0_write_35 (by decide) ?_
            refine gz_icmp_lt (tgt := 48) dX0_write_38 (by decide) (fun c_38 => ?_) (fun c_38 => ?_)
            ·
              refine gz_iconst (v := 0) dX0_write_48 (by decide) ?_
              exact gz_zret rfl (by decide) dX0_write_49 (Nat.le_of_ble_eq_true rfl) (Nat.le_of_ble_eq_true rfl) (⟨_, rfl, (by show _ = _; have e0 : (0 : Int32).toInt = 0 := rfl; have E0 : (0 : Int64).toInt = 0 := rfl; have e1 : (1 : Int32).toInt = 1 := rfl; have E1 : (1 : Int64).toInt = 1 := rfl; have e2 : (2 : Int32).toInt = 2 := rfl; have E2 : (2 : Int64).toInt = 2 := rfl; have e3 : (3 : Int32).toInt = 3 := rfl; have E3 : (3 : Int64).toInt = 3 := rfl; have e4 : (4 : Int32).toInt = 4 := rfl; have E4 : (4 : Int64).toInt = 4 := rfl; have e5 : (5 : Int32).toInt = 5 := rfl; have E5 : (5 : Int64).toInt = 5 := rfl; have e6 : (6 : Int32).toInt = 6 := rfl; have E6 : (6 : Int64).toInt = 6 := rfl; have e7 : (7 : Int32).toInt = 7 := rfl; have E7 : (7 : Int64).toInt = 7 := rfl; have e8 : (8 : Int32).toInt = 8 := rfl; have E8 : (8 : Int64).toInt = 8 := rfl; have e20 : (20 : Int32).toInt = 20 := rfl; have E20 : (20 : Int64).toInt = 20 := rfl; have e39 : (39 : Int32).toInt = 39 := rfl; have E39 : (39 : Int64).toInt = 39 := rfl; have e40 : (40 : Int32).toInt = 40 := rfl; have E40 : (40 : Int64).toInt = 40 := rfl; have e99 : (99 : Int32).toInt = 99 := rfl; have E99 : (99 : Int64).toInt = 99 := rfl; have em99 : ((-99) : Int32).toInt = (-99) := rfl; have Em99 : ((-99) : Int64).toInt = (-99) := rfl; have e399 : (399 : Int32).toInt = 399 := rfl; have E399 : (399 : Int64).toInt = 399 := rfl; have e400 : (400 : Int32).toInt = 400 := rfl; have E400 : (400 : Int64).toInt = 400 := rfl; have e9999 : (9999 : Int32).toInt = 9999 := rfl; have E9999 : (9999 : Int64).toInt = 9999 := rfl; have em9999 : ((-9999) : Int32).toInt = (-9999) := rfl; have Em9999 : ((-9999) : Int64).toInt = (-9999) := rfl; have em10000 : ((-10000) : Int32).toInt = (-10000) := rfl; have Em10000 : ((-10000) : Int64).toInt = (-10000) := rfl; have em1 : ((-1) : Int32).toInt = (-1) := rfl; have Em1 : ((-1) : Int64).toInt = (-1) := rfl; have e10 : (10 : Int32).toInt = 10 := rfl; have E10 : (10 : Int64).toInt = 10 := rfl; have e17 : (17 : Int32).toInt = 17 := rfl; have E17 : (17 : Int64).toInt = 17 := rfl; (try simp only [mIn_0, lgc_lt, lgc_gt, lgc_eq, lgc_le, lgc_ge] at c_1 c_7 c_11 c_18 c_29 c_38); (try simp only [fl_lt, fl_le, fl_eq, fL_lt, fL_le, fL_w] at c_1 c_7 c_11 c_18 c_29 c_38); first | (rw [spSee, if_pos (by omega)]; first | done | rfl) | (rw [spSee, if_neg (by omega)]; first | done | rfl)), fr_rf⟩)
            ·
              refine gz_iload_n dX0_write_41 rfl rfl ?_
              refine gz_sipush (v := 9999) dX0_write_42 (by decide) ?_
              refine gz_icmp_le (tgt := 50) dX0_write_45 (by decide) (fun c_45 => ?_) (fun c_45 => ?_)
              ·
                refine gz_aload_n dX0_write_50 rfl rfl ?_
                refine sgX0_9 hc rfl dX0_write_51 ?_
                refine gz_iload_n dX0_write_54 rfl rfl ?_
                refine gz_sipush (v := 400) dX0_write_55 (by decide) ?_
                refine gz_imul dX0_write_58 ?_
                refine gz_iload_n dX0_write_59 rfl rfl ?_
                refine gz_iadd dX0_write_60 ?_
                refine gz_iload_n dX0_write_61 rfl rfl ?_
                refine gz_sipush (v := (-10000)) dX0_write_62 (by decide) ?_
                refine gz_isub dX0_write_65 ?_
                refine gz_iast ht (vin_T (idx2 (t := t) (x := d) (by have e0 : (0 : Int32).toInt = 0 := rfl; have E0 : (0 : Int64).toInt = 0 := rfl; have e1 : (1 : Int32).toInt = 1 := rfl; have E1 : (1 : Int64).toInt = 1 := rfl; have e2 : (2 : Int32).toInt = 2 := rfl; have E2 : (2 : Int64).toInt = 2 := rfl; have e3 : (3 : Int32).toInt = 3 := rfl; have E3 : (3 : Int64).toInt = 3 := rfl; have e4 : (4 : Int32).toInt = 4 := rfl; have E4 : (4 : Int64).toInt = 4 := rfl; have e5 : (5 : Int32).toInt = 5 := rfl; have E5 : (5 : Int64).toInt = 5 := rfl; have e6 : (6 : Int32).toInt = 6 := rfl; have E6 : (6 : Int64).toInt = 6 := rfl; have e7 : (7 : Int32).toInt = 7 := rfl; have E7 : (7 : Int64).toInt = 7 := rfl; have e8 : (8 : Int32).toInt = 8 := rfl; have E8 : (8 : Int64).toInt = 8 := rfl; have e20 : (20 : Int32).toInt = 20 := rfl; have E20 : (20 : Int64).toInt = 20 := rfl; have e39 : (39 : Int32).toInt = 39 := rfl; have E39 : (39 : Int64).toInt = 39 := rfl; have e40 : (40 : Int32).toInt = 40 := rfl; have E40 : (40 : Int64).toInt = 40 := rfl; have e99 : (99 : Int32).toInt = 99 := rfl; have E99 : (99 : Int64).toInt = 99 := rfl; have em99 : ((-99) : Int32).toInt = (-99) := rfl; have Em99 : ((-99) : Int64).toInt = (-99) := rfl; have e399 : (399 : Int32).toInt = 399 := rfl; have E399 : (399 : Int64).toInt = 399 := rfl; have e400 : (400 : Int32).toInt = 400 := rfl; have E400 : (400 : Int64).toInt = 400 := rfl; have e9999 : (9999 : Int32).toInt = 9999 := rfl; have E9999 : (9999 : Int64).toInt = 9999 := rfl; have em9999 : ((-9999) : Int32).toInt = (-9999) := rfl; have Em9999 : ((-9999) : Int64).toInt = (-9999) := rfl; have em10000 : ((-10000) : Int32).toInt = (-10000) := rfl; have Em10000 : ((-10000) : Int64).toInt = (-10000) := rfl; have em1 : ((-1) : Int32).toInt = (-1) := rfl; have Em1 : ((-1) : Int64).toInt = (-1) := rfl; have e10 : (10 : Int32).toInt = 10 := rfl; have E10 : (10 : Int64).toInt = 10 := rfl; have e17 : (17 : Int32).toInt = 17 := rfl; have E17 : (17 : Int64).toInt = 17 := rfl; simp only [fl_lt, fl_le] at c_1 c_7 c_11 c_18 c_29; omega) (by have e0 : (0 : Int32).toInt = 0 := rfl; have E0 : (0 : Int64).toInt = 0 := rfl; have e1 : (1 : Int32).toInt = 1 := rfl; have E1 : (1 : Int64).toInt = 1 := rfl; have e2 : (2 : Int32).toInt = 2 := rfl; have E2 : (2 : Int64).toInt = 2 := rfl; have e3 : (3 : Int32).toInt = 3 := rfl; have E3 : (3 : Int64).toInt = 3 := rfl; have e4 : (4 : Int32).toInt = 4 := rfl; have E4 : (4 : Int64).toInt = 4 := rfl; have e5 : (5 : Int32).toInt = 5 := rfl; have E5 : (5 : Int64).toInt = 5 := rfl; have e6 : (6 : Int32).toInt = 6 := rfl; have E6 : (6 : Int64).toInt = 6 := rfl; have e7 : (7 : Int32).toInt = 7 := rfl; have E7 : (7 : Int64).toInt = 7 := rfl; have e8 : (8 : Int32).toInt = 8 := rfl; have E8 : (8 : Int64).toInt = 8 := rfl; have e20 : (20 : Int32).toInt = 20 := rfl; have E20 : (20 : Int64).toInt = 20 := rfl; have e39 : (39 : Int32).toInt = 39 := rfl; have E39 : (39 : Int64).toInt = 39 := rfl; have e40 : (40 : Int32).toInt = 40 := rfl; have E40 : (40 : Int64).toInt = 40 := rfl; have e99 : (99 : Int32).toInt = 99 := rfl; have E99 : (99 : Int64).toInt = 99 := rfl; have em99 : ((-99) : Int32).toInt = (-99) := rfl; have Em99 : ((-99) : Int64).toInt = (-99) := rfl; have e399 : (399 : Int32).toInt = 399 := rfl; have E399 : (399 : Int64).toInt = 399 := rfl; have e400 : (400 : Int32).toInt = 400 := rfl; have E400 : (400 : Int64).toInt = 400 := rfl; have e9999 : (9999 : Int32).toInt = 9999 := rfl; have E9999 : (9999 : Int64).toInt = 9999 := rfl; have em9999 : ((-9999) : Int32).toInt = (-9999) := rfl; have Em9999 : ((-9999) : Int64).toInt = (-9999) := rfl; have em10000 : ((-10000) : Int32).toInt = (-10000) := rfl; have Em10000 : ((-10000) : Int64).toInt = (-10000) := rfl; have em1 : ((-1) : Int32).toInt = (-1) := rfl; have Em1 : ((-1) : Int64).toInt = (-1) := rfl; have e10 : (10 : Int32).toInt = 10 := rfl; have E10 : (10 : Int64).toInt = 10 := rfl; have e17 : (17 : Int32).toInt = 17 := rfl; have E17 : (17 : Int64).toInt = 17 := rfl; simp only [fl_lt, fl_le] at c_1 c_7 c_11 c_18 c_29; omega)) (by have e0 : (0 : Int32).toInt = 0 := rfl; have E0 : (0 : Int64).toInt = 0 := rfl; have e1 : (1 : Int32).toInt = 1 := rfl; have E1 : (1 : Int64).toInt = 1 := rfl; have e2 : (2 : Int32).toInt = 2 := rfl; have E2 : (2 : Int64).toInt = 2 := rfl; have e3 : (3 : Int32).toInt = 3 := rfl; have E3 : (3 : Int64).toInt = 3 := rfl; have e4 : (4 : Int32).toInt = 4 := rfl; have E4 : (4 : Int64).toInt = 4 := rfl; have e5 : (5 : Int32).toInt = 5 := rfl; have E5 : (5 : Int64).toInt = 5 := rfl; have e6 : (6 : Int32).toInt = 6 := rfl; have E6 : (6 : Int64).toInt = 6 := rfl; have e7 : (7 : Int32).toInt = 7 := rfl; have E7 : (7 : Int64).toInt = 7 := rfl; have e8 : (8 : Int32).toInt = 8 := rfl; have E8 : (8 : Int64).toInt = 8 := rfl; have e20 : (20 : Int32).toInt = 20 := rfl; have E20 : (20 : Int64).toInt = 20 := rfl; have e39 : (39 : Int32).toInt = 39 := rfl; have E39 : (39 : Int64).toInt = 39 := rfl; have e40 : (40 : Int32).toInt = 40 := rfl; have E40 : (40 : Int64).toInt = 40 := rfl; have e99 : (99 : Int32).toInt = 99 := rfl; have E99 : (99 : Int64).toInt = 99 := rfl; have em99 : ((-99) : Int32).toInt = (-99) := rfl; have Em99 : ((-99) : Int64).toInt = (-99) := rfl; have e399 : (399 : Int32).toInt = 399 := rfl; have E399 : (399 : Int64).toInt = 399 := rfl; have e400 : (400 : Int32).toInt = 400 := rfl; have E400 : (400 : Int64).toInt = 400 := rfl; have e9999 : (9999 : Int32).toInt = 9999 := rfl; have E9999 : (9999 : Int64).toInt = 9999 := rfl; have em9999 : ((-9999) : Int32).toInt = (-9999) := rfl; have Em9999 : ((-9999) : Int64).toInt = (-9999) := rfl; have em10000 : ((-10000) : Int32).toInt = (-10000) := rfl; have Em10000 : ((-10000) : Int64).toInt = (-10000) := rfl; have em1 : ((-1) : Int32).toInt = (-1) := rfl; have Em1 : ((-1) : Int64).toInt = (-1) := rfl; have e10 : (10 : Int32).toInt = 10 := rfl; have E10 : (10 : Int64).toInt = 10 := rfl; have e17 : (17 : Int32).toInt = 17 := rfl; have E17 : (17 : Int64).toInt = 17 := rfl; simp only [fl_lt, fl_le] at c_1 c_7 c_11 c_18 c_29; omega) (by have e0 : (0 : Int32).toInt = 0 := rfl; have E0 : (0 : Int64).toInt = 0 := rfl; have e1 : (1 : Int32).toInt = 1 := rfl; have E1 : (1 : Int64).toInt = 1 := rfl; have e2 : (2 : Int32).toInt = 2 := rfl; have E2 : (2 : Int64).toInt = 2 := rfl; have e3 : (3 : Int32).toInt = 3 := rfl; have E3 : (3 : Int64).toInt = 3 := rfl; have e4 : (4 : Int32).toInt = 4 := rfl; have E4 : (4 : Int64).toInt = 4 := rfl; have e5 : (5 : Int32).toInt = 5 := rfl; have E5 : (5 : Int64).toInt = 5 := rfl; have e6 : (6 : Int32).toInt = 6 := rfl; have E6 : (6 : Int64).toInt = 6 := rfl; have e7 : (7 : Int32).toInt = 7 := rfl; have E7 : (7 : Int64).toInt = 7 := rfl; have e8 : (8 : Int32).toInt = 8 := rfl; have E8 : (8 : Int64).toInt = 8 := rfl; have e20 : (20 : Int32).toInt = 20 := rfl; have E20 : (20 : Int64).toInt = 20 := rfl; have e39 : (39 : Int32).toInt = 39 := rfl; have E39 : (39 : Int64).toInt = 39 := rfl; have e40 : (40 : Int32).toInt = 40 := rfl; have E40 : (40 : Int64).toInt = 40 := rfl; have e99 : (99 : Int32).toInt = 99 := rfl; have E99 : (99 : Int64).toInt = 99 := rfl; have em99 : ((-99) : Int32).toInt = (-99) := rfl; have Em99 : ((-99) : Int64).toInt = (-99) := rfl; have e399 : (399 : Int32).toInt = 399 := rfl; have E399 : (399 : Int64).toInt = 399 := rfl; have e400 : (400 : Int32).toInt = 400 := rfl; have E400 : (400 : Int64).toInt = 400 := rfl; have e9999 : (9999 : Int32).toInt = 9999 := rfl; have E9999 : (9999 : Int64).toInt = 9999 := rfl; have em9999 : ((-9999) : Int32).toInt = (-9999) := rfl; have Em9999 : ((-9999) : Int64).toInt = (-9999) := rfl; have em10000 : ((-10000) : Int32).toInt = (-10000) := rfl; have Em10000 : ((-10000) : Int64).toInt = (-10000) := rfl; have em1 : ((-1) : Int32).toInt = (-1) := rfl; have Em1 : ((-1) : Int64).toInt = (-1) := rfl; have e10 : (10 : Int32).toInt = 10 := rfl; have E10 : (10 : Int64).toInt = 10 := rfl; have e17 : (17 : Int32).toInt = 17 := rfl; have E17 : (17 : Int64).toInt = 17 := rfl; simp only [fl_lt, fl_le] at c_1 c_7 c_11 c_18 c_29; omega)) dX0_write_66 ?_
                obtain ⟨f1, hf1⟩ : ∃ gg : gMem, gg = va_up f to (some (.inl (cy 0, 2400, .inl (upd (fun _ => 0) (Int32.toNatClampNeg ((t * 400) + d)) (v - (-10000)))))) := ⟨_, rfl⟩
                refine gz_eq (f2 := f1) hf1.symm rfl rfl rfl ?_
                have hc_1 : f1 c = some (.inr (0, [.ref to, .ref td])) := by rw [hf1, va_up_ne _ _ (cne hc ht (by simp))]; exact hc
                have htd_1 : f1 td = some (.inr (7, [.ref th, .int 0])) := by rw [hf1, va_up_ne _ _ (cne htd ht (by simp))]; exact htd
                have hth_1 : f1 th = some (.inl (cy 0, 6, .inl (gth))) := by rw [hf1, va_up_ne _ _ (cne hth ht (by simp))]; exact hth
                have ht_1 : f1 to = some (.inl (cy 0, 2400, .inl (upd (fun _ => 0) (Int32.toNatClampNeg ((t * 400) + d)) (v - (-10000))))) := by rw [hf1]; exact va_up_self _ _ _
                refine gz_aload_n dX0_write_67 rfl rfl ?_
                refine sgX0_18 hc_1 rfl dX0_write_68 ?_
                refine gz_iload_n dX0_write_71 rfl rfl ?_
                refine gz_aload_n dX0_write_72 rfl rfl ?_
                refine gz_iload_n dX0_write_73 rfl rfl ?_
                refine gz_aload_n dX0_write_74 rfl rfl ?_
                refine sgX0_18 hc_1 rfl dX0_write_75 ?_
                refine sgX0_22 htd_1 rfl dX0_write_78 ?_
                refine scX0_26 (k_X0_read_any (t := t) (d := 0) hc_1 ht_1) hc_1 ⟨(Nat.le_of_ble_eq_true rfl), (Nat.le_of_ble_eq_true rfl)⟩ ⟨(Nat.le_of_ble_eq_true rfl), (Nat.le_of_ble_eq_true rfl)⟩ rfl rfl (Nat.le_of_ble_eq_true rfl) dX0_write_81 ?_
                intro v8 f8 z8; rw [show f8 = _ from z8]
                refine scX0_30 (k_X7_setThing (t := t) (v := v8) htd_1 hth_1) htd_1 ⟨(Nat.le_of_ble_eq_true rfl), (Nat.le_of_ble_eq_true rfl)⟩ ⟨(Nat.le_of_ble_eq_true rfl), (Nat.le_of_ble_eq_true rfl)⟩ rfl rfl (Nat.le_of_ble_eq_true rfl) dX0_write_84 ?_
                intro f7 z7
                refine gz_iconst (v := 1) dX0_write_87 (by decide) ?_
                exact gz_zret rfl (by decide) dX0_write_88 (Nat.le_of_ble_eq_true rfl) (Nat.le_of_ble_eq_true rfl) (⟨_, rfl, (by show _ = _; have e0 : (0 : Int32).toInt = 0 := rfl; have E0 : (0 : Int64).toInt = 0 := rfl; have e1 : (1 : Int32).toInt = 1 := rfl; have E1 : (1 : Int64).toInt = 1 := rfl; have e2 : (2 : Int32).toInt = 2 := rfl; have E2 : (2 : Int64).toInt = 2 := rfl; have e3 : (3 : Int32).toInt = 3 := rfl; have E3 : (3 : Int64).toInt = 3 := rfl; have e4 : (4 : Int32).toInt = 4 := rfl; have E4 : (4 : Int64).toInt = 4 := rfl; have e5 : (5 : Int32).toInt = 5 := rfl; have E5 : (5 : Int64).toInt = 5 := rfl; have e6 : (6 : Int32).toInt = 6 := rfl; have E6 : (6 : Int64).toInt = 6 := rfl; have e7 : (7 : Int32).toInt = 7 := rfl; have E7 : (7 : Int64).toInt = 7 := rfl; have e8 : (8 : Int32).toInt = 8 := rfl; have E8 : (8 : Int64).toInt = 8 := rfl; have e20 : (20 : Int32).toInt = 20 := rfl; have E20 : (20 : Int64).toInt = 20 := rfl; have e39 : (39 : Int32).toInt = 39 := rfl; have E39 : (39 : Int64).toInt = 39 := rfl; have e40 : (40 : Int32).toInt = 40 := rfl; have E40 : (40 : Int64).toInt = 40 := rfl; have e99 : (99 : Int32).toInt = 99 := rfl; have E99 : (99 : Int64).toInt = 99 := rfl; have em99 : ((-99) : Int32).toInt = (-99) := rfl; have Em99 : ((-99) : Int64).toInt = (-99) := rfl; have e399 : (399 : Int32).toInt = 399 := rfl; have E399 : (399 : Int64).toInt = 399 := rfl; have e400 : (400 : Int32).toInt = 400 := rfl; have E400 : (400 : Int64).toInt = 400 := rfl; have e9999 : (9999 : Int32).toInt = 9999 := rfl; have E9999 : (9999 : Int64).toInt = 9999 := rfl; have em9999 : ((-9999) : Int32).toInt = (-9999) := rfl; have Em9999 : ((-9999) : Int64).toInt = (-9999) := rfl; have em10000 : ((-10000) : Int32).toInt = (-10000) := rfl; have Em10000 : ((-10000) : Int64).toInt = (-10000) := rfl; have em1 : ((-1) : Int32).toInt = (-1) := rfl; have Em1 : ((-1) : Int64).toInt = (-1) := rfl; have e10 : (10 : Int32).toInt = 10 := rfl; have E10 : (10 : Int64).toInt = 10 := rfl; have e17 : (17 : Int32).toInt = 17 := rfl; have E17 : (17 : Int64).toInt = 17 := rfl; (try simp only [mIn_0, lgc_lt, lgc_gt, lgc_eq, lgc_le, lgc_ge] at c_1 c_7 c_11 c_18 c_29 c_38 c_45); (try simp only [fl_lt, fl_le, fl_eq, fL_lt, fL_le, fL_w] at c_1 c_7 c_11 c_18 c_29 c_38 c_45); first | (rw [spSee, if_pos (by omega)]; first | done | rfl) | (rw [spSee, if_neg (by omega)]; first | done | rfl)), fr_tr (by rw [hf1]; exact fr_up fr_rf (by simp)) (fr_mo z7 (by simp))⟩)
              ·
                refine gz_iconst (v := 0) dX0_write_48 (by decide) ?_
                exact gz_zret rfl (by decide) dX0_write_49 (Nat.le_of_ble_eq_true rfl) (Nat.le_of_ble_eq_true rfl) (⟨_, rfl, (by show _ = _; have e0 : (0 : Int32).toInt = 0 := rfl; have E0 : (0 : Int64).toInt = 0 := rfl; have e1 : (1 : Int32).toInt = 1 := rfl; have E1 : (1 : Int64).toInt = 1 := rfl; have e2 : (2 : Int32).toInt = 2 := rfl; have E2 : (2 : Int64).toInt = 2 := rfl; have e3 : (3 : Int32).toInt = 3 := rfl; have E3 : (3 : Int64).toInt = 3 := rfl; have e4 : (4 : Int32).toInt = 4 := rfl; have E4 : (4 : Int64).toInt = 4 := rfl; have e5 : (5 : Int32).toInt = 5 := rfl; have E5 : (5 : Int64).toInt = 5 := rfl; have e6 : (6 : Int32).toInt = 6 := rfl; have E6 : (6 : Int64).toInt = 6 := rfl; have e7 : (7 : Int32).toInt = 7 := rfl; have E7 : (7 : Int64).toInt = 7 := rfl; have e8 : (8 : Int32).toInt = 8 := rfl; have E8 : (8 : Int64).toInt = 8 := rfl; have e20 : (20 : Int32).toInt = 20 := rfl; have E20 : (20 : Int64).toInt = 20 := rfl; have e39 : (39 : Int32).toInt = 39 := rfl; have E39 : (39 : Int64).toInt = 39 := rfl; have e40 : (40 : Int32).toInt = 40 := rfl; have E40 : (40 : Int64).toInt = 40 := rfl; have e99 : (99 : Int32).toInt = 99 := rfl; have E99 : (99 : Int64).toInt = 99 := rfl; have em99 : ((-99) : Int32).toInt = (-99) := rfl; have Em99 : ((-99) : Int64).toInt = (-99) := rfl; have e399 : (399 : Int32).toInt = 399 := rfl; have E399 : (399 : Int64).toInt = 399 := rfl; have e400 : (400 : Int32).toInt = 400 := rfl; have E400 : (400 : Int64).toInt = 400 := rfl; have e9999 : (9999 : Int32).toInt = 9999 := rfl; have E9999 : (9999 : Int64).toInt = 9999 := rfl; have em9999 : ((-9999) : Int32).toInt = (-9999) := rfl; have Em9999 : ((-9999) : Int64).toInt = (-9999) := rfl; have em10000 : ((-10000) : Int32).toInt = (-10000) := rfl; have Em10000 : ((-10000) : Int64).toInt = (-10000) := rfl; have em1 : ((-1) : Int32).toInt = (-1) := rfl; have Em1 : ((-1) : Int64).toInt = (-1) := rfl; have e10 : (10 : Int32).toInt = 10 := rfl; have E10 : (10 : Int64).toInt = 10 := rfl; have e17 : (17 : Int32).toInt = 17 := rfl; have E17 : (17 : Int64).toInt = 17 := rfl; (try simp only [mIn_0, lgc_lt, lgc_gt, lgc_eq, lgc_le, lgc_ge] at c_1 c_7 c_11 c_18 c_29 c_38 c_45); (try simp only [fl_lt, fl_le, fl_eq, fL_lt, fL_le, fL_w] at c_1 c_7 c_11 c_18 c_29 c_38 c_45); first | (rw [spSee, if_pos (by omega)]; first | done | rfl) | (rw [spSee, if_neg (by omega)]; first | done | rfl)), fr_rf⟩)
          ·
            refine gz_iconst (v := 0) dX0_write_32 (by decide) ?_
            exact gz_zret rfl (by decide) dX0_write_33 (Nat.le_of_ble_eq_true rfl) (Nat.le_of_ble_eq_true rfl) (⟨_, rfl, (by show _ = _; have e0 : (0 : Int32).toInt = 0 := rfl; have E0 : (0 : Int64).toInt = 0 := rfl; have e1 : (1 : Int32).toInt = 1 := rfl; have E1 : (1 : Int64).toInt = 1 := rfl; have e2 : (2 : Int32).toInt = 2 := rfl; have E2 : (2 : Int64).toInt = 2 := rfl; have e3 : (3 : Int32).toInt = 3 := rfl; have E3 : (3 : Int64).toInt = 3 := rfl; have e4 : (4 : Int32).toInt = 4 := rfl; have E4 : (4 : Int64).toInt = 4 := rfl; have e5 : (5 : Int32).toInt = 5 := rfl; have E5 : (5 : Int64).toInt = 5 := rfl; have e6 : (6 : Int32).toInt = 6 := rfl; have E6 : (6 : Int64).toInt = 6 := rfl; have e7 : (7 : Int32).toInt = 7 := rfl; have E7 : (7 : Int64).toInt = 7 := rfl; have e8 : (8 : Int32).toInt = 8 := rfl; have E8 : (8 : Int64).toInt = 8 := rfl; have e20 : (20 : Int32).toInt = 20 := rfl; have E20 : (20 : Int64).toInt = 20 := rfl; have e39 : (39 : Int32).toInt = 39 := rfl; have E39 : (39 : Int64).toInt = 39 := rfl; have e40 : (40 : Int32).toInt = 40 := rfl; have E40 : (40 : Int64).toInt = 40 := rfl; have e99 : (99 : Int32).toInt = 99 := rfl; have E99 : (99 : Int64).toInt = 99 := rfl; have em99 : ((-99) : Int32).toInt = (-99) := rfl; have Em99 : ((-99) : Int64).toInt = (-99) := rfl; have e399 : (399 : Int32).toInt = 399 := rfl; have E399 : (399 : Int64).toInt = 399 := rfl; have e400 : (400 : Int32).toInt = 400 := rfl; have E400 : (400 : Int64).toInt = 400 := rfl; have e9999 : (9999 : Int32).toInt = 9999 := rfl; have E9999 : (9999 : Int64).toInt = 9999 := rfl; have em9999 : ((-9999) : Int32).toInt = (-9999) := rfl; have Em9999 : ((-9999) : Int64).toInt = (-9999) := rfl; have em10000 : ((-10000) : Int32).toInt = (-10000) := rfl; have Em10000 : ((-10000) : Int64).toInt = (-10000) := rfl; have em1 : ((-1) : Int32).toInt = (-1) := rfl; have Em1 : ((-1) : Int64).toInt = (-1) := rfl; have e10 : (10 : Int32).toInt = 10 := rfl; have E10 : (10 : Int64).toInt = 10 := rfl; have e17 : (17 : Int32).toInt = 17 := rfl; have E17 : (17 : Int64).toInt = 17 := rfl; (try simp only [mIn_0, lgc_lt, lgc_gt, lgc_eq, lgc_le, lgc_ge] at c_1 c_7 c_11 c_18 c_29); (try simp only [fl_lt, fl_le, fl_eq, fL_lt, fL_le, fL_w] at c_1 c_7 c_11 c_18 c_29); first | (rw [spSee, if_pos (by omega)]; first | done | rfl) | (rw [spSee, if_neg (by omega)]; first | done | rfl)), fr_rf⟩)

set_option maxHeartbeats 4000000 in
set_option maxRecDepth 100000 in
theorem k_X0_turn {l : Launch} {D : va_G} {cy : Nat → ClassId} {b : Nat} {f : gMem} {c to td th : Nat} (hc : f c = some (.inr (0, [.ref to, .ref td]))) (htd : f td = some (.inr (7, [.ref th, .int 0])))  : gC l D cy b yX0_turn cX0_turn 1 (some .boolean) 0 0 0 [.ref c] f (pI fun r f2 => r = 1 ∧ f2 td = some (.inr (7, [.ref th, .int 1])) ∧ fr [td] f f2) := by
  refine gC_of (by decide) (Nat.le_of_ble_eq_true rfl) ?_
  show gG l _ _ _ D cy b cX0_turn 1 _ RX0 "turn" 0 0 f 0 [(0, .ref c)] []
  refine gz_aload_n dX0_turn_0 rfl rfl ?_
  refine sgX0_18 hc rfl dX0_turn_1 ?_
  refine sgX0_22 htd rfl dX0_turn_4 ?_
  refine gz_sipush (v := 399) dX0_turn_7 (by decide) ?_
  refine gz_icmp_lt (tgt := 15) dX0_turn_10 (by decide) (fun c_10 => ?_) (fun c_10 => ?_)
  ·
    refine gz_aload_n dX0_turn_15 rfl rfl ?_
    refine sgX0_18 hc rfl dX0_turn_16 ?_
    refine gz_dup dX0_turn_19 rfl ?_
    refine sgX0_22 htd rfl dX0_turn_20 ?_
    refine gz_iconst (v := 1) dX0_turn_23 (by decide) ?_
    refine gz_iadd dX0_turn_24 ?_
    refine gz_ev (w := .int 1) (by decide) ?_
    refine spX0_22 htd  (Nat.le_of_ble_eq_true rfl) dX0_turn_25 ?_
    obtain ⟨f1, hf1⟩ : ∃ gg : gMem, gg = va_up f td (some (.inr (7, [.ref th, .int 1]))) := ⟨_, rfl⟩
    refine gz_eq (f2 := f1) hf1.symm rfl rfl rfl ?_
    have hc_1 : f1 c = some (.inr (0, [.ref to, .ref td])) := by rw [hf1, va_up_ne _ _ (cne hc htd (by simp))]; exact hc
    have htd_1 : f1 td = some (.inr (7, [.ref th, .int 1])) := by rw [hf1]; exact va_up_self _ _ _
    refine gz_iconst (v := 1) dX0_turn_28 (by decide) ?_
    exact gz_zret rfl (by decide) dX0_turn_29 (Nat.le_of_ble_eq_true rfl) (Nat.le_of_ble_eq_true rfl) (⟨_, rfl, rfl, htd_1, by rw [hf1]; exact fr_up fr_rf (by simp)⟩)
  · exact absurd c_10 (by decide)

set_option maxHeartbeats 4000000 in
set_option maxRecDepth 100000 in
theorem k_X11_see {l : Launch} {D : va_G} {cy : Nat → ClassId} {b : Nat} {f : gMem} {x ch tp ou fo dr ot rd te la le co wo : Nat} {x1 x2 x3 : Int32} {to td th : Nat} {gth : Nat → Int32} (hx : f x = some (.inr (11, [.ref ch, .ref tp, .ref ou, .ref fo, .ref dr, .ref ot, .ref rd, .ref te, .ref la, .ref le, .ref co, .ref wo, .int 0]))) (hch : f ch = some (.inr (0, [.ref to, .ref td]))) (hto : f to = some (.inl (cy 0, 2400, .inl (fun _ => 0)))) (htd : f td = some (.inr (7, [.ref th, .int 0]))) (hth : f th = some (.inl (cy 0, 6, .inl (gth))))  : gC l D cy b yX11_see cX11_see 4 (some .boolean) 2 0 0 [.ref x, .int x1, .int x2, .int x3] f (pI fun r f2 => r = spSee x1 x2 x3 ∧ fr [to, th] f f2) := by
  refine gC_of (by decide) (Nat.le_of_ble_eq_true rfl) ?_
  show gG l _ _ _ D cy b cX11_see 4 _ RX11 "see" 0 0 f 0 [(0, .ref x), (1, .int x1), (2, .int x2), (3, .int x3)] []
  refine gz_aload_n dX11_see_0 rfl rfl ?_
  refine sgX11_12 hx rfl dX11_see_1 ?_
  refine gz_iload_n dX11_see_4 rfl rfl ?_
  refine gz_iload_n dX11_see_5 rfl rfl ?_
  refine gz_iload_n dX11_see_6 rfl rfl ?_
  refine scX11_98 (k_X0_write (t := x1) (d := x2) (v := x3) hch hto htd hth) hch ⟨(Nat.le_of_ble_eq_true rfl), (Nat.le_of_ble_eq_true rfl)⟩ ⟨(Nat.le_of_ble_eq_true rfl), (Nat.le_of_ble_eq_true rfl)⟩ rfl rfl (Nat.le_of_ble_eq_true rfl) dX11_see_7 ?_
  intro v9 f9 z9; rw [z9.1]
  exact gz_zret rfl (by unfold spSee; split <;> rfl) dX11_see_10 (Nat.le_of_ble_eq_true rfl) (Nat.le_of_ble_eq_true rfl) (⟨_, rfl, rfl, z9.2⟩)

set_option maxHeartbeats 4000000 in
set_option maxRecDepth 100000 in
theorem k_X11_seen {l : Launch} {D : va_G} {cy : Nat → ClassId} {b : Nat} {f : gMem} {x ch tp ou fo dr ot rd te la le co wo : Nat} {x1 x2 : Int32} {to td : Nat} (hx : f x = some (.inr (11, [.ref ch, .ref tp, .ref ou, .ref fo, .ref dr, .ref ot, .ref rd, .ref te, .ref la, .ref le, .ref co, .ref wo, .int 0]))) (hch : f ch = some (.inr (0, [.ref to, .ref td]))) (hto : f to = some (.inl (cy 0, 2400, .inl (fun _ => 0))))  : gC l D cy b yX11_seen cX11_seen 3 (some .int) 1 0 0 [.ref x, .int x1, .int x2] f (pI fun r f2 => r = spSeen x1 x2 ∧ fr [] f f2) := by
  refine gC_of (by decide) (Nat.le_of_ble_eq_true rfl) ?_
  show gG l _ _ _ D cy b cX11_seen 3 _ RX11 "seen" 0 0 f 0 [(0, .ref x), (1, .int x1), (2, .int x2)] []
  refine gz_aload_n dX11_seen_0 rfl rfl ?_
  refine sgX11_12 hx rfl dX11_seen_1 ?_
  refine gz_iload_n dX11_seen_4 rfl rfl ?_
  refine gz_iload_n dX11_seen_5 rfl rfl ?_
  refine scX11_102 (k_X0_read (t := x1) (d := x2) hch hto) hch ⟨(Nat.le_of_ble_eq_true rfl), (Nat.le_of_ble_eq_true rfl)⟩ ⟨(Nat.le_of_ble_eq_true rfl), (Nat.le_of_ble_eq_true rfl)⟩ rfl rfl (Nat.le_of_ble_eq_true rfl) dX11_seen_6 ?_
  intro v9 f9 z9; rw [z9.1, z9.2]
  exact gz_iret rfl dX11_seen_9 (Nat.le_of_ble_eq_true rfl) (Nat.le_of_ble_eq_true rfl) (⟨_, rfl, rfl, fr_rf⟩)

set_option maxHeartbeats 4000000 in
set_option maxRecDepth 100000 in
theorem k_X11_feed {l : Launch} {D : va_G} {cy : Nat → ClassId} {b : Nat} {f : gMem} {x ch tp ou fo dr ot rd te la le co wo : Nat} {x1 x2 x3 x4 x5 : Int32} {by_ : Nat} {gby : Nat → Int32} (hx : f x = some (.inr (11, [.ref ch, .ref tp, .ref ou, .ref fo, .ref dr, .ref ot, .ref rd, .ref te, .ref la, .ref le, .ref co, .ref wo, .int 0]))) (htp : f tp = some (.inr (9, [.ref by_, .int 0]))) (hby : f by_ = some (.inl (cy 1, 400, .inl (gby))))  : gC l D cy b yX11_feed cX11_feed 6 (some .int) 2 0 0 [.ref x, .int x1, .int x2, .int x3, .int x4, .int x5] f (pI fun r f2 => r = 20 ∧ fr [tp, by_] f f2) := by
  refine gC_of (by decide) (Nat.le_of_ble_eq_true rfl) ?_
  show gG l _ _ _ D cy b cX11_feed 6 _ RX11 "feed" 0 0 f 0 [(0, .ref x), (1, .int x1), (2, .int x2), (3, .int x3), (4, .int x4), (5, .int x5)] []
  refine gz_aload_n dX11_feed_0 rfl rfl ?_
  refine sgX11_21 hx rfl dX11_feed_1 ?_
  refine scX11_106 (k_X9_size htp) htp ⟨(Nat.le_of_ble_eq_true rfl), (Nat.le_of_ble_eq_true rfl)⟩ ⟨(Nat.le_of_ble_eq_true rfl), (Nat.le_of_ble_eq_true rfl)⟩ rfl rfl (Nat.le_of_ble_eq_true rfl) dX11_feed_4 ?_
  intro v9 f9 z9; rw [z9.1, z9.2]
  refine gz_bipush (v := 20) dX11_feed_7 (by decide) ?_
  refine gz_iadd dX11_feed_9 ?_
  refine gz_ev (w := .int 20) (by decide) ?_
  refine gz_sipush (v := 400) dX11_feed_10 (by decide) ?_
  refine gz_icmp_le (tgt := 18) dX11_feed_13 (by decide) (fun c_13 => ?_) (fun c_13 => ?_)
  ·
    refine gz_aload_n dX11_feed_18 rfl rfl ?_
    refine sgX11_21 hx rfl dX11_feed_19 ?_
    refine gz_iload_n dX11_feed_22 rfl rfl ?_
    refine scX11_110 (k_X9_putNumber (x := x1) htp hby (by decide)) htp ⟨(Nat.le_of_ble_eq_true rfl), (Nat.le_of_ble_eq_true rfl)⟩ ⟨(Nat.le_of_ble_eq_true rfl), (Nat.le_of_ble_eq_true rfl)⟩ rfl rfl (Nat.le_of_ble_eq_true rfl) dX11_feed_23 ?_
    rintro f_0 ⟨⟨g_0, ht_0, hb_0⟩, hr_0⟩
    have hu_0 : f_0 tp = some (.inr (9, [.ref by_, .int 4])) := by rw [ht_0]; rfl
    have hx_0 : f_0 x = some (.inr (11, [.ref ch, .ref tp, .ref ou, .ref fo, .ref dr, .ref ot, .ref rd, .ref te, .ref la, .ref le, .ref co, .ref wo, .int 0])) := hr_0 _ _ hx (by simp; exact ⟨cne hx htp (by simp), cne hx hby (by simp)⟩)
    refine gz_aload_n dX11_feed_26 rfl rfl ?_
    refine sgX11_21 hx_0 rfl dX11_feed_27 ?_
    refine gz_iload_n dX11_feed_30 rfl rfl ?_
    refine scX11_110 (k_X9_putNumber (x := x2) hu_0 hb_0 (by decide)) hu_0 ⟨(Nat.le_of_ble_eq_true rfl), (Nat.le_of_ble_eq_true rfl)⟩ ⟨(Nat.le_of_ble_eq_true rfl), (Nat.le_of_ble_eq_true rfl)⟩ rfl rfl (Nat.le_of_ble_eq_true rfl) dX11_feed_31 ?_
    rintro f_1 ⟨⟨g_1, ht_1, hb_1⟩, hr_1⟩
    have hu_1 : f_1 tp = some (.inr (9, [.ref by_, .int 8])) := by rw [ht_1]; rfl
    have hx_1 : f_1 x = some (.inr (11, [.ref ch, .ref tp, .ref ou, .ref fo, .ref dr, .ref ot, .ref rd, .ref te, .ref la, .ref le, .ref co, .ref wo, .int 0])) := hr_1 _ _ hx_0 (by simp; exact ⟨cne hx htp (by simp), cne hx hby (by simp)⟩)
    refine gz_aload_n dX11_feed_34 rfl rfl ?_
    refine sgX11_21 hx_1 rfl dX11_feed_35 ?_
    refine gz_iload_n dX11_feed_38 rfl rfl ?_
    refine scX11_110 (k_X9_putNumber (x := x3) hu_1 hb_1 (by decide)) hu_1 ⟨(Nat.le_of_ble_eq_true rfl), (Nat.le_of_ble_eq_true rfl)⟩ ⟨(Nat.le_of_ble_eq_true rfl), (Nat.le_of_ble_eq_true rfl)⟩ rfl rfl (Nat.le_of_ble_eq_true rfl) dX11_feed_39 ?_
    rintro f_2 ⟨⟨g_2, ht_2, hb_2⟩, hr_2⟩
    have hu_2 : f_2 tp = some (.inr (9, [.ref by_, .int 12])) := by rw [ht_2]; rfl
    have hx_2 : f_2 x = some (.inr (11, [.ref ch, .ref tp, .ref ou, .ref fo, .ref dr, .ref ot, .ref rd, .ref te, .ref la, .ref le, .ref co, .ref wo, .int 0])) := hr_2 _ _ hx_1 (by simp; exact ⟨cne hx htp (by simp), cne hx hby (by simp)⟩)
    refine gz_aload_n dX11_feed_42 rfl rfl ?_
    refine sgX11_21 hx_2 rfl dX11_feed_43 ?_
    refine gz_iload dX11_feed_46 rfl ?_
    refine scX11_110 (k_X9_putNumber (x := x4) hu_2 hb_2 (by decide)) hu_2 ⟨(Nat.le_of_ble_eq_true rfl), (Nat.le_of_ble_eq_true rfl)⟩ ⟨(Nat.le_of_ble_eq_true rfl), (Nat.le_of_ble_eq_true rfl)⟩ rfl rfl (Nat.le_of_ble_eq_true rfl) dX11_feed_48 ?_
    rintro f_3 ⟨⟨g_3, ht_3, hb_3⟩, hr_3⟩
    have hu_3 : f_3 tp = some (.inr (9, [.ref by_, .int 16])) := by rw [ht_3]; rfl
    have hx_3 : f_3 x = some (.inr (11, [.ref ch, .ref tp, .ref ou, .ref fo, .ref dr, .ref ot, .ref rd, .ref te, .ref la, .ref le, .ref co, .ref wo, .int 0])) := hr_3 _ _ hx_2 (by simp; exact ⟨cne hx htp (by simp), cne hx hby (by simp)⟩)
    refine gz_aload_n dX11_feed_51 rfl rfl ?_
    refine sgX11_21 hx_3 rfl dX11_feed_52 ?_
    refine gz_iload dX11_feed_55 rfl ?_
    refine scX11_110 (k_X9_putNumber (x := x5) hu_3 hb_3 (by decide)) hu_3 ⟨(Nat.le_of_ble_eq_true rfl), (Nat.le_of_ble_eq_true rfl)⟩ ⟨(Nat.le_of_ble_eq_true rfl), (Nat.le_of_ble_eq_true rfl)⟩ rfl rfl (Nat.le_of_ble_eq_true rfl) dX11_feed_57 ?_
    rintro f_4 ⟨⟨g_4, ht_4, hb_4⟩, hr_4⟩
    have hu_4 : f_4 tp = some (.inr (9, [.ref by_, .int 20])) := by rw [ht_4]; rfl
    have hx_4 : f_4 x = some (.inr (11, [.ref ch, .ref tp, .ref ou, .ref fo, .ref dr, .ref ot, .ref rd, .ref te, .ref la, .ref le, .ref co, .ref wo, .int 0])) := hr_4 _ _ hx_3 (by simp; exact ⟨cne hx htp (by simp), cne hx hby (by simp)⟩)
    refine gz_aload_n dX11_feed_60 rfl rfl ?_
    refine sgX11_21 hx_4 rfl dX11_feed_61 ?_
    refine scX11_106 (k_X9_size hu_4) hu_4 ⟨(Nat.le_of_ble_eq_true rfl), (Nat.le_of_ble_eq_true rfl)⟩ ⟨(Nat.le_of_ble_eq_true rfl), (Nat.le_of_ble_eq_true rfl)⟩ rfl rfl (Nat.le_of_ble_eq_true rfl) dX11_feed_64 ?_
    intro v9 f9 z9; rw [z9.1, z9.2]
    exact gz_iret rfl dX11_feed_67 (Nat.le_of_ble_eq_true rfl) (Nat.le_of_ble_eq_true rfl) (⟨_, rfl, rfl, fr_tr (fr_tr (fr_tr (fr_tr hr_0 hr_1) hr_2) hr_3) hr_4⟩)
  · exact absurd c_13 (by decide)

set_option maxHeartbeats 4000000 in
set_option maxRecDepth 100000 in
theorem k_X11_end {l : Launch} {D : va_G} {cy : Nat → ClassId} {b : Nat} {f : gMem} {x ch tp ou fo dr ot rd te la le co wo : Nat} {x1 : Int32} {by_ : Nat} (hx : f x = some (.inr (11, [.ref ch, .ref tp, .ref ou, .ref fo, .ref dr, .ref ot, .ref rd, .ref te, .ref la, .ref le, .ref co, .ref wo, .int 0]))) (htp : f tp = some (.inr (9, [.ref by_, .int 0])))  : gC l D cy b yX11_end cX11_end 2 (some .int) 1 0 0 [.ref x, .int x1] f (pI fun r f2 => r = spEnd x1 ∧ fr [tp] f f2) := by
  refine gC_of (by decide) (Nat.le_of_ble_eq_true rfl) ?_
  show gG l _ _ _ D cy b cX11_end 2 _ RX11 "end" 0 0 f 0 [(0, .ref x), (1, .int x1)] []
  refine gz_iload_n dX11_end_0 rfl rfl ?_
  refine gz_if_lt (tgt := 15) dX11_end_1 (by decide) (fun c_1 => ?_) (fun c_1 => ?_)
  ·
    refine gz_iconst (v := (-1)) dX11_end_15 (by decide) ?_
    exact gz_iret rfl dX11_end_16 (Nat.le_of_ble_eq_true rfl) (Nat.le_of_ble_eq_true rfl) (⟨_, rfl, (by show _ = _; have e0 : (0 : Int32).toInt = 0 := rfl; have E0 : (0 : Int64).toInt = 0 := rfl; have e1 : (1 : Int32).toInt = 1 := rfl; have E1 : (1 : Int64).toInt = 1 := rfl; have e2 : (2 : Int32).toInt = 2 := rfl; have E2 : (2 : Int64).toInt = 2 := rfl; have e3 : (3 : Int32).toInt = 3 := rfl; have E3 : (3 : Int64).toInt = 3 := rfl; have e4 : (4 : Int32).toInt = 4 := rfl; have E4 : (4 : Int64).toInt = 4 := rfl; have e5 : (5 : Int32).toInt = 5 := rfl; have E5 : (5 : Int64).toInt = 5 := rfl; have e6 : (6 : Int32).toInt = 6 := rfl; have E6 : (6 : Int64).toInt = 6 := rfl; have e7 : (7 : Int32).toInt = 7 := rfl; have E7 : (7 : Int64).toInt = 7 := rfl; have e8 : (8 : Int32).toInt = 8 := rfl; have E8 : (8 : Int64).toInt = 8 := rfl; have e20 : (20 : Int32).toInt = 20 := rfl; have E20 : (20 : Int64).toInt = 20 := rfl; have e39 : (39 : Int32).toInt = 39 := rfl; have E39 : (39 : Int64).toInt = 39 := rfl; have e40 : (40 : Int32).toInt = 40 := rfl; have E40 : (40 : Int64).toInt = 40 := rfl; have e99 : (99 : Int32).toInt = 99 := rfl; have E99 : (99 : Int64).toInt = 99 := rfl; have em99 : ((-99) : Int32).toInt = (-99) := rfl; have Em99 : ((-99) : Int64).toInt = (-99) := rfl; have e399 : (399 : Int32).toInt = 399 := rfl; have E399 : (399 : Int64).toInt = 399 := rfl; have e400 : (400 : Int32).toInt = 400 := rfl; have E400 : (400 : Int64).toInt = 400 := rfl; have e9999 : (9999 : Int32).toInt = 9999 := rfl; have E9999 : (9999 : Int64).toInt = 9999 := rfl; have em9999 : ((-9999) : Int32).toInt = (-9999) := rfl; have Em9999 : ((-9999) : Int64).toInt = (-9999) := rfl; have em10000 : ((-10000) : Int32).toInt = (-10000) := rfl; have Em10000 : ((-10000) : Int64).toInt = (-10000) := rfl; have em1 : ((-1) : Int32).toInt = (-1) := rfl; have Em1 : ((-1) : Int64).toInt = (-1) := rfl; have e10 : (10 : Int32).toInt = 10 := rfl; have E10 : (10 : Int64).toInt = 10 := rfl; have e17 : (17 : Int32).toInt = 17 := rfl; have E17 : (17 : Int64).toInt = 17 := rfl; (try simp only [mIn_0, lgc_lt, lgc_gt, lgc_eq, lgc_le, lgc_ge] at c_1); (try simp only [fl_lt, fl_le, fl_eq, fL_lt, fL_le, fL_w] at c_1); first | (rw [spEnd, if_pos (by omega)]; first | done | rfl) | (rw [spEnd, if_neg (by omega)]; first | done | rfl)), fr_rf⟩)
  ·
    refine gz_iload_n dX11_end_4 rfl rfl ?_
    refine gz_aload_n dX11_end_5 rfl rfl ?_
    refine sgX11_21 hx rfl dX11_end_6 ?_
    refine scX11_106 (k_X9_size htp) htp ⟨(Nat.le_of_ble_eq_true rfl), (Nat.le_of_ble_eq_true rfl)⟩ ⟨(Nat.le_of_ble_eq_true rfl), (Nat.le_of_ble_eq_true rfl)⟩ rfl rfl (Nat.le_of_ble_eq_true rfl) dX11_end_9 ?_
    intro v9 f9 z9; rw [z9.1, z9.2]
    refine gz_icmp_le (tgt := 17) dX11_end_12 (by decide) (fun c_12 => ?_) (fun c_12 => ?_)
    ·
      refine gz_aload_n dX11_end_17 rfl rfl ?_
      refine sgX11_21 hx rfl dX11_end_18 ?_
      refine gz_iload_n dX11_end_21 rfl rfl ?_
      refine scX11_113 (k_X9_cut (x := x1) htp) htp ⟨(Nat.le_of_ble_eq_true rfl), (Nat.le_of_ble_eq_true rfl)⟩ ⟨(Nat.le_of_ble_eq_true rfl), (Nat.le_of_ble_eq_true rfl)⟩ rfl rfl (Nat.le_of_ble_eq_true rfl) dX11_end_22 ?_
      intro f9 z9
      refine gz_iload_n dX11_end_25 rfl rfl ?_
      exact gz_iret rfl dX11_end_26 (Nat.le_of_ble_eq_true rfl) (Nat.le_of_ble_eq_true rfl) (⟨_, rfl, (by show _ = _; have e0 : (0 : Int32).toInt = 0 := rfl; have E0 : (0 : Int64).toInt = 0 := rfl; have e1 : (1 : Int32).toInt = 1 := rfl; have E1 : (1 : Int64).toInt = 1 := rfl; have e2 : (2 : Int32).toInt = 2 := rfl; have E2 : (2 : Int64).toInt = 2 := rfl; have e3 : (3 : Int32).toInt = 3 := rfl; have E3 : (3 : Int64).toInt = 3 := rfl; have e4 : (4 : Int32).toInt = 4 := rfl; have E4 : (4 : Int64).toInt = 4 := rfl; have e5 : (5 : Int32).toInt = 5 := rfl; have E5 : (5 : Int64).toInt = 5 := rfl; have e6 : (6 : Int32).toInt = 6 := rfl; have E6 : (6 : Int64).toInt = 6 := rfl; have e7 : (7 : Int32).toInt = 7 := rfl; have E7 : (7 : Int64).toInt = 7 := rfl; have e8 : (8 : Int32).toInt = 8 := rfl; have E8 : (8 : Int64).toInt = 8 := rfl; have e20 : (20 : Int32).toInt = 20 := rfl; have E20 : (20 : Int64).toInt = 20 := rfl; have e39 : (39 : Int32).toInt = 39 := rfl; have E39 : (39 : Int64).toInt = 39 := rfl; have e40 : (40 : Int32).toInt = 40 := rfl; have E40 : (40 : Int64).toInt = 40 := rfl; have e99 : (99 : Int32).toInt = 99 := rfl; have E99 : (99 : Int64).toInt = 99 := rfl; have em99 : ((-99) : Int32).toInt = (-99) := rfl; have Em99 : ((-99) : Int64).toInt = (-99) := rfl; have e399 : (399 : Int32).toInt = 399 := rfl; have E399 : (399 : Int64).toInt = 399 := rfl; have e400 : (400 : Int32).toInt = 400 := rfl; have E400 : (400 : Int64).toInt = 400 := rfl; have e9999 : (9999 : Int32).toInt = 9999 := rfl; have E9999 : (9999 : Int64).toInt = 9999 := rfl; have em9999 : ((-9999) : Int32).toInt = (-9999) := rfl; have Em9999 : ((-9999) : Int64).toInt = (-9999) := rfl; have em10000 : ((-10000) : Int32).toInt = (-10000) := rfl; have Em10000 : ((-10000) : Int64).toInt = (-10000) := rfl; have em1 : ((-1) : Int32).toInt = (-1) := rfl; have Em1 : ((-1) : Int64).toInt = (-1) := rfl; have e10 : (10 : Int32).toInt = 10 := rfl; have E10 : (10 : Int64).toInt = 10 := rfl; have e17 : (17 : Int32).toInt = 17 := rfl; have E17 : (17 : Int64).toInt = 17 := rfl; simp only [fl_lt, fl_le, fl_eq] at c_1 c_12; rw [spEnd, if_pos (by omega), fl_eq]; omega), z9.2⟩)
    ·
      refine gz_iconst (v := (-1)) dX11_end_15 (by decide) ?_
      exact gz_iret rfl dX11_end_16 (Nat.le_of_ble_eq_true rfl) (Nat.le_of_ble_eq_true rfl) (⟨_, rfl, (by show _ = _; have e0 : (0 : Int32).toInt = 0 := rfl; have E0 : (0 : Int64).toInt = 0 := rfl; have e1 : (1 : Int32).toInt = 1 := rfl; have E1 : (1 : Int64).toInt = 1 := rfl; have e2 : (2 : Int32).toInt = 2 := rfl; have E2 : (2 : Int64).toInt = 2 := rfl; have e3 : (3 : Int32).toInt = 3 := rfl; have E3 : (3 : Int64).toInt = 3 := rfl; have e4 : (4 : Int32).toInt = 4 := rfl; have E4 : (4 : Int64).toInt = 4 := rfl; have e5 : (5 : Int32).toInt = 5 := rfl; have E5 : (5 : Int64).toInt = 5 := rfl; have e6 : (6 : Int32).toInt = 6 := rfl; have E6 : (6 : Int64).toInt = 6 := rfl; have e7 : (7 : Int32).toInt = 7 := rfl; have E7 : (7 : Int64).toInt = 7 := rfl; have e8 : (8 : Int32).toInt = 8 := rfl; have E8 : (8 : Int64).toInt = 8 := rfl; have e20 : (20 : Int32).toInt = 20 := rfl; have E20 : (20 : Int64).toInt = 20 := rfl; have e39 : (39 : Int32).toInt = 39 := rfl; have E39 : (39 : Int64).toInt = 39 := rfl; have e40 : (40 : Int32).toInt = 40 := rfl; have E40 : (40 : Int64).toInt = 40 := rfl; have e99 : (99 : Int32).toInt = 99 := rfl; have E99 : (99 : Int64).toInt = 99 := rfl; have em99 : ((-99) : Int32).toInt = (-99) := rfl; have Em99 : ((-99) : Int64).toInt = (-99) := rfl; have e399 : (399 : Int32).toInt = 399 := rfl; have E399 : (399 : Int64).toInt = 399 := rfl; have e400 : (400 : Int32).toInt = 400 := rfl; have E400 : (400 : Int64).toInt = 400 := rfl; have e9999 : (9999 : Int32).toInt = 9999 := rfl; have E9999 : (9999 : Int64).toInt = 9999 := rfl; have em9999 : ((-9999) : Int32).toInt = (-9999) := rfl; have Em9999 : ((-9999) : Int64).toInt = (-9999) := rfl; have em10000 : ((-10000) : Int32).toInt = (-10000) := rfl; have Em10000 : ((-10000) : Int64).toInt = (-10000) := rfl; have em1 : ((-1) : Int32).toInt = (-1) := rfl; have Em1 : ((-1) : Int64).toInt = (-1) := rfl; have e10 : (10 : Int32).toInt = 10 := rfl; have E10 : (10 : Int64).toInt = 10 := rfl; have e17 : (17 : Int32).toInt = 17 := rfl; have E17 : (17 : Int64).toInt = 17 := rfl; (try simp only [mIn_0, lgc_lt, lgc_gt, lgc_eq, lgc_le, lgc_ge] at c_1 c_12); (try simp only [fl_lt, fl_le, fl_eq, fL_lt, fL_le, fL_w] at c_1 c_12); first | (rw [spEnd, if_pos (by omega)]; first | done | rfl) | (rw [spEnd, if_neg (by omega)]; first | done | rfl)), fr_rf⟩)

set_option maxHeartbeats 4000000 in
set_option maxRecDepth 100000 in
theorem k_X11_formAt {l : Launch} {D : va_G} {cy : Nat → ClassId} {b : Nat} {f : gMem} {x ch tp ou fo dr ot rd te la le co wo : Nat} {i : Int32} (hx : f x = some (.inr (11, [.ref ch, .ref tp, .ref ou, .ref fo, .ref dr, .ref ot, .ref rd, .ref te, .ref la, .ref le, .ref co, .ref wo, .int 0])))  : gC l D cy b yX11_formAt cX11_formAt 2 (some (.object "DeedTongue$Form")) 0 0 0 [.ref x, .int i] f (pR fun v f2 => v = none ∧ f2 = f) := by
  refine gC_of (by decide) (Nat.le_of_ble_eq_true rfl) ?_
  show gG l _ _ _ D cy b cX11_formAt 2 _ RX11 "formAt" 0 0 f 0 [(0, .ref x), (1, .int i)] []
  refine gz_iload_n dX11_formAt_0 rfl rfl ?_
  refine gz_if_lt (tgt := 27) dX11_formAt_1 (by decide) (fun c_1 => ?_) (fun c_1 => ?_)
  ·
    refine gz_null dX11_formAt_27 ?_
    exact gz_aret rfl (Or.inl rfl) dX11_formAt_28 (Nat.le_of_ble_eq_true rfl) (Nat.le_of_ble_eq_true rfl) (⟨none, rfl, rfl, rfl⟩)
  ·
    refine gz_iload_n dX11_formAt_4 rfl rfl ?_
    refine gz_aload_n dX11_formAt_5 rfl rfl ?_
    refine sgX11_116 hx rfl dX11_formAt_6 ?_
    refine gz_icmp_ge (tgt := 27) dX11_formAt_9 (by decide) (fun c_9 => ?_) (fun c_9 => ?_)
    ·
      refine gz_null dX11_formAt_27 ?_
      exact gz_aret rfl (Or.inl rfl) dX11_formAt_28 (Nat.le_of_ble_eq_true rfl) (Nat.le_of_ble_eq_true rfl) (⟨none, rfl, rfl, rfl⟩)
    · exfalso; simp only [fl_lt, fl_le] at c_1 c_9; have e0 : (0 : Int32).toInt = 0 := rfl; omega

set_option maxHeartbeats 4000000 in
set_option maxRecDepth 100000 in
theorem k_X11_word {l : Launch} {D : va_G} {cy : Nat → ClassId} {b : Nat} {f : gMem} {x ch tp ou fo dr ot rd te la le co wo : Nat} {x1 x2 x3 : Int32}  (hx : f x = some (.inr (11, [.ref ch, .ref tp, .ref ou, .ref fo, .ref dr, .ref ot, .ref rd, .ref te, .ref la, .ref le, .ref co, .ref wo, .int 0])))  : gC l D cy b yX11_word cX11_word 5 (some .int) 1 0 0 [.ref x, .int x1, .int x2, .int x3] f (pI fun r f2 => r = -1 ∧ fr [] f f2) := by
  refine gC_of (by decide) (Nat.le_of_ble_eq_true rfl) ?_
  show gG l _ _ _ D cy b cX11_word 5 _ RX11 "word" 0 0 f 0 [(0, .ref x), (1, .int x1), (2, .int x2), (3, .int x3)] []
  refine gz_aload_n dX11_word_0 rfl rfl ?_
  refine gz_iload_n dX11_word_1 rfl rfl ?_
  refine scX11_126 (k_X11_formAt (i := x1) hx) hx ⟨(Nat.le_of_ble_eq_true rfl), (Nat.le_of_ble_eq_true rfl)⟩ ⟨(Nat.le_of_ble_eq_true rfl), (Nat.le_of_ble_eq_true rfl)⟩ rfl rfl (Nat.le_of_ble_eq_true rfl) dX11_word_2 ?_
  intro v9 f9 z9; rw [z9.1, z9.2]; refine gz_ev (w := .null) rfl ?_
  refine gz_astoreN (lv' := [(4, .null), (0, .ref x), (1, .int x1), (2, .int x2), (3, .int x3)]) dX11_word_5 (by decide) rfl ?_
  refine gz_aloadN dX11_word_7 rfl ?_
  refine gz_ifnullN (tgt := 21) dX11_word_9 (by decide) ?_
  refine gz_iconst (v := (-1)) dX11_word_21 (by decide) ?_
  exact gz_iret rfl dX11_word_22 (Nat.le_of_ble_eq_true rfl) (Nat.le_of_ble_eq_true rfl) (⟨_, rfl, rfl, fr_rf⟩)

set_option maxHeartbeats 4000000 in
set_option maxRecDepth 100000 in
theorem k_X11_words {l : Launch} {D : va_G} {cy : Nat → ClassId} {b : Nat} {f : gMem} {x ch tp ou fo dr ot rd te la le co wo : Nat} {x1 : Int32}  (hx : f x = some (.inr (11, [.ref ch, .ref tp, .ref ou, .ref fo, .ref dr, .ref ot, .ref rd, .ref te, .ref la, .ref le, .ref co, .ref wo, .int 0])))  : gC l D cy b yX11_words cX11_words 3 (some .int) 1 0 0 [.ref x, .int x1] f (pI fun r f2 => r = -1 ∧ fr [] f f2) := by
  refine gC_of (by decide) (Nat.le_of_ble_eq_true rfl) ?_
  show gG l _ _ _ D cy b cX11_words 3 _ RX11 "words" 0 0 f 0 [(0, .ref x), (1, .int x1)] []
  refine gz_aload_n dX11_words_0 rfl rfl ?_
  refine gz_iload_n dX11_words_1 rfl rfl ?_
  refine scX11_126 (k_X11_formAt (i := x1) hx) hx ⟨(Nat.le_of_ble_eq_true rfl), (Nat.le_of_ble_eq_true rfl)⟩ ⟨(Nat.le_of_ble_eq_true rfl), (Nat.le_of_ble_eq_true rfl)⟩ rfl rfl (Nat.le_of_ble_eq_true rfl) dX11_words_2 ?_
  intro v9 f9 z9; rw [z9.1, z9.2]; refine gz_ev (w := .null) rfl ?_
  refine gz_astore_nN (lv' := [(2, .null), (0, .ref x), (1, .int x1)]) dX11_words_5 rfl (by decide) rfl ?_
  refine gz_aload_nN dX11_words_6 rfl rfl ?_
  refine gz_ifnonnullN dX11_words_7 ?_
  refine gz_iconst (v := (-1)) dX11_words_10 (by decide) ?_
  refine gz_goto (tgt := 18) dX11_words_11 (by decide) ?_
  exact gz_iret rfl dX11_words_18 (Nat.le_of_ble_eq_true rfl) (Nat.le_of_ble_eq_true rfl) (⟨_, rfl, rfl, fr_rf⟩)

set_option maxHeartbeats 4000000 in
set_option maxRecDepth 100000 in
theorem k_X11_shorter {l : Launch} {D : va_G} {cy : Nat → ClassId} {b : Nat} {f : gMem} {x ch tp ou fo dr ot rd te la le co wo : Nat} {x1 : Int32}  (hx : f x = some (.inr (11, [.ref ch, .ref tp, .ref ou, .ref fo, .ref dr, .ref ot, .ref rd, .ref te, .ref la, .ref le, .ref co, .ref wo, .int 0])))  : gC l D cy b yX11_shorter cX11_shorter 3 (some .int) 1 0 0 [.ref x, .int x1] f (pI fun r f2 => r = -1 ∧ fr [] f f2) := by
  refine gC_of (by decide) (Nat.le_of_ble_eq_true rfl) ?_
  show gG l _ _ _ D cy b cX11_shorter 3 _ RX11 "shorter" 0 0 f 0 [(0, .ref x), (1, .int x1)] []
  refine gz_aload_n dX11_shorter_0 rfl rfl ?_
  refine gz_iload_n dX11_shorter_1 rfl rfl ?_
  refine scX11_126 (k_X11_formAt (i := x1) hx) hx ⟨(Nat.le_of_ble_eq_true rfl), (Nat.le_of_ble_eq_true rfl)⟩ ⟨(Nat.le_of_ble_eq_true rfl), (Nat.le_of_ble_eq_true rfl)⟩ rfl rfl (Nat.le_of_ble_eq_true rfl) dX11_shorter_2 ?_
  intro v9 f9 z9; rw [z9.1, z9.2]; refine gz_ev (w := .null) rfl ?_
  refine gz_astore_nN (lv' := [(2, .null), (0, .ref x), (1, .int x1)]) dX11_shorter_5 rfl (by decide) rfl ?_
  refine gz_aload_nN dX11_shorter_6 rfl rfl ?_
  refine gz_ifnullN (tgt := 19) dX11_shorter_7 (by decide) ?_
  refine gz_iconst (v := (-1)) dX11_shorter_19 (by decide) ?_
  exact gz_iret rfl dX11_shorter_20 (Nat.le_of_ble_eq_true rfl) (Nat.le_of_ble_eq_true rfl) (⟨_, rfl, rfl, fr_rf⟩)

set_option maxHeartbeats 4000000 in
set_option maxRecDepth 100000 in
theorem k_X11_same {l : Launch} {D : va_G} {cy : Nat → ClassId} {b : Nat} {f : gMem} {x ch tp ou fo dr ot rd te la le co wo : Nat} {x1 x2 : Int32}  (hx : f x = some (.inr (11, [.ref ch, .ref tp, .ref ou, .ref fo, .ref dr, .ref ot, .ref rd, .ref te, .ref la, .ref le, .ref co, .ref wo, .int 0])))  : gC l D cy b yX11_same cX11_same 5 (some .int) 1 0 0 [.ref x, .int x1, .int x2] f (pI fun r f2 => r = -1 ∧ fr [] f f2) := by
  refine gC_of (by decide) (Nat.le_of_ble_eq_true rfl) ?_
  show gG l _ _ _ D cy b cX11_same 5 _ RX11 "same" 0 0 f 0 [(0, .ref x), (1, .int x1), (2, .int x2)] []
  refine gz_aload_n dX11_same_0 rfl rfl ?_
  refine gz_iload_n dX11_same_1 rfl rfl ?_
  refine scX11_126 (k_X11_formAt (i := x1) hx) hx ⟨(Nat.le_of_ble_eq_true rfl), (Nat.le_of_ble_eq_true rfl)⟩ ⟨(Nat.le_of_ble_eq_true rfl), (Nat.le_of_ble_eq_true rfl)⟩ rfl rfl (Nat.le_of_ble_eq_true rfl) dX11_same_2 ?_
  intro v9 f9 z9; rw [z9.1, z9.2]; refine gz_ev (w := .null) rfl ?_
  refine gz_astore_nN (lv' := [(3, .null), (0, .ref x), (1, .int x1), (2, .int x2)]) dX11_same_5 rfl (by decide) rfl ?_
  refine gz_aload_n dX11_same_6 rfl rfl ?_
  refine gz_iload_n dX11_same_7 rfl rfl ?_
  refine scX11_126 (k_X11_formAt (i := x2) hx) hx ⟨(Nat.le_of_ble_eq_true rfl), (Nat.le_of_ble_eq_true rfl)⟩ ⟨(Nat.le_of_ble_eq_true rfl), (Nat.le_of_ble_eq_true rfl)⟩ rfl rfl (Nat.le_of_ble_eq_true rfl) dX11_same_8 ?_
  intro v9 f9 z9; rw [z9.1, z9.2]; refine gz_ev (w := .null) rfl ?_
  refine gz_astoreN (lv' := [(4, .null), (3, .null), (0, .ref x), (1, .int x1), (2, .int x2)]) dX11_same_11 (by decide) rfl ?_
  refine gz_aload_nN dX11_same_13 rfl rfl ?_
  refine gz_ifnullN (tgt := 22) dX11_same_14 (by decide) ?_
  refine gz_iconst (v := (-1)) dX11_same_22 (by decide) ?_
  exact gz_iret rfl dX11_same_23 (Nat.le_of_ble_eq_true rfl) (Nat.le_of_ble_eq_true rfl) (⟨_, rfl, rfl, fr_rf⟩)

set_option maxHeartbeats 4000000 in
set_option maxRecDepth 100000 in
theorem k_X11_tell {l : Launch} {D : va_G} {cy : Nat → ClassId} {b : Nat} {f : gMem} {x ch tp ou fo dr ot rd te la le co wo : Nat} {x1 : Int32}  (hx : f x = some (.inr (11, [.ref ch, .ref tp, .ref ou, .ref fo, .ref dr, .ref ot, .ref rd, .ref te, .ref la, .ref le, .ref co, .ref wo, .int 0])))  : gC l D cy b yX11_tell cX11_tell 3 (some .int) 1 0 0 [.ref x, .int x1] f (pI fun r f2 => r = -1 ∧ fr [] f f2) := by
  refine gC_of (by decide) (Nat.le_of_ble_eq_true rfl) ?_
  show gG l _ _ _ D cy b cX11_tell 3 _ RX11 "tell" 0 0 f 0 [(0, .ref x), (1, .int x1)] []
  refine gz_aload_n dX11_tell_0 rfl rfl ?_
  refine gz_iload_n dX11_tell_1 rfl rfl ?_
  refine scX11_126 (k_X11_formAt (i := x1) hx) hx ⟨(Nat.le_of_ble_eq_true rfl), (Nat.le_of_ble_eq_true rfl)⟩ ⟨(Nat.le_of_ble_eq_true rfl), (Nat.le_of_ble_eq_true rfl)⟩ rfl rfl (Nat.le_of_ble_eq_true rfl) dX11_tell_2 ?_
  intro v9 f9 z9; rw [z9.1, z9.2]; refine gz_ev (w := .null) rfl ?_
  refine gz_astore_nN (lv' := [(2, .null), (0, .ref x), (1, .int x1)]) dX11_tell_5 rfl (by decide) rfl ?_
  refine gz_aload_nN dX11_tell_6 rfl rfl ?_
  refine gz_ifnonnullN dX11_tell_7 ?_
  refine gz_iconst (v := (-1)) dX11_tell_10 (by decide) ?_
  exact gz_iret rfl dX11_tell_11 (Nat.le_of_ble_eq_true rfl) (Nat.le_of_ble_eq_true rfl) (⟨_, rfl, rfl, fr_rf⟩)

set_option maxHeartbeats 4000000 in
set_option maxRecDepth 100000 in
theorem k_X11_begin {l : Launch} {D : va_G} {cy : Nat → ClassId} {b : Nat} {f : gMem} {x ch tp ou fo dr ot rd te la le co wo : Nat} {x1 x2 x3 : Int32}  (hx : f x = some (.inr (11, [.ref ch, .ref tp, .ref ou, .ref fo, .ref dr, .ref ot, .ref rd, .ref te, .ref la, .ref le, .ref co, .ref wo, .int 0])))  : gC l D cy b yX11_begin cX11_begin 5 (some .int) 1 0 0 [.ref x, .int x1, .int x2, .int x3] f (pI fun r f2 => r = -1 ∧ fr [] f f2) := by
  refine gC_of (by decide) (Nat.le_of_ble_eq_true rfl) ?_
  show gG l _ _ _ D cy b cX11_begin 5 _ RX11 "begin" 0 0 f 0 [(0, .ref x), (1, .int x1), (2, .int x2), (3, .int x3)] []
  refine gz_aload_n dX11_begin_0 rfl rfl ?_
  refine gz_iload_n dX11_begin_1 rfl rfl ?_
  refine scX11_126 (k_X11_formAt (i := x1) hx) hx ⟨(Nat.le_of_ble_eq_true rfl), (Nat.le_of_ble_eq_true rfl)⟩ ⟨(Nat.le_of_ble_eq_true rfl), (Nat.le_of_ble_eq_true rfl)⟩ rfl rfl (Nat.le_of_ble_eq_true rfl) dX11_begin_2 ?_
  intro v9 f9 z9; rw [z9.1, z9.2]; refine gz_ev (w := .null) rfl ?_
  refine gz_astoreN (lv' := [(4, .null), (0, .ref x), (1, .int x1), (2, .int x2), (3, .int x3)]) dX11_begin_5 (by decide) rfl ?_
  refine gz_aloadN dX11_begin_7 rfl ?_
  refine gz_ifnullN (tgt := 31) dX11_begin_9 (by decide) ?_
  refine gz_iconst (v := (-1)) dX11_begin_31 (by decide) ?_
  exact gz_iret rfl dX11_begin_32 (Nat.le_of_ble_eq_true rfl) (Nat.le_of_ble_eq_true rfl) (⟨_, rfl, rfl, fr_rf⟩)

set_option maxHeartbeats 4000000 in
set_option maxRecDepth 100000 in
theorem k_X11_comeTo {l : Launch} {D : va_G} {cy : Nat → ClassId} {b : Nat} {f : gMem} {x ch tp ou fo dr ot rd te la le co wo : Nat} {x1 x2 x3 : Int32}  (hx : f x = some (.inr (11, [.ref ch, .ref tp, .ref ou, .ref fo, .ref dr, .ref ot, .ref rd, .ref te, .ref la, .ref le, .ref co, .ref wo, .int 0])))  : gC l D cy b yX11_comeTo cX11_comeTo 5 (some .int) 1 0 0 [.ref x, .int x1, .int x2, .int x3] f (pI fun r f2 => r = -1 ∧ fr [] f f2) := by
  refine gC_of (by decide) (Nat.le_of_ble_eq_true rfl) ?_
  show gG l _ _ _ D cy b cX11_comeTo 5 _ RX11 "comeTo" 0 0 f 0 [(0, .ref x), (1, .int x1), (2, .int x2), (3, .int x3)] []
  refine gz_aload_n dX11_comeTo_0 rfl rfl ?_
  refine gz_iload_n dX11_comeTo_1 rfl rfl ?_
  refine scX11_126 (k_X11_formAt (i := x1) hx) hx ⟨(Nat.le_of_ble_eq_true rfl), (Nat.le_of_ble_eq_true rfl)⟩ ⟨(Nat.le_of_ble_eq_true rfl), (Nat.le_of_ble_eq_true rfl)⟩ rfl rfl (Nat.le_of_ble_eq_true rfl) dX11_comeTo_2 ?_
  intro v9 f9 z9; rw [z9.1, z9.2]; refine gz_ev (w := .null) rfl ?_
  refine gz_astoreN (lv' := [(4, .null), (0, .ref x), (1, .int x1), (2, .int x2), (3, .int x3)]) dX11_comeTo_5 (by decide) rfl ?_
  refine gz_aloadN dX11_comeTo_7 rfl ?_
  refine gz_ifnullN (tgt := 32) dX11_comeTo_9 (by decide) ?_
  refine gz_iconst (v := (-1)) dX11_comeTo_32 (by decide) ?_
  exact gz_iret rfl dX11_comeTo_33 (Nat.le_of_ble_eq_true rfl) (Nat.le_of_ble_eq_true rfl) (⟨_, rfl, rfl, fr_rf⟩)

set_option maxHeartbeats 4000000 in
set_option maxRecDepth 100000 in
theorem k_X11_parted {l : Launch} {D : va_G} {cy : Nat → ClassId} {b : Nat} {f : gMem} {x ch tp ou fo dr ot rd te la le co wo : Nat} {x1 x2 x3 : Int32}  (hx : f x = some (.inr (11, [.ref ch, .ref tp, .ref ou, .ref fo, .ref dr, .ref ot, .ref rd, .ref te, .ref la, .ref le, .ref co, .ref wo, .int 0])))  : gC l D cy b yX11_parted cX11_parted 6 (some .int) 1 0 0 [.ref x, .int x1, .int x2, .int x3] f (pI fun r f2 => r = -1 ∧ fr [] f f2) := by
  refine gC_of (by decide) (Nat.le_of_ble_eq_true rfl) ?_
  show gG l _ _ _ D cy b cX11_parted 6 _ RX11 "parted" 0 0 f 0 [(0, .ref x), (1, .int x1), (2, .int x2), (3, .int x3)] []
  refine gz_aload_n dX11_parted_0 rfl rfl ?_
  refine gz_iload_n dX11_parted_1 rfl rfl ?_
  refine scX11_126 (k_X11_formAt (i := x1) hx) hx ⟨(Nat.le_of_ble_eq_true rfl), (Nat.le_of_ble_eq_true rfl)⟩ ⟨(Nat.le_of_ble_eq_true rfl), (Nat.le_of_ble_eq_true rfl)⟩ rfl rfl (Nat.le_of_ble_eq_true rfl) dX11_parted_2 ?_
  intro v9 f9 z9; rw [z9.1, z9.2]; refine gz_ev (w := .null) rfl ?_
  refine gz_astoreN (lv' := [(4, .null), (0, .ref x), (1, .int x1), (2, .int x2), (3, .int x3)]) dX11_parted_5 (by decide) rfl ?_
  refine gz_aload_n dX11_parted_7 rfl rfl ?_
  refine gz_iload_n dX11_parted_8 rfl rfl ?_
  refine scX11_126 (k_X11_formAt (i := x2) hx) hx ⟨(Nat.le_of_ble_eq_true rfl), (Nat.le_of_ble_eq_true rfl)⟩ ⟨(Nat.le_of_ble_eq_true rfl), (Nat.le_of_ble_eq_true rfl)⟩ rfl rfl (Nat.le_of_ble_eq_true rfl) dX11_parted_9 ?_
  intro v9 f9 z9; rw [z9.1, z9.2]; refine gz_ev (w := .null) rfl ?_
  refine gz_astoreN (lv' := [(5, .null), (4, .null), (0, .ref x), (1, .int x1), (2, .int x2), (3, .int x3)]) dX11_parted_12 (by decide) rfl ?_
  refine gz_aloadN dX11_parted_14 rfl ?_
  refine gz_ifnullN (tgt := 47) dX11_parted_16 (by decide) ?_
  refine gz_iconst (v := (-1)) dX11_parted_47 (by decide) ?_
  exact gz_iret rfl dX11_parted_48 (Nat.le_of_ble_eq_true rfl) (Nat.le_of_ble_eq_true rfl) (⟨_, rfl, rfl, fr_rf⟩)

set_option maxHeartbeats 4000000 in
set_option maxRecDepth 100000 in
theorem k_X11_worth {l : Launch} {D : va_G} {cy : Nat → ClassId} {b : Nat} {f : gMem} {x ch tp ou fo dr ot rd te la le co wo : Nat} {x1 x2 x3 : Int32}  (hx : f x = some (.inr (11, [.ref ch, .ref tp, .ref ou, .ref fo, .ref dr, .ref ot, .ref rd, .ref te, .ref la, .ref le, .ref co, .ref wo, .int 0])))  : gC l D cy b yX11_worth cX11_worth 5 (some .long) 1 0 0 [.ref x, .int x1, .int x2, .int x3] f (pL fun r f2 => r = -1000000000000000000 ∧ fr [] f f2) := by
  refine gC_of (by decide) (Nat.le_of_ble_eq_true rfl) ?_
  show gG l _ _ _ D cy b cX11_worth 5 _ RX11 "worth" 0 0 f 0 [(0, .ref x), (1, .int x1), (2, .int x2), (3, .int x3)] []
  refine gz_aload_n dX11_worth_0 rfl rfl ?_
  refine gz_iload_n dX11_worth_1 rfl rfl ?_
  refine scX11_126 (k_X11_formAt (i := x1) hx) hx ⟨(Nat.le_of_ble_eq_true rfl), (Nat.le_of_ble_eq_true rfl)⟩ ⟨(Nat.le_of_ble_eq_true rfl), (Nat.le_of_ble_eq_true rfl)⟩ rfl rfl (Nat.le_of_ble_eq_true rfl) dX11_worth_2 ?_
  intro v9 f9 z9; rw [z9.1, z9.2]; refine gz_ev (w := .null) rfl ?_
  refine gz_astoreN (lv' := [(4, .null), (0, .ref x), (1, .int x1), (2, .int x2), (3, .int x3)]) dX11_worth_5 (by decide) rfl ?_
  refine gz_aloadN dX11_worth_7 rfl ?_
  refine gz_ifnullN (tgt := 28) dX11_worth_9 (by decide) ?_
  refine gz_ldc2 (v := (-1000000000000000000)) wd_656 dX11_worth_28 ?_
  exact gz_lret rfl dX11_worth_31 (Nat.le_of_ble_eq_true rfl) (Nat.le_of_ble_eq_true rfl) (⟨_, rfl, rfl, fr_rf⟩)

set_option maxHeartbeats 4000000 in
set_option maxRecDepth 100000 in
theorem k_X11_octet {l : Launch} {D : va_G} {cy : Nat → ClassId} {b : Nat} {f : gMem} {x ch tp ou fo dr ot rd te la le co wo : Nat} {x1 : Int32} {bo : Nat} {gbo : Nat → Int32} (hx : f x = some (.inr (11, [.ref ch, .ref tp, .ref ou, .ref fo, .ref dr, .ref ot, .ref rd, .ref te, .ref la, .ref le, .ref co, .ref wo, .int 0]))) (hou : f ou = some (.inr (9, [.ref bo, .int 0]))) (hbo : f bo = some (.inl (cy 1, 480, .inl (gbo))))  : gC l D cy b yX11_octet cX11_octet 2 (some .int) 1 0 0 [.ref x, .int x1] f (pI fun r f2 => r = -1 ∧ fr [] f f2) := by
  refine gC_of (by decide) (Nat.le_of_ble_eq_true rfl) ?_
  show gG l _ _ _ D cy b cX11_octet 2 _ RX11 "octet" 0 0 f 0 [(0, .ref x), (1, .int x1)] []
  refine gz_aload_n dX11_octet_0 rfl rfl ?_
  refine sgX11_25 hx rfl dX11_octet_1 ?_
  refine gz_iload_n dX11_octet_4 rfl rfl ?_
  refine scX11_145 (k_X9_at (i := x1) hou hbo (by decide)) hou ⟨(Nat.le_of_ble_eq_true rfl), (Nat.le_of_ble_eq_true rfl)⟩ ⟨(Nat.le_of_ble_eq_true rfl), (Nat.le_of_ble_eq_true rfl)⟩ rfl rfl (Nat.le_of_ble_eq_true rfl) dX11_octet_5 ?_
  intro v9 f9 z9; rw [z9.1, z9.2]
  exact gz_iret rfl dX11_octet_8 (Nat.le_of_ble_eq_true rfl) (Nat.le_of_ble_eq_true rfl) (⟨_, rfl, by show _ = _; unfold tAt; by_cases h1 : x1 < 0; rw [if_pos h1]; rw [if_neg h1, if_pos (by simp only [fl_lt, fl_le] at h1 ⊢; omega)], fr_rf⟩)

set_option maxHeartbeats 4000000 in
set_option maxRecDepth 100000 in
theorem k_X1_lifeAt {l : Launch} {D : va_G} {cy : Nat → ClassId} {b : Nat} {f : gMem} {c lv td le : Nat} {i : Int32} (hc : f c = some (.inr (1, [.ref lv, .ref td, .ref le, .int 0])))  : gC l D cy b yX1_lifeAt cX1_lifeAt 2 (some (.object "DeedTongue$Life")) 0 0 0 [.ref c, .int i] f (pR fun v f2 => v = none ∧ f2 = f) := by
  refine gC_of (by decide) (Nat.le_of_ble_eq_true rfl) ?_
  show gG l _ _ _ D cy b cX1_lifeAt 2 _ RX1 "lifeAt" 0 0 f 0 [(0, .ref c), (1, .int i)] []
  refine gz_iload_n dX1_lifeAt_0 rfl rfl ?_
  refine gz_if_lt (tgt := 27) dX1_lifeAt_1 (by decide) (fun c_1 => ?_) (fun c_1 => ?_)
  ·
    refine gz_null dX1_lifeAt_27 ?_
    exact gz_aret rfl (Or.inl rfl) dX1_lifeAt_28 (Nat.le_of_ble_eq_true rfl) (Nat.le_of_ble_eq_true rfl) (⟨none, rfl, rfl, rfl⟩)
  ·
    refine gz_iload_n dX1_lifeAt_4 rfl rfl ?_
    refine gz_aload_n dX1_lifeAt_5 rfl rfl ?_
    refine sgX1_25 hc rfl dX1_lifeAt_6 ?_
    refine gz_icmp_ge (tgt := 27) dX1_lifeAt_9 (by decide) (fun c_9 => ?_) (fun c_9 => ?_)
    ·
      refine gz_null dX1_lifeAt_27 ?_
      exact gz_aret rfl (Or.inl rfl) dX1_lifeAt_28 (Nat.le_of_ble_eq_true rfl) (Nat.le_of_ble_eq_true rfl) (⟨none, rfl, rfl, rfl⟩)
    · exfalso; simp only [fl_lt, fl_le] at c_1 c_9; have e0 : (0 : Int32).toInt = 0 := rfl; omega

set_option maxHeartbeats 4000000 in
set_option maxRecDepth 100000 in
theorem k_X1_wake {l : Launch} {D : va_G} {cy : Nat → ClassId} {b : Nat} {f : gMem} {c : Nat}   : gC l D cy b yX1_wake cX1_wake 4 none 0 0 0 [.ref c, .null] f (pV fun f2 => f2 = f) := by
  refine gC_of (by decide) (Nat.le_of_ble_eq_true rfl) ?_
  show gG l _ _ _ D cy b cX1_wake 4 _ RX1 "wake" 0 0 f 0 [(0, .ref c), (1, .null)] []
  refine gz_aload_nN dX1_wake_0 rfl rfl ?_
  refine gz_ifnonnullN dX1_wake_1 ?_
  exact gz_vret rfl dX1_wake_4 (Nat.le_of_ble_eq_true rfl) (Nat.le_of_ble_eq_true rfl) (⟨rfl, rfl⟩)

set_option maxHeartbeats 4000000 in
set_option maxRecDepth 100000 in
theorem k_X1_decide {l : Launch} {D : va_G} {cy : Nat → ClassId} {b : Nat} {f : gMem} {c lv td le : Nat} {x1 x2 x3 x4 x5 : Int32} (hc : f c = some (.inr (1, [.ref lv, .ref td, .ref le, .int 0])))  : gC l D cy b yX1_decide cX1_decide 10 (some .int) 1 0 0 [.ref c, .int x1, .int x2, .int x3, .int x4, .int x5] f (pI fun r f2 => r = -1 ∧ f2 = f) := by
  refine gC_of (by decide) (Nat.le_of_ble_eq_true rfl) ?_
  show gG l _ _ _ D cy b cX1_decide 10 _ RX1 "decide" 0 0 f 0 [(0, .ref c), (1, .int x1), (2, .int x2), (3, .int x3), (4, .int x4), (5, .int x5)] []
  refine gz_aload_n dX1_decide_0 rfl rfl ?_
  refine gz_iload_n dX1_decide_1 rfl rfl ?_
  refine scX1_114 (k_X1_lifeAt (i := x1) hc) hc ⟨(Nat.le_of_ble_eq_true rfl), (Nat.le_of_ble_eq_true rfl)⟩ ⟨(Nat.le_of_ble_eq_true rfl), (Nat.le_of_ble_eq_true rfl)⟩ rfl rfl (Nat.le_of_ble_eq_true rfl) dX1_decide_2 ?_
  intro v9 f9 z9; rw [z9.1, z9.2]; refine gz_ev (w := .null) rfl ?_
  refine gz_astoreN (lv' := [(6, .null), (0, .ref c), (1, .int x1), (2, .int x2), (3, .int x3), (4, .int x4), (5, .int x5)]) dX1_decide_5 (by decide) rfl ?_
  refine gz_aloadN dX1_decide_7 rfl ?_
  refine gz_ifnonnullN dX1_decide_9 ?_
  refine gz_iconst (v := (-1)) dX1_decide_12 (by decide) ?_
  exact gz_iret rfl dX1_decide_13 (Nat.le_of_ble_eq_true rfl) (Nat.le_of_ble_eq_true rfl) (⟨_, rfl, rfl, rfl⟩)

set_option maxHeartbeats 4000000 in
set_option maxRecDepth 100000 in
theorem k_X11_stands {l : Launch} {D : va_G} {cy : Nat → ClassId} {b : Nat} {f : gMem} {x ch tp ou fo dr ot rd te la le co wo : Nat} {x1 : Int32} {lv td : Nat} (hx : f x = some (.inr (11, [.ref ch, .ref tp, .ref ou, .ref fo, .ref dr, .ref ot, .ref rd, .ref te, .ref la, .ref le, .ref co, .ref wo, .int 0]))) (hco : f co = some (.inr (1, [.ref lv, .ref td, .ref le, .int 0])))  : gC l D cy b yX11_stands cX11_stands 3 (some .int) 1 0 0 [.ref x, .int x1] f (pI fun r f2 => r = -1 ∧ fr [] f f2) := by
  refine gC_of (by decide) (Nat.le_of_ble_eq_true rfl) ?_
  show gG l _ _ _ D cy b cX11_stands 3 _ RX11 "stands" 0 0 f 0 [(0, .ref x), (1, .int x1)] []
  refine gz_aload_n dX11_stands_0 rfl rfl ?_
  refine sgX11_85 hx rfl dX11_stands_1 ?_
  refine gz_iload_n dX11_stands_4 rfl rfl ?_
  refine scX11_162 (k_X1_lifeAt (i := x1) hco) hco ⟨(Nat.le_of_ble_eq_true rfl), (Nat.le_of_ble_eq_true rfl)⟩ ⟨(Nat.le_of_ble_eq_true rfl), (Nat.le_of_ble_eq_true rfl)⟩ rfl rfl (Nat.le_of_ble_eq_true rfl) dX11_stands_5 ?_
  intro v9 f9 z9; rw [z9.1, z9.2]; refine gz_ev (w := .null) rfl ?_
  refine gz_astore_nN (lv' := [(2, .null), (0, .ref x), (1, .int x1)]) dX11_stands_8 rfl (by decide) rfl ?_
  refine gz_aload_nN dX11_stands_9 rfl rfl ?_
  refine gz_ifnonnullN dX11_stands_10 ?_
  refine gz_iconst (v := (-1)) dX11_stands_13 (by decide) ?_
  refine gz_goto (tgt := 21) dX11_stands_14 (by decide) ?_
  exact gz_iret rfl dX11_stands_21 (Nat.le_of_ble_eq_true rfl) (Nat.le_of_ble_eq_true rfl) (⟨_, rfl, rfl, fr_rf⟩)

set_option maxHeartbeats 4000000 in
set_option maxRecDepth 100000 in
theorem k_X11_standing {l : Launch} {D : va_G} {cy : Nat → ClassId} {b : Nat} {f : gMem} {x ch tp ou fo dr ot rd te la le co wo : Nat} {x1 x2 x3 : Int32} {lv td : Nat} (hx : f x = some (.inr (11, [.ref ch, .ref tp, .ref ou, .ref fo, .ref dr, .ref ot, .ref rd, .ref te, .ref la, .ref le, .ref co, .ref wo, .int 0]))) (hco : f co = some (.inr (1, [.ref lv, .ref td, .ref le, .int 0])))  : gC l D cy b yX11_standing cX11_standing 5 (some .int) 1 0 0 [.ref x, .int x1, .int x2, .int x3] f (pI fun r f2 => r = -1 ∧ fr [] f f2) := by
  refine gC_of (by decide) (Nat.le_of_ble_eq_true rfl) ?_
  show gG l _ _ _ D cy b cX11_standing 5 _ RX11 "standing" 0 0 f 0 [(0, .ref x), (1, .int x1), (2, .int x2), (3, .int x3)] []
  refine gz_aload_n dX11_standing_0 rfl rfl ?_
  refine sgX11_85 hx rfl dX11_standing_1 ?_
  refine gz_iload_n dX11_standing_4 rfl rfl ?_
  refine scX11_162 (k_X1_lifeAt (i := x1) hco) hco ⟨(Nat.le_of_ble_eq_true rfl), (Nat.le_of_ble_eq_true rfl)⟩ ⟨(Nat.le_of_ble_eq_true rfl), (Nat.le_of_ble_eq_true rfl)⟩ rfl rfl (Nat.le_of_ble_eq_true rfl) dX11_standing_5 ?_
  intro v9 f9 z9; rw [z9.1, z9.2]; refine gz_ev (w := .null) rfl ?_
  refine gz_astoreN (lv' := [(4, .null), (0, .ref x), (1, .int x1), (2, .int x2), (3, .int x3)]) dX11_standing_8 (by decide) rfl ?_
  refine gz_aloadN dX11_standing_10 rfl ?_
  refine gz_ifnonnullN dX11_standing_12 ?_
  refine gz_iconst (v := (-1)) dX11_standing_15 (by decide) ?_
  refine gz_goto (tgt := 33) dX11_standing_16 (by decide) ?_
  exact gz_iret rfl dX11_standing_33 (Nat.le_of_ble_eq_true rfl) (Nat.le_of_ble_eq_true rfl) (⟨_, rfl, rfl, fr_rf⟩)

set_option maxHeartbeats 4000000 in
set_option maxRecDepth 100000 in
theorem k_X11_got {l : Launch} {D : va_G} {cy : Nat → ClassId} {b : Nat} {f : gMem} {x ch tp ou fo dr ot rd te la le co wo : Nat} {x1 : Int32} {lv td : Nat} (hx : f x = some (.inr (11, [.ref ch, .ref tp, .ref ou, .ref fo, .ref dr, .ref ot, .ref rd, .ref te, .ref la, .ref le, .ref co, .ref wo, .int 0]))) (hco : f co = some (.inr (1, [.ref lv, .ref td, .ref le, .int 0])))  : gC l D cy b yX11_got cX11_got 3 (some .long) 1 0 0 [.ref x, .int x1] f (pL fun r f2 => r = 0 ∧ fr [] f f2) := by
  refine gC_of (by decide) (Nat.le_of_ble_eq_true rfl) ?_
  show gG l _ _ _ D cy b cX11_got 3 _ RX11 "got" 0 0 f 0 [(0, .ref x), (1, .int x1)] []
  refine gz_aload_n dX11_got_0 rfl rfl ?_
  refine sgX11_85 hx rfl dX11_got_1 ?_
  refine gz_iload_n dX11_got_4 rfl rfl ?_
  refine scX11_162 (k_X1_lifeAt (i := x1) hco) hco ⟨(Nat.le_of_ble_eq_true rfl), (Nat.le_of_ble_eq_true rfl)⟩ ⟨(Nat.le_of_ble_eq_true rfl), (Nat.le_of_ble_eq_true rfl)⟩ rfl rfl (Nat.le_of_ble_eq_true rfl) dX11_got_5 ?_
  intro v9 f9 z9; rw [z9.1, z9.2]; refine gz_ev (w := .null) rfl ?_
  refine gz_astore_nN (lv' := [(2, .null), (0, .ref x), (1, .int x1)]) dX11_got_8 rfl (by decide) rfl ?_
  refine gz_aload_nN dX11_got_9 rfl rfl ?_
  refine gz_ifnonnullN dX11_got_10 ?_
  refine gz_lconst (v := 0) dX11_got_13 (by decide) ?_
  refine gz_goto (tgt := 21) dX11_got_14 (by decide) ?_
  exact gz_lret rfl dX11_got_21 (Nat.le_of_ble_eq_true rfl) (Nat.le_of_ble_eq_true rfl) (⟨_, rfl, rfl, fr_rf⟩)

set_option maxHeartbeats 4000000 in
set_option maxRecDepth 100000 in
theorem k_X11_choose {l : Launch} {D : va_G} {cy : Nat → ClassId} {b : Nat} {f : gMem} {x ch tp ou fo dr ot rd te la le co wo : Nat} {x1 x2 x3 x4 : Int32} {lv td : Nat} (hx : f x = some (.inr (11, [.ref ch, .ref tp, .ref ou, .ref fo, .ref dr, .ref ot, .ref rd, .ref te, .ref la, .ref le, .ref co, .ref wo, .int 0]))) (hco : f co = some (.inr (1, [.ref lv, .ref td, .ref le, .int 0])))  : gC l D cy b yX11_choose cX11_choose 5 (some .int) 2 0 0 [.ref x, .int x1, .int x2, .int x3, .int x4] f (pI fun r f2 => r = -1 ∧ fr [] f f2) := by
  refine gC_of (by decide) (Nat.le_of_ble_eq_true rfl) ?_
  show gG l _ _ _ D cy b cX11_choose 5 _ RX11 "choose" 0 0 f 0 [(0, .ref x), (1, .int x1), (2, .int x2), (3, .int x3), (4, .int x4)] []
  refine gz_iload dX11_choose_0 rfl ?_
  refine gz_if_eq (tgt := 13) dX11_choose_2 (by decide) (fun c_2 => ?_) (fun c_2 => ?_)
  ·
    refine gz_aload_n dX11_choose_13 rfl rfl ?_
    refine sgX11_85 hx rfl dX11_choose_14 ?_
    refine gz_iload_n dX11_choose_17 rfl rfl ?_
    refine gz_iload_n dX11_choose_18 rfl rfl ?_
    refine gz_iload_n dX11_choose_19 rfl rfl ?_
    refine gz_iconst (v := 4) dX11_choose_20 (by decide) ?_
    refine gz_iload dX11_choose_21 rfl ?_
    refine scX11_177 (k_X1_decide (x1 := x1) (x2 := x2) (x3 := x3) (x4 := 4) (x5 := x4) hco) hco ⟨(Nat.le_of_ble_eq_true rfl), (Nat.le_of_ble_eq_true rfl)⟩ ⟨(Nat.le_of_ble_eq_true rfl), (Nat.le_of_ble_eq_true rfl)⟩ rfl rfl (Nat.le_of_ble_eq_true rfl) dX11_choose_23 ?_
    intro v9 f9 z9; rw [z9.1, z9.2]
    exact gz_iret rfl dX11_choose_26 (Nat.le_of_ble_eq_true rfl) (Nat.le_of_ble_eq_true rfl) (⟨_, rfl, rfl, fr_rf⟩)
  ·
    refine gz_iload dX11_choose_5 rfl ?_
    refine gz_iconst (v := 1) dX11_choose_7 (by decide) ?_
    refine gz_icmp_eq (tgt := 13) dX11_choose_8 (by decide) (fun c_8 => ?_) (fun c_8 => ?_)
    ·
      refine gz_aload_n dX11_choose_13 rfl rfl ?_
      refine sgX11_85 hx rfl dX11_choose_14 ?_
      refine gz_iload_n dX11_choose_17 rfl rfl ?_
      refine gz_iload_n dX11_choose_18 rfl rfl ?_
      refine gz_iload_n dX11_choose_19 rfl rfl ?_
      refine gz_iconst (v := 4) dX11_choose_20 (by decide) ?_
      refine gz_iload dX11_choose_21 rfl ?_
      refine scX11_177 (k_X1_decide (x1 := x1) (x2 := x2) (x3 := x3) (x4 := 4) (x5 := x4) hco) hco ⟨(Nat.le_of_ble_eq_true rfl), (Nat.le_of_ble_eq_true rfl)⟩ ⟨(Nat.le_of_ble_eq_true rfl), (Nat.le_of_ble_eq_true rfl)⟩ rfl rfl (Nat.le_of_ble_eq_true rfl) dX11_choose_23 ?_
      intro v9 f9 z9; rw [z9.1, z9.2]
      exact gz_iret rfl dX11_choose_26 (Nat.le_of_ble_eq_true rfl) (Nat.le_of_ble_eq_true rfl) (⟨_, rfl, rfl, fr_rf⟩)
    ·
      refine gz_iconst (v := (-1)) dX11_choose_11 (by decide) ?_
      exact gz_iret rfl dX11_choose_12 (Nat.le_of_ble_eq_true rfl) (Nat.le_of_ble_eq_true rfl) (⟨_, rfl, rfl, fr_rf⟩)

set_option maxHeartbeats 4000000 in
set_option maxRecDepth 100000 in
theorem k_X11_take {l : Launch} {D : va_G} {cy : Nat → ClassId} {b : Nat} {f : gMem} {x ch tp ou fo dr ot rd te la le co wo : Nat} {x1 x2 x3 : Int32} {lv td : Nat} (hx : f x = some (.inr (11, [.ref ch, .ref tp, .ref ou, .ref fo, .ref dr, .ref ot, .ref rd, .ref te, .ref la, .ref le, .ref co, .ref wo, .int 0]))) (hco : f co = some (.inr (1, [.ref lv, .ref td, .ref le, .int 0])))  : gC l D cy b yX11_take cX11_take 4 (some .int) 2 0 0 [.ref x, .int x1, .int x2, .int x3] f (pI fun r f2 => r = -1 ∧ fr [] f f2) := by
  refine gC_of (by decide) (Nat.le_of_ble_eq_true rfl) ?_
  show gG l _ _ _ D cy b cX11_take 4 _ RX11 "take" 0 0 f 0 [(0, .ref x), (1, .int x1), (2, .int x2), (3, .int x3)] []
  refine gz_aload_n dX11_take_0 rfl rfl ?_
  refine sgX11_85 hx rfl dX11_take_1 ?_
  refine gz_iload_n dX11_take_4 rfl rfl ?_
  refine gz_iload_n dX11_take_5 rfl rfl ?_
  refine gz_iload_n dX11_take_6 rfl rfl ?_
  refine gz_bipush (v := 7) dX11_take_7 (by decide) ?_
  refine gz_iconst (v := 0) dX11_take_9 (by decide) ?_
  refine scX11_177 (k_X1_decide (x1 := x1) (x2 := x2) (x3 := x3) (x4 := 7) (x5 := 0) hco) hco ⟨(Nat.le_of_ble_eq_true rfl), (Nat.le_of_ble_eq_true rfl)⟩ ⟨(Nat.le_of_ble_eq_true rfl), (Nat.le_of_ble_eq_true rfl)⟩ rfl rfl (Nat.le_of_ble_eq_true rfl) dX11_take_10 ?_
  intro v9 f9 z9; rw [z9.1, z9.2]
  exact gz_iret rfl dX11_take_13 (Nat.le_of_ble_eq_true rfl) (Nat.le_of_ble_eq_true rfl) (⟨_, rfl, rfl, fr_rf⟩)

set_option maxHeartbeats 4000000 in
set_option maxRecDepth 100000 in
theorem k_X4_size {l0 : Launch} {D : va_G} {cy : Nat → ClassId} {b : Nat} {f : gMem} {l en ge re gi ta am : Nat} (hl : f l = some (.inr (4, [.ref en, .int 0, .int 0, .ref ge, .ref re, .ref gi, .ref ta, .ref am, .int (-1)])))  : gC l0 D cy b yX4_size cX4_size 1 (some .int) 0 0 0 [.ref l] f (pI fun r f2 => r = 0 ∧ f2 = f) := by
  refine gC_of (by decide) (Nat.le_of_ble_eq_true rfl) ?_
  show gG l0 _ _ _ D cy b cX4_size 1 _ RX4 "size" 0 0 f 0 [(0, .ref l)] []
  refine gz_aload_n dX4_size_0 rfl rfl ?_
  refine sgX4_35 hl rfl dX4_size_1 ?_
  exact gz_iret rfl dX4_size_4 (Nat.le_of_ble_eq_true rfl) (Nat.le_of_ble_eq_true rfl) (⟨_, rfl, rfl, rfl⟩)

set_option maxHeartbeats 4000000 in
set_option maxRecDepth 100000 in
theorem l_X11_day {l : Launch} {D : va_G} {cy : Nat → ClassId} {b : Nat} {f : gMem}  {x ch tp ou fo dr ot rd te la le co wo : Nat} {lv td en ge re gi ta am : Nat} {f0 : gMem} (hx : f x = some (.inr (11, [.ref ch, .ref tp, .ref ou, .ref fo, .ref dr, .ref ot, .ref rd, .ref te, .ref la, .ref le, .ref co, .ref wo, .int 0]))) (hco : f co = some (.inr (1, [.ref lv, .ref td, .ref le, .int 0]))) (hle : f le = some (.inr (4, [.ref en, .int 0, .int 0, .ref ge, .ref re, .ref gi, .ref ta, .ref am, .int (-1)]))) (hfr : fr [td] f0 f) : ∀ (k : Nat) (x2 : Int32), x2.toInt = 40 - (k : Int) → k ≤ 40 → gG l (gRm 1 0 0) (gQf D b (pI fun r f2 => r = 0 ∧ fr [td] f0 f2) 0 0) gTt D cy b cX11_day 3 (some .int) RX11 "day" 0 0 f 22 [(2, .int x2), (1, .int 0), (0, .ref x)] [] := by
  intro k
  induction k with
  | zero =>
    intro x2 hx2 hk
    refine gz_iload_n dX11_day_22 rfl rfl ?_
    refine gz_bipush (v := 40) dX11_day_23 (by decide) ?_
    refine gz_icmp_ge (tgt := 49) dX11_day_25 (by decide) (fun c_25 => ?_) (fun c_25 => ?_)
    ·
      refine gz_aload_n dX11_day_49 rfl rfl ?_
      refine sgX11_72 hx rfl dX11_day_50 ?_
      refine scX11_161 (k_X4_size hle) hle ⟨(Nat.le_of_ble_eq_true rfl), (Nat.le_of_ble_eq_true rfl)⟩ ⟨(Nat.le_of_ble_eq_true rfl), (Nat.le_of_ble_eq_true rfl)⟩ rfl rfl (Nat.le_of_ble_eq_true rfl) dX11_day_53 ?_
      intro v9 f9 z9; rw [z9.1, z9.2]
      refine gz_iload_n dX11_day_56 rfl rfl ?_
      refine gz_isub dX11_day_57 ?_
      refine gz_ev (w := .int 0) (by decide) ?_
      exact gz_iret rfl dX11_day_58 (Nat.le_of_ble_eq_true rfl) (Nat.le_of_ble_eq_true rfl) (⟨_, rfl, rfl, hfr⟩)
    · exfalso; rw [fl_le] at c_25; have e40 : (40 : Int32).toInt = 40 := rfl; omega
  | succ k ih =>
    intro x2 hx2 hk
    refine gz_iload_n dX11_day_22 rfl rfl ?_
    refine gz_bipush (v := 40) dX11_day_23 (by decide) ?_
    refine gz_icmp_ge (tgt := 49) dX11_day_25 (by decide) (fun c_25 => ?_) (fun c_25 => ?_)
    · exfalso; rw [fl_le] at c_25; have e40 : (40 : Int32).toInt = 40 := rfl; omega
    ·
      refine gz_aload_n dX11_day_28 rfl rfl ?_
      refine sgX11_85 hx rfl dX11_day_29 ?_
      refine gz_aload_n dX11_day_32 rfl rfl ?_
      refine sgX11_85 hx rfl dX11_day_33 ?_
      refine gz_iload_n dX11_day_36 rfl rfl ?_
      refine scX11_162 (k_X1_lifeAt (i := x2) hco) hco ⟨(Nat.le_of_ble_eq_true rfl), (Nat.le_of_ble_eq_true rfl)⟩ ⟨(Nat.le_of_ble_eq_true rfl), (Nat.le_of_ble_eq_true rfl)⟩ rfl rfl (Nat.le_of_ble_eq_true rfl) dX11_day_37 ?_
      intro v9 f9 z9; rw [z9.1, z9.2]; refine gz_ev (w := .null) rfl ?_
      refine scX11_166 (k_X1_wake (c := co)) hco ⟨(Nat.le_of_ble_eq_true rfl), (Nat.le_of_ble_eq_true rfl)⟩ ⟨(Nat.le_of_ble_eq_true rfl), (Nat.le_of_ble_eq_true rfl)⟩ rfl rfl (Nat.le_of_ble_eq_true rfl) dX11_day_40 ?_
      intro f9 z9; rw [show f9 = _ from z9]
      refine gz_iinc (v := (x2 + 1)) (lv' := [(2, .int (x2 + 1)), (1, .int 0), (0, .ref x)]) dX11_day_43 rfl rfl (by decide) rfl ?_
      refine gz_goto (tgt := 22) dX11_day_46 (by decide) ?_
      exact ih (x2 + 1) (by have e1 : (1 : Int32).toInt = 1 := rfl; rw [addT (by omega) (by omega)]; omega) (by omega)

set_option maxHeartbeats 4000000 in
set_option maxRecDepth 100000 in
theorem k_X11_day {l : Launch} {D : va_G} {cy : Nat → ClassId} {b : Nat} {f : gMem} {x ch tp ou fo dr ot rd te la le co wo : Nat} {to td th lv en ge re gi ta am : Nat} (hx : f x = some (.inr (11, [.ref ch, .ref tp, .ref ou, .ref fo, .ref dr, .ref ot, .ref rd, .ref te, .ref la, .ref le, .ref co, .ref wo, .int 0]))) (hch : f ch = some (.inr (0, [.ref to, .ref td]))) (htd : f td = some (.inr (7, [.ref th, .int 0]))) (hco : f co = some (.inr (1, [.ref lv, .ref td, .ref le, .int 0]))) (hle : f le = some (.inr (4, [.ref en, .int 0, .int 0, .ref ge, .ref re, .ref gi, .ref ta, .ref am, .int (-1)])))  : gC l D cy b yX11_day cX11_day 3 (some .int) 1 0 0 [.ref x] f (pI fun r f2 => r = 0 ∧ fr [td] f f2) := by
  refine gC_of (by decide) (Nat.le_of_ble_eq_true rfl) ?_
  show gG l _ _ _ D cy b cX11_day 3 _ RX11 "day" 0 0 f 0 [(0, .ref x)] []
  refine gz_aload_n dX11_day_0 rfl rfl ?_
  refine sgX11_12 hx rfl dX11_day_1 ?_
  refine scX11_157 (k_X0_turn hch htd) hch ⟨(Nat.le_of_ble_eq_true rfl), (Nat.le_of_ble_eq_true rfl)⟩ ⟨(Nat.le_of_ble_eq_true rfl), (Nat.le_of_ble_eq_true rfl)⟩ rfl rfl (Nat.le_of_ble_eq_true rfl) dX11_day_4 ?_
  rintro v9 f9 ⟨z1, z2, z3⟩; rw [z1]
  have nx : x ≠ td := cne hx htd (by simp)
  have nc : co ≠ td := cne hco htd (by simp)
  have nl : le ≠ td := cne hle htd (by simp)
  have hx9 : f9 x = some (.inr (11, [.ref ch, .ref tp, .ref ou, .ref fo, .ref dr, .ref ot, .ref rd, .ref te, .ref la, .ref le, .ref co, .ref wo, .int 0])) := z3 _ _ hx (by simpa using nx)
  have hco9 : f9 co = some (.inr (1, [.ref lv, .ref td, .ref le, .int 0])) := z3 _ _ hco (by simpa using nc)
  have hle9 : f9 le = some (.inr (4, [.ref en, .int 0, .int 0, .ref ge, .ref re, .ref gi, .ref ta, .ref am, .int (-1)])) := z3 _ _ hle (by simpa using nl)
  refine gz_if_ne (tgt := 12) dX11_day_7 (by decide) (fun c_7 => ?_) (fun c_7 => ?_)
  ·
    refine gz_aload_n dX11_day_12 rfl rfl ?_
    refine sgX11_72 hx9 rfl dX11_day_13 ?_
    refine scX11_161 (k_X4_size hle9) hle9 ⟨(Nat.le_of_ble_eq_true rfl), (Nat.le_of_ble_eq_true rfl)⟩ ⟨(Nat.le_of_ble_eq_true rfl), (Nat.le_of_ble_eq_true rfl)⟩ rfl rfl (Nat.le_of_ble_eq_true rfl) dX11_day_16 ?_
    intro v9 f9 z9; rw [z9.1, z9.2]
    refine gz_istore_n (lv' := [(1, .int 0), (0, .ref x)]) dX11_day_19 rfl (by decide) rfl ?_
    refine gz_iconst (v := 0) dX11_day_20 (by decide) ?_
    refine gz_istore_n (lv' := [(2, .int 0), (1, .int 0), (0, .ref x)]) dX11_day_21 rfl (by decide) rfl ?_
    exact l_X11_day hx9 hco9 hle9 z3 40 0 (by decide) (by decide)
  · exact absurd c_7 (by decide)

set_option maxHeartbeats 4000000 in
set_option maxRecDepth 100000 in
theorem k_X4_entry {l : Launch} {D : va_G} {cy : Nat → ClassId} {b : Nat} {f : gMem} {e en ge re gi ta am : Nat} {i j : Int32} (he : f e = some (.inr (4, [.ref en, .int 0, .int 0, .ref ge, .ref re, .ref gi, .ref ta, .ref am, .int (-1)])))  : gC l D cy b yX4_entry cX4_entry 4 (some .int) 0 0 0 [.ref e, .int i, .int j] f (pI fun r f2 => r = -10000000 ∧ f2 = f) := by
  refine gC_of (by decide) (Nat.le_of_ble_eq_true rfl) ?_
  show gG l _ _ _ D cy b cX4_entry 4 _ RX4 "entry" 0 0 f 0 [(0, .ref e), (1, .int i), (2, .int j)] []
  refine gz_iload_n dX4_entry_0 rfl rfl ?_
  refine gz_if_lt (tgt := 22) dX4_entry_1 (by decide) (fun c_1 => ?_) (fun c_1 => ?_)
  ·
    refine gz_ldc (v := (-10000000)) wd_391 dX4_entry_22 ?_
    exact gz_iret rfl dX4_entry_24 (Nat.le_of_ble_eq_true rfl) (Nat.le_of_ble_eq_true rfl) (⟨_, rfl, rfl, rfl⟩)
  ·
    refine gz_iload_n dX4_entry_4 rfl rfl ?_
    refine gz_aload_n dX4_entry_5 rfl rfl ?_
    refine sgX4_35 he rfl dX4_entry_6 ?_
    refine gz_icmp_ge (tgt := 22) dX4_entry_9 (by decide) (fun c_9 => ?_) (fun c_9 => ?_)
    ·
      refine gz_ldc (v := (-10000000)) wd_391 dX4_entry_22 ?_
      exact gz_iret rfl dX4_entry_24 (Nat.le_of_ble_eq_true rfl) (Nat.le_of_ble_eq_true rfl) (⟨_, rfl, rfl, rfl⟩)
    · exfalso; simp only [fl_lt, fl_le] at c_1 c_9; have e0 : (0 : Int32).toInt = 0 := rfl; omega

set_option maxHeartbeats 4000000 in
set_option maxRecDepth 100000 in
theorem k_X11_payment {l : Launch} {D : va_G} {cy : Nat → ClassId} {b : Nat} {f : gMem} {x ch tp ou fo dr ot rd te la le co wo : Nat} {x1 x2 : Int32} {en ge re gi ta am : Nat} (hx : f x = some (.inr (11, [.ref ch, .ref tp, .ref ou, .ref fo, .ref dr, .ref ot, .ref rd, .ref te, .ref la, .ref le, .ref co, .ref wo, .int 0]))) (hle : f le = some (.inr (4, [.ref en, .int 0, .int 0, .ref ge, .ref re, .ref gi, .ref ta, .ref am, .int (-1)])))  : gC l D cy b yX11_payment cX11_payment 3 (some .int) 1 0 0 [.ref x, .int x1, .int x2] f (pI fun r f2 => r = -10000000 ∧ fr [] f f2) := by
  refine gC_of (by decide) (Nat.le_of_ble_eq_true rfl) ?_
  show gG l _ _ _ D cy b cX11_payment 3 _ RX11 "payment" 0 0 f 0 [(0, .ref x), (1, .int x1), (2, .int x2)] []
  refine gz_iload_n dX11_payment_0 rfl rfl ?_
  refine gz_if_lt (tgt := 9) dX11_payment_1 (by decide) (fun c_1 => ?_) (fun c_1 => ?_)
  ·
    refine gz_ldc (v := (-10000000)) wd_631 dX11_payment_9 ?_
    exact gz_iret rfl dX11_payment_11 (Nat.le_of_ble_eq_true rfl) (Nat.le_of_ble_eq_true rfl) (⟨_, rfl, rfl, fr_rf⟩)
  ·
    refine gz_iload_n dX11_payment_4 rfl rfl ?_
    refine gz_iconst (v := 3) dX11_payment_5 (by decide) ?_
    refine gz_icmp_le (tgt := 12) dX11_payment_6 (by decide) (fun c_6 => ?_) (fun c_6 => ?_)
    ·
      refine gz_aload_n dX11_payment_12 rfl rfl ?_
      refine sgX11_72 hx rfl dX11_payment_13 ?_
      refine gz_iload_n dX11_payment_16 rfl rfl ?_
      refine gz_iload_n dX11_payment_17 rfl rfl ?_
      refine scX11_182 (k_X4_entry (i := x1) (j := x2) hle) hle ⟨(Nat.le_of_ble_eq_true rfl), (Nat.le_of_ble_eq_true rfl)⟩ ⟨(Nat.le_of_ble_eq_true rfl), (Nat.le_of_ble_eq_true rfl)⟩ rfl rfl (Nat.le_of_ble_eq_true rfl) dX11_payment_18 ?_
      intro v9 f9 z9; rw [z9.1, z9.2]
      exact gz_iret rfl dX11_payment_21 (Nat.le_of_ble_eq_true rfl) (Nat.le_of_ble_eq_true rfl) (⟨_, rfl, rfl, fr_rf⟩)
    ·
      refine gz_ldc (v := (-10000000)) wd_631 dX11_payment_9 ?_
      exact gz_iret rfl dX11_payment_11 (Nat.le_of_ble_eq_true rfl) (Nat.le_of_ble_eq_true rfl) (⟨_, rfl, rfl, fr_rf⟩)

set_option maxHeartbeats 4000000 in
set_option maxRecDepth 100000 in
theorem k_X4_settled {l : Launch} {D : va_G} {cy : Nat → ClassId} {b : Nat} {f : gMem} {e en ge re gi ta am : Nat} {i j : Int32} (he : f e = some (.inr (4, [.ref en, .int 0, .int 0, .ref ge, .ref re, .ref gi, .ref ta, .ref am, .int (-1)])))  : gC l D cy b yX4_settled cX4_settled 3 (some .long) 0 0 0 [.ref e, .int i, .int j] f (pL fun r f2 => r = -1000000000000 ∧ f2 = f) := by
  refine gC_of (by decide) (Nat.le_of_ble_eq_true rfl) ?_
  show gG l _ _ _ D cy b cX4_settled 3 _ RX4 "settled" 0 0 f 0 [(0, .ref e), (1, .int i), (2, .int j)] []
  refine gz_aload_n dX4_settled_0 rfl rfl ?_
  refine sgX4_31 he rfl dX4_settled_1 ?_
  refine gz_iconst (v := (-1)) dX4_settled_4 (by decide) ?_
  refine gz_icmp_ne (tgt := 12) dX4_settled_5 (by decide) (fun c_5 => ?_) (fun c_5 => ?_)
  · exact absurd c_5 (by decide)
  ·
    refine gz_ldc2 (v := (-1000000000000)) wd_414 dX4_settled_8 ?_
    exact gz_lret rfl dX4_settled_11 (Nat.le_of_ble_eq_true rfl) (Nat.le_of_ble_eq_true rfl) (⟨_, rfl, rfl, rfl⟩)

set_option maxHeartbeats 4000000 in
set_option maxRecDepth 100000 in
theorem k_X11_netted {l : Launch} {D : va_G} {cy : Nat → ClassId} {b : Nat} {f : gMem} {x ch tp ou fo dr ot rd te la le co wo : Nat} {x1 x2 : Int32} {en ge re gi ta am : Nat} (hx : f x = some (.inr (11, [.ref ch, .ref tp, .ref ou, .ref fo, .ref dr, .ref ot, .ref rd, .ref te, .ref la, .ref le, .ref co, .ref wo, .int 0]))) (hle : f le = some (.inr (4, [.ref en, .int 0, .int 0, .ref ge, .ref re, .ref gi, .ref ta, .ref am, .int (-1)])))  : gC l D cy b yX11_netted cX11_netted 3 (some .long) 1 0 0 [.ref x, .int x1, .int x2] f (pL fun r f2 => r = -1000000000000 ∧ fr [] f f2) := by
  refine gC_of (by decide) (Nat.le_of_ble_eq_true rfl) ?_
  show gG l _ _ _ D cy b cX11_netted 3 _ RX11 "netted" 0 0 f 0 [(0, .ref x), (1, .int x1), (2, .int x2)] []
  refine gz_aload_n dX11_netted_0 rfl rfl ?_
  refine sgX11_72 hx rfl dX11_netted_1 ?_
  refine gz_iload_n dX11_netted_4 rfl rfl ?_
  refine gz_iload_n dX11_netted_5 rfl rfl ?_
  refine scX11_192 (k_X4_settled (i := x1) (j := x2) hle) hle ⟨(Nat.le_of_ble_eq_true rfl), (Nat.le_of_ble_eq_true rfl)⟩ ⟨(Nat.le_of_ble_eq_true rfl), (Nat.le_of_ble_eq_true rfl)⟩ rfl rfl (Nat.le_of_ble_eq_true rfl) dX11_netted_6 ?_
  intro v9 f9 z9; rw [z9.1, z9.2]
  exact gz_lret rfl dX11_netted_9 (Nat.le_of_ble_eq_true rfl) (Nat.le_of_ble_eq_true rfl) (⟨_, rfl, rfl, fr_rf⟩)

set_option maxHeartbeats 4000000 in
set_option maxRecDepth 100000 in
theorem k_X4_leastHouse {l : Launch} {D : va_G} {cy : Nat → ClassId} {b : Nat} {f : gMem} {e en ge re gi ta am : Nat} {s gf : Int32} {gr : Nat → Int64} (he : f e = some (.inr (4, [.ref en, .int 0, .int 0, .ref ge, .ref re, .ref gi, .ref ta, .ref am, .int gf]))) (hre : f re = some (.inl (cy 2, 8, .inr (.inl (gr))))) (hz : ∀ i, i < 8 → gr i = 0) : gC l D cy b yX4_leastHouse cX4_leastHouse 3 (some .int) 0 0 0 [.ref e, .int s] f (pI fun r f2 => r = -1 ∧ f2 = f) := by
  refine gC_of (by decide) (Nat.le_of_ble_eq_true rfl) ?_
  show gG l _ _ _ D cy b cX4_leastHouse 3 _ RX4 "leastHouse" 0 0 f 0 [(0, .ref e), (1, .int s)] []
  refine gz_iconst (v := 0) dX4_leastHouse_0 (by decide) ?_
  refine gz_istore_n (lv' := [(2, .int 0), (0, .ref e), (1, .int s)]) dX4_leastHouse_1 rfl (by decide) rfl ?_
  refine gz_iload_n dX4_leastHouse_2 rfl rfl ?_
  refine gz_bipush (v := 8) dX4_leastHouse_3 (by decide) ?_
  refine gz_icmp_ge (tgt := 30) dX4_leastHouse_5 (by decide) (fun c_5 => ?_) (fun c_5 => ?_)
  · exact absurd c_5 (by decide)
  ·
    refine gz_aload_n dX4_leastHouse_8 rfl rfl ?_
    refine sgX4_19 he rfl dX4_leastHouse_9 ?_
    refine gz_iload_n dX4_leastHouse_12 rfl rfl ?_
    refine gz_lald hre (vin_T (v := 0) rfl (by decide) (by decide)) dX4_leastHouse_13 ?_
    refine gz_iload_n dX4_leastHouse_14 rfl rfl ?_
    refine gz_i2l dX4_leastHouse_15 ?_
    refine gz_lmul dX4_leastHouse_16 ?_
    refine gz_lconst (v := 0) dX4_leastHouse_17 (by decide) ?_
    refine gz_lcmp dX4_leastHouse_18 ?_
    refine gz_if_le (tgt := 24) dX4_leastHouse_19 (by decide) (fun c_19 => ?_) (fun c_19 => ?_)
    ·
      refine gz_iinc (v := 1) (lv' := [(2, .int 1), (0, .ref e), (1, .int s)]) dX4_leastHouse_24 rfl (by decide) (by decide) rfl ?_
      refine gz_goto (tgt := 2) dX4_leastHouse_27 (by decide) ?_
      refine gz_iload_n dX4_leastHouse_2 rfl rfl ?_
      refine gz_bipush (v := 8) dX4_leastHouse_3 (by decide) ?_
      refine gz_icmp_ge (tgt := 30) dX4_leastHouse_5 (by decide) (fun c_5_1 => ?_) (fun c_5_1 => ?_)
      · exact absurd c_5_1 (by decide)
      ·
        refine gz_aload_n dX4_leastHouse_8 rfl rfl ?_
        refine sgX4_19 he rfl dX4_leastHouse_9 ?_
        refine gz_iload_n dX4_leastHouse_12 rfl rfl ?_
        refine gz_lald hre (vin_T (v := 1) rfl (by decide) (by decide)) dX4_leastHouse_13 ?_
        refine gz_iload_n dX4_leastHouse_14 rfl rfl ?_
        refine gz_i2l dX4_leastHouse_15 ?_
        refine gz_lmul dX4_leastHouse_16 ?_
        refine gz_lconst (v := 0) dX4_leastHouse_17 (by decide) ?_
        refine gz_lcmp dX4_leastHouse_18 ?_
        refine gz_if_le (tgt := 24) dX4_leastHouse_19 (by decide) (fun c_19_2 => ?_) (fun c_19_2 => ?_)
        ·
          refine gz_iinc (v := 2) (lv' := [(2, .int 2), (0, .ref e), (1, .int s)]) dX4_leastHouse_24 rfl (by decide) (by decide) rfl ?_
          refine gz_goto (tgt := 2) dX4_leastHouse_27 (by decide) ?_
          refine gz_iload_n dX4_leastHouse_2 rfl rfl ?_
          refine gz_bipush (v := 8) dX4_leastHouse_3 (by decide) ?_
          refine gz_icmp_ge (tgt := 30) dX4_leastHouse_5 (by decide) (fun c_5_3 => ?_) (fun c_5_3 => ?_)
          · exact absurd c_5_3 (by decide)
          ·
            refine gz_aload_n dX4_leastHouse_8 rfl rfl ?_
            refine sgX4_19 he rfl dX4_leastHouse_9 ?_
            refine gz_iload_n dX4_leastHouse_12 rfl rfl ?_
            refine gz_lald hre (vin_T (v := 2) rfl (by decide) (by decide)) dX4_leastHouse_13 ?_
            refine gz_iload_n dX4_leastHouse_14 rfl rfl ?_
            refine gz_i2l dX4_leastHouse_15 ?_
            refine gz_lmul dX4_leastHouse_16 ?_
            refine gz_lconst (v := 0) dX4_leastHouse_17 (by decide) ?_
            refine gz_lcmp dX4_leastHouse_18 ?_
            refine gz_if_le (tgt := 24) dX4_leastHouse_19 (by decide) (fun c_19_4 => ?_) (fun c_19_4 => ?_)
            ·
              refine gz_iinc (v := 3) (lv' := [(2, .int 3), (0, .ref e), (1, .int s)]) dX4_leastHouse_24 rfl (by decide) (by decide) rfl ?_
              refine gz_goto (tgt := 2) dX4_leastHouse_27 (by decide) ?_
              refine gz_iload_n dX4_leastHouse_2 rfl rfl ?_
              refine gz_bipush (v := 8) dX4_leastHouse_3 (by decide) ?_
              refine gz_icmp_ge (tgt := 30) dX4_leastHouse_5 (by decide) (fun c_5_5 => ?_) (fun c_5_5 => ?_)
              · exact absurd c_5_5 (by decide)
              ·
                refine gz_aload_n dX4_leastHouse_8 rfl rfl ?_
                refine sgX4_19 he rfl dX4_leastHouse_9 ?_
                refine gz_iload_n dX4_leastHouse_12 rfl rfl ?_
                refine gz_lald hre (vin_T (v := 3) rfl (by decide) (by decide)) dX4_leastHouse_13 ?_
                refine gz_iload_n dX4_leastHouse_14 rfl rfl ?_
                refine gz_i2l dX4_leastHouse_15 ?_
                refine gz_lmul dX4_leastHouse_16 ?_
                refine gz_lconst (v := 0) dX4_leastHouse_17 (by decide) ?_
                refine gz_lcmp dX4_leastHouse_18 ?_
                refine gz_if_le (tgt := 24) dX4_leastHouse_19 (by decide) (fun c_19_6 => ?_) (fun c_19_6 => ?_)
                ·
                  refine gz_iinc (v := 4) (lv' := [(2, .int 4), (0, .ref e), (1, .int s)]) dX4_leastHouse_24 rfl (by decide) (by decide) rfl ?_
                  refine gz_goto (tgt := 2) dX4_leastHouse_27 (by decide) ?_
                  refine gz_iload_n dX4_leastHouse_2 rfl rfl ?_
                  refine gz_bipush (v := 8) dX4_leastHouse_3 (by decide) ?_
                  refine gz_icmp_ge (tgt := 30) dX4_leastHouse_5 (by decide) (fun c_5_7 => ?_) (fun c_5_7 => ?_)
                  · exact absurd c_5_7 (by decide)
                  ·
                    refine gz_aload_n dX4_leastHouse_8 rfl rfl ?_
                    refine sgX4_19 he rfl dX4_leastHouse_9 ?_
                    refine gz_iload_n dX4_leastHouse_12 rfl rfl ?_
                    refine gz_lald hre (vin_T (v := 4) rfl (by decide) (by decide)) dX4_leastHouse_13 ?_
                    refine gz_iload_n dX4_leastHouse_14 rfl rfl ?_
                    refine gz_i2l dX4_leastHouse_15 ?_
                    refine gz_lmul dX4_leastHouse_16 ?_
                    refine gz_lconst (v := 0) dX4_leastHouse_17 (by decide) ?_
                    refine gz_lcmp dX4_leastHouse_18 ?_
                    refine gz_if_le (tgt := 24) dX4_leastHouse_19 (by decide) (fun c_19_8 => ?_) (fun c_19_8 => ?_)
                    ·
                      refine gz_iinc (v := 5) (lv' := [(2, .int 5), (0, .ref e), (1, .int s)]) dX4_leastHouse_24 rfl (by decide) (by decide) rfl ?_
                      refine gz_goto (tgt := 2) dX4_leastHouse_27 (by decide) ?_
                      refine gz_iload_n dX4_leastHouse_2 rfl rfl ?_
                      refine gz_bipush (v := 8) dX4_leastHouse_3 (by decide) ?_
                      refine gz_icmp_ge (tgt := 30) dX4_leastHouse_5 (by decide) (fun c_5_9 => ?_) (fun c_5_9 => ?_)
                      · exact absurd c_5_9 (by decide)
                      ·
                        refine gz_aload_n dX4_leastHouse_8 rfl rfl ?_
                        refine sgX4_19 he rfl dX4_leastHouse_9 ?_
                        refine gz_iload_n dX4_leastHouse_12 rfl rfl ?_
                        refine gz_lald hre (vin_T (v := 5) rfl (by decide) (by decide)) dX4_leastHouse_13 ?_
                        refine gz_iload_n dX4_leastHouse_14 rfl rfl ?_
                        refine gz_i2l dX4_leastHouse_15 ?_
                        refine gz_lmul dX4_leastHouse_16 ?_
                        refine gz_lconst (v := 0) dX4_leastHouse_17 (by decide) ?_
                        refine gz_lcmp dX4_leastHouse_18 ?_
                        refine gz_if_le (tgt := 24) dX4_leastHouse_19 (by decide) (fun c_19_10 => ?_) (fun c_19_10 => ?_)
                        ·
                          refine gz_iinc (v := 6) (lv' := [(2, .int 6), (0, .ref e), (1, .int s)]) dX4_leastHouse_24 rfl (by decide) (by decide) rfl ?_
                          refine gz_goto (tgt := 2) dX4_leastHouse_27 (by decide) ?_
                          refine gz_iload_n dX4_leastHouse_2 rfl rfl ?_
                          refine gz_bipush (v := 8) dX4_leastHouse_3 (by decide) ?_
                          refine gz_icmp_ge (tgt := 30) dX4_leastHouse_5 (by decide) (fun c_5_11 => ?_) (fun c_5_11 => ?_)
                          · exact absurd c_5_11 (by decide)
                          ·
                            refine gz_aload_n dX4_leastHouse_8 rfl rfl ?_
                            refine sgX4_19 he rfl dX4_leastHouse_9 ?_
                            refine gz_iload_n dX4_leastHouse_12 rfl rfl ?_
                            refine gz_lald hre (vin_T (v := 6) rfl (by decide) (by decide)) dX4_leastHouse_13 ?_
                            refine gz_iload_n dX4_leastHouse_14 rfl rfl ?_
                            refine gz_i2l dX4_leastHouse_15 ?_
                            refine gz_lmul dX4_leastHouse_16 ?_
                            refine gz_lconst (v := 0) dX4_leastHouse_17 (by decide) ?_
                            refine gz_lcmp dX4_leastHouse_18 ?_
                            refine gz_if_le (tgt := 24) dX4_leastHouse_19 (by decide) (fun c_19_12 => ?_) (fun c_19_12 => ?_)
                            ·
                              refine gz_iinc (v := 7) (lv' := [(2, .int 7), (0, .ref e), (1, .int s)]) dX4_leastHouse_24 rfl (by decide) (by decide) rfl ?_
                              refine gz_goto (tgt := 2) dX4_leastHouse_27 (by decide) ?_
                              refine gz_iload_n dX4_leastHouse_2 rfl rfl ?_
                              refine gz_bipush (v := 8) dX4_leastHouse_3 (by decide) ?_
                              refine gz_icmp_ge (tgt := 30) dX4_leastHouse_5 (by decide) (fun c_5_13 => ?_) (fun c_5_13 => ?_)
                              · exact absurd c_5_13 (by decide)
                              ·
                                refine gz_aload_n dX4_leastHouse_8 rfl rfl ?_
                                refine sgX4_19 he rfl dX4_leastHouse_9 ?_
                                refine gz_iload_n dX4_leastHouse_12 rfl rfl ?_
                                refine gz_lald hre (vin_T (v := 7) rfl (by decide) (by decide)) dX4_leastHouse_13 ?_
                                refine gz_iload_n dX4_leastHouse_14 rfl rfl ?_
                                refine gz_i2l dX4_leastHouse_15 ?_
                                refine gz_lmul dX4_leastHouse_16 ?_
                                refine gz_lconst (v := 0) dX4_leastHouse_17 (by decide) ?_
                                refine gz_lcmp dX4_leastHouse_18 ?_
                                refine gz_if_le (tgt := 24) dX4_leastHouse_19 (by decide) (fun c_19_14 => ?_) (fun c_19_14 => ?_)
                                ·
                                  refine gz_iinc (v := 8) (lv' := [(2, .int 8), (0, .ref e), (1, .int s)]) dX4_leastHouse_24 rfl (by decide) (by decide) rfl ?_
                                  refine gz_goto (tgt := 2) dX4_leastHouse_27 (by decide) ?_
                                  refine gz_iload_n dX4_leastHouse_2 rfl rfl ?_
                                  refine gz_bipush (v := 8) dX4_leastHouse_3 (by decide) ?_
                                  refine gz_icmp_ge (tgt := 30) dX4_leastHouse_5 (by decide) (fun c_5_15 => ?_) (fun c_5_15 => ?_)
                                  ·
                                    refine gz_iconst (v := (-1)) dX4_leastHouse_30 (by decide) ?_
                                    exact gz_iret rfl dX4_leastHouse_31 (Nat.le_of_ble_eq_true rfl) (Nat.le_of_ble_eq_true rfl) (⟨_, rfl, rfl, rfl⟩)
                                  · exact absurd c_5_15 (by decide)
                                · exact absurd (by rw [hz _ (by decide), Int64.zero_mul]; decide) c_19_14
                            · exact absurd (by rw [hz _ (by decide), Int64.zero_mul]; decide) c_19_12
                        · exact absurd (by rw [hz _ (by decide), Int64.zero_mul]; decide) c_19_10
                    · exact absurd (by rw [hz _ (by decide), Int64.zero_mul]; decide) c_19_8
                · exact absurd (by rw [hz _ (by decide), Int64.zero_mul]; decide) c_19_6
            · exact absurd (by rw [hz _ (by decide), Int64.zero_mul]; decide) c_19_4
        · exact absurd (by rw [hz _ (by decide), Int64.zero_mul]; decide) c_19_2
    · exact absurd (by rw [hz _ (by decide), Int64.zero_mul]; decide) c_19

set_option maxHeartbeats 4000000 in
set_option maxRecDepth 100000 in
theorem k_X11_isHouse {l : Launch} {D : va_G} {cy : Nat → ClassId} {b : Nat} {f : gMem}    : gC l D cy b yX11_isHouse cX11_isHouse 1 (some .boolean) 0 0 0 [.int (-1)] f (pI fun r f2 => r = 0 ∧ f2 = f) := by
  refine gC_of (by decide) (Nat.le_of_ble_eq_true rfl) ?_
  show gG l _ _ _ D cy b cX11_isHouse 1 _ RX11 "isHouse" 0 0 f 0 [(0, .int (-1))] []
  refine gz_iload_n dX11_isHouse_0 rfl rfl ?_
  refine gz_if_lt (tgt := 14) dX11_isHouse_1 (by decide) (fun c_1 => ?_) (fun c_1 => ?_)
  ·
    refine gz_iconst (v := 0) dX11_isHouse_14 (by decide) ?_
    exact gz_zret rfl (by decide) dX11_isHouse_15 (Nat.le_of_ble_eq_true rfl) (Nat.le_of_ble_eq_true rfl) (⟨_, rfl, rfl, rfl⟩)
  · exact absurd c_1 (by decide)

set_option maxHeartbeats 4000000 in
set_option maxRecDepth 100000 in
theorem k_X4_addGift {l : Launch} {D : va_G} {cy : Nat → ClassId} {b : Nat} {f : gMem} {e en ge re gi ta am : Nat} {gf : Int32} {gr : Nat → Int64} (he : f e = some (.inr (4, [.ref en, .int 0, .int 0, .ref ge, .ref re, .ref gi, .ref ta, .ref am, .int gf]))) (hre : f re = some (.inl (cy 2, 8, .inr (.inl (gr))))) (hz : ∀ i, i < 8 → gr i = 0) : gC l D cy b yX4_addGift cX4_addGift 5 (some .boolean) 1 0 0 [.ref e] f (pI fun r f2 => r = 0 ∧ f2 = f) := by
  refine gC_of (by decide) (Nat.le_of_ble_eq_true rfl) ?_
  show gG l _ _ _ D cy b cX4_addGift 5 _ RX4 "addGift" 0 0 f 0 [(0, .ref e)] []
  refine gz_aload_n dX4_addGift_0 rfl rfl ?_
  refine gz_iconst (v := (-1)) dX4_addGift_1 (by decide) ?_
  refine scX4_85 (k_X4_leastHouse (s := (-1)) he hre hz) he ⟨(Nat.le_of_ble_eq_true rfl), (Nat.le_of_ble_eq_true rfl)⟩ ⟨(Nat.le_of_ble_eq_true rfl), (Nat.le_of_ble_eq_true rfl)⟩ rfl rfl (Nat.le_of_ble_eq_true rfl) dX4_addGift_2 ?_
  intro v9 f9 z9; rw [z9.1, z9.2]
  refine gz_istore_n (lv' := [(1, .int (-1)), (0, .ref e)]) dX4_addGift_5 rfl (by decide) rfl ?_
  refine gz_aload_n dX4_addGift_6 rfl rfl ?_
  refine gz_iconst (v := 1) dX4_addGift_7 (by decide) ?_
  refine scX4_85 (k_X4_leastHouse (s := 1) he hre hz) he ⟨(Nat.le_of_ble_eq_true rfl), (Nat.le_of_ble_eq_true rfl)⟩ ⟨(Nat.le_of_ble_eq_true rfl), (Nat.le_of_ble_eq_true rfl)⟩ rfl rfl (Nat.le_of_ble_eq_true rfl) dX4_addGift_8 ?_
  intro v9 f9 z9; rw [z9.1, z9.2]
  refine gz_istore_n (lv' := [(2, .int (-1)), (1, .int (-1)), (0, .ref e)]) dX4_addGift_11 rfl (by decide) rfl ?_
  refine gz_iload_n dX4_addGift_12 rfl rfl ?_
  refine scX4_81 (k_X11_isHouse) ⟨(Nat.le_of_ble_eq_true rfl), (Nat.le_of_ble_eq_true rfl)⟩ ⟨(Nat.le_of_ble_eq_true rfl), (Nat.le_of_ble_eq_true rfl)⟩ rfl rfl (Nat.le_of_ble_eq_true rfl) dX4_addGift_13 ?_
  intro v9 f9 z9; rw [z9.1, z9.2]
  refine gz_if_eq (tgt := 42) dX4_addGift_16 (by decide) (fun c_16 => ?_) (fun c_16 => ?_)
  ·
    refine gz_iconst (v := 0) dX4_addGift_42 (by decide) ?_
    exact gz_zret rfl (by decide) dX4_addGift_43 (Nat.le_of_ble_eq_true rfl) (Nat.le_of_ble_eq_true rfl) (⟨_, rfl, rfl, rfl⟩)
  · exact absurd c_16 (by decide)

set_option maxHeartbeats 4000000 in
set_option maxRecDepth 100000 in
theorem k_X4_settle {l : Launch} {D : va_G} {cy : Nat → ClassId} {b : Nat} {f : gMem} {e en ge re gi ta am : Nat} {dd : Int32} (he : f e = some (.inr (4, [.ref en, .int 0, .int 0, .ref ge, .ref re, .ref gi, .ref ta, .ref am, .int (-1)]))) (hge : f ge = some (.inl (cy 2, 8, .inr (.inl (fun _ => 0))))) (hre : f re = some (.inl (cy 2, 8, .inr (.inl (fun _ => 0))))) (nge : ge ≠ re) : gC l D cy b yX4_settle cX4_settle 3 (some .int) 2 0 0 [.ref e, .int dd] f (pI fun r f2 => r = 0 ∧ fr [e, ge, re] f f2) := by
  refine gC_of (by decide) (Nat.le_of_ble_eq_true rfl) ?_
  show gG l _ _ _ D cy b cX4_settle 3 _ RX4 "settle" 0 0 f 0 [(0, .ref e), (1, .int dd)] []
  refine gz_iconst (v := 0) dX4_settle_0 (by decide) ?_
  refine gz_istore_n (lv' := [(2, .int 0), (0, .ref e), (1, .int dd)]) dX4_settle_1 rfl (by decide) rfl ?_
  refine gz_iload_n dX4_settle_2 rfl rfl ?_
  refine gz_bipush (v := 8) dX4_settle_3 (by decide) ?_
  refine gz_icmp_ge (tgt := 21) dX4_settle_5 (by decide) (fun c_5 => ?_) (fun c_5 => ?_)
  · exact absurd c_5 (by decide)
  ·
    refine gz_aload_n dX4_settle_8 rfl rfl ?_
    refine sgX4_15 he rfl dX4_settle_9 ?_
    refine gz_iload_n dX4_settle_12 rfl rfl ?_
    refine gz_lconst (v := 0) dX4_settle_13 (by decide) ?_
    refine gz_last hge (vin_T (v := 0) rfl (by decide) (by decide)) dX4_settle_14 ?_
    obtain ⟨f1, hf1⟩ : ∃ gg : gMem, gg = va_up f ge (some (.inl (cy 2, 8, .inr (.inl (vp_updL (fun _ => 0) (Int32.toNatClampNeg 0) 0))))) := ⟨_, rfl⟩
    refine gz_eq (f2 := f1) hf1.symm rfl rfl rfl ?_
    have he_1 : f1 e = some (.inr (4, [.ref en, .int 0, .int 0, .ref ge, .ref re, .ref gi, .ref ta, .ref am, .int (-1)])) := by rw [hf1, va_up_ne _ _ (cne he hge (by simp))]; exact he
    have hre_1 : f1 re = some (.inl (cy 2, 8, .inr (.inl (fun _ => 0)))) := by rw [hf1, va_up_ne _ _ (Ne.symm (nge))]; exact hre
    have hge_1 : f1 ge = some (.inl (cy 2, 8, .inr (.inl (vp_updL (fun _ => 0) (Int32.toNatClampNeg 0) 0)))) := by rw [hf1]; exact va_up_self _ _ _
    refine gz_iinc (v := 1) (lv' := [(2, .int 1), (0, .ref e), (1, .int dd)]) dX4_settle_15 rfl (by decide) (by decide) rfl ?_
    refine gz_goto (tgt := 2) dX4_settle_18 (by decide) ?_
    refine gz_iload_n dX4_settle_2 rfl rfl ?_
    refine gz_bipush (v := 8) dX4_settle_3 (by decide) ?_
    refine gz_icmp_ge (tgt := 21) dX4_settle_5 (by decide) (fun c_5_1 => ?_) (fun c_5_1 => ?_)
    · exact absurd c_5_1 (by decide)
    ·
      refine gz_aload_n dX4_settle_8 rfl rfl ?_
      refine sgX4_15 he_1 rfl dX4_settle_9 ?_
      refine gz_iload_n dX4_settle_12 rfl rfl ?_
      refine gz_lconst (v := 0) dX4_settle_13 (by decide) ?_
      refine gz_last hge_1 (vin_T (v := 1) rfl (by decide) (by decide)) dX4_settle_14 ?_
      obtain ⟨f2, hf2⟩ : ∃ gg : gMem, gg = va_up f1 ge (some (.inl (cy 2, 8, .inr (.inl (vp_updL (vp_updL (fun _ => 0) (Int32.toNatClampNeg 0) 0) (Int32.toNatClampNeg 1) 0))))) := ⟨_, rfl⟩
      refine gz_eq (f2 := f2) hf2.symm rfl rfl rfl ?_
      have he_2 : f2 e = some (.inr (4, [.ref en, .int 0, .int 0, .ref ge, .ref re, .ref gi, .ref ta, .ref am, .int (-1)])) := by rw [hf2, va_up_ne _ _ (cne he_1 hge_1 (by simp))]; exact he_1
      have hre_2 : f2 re = some (.inl (cy 2, 8, .inr (.inl (fun _ => 0)))) := by rw [hf2, va_up_ne _ _ (Ne.symm (nge))]; exact hre_1
      have hge_2 : f2 ge = some (.inl (cy 2, 8, .inr (.inl (vp_updL (vp_updL (fun _ => 0) (Int32.toNatClampNeg 0) 0) (Int32.toNatClampNeg 1) 0)))) := by rw [hf2]; exact va_up_self _ _ _
      refine gz_iinc (v := 2) (lv' := [(2, .int 2), (0, .ref e), (1, .int dd)]) dX4_settle_15 rfl (by decide) (by decide) rfl ?_
      refine gz_goto (tgt := 2) dX4_settle_18 (by decide) ?_
      refine gz_iload_n dX4_settle_2 rfl rfl ?_
      refine gz_bipush (v := 8) dX4_settle_3 (by decide) ?_
      refine gz_icmp_ge (tgt := 21) dX4_settle_5 (by decide) (fun c_5_2 => ?_) (fun c_5_2 => ?_)
      · exact absurd c_5_2 (by decide)
      ·
        refine gz_aload_n dX4_settle_8 rfl rfl ?_
        refine sgX4_15 he_2 rfl dX4_settle_9 ?_
        refine gz_iload_n dX4_settle_12 rfl rfl ?_
        refine gz_lconst (v := 0) dX4_settle_13 (by decide) ?_
        refine gz_last hge_2 (vin_T (v := 2) rfl (by decide) (by decide)) dX4_settle_14 ?_
        obtain ⟨f3, hf3⟩ : ∃ gg : gMem, gg = va_up f2 ge (some (.inl (cy 2, 8, .inr (.inl (vp_updL (vp_updL (vp_updL (fun _ => 0) (Int32.toNatClampNeg 0) 0) (Int32.toNatClampNeg 1) 0) (Int32.toNatClampNeg 2) 0))))) := ⟨_, rfl⟩
        refine gz_eq (f2 := f3) hf3.symm rfl rfl rfl ?_
        have he_3 : f3 e = some (.inr (4, [.ref en, .int 0, .int 0, .ref ge, .ref re, .ref gi, .ref ta, .ref am, .int (-1)])) := by rw [hf3, va_up_ne _ _ (cne he_2 hge_2 (by simp))]; exact he_2
        have hre_3 : f3 re = some (.inl (cy 2, 8, .inr (.inl (fun _ => 0)))) := by rw [hf3, va_up_ne _ _ (Ne.symm (nge))]; exact hre_2
        have hge_3 : f3 ge = some (.inl (cy 2, 8, .inr (.inl (vp_updL (vp_updL (vp_updL (fun _ => 0) (Int32.toNatClampNeg 0) 0) (Int32.toNatClampNeg 1) 0) (Int32.toNatClampNeg 2) 0)))) := by rw [hf3]; exact va_up_self _ _ _
        refine gz_iinc (v := 3) (lv' := [(2, .int 3), (0, .ref e), (1, .int dd)]) dX4_settle_15 rfl (by decide) (by decide) rfl ?_
        refine gz_goto (tgt := 2) dX4_settle_18 (by decide) ?_
        refine gz_iload_n dX4_settle_2 rfl rfl ?_
        refine gz_bipush (v := 8) dX4_settle_3 (by decide) ?_
        refine gz_icmp_ge (tgt := 21) dX4_settle_5 (by decide) (fun c_5_3 => ?_) (fun c_5_3 => ?_)
        · exact absurd c_5_3 (by decide)
        ·
          refine gz_aload_n dX4_settle_8 rfl rfl ?_
          refine sgX4_15 he_3 rfl dX4_settle_9 ?_
          refine gz_iload_n dX4_settle_12 rfl rfl ?_
          refine gz_lconst (v := 0) dX4_settle_13 (by decide) ?_
          refine gz_last hge_3 (vin_T (v := 3) rfl (by decide) (by decide)) dX4_settle_14 ?_
          obtain ⟨f4, hf4⟩ : ∃ gg : gMem, gg = va_up f3 ge (some (.inl (cy 2, 8, .inr (.inl (vp_updL (vp_updL (vp_updL (vp_updL (fun _ => 0) (Int32.toNatClampNeg 0) 0) (Int32.toNatClampNeg 1) 0) (Int32.toNatClampNeg 2) 0) (Int32.toNatClampNeg 3) 0))))) := ⟨_, rfl⟩
          refine gz_eq (f2 := f4) hf4.symm rfl rfl rfl ?_
          have he_4 : f4 e = some (.inr (4, [.ref en, .int 0, .int 0, .ref ge, .ref re, .ref gi, .ref ta, .ref am, .int (-1)])) := by rw [hf4, va_up_ne _ _ (cne he_3 hge_3 (by simp))]; exact he_3
          have hre_4 : f4 re = some (.inl (cy 2, 8, .inr (.inl (fun _ => 0)))) := by rw [hf4, va_up_ne _ _ (Ne.symm (nge))]; exact hre_3
          have hge_4 : f4 ge = some (.inl (cy 2, 8, .inr (.inl (vp_updL (vp_updL (vp_updL (vp_updL (fun _ => 0) (Int32.toNatClampNeg 0) 0) (Int32.toNatClampNeg 1) 0) (Int32.toNatClampNeg 2) 0) (Int32.toNatClampNeg 3) 0)))) := by rw [hf4]; exact va_up_self _ _ _
          refine gz_iinc (v := 4) (lv' := [(2, .int 4), (0, .ref e), (1, .int dd)]) dX4_settle_15 rfl (by decide) (by decide) rfl ?_
          refine gz_goto (tgt := 2) dX4_settle_18 (by decide) ?_
          refine gz_iload_n dX4_settle_2 rfl rfl ?_
          refine gz_bipush (v := 8) dX4_settle_3 (by decide) ?_
          refine gz_icmp_ge (tgt := 21) dX4_settle_5 (by decide) (fun c_5_4 => ?_) (fun c_5_4 => ?_)
          · exact absurd c_5_4 (by decide)
          ·
            refine gz_aload_n dX4_settle_8 rfl rfl ?_
            refine sgX4_15 he_4 rfl dX4_settle_9 ?_
            refine gz_iload_n dX4_settle_12 rfl rfl ?_
            refine gz_lconst (v := 0) dX4_settle_13 (by decide) ?_
            refine gz_last hge_4 (vin_T (v := 4) rfl (by decide) (by decide)) dX4_settle_14 ?_
            obtain ⟨f5, hf5⟩ : ∃ gg : gMem, gg = va_up f4 ge (some (.inl (cy 2, 8, .inr (.inl (vp_updL (vp_updL (vp_updL (vp_updL (vp_updL (fun _ => 0) (Int32.toNatClampNeg 0) 0) (Int32.toNatClampNeg 1) 0) (Int32.toNatClampNeg 2) 0) (Int32.toNatClampNeg 3) 0) (Int32.toNatClampNeg 4) 0))))) := ⟨_, rfl⟩
            refine gz_eq (f2 := f5) hf5.symm rfl rfl rfl ?_
            have he_5 : f5 e = some (.inr (4, [.ref en, .int 0, .int 0, .ref ge, .ref re, .ref gi, .ref ta, .ref am, .int (-1)])) := by rw [hf5, va_up_ne _ _ (cne he_4 hge_4 (by simp))]; exact he_4
            have hre_5 : f5 re = some (.inl (cy 2, 8, .inr (.inl (fun _ => 0)))) := by rw [hf5, va_up_ne _ _ (Ne.symm (nge))]; exact hre_4
            have hge_5 : f5 ge = some (.inl (cy 2, 8, .inr (.inl (vp_updL (vp_updL (vp_updL (vp_updL (vp_updL (fun _ => 0) (Int32.toNatClampNeg 0) 0) (Int32.toNatClampNeg 1) 0) (Int32.toNatClampNeg 2) 0) (Int32.toNatClampNeg 3) 0) (Int32.toNatClampNeg 4) 0)))) := by rw [hf5]; exact va_up_self _ _ _
            refine gz_iinc (v := 5) (lv' := [(2, .int 5), (0, .ref e), (1, .int dd)]) dX4_settle_15 rfl (by decide) (by decide) rfl ?_
            refine gz_goto (tgt := 2) dX4_settle_18 (by decide) ?_
            refine gz_iload_n dX4_settle_2 rfl rfl ?_
            refine gz_bipush (v := 8) dX4_settle_3 (by decide) ?_
            refine gz_icmp_ge (tgt := 21) dX4_settle_5 (by decide) (fun c_5_5 => ?_) (fun c_5_5 => ?_)
            · exact absurd c_5_5 (by decide)
            ·
              refine gz_aload_n dX4_settle_8 rfl rfl ?_
              refine sgX4_15 he_5 rfl dX4_settle_9 ?_
              refine gz_iload_n dX4_settle_12 rfl rfl ?_
              refine gz_lconst (v := 0) dX4_settle_13 (by decide) ?_
              refine gz_last hge_5 (vin_T (v := 5) rfl (by decide) (by decide)) dX4_settle_14 ?_
              obtain ⟨f6, hf6⟩ : ∃ gg : gMem, gg = va_up f5 ge (some (.inl (cy 2, 8, .inr (.inl (vp_updL (vp_updL (vp_updL (vp_updL (vp_updL (vp_updL (fun _ => 0) (Int32.toNatClampNeg 0) 0) (Int32.toNatClampNeg 1) 0) (Int32.toNatClampNeg 2) 0) (Int32.toNatClampNeg 3) 0) (Int32.toNatClampNeg 4) 0) (Int32.toNatClampNeg 5) 0))))) := ⟨_, rfl⟩
              refine gz_eq (f2 := f6) hf6.symm rfl rfl rfl ?_
              have he_6 : f6 e = some (.inr (4, [.ref en, .int 0, .int 0, .ref ge, .ref re, .ref gi, .ref ta, .ref am, .int (-1)])) := by rw [hf6, va_up_ne _ _ (cne he_5 hge_5 (by simp))]; exact he_5
              have hre_6 : f6 re = some (.inl (cy 2, 8, .inr (.inl (fun _ => 0)))) := by rw [hf6, va_up_ne _ _ (Ne.symm (nge))]; exact hre_5
              have hge_6 : f6 ge = some (.inl (cy 2, 8, .inr (.inl (vp_updL (vp_updL (vp_updL (vp_updL (vp_updL (vp_updL (fun _ => 0) (Int32.toNatClampNeg 0) 0) (Int32.toNatClampNeg 1) 0) (Int32.toNatClampNeg 2) 0) (Int32.toNatClampNeg 3) 0) (Int32.toNatClampNeg 4) 0) (Int32.toNatClampNeg 5) 0)))) := by rw [hf6]; exact va_up_self _ _ _
              refine gz_iinc (v := 6) (lv' := [(2, .int 6), (0, .ref e), (1, .int dd)]) dX4_settle_15 rfl (by decide) (by decide) rfl ?_
              refine gz_goto (tgt := 2) dX4_settle_18 (by decide) ?_
              refine gz_iload_n dX4_settle_2 rfl rfl ?_
              refine gz_bipush (v := 8) dX4_settle_3 (by decide) ?_
              refine gz_icmp_ge (tgt := 21) dX4_settle_5 (by decide) (fun c_5_6 => ?_) (fun c_5_6 => ?_)
              · exact absurd c_5_6 (by decide)
              ·
                refine gz_aload_n dX4_settle_8 rfl rfl ?_
                refine sgX4_15 he_6 rfl dX4_settle_9 ?_
                refine gz_iload_n dX4_settle_12 rfl rfl ?_
                refine gz_lconst (v := 0) dX4_settle_13 (by decide) ?_
                refine gz_last hge_6 (vin_T (v := 6) rfl (by decide) (by decide)) dX4_settle_14 ?_
                obtain ⟨f7, hf7⟩ : ∃ gg : gMem, gg = va_up f6 ge (some (.inl (cy 2, 8, .inr (.inl (vp_updL (vp_updL (vp_updL (vp_updL (vp_updL (vp_updL (vp_updL (fun _ => 0) (Int32.toNatClampNeg 0) 0) (Int32.toNatClampNeg 1) 0) (Int32.toNatClampNeg 2) 0) (Int32.toNatClampNeg 3) 0) (Int32.toNatClampNeg 4) 0) (Int32.toNatClampNeg 5) 0) (Int32.toNatClampNeg 6) 0))))) := ⟨_, rfl⟩
                refine gz_eq (f2 := f7) hf7.symm rfl rfl rfl ?_
                have he_7 : f7 e = some (.inr (4, [.ref en, .int 0, .int 0, .ref ge, .ref re, .ref gi, .ref ta, .ref am, .int (-1)])) := by rw [hf7, va_up_ne _ _ (cne he_6 hge_6 (by simp))]; exact he_6
                have hre_7 : f7 re = some (.inl (cy 2, 8, .inr (.inl (fun _ => 0)))) := by rw [hf7, va_up_ne _ _ (Ne.symm (nge))]; exact hre_6
                have hge_7 : f7 ge = some (.inl (cy 2, 8, .inr (.inl (vp_updL (vp_updL (vp_updL (vp_updL (vp_updL (vp_updL (vp_updL (fun _ => 0) (Int32.toNatClampNeg 0) 0) (Int32.toNatClampNeg 1) 0) (Int32.toNatClampNeg 2) 0) (Int32.toNatClampNeg 3) 0) (Int32.toNatClampNeg 4) 0) (Int32.toNatClampNeg 5) 0) (Int32.toNatClampNeg 6) 0)))) := by rw [hf7]; exact va_up_self _ _ _
                refine gz_iinc (v := 7) (lv' := [(2, .int 7), (0, .ref e), (1, .int dd)]) dX4_settle_15 rfl (by decide) (by decide) rfl ?_
                refine gz_goto (tgt := 2) dX4_settle_18 (by decide) ?_
                refine gz_iload_n dX4_settle_2 rfl rfl ?_
                refine gz_bipush (v := 8) dX4_settle_3 (by decide) ?_
                refine gz_icmp_ge (tgt := 21) dX4_settle_5 (by decide) (fun c_5_7 => ?_) (fun c_5_7 => ?_)
                · exact absurd c_5_7 (by decide)
                ·
                  refine gz_aload_n dX4_settle_8 rfl rfl ?_
                  refine sgX4_15 he_7 rfl dX4_settle_9 ?_
                  refine gz_iload_n dX4_settle_12 rfl rfl ?_
                  refine gz_lconst (v := 0) dX4_settle_13 (by decide) ?_
                  refine gz_last hge_7 (vin_T (v := 7) rfl (by decide) (by decide)) dX4_settle_14 ?_
                  obtain ⟨f8, hf8⟩ : ∃ gg : gMem, gg = va_up f7 ge (some (.inl (cy 2, 8, .inr (.inl (vp_updL (vp_updL (vp_updL (vp_updL (vp_updL (vp_updL (vp_updL (vp_updL (fun _ => 0) (Int32.toNatClampNeg 0) 0) (Int32.toNatClampNeg 1) 0) (Int32.toNatClampNeg 2) 0) (Int32.toNatClampNeg 3) 0) (Int32.toNatClampNeg 4) 0) (Int32.toNatClampNeg 5) 0) (Int32.toNatClampNeg 6) 0) (Int32.toNatClampNeg 7) 0))))) := ⟨_, rfl⟩
                  refine gz_eq (f2 := f8) hf8.symm rfl rfl rfl ?_
                  have he_8 : f8 e = some (.inr (4, [.ref en, .int 0, .int 0, .ref ge, .ref re, .ref gi, .ref ta, .ref am, .int (-1)])) := by rw [hf8, va_up_ne _ _ (cne he_7 hge_7 (by simp))]; exact he_7
                  have hre_8 : f8 re = some (.inl (cy 2, 8, .inr (.inl (fun _ => 0)))) := by rw [hf8, va_up_ne _ _ (Ne.symm (nge))]; exact hre_7
                  have hge_8 : f8 ge = some (.inl (cy 2, 8, .inr (.inl (vp_updL (vp_updL (vp_updL (vp_updL (vp_updL (vp_updL (vp_updL (vp_updL (fun _ => 0) (Int32.toNatClampNeg 0) 0) (Int32.toNatClampNeg 1) 0) (Int32.toNatClampNeg 2) 0) (Int32.toNatClampNeg 3) 0) (Int32.toNatClampNeg 4) 0) (Int32.toNatClampNeg 5) 0) (Int32.toNatClampNeg 6) 0) (Int32.toNatClampNeg 7) 0)))) := by rw [hf8]; exact va_up_self _ _ _
                  refine gz_iinc (v := 8) (lv' := [(2, .int 8), (0, .ref e), (1, .int dd)]) dX4_settle_15 rfl (by decide) (by decide) rfl ?_
                  refine gz_goto (tgt := 2) dX4_settle_18 (by decide) ?_
                  refine gz_iload_n dX4_settle_2 rfl rfl ?_
                  refine gz_bipush (v := 8) dX4_settle_3 (by decide) ?_
                  refine gz_icmp_ge (tgt := 21) dX4_settle_5 (by decide) (fun c_5_8 => ?_) (fun c_5_8 => ?_)
                  ·
                    refine gz_iconst (v := 0) dX4_settle_21 (by decide) ?_
                    refine gz_istore_n (lv' := [(2, .int 0), (0, .ref e), (1, .int dd)]) dX4_settle_22 rfl (by decide) rfl ?_
                    refine gz_iload_n dX4_settle_23 rfl rfl ?_
                    refine gz_aload_n dX4_settle_24 rfl rfl ?_
                    refine sgX4_35 he_8 rfl dX4_settle_25 ?_
                    refine gz_icmp_ge (tgt := 80) dX4_settle_28 (by decide) (fun c_28 => ?_) (fun c_28 => ?_)
                    ·
                      refine gz_iconst (v := 0) dX4_settle_80 (by decide) ?_
                      refine gz_istore_n (lv' := [(2, .int 0), (0, .ref e), (1, .int dd)]) dX4_settle_81 rfl (by decide) rfl ?_
                      refine gz_iload_n dX4_settle_82 rfl rfl ?_
                      refine gz_bipush (v := 8) dX4_settle_83 (by decide) ?_
                      refine gz_icmp_ge (tgt := 106) dX4_settle_85 (by decide) (fun c_85 => ?_) (fun c_85 => ?_)
                      · exact absurd c_85 (by decide)
                      ·
                        refine gz_aload_n dX4_settle_88 rfl rfl ?_
                        refine sgX4_19 he_8 rfl dX4_settle_89 ?_
                        refine gz_iload_n dX4_settle_92 rfl rfl ?_
                        refine gz_aload_n dX4_settle_93 rfl rfl ?_
                        refine sgX4_15 he_8 rfl dX4_settle_94 ?_
                        refine gz_iload_n dX4_settle_97 rfl rfl ?_
                        refine gz_lald hge_8 (vin_T (v := 0) rfl (by decide) (by decide)) dX4_settle_98 ?_
                        refine gz_ev (w := .long 0) (rfl) ?_
                        refine gz_last hre_8 (vin_T (v := 0) rfl (by decide) (by decide)) dX4_settle_99 ?_
                        obtain ⟨f9, hf9⟩ : ∃ gg : gMem, gg = va_up f8 re (some (.inl (cy 2, 8, .inr (.inl (vp_updL (fun _ => 0) (Int32.toNatClampNeg 0) 0))))) := ⟨_, rfl⟩
                        refine gz_eq (f2 := f9) hf9.symm rfl rfl rfl ?_
                        have he_9 : f9 e = some (.inr (4, [.ref en, .int 0, .int 0, .ref ge, .ref re, .ref gi, .ref ta, .ref am, .int (-1)])) := by rw [hf9, va_up_ne _ _ (cne he_8 hre_8 (by simp))]; exact he_8
                        have hge_9 : f9 ge = some (.inl (cy 2, 8, .inr (.inl (vp_updL (vp_updL (vp_updL (vp_updL (vp_updL (vp_updL (vp_updL (vp_updL (fun _ => 0) (Int32.toNatClampNeg 0) 0) (Int32.toNatClampNeg 1) 0) (Int32.toNatClampNeg 2) 0) (Int32.toNatClampNeg 3) 0) (Int32.toNatClampNeg 4) 0) (Int32.toNatClampNeg 5) 0) (Int32.toNatClampNeg 6) 0) (Int32.toNatClampNeg 7) 0)))) := by rw [hf9, va_up_ne _ _ (nge)]; exact hge_8
                        have hre_9 : f9 re = some (.inl (cy 2, 8, .inr (.inl (vp_updL (fun _ => 0) (Int32.toNatClampNeg 0) 0)))) := by rw [hf9]; exact va_up_self _ _ _
                        refine gz_iinc (v := 1) (lv' := [(2, .int 1), (0, .ref e), (1, .int dd)]) dX4_settle_100 rfl (by decide) (by decide) rfl ?_
                        refine gz_goto (tgt := 82) dX4_settle_103 (by decide) ?_
                        refine gz_iload_n dX4_settle_82 rfl rfl ?_
                        refine gz_bipush (v := 8) dX4_settle_83 (by decide) ?_
                        refine gz_icmp_ge (tgt := 106) dX4_settle_85 (by decide) (fun c_85_9 => ?_) (fun c_85_9 => ?_)
                        · exact absurd c_85_9 (by decide)
                        ·
                          refine gz_aload_n dX4_settle_88 rfl rfl ?_
                          refine sgX4_19 he_9 rfl dX4_settle_89 ?_
                          refine gz_iload_n dX4_settle_92 rfl rfl ?_
                          refine gz_aload_n dX4_settle_93 rfl rfl ?_
                          refine sgX4_15 he_9 rfl dX4_settle_94 ?_
                          refine gz_iload_n dX4_settle_97 rfl rfl ?_
                          refine gz_lald hge_9 (vin_T (v := 1) rfl (by decide) (by decide)) dX4_settle_98 ?_
                          refine gz_ev (w := .long 0) (rfl) ?_
                          refine gz_last hre_9 (vin_T (v := 1) rfl (by decide) (by decide)) dX4_settle_99 ?_
                          obtain ⟨f10, hf10⟩ : ∃ gg : gMem, gg = va_up f9 re (some (.inl (cy 2, 8, .inr (.inl (vp_updL (vp_updL (fun _ => 0) (Int32.toNatClampNeg 0) 0) (Int32.toNatClampNeg 1) 0))))) := ⟨_, rfl⟩
                          refine gz_eq (f2 := f10) hf10.symm rfl rfl rfl ?_
                          have he_10 : f10 e = some (.inr (4, [.ref en, .int 0, .int 0, .ref ge, .ref re, .ref gi, .ref ta, .ref am, .int (-1)])) := by rw [hf10, va_up_ne _ _ (cne he_9 hre_9 (by simp))]; exact he_9
                          have hge_10 : f10 ge = some (.inl (cy 2, 8, .inr (.inl (vp_updL (vp_updL (vp_updL (vp_updL (vp_updL (vp_updL (vp_updL (vp_updL (fun _ => 0) (Int32.toNatClampNeg 0) 0) (Int32.toNatClampNeg 1) 0) (Int32.toNatClampNeg 2) 0) (Int32.toNatClampNeg 3) 0) (Int32.toNatClampNeg 4) 0) (Int32.toNatClampNeg 5) 0) (Int32.toNatClampNeg 6) 0) (Int32.toNatClampNeg 7) 0)))) := by rw [hf10, va_up_ne _ _ (nge)]; exact hge_9
                          have hre_10 : f10 re = some (.inl (cy 2, 8, .inr (.inl (vp_updL (vp_updL (fun _ => 0) (Int32.toNatClampNeg 0) 0) (Int32.toNatClampNeg 1) 0)))) := by rw [hf10]; exact va_up_self _ _ _
                          refine gz_iinc (v := 2) (lv' := [(2, .int 2), (0, .ref e), (1, .int dd)]) dX4_settle_100 rfl (by decide) (by decide) rfl ?_
                          refine gz_goto (tgt := 82) dX4_settle_103 (by decide) ?_
                          refine gz_iload_n dX4_settle_82 rfl rfl ?_
                          refine gz_bipush (v := 8) dX4_settle_83 (by decide) ?_
                          refine gz_icmp_ge (tgt := 106) dX4_settle_85 (by decide) (fun c_85_10 => ?_) (fun c_85_10 => ?_)
                          · exact absurd c_85_10 (by decide)
                          ·
                            refine gz_aload_n dX4_settle_88 rfl rfl ?_
                            refine sgX4_19 he_10 rfl dX4_settle_89 ?_
                            refine gz_iload_n dX4_settle_92 rfl rfl ?_
                            refine gz_aload_n dX4_settle_93 rfl rfl ?_
                            refine sgX4_15 he_10 rfl dX4_settle_94 ?_
                            refine gz_iload_n dX4_settle_97 rfl rfl ?_
                            refine gz_lald hge_10 (vin_T (v := 2) rfl (by decide) (by decide)) dX4_settle_98 ?_
                            refine gz_ev (w := .long 0) (rfl) ?_
                            refine gz_last hre_10 (vin_T (v := 2) rfl (by decide) (by decide)) dX4_settle_99 ?_
                            obtain ⟨f11, hf11⟩ : ∃ gg : gMem, gg = va_up f10 re (some (.inl (cy 2, 8, .inr (.inl (vp_updL (vp_updL (vp_updL (fun _ => 0) (Int32.toNatClampNeg 0) 0) (Int32.toNatClampNeg 1) 0) (Int32.toNatClampNeg 2) 0))))) := ⟨_, rfl⟩
                            refine gz_eq (f2 := f11) hf11.symm rfl rfl rfl ?_
                            have he_11 : f11 e = some (.inr (4, [.ref en, .int 0, .int 0, .ref ge, .ref re, .ref gi, .ref ta, .ref am, .int (-1)])) := by rw [hf11, va_up_ne _ _ (cne he_10 hre_10 (by simp))]; exact he_10
                            have hge_11 : f11 ge = some (.inl (cy 2, 8, .inr (.inl (vp_updL (vp_updL (vp_updL (vp_updL (vp_updL (vp_updL (vp_updL (vp_updL (fun _ => 0) (Int32.toNatClampNeg 0) 0) (Int32.toNatClampNeg 1) 0) (Int32.toNatClampNeg 2) 0) (Int32.toNatClampNeg 3) 0) (Int32.toNatClampNeg 4) 0) (Int32.toNatClampNeg 5) 0) (Int32.toNatClampNeg 6) 0) (Int32.toNatClampNeg 7) 0)))) := by rw [hf11, va_up_ne _ _ (nge)]; exact hge_10
                            have hre_11 : f11 re = some (.inl (cy 2, 8, .inr (.inl (vp_updL (vp_updL (vp_updL (fun _ => 0) (Int32.toNatClampNeg 0) 0) (Int32.toNatClampNeg 1) 0) (Int32.toNatClampNeg 2) 0)))) := by rw [hf11]; exact va_up_self _ _ _
                            refine gz_iinc (v := 3) (lv' := [(2, .int 3), (0, .ref e), (1, .int dd)]) dX4_settle_100 rfl (by decide) (by decide) rfl ?_
                            refine gz_goto (tgt := 82) dX4_settle_103 (by decide) ?_
                            refine gz_iload_n dX4_settle_82 rfl rfl ?_
                            refine gz_bipush (v := 8) dX4_settle_83 (by decide) ?_
                            refine gz_icmp_ge (tgt := 106) dX4_settle_85 (by decide) (fun c_85_11 => ?_) (fun c_85_11 => ?_)
                            · exact absurd c_85_11 (by decide)
                            ·
                              refine gz_aload_n dX4_settle_88 rfl rfl ?_
                              refine sgX4_19 he_11 rfl dX4_settle_89 ?_
                              refine gz_iload_n dX4_settle_92 rfl rfl ?_
                              refine gz_aload_n dX4_settle_93 rfl rfl ?_
                              refine sgX4_15 he_11 rfl dX4_settle_94 ?_
                              refine gz_iload_n dX4_settle_97 rfl rfl ?_
                              refine gz_lald hge_11 (vin_T (v := 3) rfl (by decide) (by decide)) dX4_settle_98 ?_
                              refine gz_ev (w := .long 0) (rfl) ?_
                              refine gz_last hre_11 (vin_T (v := 3) rfl (by decide) (by decide)) dX4_settle_99 ?_
                              obtain ⟨f12, hf12⟩ : ∃ gg : gMem, gg = va_up f11 re (some (.inl (cy 2, 8, .inr (.inl (vp_updL (vp_updL (vp_updL (vp_updL (fun _ => 0) (Int32.toNatClampNeg 0) 0) (Int32.toNatClampNeg 1) 0) (Int32.toNatClampNeg 2) 0) (Int32.toNatClampNeg 3) 0))))) := ⟨_, rfl⟩
                              refine gz_eq (f2 := f12) hf12.symm rfl rfl rfl ?_
                              have he_12 : f12 e = some (.inr (4, [.ref en, .int 0, .int 0, .ref ge, .ref re, .ref gi, .ref ta, .ref am, .int (-1)])) := by rw [hf12, va_up_ne _ _ (cne he_11 hre_11 (by simp))]; exact he_11
                              have hge_12 : f12 ge = some (.inl (cy 2, 8, .inr (.inl (vp_updL (vp_updL (vp_updL (vp_updL (vp_updL (vp_updL (vp_updL (vp_updL (fun _ => 0) (Int32.toNatClampNeg 0) 0) (Int32.toNatClampNeg 1) 0) (Int32.toNatClampNeg 2) 0) (Int32.toNatClampNeg 3) 0) (Int32.toNatClampNeg 4) 0) (Int32.toNatClampNeg 5) 0) (Int32.toNatClampNeg 6) 0) (Int32.toNatClampNeg 7) 0)))) := by rw [hf12, va_up_ne _ _ (nge)]; exact hge_11
                              have hre_12 : f12 re = some (.inl (cy 2, 8, .inr (.inl (vp_updL (vp_updL (vp_updL (vp_updL (fun _ => 0) (Int32.toNatClampNeg 0) 0) (Int32.toNatClampNeg 1) 0) (Int32.toNatClampNeg 2) 0) (Int32.toNatClampNeg 3) 0)))) := by rw [hf12]; exact va_up_self _ _ _
                              refine gz_iinc (v := 4) (lv' := [(2, .int 4), (0, .ref e), (1, .int dd)]) dX4_settle_100 rfl (by decide) (by decide) rfl ?_
                              refine gz_goto (tgt := 82) dX4_settle_103 (by decide) ?_
                              refine gz_iload_n dX4_settle_82 rfl rfl ?_
                              refine gz_bipush (v := 8) dX4_settle_83 (by decide) ?_
                              refine gz_icmp_ge (tgt := 106) dX4_settle_85 (by decide) (fun c_85_12 => ?_) (fun c_85_12 => ?_)
                              · exact absurd c_85_12 (by decide)
                              ·
                                refine gz_aload_n dX4_settle_88 rfl rfl ?_
                                refine sgX4_19 he_12 rfl dX4_settle_89 ?_
                                refine gz_iload_n dX4_settle_92 rfl rfl ?_
                                refine gz_aload_n dX4_settle_93 rfl rfl ?_
                                refine sgX4_15 he_12 rfl dX4_settle_94 ?_
                                refine gz_iload_n dX4_settle_97 rfl rfl ?_
                                refine gz_lald hge_12 (vin_T (v := 4) rfl (by decide) (by decide)) dX4_settle_98 ?_
                                refine gz_ev (w := .long 0) (rfl) ?_
                                refine gz_last hre_12 (vin_T (v := 4) rfl (by decide) (by decide)) dX4_settle_99 ?_
                                obtain ⟨f13, hf13⟩ : ∃ gg : gMem, gg = va_up f12 re (some (.inl (cy 2, 8, .inr (.inl (vp_updL (vp_updL (vp_updL (vp_updL (vp_updL (fun _ => 0) (Int32.toNatClampNeg 0) 0) (Int32.toNatClampNeg 1) 0) (Int32.toNatClampNeg 2) 0) (Int32.toNatClampNeg 3) 0) (Int32.toNatClampNeg 4) 0))))) := ⟨_, rfl⟩
                                refine gz_eq (f2 := f13) hf13.symm rfl rfl rfl ?_
                                have he_13 : f13 e = some (.inr (4, [.ref en, .int 0, .int 0, .ref ge, .ref re, .ref gi, .ref ta, .ref am, .int (-1)])) := by rw [hf13, va_up_ne _ _ (cne he_12 hre_12 (by simp))]; exact he_12
                                have hge_13 : f13 ge = some (.inl (cy 2, 8, .inr (.inl (vp_updL (vp_updL (vp_updL (vp_updL (vp_updL (vp_updL (vp_updL (vp_updL (fun _ => 0) (Int32.toNatClampNeg 0) 0) (Int32.toNatClampNeg 1) 0) (Int32.toNatClampNeg 2) 0) (Int32.toNatClampNeg 3) 0) (Int32.toNatClampNeg 4) 0) (Int32.toNatClampNeg 5) 0) (Int32.toNatClampNeg 6) 0) (Int32.toNatClampNeg 7) 0)))) := by rw [hf13, va_up_ne _ _ (nge)]; exact hge_12
                                have hre_13 : f13 re = some (.inl (cy 2, 8, .inr (.inl (vp_updL (vp_updL (vp_updL (vp_updL (vp_updL (fun _ => 0) (Int32.toNatClampNeg 0) 0) (Int32.toNatClampNeg 1) 0) (Int32.toNatClampNeg 2) 0) (Int32.toNatClampNeg 3) 0) (Int32.toNatClampNeg 4) 0)))) := by rw [hf13]; exact va_up_self _ _ _
                                refine gz_iinc (v := 5) (lv' := [(2, .int 5), (0, .ref e), (1, .int dd)]) dX4_settle_100 rfl (by decide) (by decide) rfl ?_
                                refine gz_goto (tgt := 82) dX4_settle_103 (by decide) ?_
                                refine gz_iload_n dX4_settle_82 rfl rfl ?_
                                refine gz_bipush (v := 8) dX4_settle_83 (by decide) ?_
                                refine gz_icmp_ge (tgt := 106) dX4_settle_85 (by decide) (fun c_85_13 => ?_) (fun c_85_13 => ?_)
                                · exact absurd c_85_13 (by decide)
                                ·
                                  refine gz_aload_n dX4_settle_88 rfl rfl ?_
                                  refine sgX4_19 he_13 rfl dX4_settle_89 ?_
                                  refine gz_iload_n dX4_settle_92 rfl rfl ?_
                                  refine gz_aload_n dX4_settle_93 rfl rfl ?_
                                  refine sgX4_15 he_13 rfl dX4_settle_94 ?_
                                  refine gz_iload_n dX4_settle_97 rfl rfl ?_
                                  refine gz_lald hge_13 (vin_T (v := 5) rfl (by decide) (by decide)) dX4_settle_98 ?_
                                  refine gz_ev (w := .long 0) (rfl) ?_
                                  refine gz_last hre_13 (vin_T (v := 5) rfl (by decide) (by decide)) dX4_settle_99 ?_
                                  obtain ⟨f14, hf14⟩ : ∃ gg : gMem, gg = va_up f13 re (some (.inl (cy 2, 8, .inr (.inl (vp_updL (vp_updL (vp_updL (vp_updL (vp_updL (vp_updL (fun _ => 0) (Int32.toNatClampNeg 0) 0) (Int32.toNatClampNeg 1) 0) (Int32.toNatClampNeg 2) 0) (Int32.toNatClampNeg 3) 0) (Int32.toNatClampNeg 4) 0) (Int32.toNatClampNeg 5) 0))))) := ⟨_, rfl⟩
                                  refine gz_eq (f2 := f14) hf14.symm rfl rfl rfl ?_
                                  have he_14 : f14 e = some (.inr (4, [.ref en, .int 0, .int 0, .ref ge, .ref re, .ref gi, .ref ta, .ref am, .int (-1)])) := by rw [hf14, va_up_ne _ _ (cne he_13 hre_13 (by simp))]; exact he_13
                                  have hge_14 : f14 ge = some (.inl (cy 2, 8, .inr (.inl (vp_updL (vp_updL (vp_updL (vp_updL (vp_updL (vp_updL (vp_updL (vp_updL (fun _ => 0) (Int32.toNatClampNeg 0) 0) (Int32.toNatClampNeg 1) 0) (Int32.toNatClampNeg 2) 0) (Int32.toNatClampNeg 3) 0) (Int32.toNatClampNeg 4) 0) (Int32.toNatClampNeg 5) 0) (Int32.toNatClampNeg 6) 0) (Int32.toNatClampNeg 7) 0)))) := by rw [hf14, va_up_ne _ _ (nge)]; exact hge_13
                                  have hre_14 : f14 re = some (.inl (cy 2, 8, .inr (.inl (vp_updL (vp_updL (vp_updL (vp_updL (vp_updL (vp_updL (fun _ => 0) (Int32.toNatClampNeg 0) 0) (Int32.toNatClampNeg 1) 0) (Int32.toNatClampNeg 2) 0) (Int32.toNatClampNeg 3) 0) (Int32.toNatClampNeg 4) 0) (Int32.toNatClampNeg 5) 0)))) := by rw [hf14]; exact va_up_self _ _ _
                                  refine gz_iinc (v := 6) (lv' := [(2, .int 6), (0, .ref e), (1, .int dd)]) dX4_settle_100 rfl (by decide) (by decide) rfl ?_
                                  refine gz_goto (tgt := 82) dX4_settle_103 (by decide) ?_
                                  refine gz_iload_n dX4_settle_82 rfl rfl ?_
                                  refine gz_bipush (v := 8) dX4_settle_83 (by decide) ?_
                                  refine gz_icmp_ge (tgt := 106) dX4_settle_85 (by decide) (fun c_85_14 => ?_) (fun c_85_14 => ?_)
                                  · exact absurd c_85_14 (by decide)
                                  ·
                                    refine gz_aload_n dX4_settle_88 rfl rfl ?_
                                    refine sgX4_19 he_14 rfl dX4_settle_89 ?_
                                    refine gz_iload_n dX4_settle_92 rfl rfl ?_
                                    refine gz_aload_n dX4_settle_93 rfl rfl ?_
                                    refine sgX4_15 he_14 rfl dX4_settle_94 ?_
                                    refine gz_iload_n dX4_settle_97 rfl rfl ?_
                                    refine gz_lald hge_14 (vin_T (v := 6) rfl (by decide) (by decide)) dX4_settle_98 ?_
                                    refine gz_ev (w := .long 0) (rfl) ?_
                                    refine gz_last hre_14 (vin_T (v := 6) rfl (by decide) (by decide)) dX4_settle_99 ?_
                                    obtain ⟨f15, hf15⟩ : ∃ gg : gMem, gg = va_up f14 re (some (.inl (cy 2, 8, .inr (.inl (vp_updL (vp_updL (vp_updL (vp_updL (vp_updL (vp_updL (vp_updL (fun _ => 0) (Int32.toNatClampNeg 0) 0) (Int32.toNatClampNeg 1) 0) (Int32.toNatClampNeg 2) 0) (Int32.toNatClampNeg 3) 0) (Int32.toNatClampNeg 4) 0) (Int32.toNatClampNeg 5) 0) (Int32.toNatClampNeg 6) 0))))) := ⟨_, rfl⟩
                                    refine gz_eq (f2 := f15) hf15.symm rfl rfl rfl ?_
                                    have he_15 : f15 e = some (.inr (4, [.ref en, .int 0, .int 0, .ref ge, .ref re, .ref gi, .ref ta, .ref am, .int (-1)])) := by rw [hf15, va_up_ne _ _ (cne he_14 hre_14 (by simp))]; exact he_14
                                    have hge_15 : f15 ge = some (.inl (cy 2, 8, .inr (.inl (vp_updL (vp_updL (vp_updL (vp_updL (vp_updL (vp_updL (vp_updL (vp_updL (fun _ => 0) (Int32.toNatClampNeg 0) 0) (Int32.toNatClampNeg 1) 0) (Int32.toNatClampNeg 2) 0) (Int32.toNatClampNeg 3) 0) (Int32.toNatClampNeg 4) 0) (Int32.toNatClampNeg 5) 0) (Int32.toNatClampNeg 6) 0) (Int32.toNatClampNeg 7) 0)))) := by rw [hf15, va_up_ne _ _ (nge)]; exact hge_14
                                    have hre_15 : f15 re = some (.inl (cy 2, 8, .inr (.inl (vp_updL (vp_updL (vp_updL (vp_updL (vp_updL (vp_updL (vp_updL (fun _ => 0) (Int32.toNatClampNeg 0) 0) (Int32.toNatClampNeg 1) 0) (Int32.toNatClampNeg 2) 0) (Int32.toNatClampNeg 3) 0) (Int32.toNatClampNeg 4) 0) (Int32.toNatClampNeg 5) 0) (Int32.toNatClampNeg 6) 0)))) := by rw [hf15]; exact va_up_self _ _ _
                                    refine gz_iinc (v := 7) (lv' := [(2, .int 7), (0, .ref e), (1, .int dd)]) dX4_settle_100 rfl (by decide) (by decide) rfl ?_
                                    refine gz_goto (tgt := 82) dX4_settle_103 (by decide) ?_
                                    refine gz_iload_n dX4_settle_82 rfl rfl ?_
                                    refine gz_bipush (v := 8) dX4_settle_83 (by decide) ?_
                                    refine gz_icmp_ge (tgt := 106) dX4_settle_85 (by decide) (fun c_85_15 => ?_) (fun c_85_15 => ?_)
                                    · exact absurd c_85_15 (by decide)
                                    ·
                                      refine gz_aload_n dX4_settle_88 rfl rfl ?_
                                      refine sgX4_19 he_15 rfl dX4_settle_89 ?_
                                      refine gz_iload_n dX4_settle_92 rfl rfl ?_
                                      refine gz_aload_n dX4_settle_93 rfl rfl ?_
                                      refine sgX4_15 he_15 rfl dX4_settle_94 ?_
                                      refine gz_iload_n dX4_settle_97 rfl rfl ?_
                                      refine gz_lald hge_15 (vin_T (v := 7) rfl (by decide) (by decide)) dX4_settle_98 ?_
                                      refine gz_ev (w := .long 0) (rfl) ?_
                                      refine gz_last hre_15 (vin_T (v := 7) rfl (by decide) (by decide)) dX4_settle_99 ?_
                                      obtain ⟨f16, hf16⟩ : ∃ gg : gMem, gg = va_up f15 re (some (.inl (cy 2, 8, .inr (.inl (vp_updL (vp_updL (vp_updL (vp_updL (vp_updL (vp_updL (vp_updL (vp_updL (fun _ => 0) (Int32.toNatClampNeg 0) 0) (Int32.toNatClampNeg 1) 0) (Int32.toNatClampNeg 2) 0) (Int32.toNatClampNeg 3) 0) (Int32.toNatClampNeg 4) 0) (Int32.toNatClampNeg 5) 0) (Int32.toNatClampNeg 6) 0) (Int32.toNatClampNeg 7) 0))))) := ⟨_, rfl⟩
                                      refine gz_eq (f2 := f16) hf16.symm rfl rfl rfl ?_
                                      have he_16 : f16 e = some (.inr (4, [.ref en, .int 0, .int 0, .ref ge, .ref re, .ref gi, .ref ta, .ref am, .int (-1)])) := by rw [hf16, va_up_ne _ _ (cne he_15 hre_15 (by simp))]; exact he_15
                                      have hge_16 : f16 ge = some (.inl (cy 2, 8, .inr (.inl (vp_updL (vp_updL (vp_updL (vp_updL (vp_updL (vp_updL (vp_updL (vp_updL (fun _ => 0) (Int32.toNatClampNeg 0) 0) (Int32.toNatClampNeg 1) 0) (Int32.toNatClampNeg 2) 0) (Int32.toNatClampNeg 3) 0) (Int32.toNatClampNeg 4) 0) (Int32.toNatClampNeg 5) 0) (Int32.toNatClampNeg 6) 0) (Int32.toNatClampNeg 7) 0)))) := by rw [hf16, va_up_ne _ _ (nge)]; exact hge_15
                                      have hre_16 : f16 re = some (.inl (cy 2, 8, .inr (.inl (vp_updL (vp_updL (vp_updL (vp_updL (vp_updL (vp_updL (vp_updL (vp_updL (fun _ => 0) (Int32.toNatClampNeg 0) 0) (Int32.toNatClampNeg 1) 0) (Int32.toNatClampNeg 2) 0) (Int32.toNatClampNeg 3) 0) (Int32.toNatClampNeg 4) 0) (Int32.toNatClampNeg 5) 0) (Int32.toNatClampNeg 6) 0) (Int32.toNatClampNeg 7) 0)))) := by rw [hf16]; exact va_up_self _ _ _
                                      refine gz_iinc (v := 8) (lv' := [(2, .int 8), (0, .ref e), (1, .int dd)]) dX4_settle_100 rfl (by decide) (by decide) rfl ?_
                                      refine gz_goto (tgt := 82) dX4_settle_103 (by decide) ?_
                                      refine gz_iload_n dX4_settle_82 rfl rfl ?_
                                      refine gz_bipush (v := 8) dX4_settle_83 (by decide) ?_
                                      refine gz_icmp_ge (tgt := 106) dX4_settle_85 (by decide) (fun c_85_16 => ?_) (fun c_85_16 => ?_)
                                      ·
                                        refine gz_aload_n dX4_settle_106 rfl rfl ?_
                                        refine gz_iconst (v := 0) dX4_settle_107 (by decide) ?_
                                        refine spX4_31 he_16  (Nat.le_of_ble_eq_true rfl) dX4_settle_108 ?_
                                        obtain ⟨f17, hf17⟩ : ∃ gg : gMem, gg = va_up f16 e (some (.inr (4, [.ref en, .int 0, .int 0, .ref ge, .ref re, .ref gi, .ref ta, .ref am, .int 0]))) := ⟨_, rfl⟩
                                        refine gz_eq (f2 := f17) hf17.symm rfl rfl rfl ?_
                                        have hge_17 : f17 ge = some (.inl (cy 2, 8, .inr (.inl (vp_updL (vp_updL (vp_updL (vp_updL (vp_updL (vp_updL (vp_updL (vp_updL (fun _ => 0) (Int32.toNatClampNeg 0) 0) (Int32.toNatClampNeg 1) 0) (Int32.toNatClampNeg 2) 0) (Int32.toNatClampNeg 3) 0) (Int32.toNatClampNeg 4) 0) (Int32.toNatClampNeg 5) 0) (Int32.toNatClampNeg 6) 0) (Int32.toNatClampNeg 7) 0)))) := by rw [hf17, va_up_ne _ _ (cne hge_16 he_16 (by simp))]; exact hge_16
                                        have hre_17 : f17 re = some (.inl (cy 2, 8, .inr (.inl (vp_updL (vp_updL (vp_updL (vp_updL (vp_updL (vp_updL (vp_updL (vp_updL (fun _ => 0) (Int32.toNatClampNeg 0) 0) (Int32.toNatClampNeg 1) 0) (Int32.toNatClampNeg 2) 0) (Int32.toNatClampNeg 3) 0) (Int32.toNatClampNeg 4) 0) (Int32.toNatClampNeg 5) 0) (Int32.toNatClampNeg 6) 0) (Int32.toNatClampNeg 7) 0)))) := by rw [hf17, va_up_ne _ _ (cne hre_16 he_16 (by simp))]; exact hre_16
                                        have he_17 : f17 e = some (.inr (4, [.ref en, .int 0, .int 0, .ref ge, .ref re, .ref gi, .ref ta, .ref am, .int 0])) := by rw [hf17]; exact va_up_self _ _ _
                                        refine gz_iconst (v := 0) dX4_settle_111 (by decide) ?_
                                        refine gz_istore_n (lv' := [(2, .int 0), (0, .ref e), (1, .int dd)]) dX4_settle_112 rfl (by decide) rfl ?_
                                        refine gz_iload_n dX4_settle_113 rfl rfl ?_
                                        refine gz_bipush (v := 8) dX4_settle_114 (by decide) ?_
                                        refine gz_icmp_ge (tgt := 142) dX4_settle_116 (by decide) (fun c_116 => ?_) (fun c_116 => ?_)
                                        · exact absurd c_116 (by decide)
                                        ·
                                          refine gz_aload_n dX4_settle_119 rfl rfl ?_
                                          refine scX4_77 (k_X4_addGift he_17 hre_17 (fun i hi => match i, hi with | 0, _ => rfl | 1, _ => rfl | 2, _ => rfl | 3, _ => rfl | 4, _ => rfl | 5, _ => rfl | 6, _ => rfl | 7, _ => rfl)) he_17 ⟨(Nat.le_of_ble_eq_true rfl), (Nat.le_of_ble_eq_true rfl)⟩ ⟨(Nat.le_of_ble_eq_true rfl), (Nat.le_of_ble_eq_true rfl)⟩ rfl rfl (Nat.le_of_ble_eq_true rfl) dX4_settle_120 ?_
                                          intro v9 f9 z9; rw [z9.1, z9.2]
                                          refine gz_if_eq (tgt := 142) dX4_settle_123 (by decide) (fun c_123 => ?_) (fun c_123 => ?_)
                                          ·
                                            refine gz_aload_n dX4_settle_142 rfl rfl ?_
                                            refine sgX4_31 he_17 rfl dX4_settle_143 ?_
                                            exact gz_iret rfl dX4_settle_146 (Nat.le_of_ble_eq_true rfl) (Nat.le_of_ble_eq_true rfl) (⟨_, rfl, rfl, by rw [hf17, hf16, hf15, hf14, hf13, hf12, hf11, hf10, hf9, hf8, hf7, hf6, hf5, hf4, hf3, hf2, hf1]; exact fr_up (fr_up (fr_up (fr_up (fr_up (fr_up (fr_up (fr_up (fr_up (fr_up (fr_up (fr_up (fr_up (fr_up (fr_up (fr_up (fr_up (fr_rf) (by simp)) (by simp)) (by simp)) (by simp)) (by simp)) (by simp)) (by simp)) (by simp)) (by simp)) (by simp)) (by simp)) (by simp)) (by simp)) (by simp)) (by simp)) (by simp)) (by simp)⟩)
                                          · exact absurd c_123 (by decide)
                                      · exact absurd c_85_16 (by decide)
                    · exact absurd c_28 (by decide)
                  · exact absurd c_5_8 (by decide)

set_option maxHeartbeats 4000000 in
set_option maxRecDepth 100000 in
theorem k_X11_net {l : Launch} {D : va_G} {cy : Nat → ClassId} {b : Nat} {f : gMem} {x ch tp ou fo dr ot rd te la le co wo : Nat} {x1 : Int32} {en ge re gi ta am : Nat} (hx : f x = some (.inr (11, [.ref ch, .ref tp, .ref ou, .ref fo, .ref dr, .ref ot, .ref rd, .ref te, .ref la, .ref le, .ref co, .ref wo, .int 0]))) (hle : f le = some (.inr (4, [.ref en, .int 0, .int 0, .ref ge, .ref re, .ref gi, .ref ta, .ref am, .int (-1)]))) (hge : f ge = some (.inl (cy 2, 8, .inr (.inl (fun _ => 0))))) (hre : f re = some (.inl (cy 2, 8, .inr (.inl (fun _ => 0)))))  (nge : ge ≠ re) : gC l D cy b yX11_net cX11_net 2 (some .int) 3 0 0 [.ref x, .int x1] f (pI fun r f2 => r = spNet x1 ∧ fr [le, ge, re] f f2) := by
  refine gC_of (by decide) (Nat.le_of_ble_eq_true rfl) ?_
  show gG l _ _ _ D cy b cX11_net 2 _ RX11 "net" 0 0 f 0 [(0, .ref x), (1, .int x1)] []
  refine gz_iload_n dX11_net_0 rfl rfl ?_
  refine gz_if_lt (tgt := 11) dX11_net_1 (by decide) (fun c_1 => ?_) (fun c_1 => ?_)
  ·
    refine gz_iconst (v := (-1)) dX11_net_11 (by decide) ?_
    exact gz_iret rfl dX11_net_12 (Nat.le_of_ble_eq_true rfl) (Nat.le_of_ble_eq_true rfl) (⟨_, rfl, (by show _ = _; have e0 : (0 : Int32).toInt = 0 := rfl; have E0 : (0 : Int64).toInt = 0 := rfl; have e1 : (1 : Int32).toInt = 1 := rfl; have E1 : (1 : Int64).toInt = 1 := rfl; have e2 : (2 : Int32).toInt = 2 := rfl; have E2 : (2 : Int64).toInt = 2 := rfl; have e3 : (3 : Int32).toInt = 3 := rfl; have E3 : (3 : Int64).toInt = 3 := rfl; have e4 : (4 : Int32).toInt = 4 := rfl; have E4 : (4 : Int64).toInt = 4 := rfl; have e5 : (5 : Int32).toInt = 5 := rfl; have E5 : (5 : Int64).toInt = 5 := rfl; have e6 : (6 : Int32).toInt = 6 := rfl; have E6 : (6 : Int64).toInt = 6 := rfl; have e7 : (7 : Int32).toInt = 7 := rfl; have E7 : (7 : Int64).toInt = 7 := rfl; have e8 : (8 : Int32).toInt = 8 := rfl; have E8 : (8 : Int64).toInt = 8 := rfl; have e20 : (20 : Int32).toInt = 20 := rfl; have E20 : (20 : Int64).toInt = 20 := rfl; have e39 : (39 : Int32).toInt = 39 := rfl; have E39 : (39 : Int64).toInt = 39 := rfl; have e40 : (40 : Int32).toInt = 40 := rfl; have E40 : (40 : Int64).toInt = 40 := rfl; have e99 : (99 : Int32).toInt = 99 := rfl; have E99 : (99 : Int64).toInt = 99 := rfl; have em99 : ((-99) : Int32).toInt = (-99) := rfl; have Em99 : ((-99) : Int64).toInt = (-99) := rfl; have e399 : (399 : Int32).toInt = 399 := rfl; have E399 : (399 : Int64).toInt = 399 := rfl; have e400 : (400 : Int32).toInt = 400 := rfl; have E400 : (400 : Int64).toInt = 400 := rfl; have e9999 : (9999 : Int32).toInt = 9999 := rfl; have E9999 : (9999 : Int64).toInt = 9999 := rfl; have em9999 : ((-9999) : Int32).toInt = (-9999) := rfl; have Em9999 : ((-9999) : Int64).toInt = (-9999) := rfl; have em10000 : ((-10000) : Int32).toInt = (-10000) := rfl; have Em10000 : ((-10000) : Int64).toInt = (-10000) := rfl; have em1 : ((-1) : Int32).toInt = (-1) := rfl; have Em1 : ((-1) : Int64).toInt = (-1) := rfl; have e10 : (10 : Int32).toInt = 10 := rfl; have E10 : (10 : Int64).toInt = 10 := rfl; have e17 : (17 : Int32).toInt = 17 := rfl; have E17 : (17 : Int64).toInt = 17 := rfl; (try simp only [mIn_0, lgc_lt, lgc_gt, lgc_eq, lgc_le, lgc_ge] at c_1); (try simp only [fl_lt, fl_le, fl_eq, fL_lt, fL_le, fL_w] at c_1); first | (rw [spNet, if_pos (by omega)]; first | done | rfl) | (rw [spNet, if_neg (by omega)]; first | done | rfl)), fr_rf⟩)
  ·
    refine gz_iload_n dX11_net_4 rfl rfl ?_
    refine gz_sipush (v := 400) dX11_net_5 (by decide) ?_
    refine gz_icmp_lt (tgt := 13) dX11_net_8 (by decide) (fun c_8 => ?_) (fun c_8 => ?_)
    ·
      refine gz_aload_n dX11_net_13 rfl rfl ?_
      refine sgX11_72 hx rfl dX11_net_14 ?_
      refine gz_iload_n dX11_net_17 rfl rfl ?_
      refine scX11_189 (k_X4_settle (dd := x1) hle hge hre nge) hle ⟨(Nat.le_of_ble_eq_true rfl), (Nat.le_of_ble_eq_true rfl)⟩ ⟨(Nat.le_of_ble_eq_true rfl), (Nat.le_of_ble_eq_true rfl)⟩ rfl rfl (Nat.le_of_ble_eq_true rfl) dX11_net_18 ?_
      rintro v9 f9 ⟨z1, z2⟩; rw [z1]
      exact gz_iret rfl dX11_net_21 (Nat.le_of_ble_eq_true rfl) (Nat.le_of_ble_eq_true rfl) (⟨_, rfl, (by show _ = _; have e0 : (0 : Int32).toInt = 0 := rfl; have E0 : (0 : Int64).toInt = 0 := rfl; have e1 : (1 : Int32).toInt = 1 := rfl; have E1 : (1 : Int64).toInt = 1 := rfl; have e2 : (2 : Int32).toInt = 2 := rfl; have E2 : (2 : Int64).toInt = 2 := rfl; have e3 : (3 : Int32).toInt = 3 := rfl; have E3 : (3 : Int64).toInt = 3 := rfl; have e4 : (4 : Int32).toInt = 4 := rfl; have E4 : (4 : Int64).toInt = 4 := rfl; have e5 : (5 : Int32).toInt = 5 := rfl; have E5 : (5 : Int64).toInt = 5 := rfl; have e6 : (6 : Int32).toInt = 6 := rfl; have E6 : (6 : Int64).toInt = 6 := rfl; have e7 : (7 : Int32).toInt = 7 := rfl; have E7 : (7 : Int64).toInt = 7 := rfl; have e8 : (8 : Int32).toInt = 8 := rfl; have E8 : (8 : Int64).toInt = 8 := rfl; have e20 : (20 : Int32).toInt = 20 := rfl; have E20 : (20 : Int64).toInt = 20 := rfl; have e39 : (39 : Int32).toInt = 39 := rfl; have E39 : (39 : Int64).toInt = 39 := rfl; have e40 : (40 : Int32).toInt = 40 := rfl; have E40 : (40 : Int64).toInt = 40 := rfl; have e99 : (99 : Int32).toInt = 99 := rfl; have E99 : (99 : Int64).toInt = 99 := rfl; have em99 : ((-99) : Int32).toInt = (-99) := rfl; have Em99 : ((-99) : Int64).toInt = (-99) := rfl; have e399 : (399 : Int32).toInt = 399 := rfl; have E399 : (399 : Int64).toInt = 399 := rfl; have e400 : (400 : Int32).toInt = 400 := rfl; have E400 : (400 : Int64).toInt = 400 := rfl; have e9999 : (9999 : Int32).toInt = 9999 := rfl; have E9999 : (9999 : Int64).toInt = 9999 := rfl; have em9999 : ((-9999) : Int32).toInt = (-9999) := rfl; have Em9999 : ((-9999) : Int64).toInt = (-9999) := rfl; have em10000 : ((-10000) : Int32).toInt = (-10000) := rfl; have Em10000 : ((-10000) : Int64).toInt = (-10000) := rfl; have em1 : ((-1) : Int32).toInt = (-1) := rfl; have Em1 : ((-1) : Int64).toInt = (-1) := rfl; have e10 : (10 : Int32).toInt = 10 := rfl; have E10 : (10 : Int64).toInt = 10 := rfl; have e17 : (17 : Int32).toInt = 17 := rfl; have E17 : (17 : Int64).toInt = 17 := rfl; (try simp only [mIn_0, lgc_lt, lgc_gt, lgc_eq, lgc_le, lgc_ge] at c_1 c_8); (try simp only [fl_lt, fl_le, fl_eq, fL_lt, fL_le, fL_w] at c_1 c_8); first | (rw [spNet, if_pos (by omega)]; first | done | rfl) | (rw [spNet, if_neg (by omega)]; first | done | rfl)), z2⟩)
    ·
      refine gz_iconst (v := (-1)) dX11_net_11 (by decide) ?_
      exact gz_iret rfl dX11_net_12 (Nat.le_of_ble_eq_true rfl) (Nat.le_of_ble_eq_true rfl) (⟨_, rfl, (by show _ = _; have e0 : (0 : Int32).toInt = 0 := rfl; have E0 : (0 : Int64).toInt = 0 := rfl; have e1 : (1 : Int32).toInt = 1 := rfl; have E1 : (1 : Int64).toInt = 1 := rfl; have e2 : (2 : Int32).toInt = 2 := rfl; have E2 : (2 : Int64).toInt = 2 := rfl; have e3 : (3 : Int32).toInt = 3 := rfl; have E3 : (3 : Int64).toInt = 3 := rfl; have e4 : (4 : Int32).toInt = 4 := rfl; have E4 : (4 : Int64).toInt = 4 := rfl; have e5 : (5 : Int32).toInt = 5 := rfl; have E5 : (5 : Int64).toInt = 5 := rfl; have e6 : (6 : Int32).toInt = 6 := rfl; have E6 : (6 : Int64).toInt = 6 := rfl; have e7 : (7 : Int32).toInt = 7 := rfl; have E7 : (7 : Int64).toInt = 7 := rfl; have e8 : (8 : Int32).toInt = 8 := rfl; have E8 : (8 : Int64).toInt = 8 := rfl; have e20 : (20 : Int32).toInt = 20 := rfl; have E20 : (20 : Int64).toInt = 20 := rfl; have e39 : (39 : Int32).toInt = 39 := rfl; have E39 : (39 : Int64).toInt = 39 := rfl; have e40 : (40 : Int32).toInt = 40 := rfl; have E40 : (40 : Int64).toInt = 40 := rfl; have e99 : (99 : Int32).toInt = 99 := rfl; have E99 : (99 : Int64).toInt = 99 := rfl; have em99 : ((-99) : Int32).toInt = (-99) := rfl; have Em99 : ((-99) : Int64).toInt = (-99) := rfl; have e399 : (399 : Int32).toInt = 399 := rfl; have E399 : (399 : Int64).toInt = 399 := rfl; have e400 : (400 : Int32).toInt = 400 := rfl; have E400 : (400 : Int64).toInt = 400 := rfl; have e9999 : (9999 : Int32).toInt = 9999 := rfl; have E9999 : (9999 : Int64).toInt = 9999 := rfl; have em9999 : ((-9999) : Int32).toInt = (-9999) := rfl; have Em9999 : ((-9999) : Int64).toInt = (-9999) := rfl; have em10000 : ((-10000) : Int32).toInt = (-10000) := rfl; have Em10000 : ((-10000) : Int64).toInt = (-10000) := rfl; have em1 : ((-1) : Int32).toInt = (-1) := rfl; have Em1 : ((-1) : Int64).toInt = (-1) := rfl; have e10 : (10 : Int32).toInt = 10 := rfl; have E10 : (10 : Int64).toInt = 10 := rfl; have e17 : (17 : Int32).toInt = 17 := rfl; have E17 : (17 : Int64).toInt = 17 := rfl; (try simp only [mIn_0, lgc_lt, lgc_gt, lgc_eq, lgc_le, lgc_ge] at c_1 c_8); (try simp only [fl_lt, fl_le, fl_eq, fL_lt, fL_le, fL_w] at c_1 c_8); first | (rw [spNet, if_pos (by omega)]; first | done | rfl) | (rw [spNet, if_neg (by omega)]; first | done | rfl)), fr_rf⟩)

set_option maxHeartbeats 4000000 in
set_option maxRecDepth 100000 in
theorem k_X10_renew {l : Launch} {D : va_G} {cy : Nat → ClassId} {b : Nat} {f : gMem} {w we sp pa ba td wf : Nat} {k ah go : Int32} {gwe gsp : Nat → Int32} (hw : f w = some (.inr (10, [.int 1, .ref we, .ref sp, .ref pa, .ref ba, .ref td, .ref wf, .int ah, .int go]))) (hwe : f we = some (.inl (cy 0, 3, .inl (gwe)))) (hsp : f sp = some (.inl (cy 0, 18, .inl (gsp))))  : gC l D cy b yX10_renew cX10_renew 3 none 0 0 0 [.ref w, .int k] f (pV fun f2 => fr [w, we, sp] f f2) := by
  refine gC_of (by decide) (Nat.le_of_ble_eq_true rfl) ?_
  show gG l _ _ _ D cy b cX10_renew 3 _ RX10 "renew" 0 0 f 0 [(0, .ref w), (1, .int k)] []
  refine gz_aload_n dX10_renew_0 rfl rfl ?_
  refine gz_iload_n dX10_renew_1 rfl rfl ?_
  refine spX10_9 hw  (Nat.le_of_ble_eq_true rfl) dX10_renew_2 ?_
  obtain ⟨f1, hf1⟩ : ∃ gg : gMem, gg = va_up f w (some (.inr (10, [.int k, .ref we, .ref sp, .ref pa, .ref ba, .ref td, .ref wf, .int ah, .int go]))) := ⟨_, rfl⟩
  refine gz_eq (f2 := f1) hf1.symm rfl rfl rfl ?_
  have hwe_1 : f1 we = some (.inl (cy 0, 3, .inl (gwe))) := by rw [hf1, va_up_ne _ _ (cne hwe hw (by simp))]; exact hwe
  have hsp_1 : f1 sp = some (.inl (cy 0, 18, .inl (gsp))) := by rw [hf1, va_up_ne _ _ (cne hsp hw (by simp))]; exact hsp
  have hw_1 : f1 w = some (.inr (10, [.int k, .ref we, .ref sp, .ref pa, .ref ba, .ref td, .ref wf, .int ah, .int go])) := by rw [hf1]; exact va_up_self _ _ _
  refine gz_iconst (v := 0) dX10_renew_5 (by decide) ?_
  refine gz_istore_n (lv' := [(2, .int 0), (0, .ref w), (1, .int k)]) dX10_renew_6 rfl (by decide) rfl ?_
  refine gz_iload_n dX10_renew_7 rfl rfl ?_
  refine gz_iconst (v := 3) dX10_renew_8 (by decide) ?_
  refine gz_icmp_ge (tgt := 25) dX10_renew_9 (by decide) (fun c_9 => ?_) (fun c_9 => ?_)
  · exact absurd c_9 (by decide)
  ·
    refine gz_aload_n dX10_renew_12 rfl rfl ?_
    refine sgX10_15 hw_1 rfl dX10_renew_13 ?_
    refine gz_iload_n dX10_renew_16 rfl rfl ?_
    refine gz_iconst (v := 1) dX10_renew_17 (by decide) ?_
    refine gz_iast hwe_1 (vin_T (v := 0) rfl (by decide) (by decide)) dX10_renew_18 ?_
    obtain ⟨f2, hf2⟩ : ∃ gg : gMem, gg = va_up f1 we (some (.inl (cy 0, 3, .inl (upd gwe (Int32.toNatClampNeg 0) 1)))) := ⟨_, rfl⟩
    refine gz_eq (f2 := f2) hf2.symm rfl rfl rfl ?_
    have hsp_2 : f2 sp = some (.inl (cy 0, 18, .inl (gsp))) := by rw [hf2, va_up_ne _ _ (cne hsp_1 hwe_1 (by simp))]; exact hsp_1
    have hw_2 : f2 w = some (.inr (10, [.int k, .ref we, .ref sp, .ref pa, .ref ba, .ref td, .ref wf, .int ah, .int go])) := by rw [hf2, va_up_ne _ _ (cne hw_1 hwe_1 (by simp))]; exact hw_1
    have hwe_2 : f2 we = some (.inl (cy 0, 3, .inl (upd gwe (Int32.toNatClampNeg 0) 1))) := by rw [hf2]; exact va_up_self _ _ _
    refine gz_iinc (v := 1) (lv' := [(2, .int 1), (0, .ref w), (1, .int k)]) dX10_renew_19 rfl (by decide) (by decide) rfl ?_
    refine gz_goto (tgt := 7) dX10_renew_22 (by decide) ?_
    refine gz_iload_n dX10_renew_7 rfl rfl ?_
    refine gz_iconst (v := 3) dX10_renew_8 (by decide) ?_
    refine gz_icmp_ge (tgt := 25) dX10_renew_9 (by decide) (fun c_9_1 => ?_) (fun c_9_1 => ?_)
    · exact absurd c_9_1 (by decide)
    ·
      refine gz_aload_n dX10_renew_12 rfl rfl ?_
      refine sgX10_15 hw_2 rfl dX10_renew_13 ?_
      refine gz_iload_n dX10_renew_16 rfl rfl ?_
      refine gz_iconst (v := 1) dX10_renew_17 (by decide) ?_
      refine gz_iast hwe_2 (vin_T (v := 1) rfl (by decide) (by decide)) dX10_renew_18 ?_
      obtain ⟨f3, hf3⟩ : ∃ gg : gMem, gg = va_up f2 we (some (.inl (cy 0, 3, .inl (upd (upd gwe (Int32.toNatClampNeg 0) 1) (Int32.toNatClampNeg 1) 1)))) := ⟨_, rfl⟩
      refine gz_eq (f2 := f3) hf3.symm rfl rfl rfl ?_
      have hsp_3 : f3 sp = some (.inl (cy 0, 18, .inl (gsp))) := by rw [hf3, va_up_ne _ _ (cne hsp_2 hwe_2 (by simp))]; exact hsp_2
      have hw_3 : f3 w = some (.inr (10, [.int k, .ref we, .ref sp, .ref pa, .ref ba, .ref td, .ref wf, .int ah, .int go])) := by rw [hf3, va_up_ne _ _ (cne hw_2 hwe_2 (by simp))]; exact hw_2
      have hwe_3 : f3 we = some (.inl (cy 0, 3, .inl (upd (upd gwe (Int32.toNatClampNeg 0) 1) (Int32.toNatClampNeg 1) 1))) := by rw [hf3]; exact va_up_self _ _ _
      refine gz_iinc (v := 2) (lv' := [(2, .int 2), (0, .ref w), (1, .int k)]) dX10_renew_19 rfl (by decide) (by decide) rfl ?_
      refine gz_goto (tgt := 7) dX10_renew_22 (by decide) ?_
      refine gz_iload_n dX10_renew_7 rfl rfl ?_
      refine gz_iconst (v := 3) dX10_renew_8 (by decide) ?_
      refine gz_icmp_ge (tgt := 25) dX10_renew_9 (by decide) (fun c_9_2 => ?_) (fun c_9_2 => ?_)
      · exact absurd c_9_2 (by decide)
      ·
        refine gz_aload_n dX10_renew_12 rfl rfl ?_
        refine sgX10_15 hw_3 rfl dX10_renew_13 ?_
        refine gz_iload_n dX10_renew_16 rfl rfl ?_
        refine gz_iconst (v := 1) dX10_renew_17 (by decide) ?_
        refine gz_iast hwe_3 (vin_T (v := 2) rfl (by decide) (by decide)) dX10_renew_18 ?_
        obtain ⟨f4, hf4⟩ : ∃ gg : gMem, gg = va_up f3 we (some (.inl (cy 0, 3, .inl (upd (upd (upd gwe (Int32.toNatClampNeg 0) 1) (Int32.toNatClampNeg 1) 1) (Int32.toNatClampNeg 2) 1)))) := ⟨_, rfl⟩
        refine gz_eq (f2 := f4) hf4.symm rfl rfl rfl ?_
        have hsp_4 : f4 sp = some (.inl (cy 0, 18, .inl (gsp))) := by rw [hf4, va_up_ne _ _ (cne hsp_3 hwe_3 (by simp))]; exact hsp_3
        have hw_4 : f4 w = some (.inr (10, [.int k, .ref we, .ref sp, .ref pa, .ref ba, .ref td, .ref wf, .int ah, .int go])) := by rw [hf4, va_up_ne _ _ (cne hw_3 hwe_3 (by simp))]; exact hw_3
        have hwe_4 : f4 we = some (.inl (cy 0, 3, .inl (upd (upd (upd gwe (Int32.toNatClampNeg 0) 1) (Int32.toNatClampNeg 1) 1) (Int32.toNatClampNeg 2) 1))) := by rw [hf4]; exact va_up_self _ _ _
        refine gz_iinc (v := 3) (lv' := [(2, .int 3), (0, .ref w), (1, .int k)]) dX10_renew_19 rfl (by decide) (by decide) rfl ?_
        refine gz_goto (tgt := 7) dX10_renew_22 (by decide) ?_
        refine gz_iload_n dX10_renew_7 rfl rfl ?_
        refine gz_iconst (v := 3) dX10_renew_8 (by decide) ?_
        refine gz_icmp_ge (tgt := 25) dX10_renew_9 (by decide) (fun c_9_3 => ?_) (fun c_9_3 => ?_)
        ·
          refine gz_iconst (v := 0) dX10_renew_25 (by decide) ?_
          refine gz_istore_n (lv' := [(2, .int 0), (0, .ref w), (1, .int k)]) dX10_renew_26 rfl (by decide) rfl ?_
          refine gz_iload_n dX10_renew_27 rfl rfl ?_
          refine gz_aload_n dX10_renew_28 rfl rfl ?_
          refine sgX10_19 hw_4 rfl dX10_renew_29 ?_
          refine gz_alen0 (v := 18) hsp_4 (by decide) dX10_renew_32 ?_
          refine gz_icmp_ge (tgt := 49) dX10_renew_33 (by decide) (fun c_33 => ?_) (fun c_33 => ?_)
          · exact absurd c_33 (by decide)
          ·
            refine gz_aload_n dX10_renew_36 rfl rfl ?_
            refine sgX10_19 hw_4 rfl dX10_renew_37 ?_
            refine gz_iload_n dX10_renew_40 rfl rfl ?_
            refine gz_iconst (v := 0) dX10_renew_41 (by decide) ?_
            refine gz_iast hsp_4 (vin_T (v := 0) rfl (by decide) (by decide)) dX10_renew_42 ?_
            obtain ⟨f5, hf5⟩ : ∃ gg : gMem, gg = va_up f4 sp (some (.inl (cy 0, 18, .inl (upd gsp (Int32.toNatClampNeg 0) 0)))) := ⟨_, rfl⟩
            refine gz_eq (f2 := f5) hf5.symm rfl rfl rfl ?_
            have hw_5 : f5 w = some (.inr (10, [.int k, .ref we, .ref sp, .ref pa, .ref ba, .ref td, .ref wf, .int ah, .int go])) := by rw [hf5, va_up_ne _ _ (cne hw_4 hsp_4 (by simp))]; exact hw_4
            have hwe_5 : f5 we = some (.inl (cy 0, 3, .inl (upd (upd (upd gwe (Int32.toNatClampNeg 0) 1) (Int32.toNatClampNeg 1) 1) (Int32.toNatClampNeg 2) 1))) := by rw [hf5, va_up_ne _ _ (cne hwe_4 hsp_4 (by simp))]; exact hwe_4
            have hsp_5 : f5 sp = some (.inl (cy 0, 18, .inl (upd gsp (Int32.toNatClampNeg 0) 0))) := by rw [hf5]; exact va_up_self _ _ _
            refine gz_iinc (v := 1) (lv' := [(2, .int 1), (0, .ref w), (1, .int k)]) dX10_renew_43 rfl (by decide) (by decide) rfl ?_
            refine gz_goto (tgt := 27) dX10_renew_46 (by decide) ?_
            refine gz_iload_n dX10_renew_27 rfl rfl ?_
            refine gz_aload_n dX10_renew_28 rfl rfl ?_
            refine sgX10_19 hw_5 rfl dX10_renew_29 ?_
            refine gz_alen0 (v := 18) hsp_5 (by decide) dX10_renew_32 ?_
            refine gz_icmp_ge (tgt := 49) dX10_renew_33 (by decide) (fun c_33_4 => ?_) (fun c_33_4 => ?_)
            · exact absurd c_33_4 (by decide)
            ·
              refine gz_aload_n dX10_renew_36 rfl rfl ?_
              refine sgX10_19 hw_5 rfl dX10_renew_37 ?_
              refine gz_iload_n dX10_renew_40 rfl rfl ?_
              refine gz_iconst (v := 0) dX10_renew_41 (by decide) ?_
              refine gz_iast hsp_5 (vin_T (v := 1) rfl (by decide) (by decide)) dX10_renew_42 ?_
              obtain ⟨f6, hf6⟩ : ∃ gg : gMem, gg = va_up f5 sp (some (.inl (cy 0, 18, .inl (upd (upd gsp (Int32.toNatClampNeg 0) 0) (Int32.toNatClampNeg 1) 0)))) := ⟨_, rfl⟩
              refine gz_eq (f2 := f6) hf6.symm rfl rfl rfl ?_
              have hw_6 : f6 w = some (.inr (10, [.int k, .ref we, .ref sp, .ref pa, .ref ba, .ref td, .ref wf, .int ah, .int go])) := by rw [hf6, va_up_ne _ _ (cne hw_5 hsp_5 (by simp))]; exact hw_5
              have hwe_6 : f6 we = some (.inl (cy 0, 3, .inl (upd (upd (upd gwe (Int32.toNatClampNeg 0) 1) (Int32.toNatClampNeg 1) 1) (Int32.toNatClampNeg 2) 1))) := by rw [hf6, va_up_ne _ _ (cne hwe_5 hsp_5 (by simp))]; exact hwe_5
              have hsp_6 : f6 sp = some (.inl (cy 0, 18, .inl (upd (upd gsp (Int32.toNatClampNeg 0) 0) (Int32.toNatClampNeg 1) 0))) := by rw [hf6]; exact va_up_self _ _ _
              refine gz_iinc (v := 2) (lv' := [(2, .int 2), (0, .ref w), (1, .int k)]) dX10_renew_43 rfl (by decide) (by decide) rfl ?_
              refine gz_goto (tgt := 27) dX10_renew_46 (by decide) ?_
              refine gz_iload_n dX10_renew_27 rfl rfl ?_
              refine gz_aload_n dX10_renew_28 rfl rfl ?_
              refine sgX10_19 hw_6 rfl dX10_renew_29 ?_
              refine gz_alen0 (v := 18) hsp_6 (by decide) dX10_renew_32 ?_
              refine gz_icmp_ge (tgt := 49) dX10_renew_33 (by decide) (fun c_33_5 => ?_) (fun c_33_5 => ?_)
              · exact absurd c_33_5 (by decide)
              ·
                refine gz_aload_n dX10_renew_36 rfl rfl ?_
                refine sgX10_19 hw_6 rfl dX10_renew_37 ?_
                refine gz_iload_n dX10_renew_40 rfl rfl ?_
                refine gz_iconst (v := 0) dX10_renew_41 (by decide) ?_
                refine gz_iast hsp_6 (vin_T (v := 2) rfl (by decide) (by decide)) dX10_renew_42 ?_
                obtain ⟨f7, hf7⟩ : ∃ gg : gMem, gg = va_up f6 sp (some (.inl (cy 0, 18, .inl (upd (upd (upd gsp (Int32.toNatClampNeg 0) 0) (Int32.toNatClampNeg 1) 0) (Int32.toNatClampNeg 2) 0)))) := ⟨_, rfl⟩
                refine gz_eq (f2 := f7) hf7.symm rfl rfl rfl ?_
                have hw_7 : f7 w = some (.inr (10, [.int k, .ref we, .ref sp, .ref pa, .ref ba, .ref td, .ref wf, .int ah, .int go])) := by rw [hf7, va_up_ne _ _ (cne hw_6 hsp_6 (by simp))]; exact hw_6
                have hwe_7 : f7 we = some (.inl (cy 0, 3, .inl (upd (upd (upd gwe (Int32.toNatClampNeg 0) 1) (Int32.toNatClampNeg 1) 1) (Int32.toNatClampNeg 2) 1))) := by rw [hf7, va_up_ne _ _ (cne hwe_6 hsp_6 (by simp))]; exact hwe_6
                have hsp_7 : f7 sp = some (.inl (cy 0, 18, .inl (upd (upd (upd gsp (Int32.toNatClampNeg 0) 0) (Int32.toNatClampNeg 1) 0) (Int32.toNatClampNeg 2) 0))) := by rw [hf7]; exact va_up_self _ _ _
                refine gz_iinc (v := 3) (lv' := [(2, .int 3), (0, .ref w), (1, .int k)]) dX10_renew_43 rfl (by decide) (by decide) rfl ?_
                refine gz_goto (tgt := 27) dX10_renew_46 (by decide) ?_
                refine gz_iload_n dX10_renew_27 rfl rfl ?_
                refine gz_aload_n dX10_renew_28 rfl rfl ?_
                refine sgX10_19 hw_7 rfl dX10_renew_29 ?_
                refine gz_alen0 (v := 18) hsp_7 (by decide) dX10_renew_32 ?_
                refine gz_icmp_ge (tgt := 49) dX10_renew_33 (by decide) (fun c_33_6 => ?_) (fun c_33_6 => ?_)
                · exact absurd c_33_6 (by decide)
                ·
                  refine gz_aload_n dX10_renew_36 rfl rfl ?_
                  refine sgX10_19 hw_7 rfl dX10_renew_37 ?_
                  refine gz_iload_n dX10_renew_40 rfl rfl ?_
                  refine gz_iconst (v := 0) dX10_renew_41 (by decide) ?_
                  refine gz_iast hsp_7 (vin_T (v := 3) rfl (by decide) (by decide)) dX10_renew_42 ?_
                  obtain ⟨f8, hf8⟩ : ∃ gg : gMem, gg = va_up f7 sp (some (.inl (cy 0, 18, .inl (upd (upd (upd (upd gsp (Int32.toNatClampNeg 0) 0) (Int32.toNatClampNeg 1) 0) (Int32.toNatClampNeg 2) 0) (Int32.toNatClampNeg 3) 0)))) := ⟨_, rfl⟩
                  refine gz_eq (f2 := f8) hf8.symm rfl rfl rfl ?_
                  have hw_8 : f8 w = some (.inr (10, [.int k, .ref we, .ref sp, .ref pa, .ref ba, .ref td, .ref wf, .int ah, .int go])) := by rw [hf8, va_up_ne _ _ (cne hw_7 hsp_7 (by simp))]; exact hw_7
                  have hwe_8 : f8 we = some (.inl (cy 0, 3, .inl (upd (upd (upd gwe (Int32.toNatClampNeg 0) 1) (Int32.toNatClampNeg 1) 1) (Int32.toNatClampNeg 2) 1))) := by rw [hf8, va_up_ne _ _ (cne hwe_7 hsp_7 (by simp))]; exact hwe_7
                  have hsp_8 : f8 sp = some (.inl (cy 0, 18, .inl (upd (upd (upd (upd gsp (Int32.toNatClampNeg 0) 0) (Int32.toNatClampNeg 1) 0) (Int32.toNatClampNeg 2) 0) (Int32.toNatClampNeg 3) 0))) := by rw [hf8]; exact va_up_self _ _ _
                  refine gz_iinc (v := 4) (lv' := [(2, .int 4), (0, .ref w), (1, .int k)]) dX10_renew_43 rfl (by decide) (by decide) rfl ?_
                  refine gz_goto (tgt := 27) dX10_renew_46 (by decide) ?_
                  refine gz_iload_n dX10_renew_27 rfl rfl ?_
                  refine gz_aload_n dX10_renew_28 rfl rfl ?_
                  refine sgX10_19 hw_8 rfl dX10_renew_29 ?_
                  refine gz_alen0 (v := 18) hsp_8 (by decide) dX10_renew_32 ?_
                  refine gz_icmp_ge (tgt := 49) dX10_renew_33 (by decide) (fun c_33_7 => ?_) (fun c_33_7 => ?_)
                  · exact absurd c_33_7 (by decide)
                  ·
                    refine gz_aload_n dX10_renew_36 rfl rfl ?_
                    refine sgX10_19 hw_8 rfl dX10_renew_37 ?_
                    refine gz_iload_n dX10_renew_40 rfl rfl ?_
                    refine gz_iconst (v := 0) dX10_renew_41 (by decide) ?_
                    refine gz_iast hsp_8 (vin_T (v := 4) rfl (by decide) (by decide)) dX10_renew_42 ?_
                    obtain ⟨f9, hf9⟩ : ∃ gg : gMem, gg = va_up f8 sp (some (.inl (cy 0, 18, .inl (upd (upd (upd (upd (upd gsp (Int32.toNatClampNeg 0) 0) (Int32.toNatClampNeg 1) 0) (Int32.toNatClampNeg 2) 0) (Int32.toNatClampNeg 3) 0) (Int32.toNatClampNeg 4) 0)))) := ⟨_, rfl⟩
                    refine gz_eq (f2 := f9) hf9.symm rfl rfl rfl ?_
                    have hw_9 : f9 w = some (.inr (10, [.int k, .ref we, .ref sp, .ref pa, .ref ba, .ref td, .ref wf, .int ah, .int go])) := by rw [hf9, va_up_ne _ _ (cne hw_8 hsp_8 (by simp))]; exact hw_8
                    have hwe_9 : f9 we = some (.inl (cy 0, 3, .inl (upd (upd (upd gwe (Int32.toNatClampNeg 0) 1) (Int32.toNatClampNeg 1) 1) (Int32.toNatClampNeg 2) 1))) := by rw [hf9, va_up_ne _ _ (cne hwe_8 hsp_8 (by simp))]; exact hwe_8
                    have hsp_9 : f9 sp = some (.inl (cy 0, 18, .inl (upd (upd (upd (upd (upd gsp (Int32.toNatClampNeg 0) 0) (Int32.toNatClampNeg 1) 0) (Int32.toNatClampNeg 2) 0) (Int32.toNatClampNeg 3) 0) (Int32.toNatClampNeg 4) 0))) := by rw [hf9]; exact va_up_self _ _ _
                    refine gz_iinc (v := 5) (lv' := [(2, .int 5), (0, .ref w), (1, .int k)]) dX10_renew_43 rfl (by decide) (by decide) rfl ?_
                    refine gz_goto (tgt := 27) dX10_renew_46 (by decide) ?_
                    refine gz_iload_n dX10_renew_27 rfl rfl ?_
                    refine gz_aload_n dX10_renew_28 rfl rfl ?_
                    refine sgX10_19 hw_9 rfl dX10_renew_29 ?_
                    refine gz_alen0 (v := 18) hsp_9 (by decide) dX10_renew_32 ?_
                    refine gz_icmp_ge (tgt := 49) dX10_renew_33 (by decide) (fun c_33_8 => ?_) (fun c_33_8 => ?_)
                    · exact absurd c_33_8 (by decide)
                    ·
                      refine gz_aload_n dX10_renew_36 rfl rfl ?_
                      refine sgX10_19 hw_9 rfl dX10_renew_37 ?_
                      refine gz_iload_n dX10_renew_40 rfl rfl ?_
                      refine gz_iconst (v := 0) dX10_renew_41 (by decide) ?_
                      refine gz_iast hsp_9 (vin_T (v := 5) rfl (by decide) (by decide)) dX10_renew_42 ?_
                      obtain ⟨f10, hf10⟩ : ∃ gg : gMem, gg = va_up f9 sp (some (.inl (cy 0, 18, .inl (upd (upd (upd (upd (upd (upd gsp (Int32.toNatClampNeg 0) 0) (Int32.toNatClampNeg 1) 0) (Int32.toNatClampNeg 2) 0) (Int32.toNatClampNeg 3) 0) (Int32.toNatClampNeg 4) 0) (Int32.toNatClampNeg 5) 0)))) := ⟨_, rfl⟩
                      refine gz_eq (f2 := f10) hf10.symm rfl rfl rfl ?_
                      have hw_10 : f10 w = some (.inr (10, [.int k, .ref we, .ref sp, .ref pa, .ref ba, .ref td, .ref wf, .int ah, .int go])) := by rw [hf10, va_up_ne _ _ (cne hw_9 hsp_9 (by simp))]; exact hw_9
                      have hwe_10 : f10 we = some (.inl (cy 0, 3, .inl (upd (upd (upd gwe (Int32.toNatClampNeg 0) 1) (Int32.toNatClampNeg 1) 1) (Int32.toNatClampNeg 2) 1))) := by rw [hf10, va_up_ne _ _ (cne hwe_9 hsp_9 (by simp))]; exact hwe_9
                      have hsp_10 : f10 sp = some (.inl (cy 0, 18, .inl (upd (upd (upd (upd (upd (upd gsp (Int32.toNatClampNeg 0) 0) (Int32.toNatClampNeg 1) 0) (Int32.toNatClampNeg 2) 0) (Int32.toNatClampNeg 3) 0) (Int32.toNatClampNeg 4) 0) (Int32.toNatClampNeg 5) 0))) := by rw [hf10]; exact va_up_self _ _ _
                      refine gz_iinc (v := 6) (lv' := [(2, .int 6), (0, .ref w), (1, .int k)]) dX10_renew_43 rfl (by decide) (by decide) rfl ?_
                      refine gz_goto (tgt := 27) dX10_renew_46 (by decide) ?_
                      refine gz_iload_n dX10_renew_27 rfl rfl ?_
                      refine gz_aload_n dX10_renew_28 rfl rfl ?_
                      refine sgX10_19 hw_10 rfl dX10_renew_29 ?_
                      refine gz_alen0 (v := 18) hsp_10 (by decide) dX10_renew_32 ?_
                      refine gz_icmp_ge (tgt := 49) dX10_renew_33 (by decide) (fun c_33_9 => ?_) (fun c_33_9 => ?_)
                      · exact absurd c_33_9 (by decide)
                      ·
                        refine gz_aload_n dX10_renew_36 rfl rfl ?_
                        refine sgX10_19 hw_10 rfl dX10_renew_37 ?_
                        refine gz_iload_n dX10_renew_40 rfl rfl ?_
                        refine gz_iconst (v := 0) dX10_renew_41 (by decide) ?_
                        refine gz_iast hsp_10 (vin_T (v := 6) rfl (by decide) (by decide)) dX10_renew_42 ?_
                        obtain ⟨f11, hf11⟩ : ∃ gg : gMem, gg = va_up f10 sp (some (.inl (cy 0, 18, .inl (upd (upd (upd (upd (upd (upd (upd gsp (Int32.toNatClampNeg 0) 0) (Int32.toNatClampNeg 1) 0) (Int32.toNatClampNeg 2) 0) (Int32.toNatClampNeg 3) 0) (Int32.toNatClampNeg 4) 0) (Int32.toNatClampNeg 5) 0) (Int32.toNatClampNeg 6) 0)))) := ⟨_, rfl⟩
                        refine gz_eq (f2 := f11) hf11.symm rfl rfl rfl ?_
                        have hw_11 : f11 w = some (.inr (10, [.int k, .ref we, .ref sp, .ref pa, .ref ba, .ref td, .ref wf, .int ah, .int go])) := by rw [hf11, va_up_ne _ _ (cne hw_10 hsp_10 (by simp))]; exact hw_10
                        have hwe_11 : f11 we = some (.inl (cy 0, 3, .inl (upd (upd (upd gwe (Int32.toNatClampNeg 0) 1) (Int32.toNatClampNeg 1) 1) (Int32.toNatClampNeg 2) 1))) := by rw [hf11, va_up_ne _ _ (cne hwe_10 hsp_10 (by simp))]; exact hwe_10
                        have hsp_11 : f11 sp = some (.inl (cy 0, 18, .inl (upd (upd (upd (upd (upd (upd (upd gsp (Int32.toNatClampNeg 0) 0) (Int32.toNatClampNeg 1) 0) (Int32.toNatClampNeg 2) 0) (Int32.toNatClampNeg 3) 0) (Int32.toNatClampNeg 4) 0) (Int32.toNatClampNeg 5) 0) (Int32.toNatClampNeg 6) 0))) := by rw [hf11]; exact va_up_self _ _ _
                        refine gz_iinc (v := 7) (lv' := [(2, .int 7), (0, .ref w), (1, .int k)]) dX10_renew_43 rfl (by decide) (by decide) rfl ?_
                        refine gz_goto (tgt := 27) dX10_renew_46 (by decide) ?_
                        refine gz_iload_n dX10_renew_27 rfl rfl ?_
                        refine gz_aload_n dX10_renew_28 rfl rfl ?_
                        refine sgX10_19 hw_11 rfl dX10_renew_29 ?_
                        refine gz_alen0 (v := 18) hsp_11 (by decide) dX10_renew_32 ?_
                        refine gz_icmp_ge (tgt := 49) dX10_renew_33 (by decide) (fun c_33_10 => ?_) (fun c_33_10 => ?_)
                        · exact absurd c_33_10 (by decide)
                        ·
                          refine gz_aload_n dX10_renew_36 rfl rfl ?_
                          refine sgX10_19 hw_11 rfl dX10_renew_37 ?_
                          refine gz_iload_n dX10_renew_40 rfl rfl ?_
                          refine gz_iconst (v := 0) dX10_renew_41 (by decide) ?_
                          refine gz_iast hsp_11 (vin_T (v := 7) rfl (by decide) (by decide)) dX10_renew_42 ?_
                          obtain ⟨f12, hf12⟩ : ∃ gg : gMem, gg = va_up f11 sp (some (.inl (cy 0, 18, .inl (upd (upd (upd (upd (upd (upd (upd (upd gsp (Int32.toNatClampNeg 0) 0) (Int32.toNatClampNeg 1) 0) (Int32.toNatClampNeg 2) 0) (Int32.toNatClampNeg 3) 0) (Int32.toNatClampNeg 4) 0) (Int32.toNatClampNeg 5) 0) (Int32.toNatClampNeg 6) 0) (Int32.toNatClampNeg 7) 0)))) := ⟨_, rfl⟩
                          refine gz_eq (f2 := f12) hf12.symm rfl rfl rfl ?_
                          have hw_12 : f12 w = some (.inr (10, [.int k, .ref we, .ref sp, .ref pa, .ref ba, .ref td, .ref wf, .int ah, .int go])) := by rw [hf12, va_up_ne _ _ (cne hw_11 hsp_11 (by simp))]; exact hw_11
                          have hwe_12 : f12 we = some (.inl (cy 0, 3, .inl (upd (upd (upd gwe (Int32.toNatClampNeg 0) 1) (Int32.toNatClampNeg 1) 1) (Int32.toNatClampNeg 2) 1))) := by rw [hf12, va_up_ne _ _ (cne hwe_11 hsp_11 (by simp))]; exact hwe_11
                          have hsp_12 : f12 sp = some (.inl (cy 0, 18, .inl (upd (upd (upd (upd (upd (upd (upd (upd gsp (Int32.toNatClampNeg 0) 0) (Int32.toNatClampNeg 1) 0) (Int32.toNatClampNeg 2) 0) (Int32.toNatClampNeg 3) 0) (Int32.toNatClampNeg 4) 0) (Int32.toNatClampNeg 5) 0) (Int32.toNatClampNeg 6) 0) (Int32.toNatClampNeg 7) 0))) := by rw [hf12]; exact va_up_self _ _ _
                          refine gz_iinc (v := 8) (lv' := [(2, .int 8), (0, .ref w), (1, .int k)]) dX10_renew_43 rfl (by decide) (by decide) rfl ?_
                          refine gz_goto (tgt := 27) dX10_renew_46 (by decide) ?_
                          refine gz_iload_n dX10_renew_27 rfl rfl ?_
                          refine gz_aload_n dX10_renew_28 rfl rfl ?_
                          refine sgX10_19 hw_12 rfl dX10_renew_29 ?_
                          refine gz_alen0 (v := 18) hsp_12 (by decide) dX10_renew_32 ?_
                          refine gz_icmp_ge (tgt := 49) dX10_renew_33 (by decide) (fun c_33_11 => ?_) (fun c_33_11 => ?_)
                          · exact absurd c_33_11 (by decide)
                          ·
                            refine gz_aload_n dX10_renew_36 rfl rfl ?_
                            refine sgX10_19 hw_12 rfl dX10_renew_37 ?_
                            refine gz_iload_n dX10_renew_40 rfl rfl ?_
                            refine gz_iconst (v := 0) dX10_renew_41 (by decide) ?_
                            refine gz_iast hsp_12 (vin_T (v := 8) rfl (by decide) (by decide)) dX10_renew_42 ?_
                            obtain ⟨f13, hf13⟩ : ∃ gg : gMem, gg = va_up f12 sp (some (.inl (cy 0, 18, .inl (upd (upd (upd (upd (upd (upd (upd (upd (upd gsp (Int32.toNatClampNeg 0) 0) (Int32.toNatClampNeg 1) 0) (Int32.toNatClampNeg 2) 0) (Int32.toNatClampNeg 3) 0) (Int32.toNatClampNeg 4) 0) (Int32.toNatClampNeg 5) 0) (Int32.toNatClampNeg 6) 0) (Int32.toNatClampNeg 7) 0) (Int32.toNatClampNeg 8) 0)))) := ⟨_, rfl⟩
                            refine gz_eq (f2 := f13) hf13.symm rfl rfl rfl ?_
                            have hw_13 : f13 w = some (.inr (10, [.int k, .ref we, .ref sp, .ref pa, .ref ba, .ref td, .ref wf, .int ah, .int go])) := by rw [hf13, va_up_ne _ _ (cne hw_12 hsp_12 (by simp))]; exact hw_12
                            have hwe_13 : f13 we = some (.inl (cy 0, 3, .inl (upd (upd (upd gwe (Int32.toNatClampNeg 0) 1) (Int32.toNatClampNeg 1) 1) (Int32.toNatClampNeg 2) 1))) := by rw [hf13, va_up_ne _ _ (cne hwe_12 hsp_12 (by simp))]; exact hwe_12
                            have hsp_13 : f13 sp = some (.inl (cy 0, 18, .inl (upd (upd (upd (upd (upd (upd (upd (upd (upd gsp (Int32.toNatClampNeg 0) 0) (Int32.toNatClampNeg 1) 0) (Int32.toNatClampNeg 2) 0) (Int32.toNatClampNeg 3) 0) (Int32.toNatClampNeg 4) 0) (Int32.toNatClampNeg 5) 0) (Int32.toNatClampNeg 6) 0) (Int32.toNatClampNeg 7) 0) (Int32.toNatClampNeg 8) 0))) := by rw [hf13]; exact va_up_self _ _ _
                            refine gz_iinc (v := 9) (lv' := [(2, .int 9), (0, .ref w), (1, .int k)]) dX10_renew_43 rfl (by decide) (by decide) rfl ?_
                            refine gz_goto (tgt := 27) dX10_renew_46 (by decide) ?_
                            refine gz_iload_n dX10_renew_27 rfl rfl ?_
                            refine gz_aload_n dX10_renew_28 rfl rfl ?_
                            refine sgX10_19 hw_13 rfl dX10_renew_29 ?_
                            refine gz_alen0 (v := 18) hsp_13 (by decide) dX10_renew_32 ?_
                            refine gz_icmp_ge (tgt := 49) dX10_renew_33 (by decide) (fun c_33_12 => ?_) (fun c_33_12 => ?_)
                            · exact absurd c_33_12 (by decide)
                            ·
                              refine gz_aload_n dX10_renew_36 rfl rfl ?_
                              refine sgX10_19 hw_13 rfl dX10_renew_37 ?_
                              refine gz_iload_n dX10_renew_40 rfl rfl ?_
                              refine gz_iconst (v := 0) dX10_renew_41 (by decide) ?_
                              refine gz_iast hsp_13 (vin_T (v := 9) rfl (by decide) (by decide)) dX10_renew_42 ?_
                              obtain ⟨f14, hf14⟩ : ∃ gg : gMem, gg = va_up f13 sp (some (.inl (cy 0, 18, .inl (upd (upd (upd (upd (upd (upd (upd (upd (upd (upd gsp (Int32.toNatClampNeg 0) 0) (Int32.toNatClampNeg 1) 0) (Int32.toNatClampNeg 2) 0) (Int32.toNatClampNeg 3) 0) (Int32.toNatClampNeg 4) 0) (Int32.toNatClampNeg 5) 0) (Int32.toNatClampNeg 6) 0) (Int32.toNatClampNeg 7) 0) (Int32.toNatClampNeg 8) 0) (Int32.toNatClampNeg 9) 0)))) := ⟨_, rfl⟩
                              refine gz_eq (f2 := f14) hf14.symm rfl rfl rfl ?_
                              have hw_14 : f14 w = some (.inr (10, [.int k, .ref we, .ref sp, .ref pa, .ref ba, .ref td, .ref wf, .int ah, .int go])) := by rw [hf14, va_up_ne _ _ (cne hw_13 hsp_13 (by simp))]; exact hw_13
                              have hwe_14 : f14 we = some (.inl (cy 0, 3, .inl (upd (upd (upd gwe (Int32.toNatClampNeg 0) 1) (Int32.toNatClampNeg 1) 1) (Int32.toNatClampNeg 2) 1))) := by rw [hf14, va_up_ne _ _ (cne hwe_13 hsp_13 (by simp))]; exact hwe_13
                              have hsp_14 : f14 sp = some (.inl (cy 0, 18, .inl (upd (upd (upd (upd (upd (upd (upd (upd (upd (upd gsp (Int32.toNatClampNeg 0) 0) (Int32.toNatClampNeg 1) 0) (Int32.toNatClampNeg 2) 0) (Int32.toNatClampNeg 3) 0) (Int32.toNatClampNeg 4) 0) (Int32.toNatClampNeg 5) 0) (Int32.toNatClampNeg 6) 0) (Int32.toNatClampNeg 7) 0) (Int32.toNatClampNeg 8) 0) (Int32.toNatClampNeg 9) 0))) := by rw [hf14]; exact va_up_self _ _ _
                              refine gz_iinc (v := 10) (lv' := [(2, .int 10), (0, .ref w), (1, .int k)]) dX10_renew_43 rfl (by decide) (by decide) rfl ?_
                              refine gz_goto (tgt := 27) dX10_renew_46 (by decide) ?_
                              refine gz_iload_n dX10_renew_27 rfl rfl ?_
                              refine gz_aload_n dX10_renew_28 rfl rfl ?_
                              refine sgX10_19 hw_14 rfl dX10_renew_29 ?_
                              refine gz_alen0 (v := 18) hsp_14 (by decide) dX10_renew_32 ?_
                              refine gz_icmp_ge (tgt := 49) dX10_renew_33 (by decide) (fun c_33_13 => ?_) (fun c_33_13 => ?_)
                              · exact absurd c_33_13 (by decide)
                              ·
                                refine gz_aload_n dX10_renew_36 rfl rfl ?_
                                refine sgX10_19 hw_14 rfl dX10_renew_37 ?_
                                refine gz_iload_n dX10_renew_40 rfl rfl ?_
                                refine gz_iconst (v := 0) dX10_renew_41 (by decide) ?_
                                refine gz_iast hsp_14 (vin_T (v := 10) rfl (by decide) (by decide)) dX10_renew_42 ?_
                                obtain ⟨f15, hf15⟩ : ∃ gg : gMem, gg = va_up f14 sp (some (.inl (cy 0, 18, .inl (upd (upd (upd (upd (upd (upd (upd (upd (upd (upd (upd gsp (Int32.toNatClampNeg 0) 0) (Int32.toNatClampNeg 1) 0) (Int32.toNatClampNeg 2) 0) (Int32.toNatClampNeg 3) 0) (Int32.toNatClampNeg 4) 0) (Int32.toNatClampNeg 5) 0) (Int32.toNatClampNeg 6) 0) (Int32.toNatClampNeg 7) 0) (Int32.toNatClampNeg 8) 0) (Int32.toNatClampNeg 9) 0) (Int32.toNatClampNeg 10) 0)))) := ⟨_, rfl⟩
                                refine gz_eq (f2 := f15) hf15.symm rfl rfl rfl ?_
                                have hw_15 : f15 w = some (.inr (10, [.int k, .ref we, .ref sp, .ref pa, .ref ba, .ref td, .ref wf, .int ah, .int go])) := by rw [hf15, va_up_ne _ _ (cne hw_14 hsp_14 (by simp))]; exact hw_14
                                have hwe_15 : f15 we = some (.inl (cy 0, 3, .inl (upd (upd (upd gwe (Int32.toNatClampNeg 0) 1) (Int32.toNatClampNeg 1) 1) (Int32.toNatClampNeg 2) 1))) := by rw [hf15, va_up_ne _ _ (cne hwe_14 hsp_14 (by simp))]; exact hwe_14
                                have hsp_15 : f15 sp = some (.inl (cy 0, 18, .inl (upd (upd (upd (upd (upd (upd (upd (upd (upd (upd (upd gsp (Int32.toNatClampNeg 0) 0) (Int32.toNatClampNeg 1) 0) (Int32.toNatClampNeg 2) 0) (Int32.toNatClampNeg 3) 0) (Int32.toNatClampNeg 4) 0) (Int32.toNatClampNeg 5) 0) (Int32.toNatClampNeg 6) 0) (Int32.toNatClampNeg 7) 0) (Int32.toNatClampNeg 8) 0) (Int32.toNatClampNeg 9) 0) (Int32.toNatClampNeg 10) 0))) := by rw [hf15]; exact va_up_self _ _ _
                                refine gz_iinc (v := 11) (lv' := [(2, .int 11), (0, .ref w), (1, .int k)]) dX10_renew_43 rfl (by decide) (by decide) rfl ?_
                                refine gz_goto (tgt := 27) dX10_renew_46 (by decide) ?_
                                refine gz_iload_n dX10_renew_27 rfl rfl ?_
                                refine gz_aload_n dX10_renew_28 rfl rfl ?_
                                refine sgX10_19 hw_15 rfl dX10_renew_29 ?_
                                refine gz_alen0 (v := 18) hsp_15 (by decide) dX10_renew_32 ?_
                                refine gz_icmp_ge (tgt := 49) dX10_renew_33 (by decide) (fun c_33_14 => ?_) (fun c_33_14 => ?_)
                                · exact absurd c_33_14 (by decide)
                                ·
                                  refine gz_aload_n dX10_renew_36 rfl rfl ?_
                                  refine sgX10_19 hw_15 rfl dX10_renew_37 ?_
                                  refine gz_iload_n dX10_renew_40 rfl rfl ?_
                                  refine gz_iconst (v := 0) dX10_renew_41 (by decide) ?_
                                  refine gz_iast hsp_15 (vin_T (v := 11) rfl (by decide) (by decide)) dX10_renew_42 ?_
                                  obtain ⟨f16, hf16⟩ : ∃ gg : gMem, gg = va_up f15 sp (some (.inl (cy 0, 18, .inl (upd (upd (upd (upd (upd (upd (upd (upd (upd (upd (upd (upd gsp (Int32.toNatClampNeg 0) 0) (Int32.toNatClampNeg 1) 0) (Int32.toNatClampNeg 2) 0) (Int32.toNatClampNeg 3) 0) (Int32.toNatClampNeg 4) 0) (Int32.toNatClampNeg 5) 0) (Int32.toNatClampNeg 6) 0) (Int32.toNatClampNeg 7) 0) (Int32.toNatClampNeg 8) 0) (Int32.toNatClampNeg 9) 0) (Int32.toNatClampNeg 10) 0) (Int32.toNatClampNeg 11) 0)))) := ⟨_, rfl⟩
                                  refine gz_eq (f2 := f16) hf16.symm rfl rfl rfl ?_
                                  have hw_16 : f16 w = some (.inr (10, [.int k, .ref we, .ref sp, .ref pa, .ref ba, .ref td, .ref wf, .int ah, .int go])) := by rw [hf16, va_up_ne _ _ (cne hw_15 hsp_15 (by simp))]; exact hw_15
                                  have hwe_16 : f16 we = some (.inl (cy 0, 3, .inl (upd (upd (upd gwe (Int32.toNatClampNeg 0) 1) (Int32.toNatClampNeg 1) 1) (Int32.toNatClampNeg 2) 1))) := by rw [hf16, va_up_ne _ _ (cne hwe_15 hsp_15 (by simp))]; exact hwe_15
                                  have hsp_16 : f16 sp = some (.inl (cy 0, 18, .inl (upd (upd (upd (upd (upd (upd (upd (upd (upd (upd (upd (upd gsp (Int32.toNatClampNeg 0) 0) (Int32.toNatClampNeg 1) 0) (Int32.toNatClampNeg 2) 0) (Int32.toNatClampNeg 3) 0) (Int32.toNatClampNeg 4) 0) (Int32.toNatClampNeg 5) 0) (Int32.toNatClampNeg 6) 0) (Int32.toNatClampNeg 7) 0) (Int32.toNatClampNeg 8) 0) (Int32.toNatClampNeg 9) 0) (Int32.toNatClampNeg 10) 0) (Int32.toNatClampNeg 11) 0))) := by rw [hf16]; exact va_up_self _ _ _
                                  refine gz_iinc (v := 12) (lv' := [(2, .int 12), (0, .ref w), (1, .int k)]) dX10_renew_43 rfl (by decide) (by decide) rfl ?_
                                  refine gz_goto (tgt := 27) dX10_renew_46 (by decide) ?_
                                  refine gz_iload_n dX10_renew_27 rfl rfl ?_
                                  refine gz_aload_n dX10_renew_28 rfl rfl ?_
                                  refine sgX10_19 hw_16 rfl dX10_renew_29 ?_
                                  refine gz_alen0 (v := 18) hsp_16 (by decide) dX10_renew_32 ?_
                                  refine gz_icmp_ge (tgt := 49) dX10_renew_33 (by decide) (fun c_33_15 => ?_) (fun c_33_15 => ?_)
                                  · exact absurd c_33_15 (by decide)
                                  ·
                                    refine gz_aload_n dX10_renew_36 rfl rfl ?_
                                    refine sgX10_19 hw_16 rfl dX10_renew_37 ?_
                                    refine gz_iload_n dX10_renew_40 rfl rfl ?_
                                    refine gz_iconst (v := 0) dX10_renew_41 (by decide) ?_
                                    refine gz_iast hsp_16 (vin_T (v := 12) rfl (by decide) (by decide)) dX10_renew_42 ?_
                                    obtain ⟨f17, hf17⟩ : ∃ gg : gMem, gg = va_up f16 sp (some (.inl (cy 0, 18, .inl (upd (upd (upd (upd (upd (upd (upd (upd (upd (upd (upd (upd (upd gsp (Int32.toNatClampNeg 0) 0) (Int32.toNatClampNeg 1) 0) (Int32.toNatClampNeg 2) 0) (Int32.toNatClampNeg 3) 0) (Int32.toNatClampNeg 4) 0) (Int32.toNatClampNeg 5) 0) (Int32.toNatClampNeg 6) 0) (Int32.toNatClampNeg 7) 0) (Int32.toNatClampNeg 8) 0) (Int32.toNatClampNeg 9) 0) (Int32.toNatClampNeg 10) 0) (Int32.toNatClampNeg 11) 0) (Int32.toNatClampNeg 12) 0)))) := ⟨_, rfl⟩
                                    refine gz_eq (f2 := f17) hf17.symm rfl rfl rfl ?_
                                    have hw_17 : f17 w = some (.inr (10, [.int k, .ref we, .ref sp, .ref pa, .ref ba, .ref td, .ref wf, .int ah, .int go])) := by rw [hf17, va_up_ne _ _ (cne hw_16 hsp_16 (by simp))]; exact hw_16
                                    have hwe_17 : f17 we = some (.inl (cy 0, 3, .inl (upd (upd (upd gwe (Int32.toNatClampNeg 0) 1) (Int32.toNatClampNeg 1) 1) (Int32.toNatClampNeg 2) 1))) := by rw [hf17, va_up_ne _ _ (cne hwe_16 hsp_16 (by simp))]; exact hwe_16
                                    have hsp_17 : f17 sp = some (.inl (cy 0, 18, .inl (upd (upd (upd (upd (upd (upd (upd (upd (upd (upd (upd (upd (upd gsp (Int32.toNatClampNeg 0) 0) (Int32.toNatClampNeg 1) 0) (Int32.toNatClampNeg 2) 0) (Int32.toNatClampNeg 3) 0) (Int32.toNatClampNeg 4) 0) (Int32.toNatClampNeg 5) 0) (Int32.toNatClampNeg 6) 0) (Int32.toNatClampNeg 7) 0) (Int32.toNatClampNeg 8) 0) (Int32.toNatClampNeg 9) 0) (Int32.toNatClampNeg 10) 0) (Int32.toNatClampNeg 11) 0) (Int32.toNatClampNeg 12) 0))) := by rw [hf17]; exact va_up_self _ _ _
                                    refine gz_iinc (v := 13) (lv' := [(2, .int 13), (0, .ref w), (1, .int k)]) dX10_renew_43 rfl (by decide) (by decide) rfl ?_
                                    refine gz_goto (tgt := 27) dX10_renew_46 (by decide) ?_
                                    refine gz_iload_n dX10_renew_27 rfl rfl ?_
                                    refine gz_aload_n dX10_renew_28 rfl rfl ?_
                                    refine sgX10_19 hw_17 rfl dX10_renew_29 ?_
                                    refine gz_alen0 (v := 18) hsp_17 (by decide) dX10_renew_32 ?_
                                    refine gz_icmp_ge (tgt := 49) dX10_renew_33 (by decide) (fun c_33_16 => ?_) (fun c_33_16 => ?_)
                                    · exact absurd c_33_16 (by decide)
                                    ·
                                      refine gz_aload_n dX10_renew_36 rfl rfl ?_
                                      refine sgX10_19 hw_17 rfl dX10_renew_37 ?_
                                      refine gz_iload_n dX10_renew_40 rfl rfl ?_
                                      refine gz_iconst (v := 0) dX10_renew_41 (by decide) ?_
                                      refine gz_iast hsp_17 (vin_T (v := 13) rfl (by decide) (by decide)) dX10_renew_42 ?_
                                      obtain ⟨f18, hf18⟩ : ∃ gg : gMem, gg = va_up f17 sp (some (.inl (cy 0, 18, .inl (upd (upd (upd (upd (upd (upd (upd (upd (upd (upd (upd (upd (upd (upd gsp (Int32.toNatClampNeg 0) 0) (Int32.toNatClampNeg 1) 0) (Int32.toNatClampNeg 2) 0) (Int32.toNatClampNeg 3) 0) (Int32.toNatClampNeg 4) 0) (Int32.toNatClampNeg 5) 0) (Int32.toNatClampNeg 6) 0) (Int32.toNatClampNeg 7) 0) (Int32.toNatClampNeg 8) 0) (Int32.toNatClampNeg 9) 0) (Int32.toNatClampNeg 10) 0) (Int32.toNatClampNeg 11) 0) (Int32.toNatClampNeg 12) 0) (Int32.toNatClampNeg 13) 0)))) := ⟨_, rfl⟩
                                      refine gz_eq (f2 := f18) hf18.symm rfl rfl rfl ?_
                                      have hw_18 : f18 w = some (.inr (10, [.int k, .ref we, .ref sp, .ref pa, .ref ba, .ref td, .ref wf, .int ah, .int go])) := by rw [hf18, va_up_ne _ _ (cne hw_17 hsp_17 (by simp))]; exact hw_17
                                      have hwe_18 : f18 we = some (.inl (cy 0, 3, .inl (upd (upd (upd gwe (Int32.toNatClampNeg 0) 1) (Int32.toNatClampNeg 1) 1) (Int32.toNatClampNeg 2) 1))) := by rw [hf18, va_up_ne _ _ (cne hwe_17 hsp_17 (by simp))]; exact hwe_17
                                      have hsp_18 : f18 sp = some (.inl (cy 0, 18, .inl (upd (upd (upd (upd (upd (upd (upd (upd (upd (upd (upd (upd (upd (upd gsp (Int32.toNatClampNeg 0) 0) (Int32.toNatClampNeg 1) 0) (Int32.toNatClampNeg 2) 0) (Int32.toNatClampNeg 3) 0) (Int32.toNatClampNeg 4) 0) (Int32.toNatClampNeg 5) 0) (Int32.toNatClampNeg 6) 0) (Int32.toNatClampNeg 7) 0) (Int32.toNatClampNeg 8) 0) (Int32.toNatClampNeg 9) 0) (Int32.toNatClampNeg 10) 0) (Int32.toNatClampNeg 11) 0) (Int32.toNatClampNeg 12) 0) (Int32.toNatClampNeg 13) 0))) := by rw [hf18]; exact va_up_self _ _ _
                                      refine gz_iinc (v := 14) (lv' := [(2, .int 14), (0, .ref w), (1, .int k)]) dX10_renew_43 rfl (by decide) (by decide) rfl ?_
                                      refine gz_goto (tgt := 27) dX10_renew_46 (by decide) ?_
                                      refine gz_iload_n dX10_renew_27 rfl rfl ?_
                                      refine gz_aload_n dX10_renew_28 rfl rfl ?_
                                      refine sgX10_19 hw_18 rfl dX10_renew_29 ?_
                                      refine gz_alen0 (v := 18) hsp_18 (by decide) dX10_renew_32 ?_
                                      refine gz_icmp_ge (tgt := 49) dX10_renew_33 (by decide) (fun c_33_17 => ?_) (fun c_33_17 => ?_)
                                      · exact absurd c_33_17 (by decide)
                                      ·
                                        refine gz_aload_n dX10_renew_36 rfl rfl ?_
                                        refine sgX10_19 hw_18 rfl dX10_renew_37 ?_
                                        refine gz_iload_n dX10_renew_40 rfl rfl ?_
                                        refine gz_iconst (v := 0) dX10_renew_41 (by decide) ?_
                                        refine gz_iast hsp_18 (vin_T (v := 14) rfl (by decide) (by decide)) dX10_renew_42 ?_
                                        obtain ⟨f19, hf19⟩ : ∃ gg : gMem, gg = va_up f18 sp (some (.inl (cy 0, 18, .inl (upd (upd (upd (upd (upd (upd (upd (upd (upd (upd (upd (upd (upd (upd (upd gsp (Int32.toNatClampNeg 0) 0) (Int32.toNatClampNeg 1) 0) (Int32.toNatClampNeg 2) 0) (Int32.toNatClampNeg 3) 0) (Int32.toNatClampNeg 4) 0) (Int32.toNatClampNeg 5) 0) (Int32.toNatClampNeg 6) 0) (Int32.toNatClampNeg 7) 0) (Int32.toNatClampNeg 8) 0) (Int32.toNatClampNeg 9) 0) (Int32.toNatClampNeg 10) 0) (Int32.toNatClampNeg 11) 0) (Int32.toNatClampNeg 12) 0) (Int32.toNatClampNeg 13) 0) (Int32.toNatClampNeg 14) 0)))) := ⟨_, rfl⟩
                                        refine gz_eq (f2 := f19) hf19.symm rfl rfl rfl ?_
                                        have hw_19 : f19 w = some (.inr (10, [.int k, .ref we, .ref sp, .ref pa, .ref ba, .ref td, .ref wf, .int ah, .int go])) := by rw [hf19, va_up_ne _ _ (cne hw_18 hsp_18 (by simp))]; exact hw_18
                                        have hwe_19 : f19 we = some (.inl (cy 0, 3, .inl (upd (upd (upd gwe (Int32.toNatClampNeg 0) 1) (Int32.toNatClampNeg 1) 1) (Int32.toNatClampNeg 2) 1))) := by rw [hf19, va_up_ne _ _ (cne hwe_18 hsp_18 (by simp))]; exact hwe_18
                                        have hsp_19 : f19 sp = some (.inl (cy 0, 18, .inl (upd (upd (upd (upd (upd (upd (upd (upd (upd (upd (upd (upd (upd (upd (upd gsp (Int32.toNatClampNeg 0) 0) (Int32.toNatClampNeg 1) 0) (Int32.toNatClampNeg 2) 0) (Int32.toNatClampNeg 3) 0) (Int32.toNatClampNeg 4) 0) (Int32.toNatClampNeg 5) 0) (Int32.toNatClampNeg 6) 0) (Int32.toNatClampNeg 7) 0) (Int32.toNatClampNeg 8) 0) (Int32.toNatClampNeg 9) 0) (Int32.toNatClampNeg 10) 0) (Int32.toNatClampNeg 11) 0) (Int32.toNatClampNeg 12) 0) (Int32.toNatClampNeg 13) 0) (Int32.toNatClampNeg 14) 0))) := by rw [hf19]; exact va_up_self _ _ _
                                        refine gz_iinc (v := 15) (lv' := [(2, .int 15), (0, .ref w), (1, .int k)]) dX10_renew_43 rfl (by decide) (by decide) rfl ?_
                                        refine gz_goto (tgt := 27) dX10_renew_46 (by decide) ?_
                                        refine gz_iload_n dX10_renew_27 rfl rfl ?_
                                        refine gz_aload_n dX10_renew_28 rfl rfl ?_
                                        refine sgX10_19 hw_19 rfl dX10_renew_29 ?_
                                        refine gz_alen0 (v := 18) hsp_19 (by decide) dX10_renew_32 ?_
                                        refine gz_icmp_ge (tgt := 49) dX10_renew_33 (by decide) (fun c_33_18 => ?_) (fun c_33_18 => ?_)
                                        · exact absurd c_33_18 (by decide)
                                        ·
                                          refine gz_aload_n dX10_renew_36 rfl rfl ?_
                                          refine sgX10_19 hw_19 rfl dX10_renew_37 ?_
                                          refine gz_iload_n dX10_renew_40 rfl rfl ?_
                                          refine gz_iconst (v := 0) dX10_renew_41 (by decide) ?_
                                          refine gz_iast hsp_19 (vin_T (v := 15) rfl (by decide) (by decide)) dX10_renew_42 ?_
                                          obtain ⟨f20, hf20⟩ : ∃ gg : gMem, gg = va_up f19 sp (some (.inl (cy 0, 18, .inl (upd (upd (upd (upd (upd (upd (upd (upd (upd (upd (upd (upd (upd (upd (upd (upd gsp (Int32.toNatClampNeg 0) 0) (Int32.toNatClampNeg 1) 0) (Int32.toNatClampNeg 2) 0) (Int32.toNatClampNeg 3) 0) (Int32.toNatClampNeg 4) 0) (Int32.toNatClampNeg 5) 0) (Int32.toNatClampNeg 6) 0) (Int32.toNatClampNeg 7) 0) (Int32.toNatClampNeg 8) 0) (Int32.toNatClampNeg 9) 0) (Int32.toNatClampNeg 10) 0) (Int32.toNatClampNeg 11) 0) (Int32.toNatClampNeg 12) 0) (Int32.toNatClampNeg 13) 0) (Int32.toNatClampNeg 14) 0) (Int32.toNatClampNeg 15) 0)))) := ⟨_, rfl⟩
                                          refine gz_eq (f2 := f20) hf20.symm rfl rfl rfl ?_
                                          have hw_20 : f20 w = some (.inr (10, [.int k, .ref we, .ref sp, .ref pa, .ref ba, .ref td, .ref wf, .int ah, .int go])) := by rw [hf20, va_up_ne _ _ (cne hw_19 hsp_19 (by simp))]; exact hw_19
                                          have hwe_20 : f20 we = some (.inl (cy 0, 3, .inl (upd (upd (upd gwe (Int32.toNatClampNeg 0) 1) (Int32.toNatClampNeg 1) 1) (Int32.toNatClampNeg 2) 1))) := by rw [hf20, va_up_ne _ _ (cne hwe_19 hsp_19 (by simp))]; exact hwe_19
                                          have hsp_20 : f20 sp = some (.inl (cy 0, 18, .inl (upd (upd (upd (upd (upd (upd (upd (upd (upd (upd (upd (upd (upd (upd (upd (upd gsp (Int32.toNatClampNeg 0) 0) (Int32.toNatClampNeg 1) 0) (Int32.toNatClampNeg 2) 0) (Int32.toNatClampNeg 3) 0) (Int32.toNatClampNeg 4) 0) (Int32.toNatClampNeg 5) 0) (Int32.toNatClampNeg 6) 0) (Int32.toNatClampNeg 7) 0) (Int32.toNatClampNeg 8) 0) (Int32.toNatClampNeg 9) 0) (Int32.toNatClampNeg 10) 0) (Int32.toNatClampNeg 11) 0) (Int32.toNatClampNeg 12) 0) (Int32.toNatClampNeg 13) 0) (Int32.toNatClampNeg 14) 0) (Int32.toNatClampNeg 15) 0))) := by rw [hf20]; exact va_up_self _ _ _
                                          refine gz_iinc (v := 16) (lv' := [(2, .int 16), (0, .ref w), (1, .int k)]) dX10_renew_43 rfl (by decide) (by decide) rfl ?_
                                          refine gz_goto (tgt := 27) dX10_renew_46 (by decide) ?_
                                          refine gz_iload_n dX10_renew_27 rfl rfl ?_
                                          refine gz_aload_n dX10_renew_28 rfl rfl ?_
                                          refine sgX10_19 hw_20 rfl dX10_renew_29 ?_
                                          refine gz_alen0 (v := 18) hsp_20 (by decide) dX10_renew_32 ?_
                                          refine gz_icmp_ge (tgt := 49) dX10_renew_33 (by decide) (fun c_33_19 => ?_) (fun c_33_19 => ?_)
                                          · exact absurd c_33_19 (by decide)
                                          ·
                                            refine gz_aload_n dX10_renew_36 rfl rfl ?_
                                            refine sgX10_19 hw_20 rfl dX10_renew_37 ?_
                                            refine gz_iload_n dX10_renew_40 rfl rfl ?_
                                            refine gz_iconst (v := 0) dX10_renew_41 (by decide) ?_
                                            refine gz_iast hsp_20 (vin_T (v := 16) rfl (by decide) (by decide)) dX10_renew_42 ?_
                                            obtain ⟨f21, hf21⟩ : ∃ gg : gMem, gg = va_up f20 sp (some (.inl (cy 0, 18, .inl (upd (upd (upd (upd (upd (upd (upd (upd (upd (upd (upd (upd (upd (upd (upd (upd (upd gsp (Int32.toNatClampNeg 0) 0) (Int32.toNatClampNeg 1) 0) (Int32.toNatClampNeg 2) 0) (Int32.toNatClampNeg 3) 0) (Int32.toNatClampNeg 4) 0) (Int32.toNatClampNeg 5) 0) (Int32.toNatClampNeg 6) 0) (Int32.toNatClampNeg 7) 0) (Int32.toNatClampNeg 8) 0) (Int32.toNatClampNeg 9) 0) (Int32.toNatClampNeg 10) 0) (Int32.toNatClampNeg 11) 0) (Int32.toNatClampNeg 12) 0) (Int32.toNatClampNeg 13) 0) (Int32.toNatClampNeg 14) 0) (Int32.toNatClampNeg 15) 0) (Int32.toNatClampNeg 16) 0)))) := ⟨_, rfl⟩
                                            refine gz_eq (f2 := f21) hf21.symm rfl rfl rfl ?_
                                            have hw_21 : f21 w = some (.inr (10, [.int k, .ref we, .ref sp, .ref pa, .ref ba, .ref td, .ref wf, .int ah, .int go])) := by rw [hf21, va_up_ne _ _ (cne hw_20 hsp_20 (by simp))]; exact hw_20
                                            have hwe_21 : f21 we = some (.inl (cy 0, 3, .inl (upd (upd (upd gwe (Int32.toNatClampNeg 0) 1) (Int32.toNatClampNeg 1) 1) (Int32.toNatClampNeg 2) 1))) := by rw [hf21, va_up_ne _ _ (cne hwe_20 hsp_20 (by simp))]; exact hwe_20
                                            have hsp_21 : f21 sp = some (.inl (cy 0, 18, .inl (upd (upd (upd (upd (upd (upd (upd (upd (upd (upd (upd (upd (upd (upd (upd (upd (upd gsp (Int32.toNatClampNeg 0) 0) (Int32.toNatClampNeg 1) 0) (Int32.toNatClampNeg 2) 0) (Int32.toNatClampNeg 3) 0) (Int32.toNatClampNeg 4) 0) (Int32.toNatClampNeg 5) 0) (Int32.toNatClampNeg 6) 0) (Int32.toNatClampNeg 7) 0) (Int32.toNatClampNeg 8) 0) (Int32.toNatClampNeg 9) 0) (Int32.toNatClampNeg 10) 0) (Int32.toNatClampNeg 11) 0) (Int32.toNatClampNeg 12) 0) (Int32.toNatClampNeg 13) 0) (Int32.toNatClampNeg 14) 0) (Int32.toNatClampNeg 15) 0) (Int32.toNatClampNeg 16) 0))) := by rw [hf21]; exact va_up_self _ _ _
                                            refine gz_iinc (v := 17) (lv' := [(2, .int 17), (0, .ref w), (1, .int k)]) dX10_renew_43 rfl (by decide) (by decide) rfl ?_
                                            refine gz_goto (tgt := 27) dX10_renew_46 (by decide) ?_
                                            refine gz_iload_n dX10_renew_27 rfl rfl ?_
                                            refine gz_aload_n dX10_renew_28 rfl rfl ?_
                                            refine sgX10_19 hw_21 rfl dX10_renew_29 ?_
                                            refine gz_alen0 (v := 18) hsp_21 (by decide) dX10_renew_32 ?_
                                            refine gz_icmp_ge (tgt := 49) dX10_renew_33 (by decide) (fun c_33_20 => ?_) (fun c_33_20 => ?_)
                                            · exact absurd c_33_20 (by decide)
                                            ·
                                              refine gz_aload_n dX10_renew_36 rfl rfl ?_
                                              refine sgX10_19 hw_21 rfl dX10_renew_37 ?_
                                              refine gz_iload_n dX10_renew_40 rfl rfl ?_
                                              refine gz_iconst (v := 0) dX10_renew_41 (by decide) ?_
                                              refine gz_iast hsp_21 (vin_T (v := 17) rfl (by decide) (by decide)) dX10_renew_42 ?_
                                              obtain ⟨f22, hf22⟩ : ∃ gg : gMem, gg = va_up f21 sp (some (.inl (cy 0, 18, .inl (upd (upd (upd (upd (upd (upd (upd (upd (upd (upd (upd (upd (upd (upd (upd (upd (upd (upd gsp (Int32.toNatClampNeg 0) 0) (Int32.toNatClampNeg 1) 0) (Int32.toNatClampNeg 2) 0) (Int32.toNatClampNeg 3) 0) (Int32.toNatClampNeg 4) 0) (Int32.toNatClampNeg 5) 0) (Int32.toNatClampNeg 6) 0) (Int32.toNatClampNeg 7) 0) (Int32.toNatClampNeg 8) 0) (Int32.toNatClampNeg 9) 0) (Int32.toNatClampNeg 10) 0) (Int32.toNatClampNeg 11) 0) (Int32.toNatClampNeg 12) 0) (Int32.toNatClampNeg 13) 0) (Int32.toNatClampNeg 14) 0) (Int32.toNatClampNeg 15) 0) (Int32.toNatClampNeg 16) 0) (Int32.toNatClampNeg 17) 0)))) := ⟨_, rfl⟩
                                              refine gz_eq (f2 := f22) hf22.symm rfl rfl rfl ?_
                                              have hw_22 : f22 w = some (.inr (10, [.int k, .ref we, .ref sp, .ref pa, .ref ba, .ref td, .ref wf, .int ah, .int go])) := by rw [hf22, va_up_ne _ _ (cne hw_21 hsp_21 (by simp))]; exact hw_21
                                              have hwe_22 : f22 we = some (.inl (cy 0, 3, .inl (upd (upd (upd gwe (Int32.toNatClampNeg 0) 1) (Int32.toNatClampNeg 1) 1) (Int32.toNatClampNeg 2) 1))) := by rw [hf22, va_up_ne _ _ (cne hwe_21 hsp_21 (by simp))]; exact hwe_21
                                              have hsp_22 : f22 sp = some (.inl (cy 0, 18, .inl (upd (upd (upd (upd (upd (upd (upd (upd (upd (upd (upd (upd (upd (upd (upd (upd (upd (upd gsp (Int32.toNatClampNeg 0) 0) (Int32.toNatClampNeg 1) 0) (Int32.toNatClampNeg 2) 0) (Int32.toNatClampNeg 3) 0) (Int32.toNatClampNeg 4) 0) (Int32.toNatClampNeg 5) 0) (Int32.toNatClampNeg 6) 0) (Int32.toNatClampNeg 7) 0) (Int32.toNatClampNeg 8) 0) (Int32.toNatClampNeg 9) 0) (Int32.toNatClampNeg 10) 0) (Int32.toNatClampNeg 11) 0) (Int32.toNatClampNeg 12) 0) (Int32.toNatClampNeg 13) 0) (Int32.toNatClampNeg 14) 0) (Int32.toNatClampNeg 15) 0) (Int32.toNatClampNeg 16) 0) (Int32.toNatClampNeg 17) 0))) := by rw [hf22]; exact va_up_self _ _ _
                                              refine gz_iinc (v := 18) (lv' := [(2, .int 18), (0, .ref w), (1, .int k)]) dX10_renew_43 rfl (by decide) (by decide) rfl ?_
                                              refine gz_goto (tgt := 27) dX10_renew_46 (by decide) ?_
                                              refine gz_iload_n dX10_renew_27 rfl rfl ?_
                                              refine gz_aload_n dX10_renew_28 rfl rfl ?_
                                              refine sgX10_19 hw_22 rfl dX10_renew_29 ?_
                                              refine gz_alen0 (v := 18) hsp_22 (by decide) dX10_renew_32 ?_
                                              refine gz_icmp_ge (tgt := 49) dX10_renew_33 (by decide) (fun c_33_21 => ?_) (fun c_33_21 => ?_)
                                              ·
                                                exact gz_vret rfl dX10_renew_49 (Nat.le_of_ble_eq_true rfl) (Nat.le_of_ble_eq_true rfl) (⟨rfl, by rw [hf22, hf21, hf20, hf19, hf18, hf17, hf16, hf15, hf14, hf13, hf12, hf11, hf10, hf9, hf8, hf7, hf6, hf5, hf4, hf3, hf2, hf1]; exact fr_up (fr_up (fr_up (fr_up (fr_up (fr_up (fr_up (fr_up (fr_up (fr_up (fr_up (fr_up (fr_up (fr_up (fr_up (fr_up (fr_up (fr_up (fr_up (fr_up (fr_up (fr_up (fr_rf) (by simp)) (by simp)) (by simp)) (by simp)) (by simp)) (by simp)) (by simp)) (by simp)) (by simp)) (by simp)) (by simp)) (by simp)) (by simp)) (by simp)) (by simp)) (by simp)) (by simp)) (by simp)) (by simp)) (by simp)) (by simp)) (by simp)⟩)
                                              · exact absurd c_33_21 (by decide)
        · exact absurd c_9_3 (by decide)

set_option maxHeartbeats 4000000 in
set_option maxRecDepth 100000 in
theorem k_X11_ways {l : Launch} {D : va_G} {cy : Nat → ClassId} {b : Nat} {f : gMem} {x ch tp ou fo dr ot rd te la le co wo : Nat} {x1 : Int32} {we sp pa ba td wf : Nat} {ah go : Int32} {gwe gsp : Nat → Int32} (hx : f x = some (.inr (11, [.ref ch, .ref tp, .ref ou, .ref fo, .ref dr, .ref ot, .ref rd, .ref te, .ref la, .ref le, .ref co, .ref wo, .int 0]))) (hwo : f wo = some (.inr (10, [.int 1, .ref we, .ref sp, .ref pa, .ref ba, .ref td, .ref wf, .int ah, .int go]))) (hwe : f we = some (.inl (cy 0, 3, .inl (gwe)))) (hsp : f sp = some (.inl (cy 0, 18, .inl (gsp))))  : gC l D cy b yX11_ways cX11_ways 2 (some .boolean) 1 0 0 [.ref x, .int x1] f (pI fun r f2 => r = spWays x1 ∧ fr [wo, we, sp] f f2) := by
  refine gC_of (by decide) (Nat.le_of_ble_eq_true rfl) ?_
  show gG l _ _ _ D cy b cX11_ways 2 _ RX11 "ways" 0 0 f 0 [(0, .ref x), (1, .int x1)] []
  refine gz_iload_n dX11_ways_0 rfl rfl ?_
  refine gz_iconst (v := 1) dX11_ways_1 (by decide) ?_
  refine gz_icmp_lt (tgt := 10) dX11_ways_2 (by decide) (fun c_2 => ?_) (fun c_2 => ?_)
  ·
    refine gz_iconst (v := 0) dX11_ways_10 (by decide) ?_
    exact gz_zret rfl (by decide) dX11_ways_11 (Nat.le_of_ble_eq_true rfl) (Nat.le_of_ble_eq_true rfl) (⟨_, rfl, (by show _ = _; have e0 : (0 : Int32).toInt = 0 := rfl; have E0 : (0 : Int64).toInt = 0 := rfl; have e1 : (1 : Int32).toInt = 1 := rfl; have E1 : (1 : Int64).toInt = 1 := rfl; have e2 : (2 : Int32).toInt = 2 := rfl; have E2 : (2 : Int64).toInt = 2 := rfl; have e3 : (3 : Int32).toInt = 3 := rfl; have E3 : (3 : Int64).toInt = 3 := rfl; have e4 : (4 : Int32).toInt = 4 := rfl; have E4 : (4 : Int64).toInt = 4 := rfl; have e5 : (5 : Int32).toInt = 5 := rfl; have E5 : (5 : Int64).toInt = 5 := rfl; have e6 : (6 : Int32).toInt = 6 := rfl; have E6 : (6 : Int64).toInt = 6 := rfl; have e7 : (7 : Int32).toInt = 7 := rfl; have E7 : (7 : Int64).toInt = 7 := rfl; have e8 : (8 : Int32).toInt = 8 := rfl; have E8 : (8 : Int64).toInt = 8 := rfl; have e20 : (20 : Int32).toInt = 20 := rfl; have E20 : (20 : Int64).toInt = 20 := rfl; have e39 : (39 : Int32).toInt = 39 := rfl; have E39 : (39 : Int64).toInt = 39 := rfl; have e40 : (40 : Int32).toInt = 40 := rfl; have E40 : (40 : Int64).toInt = 40 := rfl; have e99 : (99 : Int32).toInt = 99 := rfl; have E99 : (99 : Int64).toInt = 99 := rfl; have em99 : ((-99) : Int32).toInt = (-99) := rfl; have Em99 : ((-99) : Int64).toInt = (-99) := rfl; have e399 : (399 : Int32).toInt = 399 := rfl; have E399 : (399 : Int64).toInt = 399 := rfl; have e400 : (400 : Int32).toInt = 400 := rfl; have E400 : (400 : Int64).toInt = 400 := rfl; have e9999 : (9999 : Int32).toInt = 9999 := rfl; have E9999 : (9999 : Int64).toInt = 9999 := rfl; have em9999 : ((-9999) : Int32).toInt = (-9999) := rfl; have Em9999 : ((-9999) : Int64).toInt = (-9999) := rfl; have em10000 : ((-10000) : Int32).toInt = (-10000) := rfl; have Em10000 : ((-10000) : Int64).toInt = (-10000) := rfl; have em1 : ((-1) : Int32).toInt = (-1) := rfl; have Em1 : ((-1) : Int64).toInt = (-1) := rfl; have e10 : (10 : Int32).toInt = 10 := rfl; have E10 : (10 : Int64).toInt = 10 := rfl; have e17 : (17 : Int32).toInt = 17 := rfl; have E17 : (17 : Int64).toInt = 17 := rfl; (try simp only [mIn_0, lgc_lt, lgc_gt, lgc_eq, lgc_le, lgc_ge] at c_2); (try simp only [fl_lt, fl_le, fl_eq, fL_lt, fL_le, fL_w] at c_2); first | (rw [spWays, if_pos (by omega)]; first | done | rfl) | (rw [spWays, if_neg (by omega)]; first | done | rfl)), fr_rf⟩)
  ·
    refine gz_iload_n dX11_ways_5 rfl rfl ?_
    refine gz_iconst (v := 3) dX11_ways_6 (by decide) ?_
    refine gz_icmp_le (tgt := 12) dX11_ways_7 (by decide) (fun c_7 => ?_) (fun c_7 => ?_)
    ·
      refine gz_aload_n dX11_ways_12 rfl rfl ?_
      refine sgX11_94 hx rfl dX11_ways_13 ?_
      refine gz_iload_n dX11_ways_16 rfl rfl ?_
      refine scX11_196 (k_X10_renew (k := x1) hwo hwe hsp) hwo ⟨(Nat.le_of_ble_eq_true rfl), (Nat.le_of_ble_eq_true rfl)⟩ ⟨(Nat.le_of_ble_eq_true rfl), (Nat.le_of_ble_eq_true rfl)⟩ rfl rfl (Nat.le_of_ble_eq_true rfl) dX11_ways_17 ?_
      intro f9 z9
      refine gz_iconst (v := 1) dX11_ways_20 (by decide) ?_
      exact gz_zret rfl (by decide) dX11_ways_21 (Nat.le_of_ble_eq_true rfl) (Nat.le_of_ble_eq_true rfl) (⟨_, rfl, (by show _ = _; have e0 : (0 : Int32).toInt = 0 := rfl; have E0 : (0 : Int64).toInt = 0 := rfl; have e1 : (1 : Int32).toInt = 1 := rfl; have E1 : (1 : Int64).toInt = 1 := rfl; have e2 : (2 : Int32).toInt = 2 := rfl; have E2 : (2 : Int64).toInt = 2 := rfl; have e3 : (3 : Int32).toInt = 3 := rfl; have E3 : (3 : Int64).toInt = 3 := rfl; have e4 : (4 : Int32).toInt = 4 := rfl; have E4 : (4 : Int64).toInt = 4 := rfl; have e5 : (5 : Int32).toInt = 5 := rfl; have E5 : (5 : Int64).toInt = 5 := rfl; have e6 : (6 : Int32).toInt = 6 := rfl; have E6 : (6 : Int64).toInt = 6 := rfl; have e7 : (7 : Int32).toInt = 7 := rfl; have E7 : (7 : Int64).toInt = 7 := rfl; have e8 : (8 : Int32).toInt = 8 := rfl; have E8 : (8 : Int64).toInt = 8 := rfl; have e20 : (20 : Int32).toInt = 20 := rfl; have E20 : (20 : Int64).toInt = 20 := rfl; have e39 : (39 : Int32).toInt = 39 := rfl; have E39 : (39 : Int64).toInt = 39 := rfl; have e40 : (40 : Int32).toInt = 40 := rfl; have E40 : (40 : Int64).toInt = 40 := rfl; have e99 : (99 : Int32).toInt = 99 := rfl; have E99 : (99 : Int64).toInt = 99 := rfl; have em99 : ((-99) : Int32).toInt = (-99) := rfl; have Em99 : ((-99) : Int64).toInt = (-99) := rfl; have e399 : (399 : Int32).toInt = 399 := rfl; have E399 : (399 : Int64).toInt = 399 := rfl; have e400 : (400 : Int32).toInt = 400 := rfl; have E400 : (400 : Int64).toInt = 400 := rfl; have e9999 : (9999 : Int32).toInt = 9999 := rfl; have E9999 : (9999 : Int64).toInt = 9999 := rfl; have em9999 : ((-9999) : Int32).toInt = (-9999) := rfl; have Em9999 : ((-9999) : Int64).toInt = (-9999) := rfl; have em10000 : ((-10000) : Int32).toInt = (-10000) := rfl; have Em10000 : ((-10000) : Int64).toInt = (-10000) := rfl; have em1 : ((-1) : Int32).toInt = (-1) := rfl; have Em1 : ((-1) : Int64).toInt = (-1) := rfl; have e10 : (10 : Int32).toInt = 10 := rfl; have E10 : (10 : Int64).toInt = 10 := rfl; have e17 : (17 : Int32).toInt = 17 := rfl; have E17 : (17 : Int64).toInt = 17 := rfl; (try simp only [mIn_0, lgc_lt, lgc_gt, lgc_eq, lgc_le, lgc_ge] at c_2 c_7); (try simp only [fl_lt, fl_le, fl_eq, fL_lt, fL_le, fL_w] at c_2 c_7); first | (rw [spWays, if_pos (by omega)]; first | done | rfl) | (rw [spWays, if_neg (by omega)]; first | done | rfl)), z9⟩)
    ·
      refine gz_iconst (v := 0) dX11_ways_10 (by decide) ?_
      exact gz_zret rfl (by decide) dX11_ways_11 (Nat.le_of_ble_eq_true rfl) (Nat.le_of_ble_eq_true rfl) (⟨_, rfl, (by show _ = _; have e0 : (0 : Int32).toInt = 0 := rfl; have E0 : (0 : Int64).toInt = 0 := rfl; have e1 : (1 : Int32).toInt = 1 := rfl; have E1 : (1 : Int64).toInt = 1 := rfl; have e2 : (2 : Int32).toInt = 2 := rfl; have E2 : (2 : Int64).toInt = 2 := rfl; have e3 : (3 : Int32).toInt = 3 := rfl; have E3 : (3 : Int64).toInt = 3 := rfl; have e4 : (4 : Int32).toInt = 4 := rfl; have E4 : (4 : Int64).toInt = 4 := rfl; have e5 : (5 : Int32).toInt = 5 := rfl; have E5 : (5 : Int64).toInt = 5 := rfl; have e6 : (6 : Int32).toInt = 6 := rfl; have E6 : (6 : Int64).toInt = 6 := rfl; have e7 : (7 : Int32).toInt = 7 := rfl; have E7 : (7 : Int64).toInt = 7 := rfl; have e8 : (8 : Int32).toInt = 8 := rfl; have E8 : (8 : Int64).toInt = 8 := rfl; have e20 : (20 : Int32).toInt = 20 := rfl; have E20 : (20 : Int64).toInt = 20 := rfl; have e39 : (39 : Int32).toInt = 39 := rfl; have E39 : (39 : Int64).toInt = 39 := rfl; have e40 : (40 : Int32).toInt = 40 := rfl; have E40 : (40 : Int64).toInt = 40 := rfl; have e99 : (99 : Int32).toInt = 99 := rfl; have E99 : (99 : Int64).toInt = 99 := rfl; have em99 : ((-99) : Int32).toInt = (-99) := rfl; have Em99 : ((-99) : Int64).toInt = (-99) := rfl; have e399 : (399 : Int32).toInt = 399 := rfl; have E399 : (399 : Int64).toInt = 399 := rfl; have e400 : (400 : Int32).toInt = 400 := rfl; have E400 : (400 : Int64).toInt = 400 := rfl; have e9999 : (9999 : Int32).toInt = 9999 := rfl; have E9999 : (9999 : Int64).toInt = 9999 := rfl; have em9999 : ((-9999) : Int32).toInt = (-9999) := rfl; have Em9999 : ((-9999) : Int64).toInt = (-9999) := rfl; have em10000 : ((-10000) : Int32).toInt = (-10000) := rfl; have Em10000 : ((-10000) : Int64).toInt = (-10000) := rfl; have em1 : ((-1) : Int32).toInt = (-1) := rfl; have Em1 : ((-1) : Int64).toInt = (-1) := rfl; have e10 : (10 : Int32).toInt = 10 := rfl; have E10 : (10 : Int64).toInt = 10 := rfl; have e17 : (17 : Int32).toInt = 17 := rfl; have E17 : (17 : Int64).toInt = 17 := rfl; (try simp only [mIn_0, lgc_lt, lgc_gt, lgc_eq, lgc_le, lgc_ge] at c_2 c_7); (try simp only [fl_lt, fl_le, fl_eq, fL_lt, fL_le, fL_w] at c_2 c_7); first | (rw [spWays, if_pos (by omega)]; first | done | rfl) | (rw [spWays, if_neg (by omega)]; first | done | rfl)), fr_rf⟩)

set_option maxHeartbeats 4000000 in
set_option maxRecDepth 100000 in
theorem k_X10_weigh {l : Launch} {D : va_G} {cy : Nat → ClassId} {b : Nat} {f : gMem} {w we sp pa ba td wf : Nat} {x1 x2 ah go : Int32} {gwe : Nat → Int32} (hw : f w = some (.inr (10, [.int 1, .ref we, .ref sp, .ref pa, .ref ba, .ref td, .ref wf, .int ah, .int go]))) (hwe : f we = some (.inl (cy 0, 3, .inl (gwe))))  : gC l D cy b yX10_weigh cX10_weigh 3 (some .boolean) 0 0 0 [.ref w, .int x1, .int x2] f (pI fun r f2 => r = spWeight x1 x2 ∧ fr [we] f f2) := by
  refine gC_of (by decide) (Nat.le_of_ble_eq_true rfl) ?_
  show gG l _ _ _ D cy b cX10_weigh 3 _ RX10 "weigh" 0 0 f 0 [(0, .ref w), (1, .int x1), (2, .int x2)] []
  refine gz_iload_n dX10_weigh_0 rfl rfl ?_
  refine gz_if_lt (tgt := 27) dX10_weigh_1 (by decide) (fun c_1 => ?_) (fun c_1 => ?_)
  ·
    refine gz_iconst (v := 0) dX10_weigh_27 (by decide) ?_
    exact gz_zret rfl (by decide) dX10_weigh_28 (Nat.le_of_ble_eq_true rfl) (Nat.le_of_ble_eq_true rfl) (⟨_, rfl, (by show _ = _; have e0 : (0 : Int32).toInt = 0 := rfl; have E0 : (0 : Int64).toInt = 0 := rfl; have e1 : (1 : Int32).toInt = 1 := rfl; have E1 : (1 : Int64).toInt = 1 := rfl; have e2 : (2 : Int32).toInt = 2 := rfl; have E2 : (2 : Int64).toInt = 2 := rfl; have e3 : (3 : Int32).toInt = 3 := rfl; have E3 : (3 : Int64).toInt = 3 := rfl; have e4 : (4 : Int32).toInt = 4 := rfl; have E4 : (4 : Int64).toInt = 4 := rfl; have e5 : (5 : Int32).toInt = 5 := rfl; have E5 : (5 : Int64).toInt = 5 := rfl; have e6 : (6 : Int32).toInt = 6 := rfl; have E6 : (6 : Int64).toInt = 6 := rfl; have e7 : (7 : Int32).toInt = 7 := rfl; have E7 : (7 : Int64).toInt = 7 := rfl; have e8 : (8 : Int32).toInt = 8 := rfl; have E8 : (8 : Int64).toInt = 8 := rfl; have e20 : (20 : Int32).toInt = 20 := rfl; have E20 : (20 : Int64).toInt = 20 := rfl; have e39 : (39 : Int32).toInt = 39 := rfl; have E39 : (39 : Int64).toInt = 39 := rfl; have e40 : (40 : Int32).toInt = 40 := rfl; have E40 : (40 : Int64).toInt = 40 := rfl; have e99 : (99 : Int32).toInt = 99 := rfl; have E99 : (99 : Int64).toInt = 99 := rfl; have em99 : ((-99) : Int32).toInt = (-99) := rfl; have Em99 : ((-99) : Int64).toInt = (-99) := rfl; have e399 : (399 : Int32).toInt = 399 := rfl; have E399 : (399 : Int64).toInt = 399 := rfl; have e400 : (400 : Int32).toInt = 400 := rfl; have E400 : (400 : Int64).toInt = 400 := rfl; have e9999 : (9999 : Int32).toInt = 9999 := rfl; have E9999 : (9999 : Int64).toInt = 9999 := rfl; have em9999 : ((-9999) : Int32).toInt = (-9999) := rfl; have Em9999 : ((-9999) : Int64).toInt = (-9999) := rfl; have em10000 : ((-10000) : Int32).toInt = (-10000) := rfl; have Em10000 : ((-10000) : Int64).toInt = (-10000) := rfl; have em1 : ((-1) : Int32).toInt = (-1) := rfl; have Em1 : ((-1) : Int64).toInt = (-1) := rfl; have e10 : (10 : Int32).toInt = 10 := rfl; have E10 : (10 : Int64).toInt = 10 := rfl; have e17 : (17 : Int32).toInt = 17 := rfl; have E17 : (17 : Int64).toInt = 17 := rfl; (try simp only [mIn_0, lgc_lt, lgc_gt, lgc_eq, lgc_le, lgc_ge] at c_1); (try simp only [fl_lt, fl_le, fl_eq, fL_lt, fL_le, fL_w] at c_1); first | (rw [spWeight, if_pos (by omega)]; first | done | rfl) | (rw [spWeight, if_neg (by omega)]; first | done | rfl)), fr_rf⟩)
  ·
    refine gz_iload_n dX10_weigh_4 rfl rfl ?_
    refine gz_aload_n dX10_weigh_5 rfl rfl ?_
    refine sgX10_9 hw rfl dX10_weigh_6 ?_
    refine gz_icmp_ge (tgt := 27) dX10_weigh_9 (by decide) (fun c_9 => ?_) (fun c_9 => ?_)
    ·
      refine gz_iconst (v := 0) dX10_weigh_27 (by decide) ?_
      exact gz_zret rfl (by decide) dX10_weigh_28 (Nat.le_of_ble_eq_true rfl) (Nat.le_of_ble_eq_true rfl) (⟨_, rfl, (by show _ = _; have e0 : (0 : Int32).toInt = 0 := rfl; have E0 : (0 : Int64).toInt = 0 := rfl; have e1 : (1 : Int32).toInt = 1 := rfl; have E1 : (1 : Int64).toInt = 1 := rfl; have e2 : (2 : Int32).toInt = 2 := rfl; have E2 : (2 : Int64).toInt = 2 := rfl; have e3 : (3 : Int32).toInt = 3 := rfl; have E3 : (3 : Int64).toInt = 3 := rfl; have e4 : (4 : Int32).toInt = 4 := rfl; have E4 : (4 : Int64).toInt = 4 := rfl; have e5 : (5 : Int32).toInt = 5 := rfl; have E5 : (5 : Int64).toInt = 5 := rfl; have e6 : (6 : Int32).toInt = 6 := rfl; have E6 : (6 : Int64).toInt = 6 := rfl; have e7 : (7 : Int32).toInt = 7 := rfl; have E7 : (7 : Int64).toInt = 7 := rfl; have e8 : (8 : Int32).toInt = 8 := rfl; have E8 : (8 : Int64).toInt = 8 := rfl; have e20 : (20 : Int32).toInt = 20 := rfl; have E20 : (20 : Int64).toInt = 20 := rfl; have e39 : (39 : Int32).toInt = 39 := rfl; have E39 : (39 : Int64).toInt = 39 := rfl; have e40 : (40 : Int32).toInt = 40 := rfl; have E40 : (40 : Int64).toInt = 40 := rfl; have e99 : (99 : Int32).toInt = 99 := rfl; have E99 : (99 : Int64).toInt = 99 := rfl; have em99 : ((-99) : Int32).toInt = (-99) := rfl; have Em99 : ((-99) : Int64).toInt = (-99) := rfl; have e399 : (399 : Int32).toInt = 399 := rfl; have E399 : (399 : Int64).toInt = 399 := rfl; have e400 : (400 : Int32).toInt = 400 := rfl; have E400 : (400 : Int64).toInt = 400 := rfl; have e9999 : (9999 : Int32).toInt = 9999 := rfl; have E9999 : (9999 : Int64).toInt = 9999 := rfl; have em9999 : ((-9999) : Int32).toInt = (-9999) := rfl; have Em9999 : ((-9999) : Int64).toInt = (-9999) := rfl; have em10000 : ((-10000) : Int32).toInt = (-10000) := rfl; have Em10000 : ((-10000) : Int64).toInt = (-10000) := rfl; have em1 : ((-1) : Int32).toInt = (-1) := rfl; have Em1 : ((-1) : Int64).toInt = (-1) := rfl; have e10 : (10 : Int32).toInt = 10 := rfl; have E10 : (10 : Int64).toInt = 10 := rfl; have e17 : (17 : Int32).toInt = 17 := rfl; have E17 : (17 : Int64).toInt = 17 := rfl; (try simp only [mIn_0, lgc_lt, lgc_gt, lgc_eq, lgc_le, lgc_ge] at c_1 c_9); (try simp only [fl_lt, fl_le, fl_eq, fL_lt, fL_le, fL_w] at c_1 c_9); first | (rw [spWeight, if_pos (by omega)]; first | done | rfl) | (rw [spWeight, if_neg (by omega)]; first | done | rfl)), fr_rf⟩)
    ·
      refine gz_iload_n dX10_weigh_12 rfl rfl ?_
      refine gz_iconst (v := 3) dX10_weigh_13 (by decide) ?_
      refine gz_icmp_ge (tgt := 27) dX10_weigh_14 (by decide) (fun c_14 => ?_) (fun c_14 => ?_)
      ·
        refine gz_iconst (v := 0) dX10_weigh_27 (by decide) ?_
        exact gz_zret rfl (by decide) dX10_weigh_28 (Nat.le_of_ble_eq_true rfl) (Nat.le_of_ble_eq_true rfl) (⟨_, rfl, (by show _ = _; have e0 : (0 : Int32).toInt = 0 := rfl; have E0 : (0 : Int64).toInt = 0 := rfl; have e1 : (1 : Int32).toInt = 1 := rfl; have E1 : (1 : Int64).toInt = 1 := rfl; have e2 : (2 : Int32).toInt = 2 := rfl; have E2 : (2 : Int64).toInt = 2 := rfl; have e3 : (3 : Int32).toInt = 3 := rfl; have E3 : (3 : Int64).toInt = 3 := rfl; have e4 : (4 : Int32).toInt = 4 := rfl; have E4 : (4 : Int64).toInt = 4 := rfl; have e5 : (5 : Int32).toInt = 5 := rfl; have E5 : (5 : Int64).toInt = 5 := rfl; have e6 : (6 : Int32).toInt = 6 := rfl; have E6 : (6 : Int64).toInt = 6 := rfl; have e7 : (7 : Int32).toInt = 7 := rfl; have E7 : (7 : Int64).toInt = 7 := rfl; have e8 : (8 : Int32).toInt = 8 := rfl; have E8 : (8 : Int64).toInt = 8 := rfl; have e20 : (20 : Int32).toInt = 20 := rfl; have E20 : (20 : Int64).toInt = 20 := rfl; have e39 : (39 : Int32).toInt = 39 := rfl; have E39 : (39 : Int64).toInt = 39 := rfl; have e40 : (40 : Int32).toInt = 40 := rfl; have E40 : (40 : Int64).toInt = 40 := rfl; have e99 : (99 : Int32).toInt = 99 := rfl; have E99 : (99 : Int64).toInt = 99 := rfl; have em99 : ((-99) : Int32).toInt = (-99) := rfl; have Em99 : ((-99) : Int64).toInt = (-99) := rfl; have e399 : (399 : Int32).toInt = 399 := rfl; have E399 : (399 : Int64).toInt = 399 := rfl; have e400 : (400 : Int32).toInt = 400 := rfl; have E400 : (400 : Int64).toInt = 400 := rfl; have e9999 : (9999 : Int32).toInt = 9999 := rfl; have E9999 : (9999 : Int64).toInt = 9999 := rfl; have em9999 : ((-9999) : Int32).toInt = (-9999) := rfl; have Em9999 : ((-9999) : Int64).toInt = (-9999) := rfl; have em10000 : ((-10000) : Int32).toInt = (-10000) := rfl; have Em10000 : ((-10000) : Int64).toInt = (-10000) := rfl; have em1 : ((-1) : Int32).toInt = (-1) := rfl; have Em1 : ((-1) : Int64).toInt = (-1) := rfl; have e10 : (10 : Int32).toInt = 10 := rfl; have E10 : (10 : Int64).toInt = 10 := rfl; have e17 : (17 : Int32).toInt = 17 := rfl; have E17 : (17 : Int64).toInt = 17 := rfl; (try simp only [mIn_0, lgc_lt, lgc_gt, lgc_eq, lgc_le, lgc_ge] at c_1 c_9 c_14); (try simp only [fl_lt, fl_le, fl_eq, fL_lt, fL_le, fL_w] at c_1 c_9 c_14); first | (rw [spWeight, if_pos (by omega)]; first | done | rfl) | (rw [spWeight, if_neg (by omega)]; first | done | rfl)), fr_rf⟩)
      ·
        refine gz_iload_n dX10_weigh_17 rfl rfl ?_
        refine gz_iconst (v := 1) dX10_weigh_18 (by decide) ?_
        refine gz_icmp_lt (tgt := 27) dX10_weigh_19 (by decide) (fun c_19 => ?_) (fun c_19 => ?_)
        ·
          refine gz_iconst (v := 0) dX10_weigh_27 (by decide) ?_
          exact gz_zret rfl (by decide) dX10_weigh_28 (Nat.le_of_ble_eq_true rfl) (Nat.le_of_ble_eq_true rfl) (⟨_, rfl, (by show _ = _; have e0 : (0 : Int32).toInt = 0 := rfl; have E0 : (0 : Int64).toInt = 0 := rfl; have e1 : (1 : Int32).toInt = 1 := rfl; have E1 : (1 : Int64).toInt = 1 := rfl; have e2 : (2 : Int32).toInt = 2 := rfl; have E2 : (2 : Int64).toInt = 2 := rfl; have e3 : (3 : Int32).toInt = 3 := rfl; have E3 : (3 : Int64).toInt = 3 := rfl; have e4 : (4 : Int32).toInt = 4 := rfl; have E4 : (4 : Int64).toInt = 4 := rfl; have e5 : (5 : Int32).toInt = 5 := rfl; have E5 : (5 : Int64).toInt = 5 := rfl; have e6 : (6 : Int32).toInt = 6 := rfl; have E6 : (6 : Int64).toInt = 6 := rfl; have e7 : (7 : Int32).toInt = 7 := rfl; have E7 : (7 : Int64).toInt = 7 := rfl; have e8 : (8 : Int32).toInt = 8 := rfl; have E8 : (8 : Int64).toInt = 8 := rfl; have e20 : (20 : Int32).toInt = 20 := rfl; have E20 : (20 : Int64).toInt = 20 := rfl; have e39 : (39 : Int32).toInt = 39 := rfl; have E39 : (39 : Int64).toInt = 39 := rfl; have e40 : (40 : Int32).toInt = 40 := rfl; have E40 : (40 : Int64).toInt = 40 := rfl; have e99 : (99 : Int32).toInt = 99 := rfl; have E99 : (99 : Int64).toInt = 99 := rfl; have em99 : ((-99) : Int32).toInt = (-99) := rfl; have Em99 : ((-99) : Int64).toInt = (-99) := rfl; have e399 : (399 : Int32).toInt = 399 := rfl; have E399 : (399 : Int64).toInt = 399 := rfl; have e400 : (400 : Int32).toInt = 400 := rfl; have E400 : (400 : Int64).toInt = 400 := rfl; have e9999 : (9999 : Int32).toInt = 9999 := rfl; have E9999 : (9999 : Int64).toInt = 9999 := rfl; have em9999 : ((-9999) : Int32).toInt = (-9999) := rfl; have Em9999 : ((-9999) : Int64).toInt = (-9999) := rfl; have em10000 : ((-10000) : Int32).toInt = (-10000) := rfl; have Em10000 : ((-10000) : Int64).toInt = (-10000) := rfl; have em1 : ((-1) : Int32).toInt = (-1) := rfl; have Em1 : ((-1) : Int64).toInt = (-1) := rfl; have e10 : (10 : Int32).toInt = 10 := rfl; have E10 : (10 : Int64).toInt = 10 := rfl; have e17 : (17 : Int32).toInt = 17 := rfl; have E17 : (17 : Int64).toInt = 17 := rfl; (try simp only [mIn_0, lgc_lt, lgc_gt, lgc_eq, lgc_le, lgc_ge] at c_1 c_9 c_14 c_19); (try simp only [fl_lt, fl_le, fl_eq, fL_lt, fL_le, fL_w] at c_1 c_9 c_14 c_19); first | (rw [spWeight, if_pos (by omega)]; first | done | rfl) | (rw [spWeight, if_neg (by omega)]; first | done | rfl)), fr_rf⟩)
        ·
          refine gz_iload_n dX10_weigh_22 rfl rfl ?_
          refine gz_iconst (v := 4) dX10_weigh_23 (by decide) ?_
          refine gz_icmp_le (tgt := 29) dX10_weigh_24 (by decide) (fun c_24 => ?_) (fun c_24 => ?_)
          ·
            refine gz_aload_n dX10_weigh_29 rfl rfl ?_
            refine sgX10_15 hw rfl dX10_weigh_30 ?_
            refine gz_iload_n dX10_weigh_33 rfl rfl ?_
            refine gz_iload_n dX10_weigh_34 rfl rfl ?_
            refine gz_iast hwe (vin c_1 c_14 rfl) dX10_weigh_35 ?_
            obtain ⟨f1, hf1⟩ : ∃ gg : gMem, gg = va_up f we (some (.inl (cy 0, 3, .inl (upd gwe (Int32.toNatClampNeg x1) x2)))) := ⟨_, rfl⟩
            refine gz_eq (f2 := f1) hf1.symm rfl rfl rfl ?_
            have hw_1 : f1 w = some (.inr (10, [.int 1, .ref we, .ref sp, .ref pa, .ref ba, .ref td, .ref wf, .int ah, .int go])) := by rw [hf1, va_up_ne _ _ (cne hw hwe (by simp))]; exact hw
            have hwe_1 : f1 we = some (.inl (cy 0, 3, .inl (upd gwe (Int32.toNatClampNeg x1) x2))) := by rw [hf1]; exact va_up_self _ _ _
            refine gz_iconst (v := 1) dX10_weigh_36 (by decide) ?_
            exact gz_zret rfl (by decide) dX10_weigh_37 (Nat.le_of_ble_eq_true rfl) (Nat.le_of_ble_eq_true rfl) (⟨_, rfl, (by show _ = _; have e0 : (0 : Int32).toInt = 0 := rfl; have E0 : (0 : Int64).toInt = 0 := rfl; have e1 : (1 : Int32).toInt = 1 := rfl; have E1 : (1 : Int64).toInt = 1 := rfl; have e2 : (2 : Int32).toInt = 2 := rfl; have E2 : (2 : Int64).toInt = 2 := rfl; have e3 : (3 : Int32).toInt = 3 := rfl; have E3 : (3 : Int64).toInt = 3 := rfl; have e4 : (4 : Int32).toInt = 4 := rfl; have E4 : (4 : Int64).toInt = 4 := rfl; have e5 : (5 : Int32).toInt = 5 := rfl; have E5 : (5 : Int64).toInt = 5 := rfl; have e6 : (6 : Int32).toInt = 6 := rfl; have E6 : (6 : Int64).toInt = 6 := rfl; have e7 : (7 : Int32).toInt = 7 := rfl; have E7 : (7 : Int64).toInt = 7 := rfl; have e8 : (8 : Int32).toInt = 8 := rfl; have E8 : (8 : Int64).toInt = 8 := rfl; have e20 : (20 : Int32).toInt = 20 := rfl; have E20 : (20 : Int64).toInt = 20 := rfl; have e39 : (39 : Int32).toInt = 39 := rfl; have E39 : (39 : Int64).toInt = 39 := rfl; have e40 : (40 : Int32).toInt = 40 := rfl; have E40 : (40 : Int64).toInt = 40 := rfl; have e99 : (99 : Int32).toInt = 99 := rfl; have E99 : (99 : Int64).toInt = 99 := rfl; have em99 : ((-99) : Int32).toInt = (-99) := rfl; have Em99 : ((-99) : Int64).toInt = (-99) := rfl; have e399 : (399 : Int32).toInt = 399 := rfl; have E399 : (399 : Int64).toInt = 399 := rfl; have e400 : (400 : Int32).toInt = 400 := rfl; have E400 : (400 : Int64).toInt = 400 := rfl; have e9999 : (9999 : Int32).toInt = 9999 := rfl; have E9999 : (9999 : Int64).toInt = 9999 := rfl; have em9999 : ((-9999) : Int32).toInt = (-9999) := rfl; have Em9999 : ((-9999) : Int64).toInt = (-9999) := rfl; have em10000 : ((-10000) : Int32).toInt = (-10000) := rfl; have Em10000 : ((-10000) : Int64).toInt = (-10000) := rfl; have em1 : ((-1) : Int32).toInt = (-1) := rfl; have Em1 : ((-1) : Int64).toInt = (-1) := rfl; have e10 : (10 : Int32).toInt = 10 := rfl; have E10 : (10 : Int64).toInt = 10 := rfl; have e17 : (17 : Int32).toInt = 17 := rfl; have E17 : (17 : Int64).toInt = 17 := rfl; (try simp only [mIn_0, lgc_lt, lgc_gt, lgc_eq, lgc_le, lgc_ge] at c_1 c_9 c_14 c_19 c_24); (try simp only [fl_lt, fl_le, fl_eq, fL_lt, fL_le, fL_w] at c_1 c_9 c_14 c_19 c_24); first | (rw [spWeight, if_pos (by omega)]; first | done | rfl) | (rw [spWeight, if_neg (by omega)]; first | done | rfl)), by rw [hf1]; exact fr_up (fr_rf) (by simp)⟩)
          ·
            refine gz_iconst (v := 0) dX10_weigh_27 (by decide) ?_
            exact gz_zret rfl (by decide) dX10_weigh_28 (Nat.le_of_ble_eq_true rfl) (Nat.le_of_ble_eq_true rfl) (⟨_, rfl, (by show _ = _; have e0 : (0 : Int32).toInt = 0 := rfl; have E0 : (0 : Int64).toInt = 0 := rfl; have e1 : (1 : Int32).toInt = 1 := rfl; have E1 : (1 : Int64).toInt = 1 := rfl; have e2 : (2 : Int32).toInt = 2 := rfl; have E2 : (2 : Int64).toInt = 2 := rfl; have e3 : (3 : Int32).toInt = 3 := rfl; have E3 : (3 : Int64).toInt = 3 := rfl; have e4 : (4 : Int32).toInt = 4 := rfl; have E4 : (4 : Int64).toInt = 4 := rfl; have e5 : (5 : Int32).toInt = 5 := rfl; have E5 : (5 : Int64).toInt = 5 := rfl; have e6 : (6 : Int32).toInt = 6 := rfl; have E6 : (6 : Int64).toInt = 6 := rfl; have e7 : (7 : Int32).toInt = 7 := rfl; have E7 : (7 : Int64).toInt = 7 := rfl; have e8 : (8 : Int32).toInt = 8 := rfl; have E8 : (8 : Int64).toInt = 8 := rfl; have e20 : (20 : Int32).toInt = 20 := rfl; have E20 : (20 : Int64).toInt = 20 := rfl; have e39 : (39 : Int32).toInt = 39 := rfl; have E39 : (39 : Int64).toInt = 39 := rfl; have e40 : (40 : Int32).toInt = 40 := rfl; have E40 : (40 : Int64).toInt = 40 := rfl; have e99 : (99 : Int32).toInt = 99 := rfl; have E99 : (99 : Int64).toInt = 99 := rfl; have em99 : ((-99) : Int32).toInt = (-99) := rfl; have Em99 : ((-99) : Int64).toInt = (-99) := rfl; have e399 : (399 : Int32).toInt = 399 := rfl; have E399 : (399 : Int64).toInt = 399 := rfl; have e400 : (400 : Int32).toInt = 400 := rfl; have E400 : (400 : Int64).toInt = 400 := rfl; have e9999 : (9999 : Int32).toInt = 9999 := rfl; have E9999 : (9999 : Int64).toInt = 9999 := rfl; have em9999 : ((-9999) : Int32).toInt = (-9999) := rfl; have Em9999 : ((-9999) : Int64).toInt = (-9999) := rfl; have em10000 : ((-10000) : Int32).toInt = (-10000) := rfl; have Em10000 : ((-10000) : Int64).toInt = (-10000) := rfl; have em1 : ((-1) : Int32).toInt = (-1) := rfl; have Em1 : ((-1) : Int64).toInt = (-1) := rfl; have e10 : (10 : Int32).toInt = 10 := rfl; have E10 : (10 : Int64).toInt = 10 := rfl; have e17 : (17 : Int32).toInt = 17 := rfl; have E17 : (17 : Int64).toInt = 17 := rfl; (try simp only [mIn_0, lgc_lt, lgc_gt, lgc_eq, lgc_le, lgc_ge] at c_1 c_9 c_14 c_19 c_24); (try simp only [fl_lt, fl_le, fl_eq, fL_lt, fL_le, fL_w] at c_1 c_9 c_14 c_19 c_24); first | (rw [spWeight, if_pos (by omega)]; first | done | rfl) | (rw [spWeight, if_neg (by omega)]; first | done | rfl)), fr_rf⟩)

set_option maxHeartbeats 4000000 in
set_option maxRecDepth 100000 in
theorem k_X11_weight {l : Launch} {D : va_G} {cy : Nat → ClassId} {b : Nat} {f : gMem} {x ch tp ou fo dr ot rd te la le co wo : Nat} {x1 x2 : Int32} {we sp pa ba td wf : Nat} {ah go : Int32} {gwe : Nat → Int32} (hx : f x = some (.inr (11, [.ref ch, .ref tp, .ref ou, .ref fo, .ref dr, .ref ot, .ref rd, .ref te, .ref la, .ref le, .ref co, .ref wo, .int 0]))) (hwo : f wo = some (.inr (10, [.int 1, .ref we, .ref sp, .ref pa, .ref ba, .ref td, .ref wf, .int ah, .int go]))) (hwe : f we = some (.inl (cy 0, 3, .inl (gwe))))  : gC l D cy b yX11_weight cX11_weight 3 (some .boolean) 1 0 0 [.ref x, .int x1, .int x2] f (pI fun r f2 => r = spWeight x1 x2 ∧ fr [we] f f2) := by
  refine gC_of (by decide) (Nat.le_of_ble_eq_true rfl) ?_
  show gG l _ _ _ D cy b cX11_weight 3 _ RX11 "weight" 0 0 f 0 [(0, .ref x), (1, .int x1), (2, .int x2)] []
  refine gz_aload_n dX11_weight_0 rfl rfl ?_
  refine sgX11_94 hx rfl dX11_weight_1 ?_
  refine gz_iload_n dX11_weight_4 rfl rfl ?_
  refine gz_iload_n dX11_weight_5 rfl rfl ?_
  refine scX11_199 (k_X10_weigh (x1 := x1) (x2 := x2) hwo hwe) hwo ⟨(Nat.le_of_ble_eq_true rfl), (Nat.le_of_ble_eq_true rfl)⟩ ⟨(Nat.le_of_ble_eq_true rfl), (Nat.le_of_ble_eq_true rfl)⟩ rfl rfl (Nat.le_of_ble_eq_true rfl) dX11_weight_6 ?_
  intro v9 f9 z9; rw [z9.1]
  exact gz_zret rfl (by unfold spWeight; split <;> rfl) dX11_weight_9 (Nat.le_of_ble_eq_true rfl) (Nat.le_of_ble_eq_true rfl) (⟨_, rfl, rfl, z9.2⟩)

theorem idx6b {t x : Int32} (h : t.toInt = 0) (hx : 0 ≤ x.toInt ∧ x.toInt ≤ 5) : (t * 6 + x).toInt = x.toInt := by
  rw [Int32.mul_comm]
  exact idx6 h hx

set_option maxHeartbeats 4000000 in
set_option maxRecDepth 100000 in
theorem k_X10_shift {l : Launch} {D : va_G} {cy : Nat → ClassId} {b : Nat} {f : gMem} {w we sp pa ba td wf : Nat} {x1 x2 x3 ah go : Int32} {gsp : Nat → Int32} (hw : f w = some (.inr (10, [.int 1, .ref we, .ref sp, .ref pa, .ref ba, .ref td, .ref wf, .int ah, .int go]))) (hsp : f sp = some (.inl (cy 0, 18, .inl (gsp))))  : gC l D cy b yX10_shift cX10_shift 4 (some .boolean) 0 0 0 [.ref w, .int x1, .int x2, .int x3] f (pI fun r f2 => r = spAdds x1 x2 x3 ∧ fr [sp] f f2) := by
  refine gC_of (by decide) (Nat.le_of_ble_eq_true rfl) ?_
  show gG l _ _ _ D cy b cX10_shift 4 _ RX10 "shift" 0 0 f 0 [(0, .ref w), (1, .int x1), (2, .int x2), (3, .int x3)] []
  refine gz_iload_n dX10_shift_0 rfl rfl ?_
  refine gz_if_lt (tgt := 27) dX10_shift_1 (by decide) (fun c_1 => ?_) (fun c_1 => ?_)
  ·
    refine gz_iconst (v := 0) dX10_shift_27 (by decide) ?_
    exact gz_zret rfl (by decide) dX10_shift_28 (Nat.le_of_ble_eq_true rfl) (Nat.le_of_ble_eq_true rfl) (⟨_, rfl, (by show _ = _; have e0 : (0 : Int32).toInt = 0 := rfl; have E0 : (0 : Int64).toInt = 0 := rfl; have e1 : (1 : Int32).toInt = 1 := rfl; have E1 : (1 : Int64).toInt = 1 := rfl; have e2 : (2 : Int32).toInt = 2 := rfl; have E2 : (2 : Int64).toInt = 2 := rfl; have e3 : (3 : Int32).toInt = 3 := rfl; have E3 : (3 : Int64).toInt = 3 := rfl; have e4 : (4 : Int32).toInt = 4 := rfl; have E4 : (4 : Int64).toInt = 4 := rfl; have e5 : (5 : Int32).toInt = 5 := rfl; have E5 : (5 : Int64).toInt = 5 := rfl; have e6 : (6 : Int32).toInt = 6 := rfl; have E6 : (6 : Int64).toInt = 6 := rfl; have e7 : (7 : Int32).toInt = 7 := rfl; have E7 : (7 : Int64).toInt = 7 := rfl; have e8 : (8 : Int32).toInt = 8 := rfl; have E8 : (8 : Int64).toInt = 8 := rfl; have e20 : (20 : Int32).toInt = 20 := rfl; have E20 : (20 : Int64).toInt = 20 := rfl; have e39 : (39 : Int32).toInt = 39 := rfl; have E39 : (39 : Int64).toInt = 39 := rfl; have e40 : (40 : Int32).toInt = 40 := rfl; have E40 : (40 : Int64).toInt = 40 := rfl; have e99 : (99 : Int32).toInt = 99 := rfl; have E99 : (99 : Int64).toInt = 99 := rfl; have em99 : ((-99) : Int32).toInt = (-99) := rfl; have Em99 : ((-99) : Int64).toInt = (-99) := rfl; have e399 : (399 : Int32).toInt = 399 := rfl; have E399 : (399 : Int64).toInt = 399 := rfl; have e400 : (400 : Int32).toInt = 400 := rfl; have E400 : (400 : Int64).toInt = 400 := rfl; have e9999 : (9999 : Int32).toInt = 9999 := rfl; have E9999 : (9999 : Int64).toInt = 9999 := rfl; have em9999 : ((-9999) : Int32).toInt = (-9999) := rfl; have Em9999 : ((-9999) : Int64).toInt = (-9999) := rfl; have em10000 : ((-10000) : Int32).toInt = (-10000) := rfl; have Em10000 : ((-10000) : Int64).toInt = (-10000) := rfl; have em1 : ((-1) : Int32).toInt = (-1) := rfl; have Em1 : ((-1) : Int64).toInt = (-1) := rfl; have e10 : (10 : Int32).toInt = 10 := rfl; have E10 : (10 : Int64).toInt = 10 := rfl; have e17 : (17 : Int32).toInt = 17 := rfl; have E17 : (17 : Int64).toInt = 17 := rfl; (try simp only [mIn_0, lgc_lt, lgc_gt, lgc_eq, lgc_le, lgc_ge] at c_1); (try simp only [fl_lt, fl_le, fl_eq, fL_lt, fL_le, fL_w] at c_1); first | (rw [spAdds, if_pos (by omega)]; first | done | rfl) | (rw [spAdds, if_neg (by omega)]; first | done | rfl)), fr_rf⟩)
  ·
    refine gz_iload_n dX10_shift_4 rfl rfl ?_
    refine gz_aload_n dX10_shift_5 rfl rfl ?_
    refine sgX10_9 hw rfl dX10_shift_6 ?_
    refine gz_icmp_ge (tgt := 27) dX10_shift_9 (by decide) (fun c_9 => ?_) (fun c_9 => ?_)
    ·
      refine gz_iconst (v := 0) dX10_shift_27 (by decide) ?_
      exact gz_zret rfl (by decide) dX10_shift_28 (Nat.le_of_ble_eq_true rfl) (Nat.le_of_ble_eq_true rfl) (⟨_, rfl, (by show _ = _; have e0 : (0 : Int32).toInt = 0 := rfl; have E0 : (0 : Int64).toInt = 0 := rfl; have e1 : (1 : Int32).toInt = 1 := rfl; have E1 : (1 : Int64).toInt = 1 := rfl; have e2 : (2 : Int32).toInt = 2 := rfl; have E2 : (2 : Int64).toInt = 2 := rfl; have e3 : (3 : Int32).toInt = 3 := rfl; have E3 : (3 : Int64).toInt = 3 := rfl; have e4 : (4 : Int32).toInt = 4 := rfl; have E4 : (4 : Int64).toInt = 4 := rfl; have e5 : (5 : Int32).toInt = 5 := rfl; have E5 : (5 : Int64).toInt = 5 := rfl; have e6 : (6 : Int32).toInt = 6 := rfl; have E6 : (6 : Int64).toInt = 6 := rfl; have e7 : (7 : Int32).toInt = 7 := rfl; have E7 : (7 : Int64).toInt = 7 := rfl; have e8 : (8 : Int32).toInt = 8 := rfl; have E8 : (8 : Int64).toInt = 8 := rfl; have e20 : (20 : Int32).toInt = 20 := rfl; have E20 : (20 : Int64).toInt = 20 := rfl; have e39 : (39 : Int32).toInt = 39 := rfl; have E39 : (39 : Int64).toInt = 39 := rfl; have e40 : (40 : Int32).toInt = 40 := rfl; have E40 : (40 : Int64).toInt = 40 := rfl; have e99 : (99 : Int32).toInt = 99 := rfl; have E99 : (99 : Int64).toInt = 99 := rfl; have em99 : ((-99) : Int32).toInt = (-99) := rfl; have Em99 : ((-99) : Int64).toInt = (-99) := rfl; have e399 : (399 : Int32).toInt = 399 := rfl; have E399 : (399 : Int64).toInt = 399 := rfl; have e400 : (400 : Int32).toInt = 400 := rfl; have E400 : (400 : Int64).toInt = 400 := rfl; have e9999 : (9999 : Int32).toInt = 9999 := rfl; have E9999 : (9999 : Int64).toInt = 9999 := rfl; have em9999 : ((-9999) : Int32).toInt = (-9999) := rfl; have Em9999 : ((-9999) : Int64).toInt = (-9999) := rfl; have em10000 : ((-10000) : Int32).toInt = (-10000) := rfl; have Em10000 : ((-10000) : Int64).toInt = (-10000) := rfl; have em1 : ((-1) : Int32).toInt = (-1) := rfl; have Em1 : ((-1) : Int64).toInt = (-1) := rfl; have e10 : (10 : Int32).toInt = 10 := rfl; have E10 : (10 : Int64).toInt = 10 := rfl; have e17 : (17 : Int32).toInt = 17 := rfl; have E17 : (17 : Int64).toInt = 17 := rfl; (try simp only [mIn_0, lgc_lt, lgc_gt, lgc_eq, lgc_le, lgc_ge] at c_1 c_9); (try simp only [fl_lt, fl_le, fl_eq, fL_lt, fL_le, fL_w] at c_1 c_9); first | (rw [spAdds, if_pos (by omega)]; first | done | rfl) | (rw [spAdds, if_neg (by omega)]; first | done | rfl)), fr_rf⟩)
    ·
      refine gz_iload_n dX10_shift_12 rfl rfl ?_
      refine gz_iconst (v := 3) dX10_shift_13 (by decide) ?_
      refine gz_icmp_ge (tgt := 27) dX10_shift_14 (by decide) (fun c_14 => ?_) (fun c_14 => ?_)
      ·
        refine gz_iconst (v := 0) dX10_shift_27 (by decide) ?_
        exact gz_zret rfl (by decide) dX10_shift_28 (Nat.le_of_ble_eq_true rfl) (Nat.le_of_ble_eq_true rfl) (⟨_, rfl, (by show _ = _; have e0 : (0 : Int32).toInt = 0 := rfl; have E0 : (0 : Int64).toInt = 0 := rfl; have e1 : (1 : Int32).toInt = 1 := rfl; have E1 : (1 : Int64).toInt = 1 := rfl; have e2 : (2 : Int32).toInt = 2 := rfl; have E2 : (2 : Int64).toInt = 2 := rfl; have e3 : (3 : Int32).toInt = 3 := rfl; have E3 : (3 : Int64).toInt = 3 := rfl; have e4 : (4 : Int32).toInt = 4 := rfl; have E4 : (4 : Int64).toInt = 4 := rfl; have e5 : (5 : Int32).toInt = 5 := rfl; have E5 : (5 : Int64).toInt = 5 := rfl; have e6 : (6 : Int32).toInt = 6 := rfl; have E6 : (6 : Int64).toInt = 6 := rfl; have e7 : (7 : Int32).toInt = 7 := rfl; have E7 : (7 : Int64).toInt = 7 := rfl; have e8 : (8 : Int32).toInt = 8 := rfl; have E8 : (8 : Int64).toInt = 8 := rfl; have e20 : (20 : Int32).toInt = 20 := rfl; have E20 : (20 : Int64).toInt = 20 := rfl; have e39 : (39 : Int32).toInt = 39 := rfl; have E39 : (39 : Int64).toInt = 39 := rfl; have e40 : (40 : Int32).toInt = 40 := rfl; have E40 : (40 : Int64).toInt = 40 := rfl; have e99 : (99 : Int32).toInt = 99 := rfl; have E99 : (99 : Int64).toInt = 99 := rfl; have em99 : ((-99) : Int32).toInt = (-99) := rfl; have Em99 : ((-99) : Int64).toInt = (-99) := rfl; have e399 : (399 : Int32).toInt = 399 := rfl; have E399 : (399 : Int64).toInt = 399 := rfl; have e400 : (400 : Int32).toInt = 400 := rfl; have E400 : (400 : Int64).toInt = 400 := rfl; have e9999 : (9999 : Int32).toInt = 9999 := rfl; have E9999 : (9999 : Int64).toInt = 9999 := rfl; have em9999 : ((-9999) : Int32).toInt = (-9999) := rfl; have Em9999 : ((-9999) : Int64).toInt = (-9999) := rfl; have em10000 : ((-10000) : Int32).toInt = (-10000) := rfl; have Em10000 : ((-10000) : Int64).toInt = (-10000) := rfl; have em1 : ((-1) : Int32).toInt = (-1) := rfl; have Em1 : ((-1) : Int64).toInt = (-1) := rfl; have e10 : (10 : Int32).toInt = 10 := rfl; have E10 : (10 : Int64).toInt = 10 := rfl; have e17 : (17 : Int32).toInt = 17 := rfl; have E17 : (17 : Int64).toInt = 17 := rfl; (try simp only [mIn_0, lgc_lt, lgc_gt, lgc_eq, lgc_le, lgc_ge] at c_1 c_9 c_14); (try simp only [fl_lt, fl_le, fl_eq, fL_lt, fL_le, fL_w] at c_1 c_9 c_14); first | (rw [spAdds, if_pos (by omega)]; first | done | rfl) | (rw [spAdds, if_neg (by omega)]; first | done | rfl)), fr_rf⟩)
      ·
        refine gz_iload_n dX10_shift_17 rfl rfl ?_
        refine gz_if_lt (tgt := 27) dX10_shift_18 (by decide) (fun c_18 => ?_) (fun c_18 => ?_)
        ·
          refine gz_iconst (v := 0) dX10_shift_27 (by decide) ?_
          exact gz_zret rfl (by decide) dX10_shift_28 (Nat.le_of_ble_eq_true rfl) (Nat.le_of_ble_eq_true rfl) (⟨_, rfl, (by show _ = _; have e0 : (0 : Int32).toInt = 0 := rfl; have E0 : (0 : Int64).toInt = 0 := rfl; have e1 : (1 : Int32).toInt = 1 := rfl; have E1 : (1 : Int64).toInt = 1 := rfl; have e2 : (2 : Int32).toInt = 2 := rfl; have E2 : (2 : Int64).toInt = 2 := rfl; have e3 : (3 : Int32).toInt = 3 := rfl; have E3 : (3 : Int64).toInt = 3 := rfl; have e4 : (4 : Int32).toInt = 4 := rfl; have E4 : (4 : Int64).toInt = 4 := rfl; have e5 : (5 : Int32).toInt = 5 := rfl; have E5 : (5 : Int64).toInt = 5 := rfl; have e6 : (6 : Int32).toInt = 6 := rfl; have E6 : (6 : Int64).toInt = 6 := rfl; have e7 : (7 : Int32).toInt = 7 := rfl; have E7 : (7 : Int64).toInt = 7 := rfl; have e8 : (8 : Int32).toInt = 8 := rfl; have E8 : (8 : Int64).toInt = 8 := rfl; have e20 : (20 : Int32).toInt = 20 := rfl; have E20 : (20 : Int64).toInt = 20 := rfl; have e39 : (39 : Int32).toInt = 39 := rfl; have E39 : (39 : Int64).toInt = 39 := rfl; have e40 : (40 : Int32).toInt = 40 := rfl; have E40 : (40 : Int64).toInt = 40 := rfl; have e99 : (99 : Int32).toInt = 99 := rfl; have E99 : (99 : Int64).toInt = 99 := rfl; have em99 : ((-99) : Int32).toInt = (-99) := rfl; have Em99 : ((-99) : Int64).toInt = (-99) := rfl; have e399 : (399 : Int32).toInt = 399 := rfl; have E399 : (399 : Int64).toInt = 399 := rfl; have e400 : (400 : Int32).toInt = 400 := rfl; have E400 : (400 : Int64).toInt = 400 := rfl; have e9999 : (9999 : Int32).toInt = 9999 := rfl; have E9999 : (9999 : Int64).toInt = 9999 := rfl; have em9999 : ((-9999) : Int32).toInt = (-9999) := rfl; have Em9999 : ((-9999) : Int64).toInt = (-9999) := rfl; have em10000 : ((-10000) : Int32).toInt = (-10000) := rfl; have Em10000 : ((-10000) : Int64).toInt = (-10000) := rfl; have em1 : ((-1) : Int32).toInt = (-1) := rfl; have Em1 : ((-1) : Int64).toInt = (-1) := rfl; have e10 : (10 : Int32).toInt = 10 := rfl; have E10 : (10 : Int64).toInt = 10 := rfl; have e17 : (17 : Int32).toInt = 17 := rfl; have E17 : (17 : Int64).toInt = 17 := rfl; (try simp only [mIn_0, lgc_lt, lgc_gt, lgc_eq, lgc_le, lgc_ge] at c_1 c_9 c_14 c_18); (try simp only [fl_lt, fl_le, fl_eq, fL_lt, fL_le, fL_w] at c_1 c_9 c_14 c_18); first | (rw [spAdds, if_pos (by omega)]; first | done | rfl) | (rw [spAdds, if_neg (by omega)]; first | done | rfl)), fr_rf⟩)
        ·
          refine gz_iload_n dX10_shift_21 rfl rfl ?_
          refine gz_bipush (v := 6) dX10_shift_22 (by decide) ?_
          refine gz_icmp_lt (tgt := 29) dX10_shift_24 (by decide) (fun c_24 => ?_) (fun c_24 => ?_)
          ·
            refine gz_iload_n dX10_shift_29 rfl rfl ?_
            refine gz_bipush (v := (-99)) dX10_shift_30 (by decide) ?_
            refine gz_icmp_lt (tgt := 41) dX10_shift_32 (by decide) (fun c_32 => ?_) (fun c_32 => ?_)
            ·
              refine gz_iconst (v := 0) dX10_shift_41 (by decide) ?_
              exact gz_zret rfl (by decide) dX10_shift_42 (Nat.le_of_ble_eq_true rfl) (Nat.le_of_ble_eq_true rfl) (⟨_, rfl, (by show _ = _; have e0 : (0 : Int32).toInt = 0 := rfl; have E0 : (0 : Int64).toInt = 0 := rfl; have e1 : (1 : Int32).toInt = 1 := rfl; have E1 : (1 : Int64).toInt = 1 := rfl; have e2 : (2 : Int32).toInt = 2 := rfl; have E2 : (2 : Int64).toInt = 2 := rfl; have e3 : (3 : Int32).toInt = 3 := rfl; have E3 : (3 : Int64).toInt = 3 := rfl; have e4 : (4 : Int32).toInt = 4 := rfl; have E4 : (4 : Int64).toInt = 4 := rfl; have e5 : (5 : Int32).toInt = 5 := rfl; have E5 : (5 : Int64).toInt = 5 := rfl; have e6 : (6 : Int32).toInt = 6 := rfl; have E6 : (6 : Int64).toInt = 6 := rfl; have e7 : (7 : Int32).toInt = 7 := rfl; have E7 : (7 : Int64).toInt = 7 := rfl; have e8 : (8 : Int32).toInt = 8 := rfl; have E8 : (8 : Int64).toInt = 8 := rfl; have e20 : (20 : Int32).toInt = 20 := rfl; have E20 : (20 : Int64).toInt = 20 := rfl; have e39 : (39 : Int32).toInt = 39 := rfl; have E39 : (39 : Int64).toInt = 39 := rfl; have e40 : (40 : Int32).toInt = 40 := rfl; have E40 : (40 : Int64).toInt = 40 := rfl; have e99 : (99 : Int32).toInt = 99 := rfl; have E99 : (99 : Int64).toInt = 99 := rfl; have em99 : ((-99) : Int32).toInt = (-99) := rfl; have Em99 : ((-99) : Int64).toInt = (-99) := rfl; have e399 : (399 : Int32).toInt = 399 := rfl; have E399 : (399 : Int64).toInt = 399 := rfl; have e400 : (400 : Int32).toInt = 400 := rfl; have E400 : (400 : Int64).toInt = 400 := rfl; have e9999 : (9999 : Int32).toInt = 9999 := rfl; have E9999 : (9999 : Int64).toInt = 9999 := rfl; have em9999 : ((-9999) : Int32).toInt = (-9999) := rfl; have Em9999 : ((-9999) : Int64).toInt = (-9999) := rfl; have em10000 : ((-10000) : Int32).toInt = (-10000) := rfl; have Em10000 : ((-10000) : Int64).toInt = (-10000) := rfl; have em1 : ((-1) : Int32).toInt = (-1) := rfl; have Em1 : ((-1) : Int64).toInt = (-1) := rfl; have e10 : (10 : Int32).toInt = 10 := rfl; have E10 : (10 : Int64).toInt = 10 := rfl; have e17 : (17 : Int32).toInt = 17 := rfl; have E17 : (17 : Int64).toInt = 17 := rfl; (try simp only [mIn_0, lgc_lt, lgc_gt, lgc_eq, lgc_le, lgc_ge] at c_1 c_9 c_14 c_18 c_24 c_32); (try simp only [fl_lt, fl_le, fl_eq, fL_lt, fL_le, fL_w] at c_1 c_9 c_14 c_18 c_24 c_32); first | (rw [spAdds, if_pos (by omega)]; first | done | rfl) | (rw [spAdds, if_neg (by omega)]; first | done | rfl)), fr_rf⟩)
            ·
              refine gz_iload_n dX10_shift_35 rfl rfl ?_
              refine gz_bipush (v := 99) dX10_shift_36 (by decide) ?_
              refine gz_icmp_le (tgt := 43) dX10_shift_38 (by decide) (fun c_38 => ?_) (fun c_38 => ?_)
              ·
                refine gz_aload_n dX10_shift_43 rfl rfl ?_
                refine sgX10_19 hw rfl dX10_shift_44 ?_
                refine gz_iload_n dX10_shift_47 rfl rfl ?_
                refine gz_bipush (v := 6) dX10_shift_48 (by decide) ?_
                refine gz_imul dX10_shift_50 ?_
                refine gz_iload_n dX10_shift_51 rfl rfl ?_
                refine gz_iadd dX10_shift_52 ?_
                refine gz_iload_n dX10_shift_53 rfl rfl ?_
                refine gz_iast hsp (vin_T (idx6b (t := x1) (x := x2) (by have e0 : (0 : Int32).toInt = 0 := rfl; have E0 : (0 : Int64).toInt = 0 := rfl; have e1 : (1 : Int32).toInt = 1 := rfl; have E1 : (1 : Int64).toInt = 1 := rfl; have e2 : (2 : Int32).toInt = 2 := rfl; have E2 : (2 : Int64).toInt = 2 := rfl; have e3 : (3 : Int32).toInt = 3 := rfl; have E3 : (3 : Int64).toInt = 3 := rfl; have e4 : (4 : Int32).toInt = 4 := rfl; have E4 : (4 : Int64).toInt = 4 := rfl; have e5 : (5 : Int32).toInt = 5 := rfl; have E5 : (5 : Int64).toInt = 5 := rfl; have e6 : (6 : Int32).toInt = 6 := rfl; have E6 : (6 : Int64).toInt = 6 := rfl; have e7 : (7 : Int32).toInt = 7 := rfl; have E7 : (7 : Int64).toInt = 7 := rfl; have e8 : (8 : Int32).toInt = 8 := rfl; have E8 : (8 : Int64).toInt = 8 := rfl; have e20 : (20 : Int32).toInt = 20 := rfl; have E20 : (20 : Int64).toInt = 20 := rfl; have e39 : (39 : Int32).toInt = 39 := rfl; have E39 : (39 : Int64).toInt = 39 := rfl; have e40 : (40 : Int32).toInt = 40 := rfl; have E40 : (40 : Int64).toInt = 40 := rfl; have e99 : (99 : Int32).toInt = 99 := rfl; have E99 : (99 : Int64).toInt = 99 := rfl; have em99 : ((-99) : Int32).toInt = (-99) := rfl; have Em99 : ((-99) : Int64).toInt = (-99) := rfl; have e399 : (399 : Int32).toInt = 399 := rfl; have E399 : (399 : Int64).toInt = 399 := rfl; have e400 : (400 : Int32).toInt = 400 := rfl; have E400 : (400 : Int64).toInt = 400 := rfl; have e9999 : (9999 : Int32).toInt = 9999 := rfl; have E9999 : (9999 : Int64).toInt = 9999 := rfl; have em9999 : ((-9999) : Int32).toInt = (-9999) := rfl; have Em9999 : ((-9999) : Int64).toInt = (-9999) := rfl; have em10000 : ((-10000) : Int32).toInt = (-10000) := rfl; have Em10000 : ((-10000) : Int64).toInt = (-10000) := rfl; have em1 : ((-1) : Int32).toInt = (-1) := rfl; have Em1 : ((-1) : Int64).toInt = (-1) := rfl; have e10 : (10 : Int32).toInt = 10 := rfl; have E10 : (10 : Int64).toInt = 10 := rfl; have e17 : (17 : Int32).toInt = 17 := rfl; have E17 : (17 : Int64).toInt = 17 := rfl; simp only [fl_lt, fl_le] at c_1 c_9 c_14 c_18 c_24; omega) (by have e0 : (0 : Int32).toInt = 0 := rfl; have E0 : (0 : Int64).toInt = 0 := rfl; have e1 : (1 : Int32).toInt = 1 := rfl; have E1 : (1 : Int64).toInt = 1 := rfl; have e2 : (2 : Int32).toInt = 2 := rfl; have E2 : (2 : Int64).toInt = 2 := rfl; have e3 : (3 : Int32).toInt = 3 := rfl; have E3 : (3 : Int64).toInt = 3 := rfl; have e4 : (4 : Int32).toInt = 4 := rfl; have E4 : (4 : Int64).toInt = 4 := rfl; have e5 : (5 : Int32).toInt = 5 := rfl; have E5 : (5 : Int64).toInt = 5 := rfl; have e6 : (6 : Int32).toInt = 6 := rfl; have E6 : (6 : Int64).toInt = 6 := rfl; have e7 : (7 : Int32).toInt = 7 := rfl; have E7 : (7 : Int64).toInt = 7 := rfl; have e8 : (8 : Int32).toInt = 8 := rfl; have E8 : (8 : Int64).toInt = 8 := rfl; have e20 : (20 : Int32).toInt = 20 := rfl; have E20 : (20 : Int64).toInt = 20 := rfl; have e39 : (39 : Int32).toInt = 39 := rfl; have E39 : (39 : Int64).toInt = 39 := rfl; have e40 : (40 : Int32).toInt = 40 := rfl; have E40 : (40 : Int64).toInt = 40 := rfl; have e99 : (99 : Int32).toInt = 99 := rfl; have E99 : (99 : Int64).toInt = 99 := rfl; have em99 : ((-99) : Int32).toInt = (-99) := rfl; have Em99 : ((-99) : Int64).toInt = (-99) := rfl; have e399 : (399 : Int32).toInt = 399 := rfl; have E399 : (399 : Int64).toInt = 399 := rfl; have e400 : (400 : Int32).toInt = 400 := rfl; have E400 : (400 : Int64).toInt = 400 := rfl; have e9999 : (9999 : Int32).toInt = 9999 := rfl; have E9999 : (9999 : Int64).toInt = 9999 := rfl; have em9999 : ((-9999) : Int32).toInt = (-9999) := rfl; have Em9999 : ((-9999) : Int64).toInt = (-9999) := rfl; have em10000 : ((-10000) : Int32).toInt = (-10000) := rfl; have Em10000 : ((-10000) : Int64).toInt = (-10000) := rfl; have em1 : ((-1) : Int32).toInt = (-1) := rfl; have Em1 : ((-1) : Int64).toInt = (-1) := rfl; have e10 : (10 : Int32).toInt = 10 := rfl; have E10 : (10 : Int64).toInt = 10 := rfl; have e17 : (17 : Int32).toInt = 17 := rfl; have E17 : (17 : Int64).toInt = 17 := rfl; simp only [fl_lt, fl_le] at c_1 c_9 c_14 c_18 c_24; omega)) (by have e0 : (0 : Int32).toInt = 0 := rfl; have E0 : (0 : Int64).toInt = 0 := rfl; have e1 : (1 : Int32).toInt = 1 := rfl; have E1 : (1 : Int64).toInt = 1 := rfl; have e2 : (2 : Int32).toInt = 2 := rfl; have E2 : (2 : Int64).toInt = 2 := rfl; have e3 : (3 : Int32).toInt = 3 := rfl; have E3 : (3 : Int64).toInt = 3 := rfl; have e4 : (4 : Int32).toInt = 4 := rfl; have E4 : (4 : Int64).toInt = 4 := rfl; have e5 : (5 : Int32).toInt = 5 := rfl; have E5 : (5 : Int64).toInt = 5 := rfl; have e6 : (6 : Int32).toInt = 6 := rfl; have E6 : (6 : Int64).toInt = 6 := rfl; have e7 : (7 : Int32).toInt = 7 := rfl; have E7 : (7 : Int64).toInt = 7 := rfl; have e8 : (8 : Int32).toInt = 8 := rfl; have E8 : (8 : Int64).toInt = 8 := rfl; have e20 : (20 : Int32).toInt = 20 := rfl; have E20 : (20 : Int64).toInt = 20 := rfl; have e39 : (39 : Int32).toInt = 39 := rfl; have E39 : (39 : Int64).toInt = 39 := rfl; have e40 : (40 : Int32).toInt = 40 := rfl; have E40 : (40 : Int64).toInt = 40 := rfl; have e99 : (99 : Int32).toInt = 99 := rfl; have E99 : (99 : Int64).toInt = 99 := rfl; have em99 : ((-99) : Int32).toInt = (-99) := rfl; have Em99 : ((-99) : Int64).toInt = (-99) := rfl; have e399 : (399 : Int32).toInt = 399 := rfl; have E399 : (399 : Int64).toInt = 399 := rfl; have e400 : (400 : Int32).toInt = 400 := rfl; have E400 : (400 : Int64).toInt = 400 := rfl; have e9999 : (9999 : Int32).toInt = 9999 := rfl; have E9999 : (9999 : Int64).toInt = 9999 := rfl; have em9999 : ((-9999) : Int32).toInt = (-9999) := rfl; have Em9999 : ((-9999) : Int64).toInt = (-9999) := rfl; have em10000 : ((-10000) : Int32).toInt = (-10000) := rfl; have Em10000 : ((-10000) : Int64).toInt = (-10000) := rfl; have em1 : ((-1) : Int32).toInt = (-1) := rfl; have Em1 : ((-1) : Int64).toInt = (-1) := rfl; have e10 : (10 : Int32).toInt = 10 := rfl; have E10 : (10 : Int64).toInt = 10 := rfl; have e17 : (17 : Int32).toInt = 17 := rfl; have E17 : (17 : Int64).toInt = 17 := rfl; simp only [fl_lt, fl_le] at c_1 c_9 c_14 c_18 c_24; omega) (by have e0 : (0 : Int32).toInt = 0 := rfl; have E0 : (0 : Int64).toInt = 0 := rfl; have e1 : (1 : Int32).toInt = 1 := rfl; have E1 : (1 : Int64).toInt = 1 := rfl; have e2 : (2 : Int32).toInt = 2 := rfl; have E2 : (2 : Int64).toInt = 2 := rfl; have e3 : (3 : Int32).toInt = 3 := rfl; have E3 : (3 : Int64).toInt = 3 := rfl; have e4 : (4 : Int32).toInt = 4 := rfl; have E4 : (4 : Int64).toInt = 4 := rfl; have e5 : (5 : Int32).toInt = 5 := rfl; have E5 : (5 : Int64).toInt = 5 := rfl; have e6 : (6 : Int32).toInt = 6 := rfl; have E6 : (6 : Int64).toInt = 6 := rfl; have e7 : (7 : Int32).toInt = 7 := rfl; have E7 : (7 : Int64).toInt = 7 := rfl; have e8 : (8 : Int32).toInt = 8 := rfl; have E8 : (8 : Int64).toInt = 8 := rfl; have e20 : (20 : Int32).toInt = 20 := rfl; have E20 : (20 : Int64).toInt = 20 := rfl; have e39 : (39 : Int32).toInt = 39 := rfl; have E39 : (39 : Int64).toInt = 39 := rfl; have e40 : (40 : Int32).toInt = 40 := rfl; have E40 : (40 : Int64).toInt = 40 := rfl; have e99 : (99 : Int32).toInt = 99 := rfl; have E99 : (99 : Int64).toInt = 99 := rfl; have em99 : ((-99) : Int32).toInt = (-99) := rfl; have Em99 : ((-99) : Int64).toInt = (-99) := rfl; have e399 : (399 : Int32).toInt = 399 := rfl; have E399 : (399 : Int64).toInt = 399 := rfl; have e400 : (400 : Int32).toInt = 400 := rfl; have E400 : (400 : Int64).toInt = 400 := rfl; have e9999 : (9999 : Int32).toInt = 9999 := rfl; have E9999 : (9999 : Int64).toInt = 9999 := rfl; have em9999 : ((-9999) : Int32).toInt = (-9999) := rfl; have Em9999 : ((-9999) : Int64).toInt = (-9999) := rfl; have em10000 : ((-10000) : Int32).toInt = (-10000) := rfl; have Em10000 : ((-10000) : Int64).toInt = (-10000) := rfl; have em1 : ((-1) : Int32).toInt = (-1) := rfl; have Em1 : ((-1) : Int64).toInt = (-1) := rfl; have e10 : (10 : Int32).toInt = 10 := rfl; have E10 : (10 : Int64).toInt = 10 := rfl; have e17 : (17 : Int32).toInt = 17 := rfl; have E17 : (17 : Int64).toInt = 17 := rfl; simp only [fl_lt, fl_le] at c_1 c_9 c_14 c_18 c_24; omega)) dX10_shift_54 ?_
                obtain ⟨f1, hf1⟩ : ∃ gg : gMem, gg = va_up f sp (some (.inl (cy 0, 18, .inl (upd gsp (Int32.toNatClampNeg ((x1 * 6) + x2)) x3)))) := ⟨_, rfl⟩
                refine gz_eq (f2 := f1) hf1.symm rfl rfl rfl ?_
                have hw_1 : f1 w = some (.inr (10, [.int 1, .ref we, .ref sp, .ref pa, .ref ba, .ref td, .ref wf, .int ah, .int go])) := by rw [hf1, va_up_ne _ _ (cne hw hsp (by simp))]; exact hw
                have hsp_1 : f1 sp = some (.inl (cy 0, 18, .inl (upd gsp (Int32.toNatClampNeg ((x1 * 6) + x2)) x3))) := by rw [hf1]; exact va_up_self _ _ _
                refine gz_iconst (v := 1) dX10_shift_55 (by decide) ?_
                exact gz_zret rfl (by decide) dX10_shift_56 (Nat.le_of_ble_eq_true rfl) (Nat.le_of_ble_eq_true rfl) (⟨_, rfl, (by show _ = _; have e0 : (0 : Int32).toInt = 0 := rfl; have E0 : (0 : Int64).toInt = 0 := rfl; have e1 : (1 : Int32).toInt = 1 := rfl; have E1 : (1 : Int64).toInt = 1 := rfl; have e2 : (2 : Int32).toInt = 2 := rfl; have E2 : (2 : Int64).toInt = 2 := rfl; have e3 : (3 : Int32).toInt = 3 := rfl; have E3 : (3 : Int64).toInt = 3 := rfl; have e4 : (4 : Int32).toInt = 4 := rfl; have E4 : (4 : Int64).toInt = 4 := rfl; have e5 : (5 : Int32).toInt = 5 := rfl; have E5 : (5 : Int64).toInt = 5 := rfl; have e6 : (6 : Int32).toInt = 6 := rfl; have E6 : (6 : Int64).toInt = 6 := rfl; have e7 : (7 : Int32).toInt = 7 := rfl; have E7 : (7 : Int64).toInt = 7 := rfl; have e8 : (8 : Int32).toInt = 8 := rfl; have E8 : (8 : Int64).toInt = 8 := rfl; have e20 : (20 : Int32).toInt = 20 := rfl; have E20 : (20 : Int64).toInt = 20 := rfl; have e39 : (39 : Int32).toInt = 39 := rfl; have E39 : (39 : Int64).toInt = 39 := rfl; have e40 : (40 : Int32).toInt = 40 := rfl; have E40 : (40 : Int64).toInt = 40 := rfl; have e99 : (99 : Int32).toInt = 99 := rfl; have E99 : (99 : Int64).toInt = 99 := rfl; have em99 : ((-99) : Int32).toInt = (-99) := rfl; have Em99 : ((-99) : Int64).toInt = (-99) := rfl; have e399 : (399 : Int32).toInt = 399 := rfl; have E399 : (399 : Int64).toInt = 399 := rfl; have e400 : (400 : Int32).toInt = 400 := rfl; have E400 : (400 : Int64).toInt = 400 := rfl; have e9999 : (9999 : Int32).toInt = 9999 := rfl; have E9999 : (9999 : Int64).toInt = 9999 := rfl; have em9999 : ((-9999) : Int32).toInt = (-9999) := rfl; have Em9999 : ((-9999) : Int64).toInt = (-9999) := rfl; have em10000 : ((-10000) : Int32).toInt = (-10000) := rfl; have Em10000 : ((-10000) : Int64).toInt = (-10000) := rfl; have em1 : ((-1) : Int32).toInt = (-1) := rfl; have Em1 : ((-1) : Int64).toInt = (-1) := rfl; have e10 : (10 : Int32).toInt = 10 := rfl; have E10 : (10 : Int64).toInt = 10 := rfl; have e17 : (17 : Int32).toInt = 17 := rfl; have E17 : (17 : Int64).toInt = 17 := rfl; (try simp only [mIn_0, lgc_lt, lgc_gt, lgc_eq, lgc_le, lgc_ge] at c_1 c_9 c_14 c_18 c_24 c_32 c_38); (try simp only [fl_lt, fl_le, fl_eq, fL_lt, fL_le, fL_w] at c_1 c_9 c_14 c_18 c_24 c_32 c_38); first | (rw [spAdds, if_pos (by omega)]; first | done | rfl) | (rw [spAdds, if_neg (by omega)]; first | done | rfl)), by rw [hf1]; exact fr_up (fr_rf) (by simp)⟩)
              ·
                refine gz_iconst (v := 0) dX10_shift_41 (by decide) ?_
                exact gz_zret rfl (by decide) dX10_shift_42 (Nat.le_of_ble_eq_true rfl) (Nat.le_of_ble_eq_true rfl) (⟨_, rfl, (by show _ = _; have e0 : (0 : Int32).toInt = 0 := rfl; have E0 : (0 : Int64).toInt = 0 := rfl; have e1 : (1 : Int32).toInt = 1 := rfl; have E1 : (1 : Int64).toInt = 1 := rfl; have e2 : (2 : Int32).toInt = 2 := rfl; have E2 : (2 : Int64).toInt = 2 := rfl; have e3 : (3 : Int32).toInt = 3 := rfl; have E3 : (3 : Int64).toInt = 3 := rfl; have e4 : (4 : Int32).toInt = 4 := rfl; have E4 : (4 : Int64).toInt = 4 := rfl; have e5 : (5 : Int32).toInt = 5 := rfl; have E5 : (5 : Int64).toInt = 5 := rfl; have e6 : (6 : Int32).toInt = 6 := rfl; have E6 : (6 : Int64).toInt = 6 := rfl; have e7 : (7 : Int32).toInt = 7 := rfl; have E7 : (7 : Int64).toInt = 7 := rfl; have e8 : (8 : Int32).toInt = 8 := rfl; have E8 : (8 : Int64).toInt = 8 := rfl; have e20 : (20 : Int32).toInt = 20 := rfl; have E20 : (20 : Int64).toInt = 20 := rfl; have e39 : (39 : Int32).toInt = 39 := rfl; have E39 : (39 : Int64).toInt = 39 := rfl; have e40 : (40 : Int32).toInt = 40 := rfl; have E40 : (40 : Int64).toInt = 40 := rfl; have e99 : (99 : Int32).toInt = 99 := rfl; have E99 : (99 : Int64).toInt = 99 := rfl; have em99 : ((-99) : Int32).toInt = (-99) := rfl; have Em99 : ((-99) : Int64).toInt = (-99) := rfl; have e399 : (399 : Int32).toInt = 399 := rfl; have E399 : (399 : Int64).toInt = 399 := rfl; have e400 : (400 : Int32).toInt = 400 := rfl; have E400 : (400 : Int64).toInt = 400 := rfl; have e9999 : (9999 : Int32).toInt = 9999 := rfl; have E9999 : (9999 : Int64).toInt = 9999 := rfl; have em9999 : ((-9999) : Int32).toInt = (-9999) := rfl; have Em9999 : ((-9999) : Int64).toInt = (-9999) := rfl; have em10000 : ((-10000) : Int32).toInt = (-10000) := rfl; have Em10000 : ((-10000) : Int64).toInt = (-10000) := rfl; have em1 : ((-1) : Int32).toInt = (-1) := rfl; have Em1 : ((-1) : Int64).toInt = (-1) := rfl; have e10 : (10 : Int32).toInt = 10 := rfl; have E10 : (10 : Int64).toInt = 10 := rfl; have e17 : (17 : Int32).toInt = 17 := rfl; have E17 : (17 : Int64).toInt = 17 := rfl; (try simp only [mIn_0, lgc_lt, lgc_gt, lgc_eq, lgc_le, lgc_ge] at c_1 c_9 c_14 c_18 c_24 c_32 c_38); (try simp only [fl_lt, fl_le, fl_eq, fL_lt, fL_le, fL_w] at c_1 c_9 c_14 c_18 c_24 c_32 c_38); first | (rw [spAdds, if_pos (by omega)]; first | done | rfl) | (rw [spAdds, if_neg (by omega)]; first | done | rfl)), fr_rf⟩)
          ·
            refine gz_iconst (v := 0) dX10_shift_27 (by decide) ?_
            exact gz_zret rfl (by decide) dX10_shift_28 (Nat.le_of_ble_eq_true rfl) (Nat.le_of_ble_eq_true rfl) (⟨_, rfl, (by show _ = _; have e0 : (0 : Int32).toInt = 0 := rfl; have E0 : (0 : Int64).toInt = 0 := rfl; have e1 : (1 : Int32).toInt = 1 := rfl; have E1 : (1 : Int64).toInt = 1 := rfl; have e2 : (2 : Int32).toInt = 2 := rfl; have E2 : (2 : Int64).toInt = 2 := rfl; have e3 : (3 : Int32).toInt = 3 := rfl; have E3 : (3 : Int64).toInt = 3 := rfl; have e4 : (4 : Int32).toInt = 4 := rfl; have E4 : (4 : Int64).toInt = 4 := rfl; have e5 : (5 : Int32).toInt = 5 := rfl; have E5 : (5 : Int64).toInt = 5 := rfl; have e6 : (6 : Int32).toInt = 6 := rfl; have E6 : (6 : Int64).toInt = 6 := rfl; have e7 : (7 : Int32).toInt = 7 := rfl; have E7 : (7 : Int64).toInt = 7 := rfl; have e8 : (8 : Int32).toInt = 8 := rfl; have E8 : (8 : Int64).toInt = 8 := rfl; have e20 : (20 : Int32).toInt = 20 := rfl; have E20 : (20 : Int64).toInt = 20 := rfl; have e39 : (39 : Int32).toInt = 39 := rfl; have E39 : (39 : Int64).toInt = 39 := rfl; have e40 : (40 : Int32).toInt = 40 := rfl; have E40 : (40 : Int64).toInt = 40 := rfl; have e99 : (99 : Int32).toInt = 99 := rfl; have E99 : (99 : Int64).toInt = 99 := rfl; have em99 : ((-99) : Int32).toInt = (-99) := rfl; have Em99 : ((-99) : Int64).toInt = (-99) := rfl; have e399 : (399 : Int32).toInt = 399 := rfl; have E399 : (399 : Int64).toInt = 399 := rfl; have e400 : (400 : Int32).toInt = 400 := rfl; have E400 : (400 : Int64).toInt = 400 := rfl; have e9999 : (9999 : Int32).toInt = 9999 := rfl; have E9999 : (9999 : Int64).toInt = 9999 := rfl; have em9999 : ((-9999) : Int32).toInt = (-9999) := rfl; have Em9999 : ((-9999) : Int64).toInt = (-9999) := rfl; have em10000 : ((-10000) : Int32).toInt = (-10000) := rfl; have Em10000 : ((-10000) : Int64).toInt = (-10000) := rfl; have em1 : ((-1) : Int32).toInt = (-1) := rfl; have Em1 : ((-1) : Int64).toInt = (-1) := rfl; have e10 : (10 : Int32).toInt = 10 := rfl; have E10 : (10 : Int64).toInt = 10 := rfl; have e17 : (17 : Int32).toInt = 17 := rfl; have E17 : (17 : Int64).toInt = 17 := rfl; (try simp only [mIn_0, lgc_lt, lgc_gt, lgc_eq, lgc_le, lgc_ge] at c_1 c_9 c_14 c_18 c_24); (try simp only [fl_lt, fl_le, fl_eq, fL_lt, fL_le, fL_w] at c_1 c_9 c_14 c_18 c_24); first | (rw [spAdds, if_pos (by omega)]; first | done | rfl) | (rw [spAdds, if_neg (by omega)]; first | done | rfl)), fr_rf⟩)

set_option maxHeartbeats 4000000 in
set_option maxRecDepth 100000 in
theorem k_X11_adds {l : Launch} {D : va_G} {cy : Nat → ClassId} {b : Nat} {f : gMem} {x ch tp ou fo dr ot rd te la le co wo : Nat} {x1 x2 x3 : Int32} {we sp pa ba td wf : Nat} {ah go : Int32} {gsp : Nat → Int32} (hx : f x = some (.inr (11, [.ref ch, .ref tp, .ref ou, .ref fo, .ref dr, .ref ot, .ref rd, .ref te, .ref la, .ref le, .ref co, .ref wo, .int 0]))) (hwo : f wo = some (.inr (10, [.int 1, .ref we, .ref sp, .ref pa, .ref ba, .ref td, .ref wf, .int ah, .int go]))) (hsp : f sp = some (.inl (cy 0, 18, .inl (gsp))))  : gC l D cy b yX11_adds cX11_adds 4 (some .boolean) 1 0 0 [.ref x, .int x1, .int x2, .int x3] f (pI fun r f2 => r = spAdds x1 x2 x3 ∧ fr [sp] f f2) := by
  refine gC_of (by decide) (Nat.le_of_ble_eq_true rfl) ?_
  show gG l _ _ _ D cy b cX11_adds 4 _ RX11 "adds" 0 0 f 0 [(0, .ref x), (1, .int x1), (2, .int x2), (3, .int x3)] []
  refine gz_aload_n dX11_adds_0 rfl rfl ?_
  refine sgX11_94 hx rfl dX11_adds_1 ?_
  refine gz_iload_n dX11_adds_4 rfl rfl ?_
  refine gz_iload_n dX11_adds_5 rfl rfl ?_
  refine gz_iload_n dX11_adds_6 rfl rfl ?_
  refine scX11_203 (k_X10_shift (x1 := x1) (x2 := x2) (x3 := x3) hwo hsp) hwo ⟨(Nat.le_of_ble_eq_true rfl), (Nat.le_of_ble_eq_true rfl)⟩ ⟨(Nat.le_of_ble_eq_true rfl), (Nat.le_of_ble_eq_true rfl)⟩ rfl rfl (Nat.le_of_ble_eq_true rfl) dX11_adds_7 ?_
  intro v9 f9 z9; rw [z9.1]
  exact gz_zret rfl (by unfold spAdds; split <;> rfl) dX11_adds_10 (Nat.le_of_ble_eq_true rfl) (Nat.le_of_ble_eq_true rfl) (⟨_, rfl, rfl, z9.2⟩)

set_option maxHeartbeats 4000000 in
set_option maxRecDepth 100000 in
theorem k_X1_size {l : Launch} {D : va_G} {cy : Nat → ClassId} {b : Nat} {f : gMem} {c lv td le : Nat} (hc : f c = some (.inr (1, [.ref lv, .ref td, .ref le, .int 0])))  : gC l D cy b yX1_size cX1_size 1 (some .int) 0 0 0 [.ref c] f (pI fun r f2 => r = 0 ∧ f2 = f) := by
  refine gC_of (by decide) (Nat.le_of_ble_eq_true rfl) ?_
  show gG l _ _ _ D cy b cX1_size 1 _ RX1 "size" 0 0 f 0 [(0, .ref c)] []
  refine gz_aload_n dX1_size_0 rfl rfl ?_
  refine sgX1_25 hc rfl dX1_size_1 ?_
  exact gz_iret rfl dX1_size_4 (Nat.le_of_ble_eq_true rfl) (Nat.le_of_ble_eq_true rfl) (⟨_, rfl, rfl, rfl⟩)

set_option maxHeartbeats 4000000 in
set_option maxRecDepth 100000 in
theorem k_X10_size {l : Launch} {D : va_G} {cy : Nat → ClassId} {b : Nat} {f : gMem} {w we sp pa ba td wf : Nat} {ah go : Int32} (hw : f w = some (.inr (10, [.int 1, .ref we, .ref sp, .ref pa, .ref ba, .ref td, .ref wf, .int ah, .int go])))  : gC l D cy b yX10_size cX10_size 1 (some .int) 0 0 0 [.ref w] f (pI fun r f2 => r = 1 ∧ f2 = f) := by
  refine gC_of (by decide) (Nat.le_of_ble_eq_true rfl) ?_
  show gG l _ _ _ D cy b cX10_size 1 _ RX10 "size" 0 0 f 0 [(0, .ref w)] []
  refine gz_aload_n dX10_size_0 rfl rfl ?_
  refine sgX10_9 hw rfl dX10_size_1 ?_
  exact gz_iret rfl dX10_size_4 (Nat.le_of_ble_eq_true rfl) (Nat.le_of_ble_eq_true rfl) (⟨_, rfl, rfl, rfl⟩)

set_option maxHeartbeats 4000000 in
set_option maxRecDepth 100000 in
theorem k_X11_count {l : Launch} {D : va_G} {cy : Nat → ClassId} {b : Nat} {f : gMem} {x ch tp ou fo dr ot rd te la le co wo : Nat} {x1 : Int32} {to td th lv by_ bo en ge re gi ta am we sp pa ba wf : Nat} {ah go : Int32} (hx : f x = some (.inr (11, [.ref ch, .ref tp, .ref ou, .ref fo, .ref dr, .ref ot, .ref rd, .ref te, .ref la, .ref le, .ref co, .ref wo, .int 0]))) (hch : f ch = some (.inr (0, [.ref to, .ref td]))) (htd : f td = some (.inr (7, [.ref th, .int 0]))) (hco : f co = some (.inr (1, [.ref lv, .ref td, .ref le, .int 0]))) (hle : f le = some (.inr (4, [.ref en, .int 0, .int 0, .ref ge, .ref re, .ref gi, .ref ta, .ref am, .int (-1)]))) (htp : f tp = some (.inr (9, [.ref by_, .int 0]))) (hou : f ou = some (.inr (9, [.ref bo, .int 0]))) (hwo : f wo = some (.inr (10, [.int 1, .ref we, .ref sp, .ref pa, .ref ba, .ref td, .ref wf, .int ah, .int go])))  : gC l D cy b yX11_count cX11_count 2 (some .int) 1 0 0 [.ref x, .int x1] f (pI fun r f2 => r = spCount x1 ∧ fr [] f f2) := by
  refine gC_of (by decide) (Nat.le_of_ble_eq_true rfl) ?_
  show gG l _ _ _ D cy b cX11_count 2 _ RX11 "count" 0 0 f 0 [(0, .ref x), (1, .int x1)] []
  refine gz_iload_n dX11_count_0 rfl rfl ?_
  by_cases hsw : x1.toInt < 0 ∨ 7 < x1.toInt
  ·
    refine gz_tableOut (tgt := 112) dX11_count_1 hsw (by decide) ?_
    refine gz_iconst (v := (-1)) dX11_count_112 (by decide) ?_
    exact gz_iret rfl dX11_count_113 (Nat.le_of_ble_eq_true rfl) (Nat.le_of_ble_eq_true rfl) (⟨_, rfl, (by show _ = _; rw [spCount, if_neg (by omega), if_neg (by omega)]), fr_rf⟩)
  · rcases sw7 hsw with rfl | rfl | rfl | rfl | rfl | rfl | rfl | rfl
    ·
      refine gz_tableIn (off := 47) (tgt := 48) dX11_count_1 (by decide) (by decide) rfl (by decide) ?_
      refine gz_aload_n dX11_count_48 rfl rfl ?_
      refine sgX11_12 hx rfl dX11_count_49 ?_
      refine sgX11_78 hch rfl dX11_count_52 ?_
      refine sgX11_234 htd rfl dX11_count_55 ?_
      exact gz_iret rfl dX11_count_58 (Nat.le_of_ble_eq_true rfl) (Nat.le_of_ble_eq_true rfl) (⟨_, rfl, by show _ = _; decide, fr_rf⟩)
    ·
      refine gz_tableIn (off := 58) (tgt := 59) dX11_count_1 (by decide) (by decide) rfl (by decide) ?_
      refine gz_aload_n dX11_count_59 rfl rfl ?_
      refine sgX11_116 hx rfl dX11_count_60 ?_
      exact gz_iret rfl dX11_count_63 (Nat.le_of_ble_eq_true rfl) (Nat.le_of_ble_eq_true rfl) (⟨_, rfl, by show _ = _; decide, fr_rf⟩)
    ·
      refine gz_tableIn (off := 63) (tgt := 64) dX11_count_1 (by decide) (by decide) rfl (by decide) ?_
      refine gz_aload_n dX11_count_64 rfl rfl ?_
      refine sgX11_85 hx rfl dX11_count_65 ?_
      refine scX11_239 (k_X1_size hco) hco ⟨(Nat.le_of_ble_eq_true rfl), (Nat.le_of_ble_eq_true rfl)⟩ ⟨(Nat.le_of_ble_eq_true rfl), (Nat.le_of_ble_eq_true rfl)⟩ rfl rfl (Nat.le_of_ble_eq_true rfl) dX11_count_68 ?_
      intro v9 f9 z9; rw [z9.1, z9.2]
      exact gz_iret rfl dX11_count_71 (Nat.le_of_ble_eq_true rfl) (Nat.le_of_ble_eq_true rfl) (⟨_, rfl, by show _ = _; decide, fr_rf⟩)
    ·
      refine gz_tableIn (off := 71) (tgt := 72) dX11_count_1 (by decide) (by decide) rfl (by decide) ?_
      refine gz_aload_n dX11_count_72 rfl rfl ?_
      refine sgX11_72 hx rfl dX11_count_73 ?_
      refine scX11_161 (k_X4_size hle) hle ⟨(Nat.le_of_ble_eq_true rfl), (Nat.le_of_ble_eq_true rfl)⟩ ⟨(Nat.le_of_ble_eq_true rfl), (Nat.le_of_ble_eq_true rfl)⟩ rfl rfl (Nat.le_of_ble_eq_true rfl) dX11_count_76 ?_
      intro v9 f9 z9; rw [z9.1, z9.2]
      exact gz_iret rfl dX11_count_79 (Nat.le_of_ble_eq_true rfl) (Nat.le_of_ble_eq_true rfl) (⟨_, rfl, by show _ = _; decide, fr_rf⟩)
    ·
      refine gz_tableIn (off := 79) (tgt := 80) dX11_count_1 (by decide) (by decide) rfl (by decide) ?_
      refine gz_aload_n dX11_count_80 rfl rfl ?_
      refine sgX11_21 hx rfl dX11_count_81 ?_
      refine scX11_106 (k_X9_size htp) htp ⟨(Nat.le_of_ble_eq_true rfl), (Nat.le_of_ble_eq_true rfl)⟩ ⟨(Nat.le_of_ble_eq_true rfl), (Nat.le_of_ble_eq_true rfl)⟩ rfl rfl (Nat.le_of_ble_eq_true rfl) dX11_count_84 ?_
      intro v9 f9 z9; rw [z9.1, z9.2]
      exact gz_iret rfl dX11_count_87 (Nat.le_of_ble_eq_true rfl) (Nat.le_of_ble_eq_true rfl) (⟨_, rfl, by show _ = _; decide, fr_rf⟩)
    ·
      refine gz_tableIn (off := 87) (tgt := 88) dX11_count_1 (by decide) (by decide) rfl (by decide) ?_
      refine gz_aload_n dX11_count_88 rfl rfl ?_
      refine sgX11_25 hx rfl dX11_count_89 ?_
      refine scX11_106 (k_X9_size hou) hou ⟨(Nat.le_of_ble_eq_true rfl), (Nat.le_of_ble_eq_true rfl)⟩ ⟨(Nat.le_of_ble_eq_true rfl), (Nat.le_of_ble_eq_true rfl)⟩ rfl rfl (Nat.le_of_ble_eq_true rfl) dX11_count_92 ?_
      intro v9 f9 z9; rw [z9.1, z9.2]
      exact gz_iret rfl dX11_count_95 (Nat.le_of_ble_eq_true rfl) (Nat.le_of_ble_eq_true rfl) (⟨_, rfl, by show _ = _; decide, fr_rf⟩)
    ·
      refine gz_tableIn (off := 95) (tgt := 96) dX11_count_1 (by decide) (by decide) rfl (by decide) ?_
      refine gz_aload_n dX11_count_96 rfl rfl ?_
      refine sgX11_94 hx rfl dX11_count_97 ?_
      refine scX11_240 (k_X10_size hwo) hwo ⟨(Nat.le_of_ble_eq_true rfl), (Nat.le_of_ble_eq_true rfl)⟩ ⟨(Nat.le_of_ble_eq_true rfl), (Nat.le_of_ble_eq_true rfl)⟩ rfl rfl (Nat.le_of_ble_eq_true rfl) dX11_count_100 ?_
      intro v9 f9 z9; rw [z9.1, z9.2]
      exact gz_iret rfl dX11_count_103 (Nat.le_of_ble_eq_true rfl) (Nat.le_of_ble_eq_true rfl) (⟨_, rfl, by show _ = _; decide, fr_rf⟩)
    ·
      refine gz_tableIn (off := 103) (tgt := 104) dX11_count_1 (by decide) (by decide) rfl (by decide) ?_
      refine gz_aload_n dX11_count_104 rfl rfl ?_
      refine sgX11_72 hx rfl dX11_count_105 ?_
      refine sgX11_241 hle rfl dX11_count_108 ?_
      exact gz_iret rfl dX11_count_111 (Nat.le_of_ble_eq_true rfl) (Nat.le_of_ble_eq_true rfl) (⟨_, rfl, by show _ = _; decide, fr_rf⟩)

set_option maxHeartbeats 4000000 in
set_option maxRecDepth 100000 in
theorem k_X2_clear {l : Launch} {D : va_G} {cy : Nat → ClassId} {b : Nat} {f : gMem} {d d1 d2 : Nat} {ds dv : Int32} (hd : f d = some (.inr (2, [.ref d1, .ref d2, .int ds, .int dv])))  : gC l D cy b yX2_clear cX2_clear 1 none 0 0 0 [.ref d] f (pV fun f2 => fr [d] f f2) := by
  refine gC_of (by decide) (Nat.le_of_ble_eq_true rfl) ?_
  show gG l _ _ _ D cy b cX2_clear 1 _ RX2 "clear" 0 0 f 0 [(0, .ref d)] []
  refine gz_aload_n dX2_clear_0 rfl rfl ?_
  refine gz_iconst (v := 0) dX2_clear_1 (by decide) ?_
  refine spX2_24 hd  (Nat.le_of_ble_eq_true rfl) dX2_clear_2 ?_
  obtain ⟨f1, hf1⟩ : ∃ gg : gMem, gg = va_up f d (some (.inr (2, [.ref d1, .ref d2, .int 0, .int dv]))) := ⟨_, rfl⟩
  refine gz_eq (f2 := f1) hf1.symm rfl rfl rfl ?_
  have hd_1 : f1 d = some (.inr (2, [.ref d1, .ref d2, .int 0, .int dv])) := by rw [hf1]; exact va_up_self _ _ _
  refine gz_aload_n dX2_clear_5 rfl rfl ?_
  refine gz_iconst (v := 0) dX2_clear_6 (by decide) ?_
  refine spX2_28 hd_1  (Nat.le_of_ble_eq_true rfl) dX2_clear_7 ?_
  obtain ⟨f2, hf2⟩ : ∃ gg : gMem, gg = va_up f1 d (some (.inr (2, [.ref d1, .ref d2, .int 0, .int 0]))) := ⟨_, rfl⟩
  refine gz_eq (f2 := f2) hf2.symm rfl rfl rfl ?_
  have hd_2 : f2 d = some (.inr (2, [.ref d1, .ref d2, .int 0, .int 0])) := by rw [hf2]; exact va_up_self _ _ _
  exact gz_vret rfl dX2_clear_10 (Nat.le_of_ble_eq_true rfl) (Nat.le_of_ble_eq_true rfl) (⟨rfl, by rw [hf2, hf1]; exact fr_up (fr_up (fr_rf) (by simp)) (by simp)⟩)

theorem tAt_0 {n : Nat} {g : Nat → Int32} {i : Int32} : tAt 0 n g i = -1 := by
  unfold tAt
  by_cases h1 : i < 0
  · rw [if_pos h1]
  · rw [if_neg h1, if_pos (by simp only [fl_lt, fl_le] at h1 ⊢; omega)]

set_option maxHeartbeats 4000000 in
set_option maxRecDepth 100000 in
theorem k_X6_upNext {l : Launch} {D : va_G} {cy : Nat → ClassId} {b : Nat} {f : gMem} {r tp dr by_ : Nat} {fa : Int32} {gby : Nat → Int32} (hr : f r = some (.inr (6, [.ref tp, .ref dr, .int 0, .int fa]))) (htp : f tp = some (.inr (9, [.ref by_, .int 0]))) (hby : f by_ = some (.inl (cy 1, 400, .inl (gby))))  : gC l D cy b yX6_upNext cX6_upNext 2 (some .int) 1 0 0 [.ref r] f (pI fun v f2 => v = -1 ∧ f2 = f) := by
  refine gC_of (by decide) (Nat.le_of_ble_eq_true rfl) ?_
  show gG l _ _ _ D cy b cX6_upNext 2 _ RX6 "upNext" 0 0 f 0 [(0, .ref r)] []
  refine gz_iconst (v := 0) dX6_upNext_0 (by decide) ?_
  refine gz_istore_n (lv' := [(1, .int 0), (0, .ref r)]) dX6_upNext_1 rfl (by decide) rfl ?_
  refine gz_iload_n dX6_upNext_2 rfl rfl ?_
  refine gz_sipush (v := 400) dX6_upNext_3 (by decide) ?_
  refine gz_icmp_ge (tgt := 41) dX6_upNext_6 (by decide) (fun c_6 => ?_) (fun c_6 => ?_)
  · exact absurd c_6 (by decide)
  ·
    refine gz_aload_n dX6_upNext_9 rfl rfl ?_
    refine sgX6_9 hr rfl dX6_upNext_10 ?_
    refine gz_aload_n dX6_upNext_13 rfl rfl ?_
    refine sgX6_19 hr rfl dX6_upNext_14 ?_
    refine scX6_48 (k_X9_at (i := 0) htp hby (by decide)) htp ⟨(Nat.le_of_ble_eq_true rfl), (Nat.le_of_ble_eq_true rfl)⟩ ⟨(Nat.le_of_ble_eq_true rfl), (Nat.le_of_ble_eq_true rfl)⟩ rfl rfl (Nat.le_of_ble_eq_true rfl) dX6_upNext_17 ?_
    intro v9 f9 z9; rw [z9.1, z9.2, tAt_0]
    refine gz_bipush (v := 32) dX6_upNext_20 (by decide) ?_
    refine gz_icmp_ne (tgt := 41) dX6_upNext_22 (by decide) (fun c_22 => ?_) (fun c_22 => ?_)
    ·
      refine gz_aload_n dX6_upNext_41 rfl rfl ?_
      refine sgX6_9 hr rfl dX6_upNext_42 ?_
      refine gz_aload_n dX6_upNext_45 rfl rfl ?_
      refine sgX6_19 hr rfl dX6_upNext_46 ?_
      refine scX6_48 (k_X9_at (i := 0) htp hby (by decide)) htp ⟨(Nat.le_of_ble_eq_true rfl), (Nat.le_of_ble_eq_true rfl)⟩ ⟨(Nat.le_of_ble_eq_true rfl), (Nat.le_of_ble_eq_true rfl)⟩ rfl rfl (Nat.le_of_ble_eq_true rfl) dX6_upNext_49 ?_
      intro v9 f9 z9; rw [z9.1, z9.2, tAt_0]
      exact gz_iret rfl dX6_upNext_52 (Nat.le_of_ble_eq_true rfl) (Nat.le_of_ble_eq_true rfl) (⟨_, rfl, rfl, rfl⟩)
    · exact absurd c_22 (by decide)

set_option maxHeartbeats 4000000 in
set_option maxRecDepth 100000 in
theorem k_X11_isLetter {l : Launch} {D : va_G} {cy : Nat → ClassId} {b : Nat} {f : gMem}    : gC l D cy b yX11_isLetter cX11_isLetter 1 (some .boolean) 0 0 0 [.int (-1)] f (pI fun r f2 => r = 0 ∧ f2 = f) := by
  refine gC_of (by decide) (Nat.le_of_ble_eq_true rfl) ?_
  show gG l _ _ _ D cy b cX11_isLetter 1 _ RX11 "isLetter" 0 0 f 0 [(0, .int (-1))] []
  refine gz_iload_n dX11_isLetter_0 rfl rfl ?_
  refine gz_bipush (v := 97) dX11_isLetter_1 (by decide) ?_
  refine gz_icmp_lt (tgt := 16) dX11_isLetter_3 (by decide) (fun c_3 => ?_) (fun c_3 => ?_)
  ·
    refine gz_iconst (v := 0) dX11_isLetter_16 (by decide) ?_
    exact gz_zret rfl (by decide) dX11_isLetter_17 (Nat.le_of_ble_eq_true rfl) (Nat.le_of_ble_eq_true rfl) (⟨_, rfl, rfl, rfl⟩)
  · exact absurd c_3 (by decide)

set_option maxHeartbeats 4000000 in
set_option maxRecDepth 100000 in
theorem k_X6_lettersFrom {l : Launch} {D : va_G} {cy : Nat → ClassId} {b : Nat} {f : gMem} {r tp dr by_ : Nat} {fa : Int32} {gby : Nat → Int32} (hr : f r = some (.inr (6, [.ref tp, .ref dr, .int 0, .int fa]))) (htp : f tp = some (.inr (9, [.ref by_, .int 0]))) (hby : f by_ = some (.inl (cy 1, 400, .inl (gby))))  : gC l D cy b yX6_lettersFrom cX6_lettersFrom 3 (some .int) 1 0 0 [.ref r, .int 0] f (pI fun v f2 => v = 0 ∧ f2 = f) := by
  refine gC_of (by decide) (Nat.le_of_ble_eq_true rfl) ?_
  show gG l _ _ _ D cy b cX6_lettersFrom 3 _ RX6 "lettersFrom" 0 0 f 0 [(0, .ref r), (1, .int 0)] []
  refine gz_iconst (v := 0) dX6_lettersFrom_0 (by decide) ?_
  refine gz_istore_n (lv' := [(2, .int 0), (0, .ref r), (1, .int 0)]) dX6_lettersFrom_1 rfl (by decide) rfl ?_
  refine gz_iload_n dX6_lettersFrom_2 rfl rfl ?_
  refine gz_sipush (v := 400) dX6_lettersFrom_3 (by decide) ?_
  refine gz_icmp_ge (tgt := 31) dX6_lettersFrom_6 (by decide) (fun c_6 => ?_) (fun c_6 => ?_)
  · exact absurd c_6 (by decide)
  ·
    refine gz_aload_n dX6_lettersFrom_9 rfl rfl ?_
    refine sgX6_9 hr rfl dX6_lettersFrom_10 ?_
    refine gz_iload_n dX6_lettersFrom_13 rfl rfl ?_
    refine gz_iload_n dX6_lettersFrom_14 rfl rfl ?_
    refine gz_iadd dX6_lettersFrom_15 ?_
    refine gz_ev (w := .int 0) (by decide) ?_
    refine scX6_48 (k_X9_at (i := 0) htp hby (by decide)) htp ⟨(Nat.le_of_ble_eq_true rfl), (Nat.le_of_ble_eq_true rfl)⟩ ⟨(Nat.le_of_ble_eq_true rfl), (Nat.le_of_ble_eq_true rfl)⟩ rfl rfl (Nat.le_of_ble_eq_true rfl) dX6_lettersFrom_16 ?_
    intro v9 f9 z9; rw [z9.1, z9.2, tAt_0]
    refine scX6_54 (k_X11_isLetter) ⟨(Nat.le_of_ble_eq_true rfl), (Nat.le_of_ble_eq_true rfl)⟩ ⟨(Nat.le_of_ble_eq_true rfl), (Nat.le_of_ble_eq_true rfl)⟩ rfl rfl (Nat.le_of_ble_eq_true rfl) dX6_lettersFrom_19 ?_
    intro v9 f9 z9; rw [z9.1, z9.2]
    refine gz_if_eq (tgt := 31) dX6_lettersFrom_22 (by decide) (fun c_22 => ?_) (fun c_22 => ?_)
    ·
      refine gz_iload_n dX6_lettersFrom_31 rfl rfl ?_
      exact gz_iret rfl dX6_lettersFrom_32 (Nat.le_of_ble_eq_true rfl) (Nat.le_of_ble_eq_true rfl) (⟨_, rfl, rfl, rfl⟩)
    · exact absurd c_22 (by decide)

set_option maxHeartbeats 4000000 in
set_option maxRecDepth 100000 in
theorem k_X6_isNamed {l : Launch} {D : va_G} {cy : Nat → ClassId} {b : Nat} {f : gMem} {r : Nat} {k : Int32}   : gC l D cy b yX6_isNamed cX6_isNamed 5 (some .boolean) 0 0 0 [.ref r, .int k, .int 0, .int 0] f (pI fun v f2 => v = 0 ∧ f2 = f) := by
  refine gC_of (by decide) (Nat.le_of_ble_eq_true rfl) ?_
  show gG l _ _ _ D cy b cX6_isNamed 5 _ RX6 "isNamed" 0 0 f 0 [(0, .ref r), (1, .int k), (2, .int 0), (3, .int 0)] []
  refine gz_iload_n dX6_isNamed_0 rfl rfl ?_
  refine gz_bipush (v := 8) dX6_isNamed_1 (by decide) ?_
  refine gz_icmp_lt (tgt := 8) dX6_isNamed_3 (by decide) (fun c_3 => ?_) (fun c_3 => ?_)
  ·
    refine gz_iconst (v := 0) dX6_isNamed_8 (by decide) ?_
    refine gz_istore (lv' := [(4, .int 0), (0, .ref r), (1, .int k), (2, .int 0), (3, .int 0)]) dX6_isNamed_9 (by decide) rfl ?_
    refine gz_iload dX6_isNamed_11 rfl ?_
    refine gz_iload_n dX6_isNamed_13 rfl rfl ?_
    refine gz_icmp_ge (tgt := 45) dX6_isNamed_14 (by decide) (fun c_14 => ?_) (fun c_14 => ?_)
    ·
      refine gz_iload_n dX6_isNamed_45 rfl rfl ?_
      refine gz_if_le (tgt := 63) dX6_isNamed_46 (by decide) (fun c_46 => ?_) (fun c_46 => ?_)
      ·
        refine gz_iconst (v := 0) dX6_isNamed_63 (by decide) ?_
        exact gz_zret rfl (by decide) dX6_isNamed_64 (Nat.le_of_ble_eq_true rfl) (Nat.le_of_ble_eq_true rfl) (⟨_, rfl, rfl, rfl⟩)
      · exact absurd c_46 (by decide)
    · exact absurd c_14 (by decide)
  · exact absurd c_3 (by decide)

set_option maxHeartbeats 4000000 in
set_option maxRecDepth 100000 in
theorem k_X6_kindFrom {l : Launch} {D : va_G} {cy : Nat → ClassId} {b : Nat} {f : gMem} {r tp dr : Nat} {pl fa : Int32} (hr : f r = some (.inr (6, [.ref tp, .ref dr, .int pl, .int fa])))  : gC l D cy b yX6_kindFrom cX6_kindFrom 4 (some .int) 1 0 0 [.ref r, .int 0, .int 0] f (pI fun v f2 => v = -1 ∧ f2 = f) := by
  refine gC_of (by decide) (Nat.le_of_ble_eq_true rfl) ?_
  show gG l _ _ _ D cy b cX6_kindFrom 4 _ RX6 "kindFrom" 0 0 f 0 [(0, .ref r), (1, .int 0), (2, .int 0)] []
  refine gz_iconst (v := 0) dX6_kindFrom_0 (by decide) ?_
  refine gz_istore_n (lv' := [(3, .int 0), (0, .ref r), (1, .int 0), (2, .int 0)]) dX6_kindFrom_1 rfl (by decide) rfl ?_
  refine gz_iload_n dX6_kindFrom_2 rfl rfl ?_
  refine gz_bipush (v := 11) dX6_kindFrom_3 (by decide) ?_
  refine gz_icmp_ge (tgt := 26) dX6_kindFrom_5 (by decide) (fun c_5 => ?_) (fun c_5 => ?_)
  · exact absurd c_5 (by decide)
  ·
    refine gz_aload_n dX6_kindFrom_8 rfl rfl ?_
    refine gz_iload_n dX6_kindFrom_9 rfl rfl ?_
    refine gz_iload_n dX6_kindFrom_10 rfl rfl ?_
    refine gz_iload_n dX6_kindFrom_11 rfl rfl ?_
    refine scX6_61 (k_X6_isNamed (r := r) (k := 0)) hr ⟨(Nat.le_of_ble_eq_true rfl), (Nat.le_of_ble_eq_true rfl)⟩ ⟨(Nat.le_of_ble_eq_true rfl), (Nat.le_of_ble_eq_true rfl)⟩ rfl rfl (Nat.le_of_ble_eq_true rfl) dX6_kindFrom_12 ?_
    intro v9 f9 z9; rw [z9.1, z9.2]
    refine gz_if_eq (tgt := 20) dX6_kindFrom_15 (by decide) (fun c_15 => ?_) (fun c_15 => ?_)
    ·
      refine gz_iinc (v := 1) (lv' := [(3, .int 1), (0, .ref r), (1, .int 0), (2, .int 0)]) dX6_kindFrom_20 rfl (by decide) (by decide) rfl ?_
      refine gz_goto (tgt := 2) dX6_kindFrom_23 (by decide) ?_
      refine gz_iload_n dX6_kindFrom_2 rfl rfl ?_
      refine gz_bipush (v := 11) dX6_kindFrom_3 (by decide) ?_
      refine gz_icmp_ge (tgt := 26) dX6_kindFrom_5 (by decide) (fun c_5_1 => ?_) (fun c_5_1 => ?_)
      · exact absurd c_5_1 (by decide)
      ·
        refine gz_aload_n dX6_kindFrom_8 rfl rfl ?_
        refine gz_iload_n dX6_kindFrom_9 rfl rfl ?_
        refine gz_iload_n dX6_kindFrom_10 rfl rfl ?_
        refine gz_iload_n dX6_kindFrom_11 rfl rfl ?_
        refine scX6_61 (k_X6_isNamed (r := r) (k := 1)) hr ⟨(Nat.le_of_ble_eq_true rfl), (Nat.le_of_ble_eq_true rfl)⟩ ⟨(Nat.le_of_ble_eq_true rfl), (Nat.le_of_ble_eq_true rfl)⟩ rfl rfl (Nat.le_of_ble_eq_true rfl) dX6_kindFrom_12 ?_
        intro v9 f9 z9; rw [z9.1, z9.2]
        refine gz_if_eq (tgt := 20) dX6_kindFrom_15 (by decide) (fun c_15_2 => ?_) (fun c_15_2 => ?_)
        ·
          refine gz_iinc (v := 2) (lv' := [(3, .int 2), (0, .ref r), (1, .int 0), (2, .int 0)]) dX6_kindFrom_20 rfl (by decide) (by decide) rfl ?_
          refine gz_goto (tgt := 2) dX6_kindFrom_23 (by decide) ?_
          refine gz_iload_n dX6_kindFrom_2 rfl rfl ?_
          refine gz_bipush (v := 11) dX6_kindFrom_3 (by decide) ?_
          refine gz_icmp_ge (tgt := 26) dX6_kindFrom_5 (by decide) (fun c_5_3 => ?_) (fun c_5_3 => ?_)
          · exact absurd c_5_3 (by decide)
          ·
            refine gz_aload_n dX6_kindFrom_8 rfl rfl ?_
            refine gz_iload_n dX6_kindFrom_9 rfl rfl ?_
            refine gz_iload_n dX6_kindFrom_10 rfl rfl ?_
            refine gz_iload_n dX6_kindFrom_11 rfl rfl ?_
            refine scX6_61 (k_X6_isNamed (r := r) (k := 2)) hr ⟨(Nat.le_of_ble_eq_true rfl), (Nat.le_of_ble_eq_true rfl)⟩ ⟨(Nat.le_of_ble_eq_true rfl), (Nat.le_of_ble_eq_true rfl)⟩ rfl rfl (Nat.le_of_ble_eq_true rfl) dX6_kindFrom_12 ?_
            intro v9 f9 z9; rw [z9.1, z9.2]
            refine gz_if_eq (tgt := 20) dX6_kindFrom_15 (by decide) (fun c_15_4 => ?_) (fun c_15_4 => ?_)
            ·
              refine gz_iinc (v := 3) (lv' := [(3, .int 3), (0, .ref r), (1, .int 0), (2, .int 0)]) dX6_kindFrom_20 rfl (by decide) (by decide) rfl ?_
              refine gz_goto (tgt := 2) dX6_kindFrom_23 (by decide) ?_
              refine gz_iload_n dX6_kindFrom_2 rfl rfl ?_
              refine gz_bipush (v := 11) dX6_kindFrom_3 (by decide) ?_
              refine gz_icmp_ge (tgt := 26) dX6_kindFrom_5 (by decide) (fun c_5_5 => ?_) (fun c_5_5 => ?_)
              · exact absurd c_5_5 (by decide)
              ·
                refine gz_aload_n dX6_kindFrom_8 rfl rfl ?_
                refine gz_iload_n dX6_kindFrom_9 rfl rfl ?_
                refine gz_iload_n dX6_kindFrom_10 rfl rfl ?_
                refine gz_iload_n dX6_kindFrom_11 rfl rfl ?_
                refine scX6_61 (k_X6_isNamed (r := r) (k := 3)) hr ⟨(Nat.le_of_ble_eq_true rfl), (Nat.le_of_ble_eq_true rfl)⟩ ⟨(Nat.le_of_ble_eq_true rfl), (Nat.le_of_ble_eq_true rfl)⟩ rfl rfl (Nat.le_of_ble_eq_true rfl) dX6_kindFrom_12 ?_
                intro v9 f9 z9; rw [z9.1, z9.2]
                refine gz_if_eq (tgt := 20) dX6_kindFrom_15 (by decide) (fun c_15_6 => ?_) (fun c_15_6 => ?_)
                ·
                  refine gz_iinc (v := 4) (lv' := [(3, .int 4), (0, .ref r), (1, .int 0), (2, .int 0)]) dX6_kindFrom_20 rfl (by decide) (by decide) rfl ?_
                  refine gz_goto (tgt := 2) dX6_kindFrom_23 (by decide) ?_
                  refine gz_iload_n dX6_kindFrom_2 rfl rfl ?_
                  refine gz_bipush (v := 11) dX6_kindFrom_3 (by decide) ?_
                  refine gz_icmp_ge (tgt := 26) dX6_kindFrom_5 (by decide) (fun c_5_7 => ?_) (fun c_5_7 => ?_)
                  · exact absurd c_5_7 (by decide)
                  ·
                    refine gz_aload_n dX6_kindFrom_8 rfl rfl ?_
                    refine gz_iload_n dX6_kindFrom_9 rfl rfl ?_
                    refine gz_iload_n dX6_kindFrom_10 rfl rfl ?_
                    refine gz_iload_n dX6_kindFrom_11 rfl rfl ?_
                    refine scX6_61 (k_X6_isNamed (r := r) (k := 4)) hr ⟨(Nat.le_of_ble_eq_true rfl), (Nat.le_of_ble_eq_true rfl)⟩ ⟨(Nat.le_of_ble_eq_true rfl), (Nat.le_of_ble_eq_true rfl)⟩ rfl rfl (Nat.le_of_ble_eq_true rfl) dX6_kindFrom_12 ?_
                    intro v9 f9 z9; rw [z9.1, z9.2]
                    refine gz_if_eq (tgt := 20) dX6_kindFrom_15 (by decide) (fun c_15_8 => ?_) (fun c_15_8 => ?_)
                    ·
                      refine gz_iinc (v := 5) (lv' := [(3, .int 5), (0, .ref r), (1, .int 0), (2, .int 0)]) dX6_kindFrom_20 rfl (by decide) (by decide) rfl ?_
                      refine gz_goto (tgt := 2) dX6_kindFrom_23 (by decide) ?_
                      refine gz_iload_n dX6_kindFrom_2 rfl rfl ?_
                      refine gz_bipush (v := 11) dX6_kindFrom_3 (by decide) ?_
                      refine gz_icmp_ge (tgt := 26) dX6_kindFrom_5 (by decide) (fun c_5_9 => ?_) (fun c_5_9 => ?_)
                      · exact absurd c_5_9 (by decide)
                      ·
                        refine gz_aload_n dX6_kindFrom_8 rfl rfl ?_
                        refine gz_iload_n dX6_kindFrom_9 rfl rfl ?_
                        refine gz_iload_n dX6_kindFrom_10 rfl rfl ?_
                        refine gz_iload_n dX6_kindFrom_11 rfl rfl ?_
                        refine scX6_61 (k_X6_isNamed (r := r) (k := 5)) hr ⟨(Nat.le_of_ble_eq_true rfl), (Nat.le_of_ble_eq_true rfl)⟩ ⟨(Nat.le_of_ble_eq_true rfl), (Nat.le_of_ble_eq_true rfl)⟩ rfl rfl (Nat.le_of_ble_eq_true rfl) dX6_kindFrom_12 ?_
                        intro v9 f9 z9; rw [z9.1, z9.2]
                        refine gz_if_eq (tgt := 20) dX6_kindFrom_15 (by decide) (fun c_15_10 => ?_) (fun c_15_10 => ?_)
                        ·
                          refine gz_iinc (v := 6) (lv' := [(3, .int 6), (0, .ref r), (1, .int 0), (2, .int 0)]) dX6_kindFrom_20 rfl (by decide) (by decide) rfl ?_
                          refine gz_goto (tgt := 2) dX6_kindFrom_23 (by decide) ?_
                          refine gz_iload_n dX6_kindFrom_2 rfl rfl ?_
                          refine gz_bipush (v := 11) dX6_kindFrom_3 (by decide) ?_
                          refine gz_icmp_ge (tgt := 26) dX6_kindFrom_5 (by decide) (fun c_5_11 => ?_) (fun c_5_11 => ?_)
                          · exact absurd c_5_11 (by decide)
                          ·
                            refine gz_aload_n dX6_kindFrom_8 rfl rfl ?_
                            refine gz_iload_n dX6_kindFrom_9 rfl rfl ?_
                            refine gz_iload_n dX6_kindFrom_10 rfl rfl ?_
                            refine gz_iload_n dX6_kindFrom_11 rfl rfl ?_
                            refine scX6_61 (k_X6_isNamed (r := r) (k := 6)) hr ⟨(Nat.le_of_ble_eq_true rfl), (Nat.le_of_ble_eq_true rfl)⟩ ⟨(Nat.le_of_ble_eq_true rfl), (Nat.le_of_ble_eq_true rfl)⟩ rfl rfl (Nat.le_of_ble_eq_true rfl) dX6_kindFrom_12 ?_
                            intro v9 f9 z9; rw [z9.1, z9.2]
                            refine gz_if_eq (tgt := 20) dX6_kindFrom_15 (by decide) (fun c_15_12 => ?_) (fun c_15_12 => ?_)
                            ·
                              refine gz_iinc (v := 7) (lv' := [(3, .int 7), (0, .ref r), (1, .int 0), (2, .int 0)]) dX6_kindFrom_20 rfl (by decide) (by decide) rfl ?_
                              refine gz_goto (tgt := 2) dX6_kindFrom_23 (by decide) ?_
                              refine gz_iload_n dX6_kindFrom_2 rfl rfl ?_
                              refine gz_bipush (v := 11) dX6_kindFrom_3 (by decide) ?_
                              refine gz_icmp_ge (tgt := 26) dX6_kindFrom_5 (by decide) (fun c_5_13 => ?_) (fun c_5_13 => ?_)
                              · exact absurd c_5_13 (by decide)
                              ·
                                refine gz_aload_n dX6_kindFrom_8 rfl rfl ?_
                                refine gz_iload_n dX6_kindFrom_9 rfl rfl ?_
                                refine gz_iload_n dX6_kindFrom_10 rfl rfl ?_
                                refine gz_iload_n dX6_kindFrom_11 rfl rfl ?_
                                refine scX6_61 (k_X6_isNamed (r := r) (k := 7)) hr ⟨(Nat.le_of_ble_eq_true rfl), (Nat.le_of_ble_eq_true rfl)⟩ ⟨(Nat.le_of_ble_eq_true rfl), (Nat.le_of_ble_eq_true rfl)⟩ rfl rfl (Nat.le_of_ble_eq_true rfl) dX6_kindFrom_12 ?_
                                intro v9 f9 z9; rw [z9.1, z9.2]
                                refine gz_if_eq (tgt := 20) dX6_kindFrom_15 (by decide) (fun c_15_14 => ?_) (fun c_15_14 => ?_)
                                ·
                                  refine gz_iinc (v := 8) (lv' := [(3, .int 8), (0, .ref r), (1, .int 0), (2, .int 0)]) dX6_kindFrom_20 rfl (by decide) (by decide) rfl ?_
                                  refine gz_goto (tgt := 2) dX6_kindFrom_23 (by decide) ?_
                                  refine gz_iload_n dX6_kindFrom_2 rfl rfl ?_
                                  refine gz_bipush (v := 11) dX6_kindFrom_3 (by decide) ?_
                                  refine gz_icmp_ge (tgt := 26) dX6_kindFrom_5 (by decide) (fun c_5_15 => ?_) (fun c_5_15 => ?_)
                                  · exact absurd c_5_15 (by decide)
                                  ·
                                    refine gz_aload_n dX6_kindFrom_8 rfl rfl ?_
                                    refine gz_iload_n dX6_kindFrom_9 rfl rfl ?_
                                    refine gz_iload_n dX6_kindFrom_10 rfl rfl ?_
                                    refine gz_iload_n dX6_kindFrom_11 rfl rfl ?_
                                    refine scX6_61 (k_X6_isNamed (r := r) (k := 8)) hr ⟨(Nat.le_of_ble_eq_true rfl), (Nat.le_of_ble_eq_true rfl)⟩ ⟨(Nat.le_of_ble_eq_true rfl), (Nat.le_of_ble_eq_true rfl)⟩ rfl rfl (Nat.le_of_ble_eq_true rfl) dX6_kindFrom_12 ?_
                                    intro v9 f9 z9; rw [z9.1, z9.2]
                                    refine gz_if_eq (tgt := 20) dX6_kindFrom_15 (by decide) (fun c_15_16 => ?_) (fun c_15_16 => ?_)
                                    ·
                                      refine gz_iinc (v := 9) (lv' := [(3, .int 9), (0, .ref r), (1, .int 0), (2, .int 0)]) dX6_kindFrom_20 rfl (by decide) (by decide) rfl ?_
                                      refine gz_goto (tgt := 2) dX6_kindFrom_23 (by decide) ?_
                                      refine gz_iload_n dX6_kindFrom_2 rfl rfl ?_
                                      refine gz_bipush (v := 11) dX6_kindFrom_3 (by decide) ?_
                                      refine gz_icmp_ge (tgt := 26) dX6_kindFrom_5 (by decide) (fun c_5_17 => ?_) (fun c_5_17 => ?_)
                                      · exact absurd c_5_17 (by decide)
                                      ·
                                        refine gz_aload_n dX6_kindFrom_8 rfl rfl ?_
                                        refine gz_iload_n dX6_kindFrom_9 rfl rfl ?_
                                        refine gz_iload_n dX6_kindFrom_10 rfl rfl ?_
                                        refine gz_iload_n dX6_kindFrom_11 rfl rfl ?_
                                        refine scX6_61 (k_X6_isNamed (r := r) (k := 9)) hr ⟨(Nat.le_of_ble_eq_true rfl), (Nat.le_of_ble_eq_true rfl)⟩ ⟨(Nat.le_of_ble_eq_true rfl), (Nat.le_of_ble_eq_true rfl)⟩ rfl rfl (Nat.le_of_ble_eq_true rfl) dX6_kindFrom_12 ?_
                                        intro v9 f9 z9; rw [z9.1, z9.2]
                                        refine gz_if_eq (tgt := 20) dX6_kindFrom_15 (by decide) (fun c_15_18 => ?_) (fun c_15_18 => ?_)
                                        ·
                                          refine gz_iinc (v := 10) (lv' := [(3, .int 10), (0, .ref r), (1, .int 0), (2, .int 0)]) dX6_kindFrom_20 rfl (by decide) (by decide) rfl ?_
                                          refine gz_goto (tgt := 2) dX6_kindFrom_23 (by decide) ?_
                                          refine gz_iload_n dX6_kindFrom_2 rfl rfl ?_
                                          refine gz_bipush (v := 11) dX6_kindFrom_3 (by decide) ?_
                                          refine gz_icmp_ge (tgt := 26) dX6_kindFrom_5 (by decide) (fun c_5_19 => ?_) (fun c_5_19 => ?_)
                                          · exact absurd c_5_19 (by decide)
                                          ·
                                            refine gz_aload_n dX6_kindFrom_8 rfl rfl ?_
                                            refine gz_iload_n dX6_kindFrom_9 rfl rfl ?_
                                            refine gz_iload_n dX6_kindFrom_10 rfl rfl ?_
                                            refine gz_iload_n dX6_kindFrom_11 rfl rfl ?_
                                            refine scX6_61 (k_X6_isNamed (r := r) (k := 10)) hr ⟨(Nat.le_of_ble_eq_true rfl), (Nat.le_of_ble_eq_true rfl)⟩ ⟨(Nat.le_of_ble_eq_true rfl), (Nat.le_of_ble_eq_true rfl)⟩ rfl rfl (Nat.le_of_ble_eq_true rfl) dX6_kindFrom_12 ?_
                                            intro v9 f9 z9; rw [z9.1, z9.2]
                                            refine gz_if_eq (tgt := 20) dX6_kindFrom_15 (by decide) (fun c_15_20 => ?_) (fun c_15_20 => ?_)
                                            ·
                                              refine gz_iinc (v := 11) (lv' := [(3, .int 11), (0, .ref r), (1, .int 0), (2, .int 0)]) dX6_kindFrom_20 rfl (by decide) (by decide) rfl ?_
                                              refine gz_goto (tgt := 2) dX6_kindFrom_23 (by decide) ?_
                                              refine gz_iload_n dX6_kindFrom_2 rfl rfl ?_
                                              refine gz_bipush (v := 11) dX6_kindFrom_3 (by decide) ?_
                                              refine gz_icmp_ge (tgt := 26) dX6_kindFrom_5 (by decide) (fun c_5_21 => ?_) (fun c_5_21 => ?_)
                                              ·
                                                refine gz_iconst (v := (-1)) dX6_kindFrom_26 (by decide) ?_
                                                exact gz_iret rfl dX6_kindFrom_27 (Nat.le_of_ble_eq_true rfl) (Nat.le_of_ble_eq_true rfl) (⟨_, rfl, rfl, rfl⟩)
                                              · exact absurd c_5_21 (by decide)
                                            · exact absurd c_15_20 (by decide)
                                        · exact absurd c_15_18 (by decide)
                                    · exact absurd c_15_16 (by decide)
                                · exact absurd c_15_14 (by decide)
                            · exact absurd c_15_12 (by decide)
                        · exact absurd c_15_10 (by decide)
                    · exact absurd c_15_8 (by decide)
                · exact absurd c_15_6 (by decide)
            · exact absurd c_15_4 (by decide)
        · exact absurd c_15_2 (by decide)
    · exact absurd c_15 (by decide)

set_option maxHeartbeats 4000000 in
set_option maxRecDepth 100000 in
theorem k_X6_fail {l : Launch} {D : va_G} {cy : Nat → ClassId} {b : Nat} {f : gMem} {r tp dr : Nat} (hr : f r = some (.inr (6, [.ref tp, .ref dr, .int 0, .int 0])))  : gC l D cy b yX6_fail cX6_fail 4 (some .boolean) 1 0 0 [.ref r, .int 0, .int 0] f (pI fun v f2 => v = 0 ∧ f2 r = some (.inr (6, [.ref tp, .ref dr, .int 0, .int 1])) ∧ fr [r] f f2) := by
  refine gC_of (by decide) (Nat.le_of_ble_eq_true rfl) ?_
  show gG l _ _ _ D cy b cX6_fail 4 _ RX6 "fail" 0 0 f 0 [(0, .ref r), (1, .int 0), (2, .int 0)] []
  refine gz_iconst (v := 1) dX6_fail_0 (by decide) ?_
  refine gz_bipush (v := 8) dX6_fail_1 (by decide) ?_
  refine gz_iload_n dX6_fail_3 rfl rfl ?_
  refine gz_imul dX6_fail_4 ?_
  refine gz_ev (w := .int 0) (by decide) ?_
  refine gz_iadd dX6_fail_5 ?_
  refine gz_ev (w := .int 1) (by decide) ?_
  refine gz_iload_n dX6_fail_6 rfl rfl ?_
  refine gz_iadd dX6_fail_7 ?_
  refine gz_ev (w := .int 1) (by decide) ?_
  refine gz_istore_n (lv' := [(3, .int 1), (0, .ref r), (1, .int 0), (2, .int 0)]) dX6_fail_8 rfl (by decide) rfl ?_
  refine gz_aload_n dX6_fail_9 rfl rfl ?_
  refine gz_aload_n dX6_fail_10 rfl rfl ?_
  refine sgX6_23 hr rfl dX6_fail_11 ?_
  refine gz_if_ne (tgt := 21) dX6_fail_14 (by decide) (fun c_14 => ?_) (fun c_14 => ?_)
  · exact absurd c_14 (by decide)
  ·
    refine gz_iload_n dX6_fail_17 rfl rfl ?_
    refine gz_goto (tgt := 29) dX6_fail_18 (by decide) ?_
    refine spX6_23 hr  (Nat.le_of_ble_eq_true rfl) dX6_fail_29 ?_
    obtain ⟨f1, hf1⟩ : ∃ gg : gMem, gg = va_up f r (some (.inr (6, [.ref tp, .ref dr, .int 0, .int 1]))) := ⟨_, rfl⟩
    refine gz_eq (f2 := f1) hf1.symm rfl rfl rfl ?_
    have hr_1 : f1 r = some (.inr (6, [.ref tp, .ref dr, .int 0, .int 1])) := by rw [hf1]; exact va_up_self _ _ _
    refine gz_iconst (v := 0) dX6_fail_32 (by decide) ?_
    exact gz_zret rfl (by decide) dX6_fail_33 (Nat.le_of_ble_eq_true rfl) (Nat.le_of_ble_eq_true rfl) (⟨_, rfl, rfl, hr_1, by rw [hf1]; exact fr_up (fr_rf) (by simp)⟩)

set_option maxHeartbeats 4000000 in
set_option maxRecDepth 100000 in
theorem k_X6_readDeed {l : Launch} {D : va_G} {cy : Nat → ClassId} {b : Nat} {f : gMem} {r tp dr by_ : Nat} {gby : Nat → Int32} (hr : f r = some (.inr (6, [.ref tp, .ref dr, .int 0, .int 0]))) (htp : f tp = some (.inr (9, [.ref by_, .int 0]))) (hby : f by_ = some (.inl (cy 1, 400, .inl (gby))))  : gC l D cy b yX6_readDeed cX6_readDeed 7 (some .boolean) 2 0 0 [.ref r, .int (-1), .int 0] f (pI fun v f2 => v = 0 ∧ f2 r = some (.inr (6, [.ref tp, .ref dr, .int 0, .int 1])) ∧ fr [r] f f2) := by
  refine gC_of (by decide) (Nat.le_of_ble_eq_true rfl) ?_
  show gG l _ _ _ D cy b cX6_readDeed 7 _ RX6 "readDeed" 0 0 f 0 [(0, .ref r), (1, .int (-1)), (2, .int 0)] []
  refine gz_aload_n dX6_readDeed_0 rfl rfl ?_
  refine scX6_35 (k_X6_upNext hr htp hby) hr ⟨(Nat.le_of_ble_eq_true rfl), (Nat.le_of_ble_eq_true rfl)⟩ ⟨(Nat.le_of_ble_eq_true rfl), (Nat.le_of_ble_eq_true rfl)⟩ rfl rfl (Nat.le_of_ble_eq_true rfl) dX6_readDeed_1 ?_
  intro v9 f9 z9; rw [z9.1, z9.2]
  refine gz_pop dX6_readDeed_4 rfl ?_
  refine gz_aload_n dX6_readDeed_5 rfl rfl ?_
  refine sgX6_19 hr rfl dX6_readDeed_6 ?_
  refine gz_istore_n (lv' := [(3, .int 0), (0, .ref r), (1, .int (-1)), (2, .int 0)]) dX6_readDeed_9 rfl (by decide) rfl ?_
  refine gz_aload_n dX6_readDeed_10 rfl rfl ?_
  refine gz_iload_n dX6_readDeed_11 rfl rfl ?_
  refine scX6_65 (k_X6_lettersFrom hr htp hby) hr ⟨(Nat.le_of_ble_eq_true rfl), (Nat.le_of_ble_eq_true rfl)⟩ ⟨(Nat.le_of_ble_eq_true rfl), (Nat.le_of_ble_eq_true rfl)⟩ rfl rfl (Nat.le_of_ble_eq_true rfl) dX6_readDeed_12 ?_
  intro v9 f9 z9; rw [z9.1, z9.2]
  refine gz_istore (lv' := [(4, .int 0), (3, .int 0), (0, .ref r), (1, .int (-1)), (2, .int 0)]) dX6_readDeed_15 (by decide) rfl ?_
  refine gz_aload_n dX6_readDeed_17 rfl rfl ?_
  refine gz_iload_n dX6_readDeed_18 rfl rfl ?_
  refine gz_iload dX6_readDeed_19 rfl ?_
  refine scX6_68 (k_X6_kindFrom hr) hr ⟨(Nat.le_of_ble_eq_true rfl), (Nat.le_of_ble_eq_true rfl)⟩ ⟨(Nat.le_of_ble_eq_true rfl), (Nat.le_of_ble_eq_true rfl)⟩ rfl rfl (Nat.le_of_ble_eq_true rfl) dX6_readDeed_21 ?_
  intro v9 f9 z9; rw [z9.1, z9.2]
  refine gz_istore (lv' := [(5, .int (-1)), (4, .int 0), (3, .int 0), (0, .ref r), (1, .int (-1)), (2, .int 0)]) dX6_readDeed_24 (by decide) rfl ?_
  refine gz_iload dX6_readDeed_26 rfl ?_
  refine gz_iconst (v := (-1)) dX6_readDeed_28 (by decide) ?_
  refine gz_icmp_ne (tgt := 39) dX6_readDeed_29 (by decide) (fun c_29 => ?_) (fun c_29 => ?_)
  · exact absurd c_29 (by decide)
  ·
    refine gz_aload_n dX6_readDeed_32 rfl rfl ?_
    refine gz_iload_n dX6_readDeed_33 rfl rfl ?_
    refine gz_iconst (v := 0) dX6_readDeed_34 (by decide) ?_
    refine scX6_39 (k_X6_fail hr) hr ⟨(Nat.le_of_ble_eq_true rfl), (Nat.le_of_ble_eq_true rfl)⟩ ⟨(Nat.le_of_ble_eq_true rfl), (Nat.le_of_ble_eq_true rfl)⟩ rfl rfl (Nat.le_of_ble_eq_true rfl) dX6_readDeed_35 ?_
    rintro v9 f9 ⟨z1, z2⟩; rw [z1]
    exact gz_zret rfl (by decide) dX6_readDeed_38 (Nat.le_of_ble_eq_true rfl) (Nat.le_of_ble_eq_true rfl) (⟨_, rfl, rfl, z2⟩)

set_option maxHeartbeats 4000000 in
set_option maxRecDepth 100000 in
theorem k_X6_readTape {l : Launch} {D : va_G} {cy : Nat → ClassId} {b : Nat} {f : gMem} {r tp dr by_ d1 d2 : Nat} {pl fa ds dv : Int32} {gby : Nat → Int32} (hr : f r = some (.inr (6, [.ref tp, .ref dr, .int pl, .int fa]))) (htp : f tp = some (.inr (9, [.ref by_, .int 0]))) (hby : f by_ = some (.inl (cy 1, 400, .inl (gby)))) (hdr : f dr = some (.inr (2, [.ref d1, .ref d2, .int ds, .int dv])))  : gC l D cy b yX6_readTape cX6_readTape 1 (some .int) 3 0 0 [.ref r] f (pI fun v f2 => v = 1 ∧ fr [r, dr] f f2) := by
  refine gC_of (by decide) (Nat.le_of_ble_eq_true rfl) ?_
  show gG l _ _ _ D cy b cX6_readTape 1 _ RX6 "readTape" 0 0 f 0 [(0, .ref r)] []
  refine gz_aload_n dX6_readTape_0 rfl rfl ?_
  refine gz_iconst (v := 0) dX6_readTape_1 (by decide) ?_
  refine spX6_19 hr  (Nat.le_of_ble_eq_true rfl) dX6_readTape_2 ?_
  obtain ⟨f1, hf1⟩ : ∃ gg : gMem, gg = va_up f r (some (.inr (6, [.ref tp, .ref dr, .int 0, .int fa]))) := ⟨_, rfl⟩
  refine gz_eq (f2 := f1) hf1.symm rfl rfl rfl ?_
  have htp_1 : f1 tp = some (.inr (9, [.ref by_, .int 0])) := by rw [hf1, va_up_ne _ _ (cne htp hr (by simp))]; exact htp
  have hby_1 : f1 by_ = some (.inl (cy 1, 400, .inl (gby))) := by rw [hf1, va_up_ne _ _ (cne hby hr (by simp))]; exact hby
  have hdr_1 : f1 dr = some (.inr (2, [.ref d1, .ref d2, .int ds, .int dv])) := by rw [hf1, va_up_ne _ _ (cne hdr hr (by simp))]; exact hdr
  have hr_1 : f1 r = some (.inr (6, [.ref tp, .ref dr, .int 0, .int fa])) := by rw [hf1]; exact va_up_self _ _ _
  refine gz_aload_n dX6_readTape_5 rfl rfl ?_
  refine gz_iconst (v := 0) dX6_readTape_6 (by decide) ?_
  refine spX6_23 hr_1  (Nat.le_of_ble_eq_true rfl) dX6_readTape_7 ?_
  obtain ⟨f2, hf2⟩ : ∃ gg : gMem, gg = va_up f1 r (some (.inr (6, [.ref tp, .ref dr, .int 0, .int 0]))) := ⟨_, rfl⟩
  refine gz_eq (f2 := f2) hf2.symm rfl rfl rfl ?_
  have htp_2 : f2 tp = some (.inr (9, [.ref by_, .int 0])) := by rw [hf2, va_up_ne _ _ (cne htp_1 hr_1 (by simp))]; exact htp_1
  have hby_2 : f2 by_ = some (.inl (cy 1, 400, .inl (gby))) := by rw [hf2, va_up_ne _ _ (cne hby_1 hr_1 (by simp))]; exact hby_1
  have hdr_2 : f2 dr = some (.inr (2, [.ref d1, .ref d2, .int ds, .int dv])) := by rw [hf2, va_up_ne _ _ (cne hdr_1 hr_1 (by simp))]; exact hdr_1
  have hr_2 : f2 r = some (.inr (6, [.ref tp, .ref dr, .int 0, .int 0])) := by rw [hf2]; exact va_up_self _ _ _
  refine gz_aload_n dX6_readTape_10 rfl rfl ?_
  refine sgX6_15 hr_2 rfl dX6_readTape_11 ?_
  refine scX6_26 (k_X2_clear hdr_2) hdr_2 ⟨(Nat.le_of_ble_eq_true rfl), (Nat.le_of_ble_eq_true rfl)⟩ ⟨(Nat.le_of_ble_eq_true rfl), (Nat.le_of_ble_eq_true rfl)⟩ rfl rfl (Nat.le_of_ble_eq_true rfl) dX6_readTape_14 ?_
  intro f8 z8
  have kr : f8 r = some (.inr (6, [.ref tp, .ref dr, .int 0, .int 0])) := z8 _ _ hr_2 (by simpa using cne hr_2 hdr_2 (by simp))
  have ktp : f8 tp = some (.inr (9, [.ref by_, .int 0])) := z8 _ _ htp_2 (by simpa using cne htp_2 hdr_2 (by simp))
  have kby_ : f8 by_ = some (.inl (cy 1, 400, .inl (gby))) := z8 _ _ hby_2 (by simpa using cne hby_2 hdr_2 (by simp))
  refine gz_aload_n dX6_readTape_17 rfl rfl ?_
  refine gz_iconst (v := (-1)) dX6_readTape_18 (by decide) ?_
  refine gz_iconst (v := 0) dX6_readTape_19 (by decide) ?_
  refine scX6_31 (k_X6_readDeed kr ktp kby_) kr ⟨(Nat.le_of_ble_eq_true rfl), (Nat.le_of_ble_eq_true rfl)⟩ ⟨(Nat.le_of_ble_eq_true rfl), (Nat.le_of_ble_eq_true rfl)⟩ rfl rfl (Nat.le_of_ble_eq_true rfl) dX6_readTape_20 ?_
  rintro v9 f9 ⟨z1, z2, z3⟩; rw [z1]
  refine gz_if_eq (tgt := 44) dX6_readTape_23 (by decide) (fun c_23 => ?_) (fun c_23 => ?_)
  ·
    refine gz_aload_n dX6_readTape_44 rfl rfl ?_
    refine sgX6_23 z2 rfl dX6_readTape_45 ?_
    exact gz_iret rfl dX6_readTape_48 (Nat.le_of_ble_eq_true rfl) (Nat.le_of_ble_eq_true rfl) (⟨_, rfl, rfl, fr_tr (fr_tr (by rw [hf2, hf1]; exact fr_up (fr_up fr_rf (by simp)) (by simp)) (fr_mo z8 (by simp))) (fr_mo z3 (by simp))⟩)
  · exact absurd c_23 (by decide)

set_option maxHeartbeats 4000000 in
set_option maxRecDepth 100000 in
theorem k_X11_form {l : Launch} {D : va_G} {cy : Nat → ClassId} {b : Nat} {f : gMem} {x ch tp ou fo dr ot rd te la le co wo : Nat} {by_ d1 d2 : Nat} {pl fa ds dv : Int32} {gby : Nat → Int32} (hx : f x = some (.inr (11, [.ref ch, .ref tp, .ref ou, .ref fo, .ref dr, .ref ot, .ref rd, .ref te, .ref la, .ref le, .ref co, .ref wo, .int 0]))) (hrd : f rd = some (.inr (6, [.ref tp, .ref dr, .int pl, .int fa]))) (htp : f tp = some (.inr (9, [.ref by_, .int 0]))) (hby : f by_ = some (.inl (cy 1, 400, .inl (gby)))) (hdr : f dr = some (.inr (2, [.ref d1, .ref d2, .int ds, .int dv])))  : gC l D cy b yX11_form cX11_form 2 (some .int) 4 0 0 [.ref x] f (pI fun r f2 => r = -3 ∧ fr [rd, dr, tp] f f2) := by
  refine gC_of (by decide) (Nat.le_of_ble_eq_true rfl) ?_
  show gG l _ _ _ D cy b cX11_form 2 _ RX11 "form" 0 0 f 0 [(0, .ref x)] []
  refine gz_aload_n dX11_form_0 rfl rfl ?_
  refine sgX11_116 hx rfl dX11_form_1 ?_
  refine gz_bipush (v := 20) dX11_form_4 (by decide) ?_
  refine gz_icmp_lt (tgt := 11) dX11_form_6 (by decide) (fun c_6 => ?_) (fun c_6 => ?_)
  ·
    refine gz_aload_n dX11_form_11 rfl rfl ?_
    refine sgX11_49 hx rfl dX11_form_12 ?_
    refine scX11_120 (k_X6_readTape hrd htp hby hdr) hrd ⟨(Nat.le_of_ble_eq_true rfl), (Nat.le_of_ble_eq_true rfl)⟩ ⟨(Nat.le_of_ble_eq_true rfl), (Nat.le_of_ble_eq_true rfl)⟩ rfl rfl (Nat.le_of_ble_eq_true rfl) dX11_form_15 ?_
    rintro v9 f9 ⟨z1, z2⟩; rw [z1]
    have kx : f9 x = some (.inr (11, [.ref ch, .ref tp, .ref ou, .ref fo, .ref dr, .ref ot, .ref rd, .ref te, .ref la, .ref le, .ref co, .ref wo, .int 0])) := z2 _ _ hx (by simp; exact ⟨cne hx hrd (by simp), cne hx hdr (by simp)⟩)
    have ktp : f9 tp = some (.inr (9, [.ref by_, .int 0])) := z2 _ _ htp (by simp; exact ⟨cne htp hrd (by simp), cne htp hdr (by simp)⟩)
    refine gz_istore_n (lv' := [(1, .int 1), (0, .ref x)]) dX11_form_18 rfl (by decide) rfl ?_
    refine gz_aload_n dX11_form_19 rfl rfl ?_
    refine sgX11_21 kx rfl dX11_form_20 ?_
    refine gz_iconst (v := 0) dX11_form_23 (by decide) ?_
    refine scX11_113 (k_X9_cut (x := 0) ktp) ktp ⟨(Nat.le_of_ble_eq_true rfl), (Nat.le_of_ble_eq_true rfl)⟩ ⟨(Nat.le_of_ble_eq_true rfl), (Nat.le_of_ble_eq_true rfl)⟩ rfl rfl (Nat.le_of_ble_eq_true rfl) dX11_form_24 ?_
    intro f7 z7
    refine gz_iload_n dX11_form_27 rfl rfl ?_
    refine gz_if_le (tgt := 38) dX11_form_28 (by decide) (fun c_28 => ?_) (fun c_28 => ?_)
    · exact absurd c_28 (by decide)
    ·
      refine gz_bipush (v := (-2)) dX11_form_31 (by decide) ?_
      refine gz_iload_n dX11_form_33 rfl rfl ?_
      refine gz_isub dX11_form_34 ?_
      refine gz_ev (w := .int (-3)) (by decide) ?_
      refine gz_goto (tgt := 42) dX11_form_35 (by decide) ?_
      exact gz_iret rfl dX11_form_42 (Nat.le_of_ble_eq_true rfl) (Nat.le_of_ble_eq_true rfl) (⟨_, rfl, rfl, fr_tr (fr_mo z2 (by simp)) (fr_mo z7.2 (by simp))⟩)
  · exact absurd c_6 (by decide)
