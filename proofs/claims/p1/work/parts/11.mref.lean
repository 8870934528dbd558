/-- the answers of a first call on a fresh object -/
def spSee (t d v : Int32) : Int32 := if 0 ≤ t.toInt ∧ t.toInt ≤ 5 ∧ d.toInt = 0 ∧ -9999 ≤ v.toInt ∧ v.toInt ≤ 9999 then 1 else 0
def spSeen (t d : Int32) : Int32 := if 0 ≤ t.toInt ∧ t.toInt ≤ 5 ∧ 0 ≤ d.toInt ∧ d.toInt ≤ 399 then 0 else -10000
def spEnd (n : Int32) : Int32 := if n.toInt = 0 then 0 else -1
def spNet (d : Int32) : Int32 := if 0 ≤ d.toInt ∧ d.toInt ≤ 399 then 0 else -1
def spWays (n : Int32) : Int32 := if 1 ≤ n.toInt ∧ n.toInt ≤ 3 then 1 else 0
def spWeight (y w : Int32) : Int32 := if y.toInt = 0 ∧ 1 ≤ w.toInt ∧ w.toInt ≤ 4 then 1 else 0
def spAdds (y t v : Int32) : Int32 := if y.toInt = 0 ∧ 0 ≤ t.toInt ∧ t.toInt ≤ 5 ∧ -99 ≤ v.toInt ∧ v.toInt ≤ 99 then 1 else 0
def spCount (k : Int32) : Int32 := if k.toInt = 6 then 1 else if 0 ≤ k.toInt ∧ k.toInt ≤ 7 then 0 else -1

set_option maxHeartbeats 4000000 in
set_option maxRecDepth 100000 in
theorem k_X12_in {l : Launch} {D : va_G} {cy : Nat → ClassId} {b : Nat} {f : gMem} {x y w : Int64}   : gC l D cy b yX12_in cX12_in 6 (some .boolean) 0 0 0 [.long x, .long y, .long w] f (pI fun v f2 => v = mIn x y w ∧ f2 = f) := by
  refine gC_of (by decide) (Nat.le_of_ble_eq_true rfl) ?_
  show gG l _ _ _ D cy b cX12_in 6 _ RX12 "in" 0 0 f 0 [(0, .long x), (2, .long y), (4, .long w)] []
  refine gz_lload_n dX12_in_0 rfl rfl ?_
  refine gz_lload_n dX12_in_1 rfl rfl ?_
  refine gz_lcmp dX12_in_2 ?_
  refine gz_if_lt (tgt := 17) dX12_in_3 (by decide) (fun c_3 => ?_) (fun c_3 => ?_)
  ·
    refine gz_iconst (v := 0) dX12_in_17 (by decide) ?_
    exact gz_zret rfl (by decide) dX12_in_18 (Nat.le_of_ble_eq_true rfl) (Nat.le_of_ble_eq_true rfl) (⟨_, rfl, by simp only [lgc_lt, lgc_gt] at c_3; simp [mIn, c_3], rfl⟩)
  ·
    refine gz_lload_n dX12_in_6 rfl rfl ?_
    refine gz_lload dX12_in_7 rfl ?_
    refine gz_lcmp dX12_in_9 ?_
    refine gz_if_gt (tgt := 17) dX12_in_10 (by decide) (fun c_10 => ?_) (fun c_10 => ?_)
    ·
      refine gz_iconst (v := 0) dX12_in_17 (by decide) ?_
      exact gz_zret rfl (by decide) dX12_in_18 (Nat.le_of_ble_eq_true rfl) (Nat.le_of_ble_eq_true rfl) (⟨_, rfl, by simp only [lgc_lt, lgc_gt] at c_3 c_10; simp [mIn, c_3, c_10], rfl⟩)
    ·
      refine gz_iconst (v := 1) dX12_in_13 (by decide) ?_
      refine gz_goto (tgt := 18) dX12_in_14 (by decide) ?_
      exact gz_zret rfl (by decide) dX12_in_18 (Nat.le_of_ble_eq_true rfl) (Nat.le_of_ble_eq_true rfl) (⟨_, rfl, by simp only [lgc_lt, lgc_gt] at c_3 c_10; simp [mIn, c_3, c_10], rfl⟩)

set_option maxHeartbeats 4000000 in
set_option maxRecDepth 100000 in
theorem k_X12_see {l : Launch} {D : va_G} {cy : Nat → ClassId} {b : Nat} {f : gMem} {m : Nat} {a : Nat → Nat} {f0 : gMem} {n : Nat → Int32} {z : Nat → Int64} {F : Nat → Nat → Int32} {G : Nat → Nat → Int64} {t d v : Int32}  (hS : mS cy m a f0 n z F G f) (h0 : n 0 = 0) : gC l D cy b yX12_see cX12_see 4 (some .boolean) 1 0 0 [.ref m, .int t, .int d, .int v] f (pI fun r f2 => r = spSee t d v) := by
  refine gC_of (by decide) (Nat.le_of_ble_eq_true rfl) ?_
  show gG l _ _ _ D cy b cX12_see 4 _ RX12 "see" 0 0 f 0 [(0, .ref m), (1, .int t), (2, .int d), (3, .int v)] []
  refine gz_iload_n dX12_see_0 rfl rfl ?_
  refine gz_i2l dX12_see_1 ?_
  refine gz_lconst (v := 0) dX12_see_2 (by decide) ?_
  refine gz_ldc2 (v := (5)) wd_87 dX12_see_3 ?_
  refine scX12_245 (k_X12_in (x := t.toInt64) (y := 0) (w := (5))) ⟨(Nat.le_of_ble_eq_true rfl), (Nat.le_of_ble_eq_true rfl)⟩ ⟨(Nat.le_of_ble_eq_true rfl), (Nat.le_of_ble_eq_true rfl)⟩ rfl rfl (Nat.le_of_ble_eq_true rfl) dX12_see_6 ?_
  rintro _ _ ⟨rfl, rfl⟩
  refine gz_if_eq (tgt := 40) dX12_see_9 (by decide) (fun c_9 => ?_) (fun c_9 => ?_)
  ·
    refine gz_iconst (v := 0) dX12_see_40 (by decide) ?_
    exact gz_zret rfl (by decide) dX12_see_41 (Nat.le_of_ble_eq_true rfl) (Nat.le_of_ble_eq_true rfl) (⟨_, rfl, (by show _ = _; have e0 : (0 : Int32).toInt = 0 := rfl; have E0 : (0 : Int64).toInt = 0 := rfl; have e1 : (1 : Int32).toInt = 1 := rfl; have E1 : (1 : Int64).toInt = 1 := rfl; have e2 : (2 : Int32).toInt = 2 := rfl; have E2 : (2 : Int64).toInt = 2 := rfl; have e3 : (3 : Int32).toInt = 3 := rfl; have E3 : (3 : Int64).toInt = 3 := rfl; have e4 : (4 : Int32).toInt = 4 := rfl; have E4 : (4 : Int64).toInt = 4 := rfl; have e5 : (5 : Int32).toInt = 5 := rfl; have E5 : (5 : Int64).toInt = 5 := rfl; have e6 : (6 : Int32).toInt = 6 := rfl; have E6 : (6 : Int64).toInt = 6 := rfl; have e7 : (7 : Int32).toInt = 7 := rfl; have E7 : (7 : Int64).toInt = 7 := rfl; have e8 : (8 : Int32).toInt = 8 := rfl; have E8 : (8 : Int64).toInt = 8 := rfl; have e20 : (20 : Int32).toInt = 20 := rfl; have E20 : (20 : Int64).toInt = 20 := rfl; have e39 : (39 : Int32).toInt = 39 := rfl; have E39 : (39 : Int64).toInt = 39 := rfl; have e40 : (40 : Int32).toInt = 40 := rfl; have E40 : (40 : Int64).toInt = 40 := rfl; have e99 : (99 : Int32).toInt = 99 := rfl; have E99 : (99 : Int64).toInt = 99 := rfl; have em99 : ((-99) : Int32).toInt = (-99) := rfl; have Em99 : ((-99) : Int64).toInt = (-99) := rfl; have e399 : (399 : Int32).toInt = 399 := rfl; have E399 : (399 : Int64).toInt = 399 := rfl; have e400 : (400 : Int32).toInt = 400 := rfl; have E400 : (400 : Int64).toInt = 400 := rfl; have e9999 : (9999 : Int32).toInt = 9999 := rfl; have E9999 : (9999 : Int64).toInt = 9999 := rfl; have em9999 : ((-9999) : Int32).toInt = (-9999) := rfl; have Em9999 : ((-9999) : Int64).toInt = (-9999) := rfl; have em10000 : ((-10000) : Int32).toInt = (-10000) := rfl; have Em10000 : ((-10000) : Int64).toInt = (-10000) := rfl; have em1 : ((-1) : Int32).toInt = (-1) := rfl; have Em1 : ((-1) : Int64).toInt = (-1) := rfl; have e10 : (10 : Int32).toInt = 10 := rfl; have E10 : (10 : Int64).toInt = 10 := rfl; have e17 : (17 : Int32).toInt = 17 := rfl; have E17 : (17 : Int64).toInt = 17 := rfl; (try simp only [mIn_0, lgc_lt, lgc_gt, lgc_eq, lgc_le, lgc_ge] at c_9); (try simp only [fl_lt, fl_le, fl_eq, fL_lt, fL_le, fL_w] at c_9); first | (rw [spSee, if_pos (by omega)]; first | done | rfl) | (rw [spSee, if_neg (by omega)]; first | done | rfl))⟩)
  ·
    refine gz_iload_n dX12_see_12 rfl rfl ?_
    refine gz_i2l dX12_see_13 ?_
    refine gz_lconst (v := 0) dX12_see_14 (by decide) ?_
    refine gz_aload_n dX12_see_15 rfl rfl ?_
    refine mg_249 hS dX12_see_16 ?_
    refine gz_ev (w := .int 0) (congrArg Value.int h0) ?_
    refine gz_i2l dX12_see_19 ?_
    refine scX12_245 (k_X12_in (x := d.toInt64) (y := 0) (w := (0 : Int32).toInt64)) ⟨(Nat.le_of_ble_eq_true rfl), (Nat.le_of_ble_eq_true rfl)⟩ ⟨(Nat.le_of_ble_eq_true rfl), (Nat.le_of_ble_eq_true rfl)⟩ rfl rfl (Nat.le_of_ble_eq_true rfl) dX12_see_20 ?_
    rintro _ _ ⟨rfl, rfl⟩
    refine gz_if_eq (tgt := 40) dX12_see_23 (by decide) (fun c_23 => ?_) (fun c_23 => ?_)
    ·
      refine gz_iconst (v := 0) dX12_see_40 (by decide) ?_
      exact gz_zret rfl (by decide) dX12_see_41 (Nat.le_of_ble_eq_true rfl) (Nat.le_of_ble_eq_true rfl) (⟨_, rfl, (by show _ = _; have e0 : (0 : Int32).toInt = 0 := rfl; have E0 : (0 : Int64).toInt = 0 := rfl; have e1 : (1 : Int32).toInt = 1 := rfl; have E1 : (1 : Int64).toInt = 1 := rfl; have e2 : (2 : Int32).toInt = 2 := rfl; have E2 : (2 : Int64).toInt = 2 := rfl; have e3 : (3 : Int32).toInt = 3 := rfl; have E3 : (3 : Int64).toInt = 3 := rfl; have e4 : (4 : Int32).toInt = 4 := rfl; have E4 : (4 : Int64).toInt = 4 := rfl; have e5 : (5 : Int32).toInt = 5 := rfl; have E5 : (5 : Int64).toInt = 5 := rfl; have e6 : (6 : Int32).toInt = 6 := rfl; have E6 : (6 : Int64).toInt = 6 := rfl; have e7 : (7 : Int32).toInt = 7 := rfl; have E7 : (7 : Int64).toInt = 7 := rfl; have e8 : (8 : Int32).toInt = 8 := rfl; have E8 : (8 : Int64).toInt = 8 := rfl; have e20 : (20 : Int32).toInt = 20 := rfl; have E20 : (20 : Int64).toInt = 20 := rfl; have e39 : (39 : Int32).toInt = 39 := rfl; have E39 : (39 : Int64).toInt = 39 := rfl; have e40 : (40 : Int32).toInt = 40 := rfl; have E40 : (40 : Int64).toInt = 40 := rfl; have e99 : (99 : Int32).toInt = 99 := rfl; have E99 : (99 : Int64).toInt = 99 := rfl; have em99 : ((-99) : Int32).toInt = (-99) := rfl; have Em99 : ((-99) : Int64).toInt = (-99) := rfl; have e399 : (399 : Int32).toInt = 399 := rfl; have E399 : (399 : Int64).toInt = 399 := rfl; have e400 : (400 : Int32).toInt = 400 := rfl; have E400 : (400 : Int64).toInt = 400 := rfl; have e9999 : (9999 : Int32).toInt = 9999 := rfl; have E9999 : (9999 : Int64).toInt = 9999 := rfl; have em9999 : ((-9999) : Int32).toInt = (-9999) := rfl; have Em9999 : ((-9999) : Int64).toInt = (-9999) := rfl; have em10000 : ((-10000) : Int32).toInt = (-10000) := rfl; have Em10000 : ((-10000) : Int64).toInt = (-10000) := rfl; have em1 : ((-1) : Int32).toInt = (-1) := rfl; have Em1 : ((-1) : Int64).toInt = (-1) := rfl; have e10 : (10 : Int32).toInt = 10 := rfl; have E10 : (10 : Int64).toInt = 10 := rfl; have e17 : (17 : Int32).toInt = 17 := rfl; have E17 : (17 : Int64).toInt = 17 := rfl; (try simp only [mIn_0, lgc_lt, lgc_gt, lgc_eq, lgc_le, lgc_ge] at c_9 c_23); (try simp only [fl_lt, fl_le, fl_eq, fL_lt, fL_le, fL_w] at c_9 c_23); first | (rw [spSee, if_pos (by omega)]; first | done | rfl) | (rw [spSee, if_neg (by omega)]; first | done | rfl))⟩)
    ·
      refine gz_iload_n dX12_see_26 rfl rfl ?_
      refine gz_i2l dX12_see_27 ?_
      refine gz_ldc2 (v := (-9999)) wd_93 dX12_see_28 ?_
      refine gz_ldc2 (v := (9999)) wd_94 dX12_see_31 ?_
      refine scX12_245 (k_X12_in (x := v.toInt64) (y := (-9999)) (w := (9999))) ⟨(Nat.le_of_ble_eq_true rfl), (Nat.le_of_ble_eq_true rfl)⟩ ⟨(Nat.le_of_ble_eq_true rfl), (Nat.le_of_ble_eq_true rfl)⟩ rfl rfl (Nat.le_of_ble_eq_true rfl) dX12_see_34 ?_
      rintro _ _ ⟨rfl, rfl⟩
      refine gz_if_ne (tgt := 42) dX12_see_37 (by decide) (fun c_37 => ?_) (fun c_37 => ?_)
      ·
        refine gz_aload_n dX12_see_42 rfl rfl ?_
        refine mg_7 hS dX12_see_43 ?_
        refine gz_sipush (v := 400) dX12_see_46 (by decide) ?_
        refine gz_iload_n dX12_see_49 rfl rfl ?_
        refine gz_imul dX12_see_50 ?_
        refine gz_iload_n dX12_see_51 rfl rfl ?_
        refine gz_iadd dX12_see_52 ?_
        refine gz_iload_n dX12_see_53 rfl rfl ?_
        refine m_iast 2 hS rfl (N := 2400) rfl (vin_T (idx1 (t := t) (x := d) (by have e0 : (0 : Int32).toInt = 0 := rfl; have E0 : (0 : Int64).toInt = 0 := rfl; have e1 : (1 : Int32).toInt = 1 := rfl; have E1 : (1 : Int64).toInt = 1 := rfl; have e2 : (2 : Int32).toInt = 2 := rfl; have E2 : (2 : Int64).toInt = 2 := rfl; have e3 : (3 : Int32).toInt = 3 := rfl; have E3 : (3 : Int64).toInt = 3 := rfl; have e4 : (4 : Int32).toInt = 4 := rfl; have E4 : (4 : Int64).toInt = 4 := rfl; have e5 : (5 : Int32).toInt = 5 := rfl; have E5 : (5 : Int64).toInt = 5 := rfl; have e6 : (6 : Int32).toInt = 6 := rfl; have E6 : (6 : Int64).toInt = 6 := rfl; have e7 : (7 : Int32).toInt = 7 := rfl; have E7 : (7 : Int64).toInt = 7 := rfl; have e8 : (8 : Int32).toInt = 8 := rfl; have E8 : (8 : Int64).toInt = 8 := rfl; have e20 : (20 : Int32).toInt = 20 := rfl; have E20 : (20 : Int64).toInt = 20 := rfl; have e39 : (39 : Int32).toInt = 39 := rfl; have E39 : (39 : Int64).toInt = 39 := rfl; have e40 : (40 : Int32).toInt = 40 := rfl; have E40 : (40 : Int64).toInt = 40 := rfl; have e99 : (99 : Int32).toInt = 99 := rfl; have E99 : (99 : Int64).toInt = 99 := rfl; have em99 : ((-99) : Int32).toInt = (-99) := rfl; have Em99 : ((-99) : Int64).toInt = (-99) := rfl; have e399 : (399 : Int32).toInt = 399 := rfl; have E399 : (399 : Int64).toInt = 399 := rfl; have e400 : (400 : Int32).toInt = 400 := rfl; have E400 : (400 : Int64).toInt = 400 := rfl; have e9999 : (9999 : Int32).toInt = 9999 := rfl; have E9999 : (9999 : Int64).toInt = 9999 := rfl; have em9999 : ((-9999) : Int32).toInt = (-9999) := rfl; have Em9999 : ((-9999) : Int64).toInt = (-9999) := rfl; have em10000 : ((-10000) : Int32).toInt = (-10000) := rfl; have Em10000 : ((-10000) : Int64).toInt = (-10000) := rfl; have em1 : ((-1) : Int32).toInt = (-1) := rfl; have Em1 : ((-1) : Int64).toInt = (-1) := rfl; have e10 : (10 : Int32).toInt = 10 := rfl; have E10 : (10 : Int64).toInt = 10 := rfl; have e17 : (17 : Int32).toInt = 17 := rfl; have E17 : (17 : Int64).toInt = 17 := rfl; simp only [mIn_0, fL_w] at c_9 c_23 c_37; omega) (by have e0 : (0 : Int32).toInt = 0 := rfl; have E0 : (0 : Int64).toInt = 0 := rfl; have e1 : (1 : Int32).toInt = 1 := rfl; have E1 : (1 : Int64).toInt = 1 := rfl; have e2 : (2 : Int32).toInt = 2 := rfl; have E2 : (2 : Int64).toInt = 2 := rfl; have e3 : (3 : Int32).toInt = 3 := rfl; have E3 : (3 : Int64).toInt = 3 := rfl; have e4 : (4 : Int32).toInt = 4 := rfl; have E4 : (4 : Int64).toInt = 4 := rfl; have e5 : (5 : Int32).toInt = 5 := rfl; have E5 : (5 : Int64).toInt = 5 := rfl; have e6 : (6 : Int32).toInt = 6 := rfl; have E6 : (6 : Int64).toInt = 6 := rfl; have e7 : (7 : Int32).toInt = 7 := rfl; have E7 : (7 : Int64).toInt = 7 := rfl; have e8 : (8 : Int32).toInt = 8 := rfl; have E8 : (8 : Int64).toInt = 8 := rfl; have e20 : (20 : Int32).toInt = 20 := rfl; have E20 : (20 : Int64).toInt = 20 := rfl; have e39 : (39 : Int32).toInt = 39 := rfl; have E39 : (39 : Int64).toInt = 39 := rfl; have e40 : (40 : Int32).toInt = 40 := rfl; have E40 : (40 : Int64).toInt = 40 := rfl; have e99 : (99 : Int32).toInt = 99 := rfl; have E99 : (99 : Int64).toInt = 99 := rfl; have em99 : ((-99) : Int32).toInt = (-99) := rfl; have Em99 : ((-99) : Int64).toInt = (-99) := rfl; have e399 : (399 : Int32).toInt = 399 := rfl; have E399 : (399 : Int64).toInt = 399 := rfl; have e400 : (400 : Int32).toInt = 400 := rfl; have E400 : (400 : Int64).toInt = 400 := rfl; have e9999 : (9999 : Int32).toInt = 9999 := rfl; have E9999 : (9999 : Int64).toInt = 9999 := rfl; have em9999 : ((-9999) : Int32).toInt = (-9999) := rfl; have Em9999 : ((-9999) : Int64).toInt = (-9999) := rfl; have em10000 : ((-10000) : Int32).toInt = (-10000) := rfl; have Em10000 : ((-10000) : Int64).toInt = (-10000) := rfl; have em1 : ((-1) : Int32).toInt = (-1) := rfl; have Em1 : ((-1) : Int64).toInt = (-1) := rfl; have e10 : (10 : Int32).toInt = 10 := rfl; have E10 : (10 : Int64).toInt = 10 := rfl; have e17 : (17 : Int32).toInt = 17 := rfl; have E17 : (17 : Int64).toInt = 17 := rfl; simp only [mIn_0, fL_w] at c_9 c_23 c_37; omega)) (by have e0 : (0 : Int32).toInt = 0 := rfl; have E0 : (0 : Int64).toInt = 0 := rfl; have e1 : (1 : Int32).toInt = 1 := rfl; have E1 : (1 : Int64).toInt = 1 := rfl; have e2 : (2 : Int32).toInt = 2 := rfl; have E2 : (2 : Int64).toInt = 2 := rfl; have e3 : (3 : Int32).toInt = 3 := rfl; have E3 : (3 : Int64).toInt = 3 := rfl; have e4 : (4 : Int32).toInt = 4 := rfl; have E4 : (4 : Int64).toInt = 4 := rfl; have e5 : (5 : Int32).toInt = 5 := rfl; have E5 : (5 : Int64).toInt = 5 := rfl; have e6 : (6 : Int32).toInt = 6 := rfl; have E6 : (6 : Int64).toInt = 6 := rfl; have e7 : (7 : Int32).toInt = 7 := rfl; have E7 : (7 : Int64).toInt = 7 := rfl; have e8 : (8 : Int32).toInt = 8 := rfl; have E8 : (8 : Int64).toInt = 8 := rfl; have e20 : (20 : Int32).toInt = 20 := rfl; have E20 : (20 : Int64).toInt = 20 := rfl; have e39 : (39 : Int32).toInt = 39 := rfl; have E39 : (39 : Int64).toInt = 39 := rfl; have e40 : (40 : Int32).toInt = 40 := rfl; have E40 : (40 : Int64).toInt = 40 := rfl; have e99 : (99 : Int32).toInt = 99 := rfl; have E99 : (99 : Int64).toInt = 99 := rfl; have em99 : ((-99) : Int32).toInt = (-99) := rfl; have Em99 : ((-99) : Int64).toInt = (-99) := rfl; have e399 : (399 : Int32).toInt = 399 := rfl; have E399 : (399 : Int64).toInt = 399 := rfl; have e400 : (400 : Int32).toInt = 400 := rfl; have E400 : (400 : Int64).toInt = 400 := rfl; have e9999 : (9999 : Int32).toInt = 9999 := rfl; have E9999 : (9999 : Int64).toInt = 9999 := rfl; have em9999 : ((-9999) : Int32).toInt = (-9999) := rfl; have Em9999 : ((-9999) : Int64).toInt = (-9999) := rfl; have em10000 : ((-10000) : Int32).toInt = (-10000) := rfl; have Em10000 : ((-10000) : Int64).toInt = (-10000) := rfl; have em1 : ((-1) : Int32).toInt = (-1) := rfl; have Em1 : ((-1) : Int64).toInt = (-1) := rfl; have e10 : (10 : Int32).toInt = 10 := rfl; have E10 : (10 : Int64).toInt = 10 := rfl; have e17 : (17 : Int32).toInt = 17 := rfl; have E17 : (17 : Int64).toInt = 17 := rfl; simp only [mIn_0, fL_w] at c_9 c_23 c_37; omega) (by have e0 : (0 : Int32).toInt = 0 := rfl; have E0 : (0 : Int64).toInt = 0 := rfl; have e1 : (1 : Int32).toInt = 1 := rfl; have E1 : (1 : Int64).toInt = 1 := rfl; have e2 : (2 : Int32).toInt = 2 := rfl; have E2 : (2 : Int64).toInt = 2 := rfl; have e3 : (3 : Int32).toInt = 3 := rfl; have E3 : (3 : Int64).toInt = 3 := rfl; have e4 : (4 : Int32).toInt = 4 := rfl; have E4 : (4 : Int64).toInt = 4 := rfl; have e5 : (5 : Int32).toInt = 5 := rfl; have E5 : (5 : Int64).toInt = 5 := rfl; have e6 : (6 : Int32).toInt = 6 := rfl; have E6 : (6 : Int64).toInt = 6 := rfl; have e7 : (7 : Int32).toInt = 7 := rfl; have E7 : (7 : Int64).toInt = 7 := rfl; have e8 : (8 : Int32).toInt = 8 := rfl; have E8 : (8 : Int64).toInt = 8 := rfl; have e20 : (20 : Int32).toInt = 20 := rfl; have E20 : (20 : Int64).toInt = 20 := rfl; have e39 : (39 : Int32).toInt = 39 := rfl; have E39 : (39 : Int64).toInt = 39 := rfl; have e40 : (40 : Int32).toInt = 40 := rfl; have E40 : (40 : Int64).toInt = 40 := rfl; have e99 : (99 : Int32).toInt = 99 := rfl; have E99 : (99 : Int64).toInt = 99 := rfl; have em99 : ((-99) : Int32).toInt = (-99) := rfl; have Em99 : ((-99) : Int64).toInt = (-99) := rfl; have e399 : (399 : Int32).toInt = 399 := rfl; have E399 : (399 : Int64).toInt = 399 := rfl; have e400 : (400 : Int32).toInt = 400 := rfl; have E400 : (400 : Int64).toInt = 400 := rfl; have e9999 : (9999 : Int32).toInt = 9999 := rfl; have E9999 : (9999 : Int64).toInt = 9999 := rfl; have em9999 : ((-9999) : Int32).toInt = (-9999) := rfl; have Em9999 : ((-9999) : Int64).toInt = (-9999) := rfl; have em10000 : ((-10000) : Int32).toInt = (-10000) := rfl; have Em10000 : ((-10000) : Int64).toInt = (-10000) := rfl; have em1 : ((-1) : Int32).toInt = (-1) := rfl; have Em1 : ((-1) : Int64).toInt = (-1) := rfl; have e10 : (10 : Int32).toInt = 10 := rfl; have E10 : (10 : Int64).toInt = 10 := rfl; have e17 : (17 : Int32).toInt = 17 := rfl; have E17 : (17 : Int64).toInt = 17 := rfl; simp only [mIn_0, fL_w] at c_9 c_23 c_37; omega)) dX12_see_54 (fun f_1 hS_1 => ?_)
        refine gz_iconst (v := 1) dX12_see_55 (by decide) ?_
        exact gz_zret rfl (by decide) dX12_see_56 (Nat.le_of_ble_eq_true rfl) (Nat.le_of_ble_eq_true rfl) (⟨_, rfl, (by show _ = _; have e0 : (0 : Int32).toInt = 0 := rfl; have E0 : (0 : Int64).toInt = 0 := rfl; have e1 : (1 : Int32).toInt = 1 := rfl; have E1 : (1 : Int64).toInt = 1 := rfl; have e2 : (2 : Int32).toInt = 2 := rfl; have E2 : (2 : Int64).toInt = 2 := rfl; have e3 : (3 : Int32).toInt = 3 := rfl; have E3 : (3 : Int64).toInt = 3 := rfl; have e4 : (4 : Int32).toInt = 4 := rfl; have E4 : (4 : Int64).toInt = 4 := rfl; have e5 : (5 : Int32).toInt = 5 := rfl; have E5 : (5 : Int64).toInt = 5 := rfl; have e6 : (6 : Int32).toInt = 6 := rfl; have E6 : (6 : Int64).toInt = 6 := rfl; have e7 : (7 : Int32).toInt = 7 := rfl; have E7 : (7 : Int64).toInt = 7 := rfl; have e8 : (8 : Int32).toInt = 8 := rfl; have E8 : (8 : Int64).toInt = 8 := rfl; have e20 : (20 : Int32).toInt = 20 := rfl; have E20 : (20 : Int64).toInt = 20 := rfl; have e39 : (39 : Int32).toInt = 39 := rfl; have E39 : (39 : Int64).toInt = 39 := rfl; have e40 : (40 : Int32).toInt = 40 := rfl; have E40 : (40 : Int64).toInt = 40 := rfl; have e99 : (99 : Int32).toInt = 99 := rfl; have E99 : (99 : Int64).toInt = 99 := rfl; have em99 : ((-99) : Int32).toInt = (-99) := rfl; have Em99 : ((-99) : Int64).toInt = (-99) := rfl; have e399 : (399 : Int32).toInt = 399 := rfl; have E399 : (399 : Int64).toInt = 399 := rfl; have e400 : (400 : Int32).toInt = 400 := rfl; have E400 : (400 : Int64).toInt = 400 := rfl; have e9999 : (9999 : Int32).toInt = 9999 := rfl; have E9999 : (9999 : Int64).toInt = 9999 := rfl; have em9999 : ((-9999) : Int32).toInt = (-9999) := rfl; have Em9999 : ((-9999) : Int64).toInt = (-9999) := rfl; have em10000 : ((-10000) : Int32).toInt = (-10000) := rfl; have Em10000 : ((-10000) : Int64).toInt = (-10000) := rfl; have em1 : ((-1) : Int32).toInt = (-1) := rfl; have Em1 : ((-1) : Int64).toInt = (-1) := rfl; have e10 : (10 : Int32).toInt = 10 := rfl; have E10 : (10 : Int64).toInt = 10 := rfl; have e17 : (17 : Int32).toInt = 17 := rfl; have E17 : (17 : Int64).toInt = 17 := rfl; (try simp only [mIn_0, lgc_lt, lgc_gt, lgc_eq, lgc_le, lgc_ge] at c_9 c_23 c_37); (try simp only [fl_lt, fl_le, fl_eq, fL_lt, fL_le, fL_w] at c_9 c_23 c_37); first | (rw [spSee, if_pos (by omega)]; first | done | rfl) | (rw [spSee, if_neg (by omega)]; first | done | rfl))⟩)
      ·
        refine gz_iconst (v := 0) dX12_see_40 (by decide) ?_
        exact gz_zret rfl (by decide) dX12_see_41 (Nat.le_of_ble_eq_true rfl) (Nat.le_of_ble_eq_true rfl) (⟨_, rfl, (by show _ = _; have e0 : (0 : Int32).toInt = 0 := rfl; have E0 : (0 : Int64).toInt = 0 := rfl; have e1 : (1 : Int32).toInt = 1 := rfl; have E1 : (1 : Int64).toInt = 1 := rfl; have e2 : (2 : Int32).toInt = 2 := rfl; have E2 : (2 : Int64).toInt = 2 := rfl; have e3 : (3 : Int32).toInt = 3 := rfl; have E3 : (3 : Int64).toInt = 3 := rfl; have e4 : (4 : Int32).toInt = 4 := rfl; have E4 : (4 : Int64).toInt = 4 := rfl; have e5 : (5 : Int32).toInt = 5 := rfl; have E5 : (5 : Int64).toInt = 5 := rfl; have e6 : (6 : Int32).toInt = 6 := rfl; have E6 : (6 : Int64).toInt = 6 := rfl; have e7 : (7 : Int32).toInt = 7 := rfl; have E7 : (7 : Int64).toInt = 7 := rfl; have e8 : (8 : Int32).toInt = 8 := rfl; have E8 : (8 : Int64).toInt = 8 := rfl; have e20 : (20 : Int32).toInt = 20 := rfl; have E20 : (20 : Int64).toInt = 20 := rfl; have e39 : (39 : Int32).toInt = 39 := rfl; have E39 : (39 : Int64).toInt = 39 := rfl; have e40 : (40 : Int32).toInt = 40 := rfl; have E40 : (40 : Int64).toInt = 40 := rfl; have e99 : (99 : Int32).toInt = 99 := rfl; have E99 : (99 : Int64).toInt = 99 := rfl; have em99 : ((-99) : Int32).toInt = (-99) := rfl; have Em99 : ((-99) : Int64).toInt = (-99) := rfl; have e399 : (399 : Int32).toInt = 399 := rfl; have E399 : (399 : Int64).toInt = 399 := rfl; have e400 : (400 : Int32).toInt = 400 := rfl; have E400 : (400 : Int64).toInt = 400 := rfl; have e9999 : (9999 : Int32).toInt = 9999 := rfl; have E9999 : (9999 : Int64).toInt = 9999 := rfl; have em9999 : ((-9999) : Int32).toInt = (-9999) := rfl; have Em9999 : ((-9999) : Int64).toInt = (-9999) := rfl; have em10000 : ((-10000) : Int32).toInt = (-10000) := rfl; have Em10000 : ((-10000) : Int64).toInt = (-10000) := rfl; have em1 : ((-1) : Int32).toInt = (-1) := rfl; have Em1 : ((-1) : Int64).toInt = (-1) := rfl; have e10 : (10 : Int32).toInt = 10 := rfl; have E10 : (10 : Int64).toInt = 10 := rfl; have e17 : (17 : Int32).toInt = 17 := rfl; have E17 : (17 : Int64).toInt = 17 := rfl; (try simp only [mIn_0, lgc_lt, lgc_gt, lgc_eq, lgc_le, lgc_ge] at c_9 c_23 c_37); (try simp only [fl_lt, fl_le, fl_eq, fL_lt, fL_le, fL_w] at c_9 c_23 c_37); first | (rw [spSee, if_pos (by omega)]; first | done | rfl) | (rw [spSee, if_neg (by omega)]; first | done | rfl))⟩)

set_option maxHeartbeats 4000000 in
set_option maxRecDepth 100000 in
theorem l_X12_thingOn {l : Launch} {D : va_G} {cy : Nat → ClassId} {b : Nat} {f : gMem} {m : Nat} {a : Nat → Nat} {f0 : gMem} {n : Nat → Int32} {z : Nat → Int64} {F : Nat → Nat → Int32} {G : Nat → Nat → Int64} {t d : Int32}   (hS : mS cy m a f0 n z F G f) (hF : ∀ i, i < 2400 → F 2 i = -10000) (ht : 0 ≤ t.toInt ∧ t.toInt ≤ 5) (hd : 0 ≤ d.toInt ∧ d.toInt < 400) : ∀ (k : Nat) (x3 : Int32), x3.toInt = (k : Int) - 1 → k ≤ 400 → gG l (gRm 0 0 0) (gQf D b (pI fun r f2 => r = 0 ∧ f2 = f) 0 0) gTt D cy b cX12_thingOn 4 (some .int) RX12 "thingOn" 0 0 f 2 [(3, .int x3), (0, .ref m), (1, .int t), (2, .int d)] [] := by
  intro k
  induction k with
  | zero =>
    intro x3 hx hk
    refine gz_iload_n dX12_thingOn_2 rfl rfl ?_
    refine gz_if_lt (tgt := 43) dX12_thingOn_3 (by decide) (fun c_3 => ?_) (fun c_3 => ?_)
    ·
      refine gz_iconst (v := 0) dX12_thingOn_43 (by decide) ?_
      exact gz_iret rfl dX12_thingOn_44 (Nat.le_of_ble_eq_true rfl) (Nat.le_of_ble_eq_true rfl) (⟨_, rfl, rfl, rfl⟩)
    · exfalso; rw [fl_lt] at c_3; have e0 : (0 : Int32).toInt = 0 := rfl; omega
  | succ k ih =>
    intro x3 hx hk
    have hi : vp_in (400 * t + x3) 2400 := vin_T (idx1 ht ⟨by omega, by omega⟩) (by omega) (by omega)
    refine gz_iload_n dX12_thingOn_2 rfl rfl ?_
    refine gz_if_lt (tgt := 43) dX12_thingOn_3 (by decide) (fun c_3 => ?_) (fun c_3 => ?_)
    · exfalso; rw [fl_lt] at c_3; have e0 : (0 : Int32).toInt = 0 := rfl; omega
    ·
      refine gz_aload_n dX12_thingOn_6 rfl rfl ?_
      refine mg_7 hS dX12_thingOn_7 ?_
      refine gz_sipush (v := 400) dX12_thingOn_10 (by decide) ?_
      refine gz_iload_n dX12_thingOn_13 rfl rfl ?_
      refine gz_imul dX12_thingOn_14 ?_
      refine gz_iload_n dX12_thingOn_15 rfl rfl ?_
      refine gz_iadd dX12_thingOn_16 ?_
      refine m_iald 2 hS rfl (N := 2400) rfl (hi) dX12_thingOn_17 ?_
      refine gz_sipush (v := (-10000)) dX12_thingOn_18 (by decide) ?_
      refine gz_icmp_le (tgt := 37) dX12_thingOn_21 (by decide) (fun c_21 => ?_) (fun c_21 => ?_)
      ·
        refine gz_iinc (v := (x3 + (-1))) (lv' := [(3, .int (x3 + (-1))), (0, .ref m), (1, .int t), (2, .int d)]) dX12_thingOn_37 rfl rfl (by decide) rfl ?_
        refine gz_goto (tgt := 2) dX12_thingOn_40 (by decide) ?_
        refine gz_sub (lv' := [(3, .int (x3 + (-1))), (0, .ref m), (1, .int t), (2, .int d)]) (by simp [List.lookup]) ?_
        exact ih (x3 + (-1)) (by have e1 : (-1 : Int32).toInt = -1 := rfl; rw [addT (by omega) (by omega)]; omega) (by omega)
      · exact absurd (by rw [hF _ (vin_lt hi)]; decide) c_21

set_option maxHeartbeats 4000000 in
set_option maxRecDepth 100000 in
theorem k_X12_thingOn {l : Launch} {D : va_G} {cy : Nat → ClassId} {b : Nat} {f : gMem} {m : Nat} {a : Nat → Nat} {f0 : gMem} {n : Nat → Int32} {z : Nat → Int64} {F : Nat → Nat → Int32} {G : Nat → Nat → Int64} {t d : Int32}  (hS : mS cy m a f0 n z F G f) (hF : ∀ i, i < 2400 → F 2 i = -10000) (ht : 0 ≤ t.toInt ∧ t.toInt ≤ 5) (hd : 0 ≤ d.toInt ∧ d.toInt < 400) : gC l D cy b yX12_thingOn cX12_thingOn 4 (some .int) 0 0 0 [.ref m, .int t, .int d] f (pI fun r f2 => r = 0 ∧ f2 = f) := by
  refine gC_of (by decide) (Nat.le_of_ble_eq_true rfl) ?_
  show gG l _ _ _ D cy b cX12_thingOn 4 _ RX12 "thingOn" 0 0 f 0 [(0, .ref m), (1, .int t), (2, .int d)] []
  refine gz_iload_n dX12_thingOn_0 rfl rfl ?_
  refine gz_istore_n (lv' := [(3, .int d), (0, .ref m), (1, .int t), (2, .int d)]) dX12_thingOn_1 rfl (by decide) rfl ?_
  refine gz_sub (lv' := [(3, .int d), (0, .ref m), (1, .int t), (2, .int d)]) (by simp [List.lookup]) ?_
  exact l_X12_thingOn hS hF ht hd (d.toInt.toNat + 1) d (by omega) (by omega)

set_option maxHeartbeats 4000000 in
set_option maxRecDepth 100000 in
theorem k_X12_seen {l : Launch} {D : va_G} {cy : Nat → ClassId} {b : Nat} {f : gMem} {m : Nat} {a : Nat → Nat} {f0 : gMem} {n : Nat → Int32} {z : Nat → Int64} {F : Nat → Nat → Int32} {G : Nat → Nat → Int64} {t d : Int32}  (hS : mS cy m a f0 n z F G f) (hF : ∀ i, i < 2400 → F 2 i = -10000) : gC l D cy b yX12_seen cX12_seen 3 (some .int) 1 0 0 [.ref m, .int t, .int d] f (pI fun r f2 => r = spSeen t d) := by
  refine gC_of (by decide) (Nat.le_of_ble_eq_true rfl) ?_
  show gG l _ _ _ D cy b cX12_seen 3 _ RX12 "seen" 0 0 f 0 [(0, .ref m), (1, .int t), (2, .int d)] []
  refine gz_iload_n dX12_seen_0 rfl rfl ?_
  refine gz_i2l dX12_seen_1 ?_
  refine gz_lconst (v := 0) dX12_seen_2 (by decide) ?_
  refine gz_ldc2 (v := (5)) wd_87 dX12_seen_3 ?_
  refine scX12_245 (k_X12_in (x := t.toInt64) (y := 0) (w := (5))) ⟨(Nat.le_of_ble_eq_true rfl), (Nat.le_of_ble_eq_true rfl)⟩ ⟨(Nat.le_of_ble_eq_true rfl), (Nat.le_of_ble_eq_true rfl)⟩ rfl rfl (Nat.le_of_ble_eq_true rfl) dX12_seen_6 ?_
  rintro _ _ ⟨rfl, rfl⟩
  refine gz_if_eq (tgt := 33) dX12_seen_9 (by decide) (fun c_9 => ?_) (fun c_9 => ?_)
  ·
    refine gz_sipush (v := (-10000)) dX12_seen_33 (by decide) ?_
    exact gz_iret rfl dX12_seen_36 (Nat.le_of_ble_eq_true rfl) (Nat.le_of_ble_eq_true rfl) (⟨_, rfl, (by show _ = _; have e0 : (0 : Int32).toInt = 0 := rfl; have E0 : (0 : Int64).toInt = 0 := rfl; have e1 : (1 : Int32).toInt = 1 := rfl; have E1 : (1 : Int64).toInt = 1 := rfl; have e2 : (2 : Int32).toInt = 2 := rfl; have E2 : (2 : Int64).toInt = 2 := rfl; have e3 : (3 : Int32).toInt = 3 := rfl; have E3 : (3 : Int64).toInt = 3 := rfl; have e4 : (4 : Int32).toInt = 4 := rfl; have E4 : (4 : Int64).toInt = 4 := rfl; have e5 : (5 : Int32).toInt = 5 := rfl; have E5 : (5 : Int64).toInt = 5 := rfl; have e6 : (6 : Int32).toInt = 6 := rfl; have E6 : (6 : Int64).toInt = 6 := rfl; have e7 : (7 : Int32).toInt = 7 := rfl; have E7 : (7 : Int64).toInt = 7 := rfl; have e8 : (8 : Int32).toInt = 8 := rfl; have E8 : (8 : Int64).toInt = 8 := rfl; have e20 : (20 : Int32).toInt = 20 := rfl; have E20 : (20 : Int64).toInt = 20 := rfl; have e39 : (39 : Int32).toInt = 39 := rfl; have E39 : (39 : Int64).toInt = 39 := rfl; have e40 : (40 : Int32).toInt = 40 := rfl; have E40 : (40 : Int64).toInt = 40 := rfl; have e99 : (99 : Int32).toInt = 99 := rfl; have E99 : (99 : Int64).toInt = 99 := rfl; have em99 : ((-99) : Int32).toInt = (-99) := rfl; have Em99 : ((-99) : Int64).toInt = (-99) := rfl; have e399 : (399 : Int32).toInt = 399 := rfl; have E399 : (399 : Int64).toInt = 399 := rfl; have e400 : (400 : Int32).toInt = 400 := rfl; have E400 : (400 : Int64).toInt = 400 := rfl; have e9999 : (9999 : Int32).toInt = 9999 := rfl; have E9999 : (9999 : Int64).toInt = 9999 := rfl; have em9999 : ((-9999) : Int32).toInt = (-9999) := rfl; have Em9999 : ((-9999) : Int64).toInt = (-9999) := rfl; have em10000 : ((-10000) : Int32).toInt = (-10000) := rfl; have Em10000 : ((-10000) : Int64).toInt = (-10000) := rfl; have em1 : ((-1) : Int32).toInt = (-1) := rfl; have Em1 : ((-1) : Int64).toInt = (-1) := rfl; have e10 : (10 : Int32).toInt = 10 := rfl; have E10 : (10 : Int64).toInt = 10 := rfl; have e17 : (17 : Int32).toInt = 17 := rfl; have E17 : (17 : Int64).toInt = 17 := rfl; (try simp only [mIn_0, lgc_lt, lgc_gt, lgc_eq, lgc_le, lgc_ge] at c_9); (try simp only [fl_lt, fl_le, fl_eq, fL_lt, fL_le, fL_w] at c_9); first | (rw [spSeen, if_pos (by omega)]; first | done | rfl) | (rw [spSeen, if_neg (by omega)]; first | done | rfl))⟩)
  ·
    refine gz_iload_n dX12_seen_12 rfl rfl ?_
    refine gz_i2l dX12_seen_13 ?_
    refine gz_lconst (v := 0) dX12_seen_14 (by decide) ?_
    refine gz_ldc2 (v := (399)) wd_95 dX12_seen_15 ?_
    refine scX12_245 (k_X12_in (x := d.toInt64) (y := 0) (w := (399))) ⟨(Nat.le_of_ble_eq_true rfl), (Nat.le_of_ble_eq_true rfl)⟩ ⟨(Nat.le_of_ble_eq_true rfl), (Nat.le_of_ble_eq_true rfl)⟩ rfl rfl (Nat.le_of_ble_eq_true rfl) dX12_seen_18 ?_
    rintro _ _ ⟨rfl, rfl⟩
    refine gz_if_eq (tgt := 33) dX12_seen_21 (by decide) (fun c_21 => ?_) (fun c_21 => ?_)
    ·
      refine gz_sipush (v := (-10000)) dX12_seen_33 (by decide) ?_
      exact gz_iret rfl dX12_seen_36 (Nat.le_of_ble_eq_true rfl) (Nat.le_of_ble_eq_true rfl) (⟨_, rfl, (by show _ = _; have e0 : (0 : Int32).toInt = 0 := rfl; have E0 : (0 : Int64).toInt = 0 := rfl; have e1 : (1 : Int32).toInt = 1 := rfl; have E1 : (1 : Int64).toInt = 1 := rfl; have e2 : (2 : Int32).toInt = 2 := rfl; have E2 : (2 : Int64).toInt = 2 := rfl; have e3 : (3 : Int32).toInt = 3 := rfl; have E3 : (3 : Int64).toInt = 3 := rfl; have e4 : (4 : Int32).toInt = 4 := rfl; have E4 : (4 : Int64).toInt = 4 := rfl; have e5 : (5 : Int32).toInt = 5 := rfl; have E5 : (5 : Int64).toInt = 5 := rfl; have e6 : (6 : Int32).toInt = 6 := rfl; have E6 : (6 : Int64).toInt = 6 := rfl; have e7 : (7 : Int32).toInt = 7 := rfl; have E7 : (7 : Int64).toInt = 7 := rfl; have e8 : (8 : Int32).toInt = 8 := rfl; have E8 : (8 : Int64).toInt = 8 := rfl; have e20 : (20 : Int32).toInt = 20 := rfl; have E20 : (20 : Int64).toInt = 20 := rfl; have e39 : (39 : Int32).toInt = 39 := rfl; have E39 : (39 : Int64).toInt = 39 := rfl; have e40 : (40 : Int32).toInt = 40 := rfl; have E40 : (40 : Int64).toInt = 40 := rfl; have e99 : (99 : Int32).toInt = 99 := rfl; have E99 : (99 : Int64).toInt = 99 := rfl; have em99 : ((-99) : Int32).toInt = (-99) := rfl; have Em99 : ((-99) : Int64).toInt = (-99) := rfl; have e399 : (399 : Int32).toInt = 399 := rfl; have E399 : (399 : Int64).toInt = 399 := rfl; have e400 : (400 : Int32).toInt = 400 := rfl; have E400 : (400 : Int64).toInt = 400 := rfl; have e9999 : (9999 : Int32).toInt = 9999 := rfl; have E9999 : (9999 : Int64).toInt = 9999 := rfl; have em9999 : ((-9999) : Int32).toInt = (-9999) := rfl; have Em9999 : ((-9999) : Int64).toInt = (-9999) := rfl; have em10000 : ((-10000) : Int32).toInt = (-10000) := rfl; have Em10000 : ((-10000) : Int64).toInt = (-10000) := rfl; have em1 : ((-1) : Int32).toInt = (-1) := rfl; have Em1 : ((-1) : Int64).toInt = (-1) := rfl; have e10 : (10 : Int32).toInt = 10 := rfl; have E10 : (10 : Int64).toInt = 10 := rfl; have e17 : (17 : Int32).toInt = 17 := rfl; have E17 : (17 : Int64).toInt = 17 := rfl; (try simp only [mIn_0, lgc_lt, lgc_gt, lgc_eq, lgc_le, lgc_ge] at c_9 c_21); (try simp only [fl_lt, fl_le, fl_eq, fL_lt, fL_le, fL_w] at c_9 c_21); first | (rw [spSeen, if_pos (by omega)]; first | done | rfl) | (rw [spSeen, if_neg (by omega)]; first | done | rfl))⟩)
    ·
      refine gz_aload_n dX12_seen_24 rfl rfl ?_
      refine gz_iload_n dX12_seen_25 rfl rfl ?_
      refine gz_iload_n dX12_seen_26 rfl rfl ?_
      refine scX12_258 (k_X12_thingOn hS hF (by have e0 : (0 : Int32).toInt = 0 := rfl; have E0 : (0 : Int64).toInt = 0 := rfl; have e1 : (1 : Int32).toInt = 1 := rfl; have E1 : (1 : Int64).toInt = 1 := rfl; have e2 : (2 : Int32).toInt = 2 := rfl; have E2 : (2 : Int64).toInt = 2 := rfl; have e3 : (3 : Int32).toInt = 3 := rfl; have E3 : (3 : Int64).toInt = 3 := rfl; have e4 : (4 : Int32).toInt = 4 := rfl; have E4 : (4 : Int64).toInt = 4 := rfl; have e5 : (5 : Int32).toInt = 5 := rfl; have E5 : (5 : Int64).toInt = 5 := rfl; have e6 : (6 : Int32).toInt = 6 := rfl; have E6 : (6 : Int64).toInt = 6 := rfl; have e7 : (7 : Int32).toInt = 7 := rfl; have E7 : (7 : Int64).toInt = 7 := rfl; have e8 : (8 : Int32).toInt = 8 := rfl; have E8 : (8 : Int64).toInt = 8 := rfl; have e20 : (20 : Int32).toInt = 20 := rfl; have E20 : (20 : Int64).toInt = 20 := rfl; have e39 : (39 : Int32).toInt = 39 := rfl; have E39 : (39 : Int64).toInt = 39 := rfl; have e40 : (40 : Int32).toInt = 40 := rfl; have E40 : (40 : Int64).toInt = 40 := rfl; have e99 : (99 : Int32).toInt = 99 := rfl; have E99 : (99 : Int64).toInt = 99 := rfl; have em99 : ((-99) : Int32).toInt = (-99) := rfl; have Em99 : ((-99) : Int64).toInt = (-99) := rfl; have e399 : (399 : Int32).toInt = 399 := rfl; have E399 : (399 : Int64).toInt = 399 := rfl; have e400 : (400 : Int32).toInt = 400 := rfl; have E400 : (400 : Int64).toInt = 400 := rfl; have e9999 : (9999 : Int32).toInt = 9999 := rfl; have E9999 : (9999 : Int64).toInt = 9999 := rfl; have em9999 : ((-9999) : Int32).toInt = (-9999) := rfl; have Em9999 : ((-9999) : Int64).toInt = (-9999) := rfl; have em10000 : ((-10000) : Int32).toInt = (-10000) := rfl; have Em10000 : ((-10000) : Int64).toInt = (-10000) := rfl; have em1 : ((-1) : Int32).toInt = (-1) := rfl; have Em1 : ((-1) : Int64).toInt = (-1) := rfl; have e10 : (10 : Int32).toInt = 10 := rfl; have E10 : (10 : Int64).toInt = 10 := rfl; have e17 : (17 : Int32).toInt = 17 := rfl; have E17 : (17 : Int64).toInt = 17 := rfl; simp only [mIn_0, fL_w] at c_9 c_21; omega) (by have e0 : (0 : Int32).toInt = 0 := rfl; have E0 : (0 : Int64).toInt = 0 := rfl; have e1 : (1 : Int32).toInt = 1 := rfl; have E1 : (1 : Int64).toInt = 1 := rfl; have e2 : (2 : Int32).toInt = 2 := rfl; have E2 : (2 : Int64).toInt = 2 := rfl; have e3 : (3 : Int32).toInt = 3 := rfl; have E3 : (3 : Int64).toInt = 3 := rfl; have e4 : (4 : Int32).toInt = 4 := rfl; have E4 : (4 : Int64).toInt = 4 := rfl; have e5 : (5 : Int32).toInt = 5 := rfl; have E5 : (5 : Int64).toInt = 5 := rfl; have e6 : (6 : Int32).toInt = 6 := rfl; have E6 : (6 : Int64).toInt = 6 := rfl; have e7 : (7 : Int32).toInt = 7 := rfl; have E7 : (7 : Int64).toInt = 7 := rfl; have e8 : (8 : Int32).toInt = 8 := rfl; have E8 : (8 : Int64).toInt = 8 := rfl; have e20 : (20 : Int32).toInt = 20 := rfl; have E20 : (20 : Int64).toInt = 20 := rfl; have e39 : (39 : Int32).toInt = 39 := rfl; have E39 : (39 : Int64).toInt = 39 := rfl; have e40 : (40 : Int32).toInt = 40 := rfl; have E40 : (40 : Int64).toInt = 40 := rfl; have e99 : (99 : Int32).toInt = 99 := rfl; have E99 : (99 : Int64).toInt = 99 := rfl; have em99 : ((-99) : Int32).toInt = (-99) := rfl; have Em99 : ((-99) : Int64).toInt = (-99) := rfl; have e399 : (399 : Int32).toInt = 399 := rfl; have E399 : (399 : Int64).toInt = 399 := rfl; have e400 : (400 : Int32).toInt = 400 := rfl; have E400 : (400 : Int64).toInt = 400 := rfl; have e9999 : (9999 : Int32).toInt = 9999 := rfl; have E9999 : (9999 : Int64).toInt = 9999 := rfl; have em9999 : ((-9999) : Int32).toInt = (-9999) := rfl; have Em9999 : ((-9999) : Int64).toInt = (-9999) := rfl; have em10000 : ((-10000) : Int32).toInt = (-10000) := rfl; have Em10000 : ((-10000) : Int64).toInt = (-10000) := rfl; have em1 : ((-1) : Int32).toInt = (-1) := rfl; have Em1 : ((-1) : Int64).toInt = (-1) := rfl; have e10 : (10 : Int32).toInt = 10 := rfl; have E10 : (10 : Int64).toInt = 10 := rfl; have e17 : (17 : Int32).toInt = 17 := rfl; have E17 : (17 : Int64).toInt = 17 := rfl; simp only [mIn_0, fL_w] at c_9 c_21; omega)) hS.1 ⟨(Nat.le_of_ble_eq_true rfl), (Nat.le_of_ble_eq_true rfl)⟩ ⟨(Nat.le_of_ble_eq_true rfl), (Nat.le_of_ble_eq_true rfl)⟩ rfl rfl (Nat.le_of_ble_eq_true rfl) dX12_seen_27 ?_
      rintro _ _ ⟨rfl, rfl⟩
      refine gz_goto (tgt := 36) dX12_seen_30 (by decide) ?_
      exact gz_iret rfl dX12_seen_36 (Nat.le_of_ble_eq_true rfl) (Nat.le_of_ble_eq_true rfl) (⟨_, rfl, (by show _ = _; have e0 : (0 : Int32).toInt = 0 := rfl; have E0 : (0 : Int64).toInt = 0 := rfl; have e1 : (1 : Int32).toInt = 1 := rfl; have E1 : (1 : Int64).toInt = 1 := rfl; have e2 : (2 : Int32).toInt = 2 := rfl; have E2 : (2 : Int64).toInt = 2 := rfl; have e3 : (3 : Int32).toInt = 3 := rfl; have E3 : (3 : Int64).toInt = 3 := rfl; have e4 : (4 : Int32).toInt = 4 := rfl; have E4 : (4 : Int64).toInt = 4 := rfl; have e5 : (5 : Int32).toInt = 5 := rfl; have E5 : (5 : Int64).toInt = 5 := rfl; have e6 : (6 : Int32).toInt = 6 := rfl; have E6 : (6 : Int64).toInt = 6 := rfl; have e7 : (7 : Int32).toInt = 7 := rfl; have E7 : (7 : Int64).toInt = 7 := rfl; have e8 : (8 : Int32).toInt = 8 := rfl; have E8 : (8 : Int64).toInt = 8 := rfl; have e20 : (20 : Int32).toInt = 20 := rfl; have E20 : (20 : Int64).toInt = 20 := rfl; have e39 : (39 : Int32).toInt = 39 := rfl; have E39 : (39 : Int64).toInt = 39 := rfl; have e40 : (40 : Int32).toInt = 40 := rfl; have E40 : (40 : Int64).toInt = 40 := rfl; have e99 : (99 : Int32).toInt = 99 := rfl; have E99 : (99 : Int64).toInt = 99 := rfl; have em99 : ((-99) : Int32).toInt = (-99) := rfl; have Em99 : ((-99) : Int64).toInt = (-99) := rfl; have e399 : (399 : Int32).toInt = 399 := rfl; have E399 : (399 : Int64).toInt = 399 := rfl; have e400 : (400 : Int32).toInt = 400 := rfl; have E400 : (400 : Int64).toInt = 400 := rfl; have e9999 : (9999 : Int32).toInt = 9999 := rfl; have E9999 : (9999 : Int64).toInt = 9999 := rfl; have em9999 : ((-9999) : Int32).toInt = (-9999) := rfl; have Em9999 : ((-9999) : Int64).toInt = (-9999) := rfl; have em10000 : ((-10000) : Int32).toInt = (-10000) := rfl; have Em10000 : ((-10000) : Int64).toInt = (-10000) := rfl; have em1 : ((-1) : Int32).toInt = (-1) := rfl; have Em1 : ((-1) : Int64).toInt = (-1) := rfl; have e10 : (10 : Int32).toInt = 10 := rfl; have E10 : (10 : Int64).toInt = 10 := rfl; have e17 : (17 : Int32).toInt = 17 := rfl; have E17 : (17 : Int64).toInt = 17 := rfl; (try simp only [mIn_0, lgc_lt, lgc_gt, lgc_eq, lgc_le, lgc_ge] at c_9 c_21); (try simp only [fl_lt, fl_le, fl_eq, fL_lt, fL_le, fL_w] at c_9 c_21); first | (rw [spSeen, if_pos (by omega)]; first | done | rfl) | (rw [spSeen, if_neg (by omega)]; first | done | rfl))⟩)

theorem fdx0 {x : Int32} (h : 0 ≤ x.toInt ∧ x.toInt + 4 ≤ 400) : vp_in x 400 := vin_T rfl (by omega) (by omega)
theorem fdx1 {x : Int32} (h : 0 ≤ x.toInt ∧ x.toInt + 4 ≤ 400) : vp_in (x + 1) 400 := by
  have e1 : (1 : Int32).toInt = 1 := rfl
  exact vin_T (addT (by omega) (by omega)) (by omega) (by omega)
theorem fdx2 {x : Int32} (h : 0 ≤ x.toInt ∧ x.toInt + 4 ≤ 400) : vp_in (x + 1 + 1) 400 := by
  have e1 : (1 : Int32).toInt = 1 := rfl
  have h1 : (x + 1).toInt = x.toInt + 1 := addT (by omega) (by omega)
  exact vin_T (addT (by omega) (by omega)) (by omega) (by omega)
theorem fdx3 {x : Int32} (h : 0 ≤ x.toInt ∧ x.toInt + 4 ≤ 400) : vp_in (x + 1 + 1 + 1) 400 := by
  have e1 : (1 : Int32).toInt = 1 := rfl
  have h1 : (x + 1).toInt = x.toInt + 1 := addT (by omega) (by omega)
  have h2 : (x + 1 + 1).toInt = x.toInt + 1 + 1 := by rw [addT (by omega) (by omega)]; omega
  exact vin_T (addT (by omega) (by omega)) (by omega) (by omega)

set_option maxHeartbeats 4000000 in
set_option maxRecDepth 100000 in
theorem k_X12_four {l : Launch} {D : va_G} {cy : Nat → ClassId} {b : Nat} {f : gMem} {m : Nat} {a : Nat → Nat} {f0 : gMem} {n : Nat → Int32} {z : Nat → Int64} {F : Nat → Nat → Int32} {G : Nat → Nat → Int64} {v : Int32}  (hS : mS cy m a f0 n z F G f) (ht : 0 ≤ (n 4).toInt ∧ (n 4).toInt + 4 ≤ 400) : gC l D cy b yX12_four cX12_four 3 none 0 0 0 [.ref m, .int v] f (pV fun f2 => ∃ n2 F2, mS cy m a f0 n2 z F2 G f2 ∧ n2 4 = n 4 + 1 + 1 + 1 + 1) := by
  refine gC_of (by decide) (Nat.le_of_ble_eq_true rfl) ?_
  show gG l _ _ _ D cy b cX12_four 3 _ RX12 "four" 0 0 f 0 [(0, .ref m), (1, .int v)] []
  refine gz_bipush (v := 24) dX12_four_0 (by decide) ?_
  refine gz_istore_n (lv' := [(2, .int 24), (0, .ref m), (1, .int v)]) dX12_four_2 rfl (by decide) rfl ?_
  refine gz_iload_n dX12_four_3 rfl rfl ?_
  refine gz_if_lt (tgt := 36) dX12_four_4 (by decide) (fun c_4 => ?_) (fun c_4 => ?_)
  · exact absurd c_4 (by decide)
  ·
    refine gz_aload_n dX12_four_7 rfl rfl ?_
    refine mg_13 hS dX12_four_8 ?_
    refine gz_aload_n dX12_four_11 rfl rfl ?_
    refine mg_262 hS dX12_four_12 ?_
    refine gz_iload_n dX12_four_15 rfl rfl ?_
    refine gz_iload_n dX12_four_16 rfl rfl ?_
    refine gz_ishr dX12_four_17 ?_
    refine gz_i2b dX12_four_18 ?_
    refine m_bast 3 hS rfl (N := 400) rfl (fdx0 ht) dX12_four_19 (fun f_1 hS_1 => ?_)
    refine gz_aload_n dX12_four_20 rfl rfl ?_
    refine gz_dup dX12_four_21 rfl ?_
    refine mg_262 hS_1 dX12_four_22 ?_
    refine gz_iconst (v := 1) dX12_four_25 (by decide) ?_
    refine gz_iadd dX12_four_26 ?_
    refine mp_262 hS_1 dX12_four_27 (fun f_2 hS_2 => ?_)
    refine gz_iinc (v := 16) (lv' := [(2, .int 16), (0, .ref m), (1, .int v)]) dX12_four_30 rfl (by decide) (by decide) rfl ?_
    refine gz_goto (tgt := 3) dX12_four_33 (by decide) ?_
    refine gz_iload_n dX12_four_3 rfl rfl ?_
    refine gz_if_lt (tgt := 36) dX12_four_4 (by decide) (fun c_4_1 => ?_) (fun c_4_1 => ?_)
    · exact absurd c_4_1 (by decide)
    ·
      refine gz_aload_n dX12_four_7 rfl rfl ?_
      refine mg_13 hS_2 dX12_four_8 ?_
      refine gz_aload_n dX12_four_11 rfl rfl ?_
      refine mg_262 hS_2 dX12_four_12 ?_
      refine gz_iload_n dX12_four_15 rfl rfl ?_
      refine gz_iload_n dX12_four_16 rfl rfl ?_
      refine gz_ishr dX12_four_17 ?_
      refine gz_i2b dX12_four_18 ?_
      refine m_bast 3 hS_2 rfl (N := 400) rfl (fdx1 ht) dX12_four_19 (fun f_3 hS_3 => ?_)
      refine gz_aload_n dX12_four_20 rfl rfl ?_
      refine gz_dup dX12_four_21 rfl ?_
      refine mg_262 hS_3 dX12_four_22 ?_
      refine gz_iconst (v := 1) dX12_four_25 (by decide) ?_
      refine gz_iadd dX12_four_26 ?_
      refine mp_262 hS_3 dX12_four_27 (fun f_4 hS_4 => ?_)
      refine gz_iinc (v := 8) (lv' := [(2, .int 8), (0, .ref m), (1, .int v)]) dX12_four_30 rfl (by decide) (by decide) rfl ?_
      refine gz_goto (tgt := 3) dX12_four_33 (by decide) ?_
      refine gz_iload_n dX12_four_3 rfl rfl ?_
      refine gz_if_lt (tgt := 36) dX12_four_4 (by decide) (fun c_4_2 => ?_) (fun c_4_2 => ?_)
      · exact absurd c_4_2 (by decide)
      ·
        refine gz_aload_n dX12_four_7 rfl rfl ?_
        refine mg_13 hS_4 dX12_four_8 ?_
        refine gz_aload_n dX12_four_11 rfl rfl ?_
        refine mg_262 hS_4 dX12_four_12 ?_
        refine gz_iload_n dX12_four_15 rfl rfl ?_
        refine gz_iload_n dX12_four_16 rfl rfl ?_
        refine gz_ishr dX12_four_17 ?_
        refine gz_i2b dX12_four_18 ?_
        refine m_bast 3 hS_4 rfl (N := 400) rfl (fdx2 ht) dX12_four_19 (fun f_5 hS_5 => ?_)
        refine gz_aload_n dX12_four_20 rfl rfl ?_
        refine gz_dup dX12_four_21 rfl ?_
        refine mg_262 hS_5 dX12_four_22 ?_
        refine gz_iconst (v := 1) dX12_four_25 (by decide) ?_
        refine gz_iadd dX12_four_26 ?_
        refine mp_262 hS_5 dX12_four_27 (fun f_6 hS_6 => ?_)
        refine gz_iinc (v := 0) (lv' := [(2, .int 0), (0, .ref m), (1, .int v)]) dX12_four_30 rfl (by decide) (by decide) rfl ?_
        refine gz_goto (tgt := 3) dX12_four_33 (by decide) ?_
        refine gz_iload_n dX12_four_3 rfl rfl ?_
        refine gz_if_lt (tgt := 36) dX12_four_4 (by decide) (fun c_4_3 => ?_) (fun c_4_3 => ?_)
        · exact absurd c_4_3 (by decide)
        ·
          refine gz_aload_n dX12_four_7 rfl rfl ?_
          refine mg_13 hS_6 dX12_four_8 ?_
          refine gz_aload_n dX12_four_11 rfl rfl ?_
          refine mg_262 hS_6 dX12_four_12 ?_
          refine gz_iload_n dX12_four_15 rfl rfl ?_
          refine gz_iload_n dX12_four_16 rfl rfl ?_
          refine gz_ishr dX12_four_17 ?_
          refine gz_i2b dX12_four_18 ?_
          refine m_bast 3 hS_6 rfl (N := 400) rfl (fdx3 ht) dX12_four_19 (fun f_7 hS_7 => ?_)
          refine gz_aload_n dX12_four_20 rfl rfl ?_
          refine gz_dup dX12_four_21 rfl ?_
          refine mg_262 hS_7 dX12_four_22 ?_
          refine gz_iconst (v := 1) dX12_four_25 (by decide) ?_
          refine gz_iadd dX12_four_26 ?_
          refine mp_262 hS_7 dX12_four_27 (fun f_8 hS_8 => ?_)
          refine gz_iinc (v := (-8)) (lv' := [(2, .int (-8)), (0, .ref m), (1, .int v)]) dX12_four_30 rfl (by decide) (by decide) rfl ?_
          refine gz_goto (tgt := 3) dX12_four_33 (by decide) ?_
          refine gz_iload_n dX12_four_3 rfl rfl ?_
          refine gz_if_lt (tgt := 36) dX12_four_4 (by decide) (fun c_4_4 => ?_) (fun c_4_4 => ?_)
          ·
            exact gz_vret rfl dX12_four_36 (Nat.le_of_ble_eq_true rfl) (Nat.le_of_ble_eq_true rfl) (⟨rfl, _, _, hS_8, rfl⟩)
          · exact absurd c_4_4 (by decide)

set_option maxHeartbeats 4000000 in
set_option maxRecDepth 100000 in
theorem k_X12_feed {l : Launch} {D : va_G} {cy : Nat → ClassId} {b : Nat} {f : gMem} {m : Nat} {a : Nat → Nat} {f0 : gMem} {n : Nat → Int32} {z : Nat → Int64} {F : Nat → Nat → Int32} {G : Nat → Nat → Int64} {x1 x2 x3 x4 x5 : Int32}  (hS : mS cy m a f0 n z F G f) (h4 : n 4 = 0) : gC l D cy b yX12_feed cX12_feed 6 (some .int) 1 0 0 [.ref m, .int x1, .int x2, .int x3, .int x4, .int x5] f (pI fun r f2 => r = 20) := by
  refine gC_of (by decide) (Nat.le_of_ble_eq_true rfl) ?_
  show gG l _ _ _ D cy b cX12_feed 6 _ RX12 "feed" 0 0 f 0 [(0, .ref m), (1, .int x1), (2, .int x2), (3, .int x3), (4, .int x4), (5, .int x5)] []
  refine gz_aload_n dX12_feed_0 rfl rfl ?_
  refine mg_262 hS dX12_feed_1 ?_
  refine gz_ev (w := .int 0) (congrArg Value.int h4) ?_
  refine gz_bipush (v := 20) dX12_feed_4 (by decide) ?_
  refine gz_iadd dX12_feed_6 ?_
  refine gz_ev (w := .int 20) (by decide) ?_
  refine gz_sipush (v := 400) dX12_feed_7 (by decide) ?_
  refine gz_icmp_le (tgt := 15) dX12_feed_10 (by decide) (fun c_10 => ?_) (fun c_10 => ?_)
  ·
    refine gz_aload_n dX12_feed_15 rfl rfl ?_
    refine gz_iload_n dX12_feed_16 rfl rfl ?_
    refine scX12_265 (k_X12_four (v := x1) hS (by rw [h4]; decide)) hS.1 ⟨(Nat.le_of_ble_eq_true rfl), (Nat.le_of_ble_eq_true rfl)⟩ ⟨(Nat.le_of_ble_eq_true rfl), (Nat.le_of_ble_eq_true rfl)⟩ rfl rfl (Nat.le_of_ble_eq_true rfl) dX12_feed_17 ?_
    rintro f_c0 ⟨n_0, F_0, hS_c0, hq0⟩
    have h4_0 : n_0 4 = 4 := by rw [hq0, h4]; decide
    refine gz_aload_n dX12_feed_20 rfl rfl ?_
    refine gz_iload_n dX12_feed_21 rfl rfl ?_
    refine scX12_265 (k_X12_four (v := x2) hS_c0 (by rw [h4_0]; decide)) hS_c0.1 ⟨(Nat.le_of_ble_eq_true rfl), (Nat.le_of_ble_eq_true rfl)⟩ ⟨(Nat.le_of_ble_eq_true rfl), (Nat.le_of_ble_eq_true rfl)⟩ rfl rfl (Nat.le_of_ble_eq_true rfl) dX12_feed_22 ?_
    rintro f_c1 ⟨n_1, F_1, hS_c1, hq1⟩
    have h4_1 : n_1 4 = 8 := by rw [hq1, h4_0]; decide
    refine gz_aload_n dX12_feed_25 rfl rfl ?_
    refine gz_iload_n dX12_feed_26 rfl rfl ?_
    refine scX12_265 (k_X12_four (v := x3) hS_c1 (by rw [h4_1]; decide)) hS_c1.1 ⟨(Nat.le_of_ble_eq_true rfl), (Nat.le_of_ble_eq_true rfl)⟩ ⟨(Nat.le_of_ble_eq_true rfl), (Nat.le_of_ble_eq_true rfl)⟩ rfl rfl (Nat.le_of_ble_eq_true rfl) dX12_feed_27 ?_
    rintro f_c2 ⟨n_2, F_2, hS_c2, hq2⟩
    have h4_2 : n_2 4 = 12 := by rw [hq2, h4_1]; decide
    refine gz_aload_n dX12_feed_30 rfl rfl ?_
    refine gz_iload dX12_feed_31 rfl ?_
    refine scX12_265 (k_X12_four (v := x4) hS_c2 (by rw [h4_2]; decide)) hS_c2.1 ⟨(Nat.le_of_ble_eq_true rfl), (Nat.le_of_ble_eq_true rfl)⟩ ⟨(Nat.le_of_ble_eq_true rfl), (Nat.le_of_ble_eq_true rfl)⟩ rfl rfl (Nat.le_of_ble_eq_true rfl) dX12_feed_33 ?_
    rintro f_c3 ⟨n_3, F_3, hS_c3, hq3⟩
    have h4_3 : n_3 4 = 16 := by rw [hq3, h4_2]; decide
    refine gz_aload_n dX12_feed_36 rfl rfl ?_
    refine gz_iload dX12_feed_37 rfl ?_
    refine scX12_265 (k_X12_four (v := x5) hS_c3 (by rw [h4_3]; decide)) hS_c3.1 ⟨(Nat.le_of_ble_eq_true rfl), (Nat.le_of_ble_eq_true rfl)⟩ ⟨(Nat.le_of_ble_eq_true rfl), (Nat.le_of_ble_eq_true rfl)⟩ rfl rfl (Nat.le_of_ble_eq_true rfl) dX12_feed_39 ?_
    rintro f_c4 ⟨n_4, F_4, hS_c4, hq4⟩
    have h4_4 : n_4 4 = 20 := by rw [hq4, h4_3]; decide
    refine gz_aload_n dX12_feed_42 rfl rfl ?_
    refine mg_262 hS_c4 dX12_feed_43 ?_
    refine gz_ev (w := .int 20) (congrArg Value.int h4_4) ?_
    exact gz_iret rfl dX12_feed_46 (Nat.le_of_ble_eq_true rfl) (Nat.le_of_ble_eq_true rfl) (⟨_, rfl, rfl⟩)
  · exact absurd c_10 (by decide)

set_option maxHeartbeats 4000000 in
set_option maxRecDepth 100000 in
theorem k_X12_end {l : Launch} {D : va_G} {cy : Nat → ClassId} {b : Nat} {f : gMem} {m : Nat} {a : Nat → Nat} {f0 : gMem} {n : Nat → Int32} {z : Nat → Int64} {F : Nat → Nat → Int32} {G : Nat → Nat → Int64} {x : Int32}  (hS : mS cy m a f0 n z F G f) (h4 : n 4 = 0) : gC l D cy b yX12_end cX12_end 2 (some .int) 0 0 0 [.ref m, .int x] f (pI fun r f2 => r = spEnd x) := by
  refine gC_of (by decide) (Nat.le_of_ble_eq_true rfl) ?_
  show gG l _ _ _ D cy b cX12_end 2 _ RX12 "end" 0 0 f 0 [(0, .ref m), (1, .int x)] []
  refine gz_iload_n dX12_end_0 rfl rfl ?_
  refine gz_if_lt (tgt := 12) dX12_end_1 (by decide) (fun c_1 => ?_) (fun c_1 => ?_)
  ·
    refine gz_iconst (v := (-1)) dX12_end_12 (by decide) ?_
    exact gz_iret rfl dX12_end_13 (Nat.le_of_ble_eq_true rfl) (Nat.le_of_ble_eq_true rfl) (⟨_, rfl, (by show _ = _; have e0 : (0 : Int32).toInt = 0 := rfl; have E0 : (0 : Int64).toInt = 0 := rfl; have e1 : (1 : Int32).toInt = 1 := rfl; have E1 : (1 : Int64).toInt = 1 := rfl; have e2 : (2 : Int32).toInt = 2 := rfl; have E2 : (2 : Int64).toInt = 2 := rfl; have e3 : (3 : Int32).toInt = 3 := rfl; have E3 : (3 : Int64).toInt = 3 := rfl; have e4 : (4 : Int32).toInt = 4 := rfl; have E4 : (4 : Int64).toInt = 4 := rfl; have e5 : (5 : Int32).toInt = 5 := rfl; have E5 : (5 : Int64).toInt = 5 := rfl; have e6 : (6 : Int32).toInt = 6 := rfl; have E6 : (6 : Int64).toInt = 6 := rfl; have e7 : (7 : Int32).toInt = 7 := rfl; have E7 : (7 : Int64).toInt = 7 := rfl; have e8 : (8 : Int32).toInt = 8 := rfl; have E8 : (8 : Int64).toInt = 8 := rfl; have e20 : (20 : Int32).toInt = 20 := rfl; have E20 : (20 : Int64).toInt = 20 := rfl; have e39 : (39 : Int32).toInt = 39 := rfl; have E39 : (39 : Int64).toInt = 39 := rfl; have e40 : (40 : Int32).toInt = 40 := rfl; have E40 : (40 : Int64).toInt = 40 := rfl; have e99 : (99 : Int32).toInt = 99 := rfl; have E99 : (99 : Int64).toInt = 99 := rfl; have em99 : ((-99) : Int32).toInt = (-99) := rfl; have Em99 : ((-99) : Int64).toInt = (-99) := rfl; have e399 : (399 : Int32).toInt = 399 := rfl; have E399 : (399 : Int64).toInt = 399 := rfl; have e400 : (400 : Int32).toInt = 400 := rfl; have E400 : (400 : Int64).toInt = 400 := rfl; have e9999 : (9999 : Int32).toInt = 9999 := rfl; have E9999 : (9999 : Int64).toInt = 9999 := rfl; have em9999 : ((-9999) : Int32).toInt = (-9999) := rfl; have Em9999 : ((-9999) : Int64).toInt = (-9999) := rfl; have em10000 : ((-10000) : Int32).toInt = (-10000) := rfl; have Em10000 : ((-10000) : Int64).toInt = (-10000) := rfl; have em1 : ((-1) : Int32).toInt = (-1) := rfl; have Em1 : ((-1) : Int64).toInt = (-1) := rfl; have e10 : (10 : Int32).toInt = 10 := rfl; have E10 : (10 : Int64).toInt = 10 := rfl; have e17 : (17 : Int32).toInt = 17 := rfl; have E17 : (17 : Int64).toInt = 17 := rfl; (try simp only [mIn_0, lgc_lt, lgc_gt, lgc_eq, lgc_le, lgc_ge] at c_1); (try simp only [fl_lt, fl_le, fl_eq, fL_lt, fL_le, fL_w] at c_1); first | (rw [spEnd, if_pos (by omega)]; first | done | rfl) | (rw [spEnd, if_neg (by omega)]; first | done | rfl))⟩)
  ·
    refine gz_iload_n dX12_end_4 rfl rfl ?_
    refine gz_aload_n dX12_end_5 rfl rfl ?_
    refine mg_262 hS dX12_end_6 ?_
    refine gz_ev (w := .int 0) (congrArg Value.int h4) ?_
    refine gz_icmp_le (tgt := 14) dX12_end_9 (by decide) (fun c_9 => ?_) (fun c_9 => ?_)
    ·
      refine gz_aload_n dX12_end_14 rfl rfl ?_
      refine gz_iload_n dX12_end_15 rfl rfl ?_
      refine mp_262 hS dX12_end_16 (fun f_1 hS_1 => ?_)
      refine gz_iload_n dX12_end_19 rfl rfl ?_
      exact gz_iret rfl dX12_end_20 (Nat.le_of_ble_eq_true rfl) (Nat.le_of_ble_eq_true rfl) (⟨_, rfl, (by show _ = _; have e0 : (0 : Int32).toInt = 0 := rfl; have E0 : (0 : Int64).toInt = 0 := rfl; have e1 : (1 : Int32).toInt = 1 := rfl; have E1 : (1 : Int64).toInt = 1 := rfl; have e2 : (2 : Int32).toInt = 2 := rfl; have E2 : (2 : Int64).toInt = 2 := rfl; have e3 : (3 : Int32).toInt = 3 := rfl; have E3 : (3 : Int64).toInt = 3 := rfl; have e4 : (4 : Int32).toInt = 4 := rfl; have E4 : (4 : Int64).toInt = 4 := rfl; have e5 : (5 : Int32).toInt = 5 := rfl; have E5 : (5 : Int64).toInt = 5 := rfl; have e6 : (6 : Int32).toInt = 6 := rfl; have E6 : (6 : Int64).toInt = 6 := rfl; have e7 : (7 : Int32).toInt = 7 := rfl; have E7 : (7 : Int64).toInt = 7 := rfl; have e8 : (8 : Int32).toInt = 8 := rfl; have E8 : (8 : Int64).toInt = 8 := rfl; have e20 : (20 : Int32).toInt = 20 := rfl; have E20 : (20 : Int64).toInt = 20 := rfl; have e39 : (39 : Int32).toInt = 39 := rfl; have E39 : (39 : Int64).toInt = 39 := rfl; have e40 : (40 : Int32).toInt = 40 := rfl; have E40 : (40 : Int64).toInt = 40 := rfl; have e99 : (99 : Int32).toInt = 99 := rfl; have E99 : (99 : Int64).toInt = 99 := rfl; have em99 : ((-99) : Int32).toInt = (-99) := rfl; have Em99 : ((-99) : Int64).toInt = (-99) := rfl; have e399 : (399 : Int32).toInt = 399 := rfl; have E399 : (399 : Int64).toInt = 399 := rfl; have e400 : (400 : Int32).toInt = 400 := rfl; have E400 : (400 : Int64).toInt = 400 := rfl; have e9999 : (9999 : Int32).toInt = 9999 := rfl; have E9999 : (9999 : Int64).toInt = 9999 := rfl; have em9999 : ((-9999) : Int32).toInt = (-9999) := rfl; have Em9999 : ((-9999) : Int64).toInt = (-9999) := rfl; have em10000 : ((-10000) : Int32).toInt = (-10000) := rfl; have Em10000 : ((-10000) : Int64).toInt = (-10000) := rfl; have em1 : ((-1) : Int32).toInt = (-1) := rfl; have Em1 : ((-1) : Int64).toInt = (-1) := rfl; have e10 : (10 : Int32).toInt = 10 := rfl; have E10 : (10 : Int64).toInt = 10 := rfl; have e17 : (17 : Int32).toInt = 17 := rfl; have E17 : (17 : Int64).toInt = 17 := rfl; simp only [fl_lt, fl_le, fl_eq] at c_1 c_9; rw [spEnd, if_pos (by omega), fl_eq]; omega)⟩)
    ·
      refine gz_iconst (v := (-1)) dX12_end_12 (by decide) ?_
      exact gz_iret rfl dX12_end_13 (Nat.le_of_ble_eq_true rfl) (Nat.le_of_ble_eq_true rfl) (⟨_, rfl, (by show _ = _; have e0 : (0 : Int32).toInt = 0 := rfl; have E0 : (0 : Int64).toInt = 0 := rfl; have e1 : (1 : Int32).toInt = 1 := rfl; have E1 : (1 : Int64).toInt = 1 := rfl; have e2 : (2 : Int32).toInt = 2 := rfl; have E2 : (2 : Int64).toInt = 2 := rfl; have e3 : (3 : Int32).toInt = 3 := rfl; have E3 : (3 : Int64).toInt = 3 := rfl; have e4 : (4 : Int32).toInt = 4 := rfl; have E4 : (4 : Int64).toInt = 4 := rfl; have e5 : (5 : Int32).toInt = 5 := rfl; have E5 : (5 : Int64).toInt = 5 := rfl; have e6 : (6 : Int32).toInt = 6 := rfl; have E6 : (6 : Int64).toInt = 6 := rfl; have e7 : (7 : Int32).toInt = 7 := rfl; have E7 : (7 : Int64).toInt = 7 := rfl; have e8 : (8 : Int32).toInt = 8 := rfl; have E8 : (8 : Int64).toInt = 8 := rfl; have e20 : (20 : Int32).toInt = 20 := rfl; have E20 : (20 : Int64).toInt = 20 := rfl; have e39 : (39 : Int32).toInt = 39 := rfl; have E39 : (39 : Int64).toInt = 39 := rfl; have e40 : (40 : Int32).toInt = 40 := rfl; have E40 : (40 : Int64).toInt = 40 := rfl; have e99 : (99 : Int32).toInt = 99 := rfl; have E99 : (99 : Int64).toInt = 99 := rfl; have em99 : ((-99) : Int32).toInt = (-99) := rfl; have Em99 : ((-99) : Int64).toInt = (-99) := rfl; have e399 : (399 : Int32).toInt = 399 := rfl; have E399 : (399 : Int64).toInt = 399 := rfl; have e400 : (400 : Int32).toInt = 400 := rfl; have E400 : (400 : Int64).toInt = 400 := rfl; have e9999 : (9999 : Int32).toInt = 9999 := rfl; have E9999 : (9999 : Int64).toInt = 9999 := rfl; have em9999 : ((-9999) : Int32).toInt = (-9999) := rfl; have Em9999 : ((-9999) : Int64).toInt = (-9999) := rfl; have em10000 : ((-10000) : Int32).toInt = (-10000) := rfl; have Em10000 : ((-10000) : Int64).toInt = (-10000) := rfl; have em1 : ((-1) : Int32).toInt = (-1) := rfl; have Em1 : ((-1) : Int64).toInt = (-1) := rfl; have e10 : (10 : Int32).toInt = 10 := rfl; have E10 : (10 : Int64).toInt = 10 := rfl; have e17 : (17 : Int32).toInt = 17 := rfl; have E17 : (17 : Int64).toInt = 17 := rfl; (try simp only [mIn_0, lgc_lt, lgc_gt, lgc_eq, lgc_le, lgc_ge] at c_1 c_9); (try simp only [fl_lt, fl_le, fl_eq, fL_lt, fL_le, fL_w] at c_1 c_9); first | (rw [spEnd, if_pos (by omega)]; first | done | rfl) | (rw [spEnd, if_neg (by omega)]; first | done | rfl))⟩)
