set_option maxHeartbeats 4000000 in
set_option maxRecDepth 100000 in
theorem k_X5_init {l : Launch} {D : va_G} {cy : Nat → ClassId} {b : Nat} {f : gMem} {p : Nat} {nu ho1 ho2 : Int32} {x : Nat} (hx : f x = some (.inr (5, [.null, .int 0, .int 0, .int 0, .null, .null, .int 0, .long 0])))  : gC l D cy b yX5_init cX5_init 5 none 1 2 80 [.ref x, .ref p, .int nu, .int ho1, .int ho2] f (pV fun f2 => ∃ (q1 q2 : Nat), f2 x = some (.inr (5, [.ref p, .int nu, .int ho1, .int ho2, .ref q1, .ref q2, .int 0, .long 0])) ∧ f2 q1 = some (.inl (cy 0, 40, .inl (fun _ => 0))) ∧ f2 q2 = some (.inl (cy 0, 40, .inl (fun _ => 0))) ∧ (f q1 = none ∧ f q2 = none ∧ q1 ≠ q2) ∧ fr [x] f f2) := by
  refine gC_of (by decide) (Nat.le_of_ble_eq_true rfl) ?_
  show gG l _ _ _ D cy b cX5_init 5 _ RX5 "<init>" 0 0 f 0 [(0, .ref x), (1, .ref p), (2, .int nu), (3, .int ho1), (4, .int ho2)] []
  refine gz_aload_n dX5_init_0 rfl rfl ?_
  refine scX5_3 (Nat.le_of_ble_eq_true rfl) (Nat.le_of_ble_eq_true rfl) (Nat.le_of_ble_eq_true rfl) dX5_init_1 ?_
  refine gz_aload_n dX5_init_4 rfl rfl ?_
  refine gz_bipush (v := 40) dX5_init_5 (by decide) ?_
  refine gz_newa0 (N' := 40) (by decide) (by decide) (by decide) (Nat.le_of_ble_eq_true rfl) (Nat.le_of_ble_eq_true rfl) wd_3 dX5_init_7 (fun q1 hq1n => ?_)
  obtain ⟨f1, hf1⟩ : ∃ gg : gMem, gg = va_up f q1 (some (.inl (cy 0, 40, .inl (fun _ => 0)))) := ⟨_, rfl⟩
  refine gz_eq (f2 := f1) hf1.symm rfl rfl rfl ?_
  have hx_1 : f1 x = some (.inr (5, [.null, .int 0, .int 0, .int 0, .null, .null, .int 0, .long 0])) := by rw [hf1, va_up_ne _ _ (cnn hx hq1n)]; exact hx
  have hq1_1 : f1 q1 = some (.inl (cy 0, 40, .inl (fun _ => 0))) := by rw [hf1]; exact va_up_self _ _ _
  refine spX5_9 hx_1 rfl (Nat.le_of_ble_eq_true rfl) dX5_init_9 ?_
  obtain ⟨f2, hf2⟩ : ∃ gg : gMem, gg = va_up f1 x (some (.inr (5, [.null, .int 0, .int 0, .int 0, .ref q1, .null, .int 0, .long 0]))) := ⟨_, rfl⟩
  refine gz_eq (f2 := f2) hf2.symm rfl rfl rfl ?_
  have hq1_2 : f2 q1 = some (.inl (cy 0, 40, .inl (fun _ => 0))) := by rw [hf2, va_up_ne _ _ (cne hq1_1 hx_1 (by simp))]; exact hq1_1
  have hx_2 : f2 x = some (.inr (5, [.null, .int 0, .int 0, .int 0, .ref q1, .null, .int 0, .long 0])) := by rw [hf2]; exact va_up_self _ _ _
  refine gz_aload_n dX5_init_12 rfl rfl ?_
  refine gz_bipush (v := 40) dX5_init_13 (by decide) ?_
  refine gz_newa0 (N' := 40) (by decide) (by decide) (by decide) (Nat.le_of_ble_eq_true rfl) (Nat.le_of_ble_eq_true rfl) wd_3 dX5_init_15 (fun q2 hq2n => ?_)
  obtain ⟨f3, hf3⟩ : ∃ gg : gMem, gg = va_up f2 q2 (some (.inl (cy 0, 40, .inl (fun _ => 0)))) := ⟨_, rfl⟩
  refine gz_eq (f2 := f3) hf3.symm rfl rfl rfl ?_
  have hq1_3 : f3 q1 = some (.inl (cy 0, 40, .inl (fun _ => 0))) := by rw [hf3, va_up_ne _ _ ((cnn hq1_2 hq2n))]; exact hq1_2
  have hx_3 : f3 x = some (.inr (5, [.null, .int 0, .int 0, .int 0, .ref q1, .null, .int 0, .long 0])) := by rw [hf3, va_up_ne _ _ (cnn hx_2 hq2n)]; exact hx_2
  have hq2_3 : f3 q2 = some (.inl (cy 0, 40, .inl (fun _ => 0))) := by rw [hf3]; exact va_up_self _ _ _
  refine spX5_15 hx_3 rfl (Nat.le_of_ble_eq_true rfl) dX5_init_17 ?_
  obtain ⟨f4, hf4⟩ : ∃ gg : gMem, gg = va_up f3 x (some (.inr (5, [.null, .int 0, .int 0, .int 0, .ref q1, .ref q2, .int 0, .long 0]))) := ⟨_, rfl⟩
  refine gz_eq (f2 := f4) hf4.symm rfl rfl rfl ?_
  have hq1_4 : f4 q1 = some (.inl (cy 0, 40, .inl (fun _ => 0))) := by rw [hf4, va_up_ne _ _ (cne hq1_3 hx_3 (by simp))]; exact hq1_3
  have hq2_4 : f4 q2 = some (.inl (cy 0, 40, .inl (fun _ => 0))) := by rw [hf4, va_up_ne _ _ (cne hq2_3 hx_3 (by simp))]; exact hq2_3
  have hx_4 : f4 x = some (.inr (5, [.null, .int 0, .int 0, .int 0, .ref q1, .ref q2, .int 0, .long 0])) := by rw [hf4]; exact va_up_self _ _ _
  refine gz_aload_n dX5_init_20 rfl rfl ?_
  refine gz_aload_n dX5_init_21 rfl rfl ?_
  refine spX5_18 hx_4 rfl (Nat.le_of_ble_eq_true rfl) dX5_init_22 ?_
  obtain ⟨f5, hf5⟩ : ∃ gg : gMem, gg = va_up f4 x (some (.inr (5, [.ref p, .int 0, .int 0, .int 0, .ref q1, .ref q2, .int 0, .long 0]))) := ⟨_, rfl⟩
  refine gz_eq (f2 := f5) hf5.symm rfl rfl rfl ?_
  have hq1_5 : f5 q1 = some (.inl (cy 0, 40, .inl (fun _ => 0))) := by rw [hf5, va_up_ne _ _ (cne hq1_4 hx_4 (by simp))]; exact hq1_4
  have hq2_5 : f5 q2 = some (.inl (cy 0, 40, .inl (fun _ => 0))) := by rw [hf5, va_up_ne _ _ (cne hq2_4 hx_4 (by simp))]; exact hq2_4
  have hx_5 : f5 x = some (.inr (5, [.ref p, .int 0, .int 0, .int 0, .ref q1, .ref q2, .int 0, .long 0])) := by rw [hf5]; exact va_up_self _ _ _
  refine gz_aload_n dX5_init_25 rfl rfl ?_
  refine gz_iload_n dX5_init_26 rfl rfl ?_
  refine spX5_22 hx_5 rfl (Nat.le_of_ble_eq_true rfl) dX5_init_27 ?_
  obtain ⟨f6, hf6⟩ : ∃ gg : gMem, gg = va_up f5 x (some (.inr (5, [.ref p, .int nu, .int 0, .int 0, .ref q1, .ref q2, .int 0, .long 0]))) := ⟨_, rfl⟩
  refine gz_eq (f2 := f6) hf6.symm rfl rfl rfl ?_
  have hq1_6 : f6 q1 = some (.inl (cy 0, 40, .inl (fun _ => 0))) := by rw [hf6, va_up_ne _ _ (cne hq1_5 hx_5 (by simp))]; exact hq1_5
  have hq2_6 : f6 q2 = some (.inl (cy 0, 40, .inl (fun _ => 0))) := by rw [hf6, va_up_ne _ _ (cne hq2_5 hx_5 (by simp))]; exact hq2_5
  have hx_6 : f6 x = some (.inr (5, [.ref p, .int nu, .int 0, .int 0, .ref q1, .ref q2, .int 0, .long 0])) := by rw [hf6]; exact va_up_self _ _ _
  refine gz_aload_n dX5_init_30 rfl rfl ?_
  refine gz_iload_n dX5_init_31 rfl rfl ?_
  refine spX5_26 hx_6 rfl (Nat.le_of_ble_eq_true rfl) dX5_init_32 ?_
  obtain ⟨f7, hf7⟩ : ∃ gg : gMem, gg = va_up f6 x (some (.inr (5, [.ref p, .int nu, .int ho1, .int 0, .ref q1, .ref q2, .int 0, .long 0]))) := ⟨_, rfl⟩
  refine gz_eq (f2 := f7) hf7.symm rfl rfl rfl ?_
  have hq1_7 : f7 q1 = some (.inl (cy 0, 40, .inl (fun _ => 0))) := by rw [hf7, va_up_ne _ _ (cne hq1_6 hx_6 (by simp))]; exact hq1_6
  have hq2_7 : f7 q2 = some (.inl (cy 0, 40, .inl (fun _ => 0))) := by rw [hf7, va_up_ne _ _ (cne hq2_6 hx_6 (by simp))]; exact hq2_6
  have hx_7 : f7 x = some (.inr (5, [.ref p, .int nu, .int ho1, .int 0, .ref q1, .ref q2, .int 0, .long 0])) := by rw [hf7]; exact va_up_self _ _ _
  refine gz_aload_n dX5_init_35 rfl rfl ?_
  refine gz_iload dX5_init_36 rfl ?_
  refine spX5_29 hx_7 rfl (Nat.le_of_ble_eq_true rfl) dX5_init_38 ?_
  obtain ⟨f8, hf8⟩ : ∃ gg : gMem, gg = va_up f7 x (some (.inr (5, [.ref p, .int nu, .int ho1, .int ho2, .ref q1, .ref q2, .int 0, .long 0]))) := ⟨_, rfl⟩
  refine gz_eq (f2 := f8) hf8.symm rfl rfl rfl ?_
  have hq1_8 : f8 q1 = some (.inl (cy 0, 40, .inl (fun _ => 0))) := by rw [hf8, va_up_ne _ _ (cne hq1_7 hx_7 (by simp))]; exact hq1_7
  have hq2_8 : f8 q2 = some (.inl (cy 0, 40, .inl (fun _ => 0))) := by rw [hf8, va_up_ne _ _ (cne hq2_7 hx_7 (by simp))]; exact hq2_7
  have hx_8 : f8 x = some (.inr (5, [.ref p, .int nu, .int ho1, .int ho2, .ref q1, .ref q2, .int 0, .long 0])) := by rw [hf8]; exact va_up_self _ _ _
  exact gz_vret rfl dX5_init_41 (Nat.le_of_ble_eq_true rfl) (Nat.le_of_ble_eq_true rfl) (⟨rfl, q1, q2, hx_8, hq1_8, hq2_8, (by have z := hq2n; rw [hf2] at z; have z1 := nb z; have z2 := z1.2; rw [hf1] at z2; have z3 := nb z2; exact ⟨hq1n, z3.2, Ne.symm z3.1⟩), (fr_le (S := [x, q1, q2]) (by rw [hf8]; exact fr_up (by rw [hf7]; exact fr_up (by rw [hf6]; exact fr_up (by rw [hf5]; exact fr_up (by rw [hf4]; exact fr_up (by rw [hf3]; exact fr_up (by rw [hf2]; exact fr_up (by rw [hf1]; exact fr_up fr_rf (by simp)) (by simp)) (by simp)) (by simp)) (by simp)) (by simp)) (by simp)) (by simp)) (by intro z hz2; simp only [List.mem_cons, List.not_mem_nil, or_false] at hz2; have hfr3 : f q1 = none ∧ f q2 = none ∧ q1 ≠ q2 := (by have z := hq2n; rw [hf2] at z; have z1 := nb z; have z2 := z1.2; rw [hf1] at z2; have z3 := nb z2; exact ⟨hq1n, z3.2, Ne.symm z3.1⟩); rcases hz2 with rfl | rfl | rfl; exact Or.inl (by simp); exact Or.inr hfr3.1; exact Or.inr hfr3.2.1))⟩)

def lifeF (csz : Int32) (lvg : Nat → Option Nat) (x : Int32) : Option Nat := if x < 0 then none else if csz ≤ x then none else if 40 ≤ x then none else lvg (Int32.toNatClampNeg x)

set_option maxHeartbeats 4000000 in
set_option maxRecDepth 100000 in
theorem k_X1_lifeAt {l : Launch} {D : va_G} {cy : Nat → ClassId} {b : Nat} {f : gMem} {co lv sc lg : Nat} {csz : Int32} {nb : Int32} {lvg : Nat → Option Nat} (hco : f co = some (.inr (1, [.ref lv, .ref sc, .ref lg, .int csz]))) (hlv : f lv = some (.inl (cy 5, 40, .inr (.inr (.inr (.inr (lvg)))))))  : gC l D cy b yX1_lifeAt cX1_lifeAt 2 (some (.object "DeedTongue$Life")) 0 0 0 [.ref co, .int nb] f (pR fun u f2 => u = lifeF csz lvg nb ∧ f2 = f) := by
  refine gC_of (by decide) (Nat.le_of_ble_eq_true rfl) ?_
  show gG l _ _ _ D cy b cX1_lifeAt 2 _ RX1 "lifeAt" 0 0 f 0 [(0, .ref co), (1, .int nb)] []
  refine gz_iload_n dX1_lifeAt_0 rfl rfl ?_
  refine gz_if_lt (tgt := 27) dX1_lifeAt_1 (by decide) (fun c_1 => ?_) (fun c_1 => ?_)
  ·
    refine gz_null dX1_lifeAt_27 ?_
    exact gz_aret rfl (Or.inl rfl) dX1_lifeAt_28 (Nat.le_of_ble_eq_true rfl) (Nat.le_of_ble_eq_true rfl) (⟨none, rfl, (by unfold lifeF; rw [if_pos c_1]), rfl⟩)
  ·
    refine gz_iload_n dX1_lifeAt_4 rfl rfl ?_
    refine gz_aload_n dX1_lifeAt_5 rfl rfl ?_
    refine sgX1_25 hco rfl dX1_lifeAt_6 ?_
    refine gz_icmp_ge (tgt := 27) dX1_lifeAt_9 (by decide) (fun c_9 => ?_) (fun c_9 => ?_)
    ·
      refine gz_null dX1_lifeAt_27 ?_
      exact gz_aret rfl (Or.inl rfl) dX1_lifeAt_28 (Nat.le_of_ble_eq_true rfl) (Nat.le_of_ble_eq_true rfl) (⟨none, rfl, (by unfold lifeF; rw [if_neg c_1, if_pos c_9]), rfl⟩)
    ·
      refine gz_iload_n dX1_lifeAt_12 rfl rfl ?_
      refine gz_bipush (v := 40) dX1_lifeAt_13 (by decide) ?_
      refine gz_icmp_ge (tgt := 27) dX1_lifeAt_15 (by decide) (fun c_15 => ?_) (fun c_15 => ?_)
      ·
        refine gz_null dX1_lifeAt_27 ?_
        exact gz_aret rfl (Or.inl rfl) dX1_lifeAt_28 (Nat.le_of_ble_eq_true rfl) (Nat.le_of_ble_eq_true rfl) (⟨none, rfl, (by unfold lifeF; rw [if_neg c_1, if_neg c_9, if_pos c_15]), rfl⟩)
      ·
        refine gz_aload_n dX1_lifeAt_18 rfl rfl ?_
        refine sgX1_11 hco rfl dX1_lifeAt_19 ?_
        refine gz_iload_n dX1_lifeAt_22 rfl rfl ?_
        refine gz_aald5 hlv ((by have e0 : (0 : Int32).toInt = 0 := rfl; have e40 : (40 : Int32).toInt = 40 := rfl; simp only [fl_lt, fl_le] at c_1 c_15; exact vin_T (rfl : nb.toInt = nb.toInt) (by omega) (by omega))) dX1_lifeAt_23 ?_
        refine gz_goto (tgt := 28) dX1_lifeAt_24 (by decide) ?_
        exact gz_aret rfl (va_rf_or _) dX1_lifeAt_28 (Nat.le_of_ble_eq_true rfl) (Nat.le_of_ble_eq_true rfl) (⟨_, rfl, (by unfold lifeF; rw [if_neg c_1, if_neg c_9, if_neg c_15]), rfl⟩)

set_option maxHeartbeats 4000000 in
set_option maxRecDepth 100000 in
theorem k_X1_decide {l : Launch} {D : va_G} {cy : Nat → ClassId} {b : Nat} {f : gMem} {co lv sc th lg en ne ge re gv tk am lf p so fc c1 c2 n1 n2 : Nat} {csz da sz lo gi nu ho1 ho2 fs_ s v : Int32} {ga : Int64} {eg sg fg g h t : Nat → Int32} {nb kx hx_ kd wh y2 : Int32} {lvg : Nat → Option Nat} (hco : f co = some (.inr (1, [.ref lv, .ref sc, .ref lg, .int csz]))) (hlv : f lv = some (.inl (cy 5, 40, .inr (.inr (.inr (.inr (lvg))))))) (hlf : f lf = some (.inr (5, [.ref p, .int nu, .int ho1, .int ho2, .ref so, .ref fc, .int fs_, .long ga]))) (hso : f so = some (.inl (cy 0, 40, .inl (sg)))) (hfc : f fc = some (.inl (cy 0, 40, .inl (fg)))) (hp : f p = some (.inr (2, [.ref c1, .ref c2, .int s, .int v]))) (h1 : f c1 = some (.inl (cy 0, n1, .inl (g)))) (h2 : f c2 = some (.inl (cy 0, n2, .inl (h)))) (hsc : f sc = some (.inr (7, [.ref th, .int da]))) (hth : f th = some (.inl (cy 0, 6, .inl (t)))) (hlg : f lg = some (.inr (4, [.ref en, .int sz, .int lo, .ref ge, .ref re, .ref gv, .ref tk, .ref am, .int gi]))) (hen : f en = some (.inl (cy 0, ne, .inl (eg)))) (hs : 0 ≤ s.toInt ∧ 13 * s.toInt ≤ n1 ∧ n1 ≤ 520) (hv : 0 ≤ v.toInt ∧ 2 * v.toInt ≤ n2 ∧ n2 ≤ 80) (hne : so ≠ fc ∧ so ≠ c1 ∧ so ≠ c2 ∧ so ≠ th ∧ fc ≠ c1 ∧ fc ≠ c2 ∧ fc ≠ th) (hl : 0 ≤ sz.toInt ∧ sz.toInt ≤ 2000 ∧ 6 * sz.toInt ≤ ne ∧ ne ≤ 24000) (hen2 : en ≠ so ∧ en ≠ fc ∧ en ≠ c1 ∧ en ≠ c2 ∧ en ≠ th) (hA : lifeF csz lvg nb = some lf) : gU l D cy b yX1_decide cX1_decide 10 (some .int) 20 (24000 - ne) (2 * (24000 - ne)) [.ref co, .int nb, .int kx, .int hx_, .int kd, .int wh] f gTt (fun kk nn r f2 => ∃ (r2 : Int32) (e2 m2 : Nat) (g2 : Nat → Int32) (s2 l2 z2 : Int32) (a2 : Int64) (x2 y2 : Nat → Int32), r = some (.int r2) ∧ f2 lg = some (.inr (4, [.ref e2, .int s2, .int l2, .ref ge, .ref re, .ref gv, .ref tk, .ref am, .int gi])) ∧ f2 e2 = some (.inl (cy 0, m2, .inl (g2))) ∧ f2 lf = some (.inr (5, [.ref p, .int nu, .int ho1, .int ho2, .ref so, .ref fc, .int z2, .long a2])) ∧ f2 so = some (.inl (cy 0, 40, .inl (x2))) ∧ f2 fc = some (.inl (cy 0, 40, .inl (y2))) ∧ (0 ≤ s2.toInt ∧ s2.toInt ≤ 2000 ∧ 6 * s2.toInt ≤ m2 ∧ m2 ≤ 24000) ∧ (kk + ne ≤ m2 ∧ nn + 2 * ne ≤ 2 * m2) ∧ (e2 = en ∨ f e2 = none) ∧ fr [lg, en, lf, so, fc] f f2) := by
  refine gU_of (by decide) (Nat.le_of_ble_eq_true rfl) ?_
  show gG l _ _ _ D cy b cX1_decide 10 _ RX1 "decide" 0 0 f 0 [(0, .ref co), (1, .int nb), (2, .int kx), (3, .int hx_), (4, .int kd), (5, .int wh)] []
  refine gz_aload_n dX1_decide_0 rfl rfl ?_
  refine gz_iload_n dX1_decide_1 rfl rfl ?_
  refine scX1_114 (k_X1_lifeAt (nb := nb) hco hlv) hco ⟨(Nat.le_of_ble_eq_true rfl), (Nat.le_of_ble_eq_true rfl)⟩ ⟨(by simp only [gRm]; omega), (by simp only [gRm]; omega)⟩ rfl rfl (Nat.le_of_ble_eq_true rfl) dX1_decide_2 ?_
  rintro u9 f9 ⟨rfl, rfl⟩
  refine gz_ev (w := .ref lf) (by rw [hA]; rfl) ?_
  refine gz_astore (lv' := [(6, .ref lf), (0, .ref co), (1, .int nb), (2, .int kx), (3, .int hx_), (4, .int kd), (5, .int wh)]) dX1_decide_5 (by decide) rfl ?_
  refine gz_aload dX1_decide_7 rfl ?_
  refine gz_ifnonnull (tgt := 14) dX1_decide_9 (by decide) ?_
  refine gz_aload dX1_decide_14 rfl ?_
  refine sgX1_39 hlf rfl dX1_decide_16 ?_
  refine gz_astore (lv' := [(7, .ref p), (6, .ref lf), (0, .ref co), (1, .int nb), (2, .int kx), (3, .int hx_), (4, .int kd), (5, .int wh)]) dX1_decide_19 (by decide) rfl ?_
  refine gz_aload dX1_decide_21 rfl ?_
  refine gz_iload_n dX1_decide_23 rfl rfl ?_
  refine scX1_96 (k_X5_wordAt (k := kx) hlf hso) hlf ⟨(Nat.le_of_ble_eq_true rfl), (Nat.le_of_ble_eq_true rfl)⟩ ⟨(by simp only [gRm]; omega), (by simp only [gRm]; omega)⟩ rfl rfl (Nat.le_of_ble_eq_true rfl) dX1_decide_24 ?_
  intro v9 f9 z9; rw [z9.1, z9.2]
  refine gz_istore (lv' := [(8, .int (wdAF sg fs_ kx)), (7, .ref p), (6, .ref lf), (0, .ref co), (1, .int nb), (2, .int kx), (3, .int hx_), (4, .int kd), (5, .int wh)]) dX1_decide_27 (by decide) rfl ?_
  refine gz_iload dX1_decide_29 rfl ?_
  refine gz_iconst (v := (-1)) dX1_decide_31 (by decide) ?_
  refine gz_icmp_eq (tgt := 59) dX1_decide_32 (by decide) (fun c_32 => ?_) (fun c_32 => ?_)
  ·
    refine gz_iconst (v := (-1)) dX1_decide_59 (by decide) ?_
    exact gz_iretU rfl dX1_decide_60 (by omega) (by omega) (⟨_, _, _, _, _, _, _, _, _, _, rfl, hlg, hen, hlf, hso, hfc, hl, ⟨by omega, by omega⟩, (Or.inl rfl), fr_rf⟩)
  ·
    refine gz_aload dX1_decide_35 rfl ?_
    refine gz_iload dX1_decide_37 rfl ?_
    refine gz_iconst (v := 0) dX1_decide_39 (by decide) ?_
    refine scX1_49 (k_X2_field (w := (wdAF sg fs_ kx)) (k := 0) hp h1 hs) hp ⟨(Nat.le_of_ble_eq_true rfl), (Nat.le_of_ble_eq_true rfl)⟩ ⟨(by simp only [gRm]; omega), (by simp only [gRm]; omega)⟩ rfl rfl (Nat.le_of_ble_eq_true rfl) dX1_decide_40 ?_
    intro v9 f9 z9; rw [z9.1, z9.2]
    refine gz_iload dX1_decide_43 rfl ?_
    refine gz_icmp_ne (tgt := 59) dX1_decide_45 (by decide) (fun c_45 => ?_) (fun c_45 => ?_)
    ·
      refine gz_iconst (v := (-1)) dX1_decide_59 (by decide) ?_
      exact gz_iretU rfl dX1_decide_60 (by omega) (by omega) (⟨_, _, _, _, _, _, _, _, _, _, rfl, hlg, hen, hlf, hso, hfc, hl, ⟨by omega, by omega⟩, (Or.inl rfl), fr_rf⟩)
    ·
      refine gz_aload dX1_decide_48 rfl ?_
      refine gz_iload dX1_decide_50 rfl ?_
      refine scX1_118 (k_X5_chooser (x := (wdAF sg fs_ kx)) hlf hp h1 hs) hlf ⟨(Nat.le_of_ble_eq_true rfl), (Nat.le_of_ble_eq_true rfl)⟩ ⟨(by simp only [gRm]; omega), (by simp only [gRm]; omega)⟩ rfl rfl (Nat.le_of_ble_eq_true rfl) dX1_decide_52 ?_
      intro v9 f9 z9; rw [z9.1, z9.2]
      refine gz_iload_n dX1_decide_55 rfl rfl ?_
      refine gz_icmp_eq (tgt := 61) dX1_decide_56 (by decide) (fun c_56 => ?_) (fun c_56 => ?_)
      ·
        refine gz_aload dX1_decide_61 rfl ?_
        refine gz_iload dX1_decide_63 rfl ?_
        refine gz_aload_n dX1_decide_65 rfl rfl ?_
        refine sgX1_17 hco rfl dX1_decide_66 ?_
        refine scX1_43 (k_X2_lapsed (w := (wdAF sg fs_ kx)) hp h1 h2 hsc hth hs hv) hp ⟨(Nat.le_of_ble_eq_true rfl), (Nat.le_of_ble_eq_true rfl)⟩ ⟨(by simp only [gRm]; omega), (by simp only [gRm]; omega)⟩ rfl rfl (Nat.le_of_ble_eq_true rfl) dX1_decide_69 ?_
        intro v9 f9 z9; rw [z9.1, z9.2]
        refine gz_if_ne (tgt := 96) dX1_decide_72 (by decide) (fun c_72 => ?_) (fun c_72 => ?_)
        ·
          refine gz_iconst (v := (-1)) dX1_decide_96 (by decide) ?_
          exact gz_iretU rfl dX1_decide_97 (by omega) (by omega) (⟨_, _, _, _, _, _, _, _, _, _, rfl, hlg, hen, hlf, hso, hfc, hl, ⟨by omega, by omega⟩, (Or.inl rfl), fr_rf⟩)
        ·
          refine gz_iload dX1_decide_75 rfl ?_
          refine gz_bipush (v := 7) dX1_decide_77 (by decide) ?_
          refine gz_icmp_ne (tgt := 98) dX1_decide_79 (by decide) (fun c_79 => ?_) (fun c_79 => ?_)
          ·
            refine gz_aload_n dX1_decide_98 rfl rfl ?_
            refine sgX1_21 hco rfl dX1_decide_99 ?_
            refine scX1_121 (k_X4_size hlg) hlg ⟨(Nat.le_of_ble_eq_true rfl), (Nat.le_of_ble_eq_true rfl)⟩ ⟨(by simp only [gRm]; omega), (by simp only [gRm]; omega)⟩ rfl rfl (Nat.le_of_ble_eq_true rfl) dX1_decide_102 ?_
            intro v9 f9 z9; rw [z9.1, z9.2]
            refine gz_istore (lv' := [(9, .int sz), (8, .int (wdAF sg fs_ kx)), (7, .ref p), (6, .ref lf), (0, .ref co), (1, .int nb), (2, .int kx), (3, .int hx_), (4, .int kd), (5, .int wh)]) dX1_decide_105 (by decide) rfl ?_
            refine gz_aload_n dX1_decide_107 rfl rfl ?_
            refine gz_aload dX1_decide_108 rfl ?_
            refine gz_iload_n dX1_decide_110 rfl rfl ?_
            refine gz_iload dX1_decide_111 rfl ?_
            refine gz_if_ne (tgt := 120) dX1_decide_113 (by decide) (fun c_113 => ?_) (fun c_113 => ?_)
            ·
              refine gz_iconst (v := 4) dX1_decide_120 (by decide) ?_
              refine suX1_104 (k_X1_enter (k0 := kx) (fd := 4) hco hlf hso hfc hp h1 h2 hsc hth hlg hen hs hv hne hl hen2) hco ⟨(Nat.le_of_ble_eq_true rfl), (Nat.le_of_ble_eq_true rfl)⟩ ⟨(by simp only [gRm]; omega), (by simp only [gRm]; omega)⟩ rfl rfl (Nat.le_of_ble_eq_true rfl) dX1_decide_121 ?_
              rintro kk_1 nn_1 r_1 f1 ⟨e_1, m_1, g_1, s_1, l_1, z_1, a_1, x_1, y_1, rfl, hlg_1, he_1, hlf_1, hso_1, hfc_1, hl_1, hu_1, hc_1, hr1⟩
              refine gz_eq (st2 := []) rfl rfl rfl rfl ?_
              have hco_1 : f1 co = some (.inr (1, [.ref lv, .ref sc, .ref lg, .int csz])) := hr1 _ _ hco (by simp only [List.mem_cons, List.not_mem_nil, or_false, not_or]; exact ⟨cne hco hlg (by simp), cne hco hen (by simp), cne hco hlf (by simp), cne hco hso (by simp), cne hco hfc (by simp)⟩)
              have hlv_1 : f1 lv = some (.inl (cy 5, 40, .inr (.inr (.inr (.inr (lvg)))))) := hr1 _ _ hlv (by simp only [List.mem_cons, List.not_mem_nil, or_false, not_or]; exact ⟨cne hlv hlg (by simp), cne hlv hen (by simp), cne hlv hlf (by simp), cne hlv hso (by simp), cne hlv hfc (by simp)⟩)
              have hp_1 : f1 p = some (.inr (2, [.ref c1, .ref c2, .int s, .int v])) := hr1 _ _ hp (by simp only [List.mem_cons, List.not_mem_nil, or_false, not_or]; exact ⟨cne hp hlg (by simp), cne hp hen (by simp), cne hp hlf (by simp), cne hp hso (by simp), cne hp hfc (by simp)⟩)
              have h1_1 : f1 c1 = some (.inl (cy 0, n1, .inl (g))) := hr1 _ _ h1 (by simp only [List.mem_cons, List.not_mem_nil, or_false, not_or]; exact ⟨cne h1 hlg (by simp), Ne.symm (hen2.2.2.1), cne h1 hlf (by simp), Ne.symm (hne.2.1), Ne.symm (hne.2.2.2.2.1)⟩)
              have h2_1 : f1 c2 = some (.inl (cy 0, n2, .inl (h))) := hr1 _ _ h2 (by simp only [List.mem_cons, List.not_mem_nil, or_false, not_or]; exact ⟨cne h2 hlg (by simp), Ne.symm (hen2.2.2.2.1), cne h2 hlf (by simp), Ne.symm (hne.2.2.1), Ne.symm (hne.2.2.2.2.2.1)⟩)
              have hsc_1 : f1 sc = some (.inr (7, [.ref th, .int da])) := hr1 _ _ hsc (by simp only [List.mem_cons, List.not_mem_nil, or_false, not_or]; exact ⟨cne hsc hlg (by simp), cne hsc hen (by simp), cne hsc hlf (by simp), cne hsc hso (by simp), cne hsc hfc (by simp)⟩)
              have hth_1 : f1 th = some (.inl (cy 0, 6, .inl (t))) := hr1 _ _ hth (by simp only [List.mem_cons, List.not_mem_nil, or_false, not_or]; exact ⟨cne hth hlg (by simp), Ne.symm (hen2.2.2.2.2), cne hth hlf (by simp), Ne.symm (hne.2.2.2.1), Ne.symm (hne.2.2.2.2.2.2)⟩)
              refine gz_aload_n dX1_decide_124 rfl rfl ?_
              refine sgX1_21 hco_1 rfl dX1_decide_125 ?_
              refine scX1_121 (k_X4_size hlg_1) hlg_1 ⟨(Nat.le_of_ble_eq_true rfl), (Nat.le_of_ble_eq_true rfl)⟩ ⟨(by simp only [gRm]; omega), (by simp only [gRm]; omega)⟩ rfl rfl (Nat.le_of_ble_eq_true rfl) dX1_decide_128 ?_
              intro v9 f9 z9; rw [z9.1, z9.2]
              refine gz_iload dX1_decide_131 rfl ?_
              refine gz_isub dX1_decide_133 ?_
              exact gz_iretU rfl dX1_decide_134 (by omega) (by omega) (⟨_, _, _, _, _, _, _, _, _, _, rfl, hlg_1, he_1, hlf_1, hso_1, hfc_1, hl_1, ⟨by omega, by omega⟩, hc_1, (fr_tr fr_rf (fr_mo hr1 (by simp)))⟩)
            ·
              refine gz_iconst (v := 3) dX1_decide_116 (by decide) ?_
              refine gz_goto (tgt := 121) dX1_decide_117 (by decide) ?_
              refine suX1_104 (k_X1_enter (k0 := kx) (fd := 3) hco hlf hso hfc hp h1 h2 hsc hth hlg hen hs hv hne hl hen2) hco ⟨(Nat.le_of_ble_eq_true rfl), (Nat.le_of_ble_eq_true rfl)⟩ ⟨(by simp only [gRm]; omega), (by simp only [gRm]; omega)⟩ rfl rfl (Nat.le_of_ble_eq_true rfl) dX1_decide_121 ?_
              rintro kk_2 nn_2 r_2 f2 ⟨e_2, m_2, g_2, s_2, l_2, z_2, a_2, x_2, y_2, rfl, hlg_2, he_2, hlf_2, hso_2, hfc_2, hl_2, hu_2, hc_2, hr2⟩
              refine gz_eq (st2 := []) rfl rfl rfl rfl ?_
              have hco_2 : f2 co = some (.inr (1, [.ref lv, .ref sc, .ref lg, .int csz])) := hr2 _ _ hco (by simp only [List.mem_cons, List.not_mem_nil, or_false, not_or]; exact ⟨cne hco hlg (by simp), cne hco hen (by simp), cne hco hlf (by simp), cne hco hso (by simp), cne hco hfc (by simp)⟩)
              have hlv_2 : f2 lv = some (.inl (cy 5, 40, .inr (.inr (.inr (.inr (lvg)))))) := hr2 _ _ hlv (by simp only [List.mem_cons, List.not_mem_nil, or_false, not_or]; exact ⟨cne hlv hlg (by simp), cne hlv hen (by simp), cne hlv hlf (by simp), cne hlv hso (by simp), cne hlv hfc (by simp)⟩)
              have hp_2 : f2 p = some (.inr (2, [.ref c1, .ref c2, .int s, .int v])) := hr2 _ _ hp (by simp only [List.mem_cons, List.not_mem_nil, or_false, not_or]; exact ⟨cne hp hlg (by simp), cne hp hen (by simp), cne hp hlf (by simp), cne hp hso (by simp), cne hp hfc (by simp)⟩)
              have h1_2 : f2 c1 = some (.inl (cy 0, n1, .inl (g))) := hr2 _ _ h1 (by simp only [List.mem_cons, List.not_mem_nil, or_false, not_or]; exact ⟨cne h1 hlg (by simp), Ne.symm (hen2.2.2.1), cne h1 hlf (by simp), Ne.symm (hne.2.1), Ne.symm (hne.2.2.2.2.1)⟩)
              have h2_2 : f2 c2 = some (.inl (cy 0, n2, .inl (h))) := hr2 _ _ h2 (by simp only [List.mem_cons, List.not_mem_nil, or_false, not_or]; exact ⟨cne h2 hlg (by simp), Ne.symm (hen2.2.2.2.1), cne h2 hlf (by simp), Ne.symm (hne.2.2.1), Ne.symm (hne.2.2.2.2.2.1)⟩)
              have hsc_2 : f2 sc = some (.inr (7, [.ref th, .int da])) := hr2 _ _ hsc (by simp only [List.mem_cons, List.not_mem_nil, or_false, not_or]; exact ⟨cne hsc hlg (by simp), cne hsc hen (by simp), cne hsc hlf (by simp), cne hsc hso (by simp), cne hsc hfc (by simp)⟩)
              have hth_2 : f2 th = some (.inl (cy 0, 6, .inl (t))) := hr2 _ _ hth (by simp only [List.mem_cons, List.not_mem_nil, or_false, not_or]; exact ⟨cne hth hlg (by simp), Ne.symm (hen2.2.2.2.2), cne hth hlf (by simp), Ne.symm (hne.2.2.2.1), Ne.symm (hne.2.2.2.2.2.2)⟩)
              refine gz_aload_n dX1_decide_124 rfl rfl ?_
              refine sgX1_21 hco_2 rfl dX1_decide_125 ?_
              refine scX1_121 (k_X4_size hlg_2) hlg_2 ⟨(Nat.le_of_ble_eq_true rfl), (Nat.le_of_ble_eq_true rfl)⟩ ⟨(by simp only [gRm]; omega), (by simp only [gRm]; omega)⟩ rfl rfl (Nat.le_of_ble_eq_true rfl) dX1_decide_128 ?_
              intro v9 f9 z9; rw [z9.1, z9.2]
              refine gz_iload dX1_decide_131 rfl ?_
              refine gz_isub dX1_decide_133 ?_
              exact gz_iretU rfl dX1_decide_134 (by omega) (by omega) (⟨_, _, _, _, _, _, _, _, _, _, rfl, hlg_2, he_2, hlf_2, hso_2, hfc_2, hl_2, ⟨by omega, by omega⟩, hc_2, (fr_tr fr_rf (fr_mo hr2 (by simp)))⟩)
          ·
            refine gz_aload dX1_decide_82 rfl ?_
            refine gz_iload dX1_decide_84 rfl ?_
            refine gz_aload_n dX1_decide_86 rfl rfl ?_
            refine sgX1_17 hco rfl dX1_decide_87 ?_
            refine scX1_70 (k_X2_holds (w := (wdAF sg fs_ kx)) hp h1 h2 hsc hth hs hv) hp ⟨(Nat.le_of_ble_eq_true rfl), (Nat.le_of_ble_eq_true rfl)⟩ ⟨(by simp only [gRm]; omega), (by simp only [gRm]; omega)⟩ rfl rfl (Nat.le_of_ble_eq_true rfl) dX1_decide_90 ?_
            intro v9 f9 z9; rw [z9.1, z9.2]
            refine gz_if_ne (tgt := 98) dX1_decide_93 (by decide) (fun c_93 => ?_) (fun c_93 => ?_)
            ·
              refine gz_aload_n dX1_decide_98 rfl rfl ?_
              refine sgX1_21 hco rfl dX1_decide_99 ?_
              refine scX1_121 (k_X4_size hlg) hlg ⟨(Nat.le_of_ble_eq_true rfl), (Nat.le_of_ble_eq_true rfl)⟩ ⟨(by simp only [gRm]; omega), (by simp only [gRm]; omega)⟩ rfl rfl (Nat.le_of_ble_eq_true rfl) dX1_decide_102 ?_
              intro v9 f9 z9; rw [z9.1, z9.2]
              refine gz_istore (lv' := [(9, .int sz), (8, .int (wdAF sg fs_ kx)), (7, .ref p), (6, .ref lf), (0, .ref co), (1, .int nb), (2, .int kx), (3, .int hx_), (4, .int kd), (5, .int wh)]) dX1_decide_105 (by decide) rfl ?_
              refine gz_aload_n dX1_decide_107 rfl rfl ?_
              refine gz_aload dX1_decide_108 rfl ?_
              refine gz_iload_n dX1_decide_110 rfl rfl ?_
              refine gz_iload dX1_decide_111 rfl ?_
              refine gz_if_ne (tgt := 120) dX1_decide_113 (by decide) (fun c_113 => ?_) (fun c_113 => ?_)
              ·
                refine gz_iconst (v := 4) dX1_decide_120 (by decide) ?_
                refine suX1_104 (k_X1_enter (k0 := kx) (fd := 4) hco hlf hso hfc hp h1 h2 hsc hth hlg hen hs hv hne hl hen2) hco ⟨(Nat.le_of_ble_eq_true rfl), (Nat.le_of_ble_eq_true rfl)⟩ ⟨(by simp only [gRm]; omega), (by simp only [gRm]; omega)⟩ rfl rfl (Nat.le_of_ble_eq_true rfl) dX1_decide_121 ?_
                rintro kk_3 nn_3 r_3 f3 ⟨e_3, m_3, g_3, s_3, l_3, z_3, a_3, x_3, y_3, rfl, hlg_3, he_3, hlf_3, hso_3, hfc_3, hl_3, hu_3, hc_3, hr3⟩
                refine gz_eq (st2 := []) rfl rfl rfl rfl ?_
                have hco_3 : f3 co = some (.inr (1, [.ref lv, .ref sc, .ref lg, .int csz])) := hr3 _ _ hco (by simp only [List.mem_cons, List.not_mem_nil, or_false, not_or]; exact ⟨cne hco hlg (by simp), cne hco hen (by simp), cne hco hlf (by simp), cne hco hso (by simp), cne hco hfc (by simp)⟩)
                have hlv_3 : f3 lv = some (.inl (cy 5, 40, .inr (.inr (.inr (.inr (lvg)))))) := hr3 _ _ hlv (by simp only [List.mem_cons, List.not_mem_nil, or_false, not_or]; exact ⟨cne hlv hlg (by simp), cne hlv hen (by simp), cne hlv hlf (by simp), cne hlv hso (by simp), cne hlv hfc (by simp)⟩)
                have hp_3 : f3 p = some (.inr (2, [.ref c1, .ref c2, .int s, .int v])) := hr3 _ _ hp (by simp only [List.mem_cons, List.not_mem_nil, or_false, not_or]; exact ⟨cne hp hlg (by simp), cne hp hen (by simp), cne hp hlf (by simp), cne hp hso (by simp), cne hp hfc (by simp)⟩)
                have h1_3 : f3 c1 = some (.inl (cy 0, n1, .inl (g))) := hr3 _ _ h1 (by simp only [List.mem_cons, List.not_mem_nil, or_false, not_or]; exact ⟨cne h1 hlg (by simp), Ne.symm (hen2.2.2.1), cne h1 hlf (by simp), Ne.symm (hne.2.1), Ne.symm (hne.2.2.2.2.1)⟩)
                have h2_3 : f3 c2 = some (.inl (cy 0, n2, .inl (h))) := hr3 _ _ h2 (by simp only [List.mem_cons, List.not_mem_nil, or_false, not_or]; exact ⟨cne h2 hlg (by simp), Ne.symm (hen2.2.2.2.1), cne h2 hlf (by simp), Ne.symm (hne.2.2.1), Ne.symm (hne.2.2.2.2.2.1)⟩)
                have hsc_3 : f3 sc = some (.inr (7, [.ref th, .int da])) := hr3 _ _ hsc (by simp only [List.mem_cons, List.not_mem_nil, or_false, not_or]; exact ⟨cne hsc hlg (by simp), cne hsc hen (by simp), cne hsc hlf (by simp), cne hsc hso (by simp), cne hsc hfc (by simp)⟩)
                have hth_3 : f3 th = some (.inl (cy 0, 6, .inl (t))) := hr3 _ _ hth (by simp only [List.mem_cons, List.not_mem_nil, or_false, not_or]; exact ⟨cne hth hlg (by simp), Ne.symm (hen2.2.2.2.2), cne hth hlf (by simp), Ne.symm (hne.2.2.2.1), Ne.symm (hne.2.2.2.2.2.2)⟩)
                refine gz_aload_n dX1_decide_124 rfl rfl ?_
                refine sgX1_21 hco_3 rfl dX1_decide_125 ?_
                refine scX1_121 (k_X4_size hlg_3) hlg_3 ⟨(Nat.le_of_ble_eq_true rfl), (Nat.le_of_ble_eq_true rfl)⟩ ⟨(by simp only [gRm]; omega), (by simp only [gRm]; omega)⟩ rfl rfl (Nat.le_of_ble_eq_true rfl) dX1_decide_128 ?_
                intro v9 f9 z9; rw [z9.1, z9.2]
                refine gz_iload dX1_decide_131 rfl ?_
                refine gz_isub dX1_decide_133 ?_
                exact gz_iretU rfl dX1_decide_134 (by omega) (by omega) (⟨_, _, _, _, _, _, _, _, _, _, rfl, hlg_3, he_3, hlf_3, hso_3, hfc_3, hl_3, ⟨by omega, by omega⟩, hc_3, (fr_tr fr_rf (fr_mo hr3 (by simp)))⟩)
              ·
                refine gz_iconst (v := 3) dX1_decide_116 (by decide) ?_
                refine gz_goto (tgt := 121) dX1_decide_117 (by decide) ?_
                refine suX1_104 (k_X1_enter (k0 := kx) (fd := 3) hco hlf hso hfc hp h1 h2 hsc hth hlg hen hs hv hne hl hen2) hco ⟨(Nat.le_of_ble_eq_true rfl), (Nat.le_of_ble_eq_true rfl)⟩ ⟨(by simp only [gRm]; omega), (by simp only [gRm]; omega)⟩ rfl rfl (Nat.le_of_ble_eq_true rfl) dX1_decide_121 ?_
                rintro kk_4 nn_4 r_4 f4 ⟨e_4, m_4, g_4, s_4, l_4, z_4, a_4, x_4, y_4, rfl, hlg_4, he_4, hlf_4, hso_4, hfc_4, hl_4, hu_4, hc_4, hr4⟩
                refine gz_eq (st2 := []) rfl rfl rfl rfl ?_
                have hco_4 : f4 co = some (.inr (1, [.ref lv, .ref sc, .ref lg, .int csz])) := hr4 _ _ hco (by simp only [List.mem_cons, List.not_mem_nil, or_false, not_or]; exact ⟨cne hco hlg (by simp), cne hco hen (by simp), cne hco hlf (by simp), cne hco hso (by simp), cne hco hfc (by simp)⟩)
                have hlv_4 : f4 lv = some (.inl (cy 5, 40, .inr (.inr (.inr (.inr (lvg)))))) := hr4 _ _ hlv (by simp only [List.mem_cons, List.not_mem_nil, or_false, not_or]; exact ⟨cne hlv hlg (by simp), cne hlv hen (by simp), cne hlv hlf (by simp), cne hlv hso (by simp), cne hlv hfc (by simp)⟩)
                have hp_4 : f4 p = some (.inr (2, [.ref c1, .ref c2, .int s, .int v])) := hr4 _ _ hp (by simp only [List.mem_cons, List.not_mem_nil, or_false, not_or]; exact ⟨cne hp hlg (by simp), cne hp hen (by simp), cne hp hlf (by simp), cne hp hso (by simp), cne hp hfc (by simp)⟩)
                have h1_4 : f4 c1 = some (.inl (cy 0, n1, .inl (g))) := hr4 _ _ h1 (by simp only [List.mem_cons, List.not_mem_nil, or_false, not_or]; exact ⟨cne h1 hlg (by simp), Ne.symm (hen2.2.2.1), cne h1 hlf (by simp), Ne.symm (hne.2.1), Ne.symm (hne.2.2.2.2.1)⟩)
                have h2_4 : f4 c2 = some (.inl (cy 0, n2, .inl (h))) := hr4 _ _ h2 (by simp only [List.mem_cons, List.not_mem_nil, or_false, not_or]; exact ⟨cne h2 hlg (by simp), Ne.symm (hen2.2.2.2.1), cne h2 hlf (by simp), Ne.symm (hne.2.2.1), Ne.symm (hne.2.2.2.2.2.1)⟩)
                have hsc_4 : f4 sc = some (.inr (7, [.ref th, .int da])) := hr4 _ _ hsc (by simp only [List.mem_cons, List.not_mem_nil, or_false, not_or]; exact ⟨cne hsc hlg (by simp), cne hsc hen (by simp), cne hsc hlf (by simp), cne hsc hso (by simp), cne hsc hfc (by simp)⟩)
                have hth_4 : f4 th = some (.inl (cy 0, 6, .inl (t))) := hr4 _ _ hth (by simp only [List.mem_cons, List.not_mem_nil, or_false, not_or]; exact ⟨cne hth hlg (by simp), Ne.symm (hen2.2.2.2.2), cne hth hlf (by simp), Ne.symm (hne.2.2.2.1), Ne.symm (hne.2.2.2.2.2.2)⟩)
                refine gz_aload_n dX1_decide_124 rfl rfl ?_
                refine sgX1_21 hco_4 rfl dX1_decide_125 ?_
                refine scX1_121 (k_X4_size hlg_4) hlg_4 ⟨(Nat.le_of_ble_eq_true rfl), (Nat.le_of_ble_eq_true rfl)⟩ ⟨(by simp only [gRm]; omega), (by simp only [gRm]; omega)⟩ rfl rfl (Nat.le_of_ble_eq_true rfl) dX1_decide_128 ?_
                intro v9 f9 z9; rw [z9.1, z9.2]
                refine gz_iload dX1_decide_131 rfl ?_
                refine gz_isub dX1_decide_133 ?_
                exact gz_iretU rfl dX1_decide_134 (by omega) (by omega) (⟨_, _, _, _, _, _, _, _, _, _, rfl, hlg_4, he_4, hlf_4, hso_4, hfc_4, hl_4, ⟨by omega, by omega⟩, hc_4, (fr_tr fr_rf (fr_mo hr4 (by simp)))⟩)
            ·
              refine gz_iconst (v := (-1)) dX1_decide_96 (by decide) ?_
              exact gz_iretU rfl dX1_decide_97 (by omega) (by omega) (⟨_, _, _, _, _, _, _, _, _, _, rfl, hlg, hen, hlf, hso, hfc, hl, ⟨by omega, by omega⟩, (Or.inl rfl), fr_rf⟩)
      ·
        refine gz_iconst (v := (-1)) dX1_decide_59 (by decide) ?_
        exact gz_iretU rfl dX1_decide_60 (by omega) (by omega) (⟨_, _, _, _, _, _, _, _, _, _, rfl, hlg, hen, hlf, hso, hfc, hl, ⟨by omega, by omega⟩, (Or.inl rfl), fr_rf⟩)

set_option maxHeartbeats 4000000 in
set_option maxRecDepth 100000 in
theorem k_X1_decideN {l : Launch} {D : va_G} {cy : Nat → ClassId} {b : Nat} {f : gMem} {co lv sc lg : Nat} {csz : Int32} {nb kx hx_ kd wh : Int32} {lvg : Nat → Option Nat} (hco : f co = some (.inr (1, [.ref lv, .ref sc, .ref lg, .int csz]))) (hlv : f lv = some (.inl (cy 5, 40, .inr (.inr (.inr (.inr (lvg))))))) (hA : lifeF csz lvg nb = none) : gU l D cy b yX1_decide cX1_decide 10 (some .int) 1 0 0 [.ref co, .int nb, .int kx, .int hx_, .int kd, .int wh] f gTt (fun kk nn r f2 => kk = 0 ∧ nn = 0 ∧ r = some (.int (-1)) ∧ f2 = f) := by
  refine gU_of (by decide) (Nat.le_of_ble_eq_true rfl) ?_
  show gG l _ _ _ D cy b cX1_decide 10 _ RX1 "decide" 0 0 f 0 [(0, .ref co), (1, .int nb), (2, .int kx), (3, .int hx_), (4, .int kd), (5, .int wh)] []
  refine gz_aload_n dX1_decide_0 rfl rfl ?_
  refine gz_iload_n dX1_decide_1 rfl rfl ?_
  refine scX1_114 (k_X1_lifeAt (nb := nb) hco hlv) hco ⟨(Nat.le_of_ble_eq_true rfl), (Nat.le_of_ble_eq_true rfl)⟩ ⟨(Nat.le_of_ble_eq_true rfl), (Nat.le_of_ble_eq_true rfl)⟩ rfl rfl (Nat.le_of_ble_eq_true rfl) dX1_decide_2 ?_
  rintro u9 f9 ⟨rfl, rfl⟩
  refine gz_ev (w := .null) (by rw [hA]; rfl) ?_
  refine gz_astoreN (lv' := [(6, .null), (0, .ref co), (1, .int nb), (2, .int kx), (3, .int hx_), (4, .int kd), (5, .int wh)]) dX1_decide_5 (by decide) rfl ?_
  refine gz_aloadN dX1_decide_7 rfl ?_
  refine gz_ifnonnullN dX1_decide_9 ?_
  refine gz_iconst (v := (-1)) dX1_decide_12 (by decide) ?_
  exact gz_iretU rfl dX1_decide_13 (Nat.le_of_ble_eq_true rfl) (Nat.le_of_ble_eq_true rfl) (⟨rfl, rfl, rfl, rfl⟩)

set_option maxHeartbeats 4000000 in
set_option maxRecDepth 100000 in
theorem k_X1_openF {l : Launch} {D : va_G} {cy : Nat → ClassId} {b : Nat} {f : gMem} {co lv sc lg p : Nat} {csz : Int32} {y1 y2 : Int32} (hco : f co = some (.inr (1, [.ref lv, .ref sc, .ref lg, .int csz]))) (hz : 40 ≤ csz.toInt) : gU l D cy b yX1_open cX1_open 5 (some .int) 1 0 0 [.ref co, .ref p, .int y1, .int y2] f gTt (fun kk nn r f2 => kk = 0 ∧ nn = 0 ∧ r = some (.int (-1)) ∧ f2 = f) := by
  refine gU_of (by decide) (Nat.le_of_ble_eq_true rfl) ?_
  show gG l _ _ _ D cy b cX1_open 5 _ RX1 "open" 0 0 f 0 [(0, .ref co), (1, .ref p), (2, .int y1), (3, .int y2)] []
  refine gz_aload_n dX1_open_0 rfl rfl ?_
  refine sgX1_25 hco rfl dX1_open_1 ?_
  refine gz_if_lt (tgt := 16) dX1_open_4 (by decide) (fun c_4 => ?_) (fun c_4 => ?_)
  · exfalso; have e0 : (0 : Int32).toInt = 0 := rfl; have e40 : (40 : Int32).toInt = 40 := rfl; simp only [fl_lt] at c_4; omega
  ·
    refine gz_aload_n dX1_open_7 rfl rfl ?_
    refine sgX1_25 hco rfl dX1_open_8 ?_
    refine gz_bipush (v := 40) dX1_open_11 (by decide) ?_
    refine gz_icmp_lt (tgt := 18) dX1_open_13 (by decide) (fun c_13 => ?_) (fun c_13 => ?_)
    · exfalso; have e0 : (0 : Int32).toInt = 0 := rfl; have e40 : (40 : Int32).toInt = 40 := rfl; simp only [fl_lt] at c_13; omega
    ·
      refine gz_iconst (v := (-1)) dX1_open_16 (by decide) ?_
      exact gz_iretU rfl dX1_open_17 (Nat.le_of_ble_eq_true rfl) (Nat.le_of_ble_eq_true rfl) (⟨rfl, rfl, rfl, rfl⟩)
