/-! alike -/
/-- two DEEDS of two graphs; e: the two of a both may stand either way -/
def ewG (e : Bool) (H : Nat → Hd) (fi se : Nat → Nat) (H2 : Nat → Hd) (fi2 se2 : Nat → Nat) : Nat → Nat → Nat → Prop
  | 0, _, _ => False
  | k + 1, x, y => H x = H2 y ∧ (arH (H x) = 1 → ewG e H fi se H2 fi2 se2 k (fi x) (fi2 y)) ∧ (arH (H x) = 2 → (ewG e H fi se H2 fi2 se2 k (fi x) (fi2 y) ∧ ewG e H fi se H2 fi2 se2 k (se x) (se2 y)) ∨ (e = true ∧ (H x).1 = 3 ∧ ewG e H fi se H2 fi2 se2 k (fi x) (se2 y) ∧ ewG e H fi se H2 fi2 se2 k (se x) (fi2 y)))
section EW
variable {e : Bool} {H H2 : Nat → Hd} {fi se fi2 se2 : Nat → Nat} {k x y : Nat}
theorem ew_ne (h : H x ≠ H2 y) : ¬ ewG e H fi se H2 fi2 se2 (k + 1) x y := fun z => h z.1
theorem ew_a0 (h : H x = H2 y) (a : arH (H x) = 0) : ewG e H fi se H2 fi2 se2 (k + 1) x y := ⟨h, fun z => by omega, fun z => by omega⟩
theorem ew_a1 (h : H x = H2 y) (a : arH (H x) = 1) : ewG e H fi se H2 fi2 se2 (k + 1) x y ↔ ewG e H fi se H2 fi2 se2 k (fi x) (fi2 y) := ⟨fun z => z.2.1 a, fun z => ⟨h, fun _ => z, fun w => by omega⟩⟩
theorem ew_a2 (h : H x = H2 y) (a : arH (H x) = 2) : ewG e H fi se H2 fi2 se2 (k + 1) x y ↔ ((ewG e H fi se H2 fi2 se2 k (fi x) (fi2 y) ∧ ewG e H fi se H2 fi2 se2 k (se x) (se2 y)) ∨ (e = true ∧ (H x).1 = 3 ∧ ewG e H fi se H2 fi2 se2 k (fi x) (se2 y) ∧ ewG e H fi se H2 fi2 se2 k (se x) (fi2 y))) := ⟨fun z => z.2.2 a, fun z => ⟨h, fun w => by omega, fun _ => z⟩⟩
end EW
theorem ew_tr {H H2 : Nat → Hd} {fi se fi2 se2 : Nat → Nat} {m n : Nat} (hg : gO H fi se m) (hg2 : gO H2 fi2 se2 n) : ∀ k x y, x < m → m ≤ x + k → y < n → n ≤ y + k → (ewG false H fi se H2 fi2 se2 k x y ↔ trG H fi se k x = trG H2 fi2 se2 k y) := by
  intro k
  induction k with
  | zero => intro x y h1 h2 h3 h4; omega
  | succ k ih =>
    intro x y h1 h2 h3 h4
    have hl := arH_le (h := H x)
    by_cases hh : H x = H2 y
    · obtain ⟨a1, a2⟩ := hg x h1
      obtain ⟨b1, b2⟩ := hg2 y h3
      rw [← hh] at b1 b2
      by_cases c2 : arH (H x) = 2
      · have A := a1 (by omega)
        have A2 := a2 c2
        have C := b1 (by omega)
        have C2 := b2 c2
        rw [ew_a2 hh c2, tr_2 c2, tr_2 (show arH (H2 y) = 2 by rw [← hh]; exact c2), ih _ _ (by omega) (by omega) (by omega) (by omega), ih _ _ (by omega) (by omega) (by omega) (by omega), hh]
        constructor
        · rintro (⟨z1, z2⟩ | ⟨z, _⟩)
          · rw [z1, z2]
          · cases z
        · intro z
          injection z with _ z
          exact Or.inl (okT_inj (trG_ok hg k _ (by omega) (by omega)) (trG_ok hg2 k _ (by omega) (by omega)) z)
      · by_cases c1 : arH (H x) = 1
        · have A := a1 (by omega)
          have C := b1 (by omega)
          rw [ew_a1 hh c1, tr_1 c1, tr_1 (show arH (H2 y) = 1 by rw [← hh]; exact c1), ih _ _ (by omega) (by omega) (by omega) (by omega), hh]
          exact ⟨fun z => by rw [z], fun z => by injection z⟩
        · rw [tr_0 (show arH (H x) = 0 by omega), tr_0 (show arH (H2 y) = 0 by rw [← hh]; omega), hh]
          exact ⟨fun _ => rfl, fun _ => ew_a0 hh (by omega)⟩
    · constructor
      · intro z; exact absurd z.1 hh
      · intro z
        rw [trG_at, trG_at] at z
        injection z with z1 z2
        exact absurd z1 hh
theorem gkN_gO {g h : Nat → Int32} {s v : Int32} {H : Nat → Hd} {fi se : Nat → Nat} (hG : gkN g h s.toInt v.toInt H fi se) : gO H fi se s.toInt.toNat := fun w hw => by
  obtain ⟨_, _, a, b⟩ := hG w (by omega)
  exact ⟨fun z => by have := (a z).2; omega, fun z => by have := (b z).2; omega⟩

set_option maxHeartbeats 4000000 in
set_option maxRecDepth 100000 in
theorem k_X3_alikeE {l : Launch} {D : va_G} {cy : Nat → ClassId} {b : Nat} {p c1 c2 n1 n2 q d1 d2 m1 m2 : Nat} {s v qs qv : Int32} {g h gq hh : Nat → Int32}  {H H2 : Nat → Hd} {fi se fi2 se2 : Nat → Nat}  (hs : 0 ≤ s.toInt ∧ 13 * s.toInt ≤ n1 ∧ n1 ≤ 520) (hv : 0 ≤ v.toInt ∧ 2 * v.toInt ≤ n2 ∧ n2 ≤ 80) (hqs : 0 ≤ qs.toInt ∧ 13 * qs.toInt ≤ m1 ∧ m1 ≤ 520) (hqv : 0 ≤ qv.toInt ∧ 2 * qv.toInt ≤ m2 ∧ m2 ≤ 80) (hG : gkN g h s.toInt v.toInt H fi se) (hG2 : gkN gq hh qs.toInt qv.toInt H2 fi2 se2) : ∀ (k : Nat) (x y e : Int32) (X Y : Nat) (eb : Bool) (f : gMem), (f p = some (.inr (2, [.ref c1, .ref c2, .int s, .int v]))) → (f c1 = some (.inl (cy 0, n1, .inl (g)))) → (f c2 = some (.inl (cy 0, n2, .inl (h)))) → (f q = some (.inr (2, [.ref d1, .ref d2, .int qs, .int qv]))) → (f d1 = some (.inl (cy 0, m1, .inl (gq)))) → (f d2 = some (.inl (cy 0, m2, .inl (hh)))) → (x.toInt = X ∧ (X : Int) < s.toInt) → (y.toInt = Y ∧ (Y : Int) < qs.toInt) → (s.toInt - x.toInt < (k : Int)) → (e = if eb = true then 1 else 0) → gC l D cy b yX3_alike cX3_alike 10 (some .boolean) (3 + 1 * k) 0 0 [.ref p, .int x, .ref q, .int y, .int e] f (pI fun r f2 => ((r = 1 ∧ ewG eb H fi se H2 fi2 se2 k X Y) ∨ (r = 0 ∧ ¬ ewG eb H fi se H2 fi2 se2 k X Y)) ∧ f2 = f) := by
  intro k
  induction k with
  | zero =>
    intro x y e X Y eb f hp h1 h2 hq0 hd1 hd2 hX hY hk he
    exfalso; omega
  | succ k ih =>
    intro x y e X Y eb f hp h1 h2 hq0 hd1 hd2 hX hY hk he
    refine gC_of (by decide) (Nat.le_of_ble_eq_true rfl) ?_
    show gG l _ _ _ D cy b cX3_alike 10 _ RX3 "alike" 0 0 f 0 [(0, .ref p), (1, .int x), (2, .ref q), (3, .int y), (4, .int e)] []
    refine gz_aload_n dX3_alike_0 rfl rfl ?_
    refine gz_iload_n dX3_alike_1 rfl rfl ?_
    refine gz_iconst (v := 0) dX3_alike_2 (by decide) ?_
    obtain ⟨ga, va, gf, gs⟩ := hG X hX.2
    obtain ⟨gb, vb, gf2, gs2⟩ := hG2 Y hY.2
    have hl2 := arH_le (h := H X)
    have hak := arH_k va
    have ka := va.1
    have kb := vb.1
    have g0 := ga.1
    have b0 := gb.1
    have hfa : ∀ (k : Int32) (c : Nat), k.toInt = c → c ≤ 12 → fldF n1 g s x k = g (13 * X + c) := fun k c hk hc => fldG hs hX.1 hX.2 hk hc
    have hfb : ∀ (k : Int32) (c : Nat), k.toInt = c → c ≤ 12 → fldF m1 gq qs y k = gq (13 * Y + c) := fun k c hk hc => fldG hqs hY.1 hY.2 hk hc
    refine scX3_52 (k_X2_field (w := x) (k := 0) hp h1 hs) hp ⟨(by simp only [gRm]; omega), (by simp only [gRm]; omega)⟩ ⟨(Nat.le_of_ble_eq_true rfl), (Nat.le_of_ble_eq_true rfl)⟩ rfl rfl (Nat.le_of_ble_eq_true rfl) dX3_alike_3 ?_
    intro v9 f9 z9; rw [z9.1, z9.2, hfa 0 0 rfl (by decide)]
    refine gz_istore (lv' := [(5, .int (g (13 * X + 0))), (0, .ref p), (1, .int x), (2, .ref q), (3, .int y), (4, .int e)]) dX3_alike_6 (by decide) rfl ?_
    refine gz_iload dX3_alike_8 rfl ?_
    refine gz_iconst (v := (-1)) dX3_alike_10 (by decide) ?_
    refine gz_icmp_eq (tgt := 35) dX3_alike_11 (by decide) (fun c_11 => ?_) (fun c_11 => ?_)
    · exfalso; have z := congrArg Int32.toInt c_11; rw [g0] at z; have e : (-1 : Int32).toInt = -1 := rfl; omega
    ·
      refine gz_iload dX3_alike_14 rfl ?_
      refine gz_aload_n dX3_alike_16 rfl rfl ?_
      refine gz_iload_n dX3_alike_17 rfl rfl ?_
      refine gz_iconst (v := 0) dX3_alike_18 (by decide) ?_
      refine scX3_52 (k_X2_field (w := y) (k := 0) hq0 hd1 hqs) hq0 ⟨(by simp only [gRm]; omega), (by simp only [gRm]; omega)⟩ ⟨(Nat.le_of_ble_eq_true rfl), (Nat.le_of_ble_eq_true rfl)⟩ rfl rfl (Nat.le_of_ble_eq_true rfl) dX3_alike_19 ?_
      intro v9 f9 z9; rw [z9.1, z9.2, hfb 0 0 rfl (by decide)]
      refine gz_icmp_ne (tgt := 35) dX3_alike_22 (by decide) (fun c_22 => ?_) (fun c_22 => ?_)
      ·
        refine gz_iconst (v := 0) dX3_alike_35 (by decide) ?_
        exact gz_zret rfl (by first | decide | exact nrb (Or.inl rfl) | (refine nrb ?_; (repeat' split) <;> first | assumption | exact Or.inl rfl | exact Or.inr rfl)) dX3_alike_36 (Nat.le_of_ble_eq_true rfl) (Nat.le_of_ble_eq_true rfl) (⟨_, rfl, Or.inr ⟨rfl, ew_ne (fun z => c_22 (Int32.toInt_inj.mp (by rw [g0, b0, z])))⟩, rfl⟩)
      ·
        refine gz_aload_n dX3_alike_25 rfl rfl ?_
        refine gz_iload_n dX3_alike_26 rfl rfl ?_
        refine gz_aload_n dX3_alike_27 rfl rfl ?_
        refine gz_iload_n dX3_alike_28 rfl rfl ?_
        have ek : (H X).1 = (H2 Y).1 := by rw [← g0, ← b0, c_22]
        have eh := heal_in (x := x) (y := y) hs hv hqs hqv hX.1 hX.2 hY.1 hY.2 ga gb va vb ek
        refine scX3_101 (k_X3_headsAlike (x := x) (y := y) hp h1 h2 hq0 hd1 hd2 hs hv hqs hqv) ⟨(by simp only [gRm]; omega), (by simp only [gRm]; omega)⟩ ⟨(Nat.le_of_ble_eq_true rfl), (Nat.le_of_ble_eq_true rfl)⟩ rfl rfl (Nat.le_of_ble_eq_true rfl) dX3_alike_29 ?_
        intro v9 f9 z9; rw [z9.1, z9.2]
        by_cases hXY : H X = H2 Y
        ·
          rw [if_pos hXY] at eh
          refine gz_ev (w := .int 1) (congrArg Value.int eh) ?_
          refine gz_if_ne (tgt := 37) dX3_alike_32 (by decide) (fun c_32 => ?_) (fun c_32 => ?_)
          ·
            refine gz_iload dX3_alike_37 rfl ?_
            refine scX3_82 (k_X11_hasDeed (x := (g (13 * X + 0)))) ⟨(by simp only [gRm]; omega), (by simp only [gRm]; omega)⟩ ⟨(Nat.le_of_ble_eq_true rfl), (Nat.le_of_ble_eq_true rfl)⟩ rfl rfl (Nat.le_of_ble_eq_true rfl) dX3_alike_39 ?_
            intro v9 f9 z9; rw [z9.1, z9.2]
            refine gz_if_ne (tgt := 47) dX3_alike_42 (by decide) (fun c_42 => ?_) (fun c_42 => ?_)
            ·
              refine gz_aload_n dX3_alike_47 rfl rfl ?_
              refine gz_iload_n dX3_alike_48 rfl rfl ?_
              refine gz_iconst (v := 3) dX3_alike_49 (by decide) ?_
              refine scX3_52 (k_X2_field (w := x) (k := 3) hp h1 hs) hp ⟨(by simp only [gRm]; omega), (by simp only [gRm]; omega)⟩ ⟨(Nat.le_of_ble_eq_true rfl), (Nat.le_of_ble_eq_true rfl)⟩ rfl rfl (Nat.le_of_ble_eq_true rfl) dX3_alike_50 ?_
              intro v9 f9 z9; rw [z9.1, z9.2, hfa 3 3 rfl (by decide)]
              refine gz_istore (lv' := [(6, .int (g (13 * X + 3))), (5, .int (g (13 * X + 0))), (0, .ref p), (1, .int x), (2, .ref q), (3, .int y), (4, .int e)]) dX3_alike_53 (by decide) rfl ?_
              refine gz_aload_n dX3_alike_55 rfl rfl ?_
              refine gz_iload_n dX3_alike_56 rfl rfl ?_
              refine gz_iconst (v := 4) dX3_alike_57 (by decide) ?_
              refine scX3_52 (k_X2_field (w := x) (k := 4) hp h1 hs) hp ⟨(by simp only [gRm]; omega), (by simp only [gRm]; omega)⟩ ⟨(Nat.le_of_ble_eq_true rfl), (Nat.le_of_ble_eq_true rfl)⟩ rfl rfl (Nat.le_of_ble_eq_true rfl) dX3_alike_58 ?_
              intro v9 f9 z9; rw [z9.1, z9.2, hfa 4 4 rfl (by decide)]
              refine gz_istore (lv' := [(7, .int (g (13 * X + 4))), (6, .int (g (13 * X + 3))), (5, .int (g (13 * X + 0))), (0, .ref p), (1, .int x), (2, .ref q), (3, .int y), (4, .int e)]) dX3_alike_61 (by decide) rfl ?_
              refine gz_aload_n dX3_alike_63 rfl rfl ?_
              refine gz_iload_n dX3_alike_64 rfl rfl ?_
              refine gz_iconst (v := 3) dX3_alike_65 (by decide) ?_
              refine scX3_52 (k_X2_field (w := y) (k := 3) hq0 hd1 hqs) hq0 ⟨(by simp only [gRm]; omega), (by simp only [gRm]; omega)⟩ ⟨(Nat.le_of_ble_eq_true rfl), (Nat.le_of_ble_eq_true rfl)⟩ rfl rfl (Nat.le_of_ble_eq_true rfl) dX3_alike_66 ?_
              intro v9 f9 z9; rw [z9.1, z9.2, hfb 3 3 rfl (by decide)]
              refine gz_istore (lv' := [(8, .int (gq (13 * Y + 3))), (7, .int (g (13 * X + 4))), (6, .int (g (13 * X + 3))), (5, .int (g (13 * X + 0))), (0, .ref p), (1, .int x), (2, .ref q), (3, .int y), (4, .int e)]) dX3_alike_69 (by decide) rfl ?_
              refine gz_aload_n dX3_alike_71 rfl rfl ?_
              refine gz_iload_n dX3_alike_72 rfl rfl ?_
              refine gz_iconst (v := 4) dX3_alike_73 (by decide) ?_
              refine scX3_52 (k_X2_field (w := y) (k := 4) hq0 hd1 hqs) hq0 ⟨(by simp only [gRm]; omega), (by simp only [gRm]; omega)⟩ ⟨(Nat.le_of_ble_eq_true rfl), (Nat.le_of_ble_eq_true rfl)⟩ rfl rfl (Nat.le_of_ble_eq_true rfl) dX3_alike_74 ?_
              intro v9 f9 z9; rw [z9.1, z9.2, hfb 4 4 rfl (by decide)]
              refine gz_istore (lv' := [(9, .int (gq (13 * Y + 4))), (8, .int (gq (13 * Y + 3))), (7, .int (g (13 * X + 4))), (6, .int (g (13 * X + 3))), (5, .int (g (13 * X + 0))), (0, .ref p), (1, .int x), (2, .ref q), (3, .int y), (4, .int e)]) dX3_alike_77 (by decide) rfl ?_
              refine gz_iload dX3_alike_79 rfl ?_
              refine scX3_85 (k_X11_hasPair (x := (g (13 * X + 0)))) ⟨(by simp only [gRm]; omega), (by simp only [gRm]; omega)⟩ ⟨(Nat.le_of_ble_eq_true rfl), (Nat.le_of_ble_eq_true rfl)⟩ rfl rfl (Nat.le_of_ble_eq_true rfl) dX3_alike_81 ?_
              intro v9 f9 z9; rw [z9.1, z9.2]
              refine gz_if_ne (tgt := 99) dX3_alike_84 (by decide) (fun c_84 => ?_) (fun c_84 => ?_)
              ·
                refine gz_aload_n dX3_alike_99 rfl rfl ?_
                refine gz_iload dX3_alike_100 rfl ?_
                refine gz_aload_n dX3_alike_102 rfl rfl ?_
                refine gz_iload dX3_alike_103 rfl ?_
                refine gz_iload dX3_alike_105 rfl ?_
                have a2 : arH (H X) = 2 := by have z : (H X).1 = 3 ∨ (H X).1 = 4 ∨ (H X).1 = 5 := by { have z1 := Classical.not_not.mp (fun q => c_84 (hpa_b.mpr q)); rw [g0] at z1; exact z1 }; omega
                obtain ⟨e3, l3, m3⟩ := gf (by omega)
                obtain ⟨yf3, l4, m4⟩ := gf2 (by rw [← hXY]; omega)
                obtain ⟨e4, l5, m5⟩ := gs a2
                obtain ⟨yf4, l6, m6⟩ := gs2 (by rw [← hXY]; exact a2)
                refine scX3_48 (ih (g (13 * X + 3)) (gq (13 * Y + 3)) e (fi X) (fi2 Y) eb _ hp h1 h2 hq0 hd1 hd2 ⟨e3, m3⟩ ⟨yf3, m4⟩ (by omega) he) ⟨(by simp only [gRm]; omega), (by simp only [gRm]; omega)⟩ ⟨(Nat.le_of_ble_eq_true rfl), (Nat.le_of_ble_eq_true rfl)⟩ rfl rfl (Nat.le_of_ble_eq_true rfl) dX3_alike_107 ?_
                rintro r1 f1 ⟨hb1, hf1⟩; subst hf1
                rcases hb1 with ⟨hr1, hp1⟩ | ⟨hr1, hp1⟩
                ·
                  refine gz_ev (w := .int 1) (congrArg Value.int hr1) ?_
                  refine gz_if_eq (tgt := 129) dX3_alike_110 (by decide) (fun c_110 => ?_) (fun c_110 => ?_)
                  · exact absurd c_110 (by decide)
                  ·
                    refine gz_aload_n dX3_alike_113 rfl rfl ?_
                    refine gz_iload dX3_alike_114 rfl ?_
                    refine gz_aload_n dX3_alike_116 rfl rfl ?_
                    refine gz_iload dX3_alike_117 rfl ?_
                    refine gz_iload dX3_alike_119 rfl ?_
                    refine scX3_48 (ih (g (13 * X + 4)) (gq (13 * Y + 4)) e (se X) (se2 Y) eb _ hp h1 h2 hq0 hd1 hd2 ⟨e4, m5⟩ ⟨yf4, m6⟩ (by omega) he) ⟨(by simp only [gRm]; omega), (by simp only [gRm]; omega)⟩ ⟨(Nat.le_of_ble_eq_true rfl), (Nat.le_of_ble_eq_true rfl)⟩ rfl rfl (Nat.le_of_ble_eq_true rfl) dX3_alike_121 ?_
                    rintro r2 f2 ⟨hb2, hf2⟩; subst hf2
                    rcases hb2 with ⟨hr2, hp2⟩ | ⟨hr2, hp2⟩
                    ·
                      refine gz_ev (w := .int 1) (congrArg Value.int hr2) ?_
                      refine gz_if_eq (tgt := 129) dX3_alike_124 (by decide) (fun c_124 => ?_) (fun c_124 => ?_)
                      · exact absurd c_124 (by decide)
                      ·
                        refine gz_iconst (v := 1) dX3_alike_127 (by decide) ?_
                        exact gz_zret rfl (by first | decide | exact nrb (Or.inl rfl) | (refine nrb ?_; (repeat' split) <;> first | assumption | exact Or.inl rfl | exact Or.inr rfl)) dX3_alike_128 (Nat.le_of_ble_eq_true rfl) (Nat.le_of_ble_eq_true rfl) (⟨_, rfl, Or.inl ⟨rfl, (ew_a2 hXY a2).mpr (Or.inl ⟨hp1, hp2⟩)⟩, rfl⟩)
                    ·
                      refine gz_ev (w := .int 0) (congrArg Value.int hr2) ?_
                      refine gz_if_eq (tgt := 129) dX3_alike_124 (by decide) (fun c_124 => ?_) (fun c_124 => ?_)
                      ·
                        refine gz_iload dX3_alike_129 rfl ?_
                        refine gz_if_eq (tgt := 170) dX3_alike_131 (by decide) (fun c_131 => ?_) (fun c_131 => ?_)
                        ·
                          refine gz_iconst (v := 0) dX3_alike_170 (by decide) ?_
                          exact gz_zret rfl (by first | decide | exact nrb (Or.inl rfl) | (refine nrb ?_; (repeat' split) <;> first | assumption | exact Or.inl rfl | exact Or.inr rfl)) dX3_alike_171 (Nat.le_of_ble_eq_true rfl) (Nat.le_of_ble_eq_true rfl) (⟨_, rfl, Or.inr ⟨rfl, fun z => ((ew_a2 hXY a2).mp z).elim (fun z => hp2 z.2) (fun z => absurd (he.symm.trans c_131) (by rw [z.1]; decide))⟩, rfl⟩)
                        ·
                          refine gz_iload dX3_alike_134 rfl ?_
                          refine gz_iconst (v := 3) dX3_alike_136 (by decide) ?_
                          refine gz_icmp_ne (tgt := 170) dX3_alike_137 (by decide) (fun c_137 => ?_) (fun c_137 => ?_)
                          ·
                            refine gz_iconst (v := 0) dX3_alike_170 (by decide) ?_
                            exact gz_zret rfl (by first | decide | exact nrb (Or.inl rfl) | (refine nrb ?_; (repeat' split) <;> first | assumption | exact Or.inl rfl | exact Or.inr rfl)) dX3_alike_171 (Nat.le_of_ble_eq_true rfl) (Nat.le_of_ble_eq_true rfl) (⟨_, rfl, Or.inr ⟨rfl, fun z => ((ew_a2 hXY a2).mp z).elim (fun z => hp2 z.2) (fun z => c_137 (Int32.toInt_inj.mp (by rw [g0, z.2.1]; rfl)))⟩, rfl⟩)
                          ·
                            refine gz_aload_n dX3_alike_140 rfl rfl ?_
                            refine gz_iload dX3_alike_141 rfl ?_
                            refine gz_aload_n dX3_alike_143 rfl rfl ?_
                            refine gz_iload dX3_alike_144 rfl ?_
                            refine gz_iconst (v := 1) dX3_alike_146 (by decide) ?_
                            have het : eb = true := by cases eb with
                              | true => rfl
                              | false => exact absurd he c_131
                            refine scX3_48 (ih (g (13 * X + 3)) (gq (13 * Y + 4)) 1 (fi X) (se2 Y) true _ hp h1 h2 hq0 hd1 hd2 ⟨e3, m3⟩ ⟨yf4, m6⟩ (by omega) rfl) ⟨(by simp only [gRm]; omega), (by simp only [gRm]; omega)⟩ ⟨(Nat.le_of_ble_eq_true rfl), (Nat.le_of_ble_eq_true rfl)⟩ rfl rfl (Nat.le_of_ble_eq_true rfl) dX3_alike_147 ?_
                            rintro r3 f3 ⟨hb3, hf3⟩; subst hf3
                            rcases hb3 with ⟨hr3, hp3⟩ | ⟨hr3, hp3⟩
                            ·
                              refine gz_ev (w := .int 1) (congrArg Value.int hr3) ?_
                              refine gz_if_eq (tgt := 170) dX3_alike_150 (by decide) (fun c_150 => ?_) (fun c_150 => ?_)
                              · exact absurd c_150 (by decide)
                              ·
                                refine gz_aload_n dX3_alike_153 rfl rfl ?_
                                refine gz_iload dX3_alike_154 rfl ?_
                                refine gz_aload_n dX3_alike_156 rfl rfl ?_
                                refine gz_iload dX3_alike_157 rfl ?_
                                refine gz_iconst (v := 1) dX3_alike_159 (by decide) ?_
                                refine scX3_48 (ih (g (13 * X + 4)) (gq (13 * Y + 3)) 1 (se X) (fi2 Y) true _ hp h1 h2 hq0 hd1 hd2 ⟨e4, m5⟩ ⟨yf3, m4⟩ (by omega) rfl) ⟨(by simp only [gRm]; omega), (by simp only [gRm]; omega)⟩ ⟨(Nat.le_of_ble_eq_true rfl), (Nat.le_of_ble_eq_true rfl)⟩ rfl rfl (Nat.le_of_ble_eq_true rfl) dX3_alike_160 ?_
                                rintro r4 f4 ⟨hb4, hf4⟩; subst hf4
                                rcases hb4 with ⟨hr4, hp4⟩ | ⟨hr4, hp4⟩
                                ·
                                  refine gz_ev (w := .int 1) (congrArg Value.int hr4) ?_
                                  refine gz_if_eq (tgt := 170) dX3_alike_163 (by decide) (fun c_163 => ?_) (fun c_163 => ?_)
                                  · exact absurd c_163 (by decide)
                                  ·
                                    refine gz_iconst (v := 1) dX3_alike_166 (by decide) ?_
                                    refine gz_goto (tgt := 171) dX3_alike_167 (by decide) ?_
                                    subst het
                                    exact gz_zret rfl (by first | decide | exact nrb (Or.inl rfl) | (refine nrb ?_; (repeat' split) <;> first | assumption | exact Or.inl rfl | exact Or.inr rfl)) dX3_alike_171 (Nat.le_of_ble_eq_true rfl) (Nat.le_of_ble_eq_true rfl) (⟨_, rfl, Or.inl ⟨rfl, (ew_a2 hXY a2).mpr (Or.inr ⟨rfl, by rw [← g0, c_137]; rfl, hp3, hp4⟩)⟩, rfl⟩)
                                ·
                                  refine gz_ev (w := .int 0) (congrArg Value.int hr4) ?_
                                  refine gz_if_eq (tgt := 170) dX3_alike_163 (by decide) (fun c_163 => ?_) (fun c_163 => ?_)
                                  ·
                                    refine gz_iconst (v := 0) dX3_alike_170 (by decide) ?_
                                    subst het
                                    exact gz_zret rfl (by first | decide | exact nrb (Or.inl rfl) | (refine nrb ?_; (repeat' split) <;> first | assumption | exact Or.inl rfl | exact Or.inr rfl)) dX3_alike_171 (Nat.le_of_ble_eq_true rfl) (Nat.le_of_ble_eq_true rfl) (⟨_, rfl, Or.inr ⟨rfl, fun z => ((ew_a2 hXY a2).mp z).elim (fun z => hp2 z.2) (fun z => hp4 z.2.2.2)⟩, rfl⟩)
                                  · exact absurd c_163 (by decide)
                            ·
                              refine gz_ev (w := .int 0) (congrArg Value.int hr3) ?_
                              refine gz_if_eq (tgt := 170) dX3_alike_150 (by decide) (fun c_150 => ?_) (fun c_150 => ?_)
                              ·
                                refine gz_iconst (v := 0) dX3_alike_170 (by decide) ?_
                                subst het
                                exact gz_zret rfl (by first | decide | exact nrb (Or.inl rfl) | (refine nrb ?_; (repeat' split) <;> first | assumption | exact Or.inl rfl | exact Or.inr rfl)) dX3_alike_171 (Nat.le_of_ble_eq_true rfl) (Nat.le_of_ble_eq_true rfl) (⟨_, rfl, Or.inr ⟨rfl, fun z => ((ew_a2 hXY a2).mp z).elim (fun z => hp2 z.2) (fun z => hp3 z.2.2.1)⟩, rfl⟩)
                              · exact absurd c_150 (by decide)
                      · exact absurd c_124 (by decide)
                ·
                  refine gz_ev (w := .int 0) (congrArg Value.int hr1) ?_
                  refine gz_if_eq (tgt := 129) dX3_alike_110 (by decide) (fun c_110 => ?_) (fun c_110 => ?_)
                  ·
                    refine gz_iload dX3_alike_129 rfl ?_
                    refine gz_if_eq (tgt := 170) dX3_alike_131 (by decide) (fun c_131 => ?_) (fun c_131 => ?_)
                    ·
                      refine gz_iconst (v := 0) dX3_alike_170 (by decide) ?_
                      exact gz_zret rfl (by first | decide | exact nrb (Or.inl rfl) | (refine nrb ?_; (repeat' split) <;> first | assumption | exact Or.inl rfl | exact Or.inr rfl)) dX3_alike_171 (Nat.le_of_ble_eq_true rfl) (Nat.le_of_ble_eq_true rfl) (⟨_, rfl, Or.inr ⟨rfl, fun z => ((ew_a2 hXY a2).mp z).elim (fun z => hp1 z.1) (fun z => absurd (he.symm.trans c_131) (by rw [z.1]; decide))⟩, rfl⟩)
                    ·
                      refine gz_iload dX3_alike_134 rfl ?_
                      refine gz_iconst (v := 3) dX3_alike_136 (by decide) ?_
                      refine gz_icmp_ne (tgt := 170) dX3_alike_137 (by decide) (fun c_137 => ?_) (fun c_137 => ?_)
                      ·
                        refine gz_iconst (v := 0) dX3_alike_170 (by decide) ?_
                        exact gz_zret rfl (by first | decide | exact nrb (Or.inl rfl) | (refine nrb ?_; (repeat' split) <;> first | assumption | exact Or.inl rfl | exact Or.inr rfl)) dX3_alike_171 (Nat.le_of_ble_eq_true rfl) (Nat.le_of_ble_eq_true rfl) (⟨_, rfl, Or.inr ⟨rfl, fun z => ((ew_a2 hXY a2).mp z).elim (fun z => hp1 z.1) (fun z => c_137 (Int32.toInt_inj.mp (by rw [g0, z.2.1]; rfl)))⟩, rfl⟩)
                      ·
                        refine gz_aload_n dX3_alike_140 rfl rfl ?_
                        refine gz_iload dX3_alike_141 rfl ?_
                        refine gz_aload_n dX3_alike_143 rfl rfl ?_
                        refine gz_iload dX3_alike_144 rfl ?_
                        refine gz_iconst (v := 1) dX3_alike_146 (by decide) ?_
                        have het : eb = true := by cases eb with
                          | true => rfl
                          | false => exact absurd he c_131
                        refine scX3_48 (ih (g (13 * X + 3)) (gq (13 * Y + 4)) 1 (fi X) (se2 Y) true _ hp h1 h2 hq0 hd1 hd2 ⟨e3, m3⟩ ⟨yf4, m6⟩ (by omega) rfl) ⟨(by simp only [gRm]; omega), (by simp only [gRm]; omega)⟩ ⟨(Nat.le_of_ble_eq_true rfl), (Nat.le_of_ble_eq_true rfl)⟩ rfl rfl (Nat.le_of_ble_eq_true rfl) dX3_alike_147 ?_
                        rintro r5 f5 ⟨hb5, hf5⟩; subst hf5
                        rcases hb5 with ⟨hr5, hp5⟩ | ⟨hr5, hp5⟩
                        ·
                          refine gz_ev (w := .int 1) (congrArg Value.int hr5) ?_
                          refine gz_if_eq (tgt := 170) dX3_alike_150 (by decide) (fun c_150 => ?_) (fun c_150 => ?_)
                          · exact absurd c_150 (by decide)
                          ·
                            refine gz_aload_n dX3_alike_153 rfl rfl ?_
                            refine gz_iload dX3_alike_154 rfl ?_
                            refine gz_aload_n dX3_alike_156 rfl rfl ?_
                            refine gz_iload dX3_alike_157 rfl ?_
                            refine gz_iconst (v := 1) dX3_alike_159 (by decide) ?_
                            refine scX3_48 (ih (g (13 * X + 4)) (gq (13 * Y + 3)) 1 (se X) (fi2 Y) true _ hp h1 h2 hq0 hd1 hd2 ⟨e4, m5⟩ ⟨yf3, m4⟩ (by omega) rfl) ⟨(by simp only [gRm]; omega), (by simp only [gRm]; omega)⟩ ⟨(Nat.le_of_ble_eq_true rfl), (Nat.le_of_ble_eq_true rfl)⟩ rfl rfl (Nat.le_of_ble_eq_true rfl) dX3_alike_160 ?_
                            rintro r6 f6 ⟨hb6, hf6⟩; subst hf6
                            rcases hb6 with ⟨hr6, hp6⟩ | ⟨hr6, hp6⟩
                            ·
                              refine gz_ev (w := .int 1) (congrArg Value.int hr6) ?_
                              refine gz_if_eq (tgt := 170) dX3_alike_163 (by decide) (fun c_163 => ?_) (fun c_163 => ?_)
                              · exact absurd c_163 (by decide)
                              ·
                                refine gz_iconst (v := 1) dX3_alike_166 (by decide) ?_
                                refine gz_goto (tgt := 171) dX3_alike_167 (by decide) ?_
                                subst het
                                exact gz_zret rfl (by first | decide | exact nrb (Or.inl rfl) | (refine nrb ?_; (repeat' split) <;> first | assumption | exact Or.inl rfl | exact Or.inr rfl)) dX3_alike_171 (Nat.le_of_ble_eq_true rfl) (Nat.le_of_ble_eq_true rfl) (⟨_, rfl, Or.inl ⟨rfl, (ew_a2 hXY a2).mpr (Or.inr ⟨rfl, by rw [← g0, c_137]; rfl, hp5, hp6⟩)⟩, rfl⟩)
                            ·
                              refine gz_ev (w := .int 0) (congrArg Value.int hr6) ?_
                              refine gz_if_eq (tgt := 170) dX3_alike_163 (by decide) (fun c_163 => ?_) (fun c_163 => ?_)
                              ·
                                refine gz_iconst (v := 0) dX3_alike_170 (by decide) ?_
                                subst het
                                exact gz_zret rfl (by first | decide | exact nrb (Or.inl rfl) | (refine nrb ?_; (repeat' split) <;> first | assumption | exact Or.inl rfl | exact Or.inr rfl)) dX3_alike_171 (Nat.le_of_ble_eq_true rfl) (Nat.le_of_ble_eq_true rfl) (⟨_, rfl, Or.inr ⟨rfl, fun z => ((ew_a2 hXY a2).mp z).elim (fun z => hp1 z.1) (fun z => hp6 z.2.2.2)⟩, rfl⟩)
                              · exact absurd c_163 (by decide)
                        ·
                          refine gz_ev (w := .int 0) (congrArg Value.int hr5) ?_
                          refine gz_if_eq (tgt := 170) dX3_alike_150 (by decide) (fun c_150 => ?_) (fun c_150 => ?_)
                          ·
                            refine gz_iconst (v := 0) dX3_alike_170 (by decide) ?_
                            subst het
                            exact gz_zret rfl (by first | decide | exact nrb (Or.inl rfl) | (refine nrb ?_; (repeat' split) <;> first | assumption | exact Or.inl rfl | exact Or.inr rfl)) dX3_alike_171 (Nat.le_of_ble_eq_true rfl) (Nat.le_of_ble_eq_true rfl) (⟨_, rfl, Or.inr ⟨rfl, fun z => ((ew_a2 hXY a2).mp z).elim (fun z => hp1 z.1) (fun z => hp5 z.2.2.1)⟩, rfl⟩)
                          · exact absurd c_150 (by decide)
                  · exact absurd c_110 (by decide)
              ·
                refine gz_aload_n dX3_alike_87 rfl rfl ?_
                refine gz_iload dX3_alike_88 rfl ?_
                refine gz_aload_n dX3_alike_90 rfl rfl ?_
                refine gz_iload dX3_alike_91 rfl ?_
                refine gz_iload dX3_alike_93 rfl ?_
                have a1 : arH (H X) = 1 := by have z : ¬ ((H X).1 = 3 ∨ (H X).1 = 4 ∨ (H X).1 = 5) := by { have z1 := hpa_b.mp c_84; rw [g0] at z1; exact z1 }; have z2 : ¬ ((H X).1 = 0 ∨ (H X).1 = 1) := by { have z1 := fun q => c_42 (hde_b.mpr q); rw [g0] at z1; exact z1 }; omega
                obtain ⟨e3, l3, m3⟩ := gf (by omega)
                obtain ⟨yf3, l4, m4⟩ := gf2 (by rw [← hXY]; omega)
                refine scX3_48 (ih (g (13 * X + 3)) (gq (13 * Y + 3)) e (fi X) (fi2 Y) eb _ hp h1 h2 hq0 hd1 hd2 ⟨e3, m3⟩ ⟨yf3, m4⟩ (by omega) he) ⟨(by simp only [gRm]; omega), (by simp only [gRm]; omega)⟩ ⟨(Nat.le_of_ble_eq_true rfl), (Nat.le_of_ble_eq_true rfl)⟩ rfl rfl (Nat.le_of_ble_eq_true rfl) dX3_alike_95 ?_
                rintro r7 f7 ⟨hb7, hf7⟩; subst hf7
                rcases hb7 with ⟨hr7, hp7⟩ | ⟨hr7, hp7⟩
                ·
                  refine gz_ev (w := .int 1) (congrArg Value.int hr7) ?_
                  exact gz_zret rfl (by first | decide | exact nrb (Or.inl rfl) | (refine nrb ?_; (repeat' split) <;> first | assumption | exact Or.inl rfl | exact Or.inr rfl)) dX3_alike_98 (Nat.le_of_ble_eq_true rfl) (Nat.le_of_ble_eq_true rfl) (⟨_, rfl, Or.inl ⟨rfl, (ew_a1 hXY a1).mpr hp7⟩, rfl⟩)
                ·
                  refine gz_ev (w := .int 0) (congrArg Value.int hr7) ?_
                  exact gz_zret rfl (by first | decide | exact nrb (Or.inl rfl) | (refine nrb ?_; (repeat' split) <;> first | assumption | exact Or.inl rfl | exact Or.inr rfl)) dX3_alike_98 (Nat.le_of_ble_eq_true rfl) (Nat.le_of_ble_eq_true rfl) (⟨_, rfl, Or.inr ⟨rfl, fun z => hp7 ((ew_a1 hXY a1).mp z)⟩, rfl⟩)
            ·
              refine gz_iconst (v := 1) dX3_alike_45 (by decide) ?_
              exact gz_zret rfl (by first | decide | exact nrb (Or.inl rfl) | (refine nrb ?_; (repeat' split) <;> first | assumption | exact Or.inl rfl | exact Or.inr rfl)) dX3_alike_46 (Nat.le_of_ble_eq_true rfl) (Nat.le_of_ble_eq_true rfl) (⟨_, rfl, Or.inl ⟨rfl, ew_a0 hXY (by have z : (H X).1 = 0 ∨ (H X).1 = 1 := by { have z1 := hde_b.mp c_42; rw [g0] at z1; exact z1 }; omega)⟩, rfl⟩)
          · exact absurd c_32 (by decide)
        ·
          rw [if_neg hXY] at eh
          refine gz_ev (w := .int 0) (congrArg Value.int eh) ?_
          refine gz_if_ne (tgt := 37) dX3_alike_32 (by decide) (fun c_32 => ?_) (fun c_32 => ?_)
          · exact absurd c_32 (by decide)
          ·
            refine gz_iconst (v := 0) dX3_alike_35 (by decide) ?_
            exact gz_zret rfl (by first | decide | exact nrb (Or.inl rfl) | (refine nrb ?_; (repeat' split) <;> first | assumption | exact Or.inl rfl | exact Or.inr rfl)) dX3_alike_36 (Nat.le_of_ble_eq_true rfl) (Nat.le_of_ble_eq_true rfl) (⟨_, rfl, Or.inr ⟨rfl, ew_ne hXY⟩, rfl⟩)
