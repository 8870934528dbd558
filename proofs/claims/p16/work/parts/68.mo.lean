def cR : Nat → Nat
  | 0 => 0
  | e + 1 => 4 * cR e + 6
theorem cR_mono {a : Nat} : ∀ b, a ≤ b → cR a ≤ cR b := by
  intro b
  induction b with
  | zero => intro h; rw [show a = 0 by omega]; exact Nat.le_refl _
  | succ b ih =>
    intro h
    by_cases e : a = b + 1
    · rw [e]; exact Nat.le_refl _
    · have := ih (by omega)
      show cR a ≤ 4 * cR b + 6
      omega
theorem cR_lt {a b : Nat} (h : a < b) : cR a < cR b := by
  have h1 := cR_mono (a := a) (b - 1) (by omega)
  have h2 : cR b = 4 * cR (b - 1) + 6 := by
    rw [show b = (b - 1) + 1 by omega]; rfl
  omega
theorem cR_s {b : Nat} (h : 1 ≤ b) : cR b = 4 * cR (b - 1) + 6 := by
  obtain ⟨e, rfl⟩ : ∃ e, b = e + 1 := ⟨b - 1, by omega⟩
  rfl
/-- one frame: its WORD, DAYS, WORLD, where it is, its WAY; its rank r, and what it may still cost -/
def frV (F : Nat → Nat → Int32) (c d : Int) (w dy wo at_ wy : Int32) (r p : Nat) : Prop := vW F c w.toInt ∧ (0 ≤ dy.toInt ∧ dy.toInt ≤ d) ∧ (0 ≤ wo.toInt ∧ wo.toInt < 3 ^ dy.toInt.toNat) ∧ ((r : Int) = szF F w.toInt + 4 - dy.toInt)
  ∧ ((at_.toInt = 0 ∧ p = cR r) ∨ (at_.toInt = 1 ∧ ((F 7 w.toInt.toNat).toInt = 3 ∨ (F 7 w.toInt.toNat).toInt = 4 ∨ (F 7 w.toInt.toNat).toInt = 7) ∧ p = 3 * cR (r - 1) + 5) ∨ (at_.toInt = 2 ∧ p = 1) ∨ (at_.toInt = 3 ∧ p = 3 * cR (r - 1) + 4) ∨ (at_.toInt = 4 ∧ (0 ≤ wy.toInt ∧ wy.toInt ≤ 2) ∧ p = (2 - wy.toInt.toNat) * (cR (r - 1) + 1) + 1))
def FSt (F : Nat → Nat → Int32) (c d : Int) : Nat → Nat → Nat → Prop
  | 0, r, P => r = 45 ∧ P = 0
  | t + 1, r, P => ∃ r1 P1 p, FSt F c d t r1 P1 ∧ r < r1 ∧ frV F c d (F 58 t) (F 59 t) (F 60 t) (F 62 t) (F 66 t) r p ∧ P = P1 + p
theorem frV_w {F F2 : Nat → Nat → Int32} (h : ∀ k, k ∈ wK → F2 k = F k) {c d : Int} {w dy wo at_ wy : Int32} {r p : Nat} (q : frV F c d w dy wo at_ wy r p) : frV F2 c d w dy wo at_ wy r p := by
  unfold frV at *
  rw [szF_w h, h 7 (by decide)]
  exact ⟨vW_cg (h 6 (by decide)) q.1, q.2⟩
theorem FSt_len {F : Nat → Nat → Int32} {c d : Int} : ∀ t r P, FSt F c d t r P → t + r ≤ 45 := by
  intro t
  induction t with
  | zero => intro r P h; have := h.1; omega
  | succ t ih => intro r P h; obtain ⟨r1, P1, p, h1, h2, h3, h4⟩ := h; have := ih _ _ h1; omega
theorem FSt_cg {F F2 : Nat → Nat → Int32} (h : ∀ k, k ∈ wK → F2 k = F k) {c d : Int} : ∀ t r P, (∀ i, i < t → F2 58 i = F 58 i) → (∀ i, i < t → F2 59 i = F 59 i) → (∀ i, i < t → F2 60 i = F 60 i) → (∀ i, i < t → F2 62 i = F 62 i) → (∀ i, i < t → F2 66 i = F 66 i) → FSt F c d t r P → FSt F2 c d t r P := by
  intro t
  induction t with
  | zero => intro r P _ _ _ _ _ q; exact q
  | succ t ih =>
    intro r P h1 h2 h3 h4 h5 q
    obtain ⟨r1, P1, p, q1, q2, q3, q4⟩ := q
    refine ⟨r1, P1, p, ih _ _ (fun i hi => h1 i (by omega)) (fun i hi => h2 i (by omega)) (fun i hi => h3 i (by omega)) (fun i hi => h4 i (by omega)) (fun i hi => h5 i (by omega)) q1, q2, ?_, q4⟩
    rw [h1 t (by omega), h2 t (by omega), h3 t (by omega), h4 t (by omega), h5 t (by omega)]
    exact frV_w h q3
theorem pw3 {d : Nat} (h : d ≤ 4) : (1 : Int) ≤ 3 ^ d ∧ (3 : Int) ^ d ≤ 81 := pw_le (b := 3) (by decide) d h
theorem wld3 {wd x b : Int} {d : Nat} (hb : 1 ≤ b ∧ b ≤ 3) (hw : 0 ≤ wd ∧ wd < 3 ^ d) (hx : 0 ≤ x ∧ x < b) : 0 ≤ wd * b + x ∧ wd * b + x < 3 ^ (d + 1) := by
  have h0 : 0 ≤ wd * b := Int.mul_nonneg hw.1 (by omega)
  have h1 : wd * b ≤ wd * 3 := Int.mul_le_mul_of_nonneg_left (by omega) hw.1
  rw [Int.pow_succ]; omega

set_option maxHeartbeats 4000000 in
set_option maxRecDepth 100000 in
theorem k_X12_pushes {l : Launch} {D : va_G} {cy : Nat → ClassId} {b : Nat} {f : gMem} {m : Nat} {a : Nat → Nat} {f0 : gMem} {n : Nat → Int32} {z : Nat → Int64} {F : Nat → Nat → Int32} {G : Nat → Nat → Int64}  {x1 x2 x3 : Int32} {y : Int64} (hS : mS cy m a f0 n z F G f) (h57 : 0 ≤ (n 57).toInt ∧ (n 57).toInt < 80) : gC l D cy b yX12_pushes cX12_pushes 6 none 0 0 0 [.ref m, .int x1, .int x2, .int x3, .long y] f (pV fun f2 => ∃ (n2 : Nat → Int32) (z2 : Nat → Int64) (F2 : Nat → Nat → Int32) (G2 : Nat → Nat → Int64), mS cy m a f0 n2 z2 F2 G2 f2 ∧ fx [57] [] [58, 59, 60, 62, 64] [61] n z F G n2 z2 F2 G2 ∧ n2 57 = n 57 + 1 ∧ F2 58 = upd (F 58) (Int32.toNatClampNeg (n 57)) x1 ∧ F2 59 = upd (F 59) (Int32.toNatClampNeg (n 57)) x2 ∧ F2 60 = upd (F 60) (Int32.toNatClampNeg (n 57)) x3 ∧ F2 62 = upd (F 62) (Int32.toNatClampNeg (n 57)) 0) := by
  refine gC_of (by decide) (Nat.le_of_ble_eq_true rfl) ?_
  show gG l _ _ _ D cy b cX12_pushes 6 _ RX12 "pushes" 0 0 f 0 [(0, .ref m), (1, .int x1), (2, .int x2), (3, .int x3), (4, .long y)] []
  refine gz_aload_n dX12_pushes_0 rfl rfl ?_
  refine mg_164 hS dX12_pushes_1 ?_
  refine gz_aload_n dX12_pushes_4 rfl rfl ?_
  refine mg_447 hS dX12_pushes_5 ?_
  refine gz_iload_n dX12_pushes_8 rfl rfl ?_
  refine m_iast 58 hS rfl (N := 80) rfl ((by exact vin_T (rfl : ((n 57)).toInt = ((n 57)).toInt) (by omega) (by omega))) dX12_pushes_9 (fun f_1 hS_1q => ?_)
  have hS_1 : mS cy m a f0 n z (va_up F 58 (upd (F 58) (Int32.toNatClampNeg (n 57)) x1)) G f_1 := hS_1q
  refine gz_aload_n dX12_pushes_10 rfl rfl ?_
  refine mg_167 hS_1 dX12_pushes_11 ?_
  refine gz_aload_n dX12_pushes_14 rfl rfl ?_
  refine mg_447 hS_1 dX12_pushes_15 ?_
  refine gz_ev (w := .int (n 57)) rfl ?_
  refine gz_iload_n dX12_pushes_18 rfl rfl ?_
  refine m_iast 59 hS_1 rfl (N := 80) rfl ((by exact vin_T (rfl : ((n 57)).toInt = ((n 57)).toInt) (by omega) (by omega))) dX12_pushes_19 (fun f_2 hS_2q => ?_)
  have hS_2 : mS cy m a f0 n z (va_up (va_up F 58 (upd (F 58) (Int32.toNatClampNeg (n 57)) x1)) 59 (upd (F 59) (Int32.toNatClampNeg (n 57)) x2)) G f_2 := hS_2q
  refine gz_aload_n dX12_pushes_20 rfl rfl ?_
  refine mg_170 hS_2 dX12_pushes_21 ?_
  refine gz_aload_n dX12_pushes_24 rfl rfl ?_
  refine mg_447 hS_2 dX12_pushes_25 ?_
  refine gz_ev (w := .int (n 57)) rfl ?_
  refine gz_iload_n dX12_pushes_28 rfl rfl ?_
  refine m_iast 60 hS_2 rfl (N := 80) rfl ((by exact vin_T (rfl : ((n 57)).toInt = ((n 57)).toInt) (by omega) (by omega))) dX12_pushes_29 (fun f_3 hS_3q => ?_)
  have hS_3 : mS cy m a f0 n z (va_up (va_up (va_up F 58 (upd (F 58) (Int32.toNatClampNeg (n 57)) x1)) 59 (upd (F 59) (Int32.toNatClampNeg (n 57)) x2)) 60 (upd (F 60) (Int32.toNatClampNeg (n 57)) x3)) G f_3 := hS_3q
  refine gz_aload_n dX12_pushes_30 rfl rfl ?_
  refine mg_173 hS_3 dX12_pushes_31 ?_
  refine gz_aload_n dX12_pushes_34 rfl rfl ?_
  refine mg_447 hS_3 dX12_pushes_35 ?_
  refine gz_ev (w := .int (n 57)) rfl ?_
  refine gz_lload dX12_pushes_38 rfl ?_
  refine m_last 61 hS_3 rfl (N := 80) rfl ((by exact vin_T (rfl : ((n 57)).toInt = ((n 57)).toInt) (by omega) (by omega))) dX12_pushes_40 (fun f_4 hS_4q => ?_)
  have hS_4 : mS cy m a f0 n z (va_up (va_up (va_up F 58 (upd (F 58) (Int32.toNatClampNeg (n 57)) x1)) 59 (upd (F 59) (Int32.toNatClampNeg (n 57)) x2)) 60 (upd (F 60) (Int32.toNatClampNeg (n 57)) x3)) (va_up G 61 (vp_updL (G 61) (Int32.toNatClampNeg (n 57)) y)) f_4 := hS_4q
  refine gz_aload_n dX12_pushes_41 rfl rfl ?_
  refine mg_176 hS_4 dX12_pushes_42 ?_
  refine gz_aload_n dX12_pushes_45 rfl rfl ?_
  refine mg_447 hS_4 dX12_pushes_46 ?_
  refine gz_ev (w := .int (n 57)) rfl ?_
  refine gz_iconst (v := 0) dX12_pushes_49 (by decide) ?_
  refine m_iast 62 hS_4 rfl (N := 80) rfl ((by exact vin_T (rfl : ((n 57)).toInt = ((n 57)).toInt) (by omega) (by omega))) dX12_pushes_50 (fun f_5 hS_5q => ?_)
  have hS_5 : mS cy m a f0 n z (va_up (va_up (va_up (va_up F 58 (upd (F 58) (Int32.toNatClampNeg (n 57)) x1)) 59 (upd (F 59) (Int32.toNatClampNeg (n 57)) x2)) 60 (upd (F 60) (Int32.toNatClampNeg (n 57)) x3)) 62 (upd (F 62) (Int32.toNatClampNeg (n 57)) 0)) (va_up G 61 (vp_updL (G 61) (Int32.toNatClampNeg (n 57)) y)) f_5 := hS_5q
  refine gz_aload_n dX12_pushes_51 rfl rfl ?_
  refine mg_182 hS_5 dX12_pushes_52 ?_
  refine gz_aload_n dX12_pushes_55 rfl rfl ?_
  refine mg_447 hS_5 dX12_pushes_56 ?_
  refine gz_ev (w := .int (n 57)) rfl ?_
  refine gz_iconst (v := 0) dX12_pushes_59 (by decide) ?_
  refine m_zast 64 hS_5 rfl (N := 80) rfl ((by exact vin_T (rfl : ((n 57)).toInt = ((n 57)).toInt) (by omega) (by omega))) dX12_pushes_60 (fun f_6 hS_6q => ?_)
  have hS_6 : mS cy m a f0 n z (va_up (va_up (va_up (va_up (va_up F 58 (upd (F 58) (Int32.toNatClampNeg (n 57)) x1)) 59 (upd (F 59) (Int32.toNatClampNeg (n 57)) x2)) 60 (upd (F 60) (Int32.toNatClampNeg (n 57)) x3)) 62 (upd (F 62) (Int32.toNatClampNeg (n 57)) 0)) 64 (upd (F 64) (Int32.toNatClampNeg (n 57)) (vp_nar .boolean 0))) (va_up G 61 (vp_updL (G 61) (Int32.toNatClampNeg (n 57)) y)) f_6 := hS_6q
  refine gz_aload_n dX12_pushes_61 rfl rfl ?_
  refine gz_dup dX12_pushes_62 rfl ?_
  refine mg_447 hS_6 dX12_pushes_63 ?_
  refine gz_ev (w := .int (n 57)) rfl ?_
  refine gz_iconst (v := 1) dX12_pushes_66 (by decide) ?_
  refine gz_iadd dX12_pushes_67 ?_
  refine mp_447 hS_6 dX12_pushes_68 (fun f_7 hS_7 => ?_)
  exact gz_vret rfl dX12_pushes_71 (Nat.le_of_ble_eq_true rfl) (Nat.le_of_ble_eq_true rfl) (⟨rfl, _, _, _, _, hS_7, (fx_n (fx_F (fx_F (fx_G (fx_F (fx_F (fx_F fx_rf (by decide)) (by decide)) (by decide)) (by decide)) (by decide)) (by decide)) (by decide)), rfl, rfl, rfl, rfl, rfl⟩)

set_option maxHeartbeats 4000000 in
set_option maxRecDepth 100000 in
theorem k_X12_answers {l : Launch} {D : va_G} {cy : Nat → ClassId} {b : Nat} {f : gMem} {m : Nat} {a : Nat → Nat} {f0 : gMem} {n : Nat → Int32} {z : Nat → Int64} {F : Nat → Nat → Int32} {G : Nat → Nat → Int64}  {y : Int64} (hS : mS cy m a f0 n z F G f)  : gC l D cy b yX12_answers cX12_answers 3 none 0 0 0 [.ref m, .long y] f (pV fun f2 => ∃ (n2 : Nat → Int32) (z2 : Nat → Int64) (F2 : Nat → Nat → Int32) (G2 : Nat → Nat → Int64), mS cy m a f0 n2 z2 F2 G2 f2 ∧ fx [57] [67] [] [] n z F G n2 z2 F2 G2 ∧ n2 57 = n 57 - 1) := by
  refine gC_of (by decide) (Nat.le_of_ble_eq_true rfl) ?_
  show gG l _ _ _ D cy b cX12_answers 3 _ RX12 "answers" 0 0 f 0 [(0, .ref m), (1, .long y)] []
  refine gz_aload_n dX12_answers_0 rfl rfl ?_
  refine gz_dup dX12_answers_1 rfl ?_
  refine mg_447 hS dX12_answers_2 ?_
  refine gz_iconst (v := 1) dX12_answers_5 (by decide) ?_
  refine gz_isub dX12_answers_6 ?_
  refine mp_447 hS dX12_answers_7 (fun f_1 hS_1 => ?_)
  refine gz_aload_n dX12_answers_10 rfl rfl ?_
  refine gz_lload_n dX12_answers_11 rfl rfl ?_
  refine mp_450 hS_1 dX12_answers_12 (fun f_2 hS_2 => ?_)
  exact gz_vret rfl dX12_answers_15 (Nat.le_of_ble_eq_true rfl) (Nat.le_of_ble_eq_true rfl) (⟨rfl, _, _, _, _, hS_2, (fx_z (fx_n fx_rf (by decide)) (by decide)), rfl⟩)

set_option maxHeartbeats 4000000 in
set_option maxRecDepth 100000 in
theorem k_X12_better {l : Launch} {D : va_G} {cy : Nat → ClassId} {b : Nat} {f : gMem} {x : Int32} {y v : Int64}   : gC l D cy b yX12_better cX12_better 5 (some .long) 0 0 0 [.int x, .long y, .long v] f (pL fun r f2 => True ∧ f2 = f) := by
  refine gC_of (by decide) (Nat.le_of_ble_eq_true rfl) ?_
  show gG l _ _ _ D cy b cX12_better 5 _ RX12 "better" 0 0 f 0 [(0, .int x), (1, .long y), (3, .long v)] []
  refine gz_iload_n dX12_better_0 rfl rfl ?_
  refine gz_if_ne (tgt := 8) dX12_better_1 (by decide) (fun c_1 => ?_) (fun c_1 => ?_)
  ·
    refine gz_iconst (v := 0) dX12_better_8 (by decide) ?_
    refine gz_lload_n dX12_better_9 rfl rfl ?_
    refine gz_lload_n dX12_better_10 rfl rfl ?_
    refine gz_lcmp dX12_better_11 ?_
    refine gz_if_le (tgt := 19) dX12_better_12 (by decide) (fun c_12 => ?_) (fun c_12 => ?_)
    ·
      refine gz_iconst (v := 0) dX12_better_19 (by decide) ?_
      refine gz_icmp_ne (tgt := 27) dX12_better_20 (by decide) (fun c_20 => ?_) (fun c_20 => ?_)
      · exact absurd c_20 (by decide)
      ·
        refine gz_lload_n dX12_better_23 rfl rfl ?_
        refine gz_goto (tgt := 28) dX12_better_24 (by decide) ?_
        exact gz_lret rfl dX12_better_28 (Nat.le_of_ble_eq_true rfl) (Nat.le_of_ble_eq_true rfl) (⟨_, rfl, trivial, rfl⟩)
    ·
      refine gz_iconst (v := 1) dX12_better_15 (by decide) ?_
      refine gz_goto (tgt := 20) dX12_better_16 (by decide) ?_
      refine gz_icmp_ne (tgt := 27) dX12_better_20 (by decide) (fun c_20 => ?_) (fun c_20 => ?_)
      ·
        refine gz_lload_n dX12_better_27 rfl rfl ?_
        exact gz_lret rfl dX12_better_28 (Nat.le_of_ble_eq_true rfl) (Nat.le_of_ble_eq_true rfl) (⟨_, rfl, trivial, rfl⟩)
      · exact absurd c_20 (by decide)
  ·
    refine gz_iconst (v := 1) dX12_better_4 (by decide) ?_
    refine gz_goto (tgt := 9) dX12_better_5 (by decide) ?_
    refine gz_lload_n dX12_better_9 rfl rfl ?_
    refine gz_lload_n dX12_better_10 rfl rfl ?_
    refine gz_lcmp dX12_better_11 ?_
    refine gz_if_le (tgt := 19) dX12_better_12 (by decide) (fun c_12 => ?_) (fun c_12 => ?_)
    ·
      refine gz_iconst (v := 0) dX12_better_19 (by decide) ?_
      refine gz_icmp_ne (tgt := 27) dX12_better_20 (by decide) (fun c_20 => ?_) (fun c_20 => ?_)
      ·
        refine gz_lload_n dX12_better_27 rfl rfl ?_
        exact gz_lret rfl dX12_better_28 (Nat.le_of_ble_eq_true rfl) (Nat.le_of_ble_eq_true rfl) (⟨_, rfl, trivial, rfl⟩)
      · exact absurd c_20 (by decide)
    ·
      refine gz_iconst (v := 1) dX12_better_15 (by decide) ?_
      refine gz_goto (tgt := 20) dX12_better_16 (by decide) ?_
      refine gz_icmp_ne (tgt := 27) dX12_better_20 (by decide) (fun c_20 => ?_) (fun c_20 => ?_)
      · exact absurd c_20 (by decide)
      ·
        refine gz_lload_n dX12_better_23 rfl rfl ?_
        refine gz_goto (tgt := 28) dX12_better_24 (by decide) ?_
        exact gz_lret rfl dX12_better_28 (Nat.le_of_ble_eq_true rfl) (Nat.le_of_ble_eq_true rfl) (⟨_, rfl, trivial, rfl⟩)

set_option maxHeartbeats 4000000 in
set_option maxRecDepth 100000 in
theorem k_X12_waitsOn {l : Launch} {D : va_G} {cy : Nat → ClassId} {b : Nat} {f : gMem} {m : Nat} {a : Nat → Nat} {f0 : gMem} {n : Nat → Int32} {z : Nat → Int64} {F : Nat → Nat → Int32} {G : Nat → Nat → Int64}  {x1 x2 : Int32}{r1 P1 r : Nat} {dd : Int} (hS : mS cy m a f0 n z F G f) (a5 : 0 ≤ (n 5).toInt ∧ (n 5).toInt ≤ 20) (bA : rAll F) (bW : rW F (n 5).toInt) (a53 : 1 ≤ (n 53).toInt ∧ (n 53).toInt ≤ 3) (hx1 : 0 ≤ x1.toInt ∧ (n 57).toInt = x1.toInt + 1) (hd : x2.toInt = dd ∧ dd ≤ 4) (hlo : FSt F (n 5).toInt dd (Int32.toNatClampNeg x1) r1 P1) (hr1 : r < r1) (hfr : vW F (n 5).toInt (F 58 (Int32.toNatClampNeg x1)).toInt ∧ (0 ≤ (F 59 (Int32.toNatClampNeg x1)).toInt ∧ (F 59 (Int32.toNatClampNeg x1)).toInt ≤ dd) ∧ (0 ≤ (F 60 (Int32.toNatClampNeg x1)).toInt ∧ (F 60 (Int32.toNatClampNeg x1)).toInt < 3 ^ (F 59 (Int32.toNatClampNeg x1)).toInt.toNat) ∧ ((r : Int) = szF F (F 58 (Int32.toNatClampNeg x1)).toInt + 4 - (F 59 (Int32.toNatClampNeg x1)).toInt) ∧ True) (hwy : 0 ≤ (F 66 (Int32.toNatClampNeg x1)).toInt ∧ (F 66 (Int32.toNatClampNeg x1)).toInt ≤ 3) : gC l D cy b yX12_waitsOn cX12_waitsOn 6 none 1 0 0 [.ref m, .int x1, .int x2] f (pV fun f2 => ∃ (n2 : Nat → Int32) (z2 : Nat → Int64) (F2 : Nat → Nat → Int32) (G2 : Nat → Nat → Int64), mS cy m a f0 n2 z2 F2 G2 f2 ∧ fx [57] [67] [58, 59, 60, 62, 64] [61] n z F G n2 z2 F2 G2 ∧ 0 ≤ (n2 57).toInt ∧ ∃ r9 P9 : Nat, FSt F2 (n2 5).toInt dd (n2 57).toInt.toNat r9 P9 ∧ P9 ≤ P1 + (3 - (F 66 (Int32.toNatClampNeg x1)).toInt.toNat) * (cR (r - 1) + 1)) := by
  obtain ⟨fw, fd, fo, fr_, fa⟩ := id hfr
  have qv := vW_lt bW a5 fw
  have qz := szF_pos bW fw
  have q3 := pw3 (d := (F 59 (Int32.toNatClampNeg x1)).toInt.toNat) (by omega)
  have qcx := clI (i := x1) (by omega)
  have qcn := clI (i := n 57) (by omega)
  have qlen := FSt_len _ _ _ hlo
  refine gC_of (by decide) (Nat.le_of_ble_eq_true rfl) ?_
  show gG l _ _ _ D cy b cX12_waitsOn 6 _ RX12 "waitsOn" 0 0 f 0 [(0, .ref m), (1, .int x1), (2, .int x2)] []
  refine gz_aload_n dX12_waitsOn_0 rfl rfl ?_
  refine mg_164 hS dX12_waitsOn_1 ?_
  refine gz_iload_n dX12_waitsOn_4 rfl rfl ?_
  refine m_iald 58 hS rfl (N := 80) rfl ((by exact vin_T (rfl : x1.toInt = x1.toInt) (by omega) (by omega))) dX12_waitsOn_5 ?_
  refine gz_istore_n (lv' := [(3, .int ((F 58) (Int32.toNatClampNeg x1))), (0, .ref m), (1, .int x1), (2, .int x2)]) dX12_waitsOn_6 rfl (by decide) rfl ?_
  refine gz_aload_n dX12_waitsOn_7 rfl rfl ?_
  refine mg_167 hS dX12_waitsOn_8 ?_
  refine gz_iload_n dX12_waitsOn_11 rfl rfl ?_
  refine m_iald 59 hS rfl (N := 80) rfl ((by exact vin_T (rfl : x1.toInt = x1.toInt) (by omega) (by omega))) dX12_waitsOn_12 ?_
  refine gz_iload_n dX12_waitsOn_13 rfl rfl ?_
  refine gz_icmp_ge (tgt := 75) dX12_waitsOn_14 (by decide) (fun c_14 => ?_) (fun c_14 => ?_)
  ·
    try simp only [mIn_0, lgc_lt, lgc_gt, lgc_le, lgc_ge, lgc_eq] at c_14
    try simp only [fl_lt, fl_le, fl_eq, fL_w, fL_lt, fL_le, tm1, tm10k, tm9, tm99, Int32.reduceToInt, Int64.reduceToInt, Int.not_lt, Int.not_le] at c_14
    refine gz_aload_n dX12_waitsOn_75 rfl rfl ?_
    refine mg_167 hS dX12_waitsOn_76 ?_
    refine gz_iload_n dX12_waitsOn_79 rfl rfl ?_
    refine m_iald 59 hS rfl (N := 80) rfl ((by exact vin_T (rfl : x1.toInt = x1.toInt) (by omega) (by omega))) dX12_waitsOn_80 ?_
    refine gz_iload_n dX12_waitsOn_81 rfl rfl ?_
    refine gz_icmp_ge (tgt := 94) dX12_waitsOn_82 (by decide) (fun c_82 => ?_) (fun c_82 => ?_)
    ·
      try simp only [mIn_0, lgc_lt, lgc_gt, lgc_le, lgc_ge, lgc_eq] at c_82
      try simp only [fl_lt, fl_le, fl_eq, fL_w, fL_lt, fL_le, tm1, tm10k, tm9, tm99, Int32.reduceToInt, Int64.reduceToInt, Int.not_lt, Int.not_le] at c_82
      refine gz_lconst (v := 0) dX12_waitsOn_94 (by decide) ?_
      refine gz_lstore (lv' := [(4, .long 0), (3, .int ((F 58) (Int32.toNatClampNeg x1))), (0, .ref m), (1, .int x1), (2, .int x2)]) dX12_waitsOn_95 (by decide) rfl ?_
      refine gz_aload_n dX12_waitsOn_97 rfl rfl ?_
      refine gz_aload_n dX12_waitsOn_98 rfl rfl ?_
      refine mg_182 hS dX12_waitsOn_99 ?_
      refine gz_iload_n dX12_waitsOn_102 rfl rfl ?_
      refine m_zald 64 hS rfl (N := 80) rfl ((by exact vin_T (rfl : x1.toInt = x1.toInt) (by omega) (by omega))) dX12_waitsOn_103 ?_
      refine gz_if_eq (tgt := 126) dX12_waitsOn_104 (by decide) (fun c_104 => ?_) (fun c_104 => ?_)
      ·
        try simp only [mIn_0, lgc_lt, lgc_gt, lgc_le, lgc_ge, lgc_eq] at c_104
        try simp only [fl_lt, fl_le, fl_eq, fL_w, fL_lt, fL_le, tm1, tm10k, tm9, tm99, Int32.reduceToInt, Int64.reduceToInt, Int.not_lt, Int.not_le] at c_104
        refine gz_lload dX12_waitsOn_126 rfl ?_
        refine scX12_456 (k_X12_answers hS) hS.1 ⟨(Nat.le_of_ble_eq_true rfl), (Nat.le_of_ble_eq_true rfl)⟩ ⟨(Nat.le_of_ble_eq_true rfl), (Nat.le_of_ble_eq_true rfl)⟩ rfl rfl (Nat.le_of_ble_eq_true rfl) dX12_waitsOn_128 ?_
        rintro f_1 ⟨n_1, z_1, F_1, G_1, hS_1, hx1, g57_1⟩
        have hxx : fx [57] [67] [58, 59, 60, 62, 64] [61] n z F G n_1 z_1 F_1 G_1 := (fx_tr fx_rf hx1 (by decide))
        have hlo9 : FSt F_1 (n 5).toInt dd (Int32.toNatClampNeg x1) r1 P1 := FSt_cg (fun k hk => hxx.2.2.1 k ((by decide : ∀ k : Nat, k ∈ wK → k ∉ ([58, 59, 60, 62, 64] : List Nat)) k hk)) _ _ _ (fun i hi => by rw [(show F_1 58 = (F 58) from (hx1.2.2.1 58 (by decide)))]) (fun i hi => by rw [(show F_1 59 = (F 59) from (hx1.2.2.1 59 (by decide)))]) (fun i hi => by rw [(show F_1 60 = (F 60) from (hx1.2.2.1 60 (by decide)))]) (fun i hi => by rw [(show F_1 62 = (F 62) from (hx1.2.2.1 62 (by decide)))]) (fun i hi => by rw [(show F_1 66 = (F 66) from (hx1.2.2.1 66 (by decide)))]) hlo
        have e5 : n_1 5 = n 5 := hxx.1 5 (by decide)
        have e57 : (n_1 57).toInt = x1.toInt + 0 := (by (try rw [(show n_1 57 = ((n 57) - 1) from g57_1)]); have q1_ := (T_sub (rfl : ((n 57)).toInt = ((n 57)).toInt) (show (1 : Int32).toInt = 1 from rfl) (by omega)); omega)
        have e57n : (n_1 57).toInt.toNat = (Int32.toNatClampNeg x1) + 0 := by omega
        exact gz_vret rfl dX12_waitsOn_131 (Nat.le_of_ble_eq_true rfl) (Nat.le_of_ble_eq_true rfl) (⟨rfl, _, _, _, _, hS_1, hxx, by omega, r1, P1, by rw [e57n, e5]; exact hlo9, Nat.le_add_right _ _⟩)
      ·
        try simp only [mIn_0, lgc_lt, lgc_gt, lgc_le, lgc_ge, lgc_eq] at c_104
        try simp only [fl_lt, fl_le, fl_eq, fL_w, fL_lt, fL_le, tm1, tm10k, tm9, tm99, Int32.reduceToInt, Int64.reduceToInt, Int.not_lt, Int.not_le] at c_104
        refine gz_aload_n dX12_waitsOn_107 rfl rfl ?_
        refine gz_iload_n dX12_waitsOn_108 rfl rfl ?_
        refine scX12_413 (k_X12_chooser (x1 := (F 58 (Int32.toNatClampNeg x1))) hS a5 bA bW fw) hS.1 ⟨(Nat.le_of_ble_eq_true rfl), (Nat.le_of_ble_eq_true rfl)⟩ ⟨(Nat.le_of_ble_eq_true rfl), (Nat.le_of_ble_eq_true rfl)⟩ rfl rfl (Nat.le_of_ble_eq_true rfl) dX12_waitsOn_109 ?_
        rintro r_2 f9 ⟨-, y9⟩; rw [y9]
        refine gz_aload_n dX12_waitsOn_112 rfl rfl ?_
        refine mg_179 hS dX12_waitsOn_113 ?_
        refine gz_iload_n dX12_waitsOn_116 rfl rfl ?_
        refine m_lald 63 hS rfl (N := 80) rfl ((by exact vin_T (rfl : x1.toInt = x1.toInt) (by omega) (by omega))) dX12_waitsOn_117 ?_
        refine gz_lload dX12_waitsOn_118 rfl ?_
        refine scX12_470 (k_X12_better) ⟨(Nat.le_of_ble_eq_true rfl), (Nat.le_of_ble_eq_true rfl)⟩ ⟨(Nat.le_of_ble_eq_true rfl), (Nat.le_of_ble_eq_true rfl)⟩ rfl rfl (Nat.le_of_ble_eq_true rfl) dX12_waitsOn_120 ?_
        rintro r_b120 f9 ⟨-, y9⟩; rw [y9]
        refine gz_goto (tgt := 128) dX12_waitsOn_123 (by decide) ?_
        refine scX12_456 (k_X12_answers hS) hS.1 ⟨(Nat.le_of_ble_eq_true rfl), (Nat.le_of_ble_eq_true rfl)⟩ ⟨(Nat.le_of_ble_eq_true rfl), (Nat.le_of_ble_eq_true rfl)⟩ rfl rfl (Nat.le_of_ble_eq_true rfl) dX12_waitsOn_128 ?_
        rintro f_3 ⟨n_3, z_3, F_3, G_3, hS_3, hx3, g57_3⟩
        have hxx : fx [57] [67] [58, 59, 60, 62, 64] [61] n z F G n_3 z_3 F_3 G_3 := (fx_tr fx_rf hx3 (by decide))
        have hlo9 : FSt F_3 (n 5).toInt dd (Int32.toNatClampNeg x1) r1 P1 := FSt_cg (fun k hk => hxx.2.2.1 k ((by decide : ∀ k : Nat, k ∈ wK → k ∉ ([58, 59, 60, 62, 64] : List Nat)) k hk)) _ _ _ (fun i hi => by rw [(show F_3 58 = (F 58) from (hx3.2.2.1 58 (by decide)))]) (fun i hi => by rw [(show F_3 59 = (F 59) from (hx3.2.2.1 59 (by decide)))]) (fun i hi => by rw [(show F_3 60 = (F 60) from (hx3.2.2.1 60 (by decide)))]) (fun i hi => by rw [(show F_3 62 = (F 62) from (hx3.2.2.1 62 (by decide)))]) (fun i hi => by rw [(show F_3 66 = (F 66) from (hx3.2.2.1 66 (by decide)))]) hlo
        have e5 : n_3 5 = n 5 := hxx.1 5 (by decide)
        have e57 : (n_3 57).toInt = x1.toInt + 0 := (by (try rw [(show n_3 57 = ((n 57) - 1) from g57_3)]); have q1_ := (T_sub (rfl : ((n 57)).toInt = ((n 57)).toInt) (show (1 : Int32).toInt = 1 from rfl) (by omega)); omega)
        have e57n : (n_3 57).toInt.toNat = (Int32.toNatClampNeg x1) + 0 := by omega
        exact gz_vret rfl dX12_waitsOn_131 (Nat.le_of_ble_eq_true rfl) (Nat.le_of_ble_eq_true rfl) (⟨rfl, _, _, _, _, hS_3, hxx, by omega, r1, P1, by rw [e57n, e5]; exact hlo9, Nat.le_add_right _ _⟩)
    ·
      try simp only [mIn_0, lgc_lt, lgc_gt, lgc_le, lgc_ge, lgc_eq] at c_82
      try simp only [fl_lt, fl_le, fl_eq, fL_w, fL_lt, fL_le, tm1, tm10k, tm9, tm99, Int32.reduceToInt, Int64.reduceToInt, Int.not_lt, Int.not_le] at c_82
      refine gz_aload_n dX12_waitsOn_85 rfl rfl ?_
      refine mg_186 hS dX12_waitsOn_86 ?_
      refine gz_iload_n dX12_waitsOn_89 rfl rfl ?_
      refine m_lald 65 hS rfl (N := 80) rfl ((by exact vin_T (rfl : x1.toInt = x1.toInt) (by omega) (by omega))) dX12_waitsOn_90 ?_
      refine gz_goto (tgt := 95) dX12_waitsOn_91 (by decide) ?_
      refine gz_lstore (lv' := [(4, .long ((G 65) (Int32.toNatClampNeg x1))), (3, .int ((F 58) (Int32.toNatClampNeg x1))), (0, .ref m), (1, .int x1), (2, .int x2)]) dX12_waitsOn_95 (by decide) rfl ?_
      refine gz_aload_n dX12_waitsOn_97 rfl rfl ?_
      refine gz_aload_n dX12_waitsOn_98 rfl rfl ?_
      refine mg_182 hS dX12_waitsOn_99 ?_
      refine gz_iload_n dX12_waitsOn_102 rfl rfl ?_
      refine m_zald 64 hS rfl (N := 80) rfl ((by exact vin_T (rfl : x1.toInt = x1.toInt) (by omega) (by omega))) dX12_waitsOn_103 ?_
      refine gz_if_eq (tgt := 126) dX12_waitsOn_104 (by decide) (fun c_104 => ?_) (fun c_104 => ?_)
      ·
        try simp only [mIn_0, lgc_lt, lgc_gt, lgc_le, lgc_ge, lgc_eq] at c_104
        try simp only [fl_lt, fl_le, fl_eq, fL_w, fL_lt, fL_le, tm1, tm10k, tm9, tm99, Int32.reduceToInt, Int64.reduceToInt, Int.not_lt, Int.not_le] at c_104
        refine gz_lload dX12_waitsOn_126 rfl ?_
        refine scX12_456 (k_X12_answers hS) hS.1 ⟨(Nat.le_of_ble_eq_true rfl), (Nat.le_of_ble_eq_true rfl)⟩ ⟨(Nat.le_of_ble_eq_true rfl), (Nat.le_of_ble_eq_true rfl)⟩ rfl rfl (Nat.le_of_ble_eq_true rfl) dX12_waitsOn_128 ?_
        rintro f_4 ⟨n_4, z_4, F_4, G_4, hS_4, hx4, g57_4⟩
        have hxx : fx [57] [67] [58, 59, 60, 62, 64] [61] n z F G n_4 z_4 F_4 G_4 := (fx_tr fx_rf hx4 (by decide))
        have hlo9 : FSt F_4 (n 5).toInt dd (Int32.toNatClampNeg x1) r1 P1 := FSt_cg (fun k hk => hxx.2.2.1 k ((by decide : ∀ k : Nat, k ∈ wK → k ∉ ([58, 59, 60, 62, 64] : List Nat)) k hk)) _ _ _ (fun i hi => by rw [(show F_4 58 = (F 58) from (hx4.2.2.1 58 (by decide)))]) (fun i hi => by rw [(show F_4 59 = (F 59) from (hx4.2.2.1 59 (by decide)))]) (fun i hi => by rw [(show F_4 60 = (F 60) from (hx4.2.2.1 60 (by decide)))]) (fun i hi => by rw [(show F_4 62 = (F 62) from (hx4.2.2.1 62 (by decide)))]) (fun i hi => by rw [(show F_4 66 = (F 66) from (hx4.2.2.1 66 (by decide)))]) hlo
        have e5 : n_4 5 = n 5 := hxx.1 5 (by decide)
        have e57 : (n_4 57).toInt = x1.toInt + 0 := (by (try rw [(show n_4 57 = ((n 57) - 1) from g57_4)]); have q1_ := (T_sub (rfl : ((n 57)).toInt = ((n 57)).toInt) (show (1 : Int32).toInt = 1 from rfl) (by omega)); omega)
        have e57n : (n_4 57).toInt.toNat = (Int32.toNatClampNeg x1) + 0 := by omega
        exact gz_vret rfl dX12_waitsOn_131 (Nat.le_of_ble_eq_true rfl) (Nat.le_of_ble_eq_true rfl) (⟨rfl, _, _, _, _, hS_4, hxx, by omega, r1, P1, by rw [e57n, e5]; exact hlo9, Nat.le_add_right _ _⟩)
      ·
        try simp only [mIn_0, lgc_lt, lgc_gt, lgc_le, lgc_ge, lgc_eq] at c_104
        try simp only [fl_lt, fl_le, fl_eq, fL_w, fL_lt, fL_le, tm1, tm10k, tm9, tm99, Int32.reduceToInt, Int64.reduceToInt, Int.not_lt, Int.not_le] at c_104
        refine gz_aload_n dX12_waitsOn_107 rfl rfl ?_
        refine gz_iload_n dX12_waitsOn_108 rfl rfl ?_
        refine scX12_413 (k_X12_chooser (x1 := (F 58 (Int32.toNatClampNeg x1))) hS a5 bA bW fw) hS.1 ⟨(Nat.le_of_ble_eq_true rfl), (Nat.le_of_ble_eq_true rfl)⟩ ⟨(Nat.le_of_ble_eq_true rfl), (Nat.le_of_ble_eq_true rfl)⟩ rfl rfl (Nat.le_of_ble_eq_true rfl) dX12_waitsOn_109 ?_
        rintro r_5 f9 ⟨-, y9⟩; rw [y9]
        refine gz_aload_n dX12_waitsOn_112 rfl rfl ?_
        refine mg_179 hS dX12_waitsOn_113 ?_
        refine gz_iload_n dX12_waitsOn_116 rfl rfl ?_
        refine m_lald 63 hS rfl (N := 80) rfl ((by exact vin_T (rfl : x1.toInt = x1.toInt) (by omega) (by omega))) dX12_waitsOn_117 ?_
        refine gz_lload dX12_waitsOn_118 rfl ?_
        refine scX12_470 (k_X12_better) ⟨(Nat.le_of_ble_eq_true rfl), (Nat.le_of_ble_eq_true rfl)⟩ ⟨(Nat.le_of_ble_eq_true rfl), (Nat.le_of_ble_eq_true rfl)⟩ rfl rfl (Nat.le_of_ble_eq_true rfl) dX12_waitsOn_120 ?_
        rintro r_b120 f9 ⟨-, y9⟩; rw [y9]
        refine gz_goto (tgt := 128) dX12_waitsOn_123 (by decide) ?_
        refine scX12_456 (k_X12_answers hS) hS.1 ⟨(Nat.le_of_ble_eq_true rfl), (Nat.le_of_ble_eq_true rfl)⟩ ⟨(Nat.le_of_ble_eq_true rfl), (Nat.le_of_ble_eq_true rfl)⟩ rfl rfl (Nat.le_of_ble_eq_true rfl) dX12_waitsOn_128 ?_
        rintro f_6 ⟨n_6, z_6, F_6, G_6, hS_6, hx6, g57_6⟩
        have hxx : fx [57] [67] [58, 59, 60, 62, 64] [61] n z F G n_6 z_6 F_6 G_6 := (fx_tr fx_rf hx6 (by decide))
        have hlo9 : FSt F_6 (n 5).toInt dd (Int32.toNatClampNeg x1) r1 P1 := FSt_cg (fun k hk => hxx.2.2.1 k ((by decide : ∀ k : Nat, k ∈ wK → k ∉ ([58, 59, 60, 62, 64] : List Nat)) k hk)) _ _ _ (fun i hi => by rw [(show F_6 58 = (F 58) from (hx6.2.2.1 58 (by decide)))]) (fun i hi => by rw [(show F_6 59 = (F 59) from (hx6.2.2.1 59 (by decide)))]) (fun i hi => by rw [(show F_6 60 = (F 60) from (hx6.2.2.1 60 (by decide)))]) (fun i hi => by rw [(show F_6 62 = (F 62) from (hx6.2.2.1 62 (by decide)))]) (fun i hi => by rw [(show F_6 66 = (F 66) from (hx6.2.2.1 66 (by decide)))]) hlo
        have e5 : n_6 5 = n 5 := hxx.1 5 (by decide)
        have e57 : (n_6 57).toInt = x1.toInt + 0 := (by (try rw [(show n_6 57 = ((n 57) - 1) from g57_6)]); have q1_ := (T_sub (rfl : ((n 57)).toInt = ((n 57)).toInt) (show (1 : Int32).toInt = 1 from rfl) (by omega)); omega)
        have e57n : (n_6 57).toInt.toNat = (Int32.toNatClampNeg x1) + 0 := by omega
        exact gz_vret rfl dX12_waitsOn_131 (Nat.le_of_ble_eq_true rfl) (Nat.le_of_ble_eq_true rfl) (⟨rfl, _, _, _, _, hS_6, hxx, by omega, r1, P1, by rw [e57n, e5]; exact hlo9, Nat.le_add_right _ _⟩)
  ·
    try simp only [mIn_0, lgc_lt, lgc_gt, lgc_le, lgc_ge, lgc_eq] at c_14
    try simp only [fl_lt, fl_le, fl_eq, fL_w, fL_lt, fL_le, tm1, tm10k, tm9, tm99, Int32.reduceToInt, Int64.reduceToInt, Int.not_lt, Int.not_le] at c_14
    refine gz_aload_n dX12_waitsOn_17 rfl rfl ?_
    refine mg_189 hS dX12_waitsOn_18 ?_
    refine gz_iload_n dX12_waitsOn_21 rfl rfl ?_
    refine m_iald 66 hS rfl (N := 80) rfl ((by exact vin_T (rfl : x1.toInt = x1.toInt) (by omega) (by omega))) dX12_waitsOn_22 ?_
    refine gz_aload_n dX12_waitsOn_23 rfl rfl ?_
    refine mg_151 hS dX12_waitsOn_24 ?_
    refine gz_icmp_ge (tgt := 75) dX12_waitsOn_27 (by decide) (fun c_27 => ?_) (fun c_27 => ?_)
    ·
      try simp only [mIn_0, lgc_lt, lgc_gt, lgc_le, lgc_ge, lgc_eq] at c_27
      try simp only [fl_lt, fl_le, fl_eq, fL_w, fL_lt, fL_le, tm1, tm10k, tm9, tm99, Int32.reduceToInt, Int64.reduceToInt, Int.not_lt, Int.not_le] at c_27
      refine gz_aload_n dX12_waitsOn_75 rfl rfl ?_
      refine mg_167 hS dX12_waitsOn_76 ?_
      refine gz_iload_n dX12_waitsOn_79 rfl rfl ?_
      refine m_iald 59 hS rfl (N := 80) rfl ((by exact vin_T (rfl : x1.toInt = x1.toInt) (by omega) (by omega))) dX12_waitsOn_80 ?_
      refine gz_iload_n dX12_waitsOn_81 rfl rfl ?_
      refine gz_icmp_ge (tgt := 94) dX12_waitsOn_82 (by decide) (fun c_82 => ?_) (fun c_82 => ?_)
      ·
        try simp only [mIn_0, lgc_lt, lgc_gt, lgc_le, lgc_ge, lgc_eq] at c_82
        try simp only [fl_lt, fl_le, fl_eq, fL_w, fL_lt, fL_le, tm1, tm10k, tm9, tm99, Int32.reduceToInt, Int64.reduceToInt, Int.not_lt, Int.not_le] at c_82
        refine gz_lconst (v := 0) dX12_waitsOn_94 (by decide) ?_
        refine gz_lstore (lv' := [(4, .long 0), (3, .int ((F 58) (Int32.toNatClampNeg x1))), (0, .ref m), (1, .int x1), (2, .int x2)]) dX12_waitsOn_95 (by decide) rfl ?_
        refine gz_aload_n dX12_waitsOn_97 rfl rfl ?_
        refine gz_aload_n dX12_waitsOn_98 rfl rfl ?_
        refine mg_182 hS dX12_waitsOn_99 ?_
        refine gz_iload_n dX12_waitsOn_102 rfl rfl ?_
        refine m_zald 64 hS rfl (N := 80) rfl ((by exact vin_T (rfl : x1.toInt = x1.toInt) (by omega) (by omega))) dX12_waitsOn_103 ?_
        refine gz_if_eq (tgt := 126) dX12_waitsOn_104 (by decide) (fun c_104 => ?_) (fun c_104 => ?_)
        ·
          try simp only [mIn_0, lgc_lt, lgc_gt, lgc_le, lgc_ge, lgc_eq] at c_104
          try simp only [fl_lt, fl_le, fl_eq, fL_w, fL_lt, fL_le, tm1, tm10k, tm9, tm99, Int32.reduceToInt, Int64.reduceToInt, Int.not_lt, Int.not_le] at c_104
          refine gz_lload dX12_waitsOn_126 rfl ?_
          refine scX12_456 (k_X12_answers hS) hS.1 ⟨(Nat.le_of_ble_eq_true rfl), (Nat.le_of_ble_eq_true rfl)⟩ ⟨(Nat.le_of_ble_eq_true rfl), (Nat.le_of_ble_eq_true rfl)⟩ rfl rfl (Nat.le_of_ble_eq_true rfl) dX12_waitsOn_128 ?_
          rintro f_7 ⟨n_7, z_7, F_7, G_7, hS_7, hx7, g57_7⟩
          have hxx : fx [57] [67] [58, 59, 60, 62, 64] [61] n z F G n_7 z_7 F_7 G_7 := (fx_tr fx_rf hx7 (by decide))
          have hlo9 : FSt F_7 (n 5).toInt dd (Int32.toNatClampNeg x1) r1 P1 := FSt_cg (fun k hk => hxx.2.2.1 k ((by decide : ∀ k : Nat, k ∈ wK → k ∉ ([58, 59, 60, 62, 64] : List Nat)) k hk)) _ _ _ (fun i hi => by rw [(show F_7 58 = (F 58) from (hx7.2.2.1 58 (by decide)))]) (fun i hi => by rw [(show F_7 59 = (F 59) from (hx7.2.2.1 59 (by decide)))]) (fun i hi => by rw [(show F_7 60 = (F 60) from (hx7.2.2.1 60 (by decide)))]) (fun i hi => by rw [(show F_7 62 = (F 62) from (hx7.2.2.1 62 (by decide)))]) (fun i hi => by rw [(show F_7 66 = (F 66) from (hx7.2.2.1 66 (by decide)))]) hlo
          have e5 : n_7 5 = n 5 := hxx.1 5 (by decide)
          have e57 : (n_7 57).toInt = x1.toInt + 0 := (by (try rw [(show n_7 57 = ((n 57) - 1) from g57_7)]); have q1_ := (T_sub (rfl : ((n 57)).toInt = ((n 57)).toInt) (show (1 : Int32).toInt = 1 from rfl) (by omega)); omega)
          have e57n : (n_7 57).toInt.toNat = (Int32.toNatClampNeg x1) + 0 := by omega
          exact gz_vret rfl dX12_waitsOn_131 (Nat.le_of_ble_eq_true rfl) (Nat.le_of_ble_eq_true rfl) (⟨rfl, _, _, _, _, hS_7, hxx, by omega, r1, P1, by rw [e57n, e5]; exact hlo9, Nat.le_add_right _ _⟩)
        ·
          try simp only [mIn_0, lgc_lt, lgc_gt, lgc_le, lgc_ge, lgc_eq] at c_104
          try simp only [fl_lt, fl_le, fl_eq, fL_w, fL_lt, fL_le, tm1, tm10k, tm9, tm99, Int32.reduceToInt, Int64.reduceToInt, Int.not_lt, Int.not_le] at c_104
          refine gz_aload_n dX12_waitsOn_107 rfl rfl ?_
          refine gz_iload_n dX12_waitsOn_108 rfl rfl ?_
          refine scX12_413 (k_X12_chooser (x1 := (F 58 (Int32.toNatClampNeg x1))) hS a5 bA bW fw) hS.1 ⟨(Nat.le_of_ble_eq_true rfl), (Nat.le_of_ble_eq_true rfl)⟩ ⟨(Nat.le_of_ble_eq_true rfl), (Nat.le_of_ble_eq_true rfl)⟩ rfl rfl (Nat.le_of_ble_eq_true rfl) dX12_waitsOn_109 ?_
          rintro r_8 f9 ⟨-, y9⟩; rw [y9]
          refine gz_aload_n dX12_waitsOn_112 rfl rfl ?_
          refine mg_179 hS dX12_waitsOn_113 ?_
          refine gz_iload_n dX12_waitsOn_116 rfl rfl ?_
          refine m_lald 63 hS rfl (N := 80) rfl ((by exact vin_T (rfl : x1.toInt = x1.toInt) (by omega) (by omega))) dX12_waitsOn_117 ?_
          refine gz_lload dX12_waitsOn_118 rfl ?_
          refine scX12_470 (k_X12_better) ⟨(Nat.le_of_ble_eq_true rfl), (Nat.le_of_ble_eq_true rfl)⟩ ⟨(Nat.le_of_ble_eq_true rfl), (Nat.le_of_ble_eq_true rfl)⟩ rfl rfl (Nat.le_of_ble_eq_true rfl) dX12_waitsOn_120 ?_
          rintro r_b120 f9 ⟨-, y9⟩; rw [y9]
          refine gz_goto (tgt := 128) dX12_waitsOn_123 (by decide) ?_
          refine scX12_456 (k_X12_answers hS) hS.1 ⟨(Nat.le_of_ble_eq_true rfl), (Nat.le_of_ble_eq_true rfl)⟩ ⟨(Nat.le_of_ble_eq_true rfl), (Nat.le_of_ble_eq_true rfl)⟩ rfl rfl (Nat.le_of_ble_eq_true rfl) dX12_waitsOn_128 ?_
          rintro f_9 ⟨n_9, z_9, F_9, G_9, hS_9, hx9, g57_9⟩
          have hxx : fx [57] [67] [58, 59, 60, 62, 64] [61] n z F G n_9 z_9 F_9 G_9 := (fx_tr fx_rf hx9 (by decide))
          have hlo9 : FSt F_9 (n 5).toInt dd (Int32.toNatClampNeg x1) r1 P1 := FSt_cg (fun k hk => hxx.2.2.1 k ((by decide : ∀ k : Nat, k ∈ wK → k ∉ ([58, 59, 60, 62, 64] : List Nat)) k hk)) _ _ _ (fun i hi => by rw [(show F_9 58 = (F 58) from (hx9.2.2.1 58 (by decide)))]) (fun i hi => by rw [(show F_9 59 = (F 59) from (hx9.2.2.1 59 (by decide)))]) (fun i hi => by rw [(show F_9 60 = (F 60) from (hx9.2.2.1 60 (by decide)))]) (fun i hi => by rw [(show F_9 62 = (F 62) from (hx9.2.2.1 62 (by decide)))]) (fun i hi => by rw [(show F_9 66 = (F 66) from (hx9.2.2.1 66 (by decide)))]) hlo
          have e5 : n_9 5 = n 5 := hxx.1 5 (by decide)
          have e57 : (n_9 57).toInt = x1.toInt + 0 := (by (try rw [(show n_9 57 = ((n 57) - 1) from g57_9)]); have q1_ := (T_sub (rfl : ((n 57)).toInt = ((n 57)).toInt) (show (1 : Int32).toInt = 1 from rfl) (by omega)); omega)
          have e57n : (n_9 57).toInt.toNat = (Int32.toNatClampNeg x1) + 0 := by omega
          exact gz_vret rfl dX12_waitsOn_131 (Nat.le_of_ble_eq_true rfl) (Nat.le_of_ble_eq_true rfl) (⟨rfl, _, _, _, _, hS_9, hxx, by omega, r1, P1, by rw [e57n, e5]; exact hlo9, Nat.le_add_right _ _⟩)
      ·
        try simp only [mIn_0, lgc_lt, lgc_gt, lgc_le, lgc_ge, lgc_eq] at c_82
        try simp only [fl_lt, fl_le, fl_eq, fL_w, fL_lt, fL_le, tm1, tm10k, tm9, tm99, Int32.reduceToInt, Int64.reduceToInt, Int.not_lt, Int.not_le] at c_82
        refine gz_aload_n dX12_waitsOn_85 rfl rfl ?_
        refine mg_186 hS dX12_waitsOn_86 ?_
        refine gz_iload_n dX12_waitsOn_89 rfl rfl ?_
        refine m_lald 65 hS rfl (N := 80) rfl ((by exact vin_T (rfl : x1.toInt = x1.toInt) (by omega) (by omega))) dX12_waitsOn_90 ?_
        refine gz_goto (tgt := 95) dX12_waitsOn_91 (by decide) ?_
        refine gz_lstore (lv' := [(4, .long ((G 65) (Int32.toNatClampNeg x1))), (3, .int ((F 58) (Int32.toNatClampNeg x1))), (0, .ref m), (1, .int x1), (2, .int x2)]) dX12_waitsOn_95 (by decide) rfl ?_
        refine gz_aload_n dX12_waitsOn_97 rfl rfl ?_
        refine gz_aload_n dX12_waitsOn_98 rfl rfl ?_
        refine mg_182 hS dX12_waitsOn_99 ?_
        refine gz_iload_n dX12_waitsOn_102 rfl rfl ?_
        refine m_zald 64 hS rfl (N := 80) rfl ((by exact vin_T (rfl : x1.toInt = x1.toInt) (by omega) (by omega))) dX12_waitsOn_103 ?_
        refine gz_if_eq (tgt := 126) dX12_waitsOn_104 (by decide) (fun c_104 => ?_) (fun c_104 => ?_)
        ·
          try simp only [mIn_0, lgc_lt, lgc_gt, lgc_le, lgc_ge, lgc_eq] at c_104
          try simp only [fl_lt, fl_le, fl_eq, fL_w, fL_lt, fL_le, tm1, tm10k, tm9, tm99, Int32.reduceToInt, Int64.reduceToInt, Int.not_lt, Int.not_le] at c_104
          refine gz_lload dX12_waitsOn_126 rfl ?_
          refine scX12_456 (k_X12_answers hS) hS.1 ⟨(Nat.le_of_ble_eq_true rfl), (Nat.le_of_ble_eq_true rfl)⟩ ⟨(Nat.le_of_ble_eq_true rfl), (Nat.le_of_ble_eq_true rfl)⟩ rfl rfl (Nat.le_of_ble_eq_true rfl) dX12_waitsOn_128 ?_
          rintro f_10 ⟨n_10, z_10, F_10, G_10, hS_10, hx10, g57_10⟩
          have hxx : fx [57] [67] [58, 59, 60, 62, 64] [61] n z F G n_10 z_10 F_10 G_10 := (fx_tr fx_rf hx10 (by decide))
          have hlo9 : FSt F_10 (n 5).toInt dd (Int32.toNatClampNeg x1) r1 P1 := FSt_cg (fun k hk => hxx.2.2.1 k ((by decide : ∀ k : Nat, k ∈ wK → k ∉ ([58, 59, 60, 62, 64] : List Nat)) k hk)) _ _ _ (fun i hi => by rw [(show F_10 58 = (F 58) from (hx10.2.2.1 58 (by decide)))]) (fun i hi => by rw [(show F_10 59 = (F 59) from (hx10.2.2.1 59 (by decide)))]) (fun i hi => by rw [(show F_10 60 = (F 60) from (hx10.2.2.1 60 (by decide)))]) (fun i hi => by rw [(show F_10 62 = (F 62) from (hx10.2.2.1 62 (by decide)))]) (fun i hi => by rw [(show F_10 66 = (F 66) from (hx10.2.2.1 66 (by decide)))]) hlo
          have e5 : n_10 5 = n 5 := hxx.1 5 (by decide)
          have e57 : (n_10 57).toInt = x1.toInt + 0 := (by (try rw [(show n_10 57 = ((n 57) - 1) from g57_10)]); have q1_ := (T_sub (rfl : ((n 57)).toInt = ((n 57)).toInt) (show (1 : Int32).toInt = 1 from rfl) (by omega)); omega)
          have e57n : (n_10 57).toInt.toNat = (Int32.toNatClampNeg x1) + 0 := by omega
          exact gz_vret rfl dX12_waitsOn_131 (Nat.le_of_ble_eq_true rfl) (Nat.le_of_ble_eq_true rfl) (⟨rfl, _, _, _, _, hS_10, hxx, by omega, r1, P1, by rw [e57n, e5]; exact hlo9, Nat.le_add_right _ _⟩)
        ·
          try simp only [mIn_0, lgc_lt, lgc_gt, lgc_le, lgc_ge, lgc_eq] at c_104
          try simp only [fl_lt, fl_le, fl_eq, fL_w, fL_lt, fL_le, tm1, tm10k, tm9, tm99, Int32.reduceToInt, Int64.reduceToInt, Int.not_lt, Int.not_le] at c_104
          refine gz_aload_n dX12_waitsOn_107 rfl rfl ?_
          refine gz_iload_n dX12_waitsOn_108 rfl rfl ?_
          refine scX12_413 (k_X12_chooser (x1 := (F 58 (Int32.toNatClampNeg x1))) hS a5 bA bW fw) hS.1 ⟨(Nat.le_of_ble_eq_true rfl), (Nat.le_of_ble_eq_true rfl)⟩ ⟨(Nat.le_of_ble_eq_true rfl), (Nat.le_of_ble_eq_true rfl)⟩ rfl rfl (Nat.le_of_ble_eq_true rfl) dX12_waitsOn_109 ?_
          rintro r_11 f9 ⟨-, y9⟩; rw [y9]
          refine gz_aload_n dX12_waitsOn_112 rfl rfl ?_
          refine mg_179 hS dX12_waitsOn_113 ?_
          refine gz_iload_n dX12_waitsOn_116 rfl rfl ?_
          refine m_lald 63 hS rfl (N := 80) rfl ((by exact vin_T (rfl : x1.toInt = x1.toInt) (by omega) (by omega))) dX12_waitsOn_117 ?_
          refine gz_lload dX12_waitsOn_118 rfl ?_
          refine scX12_470 (k_X12_better) ⟨(Nat.le_of_ble_eq_true rfl), (Nat.le_of_ble_eq_true rfl)⟩ ⟨(Nat.le_of_ble_eq_true rfl), (Nat.le_of_ble_eq_true rfl)⟩ rfl rfl (Nat.le_of_ble_eq_true rfl) dX12_waitsOn_120 ?_
          rintro r_b120 f9 ⟨-, y9⟩; rw [y9]
          refine gz_goto (tgt := 128) dX12_waitsOn_123 (by decide) ?_
          refine scX12_456 (k_X12_answers hS) hS.1 ⟨(Nat.le_of_ble_eq_true rfl), (Nat.le_of_ble_eq_true rfl)⟩ ⟨(Nat.le_of_ble_eq_true rfl), (Nat.le_of_ble_eq_true rfl)⟩ rfl rfl (Nat.le_of_ble_eq_true rfl) dX12_waitsOn_128 ?_
          rintro f_12 ⟨n_12, z_12, F_12, G_12, hS_12, hx12, g57_12⟩
          have hxx : fx [57] [67] [58, 59, 60, 62, 64] [61] n z F G n_12 z_12 F_12 G_12 := (fx_tr fx_rf hx12 (by decide))
          have hlo9 : FSt F_12 (n 5).toInt dd (Int32.toNatClampNeg x1) r1 P1 := FSt_cg (fun k hk => hxx.2.2.1 k ((by decide : ∀ k : Nat, k ∈ wK → k ∉ ([58, 59, 60, 62, 64] : List Nat)) k hk)) _ _ _ (fun i hi => by rw [(show F_12 58 = (F 58) from (hx12.2.2.1 58 (by decide)))]) (fun i hi => by rw [(show F_12 59 = (F 59) from (hx12.2.2.1 59 (by decide)))]) (fun i hi => by rw [(show F_12 60 = (F 60) from (hx12.2.2.1 60 (by decide)))]) (fun i hi => by rw [(show F_12 62 = (F 62) from (hx12.2.2.1 62 (by decide)))]) (fun i hi => by rw [(show F_12 66 = (F 66) from (hx12.2.2.1 66 (by decide)))]) hlo
          have e5 : n_12 5 = n 5 := hxx.1 5 (by decide)
          have e57 : (n_12 57).toInt = x1.toInt + 0 := (by (try rw [(show n_12 57 = ((n 57) - 1) from g57_12)]); have q1_ := (T_sub (rfl : ((n 57)).toInt = ((n 57)).toInt) (show (1 : Int32).toInt = 1 from rfl) (by omega)); omega)
          have e57n : (n_12 57).toInt.toNat = (Int32.toNatClampNeg x1) + 0 := by omega
          exact gz_vret rfl dX12_waitsOn_131 (Nat.le_of_ble_eq_true rfl) (Nat.le_of_ble_eq_true rfl) (⟨rfl, _, _, _, _, hS_12, hxx, by omega, r1, P1, by rw [e57n, e5]; exact hlo9, Nat.le_add_right _ _⟩)
    ·
      try simp only [mIn_0, lgc_lt, lgc_gt, lgc_le, lgc_ge, lgc_eq] at c_27
      try simp only [fl_lt, fl_le, fl_eq, fL_w, fL_lt, fL_le, tm1, tm10k, tm9, tm99, Int32.reduceToInt, Int64.reduceToInt, Int.not_lt, Int.not_le] at c_27
      refine gz_aload_n dX12_waitsOn_30 rfl rfl ?_
      refine mg_176 hS dX12_waitsOn_31 ?_
      refine gz_iload_n dX12_waitsOn_34 rfl rfl ?_
      refine gz_iconst (v := 4) dX12_waitsOn_35 (by decide) ?_
      refine m_iast 62 hS rfl (N := 80) rfl ((by exact vin_T (rfl : x1.toInt = x1.toInt) (by omega) (by omega))) dX12_waitsOn_36 (fun f_13 hS_13q => ?_)
      have hS_13 : mS cy m a f0 n z (va_up F 62 (upd (F 62) (Int32.toNatClampNeg x1) 4)) G f_13 := hS_13q
      refine gz_aload_n dX12_waitsOn_37 rfl rfl ?_
      refine gz_iload_n dX12_waitsOn_38 rfl rfl ?_
      refine gz_aload_n dX12_waitsOn_39 rfl rfl ?_
      refine mg_167 hS_13 dX12_waitsOn_40 ?_
      refine gz_iload_n dX12_waitsOn_43 rfl rfl ?_
      refine m_iald 59 hS_13 rfl (N := 80) rfl ((by exact vin_T (rfl : x1.toInt = x1.toInt) (by omega) (by omega))) dX12_waitsOn_44 ?_
      refine gz_ev (w := .int ((F 59) (Int32.toNatClampNeg x1))) rfl ?_
      refine gz_iconst (v := 1) dX12_waitsOn_45 (by decide) ?_
      refine gz_iadd dX12_waitsOn_46 ?_
      refine gz_aload_n dX12_waitsOn_47 rfl rfl ?_
      refine mg_170 hS_13 dX12_waitsOn_48 ?_
      refine gz_iload_n dX12_waitsOn_51 rfl rfl ?_
      refine m_iald 60 hS_13 rfl (N := 80) rfl ((by exact vin_T (rfl : x1.toInt = x1.toInt) (by omega) (by omega))) dX12_waitsOn_52 ?_
      refine gz_ev (w := .int ((F 60) (Int32.toNatClampNeg x1))) rfl ?_
      refine gz_aload_n dX12_waitsOn_53 rfl rfl ?_
      refine mg_151 hS_13 dX12_waitsOn_54 ?_
      refine gz_ev (w := .int (n 53)) rfl ?_
      refine gz_imul dX12_waitsOn_57 ?_
      refine gz_aload_n dX12_waitsOn_58 rfl rfl ?_
      refine mg_189 hS_13 dX12_waitsOn_59 ?_
      refine gz_iload_n dX12_waitsOn_62 rfl rfl ?_
      refine m_iald 66 hS_13 rfl (N := 80) rfl ((by exact vin_T (rfl : x1.toInt = x1.toInt) (by omega) (by omega))) dX12_waitsOn_63 ?_
      refine gz_ev (w := .int ((F 66) (Int32.toNatClampNeg x1))) rfl ?_
      refine gz_iadd dX12_waitsOn_64 ?_
      refine gz_aload_n dX12_waitsOn_65 rfl rfl ?_
      refine mg_173 hS_13 dX12_waitsOn_66 ?_
      refine gz_iload_n dX12_waitsOn_69 rfl rfl ?_
      refine m_lald 61 hS_13 rfl (N := 80) rfl ((by exact vin_T (rfl : x1.toInt = x1.toInt) (by omega) (by omega))) dX12_waitsOn_70 ?_
      refine gz_ev (w := .long ((G 61) (Int32.toNatClampNeg x1))) rfl ?_
      have qd : ((F 59 (Int32.toNatClampNeg x1)) + 1).toInt = (F 59 (Int32.toNatClampNeg x1)).toInt + 1 := T_add rfl (show (1 : Int32).toInt = 1 from rfl) (by omega)
      have qm := mul_sm (x := (F 60 (Int32.toNatClampNeg x1))) (y := n 53) (by omega) a53
      have qx : ((F 60 (Int32.toNatClampNeg x1)) * (n 53) + (F 66 (Int32.toNatClampNeg x1))).toInt = (F 60 (Int32.toNatClampNeg x1)).toInt * (n 53).toInt + (F 66 (Int32.toNatClampNeg x1)).toInt := T_add qm.1 rfl (by omega)
      have ql := wld3 (b := (n 53).toInt) (wd := (F 60 (Int32.toNatClampNeg x1)).toInt) (x := (F 66 (Int32.toNatClampNeg x1)).toInt) (d := (F 59 (Int32.toNatClampNeg x1)).toInt.toNat) a53 fo (by omega)
      refine scX12_466 (k_X12_pushes (x1 := ((F 58) (Int32.toNatClampNeg x1))) (x2 := (((F 59) (Int32.toNatClampNeg x1)) + 1)) (x3 := ((((F 60) (Int32.toNatClampNeg x1)) * (n 53)) + ((F 66) (Int32.toNatClampNeg x1)))) hS_13 (by omega)) hS_13.1 ⟨(Nat.le_of_ble_eq_true rfl), (Nat.le_of_ble_eq_true rfl)⟩ ⟨(Nat.le_of_ble_eq_true rfl), (Nat.le_of_ble_eq_true rfl)⟩ rfl rfl (Nat.le_of_ble_eq_true rfl) dX12_waitsOn_71 ?_
      rintro f_14 ⟨n_14, z_14, F_14, G_14, hS_14, hx14, g57_14, g58_14, g59_14, g60_14, g62_14⟩
      have hxx : fx [57] [67] [58, 59, 60, 62, 64] [61] n z F G n_14 z_14 F_14 G_14 := (fx_tr (fx_F fx_rf (by decide)) hx14 (by decide))
      have hlo9 : FSt F_14 (n 5).toInt dd (Int32.toNatClampNeg x1) r1 P1 := FSt_cg (fun k hk => hxx.2.2.1 k ((by decide : ∀ k : Nat, k ∈ wK → k ∉ ([58, 59, 60, 62, 64] : List Nat)) k hk)) _ _ _ (fun i hi => by rw [(show F_14 58 = (upd (F 58) (Int32.toNatClampNeg (n 57)) ((F 58) (Int32.toNatClampNeg x1))) from g58_14)]; rw [updE, if_neg (by omega)]) (fun i hi => by rw [(show F_14 59 = (upd (F 59) (Int32.toNatClampNeg (n 57)) (((F 59) (Int32.toNatClampNeg x1)) + 1)) from g59_14)]; rw [updE, if_neg (by omega)]) (fun i hi => by rw [(show F_14 60 = (upd (F 60) (Int32.toNatClampNeg (n 57)) ((((F 60) (Int32.toNatClampNeg x1)) * (n 53)) + ((F 66) (Int32.toNatClampNeg x1)))) from g60_14)]; rw [updE, if_neg (by omega)]) (fun i hi => by rw [(show F_14 62 = (upd (upd (F 62) (Int32.toNatClampNeg x1) 4) (Int32.toNatClampNeg (n 57)) 0) from g62_14)]; rw [updE, if_neg (by omega)]; rw [updE, if_neg (by omega)]) (fun i hi => by rw [(show F_14 66 = (F 66) from (hx14.2.2.1 66 (by decide)))]) hlo
      have e5 : n_14 5 = n 5 := hxx.1 5 (by decide)
      have e57 : (n_14 57).toInt = x1.toInt + 2 := (by (try rw [(show n_14 57 = ((n 57) + 1) from g57_14)]); have q1_ := (T_add (rfl : ((n 57)).toInt = ((n 57)).toInt) (show (1 : Int32).toInt = 1 from rfl) (by omega)); omega)
      have e57n : (n_14 57).toInt.toNat = (Int32.toNatClampNeg x1) + 2 := by omega
      have vhta58 : F_14 58 (Int32.toNatClampNeg x1) = (F 58 (Int32.toNatClampNeg x1)) := (by rw [(show F_14 58 = (upd (F 58) (Int32.toNatClampNeg (n 57)) ((F 58) (Int32.toNatClampNeg x1))) from g58_14)]; rw [updE, if_neg (by omega)])
      have vhta59 : F_14 59 (Int32.toNatClampNeg x1) = (F 59 (Int32.toNatClampNeg x1)) := (by rw [(show F_14 59 = (upd (F 59) (Int32.toNatClampNeg (n 57)) (((F 59) (Int32.toNatClampNeg x1)) + 1)) from g59_14)]; rw [updE, if_neg (by omega)])
      have vhta60 : F_14 60 (Int32.toNatClampNeg x1) = (F 60 (Int32.toNatClampNeg x1)) := (by rw [(show F_14 60 = (upd (F 60) (Int32.toNatClampNeg (n 57)) ((((F 60) (Int32.toNatClampNeg x1)) * (n 53)) + ((F 66) (Int32.toNatClampNeg x1)))) from g60_14)]; rw [updE, if_neg (by omega)])
      have vhta62 : F_14 62 (Int32.toNatClampNeg x1) = 4 := (by rw [(show F_14 62 = (upd (upd (F 62) (Int32.toNatClampNeg x1) 4) (Int32.toNatClampNeg (n 57)) 0) from g62_14)]; rw [updE, if_neg (by omega)]; rw [updE, if_pos rfl])
      have vhta66 : F_14 66 (Int32.toNatClampNeg x1) = (F 66 (Int32.toNatClampNeg x1)) := (by rw [(show F_14 66 = (F 66) from (hx14.2.2.1 66 (by decide)))])
      have hta : frV F (n 5).toInt dd (F_14 58 (Int32.toNatClampNeg x1)) (F_14 59 (Int32.toNatClampNeg x1)) (F_14 60 (Int32.toNatClampNeg x1)) (F_14 62 (Int32.toNatClampNeg x1)) (F_14 66 (Int32.toNatClampNeg x1)) r ((2 - (F 66 (Int32.toNatClampNeg x1)).toInt.toNat) * (cR (r - 1) + 1) + 1) := by rw [vhta58, vhta59, vhta60, vhta62, vhta66]; exact ⟨fw, fd, fo, fr_, Or.inr (Or.inr (Or.inr (Or.inr ⟨rfl, by omega, rfl⟩)))⟩
      have hs1 : FSt F_14 (n 5).toInt dd ((Int32.toNatClampNeg x1) + 1) r (P1 + ((2 - (F 66 (Int32.toNatClampNeg x1)).toInt.toNat) * (cR (r - 1) + 1) + 1)) := ⟨r1, P1, ((2 - (F 66 (Int32.toNatClampNeg x1)).toInt.toNat) * (cR (r - 1) + 1) + 1), hlo9, by omega, frV_w (fun k hk => hxx.2.2.1 k ((by decide : ∀ k : Nat, k ∈ wK → k ∉ ([58, 59, 60, 62, 64] : List Nat)) k hk)) hta, rfl⟩
      have qn1 : (Int32.toNatClampNeg (n 57)) = (Int32.toNatClampNeg x1) + 1 := by omega
      have vhtb58 : F_14 58 (Int32.toNatClampNeg (n 57)) = ((F 58) (Int32.toNatClampNeg x1)) := (by rw [(show F_14 58 = (upd (F 58) (Int32.toNatClampNeg (n 57)) ((F 58) (Int32.toNatClampNeg x1))) from g58_14)]; rw [updE, if_pos rfl])
      have vhtb59 : F_14 59 (Int32.toNatClampNeg (n 57)) = (((F 59) (Int32.toNatClampNeg x1)) + 1) := (by rw [(show F_14 59 = (upd (F 59) (Int32.toNatClampNeg (n 57)) (((F 59) (Int32.toNatClampNeg x1)) + 1)) from g59_14)]; rw [updE, if_pos rfl])
      have vhtb60 : F_14 60 (Int32.toNatClampNeg (n 57)) = ((((F 60) (Int32.toNatClampNeg x1)) * (n 53)) + ((F 66) (Int32.toNatClampNeg x1))) := (by rw [(show F_14 60 = (upd (F 60) (Int32.toNatClampNeg (n 57)) ((((F 60) (Int32.toNatClampNeg x1)) * (n 53)) + ((F 66) (Int32.toNatClampNeg x1)))) from g60_14)]; rw [updE, if_pos rfl])
      have vhtb62 : F_14 62 (Int32.toNatClampNeg (n 57)) = 0 := (by rw [(show F_14 62 = (upd (upd (F 62) (Int32.toNatClampNeg x1) 4) (Int32.toNatClampNeg (n 57)) 0) from g62_14)]; rw [updE, if_pos rfl])
      have vhtb66 : F_14 66 (Int32.toNatClampNeg (n 57)) = (F 66 (Int32.toNatClampNeg (n 57))) := (by rw [(show F_14 66 = (F 66) from (hx14.2.2.1 66 (by decide)))])
      have htb : frV F (n 5).toInt dd (F_14 58 (Int32.toNatClampNeg (n 57))) (F_14 59 (Int32.toNatClampNeg (n 57))) (F_14 60 (Int32.toNatClampNeg (n 57))) (F_14 62 (Int32.toNatClampNeg (n 57))) (F_14 66 (Int32.toNatClampNeg (n 57))) (r - 1) (cR (r - 1)) := by rw [vhtb58, vhtb59, vhtb60, vhtb62, vhtb66]; exact ⟨fw, by omega, (by rw [qx, show ((F 59 (Int32.toNatClampNeg x1)) + 1).toInt.toNat = (F 59 (Int32.toNatClampNeg x1)).toInt.toNat + 1 by omega]; exact ql), by omega, Or.inl ⟨rfl, rfl⟩⟩
      rw [qn1] at htb
      have hs2 : FSt F_14 (n 5).toInt dd ((Int32.toNatClampNeg x1) + 1 + 1) (r - 1) (P1 + ((2 - (F 66 (Int32.toNatClampNeg x1)).toInt.toNat) * (cR (r - 1) + 1) + 1) + (cR (r - 1))) := ⟨_, _, (cR (r - 1)), hs1, by omega, frV_w (fun k hk => hxx.2.2.1 k ((by decide : ∀ k : Nat, k ∈ wK → k ∉ ([58, 59, 60, 62, 64] : List Nat)) k hk)) htb, rfl⟩
      exact gz_vret rfl dX12_waitsOn_74 (Nat.le_of_ble_eq_true rfl) (Nat.le_of_ble_eq_true rfl) (⟨rfl, _, _, _, _, hS_14, hxx, by omega, (r - 1), _, by rw [e57n, e5]; exact hs2, (by have z1 : (3 - (F 66 (Int32.toNatClampNeg x1)).toInt.toNat) * (cR (r - 1) + 1) = (2 - (F 66 (Int32.toNatClampNeg x1)).toInt.toNat) * (cR (r - 1) + 1) + (cR (r - 1) + 1) := (by rw [show 3 - (F 66 (Int32.toNatClampNeg x1)).toInt.toNat = (2 - (F 66 (Int32.toNatClampNeg x1)).toInt.toNat) + 1 by omega, Nat.add_mul, Nat.one_mul]); omega)⟩)
