/-! the reference: frames of worth -/
/-- a frame: its WORD, factor, DAY, WORLD -/
def fD (T : List Hd) (E : We) (fo : Nat) (F : Nat → Nat → Int32) (G : Nat → Nat → Int64) (t wN : Nat) (fN : Int) (d wo : Nat) : Prop := ((F 58 t).toInt = 40 * (fo : Int) + (wN : Int) ∧ wN < T.length) ∧ ((F 59 t).toInt = (d : Int) ∧ d ≤ E.2.2.2.2.2) ∧ (F 60 t).toInt = (wo : Int) ∧ ((G 61 t).toInt = fN ∧ -1000000 ≤ fN ∧ fN ≤ 1000000)
/-- what a frame that WAITS may take instead -/
def tkF (T : List Hd) (E : We) (S : Sn) (tk : Int32) (has : Int64) (wN : Nat) (fN : Int) (d : Nat) : Prop := ((grH T wN).1 = 7 ∧ hlB S (grH T wN) = true ∧ tk.toInt = 1 ∧ has = vl T E (nxT T S wN) (psT S (grH T wN) fN) d S) ∨ (((grH T wN).1 = 6 ∨ (grH T wN).1 = 7) ∧ hlB S (grH T wN) = false ∧ tk.toInt = 0)
def loW (T : List Hd) (E : We) (S : Sn) (wN : Nat) (fN : Int) (d : Nat) : Nat → Int64 := fun y => vl T E wN fN (d + 1) (goS E S y)
/-- a frame that waits for the answer V -/
def sfW (T : List Hd) (E : We) (S : Sn) (at_ tk wy : Int32) (has wa : Int64) (wN : Nat) (fN : Int) (d : Nat) (V : Int64) : Prop := (at_.toInt = 1 ∧ tk.toInt = 0 ∧ ((grH T wN).1 = 3 ∨ (grH T wN).1 = 4 ∨ ((grH T wN).1 = 7 ∧ hlB S (grH T wN) = true)) ∧ V = vl T E (wN + 1) fN d S) ∨ (at_.toInt = 2 ∧ ((grH T wN).1 = 3 ∨ (grH T wN).1 = 4) ∧ has = vl T E (wN + 1) fN d S ∧ V = vl T E (grS T wN) fN d S) ∨ (at_.toInt = 4 ∧ d < E.2.2.2.2.2 ∧ (∃ y : Nat, wy.toInt = (y : Int) ∧ y < E.2.2.1 ∧ wa = foW E.2.2.2.2.1 E.2.1 (loW T E S wN fN d) y ∧ V = loW T E S wN fN d y) ∧ tkF T E S tk has wN fN d)
def KS (T : List Hd) (E : We) (S0 : Sn) (fo : Nat) (VF : Int64) (F : Nat → Nat → Int32) (G : Nat → Nat → Int64) : Nat → Int64 → Prop
  | 0, V => V = VF
  | t + 1, V => ∃ (wN : Nat) (fN : Int) (d wo : Nat), fD T E fo F G t wN fN d wo ∧ lpT T (wSc E S0 d wo) wN = false ∧ KS T E S0 fo VF F G t (vl T E wN fN d (wSc E S0 d wo)) ∧ sfW T E (wSc E S0 d wo) (F 62 t) (F 64 t) (F 66 t) (G 63 t) (G 65 t) wN fN d V
theorem KS_cg {T : List Hd} {E : We} {S0 : Sn} {fo : Nat} {VF : Int64} {F F2 : Nat → Nat → Int32} {G G2 : Nat → Nat → Int64} : ∀ {t : Nat} {V : Int64}, (∀ k, k ∈ [58, 59, 60, 62, 64, 66] → ∀ i, i < t → F2 k i = F k i) → (∀ k, k ∈ [61, 63, 65] → ∀ i, i < t → G2 k i = G k i) → KS T E S0 fo VF F G t V → KS T E S0 fo VF F2 G2 t V := by
  intro t
  induction t with
  | zero => intro V _ _ h; exact h
  | succ t ih =>
    intro V hF hG h
    obtain ⟨wN, fN, d, wo, h1, h2, h3, h4⟩ := h
    refine ⟨wN, fN, d, wo, ?_, h2, ih (fun k hk i hi => hF k hk i (by omega)) (fun k hk i hi => hG k hk i (by omega)) h3, ?_⟩
    · unfold fD at *
      rw [hF 58 (by decide) t (by omega), hF 59 (by decide) t (by omega), hF 60 (by decide) t (by omega), hG 61 (by decide) t (by omega)]; exact h1
    · rw [hF 62 (by decide) t (by omega), hF 64 (by decide) t (by omega), hF 66 (by decide) t (by omega), hG 63 (by decide) t (by omega), hG 65 (by decide) t (by omega)]; exact h4
/-- where worth is -/
def WI (T : List Hd) (E : We) (S0 : Sn) (fo : Nat) (VF : Int64) (F : Nat → Nat → Int32) (G : Nat → Nat → Int64) (N : Nat) (ans : Int64) : Prop := KS T E S0 fo VF F G N ans ∨ ∃ (t wN : Nat) (fN : Int) (d wo : Nat), N = t + 1 ∧ KS T E S0 fo VF F G t (vl T E wN fN d (wSc E S0 d wo)) ∧ fD T E fo F G t wN fN d wo ∧ (((F 62 t).toInt = 0 ∧ (F 64 t).toInt = 0) ∨ ((F 62 t).toInt = 3 ∧ lpT T (wSc E S0 d wo) wN = false ∧ tkF T E (wSc E S0 d wo) (F 64 t) (G 63 t) wN fN d))
def atI (at_ kx wy : Int32) (p r : Nat) : Prop := (0 ≤ at_.toInt ∧ at_.toInt ≤ 4) ∧ (at_.toInt = 1 → (kx.toInt = 3 ∨ kx.toInt = 4 ∨ kx.toInt = 7) ∧ p = 3 * cR (r - 1) + 5) ∧ (at_.toInt = 2 → p = 1) ∧ (at_.toInt = 3 → p = 3 * cR (r - 1) + 4) ∧ (at_.toInt = 4 → (0 ≤ wy.toInt ∧ wy.toInt ≤ 2) ∧ p = (2 - wy.toInt.toNat) * (cR (r - 1) + 1) + 1)
theorem nx_7 {T : List Hd} {S : Sn} {w : Nat} {f : Int} (hk : (grH T w).1 ≠ 2 ∧ (grH T w).1 ≠ 5 ∧ (grH T w).1 ≠ 9) : nxT T S w = w + 1 ∧ psT S (grH T w) f = f := by
  unfold nxT psT
  exact ⟨by rw [if_neg (fun z => hk.2.1 z.1)], by rw [if_neg hk.1, if_neg hk.2.2]⟩
theorem tk_0 {T : List Hd} {E : We} (hok : okT T 1) (hv : hvT T) (h4 : T.length ≤ 40) {w : Nat} {f : Int} {d : Nat} {S : Sn} (hw : w < T.length) (hd : d ≤ E.2.2.2.2.2) {tk : Int32} {has : Int64} (h : tkF T E S tk has w f d) (hl : lpT T S w = false) (c : tk.toInt = 0) : vl T E w f d S = wl T E w f d S := by
  rcases h with ⟨_, _, z, _⟩ | ⟨z1, z2, _⟩
  · omega
  · exact vl_w hok hv h4 hw hd hl z1 z2
theorem tk_1 {T : List Hd} {E : We} (hok : okT T 1) (hv : hvT T) (h4 : T.length ≤ 40) {w : Nat} {f : Int} {d : Nat} {S : Sn} (hw : w < T.length) (hd : d ≤ E.2.2.2.2.2) {tk : Int32} {has : Int64} (h : tkF T E S tk has w f d) (hl : lpT T S w = false) (c : ¬ tk.toInt = 0) : vl T E w f d S = btT (sdT T w) has (wl T E w f d S) := by
  rcases h with ⟨z1, z2, _, z4⟩ | ⟨_, _, z⟩
  · rw [vl_7 hok hv h4 hw hd hl z1 z2, btT_c, z4]
  · omega
theorem wl_y {T : List Hd} {E : We} {w : Nat} {f : Int} {d : Nat} {S : Sn} {y : Nat} {wa : Int64} (hd : d < E.2.2.2.2.2) (hy : y = E.2.2.1) (h : wa = foW E.2.2.2.2.1 E.2.1 (loW T E S w f d) y) : wa = wl T E w f d S := by
  unfold wl
  rw [if_pos hd, h, hy]; rfl
theorem wl_n {T : List Hd} {E : We} {w : Nat} {f : Int} {d : Nat} {S : Sn} (hd : ¬ d < E.2.2.2.2.2) : (0 : Int64) = wl T E w f d S := by
  unfold wl
  rw [if_neg hd]

set_option maxHeartbeats 4000000 in
set_option maxRecDepth 100000 in
theorem k_X12_pushesE {l : Launch} {D : va_G} {cy : Nat → ClassId} {b : Nat} {f : gMem} {m : Nat} {a : Nat → Nat} {f0 : gMem} {n : Nat → Int32} {z : Nat → Int64} {F : Nat → Nat → Int32} {G : Nat → Nat → Int64}  {x1 x2 x3 : Int32} {y : Int64} (hS : mS cy m a f0 n z F G f) (h57 : 0 ≤ (n 57).toInt ∧ (n 57).toInt < 80) : gC l D cy b yX12_pushes cX12_pushes 6 none 0 0 0 [.ref m, .int x1, .int x2, .int x3, .long y] f (pV fun f2 => ∃ (n2 : Nat → Int32) (z2 : Nat → Int64) (F2 : Nat → Nat → Int32) (G2 : Nat → Nat → Int64), mS cy m a f0 n2 z2 F2 G2 f2 ∧ fx [57] [] [58, 59, 60, 62, 64] [61] n z F G n2 z2 F2 G2 ∧ n2 57 = n 57 + 1 ∧ F2 58 = upd (F 58) (Int32.toNatClampNeg (n 57)) x1 ∧ F2 59 = upd (F 59) (Int32.toNatClampNeg (n 57)) x2 ∧ F2 60 = upd (F 60) (Int32.toNatClampNeg (n 57)) x3 ∧ G2 61 = vp_updL (G 61) (Int32.toNatClampNeg (n 57)) y ∧ F2 62 = upd (F 62) (Int32.toNatClampNeg (n 57)) 0 ∧ F2 64 = upd (F 64) (Int32.toNatClampNeg (n 57)) 0) := by
  refine gC_of (by decide) (Nat.le_of_ble_eq_true rfl) ?_
  show gG l _ _ _ D cy b cX12_pushes 6 _ RX12 "pushes" 0 0 f 0 [(0, .ref m), (1, .int x1), (2, .int x2), (3, .int x3), (4, .long y)] []
  refine gz_aload_n dX12_pushes_0 rfl rfl ?_
  refine mg_164 hS dX12_pushes_1 ?_
  refine gz_aload_n dX12_pushes_4 rfl rfl ?_
  refine mg_447 hS dX12_pushes_5 ?_
  refine gz_iload_n dX12_pushes_8 rfl rfl ?_
  refine m_iast 58 hS rfl (N := 80) rfl ((by exact vin_T (rfl : ((n 57)).toInt = ((n 57)).toInt) (by omega) (by omega))) dX12_pushes_9 (fun f_1 hS_1q => ?_)
  have hS_1 : mS cy m a f0 n z (va_up F 58 (upd (F 58) (Int32.toNatClampNeg (n 57)) x1)) G f_1 := hS_1q
  refine gz_aload_n dX12_pushes_10 rfl rfl ?_
  refine mg_167 hS_1 dX12_pushes_11 ?_
  refine gz_aload_n dX12_pushes_14 rfl rfl ?_
  refine mg_447 hS_1 dX12_pushes_15 ?_
  refine gz_ev (w := .int (n 57)) rfl ?_
  refine gz_iload_n dX12_pushes_18 rfl rfl ?_
  refine m_iast 59 hS_1 rfl (N := 80) rfl ((by exact vin_T (rfl : ((n 57)).toInt = ((n 57)).toInt) (by omega) (by omega))) dX12_pushes_19 (fun f_2 hS_2q => ?_)
  have hS_2 : mS cy m a f0 n z (va_up (va_up F 58 (upd (F 58) (Int32.toNatClampNeg (n 57)) x1)) 59 (upd (F 59) (Int32.toNatClampNeg (n 57)) x2)) G f_2 := hS_2q
  refine gz_aload_n dX12_pushes_20 rfl rfl ?_
  refine mg_170 hS_2 dX12_pushes_21 ?_
  refine gz_aload_n dX12_pushes_24 rfl rfl ?_
  refine mg_447 hS_2 dX12_pushes_25 ?_
  refine gz_ev (w := .int (n 57)) rfl ?_
  refine gz_iload_n dX12_pushes_28 rfl rfl ?_
  refine m_iast 60 hS_2 rfl (N := 80) rfl ((by exact vin_T (rfl : ((n 57)).toInt = ((n 57)).toInt) (by omega) (by omega))) dX12_pushes_29 (fun f_3 hS_3q => ?_)
  have hS_3 : mS cy m a f0 n z (va_up (va_up (va_up F 58 (upd (F 58) (Int32.toNatClampNeg (n 57)) x1)) 59 (upd (F 59) (Int32.toNatClampNeg (n 57)) x2)) 60 (upd (F 60) (Int32.toNatClampNeg (n 57)) x3)) G f_3 := hS_3q
  refine gz_aload_n dX12_pushes_30 rfl rfl ?_
  refine mg_173 hS_3 dX12_pushes_31 ?_
  refine gz_aload_n dX12_pushes_34 rfl rfl ?_
  refine mg_447 hS_3 dX12_pushes_35 ?_
  refine gz_ev (w := .int (n 57)) rfl ?_
  refine gz_lload dX12_pushes_38 rfl ?_
  refine m_last 61 hS_3 rfl (N := 80) rfl ((by exact vin_T (rfl : ((n 57)).toInt = ((n 57)).toInt) (by omega) (by omega))) dX12_pushes_40 (fun f_4 hS_4q => ?_)
  have hS_4 : mS cy m a f0 n z (va_up (va_up (va_up F 58 (upd (F 58) (Int32.toNatClampNeg (n 57)) x1)) 59 (upd (F 59) (Int32.toNatClampNeg (n 57)) x2)) 60 (upd (F 60) (Int32.toNatClampNeg (n 57)) x3)) (va_up G 61 (vp_updL (G 61) (Int32.toNatClampNeg (n 57)) y)) f_4 := hS_4q
  refine gz_aload_n dX12_pushes_41 rfl rfl ?_
  refine mg_176 hS_4 dX12_pushes_42 ?_
  refine gz_aload_n dX12_pushes_45 rfl rfl ?_
  refine mg_447 hS_4 dX12_pushes_46 ?_
  refine gz_ev (w := .int (n 57)) rfl ?_
  refine gz_iconst (v := 0) dX12_pushes_49 (by decide) ?_
  refine m_iast 62 hS_4 rfl (N := 80) rfl ((by exact vin_T (rfl : ((n 57)).toInt = ((n 57)).toInt) (by omega) (by omega))) dX12_pushes_50 (fun f_5 hS_5q => ?_)
  have hS_5 : mS cy m a f0 n z (va_up (va_up (va_up (va_up F 58 (upd (F 58) (Int32.toNatClampNeg (n 57)) x1)) 59 (upd (F 59) (Int32.toNatClampNeg (n 57)) x2)) 60 (upd (F 60) (Int32.toNatClampNeg (n 57)) x3)) 62 (upd (F 62) (Int32.toNatClampNeg (n 57)) 0)) (va_up G 61 (vp_updL (G 61) (Int32.toNatClampNeg (n 57)) y)) f_5 := hS_5q
  refine gz_aload_n dX12_pushes_51 rfl rfl ?_
  refine mg_182 hS_5 dX12_pushes_52 ?_
  refine gz_aload_n dX12_pushes_55 rfl rfl ?_
  refine mg_447 hS_5 dX12_pushes_56 ?_
  refine gz_ev (w := .int (n 57)) rfl ?_
  refine gz_iconst (v := 0) dX12_pushes_59 (by decide) ?_
  refine m_zast 64 hS_5 rfl (N := 80) rfl ((by exact vin_T (rfl : ((n 57)).toInt = ((n 57)).toInt) (by omega) (by omega))) dX12_pushes_60 (fun f_6 hS_6q => ?_)
  have hS_6 : mS cy m a f0 n z (va_up (va_up (va_up (va_up (va_up F 58 (upd (F 58) (Int32.toNatClampNeg (n 57)) x1)) 59 (upd (F 59) (Int32.toNatClampNeg (n 57)) x2)) 60 (upd (F 60) (Int32.toNatClampNeg (n 57)) x3)) 62 (upd (F 62) (Int32.toNatClampNeg (n 57)) 0)) 64 (upd (F 64) (Int32.toNatClampNeg (n 57)) (vp_nar .boolean 0))) (va_up G 61 (vp_updL (G 61) (Int32.toNatClampNeg (n 57)) y)) f_6 := hS_6q
  refine gz_aload_n dX12_pushes_61 rfl rfl ?_
  refine gz_dup dX12_pushes_62 rfl ?_
  refine mg_447 hS_6 dX12_pushes_63 ?_
  refine gz_ev (w := .int (n 57)) rfl ?_
  refine gz_iconst (v := 1) dX12_pushes_66 (by decide) ?_
  refine gz_iadd dX12_pushes_67 ?_
  refine mp_447 hS_6 dX12_pushes_68 (fun f_7 hS_7 => ?_)
  exact gz_vret rfl dX12_pushes_71 (Nat.le_of_ble_eq_true rfl) (Nat.le_of_ble_eq_true rfl) (⟨rfl, _, _, _, _, hS_7, (fx_n (fx_F (fx_F (fx_G (fx_F (fx_F (fx_F fx_rf (by decide)) (by decide)) (by decide)) (by decide)) (by decide)) (by decide)) (by decide)), rfl, rfl, rfl, rfl, rfl, rfl, rfl⟩)

set_option maxHeartbeats 4000000 in
set_option maxRecDepth 100000 in
theorem k_X12_answersE {l : Launch} {D : va_G} {cy : Nat → ClassId} {b : Nat} {f : gMem} {m : Nat} {a : Nat → Nat} {f0 : gMem} {n : Nat → Int32} {z : Nat → Int64} {F : Nat → Nat → Int32} {G : Nat → Nat → Int64}  {y : Int64} (hS : mS cy m a f0 n z F G f)  : gC l D cy b yX12_answers cX12_answers 3 none 0 0 0 [.ref m, .long y] f (pV fun f2 => ∃ (n2 : Nat → Int32) (z2 : Nat → Int64) (F2 : Nat → Nat → Int32) (G2 : Nat → Nat → Int64), mS cy m a f0 n2 z2 F2 G2 f2 ∧ fx [57] [67] [] [] n z F G n2 z2 F2 G2 ∧ n2 57 = n 57 - 1 ∧ z2 67 = y) := by
  refine gC_of (by decide) (Nat.le_of_ble_eq_true rfl) ?_
  show gG l _ _ _ D cy b cX12_answers 3 _ RX12 "answers" 0 0 f 0 [(0, .ref m), (1, .long y)] []
  refine gz_aload_n dX12_answers_0 rfl rfl ?_
  refine gz_dup dX12_answers_1 rfl ?_
  refine mg_447 hS dX12_answers_2 ?_
  refine gz_iconst (v := 1) dX12_answers_5 (by decide) ?_
  refine gz_isub dX12_answers_6 ?_
  refine mp_447 hS dX12_answers_7 (fun f_1 hS_1 => ?_)
  refine gz_aload_n dX12_answers_10 rfl rfl ?_
  refine gz_lload_n dX12_answers_11 rfl rfl ?_
  refine mp_450 hS_1 dX12_answers_12 (fun f_2 hS_2 => ?_)
  exact gz_vret rfl dX12_answers_15 (Nat.le_of_ble_eq_true rfl) (Nat.le_of_ble_eq_true rfl) (⟨rfl, _, _, _, _, hS_2, (fx_z (fx_n fx_rf (by decide)) (by decide)), rfl, rfl⟩)

set_option maxHeartbeats 4000000 in
set_option maxRecDepth 100000 in
theorem k_X12_betterE {l : Launch} {D : va_G} {cy : Nat → ClassId} {b : Nat} {f : gMem} {x : Int32} {y v : Int64}   : gC l D cy b yX12_better cX12_better 5 (some .long) 0 0 0 [.int x, .long y, .long v] f (pL fun r f2 => r = btT x.toInt y v ∧ f2 = f) := by
  refine gC_of (by decide) (Nat.le_of_ble_eq_true rfl) ?_
  show gG l _ _ _ D cy b cX12_better 5 _ RX12 "better" 0 0 f 0 [(0, .int x), (1, .long y), (3, .long v)] []
  refine gz_iload_n dX12_better_0 rfl rfl ?_
  refine gz_if_ne (tgt := 8) dX12_better_1 (by decide) (fun c_1 => ?_) (fun c_1 => ?_)
  ·
    refine gz_iconst (v := 0) dX12_better_8 (by decide) ?_
    refine gz_lload_n dX12_better_9 rfl rfl ?_
    refine gz_lload_n dX12_better_10 rfl rfl ?_
    refine gz_lcmp dX12_better_11 ?_
    refine gz_if_le (tgt := 19) dX12_better_12 (by decide) (fun c_12 => ?_) (fun c_12 => ?_)
    ·
      refine gz_iconst (v := 0) dX12_better_19 (by decide) ?_
      refine gz_icmp_ne (tgt := 27) dX12_better_20 (by decide) (fun c_20 => ?_) (fun c_20 => ?_)
      · exact absurd c_20 (by decide)
      ·
        refine gz_lload_n dX12_better_23 rfl rfl ?_
        refine gz_goto (tgt := 28) dX12_better_24 (by decide) ?_
        try simp only [lgc_lt, lgc_le, lgc_gt, lgc_ge] at c_1
        try simp only [lgc_lt, lgc_le, lgc_gt, lgc_ge] at c_12
        have hx : ¬ x.toInt = 0 := fun z => c_1 (Int32.toInt_inj.mp (z.trans rfl))
        exact gz_lret rfl dX12_better_28 (Nat.le_of_ble_eq_true rfl) (Nat.le_of_ble_eq_true rfl) (⟨_, rfl, (by unfold btT; rw [if_neg hx]; first | (rw [if_pos (by rw [fL_lt]; omega)]) | (rw [if_neg (by rw [fL_lt]; omega)]) | (exfalso; simp_all)), rfl⟩)
    ·
      refine gz_iconst (v := 1) dX12_better_15 (by decide) ?_
      refine gz_goto (tgt := 20) dX12_better_16 (by decide) ?_
      refine gz_icmp_ne (tgt := 27) dX12_better_20 (by decide) (fun c_20 => ?_) (fun c_20 => ?_)
      ·
        refine gz_lload_n dX12_better_27 rfl rfl ?_
        try simp only [lgc_lt, lgc_le, lgc_gt, lgc_ge] at c_1
        try simp only [lgc_lt, lgc_le, lgc_gt, lgc_ge] at c_12
        have hx : ¬ x.toInt = 0 := fun z => c_1 (Int32.toInt_inj.mp (z.trans rfl))
        exact gz_lret rfl dX12_better_28 (Nat.le_of_ble_eq_true rfl) (Nat.le_of_ble_eq_true rfl) (⟨_, rfl, (by unfold btT; rw [if_neg hx]; first | (rw [if_pos (by rw [fL_lt]; omega)]) | (rw [if_neg (by rw [fL_lt]; omega)]) | (exfalso; simp_all)), rfl⟩)
      · exact absurd c_20 (by decide)
  ·
    refine gz_iconst (v := 1) dX12_better_4 (by decide) ?_
    refine gz_goto (tgt := 9) dX12_better_5 (by decide) ?_
    refine gz_lload_n dX12_better_9 rfl rfl ?_
    refine gz_lload_n dX12_better_10 rfl rfl ?_
    refine gz_lcmp dX12_better_11 ?_
    refine gz_if_le (tgt := 19) dX12_better_12 (by decide) (fun c_12 => ?_) (fun c_12 => ?_)
    ·
      refine gz_iconst (v := 0) dX12_better_19 (by decide) ?_
      refine gz_icmp_ne (tgt := 27) dX12_better_20 (by decide) (fun c_20 => ?_) (fun c_20 => ?_)
      ·
        refine gz_lload_n dX12_better_27 rfl rfl ?_
        try simp only [lgc_lt, lgc_le, lgc_gt, lgc_ge] at c_1
        try simp only [lgc_lt, lgc_le, lgc_gt, lgc_ge] at c_12
        have hx : x.toInt = 0 := by rw [c_1]; rfl
        exact gz_lret rfl dX12_better_28 (Nat.le_of_ble_eq_true rfl) (Nat.le_of_ble_eq_true rfl) (⟨_, rfl, (by unfold btT; rw [if_pos hx]; first | (rw [if_pos (by rw [fL_lt]; omega)]) | (rw [if_neg (by rw [fL_lt]; omega)]) | (exfalso; simp_all)), rfl⟩)
      · exact absurd c_20 (by decide)
    ·
      refine gz_iconst (v := 1) dX12_better_15 (by decide) ?_
      refine gz_goto (tgt := 20) dX12_better_16 (by decide) ?_
      refine gz_icmp_ne (tgt := 27) dX12_better_20 (by decide) (fun c_20 => ?_) (fun c_20 => ?_)
      · exact absurd c_20 (by decide)
      ·
        refine gz_lload_n dX12_better_23 rfl rfl ?_
        refine gz_goto (tgt := 28) dX12_better_24 (by decide) ?_
        try simp only [lgc_lt, lgc_le, lgc_gt, lgc_ge] at c_1
        try simp only [lgc_lt, lgc_le, lgc_gt, lgc_ge] at c_12
        have hx : x.toInt = 0 := by rw [c_1]; rfl
        exact gz_lret rfl dX12_better_28 (Nat.le_of_ble_eq_true rfl) (Nat.le_of_ble_eq_true rfl) (⟨_, rfl, (by unfold btT; rw [if_pos hx]; first | (rw [if_pos (by rw [fL_lt]; omega)]) | (rw [if_neg (by rw [fL_lt]; omega)]) | (exfalso; simp_all)), rfl⟩)

set_option maxHeartbeats 4000000 in
set_option maxRecDepth 100000 in
theorem k_X12_waitsOnE {l : Launch} {D : va_G} {cy : Nat → ClassId} {b : Nat} {f : gMem} {m : Nat} {a : Nat → Nat} {f0 : gMem} {n : Nat → Int32} {z : Nat → Int64} {F : Nat → Nat → Int32} {G : Nat → Nat → Int64}  {x1 x2 : Int32}{r1 P1 r : Nat} {dd : Int} {T : List Hd} {E : We} {S0 : Sn} {fo : Nat} {VF : Int64} {wN : Nat} {fN : Int} {d wo : Nat} {y : Nat} (hS : mS cy m a f0 n z F G f) (a5 : 0 ≤ (n 5).toInt ∧ (n 5).toInt ≤ 20) (bA : rAll F) (bW : rW F (n 5).toInt) (a53 : 1 ≤ (n 53).toInt ∧ (n 53).toInt ≤ 3) (hx1 : 0 ≤ x1.toInt ∧ (n 57).toInt = x1.toInt + 1) (hd : x2.toInt = dd ∧ dd ≤ 4) (hlo : FSt F (n 5).toInt dd (Int32.toNatClampNeg x1) r1 P1) (hr1 : r < r1) (hfr : vW F (n 5).toInt (F 58 (Int32.toNatClampNeg x1)).toInt ∧ (0 ≤ (F 59 (Int32.toNatClampNeg x1)).toInt ∧ (F 59 (Int32.toNatClampNeg x1)).toInt ≤ dd) ∧ (0 ≤ (F 60 (Int32.toNatClampNeg x1)).toInt ∧ (F 60 (Int32.toNatClampNeg x1)).toInt < 3 ^ (F 59 (Int32.toNatClampNeg x1)).toInt.toNat) ∧ ((r : Int) = szF F (F 58 (Int32.toNatClampNeg x1)).toInt + 4 - (F 59 (Int32.toNatClampNeg x1)).toInt) ∧ True) (hwy : 0 ≤ (F 66 (Int32.toNatClampNeg x1)).toInt ∧ (F 66 (Int32.toNatClampNeg x1)).toInt ≤ 3) (hX : LX F fo T) (hfo : fo < 20) (hER : eR E n F) (hDD : x2.toInt = (E.2.2.2.2.2 : Int)) (hKS : KS T E S0 fo VF F G (Int32.toNatClampNeg x1) (vl T E wN fN d (wSc E S0 d wo))) (hfD : fD T E fo F G (Int32.toNatClampNeg x1) wN fN d wo) (hlp : lpT T (wSc E S0 d wo) wN = false) (hy : (F 66 (Int32.toNatClampNeg x1)).toInt = (y : Int) ∧ y ≤ E.2.2.1) (hwa : (G 65 (Int32.toNatClampNeg x1)) = foW E.2.2.2.2.1 E.2.1 (loW T E (wSc E S0 d wo) wN fN d) y) (htk : tkF T E (wSc E S0 d wo) (F 64 (Int32.toNatClampNeg x1)) (G 63 (Int32.toNatClampNeg x1)) wN fN d) : gC l D cy b yX12_waitsOn cX12_waitsOn 6 none 1 0 0 [.ref m, .int x1, .int x2] f (pV fun f2 => ∃ (n2 : Nat → Int32) (z2 : Nat → Int64) (F2 : Nat → Nat → Int32) (G2 : Nat → Nat → Int64), mS cy m a f0 n2 z2 F2 G2 f2 ∧ fx [57] [67] [58, 59, 60, 62, 64] [61] n z F G n2 z2 F2 G2 ∧ WI T E S0 fo VF F2 G2 (n2 57).toInt.toNat (z2 67) ∧ 0 ≤ (n2 57).toInt ∧ ∃ r9 P9 : Nat, FSt F2 (n2 5).toInt dd (n2 57).toInt.toNat r9 P9 ∧ P9 ≤ P1 + (3 - (F 66 (Int32.toNatClampNeg x1)).toInt.toNat) * (cR (r - 1) + 1)) := by
  obtain ⟨fw, fd, fo_, fr_, fa⟩ := id hfr
  have qv := vW_lt bW a5 fw
  have qz := szF_pos bW fw
  have q3 := pw3 (d := (F 59 (Int32.toNatClampNeg x1)).toInt.toNat) (by omega)
  have qcx := clI (i := x1) (by omega)
  have qcn := clI (i := n 57) (by omega)
  have qlen := FSt_len _ _ _ hlo
  obtain ⟨hw1, hd1, hwo1, hfa1⟩ := id hfD
  have hok := hX.1.1
  have hvT_ := hX.1.2.1
  have h4 := hX.1.2.2.2.1
  have hD4 : d ≤ 4 := by omega
  refine gC_of (by decide) (Nat.le_of_ble_eq_true rfl) ?_
  show gG l _ _ _ D cy b cX12_waitsOn 6 _ RX12 "waitsOn" 0 0 f 0 [(0, .ref m), (1, .int x1), (2, .int x2)] []
  refine gz_aload_n dX12_waitsOn_0 rfl rfl ?_
  refine mg_164 hS dX12_waitsOn_1 ?_
  refine gz_iload_n dX12_waitsOn_4 rfl rfl ?_
  refine m_iald 58 hS rfl (N := 80) rfl ((by exact vin_T (rfl : x1.toInt = x1.toInt) (by omega) (by omega))) dX12_waitsOn_5 ?_
  refine gz_istore_n (lv' := [(3, .int ((F 58) (Int32.toNatClampNeg x1))), (0, .ref m), (1, .int x1), (2, .int x2)]) dX12_waitsOn_6 rfl (by decide) rfl ?_
  refine gz_aload_n dX12_waitsOn_7 rfl rfl ?_
  refine mg_167 hS dX12_waitsOn_8 ?_
  refine gz_iload_n dX12_waitsOn_11 rfl rfl ?_
  refine m_iald 59 hS rfl (N := 80) rfl ((by exact vin_T (rfl : x1.toInt = x1.toInt) (by omega) (by omega))) dX12_waitsOn_12 ?_
  refine gz_iload_n dX12_waitsOn_13 rfl rfl ?_
  refine gz_icmp_ge (tgt := 75) dX12_waitsOn_14 (by decide) (fun c_14 => ?_) (fun c_14 => ?_)
  ·
    try simp only [mIn_0, lgc_lt, lgc_gt, lgc_le, lgc_ge, lgc_eq] at c_14
    try simp only [fl_lt, fl_le, fl_eq, fL_w, fL_lt, fL_le, tm1, tm10k, tm9, tm99, Int32.reduceToInt, Int64.reduceToInt, Int.not_lt, Int.not_le] at c_14
    refine gz_aload_n dX12_waitsOn_75 rfl rfl ?_
    refine mg_167 hS dX12_waitsOn_76 ?_
    refine gz_iload_n dX12_waitsOn_79 rfl rfl ?_
    refine m_iald 59 hS rfl (N := 80) rfl ((by exact vin_T (rfl : x1.toInt = x1.toInt) (by omega) (by omega))) dX12_waitsOn_80 ?_
    refine gz_iload_n dX12_waitsOn_81 rfl rfl ?_
    refine gz_icmp_ge (tgt := 94) dX12_waitsOn_82 (by decide) (fun c_82 => ?_) (fun c_82 => ?_)
    ·
      try simp only [mIn_0, lgc_lt, lgc_gt, lgc_le, lgc_ge, lgc_eq] at c_82
      try simp only [fl_lt, fl_le, fl_eq, fL_w, fL_lt, fL_le, tm1, tm10k, tm9, tm99, Int32.reduceToInt, Int64.reduceToInt, Int.not_lt, Int.not_le] at c_82
      refine gz_lconst (v := 0) dX12_waitsOn_94 (by decide) ?_
      refine gz_lstore (lv' := [(4, .long 0), (3, .int ((F 58) (Int32.toNatClampNeg x1))), (0, .ref m), (1, .int x1), (2, .int x2)]) dX12_waitsOn_95 (by decide) rfl ?_
      refine gz_aload_n dX12_waitsOn_97 rfl rfl ?_
      refine gz_aload_n dX12_waitsOn_98 rfl rfl ?_
      refine mg_182 hS dX12_waitsOn_99 ?_
      refine gz_iload_n dX12_waitsOn_102 rfl rfl ?_
      refine m_zald 64 hS rfl (N := 80) rfl ((by exact vin_T (rfl : x1.toInt = x1.toInt) (by omega) (by omega))) dX12_waitsOn_103 ?_
      refine gz_if_eq (tgt := 126) dX12_waitsOn_104 (by decide) (fun c_104 => ?_) (fun c_104 => ?_)
      ·
        try simp only [mIn_0, lgc_lt, lgc_gt, lgc_le, lgc_ge, lgc_eq] at c_104
        try simp only [fl_lt, fl_le, fl_eq, fL_w, fL_lt, fL_le, tm1, tm10k, tm9, tm99, Int32.reduceToInt, Int64.reduceToInt, Int.not_lt, Int.not_le] at c_104
        refine gz_lload dX12_waitsOn_126 rfl ?_
        refine scX12_456 (k_X12_answersE hS) hS.1 ⟨(Nat.le_of_ble_eq_true rfl), (Nat.le_of_ble_eq_true rfl)⟩ ⟨(Nat.le_of_ble_eq_true rfl), (Nat.le_of_ble_eq_true rfl)⟩ rfl rfl (Nat.le_of_ble_eq_true rfl) dX12_waitsOn_128 ?_
        rintro f_1 ⟨n_1, z_1, F_1, G_1, hS_1, hx1, g57_1, g67_1⟩
        have hxx : fx [57] [67] [58, 59, 60, 62, 64] [61] n z F G n_1 z_1 F_1 G_1 := (fx_tr fx_rf hx1 (by decide))
        have hlo9 : FSt F_1 (n 5).toInt dd (Int32.toNatClampNeg x1) r1 P1 := FSt_cg (fun k hk => hxx.2.2.1 k ((by decide : ∀ k : Nat, k ∈ wK → k ∉ ([58, 59, 60, 62, 64] : List Nat)) k hk)) _ _ _ (fun i hi => by rw [(show F_1 58 = (F 58) from (hx1.2.2.1 58 (by decide)))]) (fun i hi => by rw [(show F_1 59 = (F 59) from (hx1.2.2.1 59 (by decide)))]) (fun i hi => by rw [(show F_1 60 = (F 60) from (hx1.2.2.1 60 (by decide)))]) (fun i hi => by rw [(show F_1 62 = (F 62) from (hx1.2.2.1 62 (by decide)))]) (fun i hi => by rw [(show F_1 66 = (F 66) from (hx1.2.2.1 66 (by decide)))]) hlo
        have hKS9 : KS T E S0 fo VF F_1 G_1 (Int32.toNatClampNeg x1) (vl T E wN fN d (wSc E S0 d wo)) := KS_cg (fun k hk => by simp only [List.mem_cons, List.not_mem_nil, or_false] at hk; rcases hk with rfl | rfl | rfl | rfl | rfl | rfl; exact (fun i hi => by rw [(show F_1 58 = (F 58) from (hx1.2.2.1 58 (by decide)))]); exact (fun i hi => by rw [(show F_1 59 = (F 59) from (hx1.2.2.1 59 (by decide)))]); exact (fun i hi => by rw [(show F_1 60 = (F 60) from (hx1.2.2.1 60 (by decide)))]); exact (fun i hi => by rw [(show F_1 62 = (F 62) from (hx1.2.2.1 62 (by decide)))]); exact (fun i hi => by rw [(show F_1 64 = (F 64) from (hx1.2.2.1 64 (by decide)))]); exact (fun i hi => by rw [(show F_1 66 = (F 66) from (hx1.2.2.1 66 (by decide)))])) (fun k hk => by simp only [List.mem_cons, List.not_mem_nil, or_false] at hk; rcases hk with rfl | rfl | rfl; exact (fun i hi => by rw [(show G_1 61 = (G 61) from (hx1.2.2.2 61 (by decide)))]); exact (fun i hi => by rw [(show G_1 63 = (G 63) from (hx1.2.2.2 63 (by decide)))]); exact (fun i hi => by rw [(show G_1 65 = (G 65) from (hx1.2.2.2 65 (by decide)))])) hKS
        have e5 : n_1 5 = n 5 := hxx.1 5 (by decide)
        have e57 : (n_1 57).toInt = x1.toInt + 0 := (by (try rw [(show n_1 57 = ((n 57) - 1) from g57_1)]); have q1_ := (T_sub (rfl : ((n 57)).toInt = ((n 57)).toInt) (show (1 : Int32).toInt = 1 from rfl) (by omega)); omega)
        have e57n : (n_1 57).toInt.toNat = (Int32.toNatClampNeg x1) + 0 := by omega
        have hans : z_1 67 = (vl T E wN fN d (wSc E S0 d wo)) := (show z_1 67 = 0 from g67_1).trans ((show _ = wl T E wN fN d (wSc E S0 d wo) from (by first | exact wl_y (by omega) (by have z9 := hER.1.1; omega) hwa | exact wl_n (by omega) | (exfalso; omega))).trans (tk_0 hok hvT_ h4 hw1.2 hd1.2 htk hlp (by omega)).symm)
        exact gz_vret rfl dX12_waitsOn_131 (Nat.le_of_ble_eq_true rfl) (Nat.le_of_ble_eq_true rfl) (⟨rfl, _, _, _, _, hS_1, hxx, Or.inl (by rw [e57n, hans]; exact hKS9), by omega, r1, P1, by rw [e57n, e5]; exact hlo9, Nat.le_add_right _ _⟩)
      ·
        try simp only [mIn_0, lgc_lt, lgc_gt, lgc_le, lgc_ge, lgc_eq] at c_104
        try simp only [fl_lt, fl_le, fl_eq, fL_w, fL_lt, fL_le, tm1, tm10k, tm9, tm99, Int32.reduceToInt, Int64.reduceToInt, Int.not_lt, Int.not_le] at c_104
        refine gz_aload_n dX12_waitsOn_107 rfl rfl ?_
        refine gz_iload_n dX12_waitsOn_108 rfl rfl ?_
        refine scX12_413 (k_X12_chooserE (x1 := (F 58 (Int32.toNatClampNeg x1))) hS bA hX hfo hw1) hS.1 ⟨(Nat.le_of_ble_eq_true rfl), (Nat.le_of_ble_eq_true rfl)⟩ ⟨(Nat.le_of_ble_eq_true rfl), (Nat.le_of_ble_eq_true rfl)⟩ rfl rfl (Nat.le_of_ble_eq_true rfl) dX12_waitsOn_109 ?_
        rintro r_c f9 ⟨hrc, y9⟩; rw [y9]
        refine gz_aload_n dX12_waitsOn_112 rfl rfl ?_
        refine mg_179 hS dX12_waitsOn_113 ?_
        refine gz_iload_n dX12_waitsOn_116 rfl rfl ?_
        refine m_lald 63 hS rfl (N := 80) rfl ((by exact vin_T (rfl : x1.toInt = x1.toInt) (by omega) (by omega))) dX12_waitsOn_117 ?_
        refine gz_lload dX12_waitsOn_118 rfl ?_
        refine scX12_470 (k_X12_betterE (x := r_c) (y := ((G 63) (Int32.toNatClampNeg x1))) (v := 0)) ⟨(Nat.le_of_ble_eq_true rfl), (Nat.le_of_ble_eq_true rfl)⟩ ⟨(Nat.le_of_ble_eq_true rfl), (Nat.le_of_ble_eq_true rfl)⟩ rfl rfl (Nat.le_of_ble_eq_true rfl) dX12_waitsOn_120 ?_
        rintro r_b f9 ⟨hrb, y9⟩; rw [y9]
        refine gz_goto (tgt := 128) dX12_waitsOn_123 (by decide) ?_
        refine scX12_456 (k_X12_answersE hS) hS.1 ⟨(Nat.le_of_ble_eq_true rfl), (Nat.le_of_ble_eq_true rfl)⟩ ⟨(Nat.le_of_ble_eq_true rfl), (Nat.le_of_ble_eq_true rfl)⟩ rfl rfl (Nat.le_of_ble_eq_true rfl) dX12_waitsOn_128 ?_
        rintro f_3 ⟨n_3, z_3, F_3, G_3, hS_3, hx3, g57_3, g67_3⟩
        have hxx : fx [57] [67] [58, 59, 60, 62, 64] [61] n z F G n_3 z_3 F_3 G_3 := (fx_tr fx_rf hx3 (by decide))
        have hlo9 : FSt F_3 (n 5).toInt dd (Int32.toNatClampNeg x1) r1 P1 := FSt_cg (fun k hk => hxx.2.2.1 k ((by decide : ∀ k : Nat, k ∈ wK → k ∉ ([58, 59, 60, 62, 64] : List Nat)) k hk)) _ _ _ (fun i hi => by rw [(show F_3 58 = (F 58) from (hx3.2.2.1 58 (by decide)))]) (fun i hi => by rw [(show F_3 59 = (F 59) from (hx3.2.2.1 59 (by decide)))]) (fun i hi => by rw [(show F_3 60 = (F 60) from (hx3.2.2.1 60 (by decide)))]) (fun i hi => by rw [(show F_3 62 = (F 62) from (hx3.2.2.1 62 (by decide)))]) (fun i hi => by rw [(show F_3 66 = (F 66) from (hx3.2.2.1 66 (by decide)))]) hlo
        have hKS9 : KS T E S0 fo VF F_3 G_3 (Int32.toNatClampNeg x1) (vl T E wN fN d (wSc E S0 d wo)) := KS_cg (fun k hk => by simp only [List.mem_cons, List.not_mem_nil, or_false] at hk; rcases hk with rfl | rfl | rfl | rfl | rfl | rfl; exact (fun i hi => by rw [(show F_3 58 = (F 58) from (hx3.2.2.1 58 (by decide)))]); exact (fun i hi => by rw [(show F_3 59 = (F 59) from (hx3.2.2.1 59 (by decide)))]); exact (fun i hi => by rw [(show F_3 60 = (F 60) from (hx3.2.2.1 60 (by decide)))]); exact (fun i hi => by rw [(show F_3 62 = (F 62) from (hx3.2.2.1 62 (by decide)))]); exact (fun i hi => by rw [(show F_3 64 = (F 64) from (hx3.2.2.1 64 (by decide)))]); exact (fun i hi => by rw [(show F_3 66 = (F 66) from (hx3.2.2.1 66 (by decide)))])) (fun k hk => by simp only [List.mem_cons, List.not_mem_nil, or_false] at hk; rcases hk with rfl | rfl | rfl; exact (fun i hi => by rw [(show G_3 61 = (G 61) from (hx3.2.2.2 61 (by decide)))]); exact (fun i hi => by rw [(show G_3 63 = (G 63) from (hx3.2.2.2 63 (by decide)))]); exact (fun i hi => by rw [(show G_3 65 = (G 65) from (hx3.2.2.2 65 (by decide)))])) hKS
        have e5 : n_3 5 = n 5 := hxx.1 5 (by decide)
        have e57 : (n_3 57).toInt = x1.toInt + 0 := (by (try rw [(show n_3 57 = ((n 57) - 1) from g57_3)]); have q1_ := (T_sub (rfl : ((n 57)).toInt = ((n 57)).toInt) (show (1 : Int32).toInt = 1 from rfl) (by omega)); omega)
        have e57n : (n_3 57).toInt.toNat = (Int32.toNatClampNeg x1) + 0 := by omega
        have hans : z_3 67 = (vl T E wN fN d (wSc E S0 d wo)) := (show z_3 67 = r_b from g67_3).trans (hrb.trans (by rw [tk_1 hok hvT_ h4 hw1.2 hd1.2 htk hlp (by omega), hrc]; congr 1; exact (by first | exact wl_y (by omega) (by have z9 := hER.1.1; omega) hwa | exact wl_n (by omega) | (exfalso; omega))))
        exact gz_vret rfl dX12_waitsOn_131 (Nat.le_of_ble_eq_true rfl) (Nat.le_of_ble_eq_true rfl) (⟨rfl, _, _, _, _, hS_3, hxx, Or.inl (by rw [e57n, hans]; exact hKS9), by omega, r1, P1, by rw [e57n, e5]; exact hlo9, Nat.le_add_right _ _⟩)
    ·
      try simp only [mIn_0, lgc_lt, lgc_gt, lgc_le, lgc_ge, lgc_eq] at c_82
      try simp only [fl_lt, fl_le, fl_eq, fL_w, fL_lt, fL_le, tm1, tm10k, tm9, tm99, Int32.reduceToInt, Int64.reduceToInt, Int.not_lt, Int.not_le] at c_82
      refine gz_aload_n dX12_waitsOn_85 rfl rfl ?_
      refine mg_186 hS dX12_waitsOn_86 ?_
      refine gz_iload_n dX12_waitsOn_89 rfl rfl ?_
      refine m_lald 65 hS rfl (N := 80) rfl ((by exact vin_T (rfl : x1.toInt = x1.toInt) (by omega) (by omega))) dX12_waitsOn_90 ?_
      refine gz_goto (tgt := 95) dX12_waitsOn_91 (by decide) ?_
      refine gz_lstore (lv' := [(4, .long ((G 65) (Int32.toNatClampNeg x1))), (3, .int ((F 58) (Int32.toNatClampNeg x1))), (0, .ref m), (1, .int x1), (2, .int x2)]) dX12_waitsOn_95 (by decide) rfl ?_
      refine gz_aload_n dX12_waitsOn_97 rfl rfl ?_
      refine gz_aload_n dX12_waitsOn_98 rfl rfl ?_
      refine mg_182 hS dX12_waitsOn_99 ?_
      refine gz_iload_n dX12_waitsOn_102 rfl rfl ?_
      refine m_zald 64 hS rfl (N := 80) rfl ((by exact vin_T (rfl : x1.toInt = x1.toInt) (by omega) (by omega))) dX12_waitsOn_103 ?_
      refine gz_if_eq (tgt := 126) dX12_waitsOn_104 (by decide) (fun c_104 => ?_) (fun c_104 => ?_)
      ·
        try simp only [mIn_0, lgc_lt, lgc_gt, lgc_le, lgc_ge, lgc_eq] at c_104
        try simp only [fl_lt, fl_le, fl_eq, fL_w, fL_lt, fL_le, tm1, tm10k, tm9, tm99, Int32.reduceToInt, Int64.reduceToInt, Int.not_lt, Int.not_le] at c_104
        refine gz_lload dX12_waitsOn_126 rfl ?_
        refine scX12_456 (k_X12_answersE hS) hS.1 ⟨(Nat.le_of_ble_eq_true rfl), (Nat.le_of_ble_eq_true rfl)⟩ ⟨(Nat.le_of_ble_eq_true rfl), (Nat.le_of_ble_eq_true rfl)⟩ rfl rfl (Nat.le_of_ble_eq_true rfl) dX12_waitsOn_128 ?_
        rintro f_4 ⟨n_4, z_4, F_4, G_4, hS_4, hx4, g57_4, g67_4⟩
        have hxx : fx [57] [67] [58, 59, 60, 62, 64] [61] n z F G n_4 z_4 F_4 G_4 := (fx_tr fx_rf hx4 (by decide))
        have hlo9 : FSt F_4 (n 5).toInt dd (Int32.toNatClampNeg x1) r1 P1 := FSt_cg (fun k hk => hxx.2.2.1 k ((by decide : ∀ k : Nat, k ∈ wK → k ∉ ([58, 59, 60, 62, 64] : List Nat)) k hk)) _ _ _ (fun i hi => by rw [(show F_4 58 = (F 58) from (hx4.2.2.1 58 (by decide)))]) (fun i hi => by rw [(show F_4 59 = (F 59) from (hx4.2.2.1 59 (by decide)))]) (fun i hi => by rw [(show F_4 60 = (F 60) from (hx4.2.2.1 60 (by decide)))]) (fun i hi => by rw [(show F_4 62 = (F 62) from (hx4.2.2.1 62 (by decide)))]) (fun i hi => by rw [(show F_4 66 = (F 66) from (hx4.2.2.1 66 (by decide)))]) hlo
        have hKS9 : KS T E S0 fo VF F_4 G_4 (Int32.toNatClampNeg x1) (vl T E wN fN d (wSc E S0 d wo)) := KS_cg (fun k hk => by simp only [List.mem_cons, List.not_mem_nil, or_false] at hk; rcases hk with rfl | rfl | rfl | rfl | rfl | rfl; exact (fun i hi => by rw [(show F_4 58 = (F 58) from (hx4.2.2.1 58 (by decide)))]); exact (fun i hi => by rw [(show F_4 59 = (F 59) from (hx4.2.2.1 59 (by decide)))]); exact (fun i hi => by rw [(show F_4 60 = (F 60) from (hx4.2.2.1 60 (by decide)))]); exact (fun i hi => by rw [(show F_4 62 = (F 62) from (hx4.2.2.1 62 (by decide)))]); exact (fun i hi => by rw [(show F_4 64 = (F 64) from (hx4.2.2.1 64 (by decide)))]); exact (fun i hi => by rw [(show F_4 66 = (F 66) from (hx4.2.2.1 66 (by decide)))])) (fun k hk => by simp only [List.mem_cons, List.not_mem_nil, or_false] at hk; rcases hk with rfl | rfl | rfl; exact (fun i hi => by rw [(show G_4 61 = (G 61) from (hx4.2.2.2 61 (by decide)))]); exact (fun i hi => by rw [(show G_4 63 = (G 63) from (hx4.2.2.2 63 (by decide)))]); exact (fun i hi => by rw [(show G_4 65 = (G 65) from (hx4.2.2.2 65 (by decide)))])) hKS
        have e5 : n_4 5 = n 5 := hxx.1 5 (by decide)
        have e57 : (n_4 57).toInt = x1.toInt + 0 := (by (try rw [(show n_4 57 = ((n 57) - 1) from g57_4)]); have q1_ := (T_sub (rfl : ((n 57)).toInt = ((n 57)).toInt) (show (1 : Int32).toInt = 1 from rfl) (by omega)); omega)
        have e57n : (n_4 57).toInt.toNat = (Int32.toNatClampNeg x1) + 0 := by omega
        have hans : z_4 67 = (vl T E wN fN d (wSc E S0 d wo)) := (show z_4 67 = ((G 65) (Int32.toNatClampNeg x1)) from g67_4).trans ((show _ = wl T E wN fN d (wSc E S0 d wo) from (by first | exact wl_y (by omega) (by have z9 := hER.1.1; omega) hwa | exact wl_n (by omega) | (exfalso; omega))).trans (tk_0 hok hvT_ h4 hw1.2 hd1.2 htk hlp (by omega)).symm)
        exact gz_vret rfl dX12_waitsOn_131 (Nat.le_of_ble_eq_true rfl) (Nat.le_of_ble_eq_true rfl) (⟨rfl, _, _, _, _, hS_4, hxx, Or.inl (by rw [e57n, hans]; exact hKS9), by omega, r1, P1, by rw [e57n, e5]; exact hlo9, Nat.le_add_right _ _⟩)
      ·
        try simp only [mIn_0, lgc_lt, lgc_gt, lgc_le, lgc_ge, lgc_eq] at c_104
        try simp only [fl_lt, fl_le, fl_eq, fL_w, fL_lt, fL_le, tm1, tm10k, tm9, tm99, Int32.reduceToInt, Int64.reduceToInt, Int.not_lt, Int.not_le] at c_104
        refine gz_aload_n dX12_waitsOn_107 rfl rfl ?_
        refine gz_iload_n dX12_waitsOn_108 rfl rfl ?_
        refine scX12_413 (k_X12_chooserE (x1 := (F 58 (Int32.toNatClampNeg x1))) hS bA hX hfo hw1) hS.1 ⟨(Nat.le_of_ble_eq_true rfl), (Nat.le_of_ble_eq_true rfl)⟩ ⟨(Nat.le_of_ble_eq_true rfl), (Nat.le_of_ble_eq_true rfl)⟩ rfl rfl (Nat.le_of_ble_eq_true rfl) dX12_waitsOn_109 ?_
        rintro r_c f9 ⟨hrc, y9⟩; rw [y9]
        refine gz_aload_n dX12_waitsOn_112 rfl rfl ?_
        refine mg_179 hS dX12_waitsOn_113 ?_
        refine gz_iload_n dX12_waitsOn_116 rfl rfl ?_
        refine m_lald 63 hS rfl (N := 80) rfl ((by exact vin_T (rfl : x1.toInt = x1.toInt) (by omega) (by omega))) dX12_waitsOn_117 ?_
        refine gz_lload dX12_waitsOn_118 rfl ?_
        refine scX12_470 (k_X12_betterE (x := r_c) (y := ((G 63) (Int32.toNatClampNeg x1))) (v := ((G 65) (Int32.toNatClampNeg x1)))) ⟨(Nat.le_of_ble_eq_true rfl), (Nat.le_of_ble_eq_true rfl)⟩ ⟨(Nat.le_of_ble_eq_true rfl), (Nat.le_of_ble_eq_true rfl)⟩ rfl rfl (Nat.le_of_ble_eq_true rfl) dX12_waitsOn_120 ?_
        rintro r_b f9 ⟨hrb, y9⟩; rw [y9]
        refine gz_goto (tgt := 128) dX12_waitsOn_123 (by decide) ?_
        refine scX12_456 (k_X12_answersE hS) hS.1 ⟨(Nat.le_of_ble_eq_true rfl), (Nat.le_of_ble_eq_true rfl)⟩ ⟨(Nat.le_of_ble_eq_true rfl), (Nat.le_of_ble_eq_true rfl)⟩ rfl rfl (Nat.le_of_ble_eq_true rfl) dX12_waitsOn_128 ?_
        rintro f_6 ⟨n_6, z_6, F_6, G_6, hS_6, hx6, g57_6, g67_6⟩
        have hxx : fx [57] [67] [58, 59, 60, 62, 64] [61] n z F G n_6 z_6 F_6 G_6 := (fx_tr fx_rf hx6 (by decide))
        have hlo9 : FSt F_6 (n 5).toInt dd (Int32.toNatClampNeg x1) r1 P1 := FSt_cg (fun k hk => hxx.2.2.1 k ((by decide : ∀ k : Nat, k ∈ wK → k ∉ ([58, 59, 60, 62, 64] : List Nat)) k hk)) _ _ _ (fun i hi => by rw [(show F_6 58 = (F 58) from (hx6.2.2.1 58 (by decide)))]) (fun i hi => by rw [(show F_6 59 = (F 59) from (hx6.2.2.1 59 (by decide)))]) (fun i hi => by rw [(show F_6 60 = (F 60) from (hx6.2.2.1 60 (by decide)))]) (fun i hi => by rw [(show F_6 62 = (F 62) from (hx6.2.2.1 62 (by decide)))]) (fun i hi => by rw [(show F_6 66 = (F 66) from (hx6.2.2.1 66 (by decide)))]) hlo
        have hKS9 : KS T E S0 fo VF F_6 G_6 (Int32.toNatClampNeg x1) (vl T E wN fN d (wSc E S0 d wo)) := KS_cg (fun k hk => by simp only [List.mem_cons, List.not_mem_nil, or_false] at hk; rcases hk with rfl | rfl | rfl | rfl | rfl | rfl; exact (fun i hi => by rw [(show F_6 58 = (F 58) from (hx6.2.2.1 58 (by decide)))]); exact (fun i hi => by rw [(show F_6 59 = (F 59) from (hx6.2.2.1 59 (by decide)))]); exact (fun i hi => by rw [(show F_6 60 = (F 60) from (hx6.2.2.1 60 (by decide)))]); exact (fun i hi => by rw [(show F_6 62 = (F 62) from (hx6.2.2.1 62 (by decide)))]); exact (fun i hi => by rw [(show F_6 64 = (F 64) from (hx6.2.2.1 64 (by decide)))]); exact (fun i hi => by rw [(show F_6 66 = (F 66) from (hx6.2.2.1 66 (by decide)))])) (fun k hk => by simp only [List.mem_cons, List.not_mem_nil, or_false] at hk; rcases hk with rfl | rfl | rfl; exact (fun i hi => by rw [(show G_6 61 = (G 61) from (hx6.2.2.2 61 (by decide)))]); exact (fun i hi => by rw [(show G_6 63 = (G 63) from (hx6.2.2.2 63 (by decide)))]); exact (fun i hi => by rw [(show G_6 65 = (G 65) from (hx6.2.2.2 65 (by decide)))])) hKS
        have e5 : n_6 5 = n 5 := hxx.1 5 (by decide)
        have e57 : (n_6 57).toInt = x1.toInt + 0 := (by (try rw [(show n_6 57 = ((n 57) - 1) from g57_6)]); have q1_ := (T_sub (rfl : ((n 57)).toInt = ((n 57)).toInt) (show (1 : Int32).toInt = 1 from rfl) (by omega)); omega)
        have e57n : (n_6 57).toInt.toNat = (Int32.toNatClampNeg x1) + 0 := by omega
        have hans : z_6 67 = (vl T E wN fN d (wSc E S0 d wo)) := (show z_6 67 = r_b from g67_6).trans (hrb.trans (by rw [tk_1 hok hvT_ h4 hw1.2 hd1.2 htk hlp (by omega), hrc]; congr 1; exact (by first | exact wl_y (by omega) (by have z9 := hER.1.1; omega) hwa | exact wl_n (by omega) | (exfalso; omega))))
        exact gz_vret rfl dX12_waitsOn_131 (Nat.le_of_ble_eq_true rfl) (Nat.le_of_ble_eq_true rfl) (⟨rfl, _, _, _, _, hS_6, hxx, Or.inl (by rw [e57n, hans]; exact hKS9), by omega, r1, P1, by rw [e57n, e5]; exact hlo9, Nat.le_add_right _ _⟩)
  ·
    try simp only [mIn_0, lgc_lt, lgc_gt, lgc_le, lgc_ge, lgc_eq] at c_14
    try simp only [fl_lt, fl_le, fl_eq, fL_w, fL_lt, fL_le, tm1, tm10k, tm9, tm99, Int32.reduceToInt, Int64.reduceToInt, Int.not_lt, Int.not_le] at c_14
    refine gz_aload_n dX12_waitsOn_17 rfl rfl ?_
    refine mg_189 hS dX12_waitsOn_18 ?_
    refine gz_iload_n dX12_waitsOn_21 rfl rfl ?_
    refine m_iald 66 hS rfl (N := 80) rfl ((by exact vin_T (rfl : x1.toInt = x1.toInt) (by omega) (by omega))) dX12_waitsOn_22 ?_
    refine gz_aload_n dX12_waitsOn_23 rfl rfl ?_
    refine mg_151 hS dX12_waitsOn_24 ?_
    refine gz_icmp_ge (tgt := 75) dX12_waitsOn_27 (by decide) (fun c_27 => ?_) (fun c_27 => ?_)
    ·
      try simp only [mIn_0, lgc_lt, lgc_gt, lgc_le, lgc_ge, lgc_eq] at c_27
      try simp only [fl_lt, fl_le, fl_eq, fL_w, fL_lt, fL_le, tm1, tm10k, tm9, tm99, Int32.reduceToInt, Int64.reduceToInt, Int.not_lt, Int.not_le] at c_27
      refine gz_aload_n dX12_waitsOn_75 rfl rfl ?_
      refine mg_167 hS dX12_waitsOn_76 ?_
      refine gz_iload_n dX12_waitsOn_79 rfl rfl ?_
      refine m_iald 59 hS rfl (N := 80) rfl ((by exact vin_T (rfl : x1.toInt = x1.toInt) (by omega) (by omega))) dX12_waitsOn_80 ?_
      refine gz_iload_n dX12_waitsOn_81 rfl rfl ?_
      refine gz_icmp_ge (tgt := 94) dX12_waitsOn_82 (by decide) (fun c_82 => ?_) (fun c_82 => ?_)
      ·
        try simp only [mIn_0, lgc_lt, lgc_gt, lgc_le, lgc_ge, lgc_eq] at c_82
        try simp only [fl_lt, fl_le, fl_eq, fL_w, fL_lt, fL_le, tm1, tm10k, tm9, tm99, Int32.reduceToInt, Int64.reduceToInt, Int.not_lt, Int.not_le] at c_82
        refine gz_lconst (v := 0) dX12_waitsOn_94 (by decide) ?_
        refine gz_lstore (lv' := [(4, .long 0), (3, .int ((F 58) (Int32.toNatClampNeg x1))), (0, .ref m), (1, .int x1), (2, .int x2)]) dX12_waitsOn_95 (by decide) rfl ?_
        refine gz_aload_n dX12_waitsOn_97 rfl rfl ?_
        refine gz_aload_n dX12_waitsOn_98 rfl rfl ?_
        refine mg_182 hS dX12_waitsOn_99 ?_
        refine gz_iload_n dX12_waitsOn_102 rfl rfl ?_
        refine m_zald 64 hS rfl (N := 80) rfl ((by exact vin_T (rfl : x1.toInt = x1.toInt) (by omega) (by omega))) dX12_waitsOn_103 ?_
        refine gz_if_eq (tgt := 126) dX12_waitsOn_104 (by decide) (fun c_104 => ?_) (fun c_104 => ?_)
        ·
          try simp only [mIn_0, lgc_lt, lgc_gt, lgc_le, lgc_ge, lgc_eq] at c_104
          try simp only [fl_lt, fl_le, fl_eq, fL_w, fL_lt, fL_le, tm1, tm10k, tm9, tm99, Int32.reduceToInt, Int64.reduceToInt, Int.not_lt, Int.not_le] at c_104
          refine gz_lload dX12_waitsOn_126 rfl ?_
          refine scX12_456 (k_X12_answersE hS) hS.1 ⟨(Nat.le_of_ble_eq_true rfl), (Nat.le_of_ble_eq_true rfl)⟩ ⟨(Nat.le_of_ble_eq_true rfl), (Nat.le_of_ble_eq_true rfl)⟩ rfl rfl (Nat.le_of_ble_eq_true rfl) dX12_waitsOn_128 ?_
          rintro f_7 ⟨n_7, z_7, F_7, G_7, hS_7, hx7, g57_7, g67_7⟩
          have hxx : fx [57] [67] [58, 59, 60, 62, 64] [61] n z F G n_7 z_7 F_7 G_7 := (fx_tr fx_rf hx7 (by decide))
          have hlo9 : FSt F_7 (n 5).toInt dd (Int32.toNatClampNeg x1) r1 P1 := FSt_cg (fun k hk => hxx.2.2.1 k ((by decide : ∀ k : Nat, k ∈ wK → k ∉ ([58, 59, 60, 62, 64] : List Nat)) k hk)) _ _ _ (fun i hi => by rw [(show F_7 58 = (F 58) from (hx7.2.2.1 58 (by decide)))]) (fun i hi => by rw [(show F_7 59 = (F 59) from (hx7.2.2.1 59 (by decide)))]) (fun i hi => by rw [(show F_7 60 = (F 60) from (hx7.2.2.1 60 (by decide)))]) (fun i hi => by rw [(show F_7 62 = (F 62) from (hx7.2.2.1 62 (by decide)))]) (fun i hi => by rw [(show F_7 66 = (F 66) from (hx7.2.2.1 66 (by decide)))]) hlo
          have hKS9 : KS T E S0 fo VF F_7 G_7 (Int32.toNatClampNeg x1) (vl T E wN fN d (wSc E S0 d wo)) := KS_cg (fun k hk => by simp only [List.mem_cons, List.not_mem_nil, or_false] at hk; rcases hk with rfl | rfl | rfl | rfl | rfl | rfl; exact (fun i hi => by rw [(show F_7 58 = (F 58) from (hx7.2.2.1 58 (by decide)))]); exact (fun i hi => by rw [(show F_7 59 = (F 59) from (hx7.2.2.1 59 (by decide)))]); exact (fun i hi => by rw [(show F_7 60 = (F 60) from (hx7.2.2.1 60 (by decide)))]); exact (fun i hi => by rw [(show F_7 62 = (F 62) from (hx7.2.2.1 62 (by decide)))]); exact (fun i hi => by rw [(show F_7 64 = (F 64) from (hx7.2.2.1 64 (by decide)))]); exact (fun i hi => by rw [(show F_7 66 = (F 66) from (hx7.2.2.1 66 (by decide)))])) (fun k hk => by simp only [List.mem_cons, List.not_mem_nil, or_false] at hk; rcases hk with rfl | rfl | rfl; exact (fun i hi => by rw [(show G_7 61 = (G 61) from (hx7.2.2.2 61 (by decide)))]); exact (fun i hi => by rw [(show G_7 63 = (G 63) from (hx7.2.2.2 63 (by decide)))]); exact (fun i hi => by rw [(show G_7 65 = (G 65) from (hx7.2.2.2 65 (by decide)))])) hKS
          have e5 : n_7 5 = n 5 := hxx.1 5 (by decide)
          have e57 : (n_7 57).toInt = x1.toInt + 0 := (by (try rw [(show n_7 57 = ((n 57) - 1) from g57_7)]); have q1_ := (T_sub (rfl : ((n 57)).toInt = ((n 57)).toInt) (show (1 : Int32).toInt = 1 from rfl) (by omega)); omega)
          have e57n : (n_7 57).toInt.toNat = (Int32.toNatClampNeg x1) + 0 := by omega
          have hans : z_7 67 = (vl T E wN fN d (wSc E S0 d wo)) := (show z_7 67 = 0 from g67_7).trans ((show _ = wl T E wN fN d (wSc E S0 d wo) from (by first | exact wl_y (by omega) (by have z9 := hER.1.1; omega) hwa | exact wl_n (by omega) | (exfalso; omega))).trans (tk_0 hok hvT_ h4 hw1.2 hd1.2 htk hlp (by omega)).symm)
          exact gz_vret rfl dX12_waitsOn_131 (Nat.le_of_ble_eq_true rfl) (Nat.le_of_ble_eq_true rfl) (⟨rfl, _, _, _, _, hS_7, hxx, Or.inl (by rw [e57n, hans]; exact hKS9), by omega, r1, P1, by rw [e57n, e5]; exact hlo9, Nat.le_add_right _ _⟩)
        ·
          try simp only [mIn_0, lgc_lt, lgc_gt, lgc_le, lgc_ge, lgc_eq] at c_104
          try simp only [fl_lt, fl_le, fl_eq, fL_w, fL_lt, fL_le, tm1, tm10k, tm9, tm99, Int32.reduceToInt, Int64.reduceToInt, Int.not_lt, Int.not_le] at c_104
          refine gz_aload_n dX12_waitsOn_107 rfl rfl ?_
          refine gz_iload_n dX12_waitsOn_108 rfl rfl ?_
          refine scX12_413 (k_X12_chooserE (x1 := (F 58 (Int32.toNatClampNeg x1))) hS bA hX hfo hw1) hS.1 ⟨(Nat.le_of_ble_eq_true rfl), (Nat.le_of_ble_eq_true rfl)⟩ ⟨(Nat.le_of_ble_eq_true rfl), (Nat.le_of_ble_eq_true rfl)⟩ rfl rfl (Nat.le_of_ble_eq_true rfl) dX12_waitsOn_109 ?_
          rintro r_c f9 ⟨hrc, y9⟩; rw [y9]
          refine gz_aload_n dX12_waitsOn_112 rfl rfl ?_
          refine mg_179 hS dX12_waitsOn_113 ?_
          refine gz_iload_n dX12_waitsOn_116 rfl rfl ?_
          refine m_lald 63 hS rfl (N := 80) rfl ((by exact vin_T (rfl : x1.toInt = x1.toInt) (by omega) (by omega))) dX12_waitsOn_117 ?_
          refine gz_lload dX12_waitsOn_118 rfl ?_
          refine scX12_470 (k_X12_betterE (x := r_c) (y := ((G 63) (Int32.toNatClampNeg x1))) (v := 0)) ⟨(Nat.le_of_ble_eq_true rfl), (Nat.le_of_ble_eq_true rfl)⟩ ⟨(Nat.le_of_ble_eq_true rfl), (Nat.le_of_ble_eq_true rfl)⟩ rfl rfl (Nat.le_of_ble_eq_true rfl) dX12_waitsOn_120 ?_
          rintro r_b f9 ⟨hrb, y9⟩; rw [y9]
          refine gz_goto (tgt := 128) dX12_waitsOn_123 (by decide) ?_
          refine scX12_456 (k_X12_answersE hS) hS.1 ⟨(Nat.le_of_ble_eq_true rfl), (Nat.le_of_ble_eq_true rfl)⟩ ⟨(Nat.le_of_ble_eq_true rfl), (Nat.le_of_ble_eq_true rfl)⟩ rfl rfl (Nat.le_of_ble_eq_true rfl) dX12_waitsOn_128 ?_
          rintro f_9 ⟨n_9, z_9, F_9, G_9, hS_9, hx9, g57_9, g67_9⟩
          have hxx : fx [57] [67] [58, 59, 60, 62, 64] [61] n z F G n_9 z_9 F_9 G_9 := (fx_tr fx_rf hx9 (by decide))
          have hlo9 : FSt F_9 (n 5).toInt dd (Int32.toNatClampNeg x1) r1 P1 := FSt_cg (fun k hk => hxx.2.2.1 k ((by decide : ∀ k : Nat, k ∈ wK → k ∉ ([58, 59, 60, 62, 64] : List Nat)) k hk)) _ _ _ (fun i hi => by rw [(show F_9 58 = (F 58) from (hx9.2.2.1 58 (by decide)))]) (fun i hi => by rw [(show F_9 59 = (F 59) from (hx9.2.2.1 59 (by decide)))]) (fun i hi => by rw [(show F_9 60 = (F 60) from (hx9.2.2.1 60 (by decide)))]) (fun i hi => by rw [(show F_9 62 = (F 62) from (hx9.2.2.1 62 (by decide)))]) (fun i hi => by rw [(show F_9 66 = (F 66) from (hx9.2.2.1 66 (by decide)))]) hlo
          have hKS9 : KS T E S0 fo VF F_9 G_9 (Int32.toNatClampNeg x1) (vl T E wN fN d (wSc E S0 d wo)) := KS_cg (fun k hk => by simp only [List.mem_cons, List.not_mem_nil, or_false] at hk; rcases hk with rfl | rfl | rfl | rfl | rfl | rfl; exact (fun i hi => by rw [(show F_9 58 = (F 58) from (hx9.2.2.1 58 (by decide)))]); exact (fun i hi => by rw [(show F_9 59 = (F 59) from (hx9.2.2.1 59 (by decide)))]); exact (fun i hi => by rw [(show F_9 60 = (F 60) from (hx9.2.2.1 60 (by decide)))]); exact (fun i hi => by rw [(show F_9 62 = (F 62) from (hx9.2.2.1 62 (by decide)))]); exact (fun i hi => by rw [(show F_9 64 = (F 64) from (hx9.2.2.1 64 (by decide)))]); exact (fun i hi => by rw [(show F_9 66 = (F 66) from (hx9.2.2.1 66 (by decide)))])) (fun k hk => by simp only [List.mem_cons, List.not_mem_nil, or_false] at hk; rcases hk with rfl | rfl | rfl; exact (fun i hi => by rw [(show G_9 61 = (G 61) from (hx9.2.2.2 61 (by decide)))]); exact (fun i hi => by rw [(show G_9 63 = (G 63) from (hx9.2.2.2 63 (by decide)))]); exact (fun i hi => by rw [(show G_9 65 = (G 65) from (hx9.2.2.2 65 (by decide)))])) hKS
          have e5 : n_9 5 = n 5 := hxx.1 5 (by decide)
          have e57 : (n_9 57).toInt = x1.toInt + 0 := (by (try rw [(show n_9 57 = ((n 57) - 1) from g57_9)]); have q1_ := (T_sub (rfl : ((n 57)).toInt = ((n 57)).toInt) (show (1 : Int32).toInt = 1 from rfl) (by omega)); omega)
          have e57n : (n_9 57).toInt.toNat = (Int32.toNatClampNeg x1) + 0 := by omega
          have hans : z_9 67 = (vl T E wN fN d (wSc E S0 d wo)) := (show z_9 67 = r_b from g67_9).trans (hrb.trans (by rw [tk_1 hok hvT_ h4 hw1.2 hd1.2 htk hlp (by omega), hrc]; congr 1; exact (by first | exact wl_y (by omega) (by have z9 := hER.1.1; omega) hwa | exact wl_n (by omega) | (exfalso; omega))))
          exact gz_vret rfl dX12_waitsOn_131 (Nat.le_of_ble_eq_true rfl) (Nat.le_of_ble_eq_true rfl) (⟨rfl, _, _, _, _, hS_9, hxx, Or.inl (by rw [e57n, hans]; exact hKS9), by omega, r1, P1, by rw [e57n, e5]; exact hlo9, Nat.le_add_right _ _⟩)
      ·
        try simp only [mIn_0, lgc_lt, lgc_gt, lgc_le, lgc_ge, lgc_eq] at c_82
        try simp only [fl_lt, fl_le, fl_eq, fL_w, fL_lt, fL_le, tm1, tm10k, tm9, tm99, Int32.reduceToInt, Int64.reduceToInt, Int.not_lt, Int.not_le] at c_82
        refine gz_aload_n dX12_waitsOn_85 rfl rfl ?_
        refine mg_186 hS dX12_waitsOn_86 ?_
        refine gz_iload_n dX12_waitsOn_89 rfl rfl ?_
        refine m_lald 65 hS rfl (N := 80) rfl ((by exact vin_T (rfl : x1.toInt = x1.toInt) (by omega) (by omega))) dX12_waitsOn_90 ?_
        refine gz_goto (tgt := 95) dX12_waitsOn_91 (by decide) ?_
        refine gz_lstore (lv' := [(4, .long ((G 65) (Int32.toNatClampNeg x1))), (3, .int ((F 58) (Int32.toNatClampNeg x1))), (0, .ref m), (1, .int x1), (2, .int x2)]) dX12_waitsOn_95 (by decide) rfl ?_
        refine gz_aload_n dX12_waitsOn_97 rfl rfl ?_
        refine gz_aload_n dX12_waitsOn_98 rfl rfl ?_
        refine mg_182 hS dX12_waitsOn_99 ?_
        refine gz_iload_n dX12_waitsOn_102 rfl rfl ?_
        refine m_zald 64 hS rfl (N := 80) rfl ((by exact vin_T (rfl : x1.toInt = x1.toInt) (by omega) (by omega))) dX12_waitsOn_103 ?_
        refine gz_if_eq (tgt := 126) dX12_waitsOn_104 (by decide) (fun c_104 => ?_) (fun c_104 => ?_)
        ·
          try simp only [mIn_0, lgc_lt, lgc_gt, lgc_le, lgc_ge, lgc_eq] at c_104
          try simp only [fl_lt, fl_le, fl_eq, fL_w, fL_lt, fL_le, tm1, tm10k, tm9, tm99, Int32.reduceToInt, Int64.reduceToInt, Int.not_lt, Int.not_le] at c_104
          refine gz_lload dX12_waitsOn_126 rfl ?_
          refine scX12_456 (k_X12_answersE hS) hS.1 ⟨(Nat.le_of_ble_eq_true rfl), (Nat.le_of_ble_eq_true rfl)⟩ ⟨(Nat.le_of_ble_eq_true rfl), (Nat.le_of_ble_eq_true rfl)⟩ rfl rfl (Nat.le_of_ble_eq_true rfl) dX12_waitsOn_128 ?_
          rintro f_10 ⟨n_10, z_10, F_10, G_10, hS_10, hx10, g57_10, g67_10⟩
          have hxx : fx [57] [67] [58, 59, 60, 62, 64] [61] n z F G n_10 z_10 F_10 G_10 := (fx_tr fx_rf hx10 (by decide))
          have hlo9 : FSt F_10 (n 5).toInt dd (Int32.toNatClampNeg x1) r1 P1 := FSt_cg (fun k hk => hxx.2.2.1 k ((by decide : ∀ k : Nat, k ∈ wK → k ∉ ([58, 59, 60, 62, 64] : List Nat)) k hk)) _ _ _ (fun i hi => by rw [(show F_10 58 = (F 58) from (hx10.2.2.1 58 (by decide)))]) (fun i hi => by rw [(show F_10 59 = (F 59) from (hx10.2.2.1 59 (by decide)))]) (fun i hi => by rw [(show F_10 60 = (F 60) from (hx10.2.2.1 60 (by decide)))]) (fun i hi => by rw [(show F_10 62 = (F 62) from (hx10.2.2.1 62 (by decide)))]) (fun i hi => by rw [(show F_10 66 = (F 66) from (hx10.2.2.1 66 (by decide)))]) hlo
          have hKS9 : KS T E S0 fo VF F_10 G_10 (Int32.toNatClampNeg x1) (vl T E wN fN d (wSc E S0 d wo)) := KS_cg (fun k hk => by simp only [List.mem_cons, List.not_mem_nil, or_false] at hk; rcases hk with rfl | rfl | rfl | rfl | rfl | rfl; exact (fun i hi => by rw [(show F_10 58 = (F 58) from (hx10.2.2.1 58 (by decide)))]); exact (fun i hi => by rw [(show F_10 59 = (F 59) from (hx10.2.2.1 59 (by decide)))]); exact (fun i hi => by rw [(show F_10 60 = (F 60) from (hx10.2.2.1 60 (by decide)))]); exact (fun i hi => by rw [(show F_10 62 = (F 62) from (hx10.2.2.1 62 (by decide)))]); exact (fun i hi => by rw [(show F_10 64 = (F 64) from (hx10.2.2.1 64 (by decide)))]); exact (fun i hi => by rw [(show F_10 66 = (F 66) from (hx10.2.2.1 66 (by decide)))])) (fun k hk => by simp only [List.mem_cons, List.not_mem_nil, or_false] at hk; rcases hk with rfl | rfl | rfl; exact (fun i hi => by rw [(show G_10 61 = (G 61) from (hx10.2.2.2 61 (by decide)))]); exact (fun i hi => by rw [(show G_10 63 = (G 63) from (hx10.2.2.2 63 (by decide)))]); exact (fun i hi => by rw [(show G_10 65 = (G 65) from (hx10.2.2.2 65 (by decide)))])) hKS
          have e5 : n_10 5 = n 5 := hxx.1 5 (by decide)
          have e57 : (n_10 57).toInt = x1.toInt + 0 := (by (try rw [(show n_10 57 = ((n 57) - 1) from g57_10)]); have q1_ := (T_sub (rfl : ((n 57)).toInt = ((n 57)).toInt) (show (1 : Int32).toInt = 1 from rfl) (by omega)); omega)
          have e57n : (n_10 57).toInt.toNat = (Int32.toNatClampNeg x1) + 0 := by omega
          have hans : z_10 67 = (vl T E wN fN d (wSc E S0 d wo)) := (show z_10 67 = ((G 65) (Int32.toNatClampNeg x1)) from g67_10).trans ((show _ = wl T E wN fN d (wSc E S0 d wo) from (by first | exact wl_y (by omega) (by have z9 := hER.1.1; omega) hwa | exact wl_n (by omega) | (exfalso; omega))).trans (tk_0 hok hvT_ h4 hw1.2 hd1.2 htk hlp (by omega)).symm)
          exact gz_vret rfl dX12_waitsOn_131 (Nat.le_of_ble_eq_true rfl) (Nat.le_of_ble_eq_true rfl) (⟨rfl, _, _, _, _, hS_10, hxx, Or.inl (by rw [e57n, hans]; exact hKS9), by omega, r1, P1, by rw [e57n, e5]; exact hlo9, Nat.le_add_right _ _⟩)
        ·
          try simp only [mIn_0, lgc_lt, lgc_gt, lgc_le, lgc_ge, lgc_eq] at c_104
          try simp only [fl_lt, fl_le, fl_eq, fL_w, fL_lt, fL_le, tm1, tm10k, tm9, tm99, Int32.reduceToInt, Int64.reduceToInt, Int.not_lt, Int.not_le] at c_104
          refine gz_aload_n dX12_waitsOn_107 rfl rfl ?_
          refine gz_iload_n dX12_waitsOn_108 rfl rfl ?_
          refine scX12_413 (k_X12_chooserE (x1 := (F 58 (Int32.toNatClampNeg x1))) hS bA hX hfo hw1) hS.1 ⟨(Nat.le_of_ble_eq_true rfl), (Nat.le_of_ble_eq_true rfl)⟩ ⟨(Nat.le_of_ble_eq_true rfl), (Nat.le_of_ble_eq_true rfl)⟩ rfl rfl (Nat.le_of_ble_eq_true rfl) dX12_waitsOn_109 ?_
          rintro r_c f9 ⟨hrc, y9⟩; rw [y9]
          refine gz_aload_n dX12_waitsOn_112 rfl rfl ?_
          refine mg_179 hS dX12_waitsOn_113 ?_
          refine gz_iload_n dX12_waitsOn_116 rfl rfl ?_
          refine m_lald 63 hS rfl (N := 80) rfl ((by exact vin_T (rfl : x1.toInt = x1.toInt) (by omega) (by omega))) dX12_waitsOn_117 ?_
          refine gz_lload dX12_waitsOn_118 rfl ?_
          refine scX12_470 (k_X12_betterE (x := r_c) (y := ((G 63) (Int32.toNatClampNeg x1))) (v := ((G 65) (Int32.toNatClampNeg x1)))) ⟨(Nat.le_of_ble_eq_true rfl), (Nat.le_of_ble_eq_true rfl)⟩ ⟨(Nat.le_of_ble_eq_true rfl), (Nat.le_of_ble_eq_true rfl)⟩ rfl rfl (Nat.le_of_ble_eq_true rfl) dX12_waitsOn_120 ?_
          rintro r_b f9 ⟨hrb, y9⟩; rw [y9]
          refine gz_goto (tgt := 128) dX12_waitsOn_123 (by decide) ?_
          refine scX12_456 (k_X12_answersE hS) hS.1 ⟨(Nat.le_of_ble_eq_true rfl), (Nat.le_of_ble_eq_true rfl)⟩ ⟨(Nat.le_of_ble_eq_true rfl), (Nat.le_of_ble_eq_true rfl)⟩ rfl rfl (Nat.le_of_ble_eq_true rfl) dX12_waitsOn_128 ?_
          rintro f_12 ⟨n_12, z_12, F_12, G_12, hS_12, hx12, g57_12, g67_12⟩
          have hxx : fx [57] [67] [58, 59, 60, 62, 64] [61] n z F G n_12 z_12 F_12 G_12 := (fx_tr fx_rf hx12 (by decide))
          have hlo9 : FSt F_12 (n 5).toInt dd (Int32.toNatClampNeg x1) r1 P1 := FSt_cg (fun k hk => hxx.2.2.1 k ((by decide : ∀ k : Nat, k ∈ wK → k ∉ ([58, 59, 60, 62, 64] : List Nat)) k hk)) _ _ _ (fun i hi => by rw [(show F_12 58 = (F 58) from (hx12.2.2.1 58 (by decide)))]) (fun i hi => by rw [(show F_12 59 = (F 59) from (hx12.2.2.1 59 (by decide)))]) (fun i hi => by rw [(show F_12 60 = (F 60) from (hx12.2.2.1 60 (by decide)))]) (fun i hi => by rw [(show F_12 62 = (F 62) from (hx12.2.2.1 62 (by decide)))]) (fun i hi => by rw [(show F_12 66 = (F 66) from (hx12.2.2.1 66 (by decide)))]) hlo
          have hKS9 : KS T E S0 fo VF F_12 G_12 (Int32.toNatClampNeg x1) (vl T E wN fN d (wSc E S0 d wo)) := KS_cg (fun k hk => by simp only [List.mem_cons, List.not_mem_nil, or_false] at hk; rcases hk with rfl | rfl | rfl | rfl | rfl | rfl; exact (fun i hi => by rw [(show F_12 58 = (F 58) from (hx12.2.2.1 58 (by decide)))]); exact (fun i hi => by rw [(show F_12 59 = (F 59) from (hx12.2.2.1 59 (by decide)))]); exact (fun i hi => by rw [(show F_12 60 = (F 60) from (hx12.2.2.1 60 (by decide)))]); exact (fun i hi => by rw [(show F_12 62 = (F 62) from (hx12.2.2.1 62 (by decide)))]); exact (fun i hi => by rw [(show F_12 64 = (F 64) from (hx12.2.2.1 64 (by decide)))]); exact (fun i hi => by rw [(show F_12 66 = (F 66) from (hx12.2.2.1 66 (by decide)))])) (fun k hk => by simp only [List.mem_cons, List.not_mem_nil, or_false] at hk; rcases hk with rfl | rfl | rfl; exact (fun i hi => by rw [(show G_12 61 = (G 61) from (hx12.2.2.2 61 (by decide)))]); exact (fun i hi => by rw [(show G_12 63 = (G 63) from (hx12.2.2.2 63 (by decide)))]); exact (fun i hi => by rw [(show G_12 65 = (G 65) from (hx12.2.2.2 65 (by decide)))])) hKS
          have e5 : n_12 5 = n 5 := hxx.1 5 (by decide)
          have e57 : (n_12 57).toInt = x1.toInt + 0 := (by (try rw [(show n_12 57 = ((n 57) - 1) from g57_12)]); have q1_ := (T_sub (rfl : ((n 57)).toInt = ((n 57)).toInt) (show (1 : Int32).toInt = 1 from rfl) (by omega)); omega)
          have e57n : (n_12 57).toInt.toNat = (Int32.toNatClampNeg x1) + 0 := by omega
          have hans : z_12 67 = (vl T E wN fN d (wSc E S0 d wo)) := (show z_12 67 = r_b from g67_12).trans (hrb.trans (by rw [tk_1 hok hvT_ h4 hw1.2 hd1.2 htk hlp (by omega), hrc]; congr 1; exact (by first | exact wl_y (by omega) (by have z9 := hER.1.1; omega) hwa | exact wl_n (by omega) | (exfalso; omega))))
          exact gz_vret rfl dX12_waitsOn_131 (Nat.le_of_ble_eq_true rfl) (Nat.le_of_ble_eq_true rfl) (⟨rfl, _, _, _, _, hS_12, hxx, Or.inl (by rw [e57n, hans]; exact hKS9), by omega, r1, P1, by rw [e57n, e5]; exact hlo9, Nat.le_add_right _ _⟩)
    ·
      try simp only [mIn_0, lgc_lt, lgc_gt, lgc_le, lgc_ge, lgc_eq] at c_27
      try simp only [fl_lt, fl_le, fl_eq, fL_w, fL_lt, fL_le, tm1, tm10k, tm9, tm99, Int32.reduceToInt, Int64.reduceToInt, Int.not_lt, Int.not_le] at c_27
      refine gz_aload_n dX12_waitsOn_30 rfl rfl ?_
      refine mg_176 hS dX12_waitsOn_31 ?_
      refine gz_iload_n dX12_waitsOn_34 rfl rfl ?_
      refine gz_iconst (v := 4) dX12_waitsOn_35 (by decide) ?_
      refine m_iast 62 hS rfl (N := 80) rfl ((by exact vin_T (rfl : x1.toInt = x1.toInt) (by omega) (by omega))) dX12_waitsOn_36 (fun f_13 hS_13q => ?_)
      have hS_13 : mS cy m a f0 n z (va_up F 62 (upd (F 62) (Int32.toNatClampNeg x1) 4)) G f_13 := hS_13q
      refine gz_aload_n dX12_waitsOn_37 rfl rfl ?_
      refine gz_iload_n dX12_waitsOn_38 rfl rfl ?_
      refine gz_aload_n dX12_waitsOn_39 rfl rfl ?_
      refine mg_167 hS_13 dX12_waitsOn_40 ?_
      refine gz_iload_n dX12_waitsOn_43 rfl rfl ?_
      refine m_iald 59 hS_13 rfl (N := 80) rfl ((by exact vin_T (rfl : x1.toInt = x1.toInt) (by omega) (by omega))) dX12_waitsOn_44 ?_
      refine gz_ev (w := .int ((F 59) (Int32.toNatClampNeg x1))) rfl ?_
      refine gz_iconst (v := 1) dX12_waitsOn_45 (by decide) ?_
      refine gz_iadd dX12_waitsOn_46 ?_
      refine gz_aload_n dX12_waitsOn_47 rfl rfl ?_
      refine mg_170 hS_13 dX12_waitsOn_48 ?_
      refine gz_iload_n dX12_waitsOn_51 rfl rfl ?_
      refine m_iald 60 hS_13 rfl (N := 80) rfl ((by exact vin_T (rfl : x1.toInt = x1.toInt) (by omega) (by omega))) dX12_waitsOn_52 ?_
      refine gz_ev (w := .int ((F 60) (Int32.toNatClampNeg x1))) rfl ?_
      refine gz_aload_n dX12_waitsOn_53 rfl rfl ?_
      refine mg_151 hS_13 dX12_waitsOn_54 ?_
      refine gz_ev (w := .int (n 53)) rfl ?_
      refine gz_imul dX12_waitsOn_57 ?_
      refine gz_aload_n dX12_waitsOn_58 rfl rfl ?_
      refine mg_189 hS_13 dX12_waitsOn_59 ?_
      refine gz_iload_n dX12_waitsOn_62 rfl rfl ?_
      refine m_iald 66 hS_13 rfl (N := 80) rfl ((by exact vin_T (rfl : x1.toInt = x1.toInt) (by omega) (by omega))) dX12_waitsOn_63 ?_
      refine gz_ev (w := .int ((F 66) (Int32.toNatClampNeg x1))) rfl ?_
      refine gz_iadd dX12_waitsOn_64 ?_
      refine gz_aload_n dX12_waitsOn_65 rfl rfl ?_
      refine mg_173 hS_13 dX12_waitsOn_66 ?_
      refine gz_iload_n dX12_waitsOn_69 rfl rfl ?_
      refine m_lald 61 hS_13 rfl (N := 80) rfl ((by exact vin_T (rfl : x1.toInt = x1.toInt) (by omega) (by omega))) dX12_waitsOn_70 ?_
      refine gz_ev (w := .long ((G 61) (Int32.toNatClampNeg x1))) rfl ?_
      have qd : ((F 59 (Int32.toNatClampNeg x1)) + 1).toInt = (F 59 (Int32.toNatClampNeg x1)).toInt + 1 := T_add rfl (show (1 : Int32).toInt = 1 from rfl) (by omega)
      have qm := mul_sm (x := (F 60 (Int32.toNatClampNeg x1))) (y := n 53) (by omega) a53
      have qx : ((F 60 (Int32.toNatClampNeg x1)) * (n 53) + (F 66 (Int32.toNatClampNeg x1))).toInt = (F 60 (Int32.toNatClampNeg x1)).toInt * (n 53).toInt + (F 66 (Int32.toNatClampNeg x1)).toInt := T_add qm.1 rfl (by omega)
      have ql := wld3 (b := (n 53).toInt) (wd := (F 60 (Int32.toNatClampNeg x1)).toInt) (x := (F 66 (Int32.toNatClampNeg x1)).toInt) (d := (F 59 (Int32.toNatClampNeg x1)).toInt.toNat) a53 fo_ (by omega)
      have qyz : y < E.2.2.1 := by have z9 := hER.1.1; omega
      have qwo : ((F 60 (Int32.toNatClampNeg x1)) * (n 53) + (F 66 (Int32.toNatClampNeg x1))).toInt = ((wo * E.2.2.1 + y : Nat) : Int) := by rw [qx, hwo1, hER.1.1, hy.1]; push_cast; rfl
      refine scX12_466 (k_X12_pushesE (x1 := ((F 58) (Int32.toNatClampNeg x1))) (x2 := (((F 59) (Int32.toNatClampNeg x1)) + 1)) (x3 := ((((F 60) (Int32.toNatClampNeg x1)) * (n 53)) + ((F 66) (Int32.toNatClampNeg x1)))) (y := ((G 61) (Int32.toNatClampNeg x1))) hS_13 (by omega)) hS_13.1 ⟨(Nat.le_of_ble_eq_true rfl), (Nat.le_of_ble_eq_true rfl)⟩ ⟨(Nat.le_of_ble_eq_true rfl), (Nat.le_of_ble_eq_true rfl)⟩ rfl rfl (Nat.le_of_ble_eq_true rfl) dX12_waitsOn_71 ?_
      rintro f_14 ⟨n_14, z_14, F_14, G_14, hS_14, hx14, g57_14, g58_14, g59_14, g60_14, g61_14, g62_14, g64_14⟩
      have hxx : fx [57] [67] [58, 59, 60, 62, 64] [61] n z F G n_14 z_14 F_14 G_14 := (fx_tr (fx_F fx_rf (by decide)) hx14 (by decide))
      have hlo9 : FSt F_14 (n 5).toInt dd (Int32.toNatClampNeg x1) r1 P1 := FSt_cg (fun k hk => hxx.2.2.1 k ((by decide : ∀ k : Nat, k ∈ wK → k ∉ ([58, 59, 60, 62, 64] : List Nat)) k hk)) _ _ _ (fun i hi => by rw [(show F_14 58 = (upd (F 58) (Int32.toNatClampNeg (n 57)) ((F 58) (Int32.toNatClampNeg x1))) from g58_14)]; rw [updE, if_neg (by omega)]) (fun i hi => by rw [(show F_14 59 = (upd (F 59) (Int32.toNatClampNeg (n 57)) (((F 59) (Int32.toNatClampNeg x1)) + 1)) from g59_14)]; rw [updE, if_neg (by omega)]) (fun i hi => by rw [(show F_14 60 = (upd (F 60) (Int32.toNatClampNeg (n 57)) ((((F 60) (Int32.toNatClampNeg x1)) * (n 53)) + ((F 66) (Int32.toNatClampNeg x1)))) from g60_14)]; rw [updE, if_neg (by omega)]) (fun i hi => by rw [(show F_14 62 = (upd (upd (F 62) (Int32.toNatClampNeg x1) 4) (Int32.toNatClampNeg (n 57)) 0) from g62_14)]; rw [updE, if_neg (by omega)]; rw [updE, if_neg (by omega)]) (fun i hi => by rw [(show F_14 66 = (F 66) from (hx14.2.2.1 66 (by decide)))]) hlo
      have hKS9 : KS T E S0 fo VF F_14 G_14 (Int32.toNatClampNeg x1) (vl T E wN fN d (wSc E S0 d wo)) := KS_cg (fun k hk => by simp only [List.mem_cons, List.not_mem_nil, or_false] at hk; rcases hk with rfl | rfl | rfl | rfl | rfl | rfl; exact (fun i hi => by rw [(show F_14 58 = (upd (F 58) (Int32.toNatClampNeg (n 57)) ((F 58) (Int32.toNatClampNeg x1))) from g58_14)]; rw [updE, if_neg (by omega)]); exact (fun i hi => by rw [(show F_14 59 = (upd (F 59) (Int32.toNatClampNeg (n 57)) (((F 59) (Int32.toNatClampNeg x1)) + 1)) from g59_14)]; rw [updE, if_neg (by omega)]); exact (fun i hi => by rw [(show F_14 60 = (upd (F 60) (Int32.toNatClampNeg (n 57)) ((((F 60) (Int32.toNatClampNeg x1)) * (n 53)) + ((F 66) (Int32.toNatClampNeg x1)))) from g60_14)]; rw [updE, if_neg (by omega)]); exact (fun i hi => by rw [(show F_14 62 = (upd (upd (F 62) (Int32.toNatClampNeg x1) 4) (Int32.toNatClampNeg (n 57)) 0) from g62_14)]; rw [updE, if_neg (by omega)]; rw [updE, if_neg (by omega)]); exact (fun i hi => by rw [(show F_14 64 = (upd (F 64) (Int32.toNatClampNeg (n 57)) 0) from g64_14)]; rw [updE, if_neg (by omega)]); exact (fun i hi => by rw [(show F_14 66 = (F 66) from (hx14.2.2.1 66 (by decide)))])) (fun k hk => by simp only [List.mem_cons, List.not_mem_nil, or_false] at hk; rcases hk with rfl | rfl | rfl; exact (fun i hi => by rw [(show G_14 61 = (vp_updL (G 61) (Int32.toNatClampNeg (n 57)) ((G 61) (Int32.toNatClampNeg x1))) from g61_14)]; rw [updLE, if_neg (by omega)]); exact (fun i hi => by rw [(show G_14 63 = (G 63) from (hx14.2.2.2 63 (by decide)))]); exact (fun i hi => by rw [(show G_14 65 = (G 65) from (hx14.2.2.2 65 (by decide)))])) hKS
      have e5 : n_14 5 = n 5 := hxx.1 5 (by decide)
      have e57 : (n_14 57).toInt = x1.toInt + 2 := (by (try rw [(show n_14 57 = ((n 57) + 1) from g57_14)]); have q1_ := (T_add (rfl : ((n 57)).toInt = ((n 57)).toInt) (show (1 : Int32).toInt = 1 from rfl) (by omega)); omega)
      have e57n : (n_14 57).toInt.toNat = (Int32.toNatClampNeg x1) + 2 := by omega
      have vhta58 : F_14 58 (Int32.toNatClampNeg x1) = (F 58 (Int32.toNatClampNeg x1)) := (by rw [(show F_14 58 = (upd (F 58) (Int32.toNatClampNeg (n 57)) ((F 58) (Int32.toNatClampNeg x1))) from g58_14)]; rw [updE, if_neg (by omega)])
      have vhta59 : F_14 59 (Int32.toNatClampNeg x1) = (F 59 (Int32.toNatClampNeg x1)) := (by rw [(show F_14 59 = (upd (F 59) (Int32.toNatClampNeg (n 57)) (((F 59) (Int32.toNatClampNeg x1)) + 1)) from g59_14)]; rw [updE, if_neg (by omega)])
      have vhta60 : F_14 60 (Int32.toNatClampNeg x1) = (F 60 (Int32.toNatClampNeg x1)) := (by rw [(show F_14 60 = (upd (F 60) (Int32.toNatClampNeg (n 57)) ((((F 60) (Int32.toNatClampNeg x1)) * (n 53)) + ((F 66) (Int32.toNatClampNeg x1)))) from g60_14)]; rw [updE, if_neg (by omega)])
      have vhta62 : F_14 62 (Int32.toNatClampNeg x1) = 4 := (by rw [(show F_14 62 = (upd (upd (F 62) (Int32.toNatClampNeg x1) 4) (Int32.toNatClampNeg (n 57)) 0) from g62_14)]; rw [updE, if_neg (by omega)]; rw [updE, if_pos rfl])
      have vhta64 : F_14 64 (Int32.toNatClampNeg x1) = (F 64 (Int32.toNatClampNeg x1)) := (by rw [(show F_14 64 = (upd (F 64) (Int32.toNatClampNeg (n 57)) 0) from g64_14)]; rw [updE, if_neg (by omega)])
      have vhta66 : F_14 66 (Int32.toNatClampNeg x1) = (F 66 (Int32.toNatClampNeg x1)) := (by rw [(show F_14 66 = (F 66) from (hx14.2.2.1 66 (by decide)))])
      have vhta61 : G_14 61 (Int32.toNatClampNeg x1) = (G 61 (Int32.toNatClampNeg x1)) := (by rw [(show G_14 61 = (vp_updL (G 61) (Int32.toNatClampNeg (n 57)) ((G 61) (Int32.toNatClampNeg x1))) from g61_14)]; rw [updLE, if_neg (by omega)])
      have vhta63 : G_14 63 (Int32.toNatClampNeg x1) = (G 63 (Int32.toNatClampNeg x1)) := (by rw [(show G_14 63 = (G 63) from (hx14.2.2.2 63 (by decide)))])
      have vhta65 : G_14 65 (Int32.toNatClampNeg x1) = (G 65 (Int32.toNatClampNeg x1)) := (by rw [(show G_14 65 = (G 65) from (hx14.2.2.2 65 (by decide)))])
      have hta : frV F (n 5).toInt dd (F_14 58 (Int32.toNatClampNeg x1)) (F_14 59 (Int32.toNatClampNeg x1)) (F_14 60 (Int32.toNatClampNeg x1)) (F_14 62 (Int32.toNatClampNeg x1)) (F_14 66 (Int32.toNatClampNeg x1)) r ((2 - (F 66 (Int32.toNatClampNeg x1)).toInt.toNat) * (cR (r - 1) + 1) + 1) := by rw [vhta58, vhta59, vhta60, vhta62, vhta66]; exact ⟨fw, fd, fo_, fr_, Or.inr (Or.inr (Or.inr (Or.inr ⟨rfl, by omega, rfl⟩)))⟩
      have hs1 : FSt F_14 (n 5).toInt dd ((Int32.toNatClampNeg x1) + 1) r (P1 + ((2 - (F 66 (Int32.toNatClampNeg x1)).toInt.toNat) * (cR (r - 1) + 1) + 1)) := ⟨r1, P1, ((2 - (F 66 (Int32.toNatClampNeg x1)).toInt.toNat) * (cR (r - 1) + 1) + 1), hlo9, by omega, frV_w (fun k hk => hxx.2.2.1 k ((by decide : ∀ k : Nat, k ∈ wK → k ∉ ([58, 59, 60, 62, 64] : List Nat)) k hk)) hta, rfl⟩
      have qn1 : (Int32.toNatClampNeg (n 57)) = (Int32.toNatClampNeg x1) + 1 := by omega
      have vhtb58 : F_14 58 (Int32.toNatClampNeg (n 57)) = ((F 58) (Int32.toNatClampNeg x1)) := (by rw [(show F_14 58 = (upd (F 58) (Int32.toNatClampNeg (n 57)) ((F 58) (Int32.toNatClampNeg x1))) from g58_14)]; rw [updE, if_pos rfl])
      have vhtb59 : F_14 59 (Int32.toNatClampNeg (n 57)) = (((F 59) (Int32.toNatClampNeg x1)) + 1) := (by rw [(show F_14 59 = (upd (F 59) (Int32.toNatClampNeg (n 57)) (((F 59) (Int32.toNatClampNeg x1)) + 1)) from g59_14)]; rw [updE, if_pos rfl])
      have vhtb60 : F_14 60 (Int32.toNatClampNeg (n 57)) = ((((F 60) (Int32.toNatClampNeg x1)) * (n 53)) + ((F 66) (Int32.toNatClampNeg x1))) := (by rw [(show F_14 60 = (upd (F 60) (Int32.toNatClampNeg (n 57)) ((((F 60) (Int32.toNatClampNeg x1)) * (n 53)) + ((F 66) (Int32.toNatClampNeg x1)))) from g60_14)]; rw [updE, if_pos rfl])
      have vhtb62 : F_14 62 (Int32.toNatClampNeg (n 57)) = 0 := (by rw [(show F_14 62 = (upd (upd (F 62) (Int32.toNatClampNeg x1) 4) (Int32.toNatClampNeg (n 57)) 0) from g62_14)]; rw [updE, if_pos rfl])
      have vhtb64 : F_14 64 (Int32.toNatClampNeg (n 57)) = 0 := (by rw [(show F_14 64 = (upd (F 64) (Int32.toNatClampNeg (n 57)) 0) from g64_14)]; rw [updE, if_pos rfl])
      have vhtb66 : F_14 66 (Int32.toNatClampNeg (n 57)) = (F 66 (Int32.toNatClampNeg (n 57))) := (by rw [(show F_14 66 = (F 66) from (hx14.2.2.1 66 (by decide)))])
      have vhtb61 : G_14 61 (Int32.toNatClampNeg (n 57)) = ((G 61) (Int32.toNatClampNeg x1)) := (by rw [(show G_14 61 = (vp_updL (G 61) (Int32.toNatClampNeg (n 57)) ((G 61) (Int32.toNatClampNeg x1))) from g61_14)]; rw [updLE, if_pos rfl])
      have vhtb63 : G_14 63 (Int32.toNatClampNeg (n 57)) = (G 63 (Int32.toNatClampNeg (n 57))) := (by rw [(show G_14 63 = (G 63) from (hx14.2.2.2 63 (by decide)))])
      have vhtb65 : G_14 65 (Int32.toNatClampNeg (n 57)) = (G 65 (Int32.toNatClampNeg (n 57))) := (by rw [(show G_14 65 = (G 65) from (hx14.2.2.2 65 (by decide)))])
      have htb : frV F (n 5).toInt dd (F_14 58 (Int32.toNatClampNeg (n 57))) (F_14 59 (Int32.toNatClampNeg (n 57))) (F_14 60 (Int32.toNatClampNeg (n 57))) (F_14 62 (Int32.toNatClampNeg (n 57))) (F_14 66 (Int32.toNatClampNeg (n 57))) (r - 1) (cR (r - 1)) := by rw [vhtb58, vhtb59, vhtb60, vhtb62, vhtb66]; exact ⟨fw, by omega, (by rw [qx, show ((F 59 (Int32.toNatClampNeg x1)) + 1).toInt.toNat = (F 59 (Int32.toNatClampNeg x1)).toInt.toNat + 1 by omega]; exact ql), by omega, Or.inl ⟨rfl, rfl⟩⟩
      rw [qn1] at vhtb58
      rw [qn1] at vhtb59
      rw [qn1] at vhtb60
      rw [qn1] at vhtb62
      rw [qn1] at vhtb64
      rw [qn1] at vhtb66
      rw [qn1] at vhtb61
      rw [qn1] at vhtb63
      rw [qn1] at vhtb65
      rw [qn1] at htb
      have hs2 : FSt F_14 (n 5).toInt dd ((Int32.toNatClampNeg x1) + 1 + 1) (r - 1) (P1 + ((2 - (F 66 (Int32.toNatClampNeg x1)).toInt.toNat) * (cR (r - 1) + 1) + 1) + (cR (r - 1))) := ⟨_, _, (cR (r - 1)), hs1, by omega, frV_w (fun k hk => hxx.2.2.1 k ((by decide : ∀ k : Nat, k ∈ wK → k ∉ ([58, 59, 60, 62, 64] : List Nat)) k hk)) htb, rfl⟩
      have hK2 : KS T E S0 fo VF F_14 G_14 ((Int32.toNatClampNeg x1) + 1) (vl T E wN fN (d + 1) (wSc E S0 (d + 1) (wo * E.2.2.1 + y))) := ⟨wN, fN, d, wo, (by unfold fD; rw [vhta58, vhta59, vhta60, vhta61]; exact ⟨hw1, hd1, hwo1, hfa1⟩), hlp, hKS9, by rw [vhta62, vhta64, vhta66, vhta63, vhta65]; exact Or.inr (Or.inr ⟨rfl, by omega, ⟨y, hy.1, qyz, hwa, by rw [wSc_up qyz]; rfl⟩, htk⟩)⟩
      have hWI : WI T E S0 fo VF F_14 G_14 (n_14 57).toInt.toNat (z_14 67) := Or.inr ⟨(Int32.toNatClampNeg x1) + 1, wN, fN, (d + 1), (wo * E.2.2.1 + y), e57n, hK2, (by unfold fD; rw [vhtb58, vhtb59, vhtb60, vhtb61]; exact ⟨hw1, ⟨by rw [qd]; omega, by omega⟩, qwo, hfa1⟩), Or.inl ⟨by rw [vhtb62]; rfl, by rw [vhtb64]; rfl⟩⟩
      exact gz_vret rfl dX12_waitsOn_74 (Nat.le_of_ble_eq_true rfl) (Nat.le_of_ble_eq_true rfl) (⟨rfl, _, _, _, _, hS_14, hxx, hWI, by omega, (r - 1), _, by rw [e57n, e5]; exact hs2, (by have z1 : (3 - (F 66 (Int32.toNatClampNeg x1)).toInt.toNat) * (cR (r - 1) + 1) = (2 - (F 66 (Int32.toNatClampNeg x1)).toInt.toNat) * (cR (r - 1) + 1) + (cR (r - 1) + 1) := (by rw [show 3 - (F 66 (Int32.toNatClampNeg x1)).toInt.toNat = (2 - (F 66 (Int32.toNatClampNeg x1)).toInt.toNat) + 1 by omega, Nat.add_mul, Nat.one_mul]); omega)⟩)

set_option maxHeartbeats 4000000 in
set_option maxRecDepth 100000 in
theorem k_X12_entersE {l : Launch} {D : va_G} {cy : Nat → ClassId} {b : Nat} {f : gMem} {m : Nat} {a : Nat → Nat} {f0 : gMem} {n : Nat → Int32} {z : Nat → Int64} {F : Nat → Nat → Int32} {G : Nat → Nat → Int64}  {x1 x2 x3 : Int32}{r1 P1 r p : Nat} {dd : Int} {T : List Hd} {E : We} {S0 : Sn} {fo : Nat} {VF : Int64} {wN : Nat} {fN : Int} {d wo : Nat} (hS : mS cy m a f0 n z F G f) (a5 : 0 ≤ (n 5).toInt ∧ (n 5).toInt ≤ 20) (bA : rAll F) (bW : rW F (n 5).toInt) (a53 : 1 ≤ (n 53).toInt ∧ (n 53).toInt ≤ 3) (hx1 : 0 ≤ x1.toInt ∧ (n 57).toInt = x1.toInt + 1) (hd : x2.toInt = dd ∧ dd ≤ 4) (hlo : FSt F (n 5).toInt dd (Int32.toNatClampNeg x1) r1 P1) (hfr : frV F (n 5).toInt dd (F 58 (Int32.toNatClampNeg x1)) (F 59 (Int32.toNatClampNeg x1)) (F 60 (Int32.toNatClampNeg x1)) (F 62 (Int32.toNatClampNeg x1)) (F 66 (Int32.toNatClampNeg x1)) r p) (hr1 : r < r1) (hat : (F 62 (Int32.toNatClampNeg x1)).toInt = 0) (hX : LX F fo T) (hfo : fo < 20) (hER : eR E n F) (hDD : x2.toInt = (E.2.2.2.2.2 : Int)) (hKS : KS T E S0 fo VF F G (Int32.toNatClampNeg x1) (vl T E wN fN d (wSc E S0 d wo))) (hfD : fD T E fo F G (Int32.toNatClampNeg x1) wN fN d wo) (hS0 : stR0 S0 n F) (hSO : sOk 0 S0 ∧ eB E) (a0 : 0 ≤ (n 0).toInt ∧ (n 0).toInt ≤ 399) (hmd : x3.toInt = E.2.2.2.2.1) (htk0 : (F 64 (Int32.toNatClampNeg x1)).toInt = 0) : gC l D cy b yX12_enters cX12_enters 6 none 4 0 0 [.ref m, .int x1, .int x2, .int x3] f (pV fun f2 => ∃ (n2 : Nat → Int32) (z2 : Nat → Int64) (F2 : Nat → Nat → Int32) (G2 : Nat → Nat → Int64), mS cy m a f0 n2 z2 F2 G2 f2 ∧ fx [57] [29, 67] [58, 59, 60, 62, 64] [28, 61] n z F G n2 z2 F2 G2 ∧ WI T E S0 fo VF F2 G2 (n2 57).toInt.toNat (z2 67) ∧ 0 ≤ (n2 57).toInt ∧ ∃ r9 P9 : Nat, FSt F2 (n2 5).toInt dd (n2 57).toInt.toNat r9 P9 ∧ P9 < P1 + p) := by
  obtain ⟨fw, fd, fo_, fr_, fa⟩ := id hfr
  have qv := vW_lt bW a5 fw
  have qz := szF_pos bW fw
  have q3 := pw3 (d := (F 59 (Int32.toNatClampNeg x1)).toInt.toNat) (by omega)
  have qcx := clI (i := x1) (by omega)
  have qcn := clI (i := n 57) (by omega)
  have qlen := FSt_len _ _ _ hlo
  obtain ⟨hw1, hd1, hwo1, hfa1⟩ := id hfD
  have hok := hX.1.1
  have hvT_ := hX.1.2.1
  have h4 := hX.1.2.2.2.1
  have hD4 : d ≤ 4 := by omega
  have hp : p = cR r := by rcases fa with z | z | z | z | z <;> first | exact z.2 | (exfalso; omega)
  have hrp : 1 ≤ r := by omega
  have hcs := cR_s hrp
  have qk : 0 ≤ (F 7 (Int32.toNatClampNeg (F 58 (Int32.toNatClampNeg x1)))).toInt ∧ (F 7 (Int32.toNatClampNeg (F 58 (Int32.toNatClampNeg x1)))).toInt ≤ 10 := knd_ok bW fw
  obtain ⟨xd, xv, xo1, xo2, _⟩ := LX_at bA hfo hX hw1.2
  have ecu : Int32.toNatClampNeg (F 58 (Int32.toNatClampNeg x1)) = 40 * fo + wN := by rw [clN]; omega
  rw [← ecu] at xd xo1 xo2
  have qkd := xd.1
  have hak := arH_k xv
  have hgl := gr_lk hok hvT_ hw1.2
  have hSk := sOk_w (d := d) (wo := wo) hSO.1 hSO.2 hER.1.2
  have hSb : -9000000000000000000 ≤ (wSc E S0 d wo).1 ∧ (wSc E S0 d wo).1 ≤ 9000000000000000000 := by have z9 := hSk.1; omega
  refine gC_of (by decide) (Nat.le_of_ble_eq_true rfl) ?_
  show gG l _ _ _ D cy b cX12_enters 6 _ RX12 "enters" 0 0 f 0 [(0, .ref m), (1, .int x1), (2, .int x2), (3, .int x3)] []
  refine gz_aload_n dX12_enters_0 rfl rfl ?_
  refine mg_164 hS dX12_enters_1 ?_
  refine gz_iload_n dX12_enters_4 rfl rfl ?_
  refine m_iald 58 hS rfl (N := 80) rfl ((by exact vin_T (rfl : x1.toInt = x1.toInt) (by omega) (by omega))) dX12_enters_5 ?_
  refine gz_istore (lv' := [(4, .int ((F 58) (Int32.toNatClampNeg x1))), (0, .ref m), (1, .int x1), (2, .int x2), (3, .int x3)]) dX12_enters_6 (by decide) rfl ?_
  refine gz_aload_n dX12_enters_8 rfl rfl ?_
  refine gz_aload_n dX12_enters_9 rfl rfl ?_
  refine mg_167 hS dX12_enters_10 ?_
  refine gz_iload_n dX12_enters_13 rfl rfl ?_
  refine m_iald 59 hS rfl (N := 80) rfl ((by exact vin_T (rfl : x1.toInt = x1.toInt) (by omega) (by omega))) dX12_enters_14 ?_
  refine gz_aload_n dX12_enters_15 rfl rfl ?_
  refine mg_170 hS dX12_enters_16 ?_
  refine gz_iload_n dX12_enters_19 rfl rfl ?_
  refine m_iald 60 hS rfl (N := 80) rfl ((by exact vin_T (rfl : x1.toInt = x1.toInt) (by omega) (by omega))) dX12_enters_20 ?_
  refine scX12_453 (k_X12_asInE (x1 := (F 59 (Int32.toNatClampNeg x1))) (x2 := (F 60 (Int32.toNatClampNeg x1))) (dN := d) (wo := wo) hS a0 hER hS0 ⟨hd1.1, hD4⟩ hwo1) hS.1 ⟨(Nat.le_of_ble_eq_true rfl), (Nat.le_of_ble_eq_true rfl)⟩ ⟨(Nat.le_of_ble_eq_true rfl), (Nat.le_of_ble_eq_true rfl)⟩ rfl rfl (Nat.le_of_ble_eq_true rfl) dX12_enters_21 ?_
  rintro f_1 ⟨n_1, z_1, F_1, G_1, hS_1, hx1, hsR_1⟩
  have hxa := hx1
  have e5a : n_1 5 = n 5 := hxa.1 5 (by decide)
  have bAa := rAll_w (fun k hk => hxa.2.2.1 k ((by decide : ∀ k : Nat, k ∈ wK → k ∉ ([] : List Nat)) k hk)) bA
  have hXa := LX_cg (fun r h1 h2 => hxa.2.2.1 r (by simp)) hX
  have hsRa := hsR_1
  refine gz_aload_n dX12_enters_24 rfl rfl ?_
  refine gz_iload dX12_enters_25 rfl ?_
  refine scX12_374 (k_X12_isLapsedE (x1 := (F 58 (Int32.toNatClampNeg x1))) (S := (wSc E S0 d wo)) hS_1 bAa hXa hsRa hfo hw1) hS_1.1 ⟨(Nat.le_of_ble_eq_true rfl), (Nat.le_of_ble_eq_true rfl)⟩ ⟨(Nat.le_of_ble_eq_true rfl), (Nat.le_of_ble_eq_true rfl)⟩ rfl rfl (Nat.le_of_ble_eq_true rfl) dX12_enters_27 ?_
  rintro r_2 f9 ⟨hb_2, y9⟩; rw [y9]
  rcases hb_2 with ⟨hr2, hlp⟩ | ⟨hr2, hlp⟩
  ·
    refine gz_ev (w := .int 1) (congrArg Value.int hr2) ?_
    refine gz_if_ne (tgt := 43) dX12_enters_30 (by decide) (fun c_30 => ?_) (fun c_30 => ?_)
    ·
      try simp only [mIn_0, lgc_lt, lgc_gt, lgc_le, lgc_ge, lgc_eq] at c_30
      try simp only [fl_lt, fl_le, fl_eq, fL_w, fL_lt, fL_le, tm1, tm10k, tm9, tm99, Int32.reduceToInt, Int64.reduceToInt, Int.not_lt, Int.not_le] at c_30
      refine gz_aload_n dX12_enters_43 rfl rfl ?_
      refine gz_lconst (v := 0) dX12_enters_44 (by decide) ?_
      refine scX12_456 (k_X12_answersE hS_1) hS_1.1 ⟨(Nat.le_of_ble_eq_true rfl), (Nat.le_of_ble_eq_true rfl)⟩ ⟨(Nat.le_of_ble_eq_true rfl), (Nat.le_of_ble_eq_true rfl)⟩ rfl rfl (Nat.le_of_ble_eq_true rfl) dX12_enters_45 ?_
      rintro f_3 ⟨n_3, z_3, F_3, G_3, hS_3, hx3, g57_3, g67_3⟩
      try simp only [(show n_1 57 = (n 57) from (hx1.1 57 (by decide)))] at g57_3 g67_3
      have hxx : fx [57] [29, 67] [58, 59, 60, 62, 64] [28, 61] n z F G n_3 z_3 F_3 G_3 := (fx_tr (fx_tr fx_rf hx1 (by decide)) hx3 (by decide))
      have hlo9 : FSt F_3 (n 5).toInt dd (Int32.toNatClampNeg x1) r1 P1 := FSt_cg (fun k hk => hxx.2.2.1 k ((by decide : ∀ k : Nat, k ∈ wK → k ∉ ([58, 59, 60, 62, 64] : List Nat)) k hk)) _ _ _ (fun i hi => by rw [(show F_3 58 = (F 58) from ((hx3.2.2.1 58 (by decide)).trans (hx1.2.2.1 58 (by decide))))]) (fun i hi => by rw [(show F_3 59 = (F 59) from ((hx3.2.2.1 59 (by decide)).trans (hx1.2.2.1 59 (by decide))))]) (fun i hi => by rw [(show F_3 60 = (F 60) from ((hx3.2.2.1 60 (by decide)).trans (hx1.2.2.1 60 (by decide))))]) (fun i hi => by rw [(show F_3 62 = (F 62) from ((hx3.2.2.1 62 (by decide)).trans (hx1.2.2.1 62 (by decide))))]) (fun i hi => by rw [(show F_3 66 = (F 66) from ((hx3.2.2.1 66 (by decide)).trans (hx1.2.2.1 66 (by decide))))]) hlo
      have hKS9 : KS T E S0 fo VF F_3 G_3 (Int32.toNatClampNeg x1) (vl T E wN fN d (wSc E S0 d wo)) := KS_cg (fun k hk => by simp only [List.mem_cons, List.not_mem_nil, or_false] at hk; rcases hk with rfl | rfl | rfl | rfl | rfl | rfl; exact (fun i hi => by rw [(show F_3 58 = (F 58) from ((hx3.2.2.1 58 (by decide)).trans (hx1.2.2.1 58 (by decide))))]); exact (fun i hi => by rw [(show F_3 59 = (F 59) from ((hx3.2.2.1 59 (by decide)).trans (hx1.2.2.1 59 (by decide))))]); exact (fun i hi => by rw [(show F_3 60 = (F 60) from ((hx3.2.2.1 60 (by decide)).trans (hx1.2.2.1 60 (by decide))))]); exact (fun i hi => by rw [(show F_3 62 = (F 62) from ((hx3.2.2.1 62 (by decide)).trans (hx1.2.2.1 62 (by decide))))]); exact (fun i hi => by rw [(show F_3 64 = (F 64) from ((hx3.2.2.1 64 (by decide)).trans (hx1.2.2.1 64 (by decide))))]); exact (fun i hi => by rw [(show F_3 66 = (F 66) from ((hx3.2.2.1 66 (by decide)).trans (hx1.2.2.1 66 (by decide))))])) (fun k hk => by simp only [List.mem_cons, List.not_mem_nil, or_false] at hk; rcases hk with rfl | rfl | rfl; exact (fun i hi => by rw [(show G_3 61 = (G 61) from ((hx3.2.2.2 61 (by decide)).trans (hx1.2.2.2 61 (by decide))))]); exact (fun i hi => by rw [(show G_3 63 = (G 63) from ((hx3.2.2.2 63 (by decide)).trans (hx1.2.2.2 63 (by decide))))]); exact (fun i hi => by rw [(show G_3 65 = (G 65) from ((hx3.2.2.2 65 (by decide)).trans (hx1.2.2.2 65 (by decide))))])) hKS
      have e5 : n_3 5 = n 5 := hxx.1 5 (by decide)
      have e57 : (n_3 57).toInt = x1.toInt + 0 := (by (try rw [(show n_3 57 = ((n 57) - 1) from g57_3)]); have q1_ := (T_sub (rfl : ((n 57)).toInt = ((n 57)).toInt) (show (1 : Int32).toInt = 1 from rfl) (by omega)); omega)
      have e57n : (n_3 57).toInt.toNat = (Int32.toNatClampNeg x1) + 0 := by omega
      have hans : z_3 67 = (vl T E wN fN d (wSc E S0 d wo)) := (show z_3 67 = 0 from g67_3).trans ((vl_0 hok hvT_ h4 hw1.2 hd1.2 (Or.inl hlp)).symm)
      exact gz_vret rfl dX12_enters_48 (Nat.le_of_ble_eq_true rfl) (Nat.le_of_ble_eq_true rfl) (⟨rfl, _, _, _, _, hS_3, hxx, Or.inl (by rw [e57n, hans]; exact hKS9), by omega, r1, P1, by rw [e57n, e5]; exact hlo9, (by omega)⟩)
    · exact absurd c_30 (by decide)
  ·
    refine gz_ev (w := .int 0) (congrArg Value.int hr2) ?_
    refine gz_if_ne (tgt := 43) dX12_enters_30 (by decide) (fun c_30 => ?_) (fun c_30 => ?_)
    · exact absurd c_30 (by decide)
    ·
      try simp only [mIn_0, lgc_lt, lgc_gt, lgc_le, lgc_ge, lgc_eq] at c_30
      try simp only [fl_lt, fl_le, fl_eq, fL_w, fL_lt, fL_le, tm1, tm10k, tm9, tm99, Int32.reduceToInt, Int64.reduceToInt, Int.not_lt, Int.not_le] at c_30
      refine gz_aload_n dX12_enters_33 rfl rfl ?_
      refine mg_20 hS_1 dX12_enters_34 ?_
      refine gz_iload dX12_enters_37 rfl ?_
      refine m_iald 7 hS_1 rfl (N := 880) rfl ((by exact vin_T (rfl : (((F 58) (Int32.toNatClampNeg x1))).toInt = (((F 58) (Int32.toNatClampNeg x1))).toInt) (by omega) (by omega))) dX12_enters_39 ?_
      refine gz_ev (w := .int ((F 7) (Int32.toNatClampNeg ((F 58) (Int32.toNatClampNeg x1))))) (congrArg Value.int (congrFun (hx1.2.2.1 7 (by decide)) _)) ?_
      refine gz_if_ne (tgt := 49) dX12_enters_40 (by decide) (fun c_40 => ?_) (fun c_40 => ?_)
      ·
        try simp only [mIn_0, lgc_lt, lgc_gt, lgc_le, lgc_ge, lgc_eq] at c_40
        try simp only [fl_lt, fl_le, fl_eq, fL_w, fL_lt, fL_le, tm1, tm10k, tm9, tm99, Int32.reduceToInt, Int64.reduceToInt, Int.not_lt, Int.not_le] at c_40
        refine gz_aload_n dX12_enters_49 rfl rfl ?_
        refine gz_iload dX12_enters_50 rfl ?_
        refine scX12_377 (k_X12_leadsToE (x1 := (F 58 (Int32.toNatClampNeg x1))) (S := (wSc E S0 d wo)) hS_1 bAa hXa hsRa hfo hw1 hSb) hS_1.1 ⟨(Nat.le_of_ble_eq_true rfl), (Nat.le_of_ble_eq_true rfl)⟩ ⟨(Nat.le_of_ble_eq_true rfl), (Nat.le_of_ble_eq_true rfl)⟩ rfl rfl (Nat.le_of_ble_eq_true rfl) dX12_enters_52 ?_
        rintro r_4 f9 ⟨hb_4, y9⟩; rw [y9]
        refine gz_istore (lv' := [(5, .int r_4), (4, .int ((F 58) (Int32.toNatClampNeg x1))), (0, .ref m), (1, .int x1), (2, .int x2), (3, .int x3)]) dX12_enters_55 (by decide) rfl ?_
        refine gz_iload dX12_enters_57 rfl ?_
        refine gz_if_lt (tgt := 89) dX12_enters_59 (by decide) (fun c_59 => ?_) (fun c_59 => ?_)
        ·
          try simp only [mIn_0, lgc_lt, lgc_gt, lgc_le, lgc_ge, lgc_eq] at c_59
          try simp only [fl_lt, fl_le, fl_eq, fL_w, fL_lt, fL_le, tm1, tm10k, tm9, tm99, Int32.reduceToInt, Int64.reduceToInt, Int.not_lt, Int.not_le] at c_59
          refine gz_aload_n dX12_enters_89 rfl rfl ?_
          refine mg_20 hS_1 dX12_enters_90 ?_
          refine gz_iload dX12_enters_93 rfl ?_
          refine m_iald 7 hS_1 rfl (N := 880) rfl ((by exact vin_T (rfl : (((F 58) (Int32.toNatClampNeg x1))).toInt = (((F 58) (Int32.toNatClampNeg x1))).toInt) (by omega) (by omega))) dX12_enters_95 ?_
          refine gz_ev (w := .int ((F 7) (Int32.toNatClampNeg ((F 58) (Int32.toNatClampNeg x1))))) (congrArg Value.int (congrFun (hx1.2.2.1 7 (by decide)) _)) ?_
          refine gz_iconst (v := 1) dX12_enters_96 (by decide) ?_
          refine gz_icmp_ne (tgt := 144) dX12_enters_97 (by decide) (fun c_97 => ?_) (fun c_97 => ?_)
          ·
            try simp only [mIn_0, lgc_lt, lgc_gt, lgc_le, lgc_ge, lgc_eq] at c_97
            try simp only [fl_lt, fl_le, fl_eq, fL_w, fL_lt, fL_le, tm1, tm10k, tm9, tm99, Int32.reduceToInt, Int64.reduceToInt, Int.not_lt, Int.not_le] at c_97
            refine gz_aload_n dX12_enters_144 rfl rfl ?_
            refine mg_20 hS_1 dX12_enters_145 ?_
            refine gz_iload dX12_enters_148 rfl ?_
            refine m_iald 7 hS_1 rfl (N := 880) rfl ((by exact vin_T (rfl : (((F 58) (Int32.toNatClampNeg x1))).toInt = (((F 58) (Int32.toNatClampNeg x1))).toInt) (by omega) (by omega))) dX12_enters_150 ?_
            refine gz_ev (w := .int ((F 7) (Int32.toNatClampNeg ((F 58) (Int32.toNatClampNeg x1))))) (congrArg Value.int (congrFun (hx1.2.2.1 7 (by decide)) _)) ?_
            refine gz_iconst (v := 3) dX12_enters_151 (by decide) ?_
            refine gz_icmp_eq (tgt := 187) dX12_enters_152 (by decide) (fun c_152 => ?_) (fun c_152 => ?_)
            ·
              try simp only [mIn_0, lgc_lt, lgc_gt, lgc_le, lgc_ge, lgc_eq] at c_152
              try simp only [fl_lt, fl_le, fl_eq, fL_w, fL_lt, fL_le, tm1, tm10k, tm9, tm99, Int32.reduceToInt, Int64.reduceToInt, Int.not_lt, Int.not_le] at c_152
              refine gz_aload_n dX12_enters_187 rfl rfl ?_
              refine mg_176 hS_1 dX12_enters_188 ?_
              refine gz_iload_n dX12_enters_191 rfl rfl ?_
              refine gz_iconst (v := 1) dX12_enters_192 (by decide) ?_
              refine m_iast 62 hS_1 rfl (N := 80) rfl ((by exact vin_T (rfl : x1.toInt = x1.toInt) (by omega) (by omega))) dX12_enters_193 (fun f_5 hS_5q => ?_)
              have hS_5 : mS cy m a f0 n_1 z_1 (va_up F_1 62 (upd (F 62) (Int32.toNatClampNeg x1) 1)) G_1 f_5 := (by have e9 := (show F_1 62 = (F 62) from (hx1.2.2.1 62 (by decide))); rw [e9] at hS_5q; exact hS_5q)
              refine gz_aload_n dX12_enters_194 rfl rfl ?_
              refine gz_aload_n dX12_enters_195 rfl rfl ?_
              refine mg_32 hS_5 dX12_enters_196 ?_
              refine gz_iload dX12_enters_199 rfl ?_
              refine m_iald 11 hS_5 rfl (N := 880) rfl ((by exact vin_T (rfl : (((F 58) (Int32.toNatClampNeg x1))).toInt = (((F 58) (Int32.toNatClampNeg x1))).toInt) (by omega) (by omega))) dX12_enters_201 ?_
              refine gz_ev (w := .int ((F 11) (Int32.toNatClampNeg ((F 58) (Int32.toNatClampNeg x1))))) (congrArg Value.int (congrFun (hx1.2.2.1 11 (by decide)) _)) ?_
              refine gz_aload_n dX12_enters_202 rfl rfl ?_
              refine mg_167 hS_5 dX12_enters_203 ?_
              refine gz_iload_n dX12_enters_206 rfl rfl ?_
              refine m_iald 59 hS_5 rfl (N := 80) rfl ((by exact vin_T (rfl : x1.toInt = x1.toInt) (by omega) (by omega))) dX12_enters_207 ?_
              refine gz_ev (w := .int ((F 59) (Int32.toNatClampNeg x1))) (congrArg Value.int (congrFun (hx1.2.2.1 59 (by decide)) _)) ?_
              refine gz_aload_n dX12_enters_208 rfl rfl ?_
              refine mg_170 hS_5 dX12_enters_209 ?_
              refine gz_iload_n dX12_enters_212 rfl rfl ?_
              refine m_iald 60 hS_5 rfl (N := 80) rfl ((by exact vin_T (rfl : x1.toInt = x1.toInt) (by omega) (by omega))) dX12_enters_213 ?_
              refine gz_ev (w := .int ((F 60) (Int32.toNatClampNeg x1))) (congrArg Value.int (congrFun (hx1.2.2.1 60 (by decide)) _)) ?_
              refine gz_aload_n dX12_enters_214 rfl rfl ?_
              refine mg_173 hS_5 dX12_enters_215 ?_
              refine gz_iload_n dX12_enters_218 rfl rfl ?_
              refine m_lald 61 hS_5 rfl (N := 80) rfl ((by exact vin_T (rfl : x1.toInt = x1.toInt) (by omega) (by omega))) dX12_enters_219 ?_
              refine gz_ev (w := .long ((G 61) (Int32.toNatClampNeg x1))) (congrArg Value.long (congrFun (hx1.2.2.2 61 (by decide)) _)) ?_
              have q1 : vW F (n 5).toInt (F 11 (Int32.toNatClampNeg (F 58 (Int32.toNatClampNeg x1)))).toInt ∧ szF F (F 11 (Int32.toNatClampNeg (F 58 (Int32.toNatClampNeg x1)))).toInt + 1 ≤ szF F (F 58 (Int32.toNatClampNeg x1)).toInt := one_ok bW fw (show 2 ≤ (F 7 (Int32.toNatClampNeg (F 58 (Int32.toNatClampNeg x1)))).toInt by omega)
              have q1z := szF_pos bW q1.1
              obtain ⟨rb, hrb_⟩ : ∃ rb : Nat, (rb : Int) = szF F (F 11 (Int32.toNatClampNeg (F 58 (Int32.toNatClampNeg x1)))).toInt + 4 - (F 59 (Int32.toNatClampNeg x1)).toInt := ⟨(szF F (F 11 (Int32.toNatClampNeg (F 58 (Int32.toNatClampNeg x1)))).toInt + 4 - (F 59 (Int32.toNatClampNeg x1)).toInt : Int).toNat, by omega⟩
              have hcb := cR_mono (a := rb) (r - 1) (by omega)
              have qo1 := xo1 (by omega)
              refine scX12_466 (k_X12_pushesE (x1 := ((F 11) (Int32.toNatClampNeg ((F 58) (Int32.toNatClampNeg x1))))) (x2 := ((F 59) (Int32.toNatClampNeg x1))) (x3 := ((F 60) (Int32.toNatClampNeg x1))) (y := ((G 61) (Int32.toNatClampNeg x1))) hS_5 (by (try rw [(show n_1 57 = (n 57) from (hx1.1 57 (by decide)))]); omega)) hS_5.1 ⟨(Nat.le_of_ble_eq_true rfl), (Nat.le_of_ble_eq_true rfl)⟩ ⟨(Nat.le_of_ble_eq_true rfl), (Nat.le_of_ble_eq_true rfl)⟩ rfl rfl (Nat.le_of_ble_eq_true rfl) dX12_enters_220 ?_
              rintro f_6 ⟨n_6, z_6, F_6, G_6, hS_6, hx6, g57_6, g58_6, g59_6, g60_6, g61_6, g62_6, g64_6⟩
              try simp only [(show n_1 57 = (n 57) from (hx1.1 57 (by decide)))] at g57_6 g58_6 g59_6 g60_6 g61_6 g62_6 g64_6
              try rw [(show (va_up F_1 62 (upd (F 62) (Int32.toNatClampNeg x1) 1)) 58 = (F 58) from (hx1.2.2.1 58 (by decide)))] at g58_6
              try rw [(show (va_up F_1 62 (upd (F 62) (Int32.toNatClampNeg x1) 1)) 59 = (F 59) from (hx1.2.2.1 59 (by decide)))] at g59_6
              try rw [(show (va_up F_1 62 (upd (F 62) (Int32.toNatClampNeg x1) 1)) 60 = (F 60) from (hx1.2.2.1 60 (by decide)))] at g60_6
              try rw [(show (va_up F_1 62 (upd (F 62) (Int32.toNatClampNeg x1) 1)) 64 = (F 64) from (hx1.2.2.1 64 (by decide)))] at g64_6
              try rw [(show G_1 61 = (G 61) from (hx1.2.2.2 61 (by decide)))] at g61_6
              refine gz_goto (tgt := 233) dX12_enters_223 (by decide) ?_
              have hxx : fx [57] [29, 67] [58, 59, 60, 62, 64] [28, 61] n z F G n_6 z_6 F_6 G_6 := (fx_tr (fx_F (fx_tr fx_rf hx1 (by decide)) (by decide)) hx6 (by decide))
              have hlo9 : FSt F_6 (n 5).toInt dd (Int32.toNatClampNeg x1) r1 P1 := FSt_cg (fun k hk => hxx.2.2.1 k ((by decide : ∀ k : Nat, k ∈ wK → k ∉ ([58, 59, 60, 62, 64] : List Nat)) k hk)) _ _ _ (fun i hi => by rw [(show F_6 58 = (upd (F 58) (Int32.toNatClampNeg (n 57)) ((F 11) (Int32.toNatClampNeg ((F 58) (Int32.toNatClampNeg x1))))) from g58_6)]; rw [updE, if_neg (by omega)]) (fun i hi => by rw [(show F_6 59 = (upd (F 59) (Int32.toNatClampNeg (n 57)) ((F 59) (Int32.toNatClampNeg x1))) from g59_6)]; rw [updE, if_neg (by omega)]) (fun i hi => by rw [(show F_6 60 = (upd (F 60) (Int32.toNatClampNeg (n 57)) ((F 60) (Int32.toNatClampNeg x1))) from g60_6)]; rw [updE, if_neg (by omega)]) (fun i hi => by rw [(show F_6 62 = (upd (upd (F 62) (Int32.toNatClampNeg x1) 1) (Int32.toNatClampNeg (n 57)) 0) from g62_6)]; rw [updE, if_neg (by omega)]; rw [updE, if_neg (by omega)]) (fun i hi => by rw [(show F_6 66 = (F 66) from ((hx6.2.2.1 66 (by decide)).trans (hx1.2.2.1 66 (by decide))))]) hlo
              have hKS9 : KS T E S0 fo VF F_6 G_6 (Int32.toNatClampNeg x1) (vl T E wN fN d (wSc E S0 d wo)) := KS_cg (fun k hk => by simp only [List.mem_cons, List.not_mem_nil, or_false] at hk; rcases hk with rfl | rfl | rfl | rfl | rfl | rfl; exact (fun i hi => by rw [(show F_6 58 = (upd (F 58) (Int32.toNatClampNeg (n 57)) ((F 11) (Int32.toNatClampNeg ((F 58) (Int32.toNatClampNeg x1))))) from g58_6)]; rw [updE, if_neg (by omega)]); exact (fun i hi => by rw [(show F_6 59 = (upd (F 59) (Int32.toNatClampNeg (n 57)) ((F 59) (Int32.toNatClampNeg x1))) from g59_6)]; rw [updE, if_neg (by omega)]); exact (fun i hi => by rw [(show F_6 60 = (upd (F 60) (Int32.toNatClampNeg (n 57)) ((F 60) (Int32.toNatClampNeg x1))) from g60_6)]; rw [updE, if_neg (by omega)]); exact (fun i hi => by rw [(show F_6 62 = (upd (upd (F 62) (Int32.toNatClampNeg x1) 1) (Int32.toNatClampNeg (n 57)) 0) from g62_6)]; rw [updE, if_neg (by omega)]; rw [updE, if_neg (by omega)]); exact (fun i hi => by rw [(show F_6 64 = (upd (F 64) (Int32.toNatClampNeg (n 57)) 0) from g64_6)]; rw [updE, if_neg (by omega)]); exact (fun i hi => by rw [(show F_6 66 = (F 66) from ((hx6.2.2.1 66 (by decide)).trans (hx1.2.2.1 66 (by decide))))])) (fun k hk => by simp only [List.mem_cons, List.not_mem_nil, or_false] at hk; rcases hk with rfl | rfl | rfl; exact (fun i hi => by rw [(show G_6 61 = (vp_updL (G 61) (Int32.toNatClampNeg (n 57)) ((G 61) (Int32.toNatClampNeg x1))) from g61_6)]; rw [updLE, if_neg (by omega)]); exact (fun i hi => by rw [(show G_6 63 = (G 63) from ((hx6.2.2.2 63 (by decide)).trans (hx1.2.2.2 63 (by decide))))]); exact (fun i hi => by rw [(show G_6 65 = (G 65) from ((hx6.2.2.2 65 (by decide)).trans (hx1.2.2.2 65 (by decide))))])) hKS
              have e5 : n_6 5 = n 5 := hxx.1 5 (by decide)
              have e57 : (n_6 57).toInt = x1.toInt + 2 := (by (try rw [(show n_6 57 = ((n 57) + 1) from g57_6)]); have q1_ := (T_add (rfl : ((n 57)).toInt = ((n 57)).toInt) (show (1 : Int32).toInt = 1 from rfl) (by omega)); omega)
              have e57n : (n_6 57).toInt.toNat = (Int32.toNatClampNeg x1) + 2 := by omega
              have vhta58 : F_6 58 (Int32.toNatClampNeg x1) = (F 58 (Int32.toNatClampNeg x1)) := (by rw [(show F_6 58 = (upd (F 58) (Int32.toNatClampNeg (n 57)) ((F 11) (Int32.toNatClampNeg ((F 58) (Int32.toNatClampNeg x1))))) from g58_6)]; rw [updE, if_neg (by omega)])
              have vhta59 : F_6 59 (Int32.toNatClampNeg x1) = (F 59 (Int32.toNatClampNeg x1)) := (by rw [(show F_6 59 = (upd (F 59) (Int32.toNatClampNeg (n 57)) ((F 59) (Int32.toNatClampNeg x1))) from g59_6)]; rw [updE, if_neg (by omega)])
              have vhta60 : F_6 60 (Int32.toNatClampNeg x1) = (F 60 (Int32.toNatClampNeg x1)) := (by rw [(show F_6 60 = (upd (F 60) (Int32.toNatClampNeg (n 57)) ((F 60) (Int32.toNatClampNeg x1))) from g60_6)]; rw [updE, if_neg (by omega)])
              have vhta62 : F_6 62 (Int32.toNatClampNeg x1) = 1 := (by rw [(show F_6 62 = (upd (upd (F 62) (Int32.toNatClampNeg x1) 1) (Int32.toNatClampNeg (n 57)) 0) from g62_6)]; rw [updE, if_neg (by omega)]; rw [updE, if_pos rfl])
              have vhta64 : F_6 64 (Int32.toNatClampNeg x1) = (F 64 (Int32.toNatClampNeg x1)) := (by rw [(show F_6 64 = (upd (F 64) (Int32.toNatClampNeg (n 57)) 0) from g64_6)]; rw [updE, if_neg (by omega)])
              have vhta66 : F_6 66 (Int32.toNatClampNeg x1) = (F 66 (Int32.toNatClampNeg x1)) := (by rw [(show F_6 66 = (F 66) from ((hx6.2.2.1 66 (by decide)).trans (hx1.2.2.1 66 (by decide))))])
              have vhta61 : G_6 61 (Int32.toNatClampNeg x1) = (G 61 (Int32.toNatClampNeg x1)) := (by rw [(show G_6 61 = (vp_updL (G 61) (Int32.toNatClampNeg (n 57)) ((G 61) (Int32.toNatClampNeg x1))) from g61_6)]; rw [updLE, if_neg (by omega)])
              have vhta63 : G_6 63 (Int32.toNatClampNeg x1) = (G 63 (Int32.toNatClampNeg x1)) := (by rw [(show G_6 63 = (G 63) from ((hx6.2.2.2 63 (by decide)).trans (hx1.2.2.2 63 (by decide))))])
              have vhta65 : G_6 65 (Int32.toNatClampNeg x1) = (G 65 (Int32.toNatClampNeg x1)) := (by rw [(show G_6 65 = (G 65) from ((hx6.2.2.2 65 (by decide)).trans (hx1.2.2.2 65 (by decide))))])
              have hta : frV F (n 5).toInt dd (F_6 58 (Int32.toNatClampNeg x1)) (F_6 59 (Int32.toNatClampNeg x1)) (F_6 60 (Int32.toNatClampNeg x1)) (F_6 62 (Int32.toNatClampNeg x1)) (F_6 66 (Int32.toNatClampNeg x1)) r (3 * cR (r - 1) + 5) := by rw [vhta58, vhta59, vhta60, vhta62, vhta66]; exact ⟨fw, fd, fo_, fr_, Or.inr (Or.inl ⟨rfl, (by show (F 7 (Int32.toNatClampNeg (F 58 (Int32.toNatClampNeg x1)))).toInt = 3 ∨ (F 7 (Int32.toNatClampNeg (F 58 (Int32.toNatClampNeg x1)))).toInt = 4 ∨ (F 7 (Int32.toNatClampNeg (F 58 (Int32.toNatClampNeg x1)))).toInt = 7; omega), rfl⟩)⟩
              have hs1 : FSt F_6 (n 5).toInt dd ((Int32.toNatClampNeg x1) + 1) r (P1 + (3 * cR (r - 1) + 5)) := ⟨r1, P1, (3 * cR (r - 1) + 5), hlo9, by omega, frV_w (fun k hk => hxx.2.2.1 k ((by decide : ∀ k : Nat, k ∈ wK → k ∉ ([58, 59, 60, 62, 64] : List Nat)) k hk)) hta, rfl⟩
              have qn1 : (Int32.toNatClampNeg (n 57)) = (Int32.toNatClampNeg x1) + 1 := by omega
              have vhtb58 : F_6 58 (Int32.toNatClampNeg (n 57)) = ((F 11) (Int32.toNatClampNeg ((F 58) (Int32.toNatClampNeg x1)))) := (by rw [(show F_6 58 = (upd (F 58) (Int32.toNatClampNeg (n 57)) ((F 11) (Int32.toNatClampNeg ((F 58) (Int32.toNatClampNeg x1))))) from g58_6)]; rw [updE, if_pos rfl])
              have vhtb59 : F_6 59 (Int32.toNatClampNeg (n 57)) = ((F 59) (Int32.toNatClampNeg x1)) := (by rw [(show F_6 59 = (upd (F 59) (Int32.toNatClampNeg (n 57)) ((F 59) (Int32.toNatClampNeg x1))) from g59_6)]; rw [updE, if_pos rfl])
              have vhtb60 : F_6 60 (Int32.toNatClampNeg (n 57)) = ((F 60) (Int32.toNatClampNeg x1)) := (by rw [(show F_6 60 = (upd (F 60) (Int32.toNatClampNeg (n 57)) ((F 60) (Int32.toNatClampNeg x1))) from g60_6)]; rw [updE, if_pos rfl])
              have vhtb62 : F_6 62 (Int32.toNatClampNeg (n 57)) = 0 := (by rw [(show F_6 62 = (upd (upd (F 62) (Int32.toNatClampNeg x1) 1) (Int32.toNatClampNeg (n 57)) 0) from g62_6)]; rw [updE, if_pos rfl])
              have vhtb64 : F_6 64 (Int32.toNatClampNeg (n 57)) = 0 := (by rw [(show F_6 64 = (upd (F 64) (Int32.toNatClampNeg (n 57)) 0) from g64_6)]; rw [updE, if_pos rfl])
              have vhtb66 : F_6 66 (Int32.toNatClampNeg (n 57)) = (F 66 (Int32.toNatClampNeg (n 57))) := (by rw [(show F_6 66 = (F 66) from ((hx6.2.2.1 66 (by decide)).trans (hx1.2.2.1 66 (by decide))))])
              have vhtb61 : G_6 61 (Int32.toNatClampNeg (n 57)) = ((G 61) (Int32.toNatClampNeg x1)) := (by rw [(show G_6 61 = (vp_updL (G 61) (Int32.toNatClampNeg (n 57)) ((G 61) (Int32.toNatClampNeg x1))) from g61_6)]; rw [updLE, if_pos rfl])
              have vhtb63 : G_6 63 (Int32.toNatClampNeg (n 57)) = (G 63 (Int32.toNatClampNeg (n 57))) := (by rw [(show G_6 63 = (G 63) from ((hx6.2.2.2 63 (by decide)).trans (hx1.2.2.2 63 (by decide))))])
              have vhtb65 : G_6 65 (Int32.toNatClampNeg (n 57)) = (G 65 (Int32.toNatClampNeg (n 57))) := (by rw [(show G_6 65 = (G 65) from ((hx6.2.2.2 65 (by decide)).trans (hx1.2.2.2 65 (by decide))))])
              have htb : frV F (n 5).toInt dd (F_6 58 (Int32.toNatClampNeg (n 57))) (F_6 59 (Int32.toNatClampNeg (n 57))) (F_6 60 (Int32.toNatClampNeg (n 57))) (F_6 62 (Int32.toNatClampNeg (n 57))) (F_6 66 (Int32.toNatClampNeg (n 57))) rb (cR rb) := by rw [vhtb58, vhtb59, vhtb60, vhtb62, vhtb66]; exact ⟨q1.1, fd, fo_, hrb_, Or.inl ⟨rfl, rfl⟩⟩
              rw [qn1] at vhtb58
              rw [qn1] at vhtb59
              rw [qn1] at vhtb60
              rw [qn1] at vhtb62
              rw [qn1] at vhtb64
              rw [qn1] at vhtb66
              rw [qn1] at vhtb61
              rw [qn1] at vhtb63
              rw [qn1] at vhtb65
              rw [qn1] at htb
              have hs2 : FSt F_6 (n 5).toInt dd ((Int32.toNatClampNeg x1) + 1 + 1) rb (P1 + (3 * cR (r - 1) + 5) + (cR rb)) := ⟨_, _, (cR rb), hs1, by omega, frV_w (fun k hk => hxx.2.2.1 k ((by decide : ∀ k : Nat, k ∈ wK → k ∉ ([58, 59, 60, 62, 64] : List Nat)) k hk)) htb, rfl⟩
              have hK2 : KS T E S0 fo VF F_6 G_6 ((Int32.toNatClampNeg x1) + 1) (vl T E (wN + 1) fN d (wSc E S0 d wo)) := ⟨wN, fN, d, wo, (by unfold fD; rw [vhta58, vhta59, vhta60, vhta61]; exact ⟨hw1, hd1, hwo1, hfa1⟩), hlp, hKS9, by rw [vhta62, vhta64, vhta66, vhta63, vhta65]; exact Or.inl ⟨rfl, htk0, (by omega), rfl⟩⟩
              have hWI : WI T E S0 fo VF F_6 G_6 (n_6 57).toInt.toNat (z_6 67) := Or.inr ⟨(Int32.toNatClampNeg x1) + 1, (wN + 1), fN, d, wo, e57n, hK2, (by unfold fD; rw [vhtb58, vhtb59, vhtb60, vhtb61]; exact ⟨⟨qo1, hgl.2.1 (by omega)⟩, hd1, hwo1, hfa1⟩), Or.inl ⟨by rw [vhtb62]; rfl, by rw [vhtb64]; rfl⟩⟩
              exact gz_vret rfl dX12_enters_233 (Nat.le_of_ble_eq_true rfl) (Nat.le_of_ble_eq_true rfl) (⟨rfl, _, _, _, _, hS_6, hxx, hWI, by omega, rb, _, by rw [e57n, e5]; exact hs2, (by omega)⟩)
            ·
              try simp only [mIn_0, lgc_lt, lgc_gt, lgc_le, lgc_ge, lgc_eq] at c_152
              try simp only [fl_lt, fl_le, fl_eq, fL_w, fL_lt, fL_le, tm1, tm10k, tm9, tm99, Int32.reduceToInt, Int64.reduceToInt, Int.not_lt, Int.not_le] at c_152
              refine gz_aload_n dX12_enters_155 rfl rfl ?_
              refine mg_20 hS_1 dX12_enters_156 ?_
              refine gz_iload dX12_enters_159 rfl ?_
              refine m_iald 7 hS_1 rfl (N := 880) rfl ((by exact vin_T (rfl : (((F 58) (Int32.toNatClampNeg x1))).toInt = (((F 58) (Int32.toNatClampNeg x1))).toInt) (by omega) (by omega))) dX12_enters_161 ?_
              refine gz_ev (w := .int ((F 7) (Int32.toNatClampNeg ((F 58) (Int32.toNatClampNeg x1))))) (congrArg Value.int (congrFun (hx1.2.2.1 7 (by decide)) _)) ?_
              refine gz_iconst (v := 4) dX12_enters_162 (by decide) ?_
              refine gz_icmp_eq (tgt := 187) dX12_enters_163 (by decide) (fun c_163 => ?_) (fun c_163 => ?_)
              ·
                try simp only [mIn_0, lgc_lt, lgc_gt, lgc_le, lgc_ge, lgc_eq] at c_163
                try simp only [fl_lt, fl_le, fl_eq, fL_w, fL_lt, fL_le, tm1, tm10k, tm9, tm99, Int32.reduceToInt, Int64.reduceToInt, Int.not_lt, Int.not_le] at c_163
                refine gz_aload_n dX12_enters_187 rfl rfl ?_
                refine mg_176 hS_1 dX12_enters_188 ?_
                refine gz_iload_n dX12_enters_191 rfl rfl ?_
                refine gz_iconst (v := 1) dX12_enters_192 (by decide) ?_
                refine m_iast 62 hS_1 rfl (N := 80) rfl ((by exact vin_T (rfl : x1.toInt = x1.toInt) (by omega) (by omega))) dX12_enters_193 (fun f_7 hS_7q => ?_)
                have hS_7 : mS cy m a f0 n_1 z_1 (va_up F_1 62 (upd (F 62) (Int32.toNatClampNeg x1) 1)) G_1 f_7 := (by have e9 := (show F_1 62 = (F 62) from (hx1.2.2.1 62 (by decide))); rw [e9] at hS_7q; exact hS_7q)
                refine gz_aload_n dX12_enters_194 rfl rfl ?_
                refine gz_aload_n dX12_enters_195 rfl rfl ?_
                refine mg_32 hS_7 dX12_enters_196 ?_
                refine gz_iload dX12_enters_199 rfl ?_
                refine m_iald 11 hS_7 rfl (N := 880) rfl ((by exact vin_T (rfl : (((F 58) (Int32.toNatClampNeg x1))).toInt = (((F 58) (Int32.toNatClampNeg x1))).toInt) (by omega) (by omega))) dX12_enters_201 ?_
                refine gz_ev (w := .int ((F 11) (Int32.toNatClampNeg ((F 58) (Int32.toNatClampNeg x1))))) (congrArg Value.int (congrFun (hx1.2.2.1 11 (by decide)) _)) ?_
                refine gz_aload_n dX12_enters_202 rfl rfl ?_
                refine mg_167 hS_7 dX12_enters_203 ?_
                refine gz_iload_n dX12_enters_206 rfl rfl ?_
                refine m_iald 59 hS_7 rfl (N := 80) rfl ((by exact vin_T (rfl : x1.toInt = x1.toInt) (by omega) (by omega))) dX12_enters_207 ?_
                refine gz_ev (w := .int ((F 59) (Int32.toNatClampNeg x1))) (congrArg Value.int (congrFun (hx1.2.2.1 59 (by decide)) _)) ?_
                refine gz_aload_n dX12_enters_208 rfl rfl ?_
                refine mg_170 hS_7 dX12_enters_209 ?_
                refine gz_iload_n dX12_enters_212 rfl rfl ?_
                refine m_iald 60 hS_7 rfl (N := 80) rfl ((by exact vin_T (rfl : x1.toInt = x1.toInt) (by omega) (by omega))) dX12_enters_213 ?_
                refine gz_ev (w := .int ((F 60) (Int32.toNatClampNeg x1))) (congrArg Value.int (congrFun (hx1.2.2.1 60 (by decide)) _)) ?_
                refine gz_aload_n dX12_enters_214 rfl rfl ?_
                refine mg_173 hS_7 dX12_enters_215 ?_
                refine gz_iload_n dX12_enters_218 rfl rfl ?_
                refine m_lald 61 hS_7 rfl (N := 80) rfl ((by exact vin_T (rfl : x1.toInt = x1.toInt) (by omega) (by omega))) dX12_enters_219 ?_
                refine gz_ev (w := .long ((G 61) (Int32.toNatClampNeg x1))) (congrArg Value.long (congrFun (hx1.2.2.2 61 (by decide)) _)) ?_
                have q1 : vW F (n 5).toInt (F 11 (Int32.toNatClampNeg (F 58 (Int32.toNatClampNeg x1)))).toInt ∧ szF F (F 11 (Int32.toNatClampNeg (F 58 (Int32.toNatClampNeg x1)))).toInt + 1 ≤ szF F (F 58 (Int32.toNatClampNeg x1)).toInt := one_ok bW fw (show 2 ≤ (F 7 (Int32.toNatClampNeg (F 58 (Int32.toNatClampNeg x1)))).toInt by omega)
                have q1z := szF_pos bW q1.1
                obtain ⟨rb, hrb_⟩ : ∃ rb : Nat, (rb : Int) = szF F (F 11 (Int32.toNatClampNeg (F 58 (Int32.toNatClampNeg x1)))).toInt + 4 - (F 59 (Int32.toNatClampNeg x1)).toInt := ⟨(szF F (F 11 (Int32.toNatClampNeg (F 58 (Int32.toNatClampNeg x1)))).toInt + 4 - (F 59 (Int32.toNatClampNeg x1)).toInt : Int).toNat, by omega⟩
                have hcb := cR_mono (a := rb) (r - 1) (by omega)
                have qo1 := xo1 (by omega)
                refine scX12_466 (k_X12_pushesE (x1 := ((F 11) (Int32.toNatClampNeg ((F 58) (Int32.toNatClampNeg x1))))) (x2 := ((F 59) (Int32.toNatClampNeg x1))) (x3 := ((F 60) (Int32.toNatClampNeg x1))) (y := ((G 61) (Int32.toNatClampNeg x1))) hS_7 (by (try rw [(show n_1 57 = (n 57) from (hx1.1 57 (by decide)))]); omega)) hS_7.1 ⟨(Nat.le_of_ble_eq_true rfl), (Nat.le_of_ble_eq_true rfl)⟩ ⟨(Nat.le_of_ble_eq_true rfl), (Nat.le_of_ble_eq_true rfl)⟩ rfl rfl (Nat.le_of_ble_eq_true rfl) dX12_enters_220 ?_
                rintro f_8 ⟨n_8, z_8, F_8, G_8, hS_8, hx8, g57_8, g58_8, g59_8, g60_8, g61_8, g62_8, g64_8⟩
                try simp only [(show n_1 57 = (n 57) from (hx1.1 57 (by decide)))] at g57_8 g58_8 g59_8 g60_8 g61_8 g62_8 g64_8
                try rw [(show (va_up F_1 62 (upd (F 62) (Int32.toNatClampNeg x1) 1)) 58 = (F 58) from (hx1.2.2.1 58 (by decide)))] at g58_8
                try rw [(show (va_up F_1 62 (upd (F 62) (Int32.toNatClampNeg x1) 1)) 59 = (F 59) from (hx1.2.2.1 59 (by decide)))] at g59_8
                try rw [(show (va_up F_1 62 (upd (F 62) (Int32.toNatClampNeg x1) 1)) 60 = (F 60) from (hx1.2.2.1 60 (by decide)))] at g60_8
                try rw [(show (va_up F_1 62 (upd (F 62) (Int32.toNatClampNeg x1) 1)) 64 = (F 64) from (hx1.2.2.1 64 (by decide)))] at g64_8
                try rw [(show G_1 61 = (G 61) from (hx1.2.2.2 61 (by decide)))] at g61_8
                refine gz_goto (tgt := 233) dX12_enters_223 (by decide) ?_
                have hxx : fx [57] [29, 67] [58, 59, 60, 62, 64] [28, 61] n z F G n_8 z_8 F_8 G_8 := (fx_tr (fx_F (fx_tr fx_rf hx1 (by decide)) (by decide)) hx8 (by decide))
                have hlo9 : FSt F_8 (n 5).toInt dd (Int32.toNatClampNeg x1) r1 P1 := FSt_cg (fun k hk => hxx.2.2.1 k ((by decide : ∀ k : Nat, k ∈ wK → k ∉ ([58, 59, 60, 62, 64] : List Nat)) k hk)) _ _ _ (fun i hi => by rw [(show F_8 58 = (upd (F 58) (Int32.toNatClampNeg (n 57)) ((F 11) (Int32.toNatClampNeg ((F 58) (Int32.toNatClampNeg x1))))) from g58_8)]; rw [updE, if_neg (by omega)]) (fun i hi => by rw [(show F_8 59 = (upd (F 59) (Int32.toNatClampNeg (n 57)) ((F 59) (Int32.toNatClampNeg x1))) from g59_8)]; rw [updE, if_neg (by omega)]) (fun i hi => by rw [(show F_8 60 = (upd (F 60) (Int32.toNatClampNeg (n 57)) ((F 60) (Int32.toNatClampNeg x1))) from g60_8)]; rw [updE, if_neg (by omega)]) (fun i hi => by rw [(show F_8 62 = (upd (upd (F 62) (Int32.toNatClampNeg x1) 1) (Int32.toNatClampNeg (n 57)) 0) from g62_8)]; rw [updE, if_neg (by omega)]; rw [updE, if_neg (by omega)]) (fun i hi => by rw [(show F_8 66 = (F 66) from ((hx8.2.2.1 66 (by decide)).trans (hx1.2.2.1 66 (by decide))))]) hlo
                have hKS9 : KS T E S0 fo VF F_8 G_8 (Int32.toNatClampNeg x1) (vl T E wN fN d (wSc E S0 d wo)) := KS_cg (fun k hk => by simp only [List.mem_cons, List.not_mem_nil, or_false] at hk; rcases hk with rfl | rfl | rfl | rfl | rfl | rfl; exact (fun i hi => by rw [(show F_8 58 = (upd (F 58) (Int32.toNatClampNeg (n 57)) ((F 11) (Int32.toNatClampNeg ((F 58) (Int32.toNatClampNeg x1))))) from g58_8)]; rw [updE, if_neg (by omega)]); exact (fun i hi => by rw [(show F_8 59 = (upd (F 59) (Int32.toNatClampNeg (n 57)) ((F 59) (Int32.toNatClampNeg x1))) from g59_8)]; rw [updE, if_neg (by omega)]); exact (fun i hi => by rw [(show F_8 60 = (upd (F 60) (Int32.toNatClampNeg (n 57)) ((F 60) (Int32.toNatClampNeg x1))) from g60_8)]; rw [updE, if_neg (by omega)]); exact (fun i hi => by rw [(show F_8 62 = (upd (upd (F 62) (Int32.toNatClampNeg x1) 1) (Int32.toNatClampNeg (n 57)) 0) from g62_8)]; rw [updE, if_neg (by omega)]; rw [updE, if_neg (by omega)]); exact (fun i hi => by rw [(show F_8 64 = (upd (F 64) (Int32.toNatClampNeg (n 57)) 0) from g64_8)]; rw [updE, if_neg (by omega)]); exact (fun i hi => by rw [(show F_8 66 = (F 66) from ((hx8.2.2.1 66 (by decide)).trans (hx1.2.2.1 66 (by decide))))])) (fun k hk => by simp only [List.mem_cons, List.not_mem_nil, or_false] at hk; rcases hk with rfl | rfl | rfl; exact (fun i hi => by rw [(show G_8 61 = (vp_updL (G 61) (Int32.toNatClampNeg (n 57)) ((G 61) (Int32.toNatClampNeg x1))) from g61_8)]; rw [updLE, if_neg (by omega)]); exact (fun i hi => by rw [(show G_8 63 = (G 63) from ((hx8.2.2.2 63 (by decide)).trans (hx1.2.2.2 63 (by decide))))]); exact (fun i hi => by rw [(show G_8 65 = (G 65) from ((hx8.2.2.2 65 (by decide)).trans (hx1.2.2.2 65 (by decide))))])) hKS
                have e5 : n_8 5 = n 5 := hxx.1 5 (by decide)
                have e57 : (n_8 57).toInt = x1.toInt + 2 := (by (try rw [(show n_8 57 = ((n 57) + 1) from g57_8)]); have q1_ := (T_add (rfl : ((n 57)).toInt = ((n 57)).toInt) (show (1 : Int32).toInt = 1 from rfl) (by omega)); omega)
                have e57n : (n_8 57).toInt.toNat = (Int32.toNatClampNeg x1) + 2 := by omega
                have vhta58 : F_8 58 (Int32.toNatClampNeg x1) = (F 58 (Int32.toNatClampNeg x1)) := (by rw [(show F_8 58 = (upd (F 58) (Int32.toNatClampNeg (n 57)) ((F 11) (Int32.toNatClampNeg ((F 58) (Int32.toNatClampNeg x1))))) from g58_8)]; rw [updE, if_neg (by omega)])
                have vhta59 : F_8 59 (Int32.toNatClampNeg x1) = (F 59 (Int32.toNatClampNeg x1)) := (by rw [(show F_8 59 = (upd (F 59) (Int32.toNatClampNeg (n 57)) ((F 59) (Int32.toNatClampNeg x1))) from g59_8)]; rw [updE, if_neg (by omega)])
                have vhta60 : F_8 60 (Int32.toNatClampNeg x1) = (F 60 (Int32.toNatClampNeg x1)) := (by rw [(show F_8 60 = (upd (F 60) (Int32.toNatClampNeg (n 57)) ((F 60) (Int32.toNatClampNeg x1))) from g60_8)]; rw [updE, if_neg (by omega)])
                have vhta62 : F_8 62 (Int32.toNatClampNeg x1) = 1 := (by rw [(show F_8 62 = (upd (upd (F 62) (Int32.toNatClampNeg x1) 1) (Int32.toNatClampNeg (n 57)) 0) from g62_8)]; rw [updE, if_neg (by omega)]; rw [updE, if_pos rfl])
                have vhta64 : F_8 64 (Int32.toNatClampNeg x1) = (F 64 (Int32.toNatClampNeg x1)) := (by rw [(show F_8 64 = (upd (F 64) (Int32.toNatClampNeg (n 57)) 0) from g64_8)]; rw [updE, if_neg (by omega)])
                have vhta66 : F_8 66 (Int32.toNatClampNeg x1) = (F 66 (Int32.toNatClampNeg x1)) := (by rw [(show F_8 66 = (F 66) from ((hx8.2.2.1 66 (by decide)).trans (hx1.2.2.1 66 (by decide))))])
                have vhta61 : G_8 61 (Int32.toNatClampNeg x1) = (G 61 (Int32.toNatClampNeg x1)) := (by rw [(show G_8 61 = (vp_updL (G 61) (Int32.toNatClampNeg (n 57)) ((G 61) (Int32.toNatClampNeg x1))) from g61_8)]; rw [updLE, if_neg (by omega)])
                have vhta63 : G_8 63 (Int32.toNatClampNeg x1) = (G 63 (Int32.toNatClampNeg x1)) := (by rw [(show G_8 63 = (G 63) from ((hx8.2.2.2 63 (by decide)).trans (hx1.2.2.2 63 (by decide))))])
                have vhta65 : G_8 65 (Int32.toNatClampNeg x1) = (G 65 (Int32.toNatClampNeg x1)) := (by rw [(show G_8 65 = (G 65) from ((hx8.2.2.2 65 (by decide)).trans (hx1.2.2.2 65 (by decide))))])
                have hta : frV F (n 5).toInt dd (F_8 58 (Int32.toNatClampNeg x1)) (F_8 59 (Int32.toNatClampNeg x1)) (F_8 60 (Int32.toNatClampNeg x1)) (F_8 62 (Int32.toNatClampNeg x1)) (F_8 66 (Int32.toNatClampNeg x1)) r (3 * cR (r - 1) + 5) := by rw [vhta58, vhta59, vhta60, vhta62, vhta66]; exact ⟨fw, fd, fo_, fr_, Or.inr (Or.inl ⟨rfl, (by show (F 7 (Int32.toNatClampNeg (F 58 (Int32.toNatClampNeg x1)))).toInt = 3 ∨ (F 7 (Int32.toNatClampNeg (F 58 (Int32.toNatClampNeg x1)))).toInt = 4 ∨ (F 7 (Int32.toNatClampNeg (F 58 (Int32.toNatClampNeg x1)))).toInt = 7; omega), rfl⟩)⟩
                have hs1 : FSt F_8 (n 5).toInt dd ((Int32.toNatClampNeg x1) + 1) r (P1 + (3 * cR (r - 1) + 5)) := ⟨r1, P1, (3 * cR (r - 1) + 5), hlo9, by omega, frV_w (fun k hk => hxx.2.2.1 k ((by decide : ∀ k : Nat, k ∈ wK → k ∉ ([58, 59, 60, 62, 64] : List Nat)) k hk)) hta, rfl⟩
                have qn1 : (Int32.toNatClampNeg (n 57)) = (Int32.toNatClampNeg x1) + 1 := by omega
                have vhtb58 : F_8 58 (Int32.toNatClampNeg (n 57)) = ((F 11) (Int32.toNatClampNeg ((F 58) (Int32.toNatClampNeg x1)))) := (by rw [(show F_8 58 = (upd (F 58) (Int32.toNatClampNeg (n 57)) ((F 11) (Int32.toNatClampNeg ((F 58) (Int32.toNatClampNeg x1))))) from g58_8)]; rw [updE, if_pos rfl])
                have vhtb59 : F_8 59 (Int32.toNatClampNeg (n 57)) = ((F 59) (Int32.toNatClampNeg x1)) := (by rw [(show F_8 59 = (upd (F 59) (Int32.toNatClampNeg (n 57)) ((F 59) (Int32.toNatClampNeg x1))) from g59_8)]; rw [updE, if_pos rfl])
                have vhtb60 : F_8 60 (Int32.toNatClampNeg (n 57)) = ((F 60) (Int32.toNatClampNeg x1)) := (by rw [(show F_8 60 = (upd (F 60) (Int32.toNatClampNeg (n 57)) ((F 60) (Int32.toNatClampNeg x1))) from g60_8)]; rw [updE, if_pos rfl])
                have vhtb62 : F_8 62 (Int32.toNatClampNeg (n 57)) = 0 := (by rw [(show F_8 62 = (upd (upd (F 62) (Int32.toNatClampNeg x1) 1) (Int32.toNatClampNeg (n 57)) 0) from g62_8)]; rw [updE, if_pos rfl])
                have vhtb64 : F_8 64 (Int32.toNatClampNeg (n 57)) = 0 := (by rw [(show F_8 64 = (upd (F 64) (Int32.toNatClampNeg (n 57)) 0) from g64_8)]; rw [updE, if_pos rfl])
                have vhtb66 : F_8 66 (Int32.toNatClampNeg (n 57)) = (F 66 (Int32.toNatClampNeg (n 57))) := (by rw [(show F_8 66 = (F 66) from ((hx8.2.2.1 66 (by decide)).trans (hx1.2.2.1 66 (by decide))))])
                have vhtb61 : G_8 61 (Int32.toNatClampNeg (n 57)) = ((G 61) (Int32.toNatClampNeg x1)) := (by rw [(show G_8 61 = (vp_updL (G 61) (Int32.toNatClampNeg (n 57)) ((G 61) (Int32.toNatClampNeg x1))) from g61_8)]; rw [updLE, if_pos rfl])
                have vhtb63 : G_8 63 (Int32.toNatClampNeg (n 57)) = (G 63 (Int32.toNatClampNeg (n 57))) := (by rw [(show G_8 63 = (G 63) from ((hx8.2.2.2 63 (by decide)).trans (hx1.2.2.2 63 (by decide))))])
                have vhtb65 : G_8 65 (Int32.toNatClampNeg (n 57)) = (G 65 (Int32.toNatClampNeg (n 57))) := (by rw [(show G_8 65 = (G 65) from ((hx8.2.2.2 65 (by decide)).trans (hx1.2.2.2 65 (by decide))))])
                have htb : frV F (n 5).toInt dd (F_8 58 (Int32.toNatClampNeg (n 57))) (F_8 59 (Int32.toNatClampNeg (n 57))) (F_8 60 (Int32.toNatClampNeg (n 57))) (F_8 62 (Int32.toNatClampNeg (n 57))) (F_8 66 (Int32.toNatClampNeg (n 57))) rb (cR rb) := by rw [vhtb58, vhtb59, vhtb60, vhtb62, vhtb66]; exact ⟨q1.1, fd, fo_, hrb_, Or.inl ⟨rfl, rfl⟩⟩
                rw [qn1] at vhtb58
                rw [qn1] at vhtb59
                rw [qn1] at vhtb60
                rw [qn1] at vhtb62
                rw [qn1] at vhtb64
                rw [qn1] at vhtb66
                rw [qn1] at vhtb61
                rw [qn1] at vhtb63
                rw [qn1] at vhtb65
                rw [qn1] at htb
                have hs2 : FSt F_8 (n 5).toInt dd ((Int32.toNatClampNeg x1) + 1 + 1) rb (P1 + (3 * cR (r - 1) + 5) + (cR rb)) := ⟨_, _, (cR rb), hs1, by omega, frV_w (fun k hk => hxx.2.2.1 k ((by decide : ∀ k : Nat, k ∈ wK → k ∉ ([58, 59, 60, 62, 64] : List Nat)) k hk)) htb, rfl⟩
                have hK2 : KS T E S0 fo VF F_8 G_8 ((Int32.toNatClampNeg x1) + 1) (vl T E (wN + 1) fN d (wSc E S0 d wo)) := ⟨wN, fN, d, wo, (by unfold fD; rw [vhta58, vhta59, vhta60, vhta61]; exact ⟨hw1, hd1, hwo1, hfa1⟩), hlp, hKS9, by rw [vhta62, vhta64, vhta66, vhta63, vhta65]; exact Or.inl ⟨rfl, htk0, (by omega), rfl⟩⟩
                have hWI : WI T E S0 fo VF F_8 G_8 (n_8 57).toInt.toNat (z_8 67) := Or.inr ⟨(Int32.toNatClampNeg x1) + 1, (wN + 1), fN, d, wo, e57n, hK2, (by unfold fD; rw [vhtb58, vhtb59, vhtb60, vhtb61]; exact ⟨⟨qo1, hgl.2.1 (by omega)⟩, hd1, hwo1, hfa1⟩), Or.inl ⟨by rw [vhtb62]; rfl, by rw [vhtb64]; rfl⟩⟩
                exact gz_vret rfl dX12_enters_233 (Nat.le_of_ble_eq_true rfl) (Nat.le_of_ble_eq_true rfl) (⟨rfl, _, _, _, _, hS_8, hxx, hWI, by omega, rb, _, by rw [e57n, e5]; exact hs2, (by omega)⟩)
              ·
                try simp only [mIn_0, lgc_lt, lgc_gt, lgc_le, lgc_ge, lgc_eq] at c_163
                try simp only [fl_lt, fl_le, fl_eq, fL_w, fL_lt, fL_le, tm1, tm10k, tm9, tm99, Int32.reduceToInt, Int64.reduceToInt, Int.not_lt, Int.not_le] at c_163
                refine gz_aload_n dX12_enters_166 rfl rfl ?_
                refine mg_20 hS_1 dX12_enters_167 ?_
                refine gz_iload dX12_enters_170 rfl ?_
                refine m_iald 7 hS_1 rfl (N := 880) rfl ((by exact vin_T (rfl : (((F 58) (Int32.toNatClampNeg x1))).toInt = (((F 58) (Int32.toNatClampNeg x1))).toInt) (by omega) (by omega))) dX12_enters_172 ?_
                refine gz_ev (w := .int ((F 7) (Int32.toNatClampNeg ((F 58) (Int32.toNatClampNeg x1))))) (congrArg Value.int (congrFun (hx1.2.2.1 7 (by decide)) _)) ?_
                refine gz_bipush (v := 7) dX12_enters_173 (by decide) ?_
                refine gz_icmp_ne (tgt := 226) dX12_enters_175 (by decide) (fun c_175 => ?_) (fun c_175 => ?_)
                ·
                  try simp only [mIn_0, lgc_lt, lgc_gt, lgc_le, lgc_ge, lgc_eq] at c_175
                  try simp only [fl_lt, fl_le, fl_eq, fL_w, fL_lt, fL_le, tm1, tm10k, tm9, tm99, Int32.reduceToInt, Int64.reduceToInt, Int.not_lt, Int.not_le] at c_175
                  refine gz_aload_n dX12_enters_226 rfl rfl ?_
                  refine mg_176 hS_1 dX12_enters_227 ?_
                  refine gz_iload_n dX12_enters_230 rfl rfl ?_
                  refine gz_iconst (v := 3) dX12_enters_231 (by decide) ?_
                  refine m_iast 62 hS_1 rfl (N := 80) rfl ((by exact vin_T (rfl : x1.toInt = x1.toInt) (by omega) (by omega))) dX12_enters_232 (fun f_9 hS_9q => ?_)
                  have hS_9 : mS cy m a f0 n_1 z_1 (va_up F_1 62 (upd (F 62) (Int32.toNatClampNeg x1) 3)) G_1 f_9 := (by have e9 := (show F_1 62 = (F 62) from (hx1.2.2.1 62 (by decide))); rw [e9] at hS_9q; exact hS_9q)
                  have hl9 : (grH T wN).1 = 0 ∨ (grH T wN).1 = 1 ∨ (grH T wN).1 = 3 ∨ (grH T wN).1 = 4 ∨ (grH T wN).1 = 7 ∨ ((grH T wN).1 = 6 ∧ hlB (wSc E S0 d wo) (grH T wN) = false) := by rcases hb_4 with z | z; exact z.2; (exfalso; omega)
                  have hbt : hlB (wSc E S0 d wo) (grH T wN) = false := by rcases hl9 with z | z | z | z | z | z <;> first | exact z.2 | (exfalso; omega)
                  have hxx : fx [57] [29, 67] [58, 59, 60, 62, 64] [28, 61] n z F G n_1 z_1 (va_up F_1 62 (upd (F 62) (Int32.toNatClampNeg x1) 3)) G_1 := (fx_F (fx_tr fx_rf hx1 (by decide)) (by decide))
                  have hlo9 : FSt (va_up F_1 62 (upd (F 62) (Int32.toNatClampNeg x1) 3)) (n 5).toInt dd (Int32.toNatClampNeg x1) r1 P1 := FSt_cg (fun k hk => hxx.2.2.1 k ((by decide : ∀ k : Nat, k ∈ wK → k ∉ ([58, 59, 60, 62, 64] : List Nat)) k hk)) _ _ _ (fun i hi => by rw [(show (va_up F_1 62 (upd (F 62) (Int32.toNatClampNeg x1) 3)) 58 = (F 58) from (hx1.2.2.1 58 (by decide)))]) (fun i hi => by rw [(show (va_up F_1 62 (upd (F 62) (Int32.toNatClampNeg x1) 3)) 59 = (F 59) from (hx1.2.2.1 59 (by decide)))]) (fun i hi => by rw [(show (va_up F_1 62 (upd (F 62) (Int32.toNatClampNeg x1) 3)) 60 = (F 60) from (hx1.2.2.1 60 (by decide)))]) (fun i hi => by rw [(show (va_up F_1 62 (upd (F 62) (Int32.toNatClampNeg x1) 3)) 62 = (upd (F 62) (Int32.toNatClampNeg x1) 3) from rfl)]; rw [updE, if_neg (by omega)]) (fun i hi => by rw [(show (va_up F_1 62 (upd (F 62) (Int32.toNatClampNeg x1) 3)) 66 = (F 66) from (hx1.2.2.1 66 (by decide)))]) hlo
                  have hKS9 : KS T E S0 fo VF (va_up F_1 62 (upd (F 62) (Int32.toNatClampNeg x1) 3)) G_1 (Int32.toNatClampNeg x1) (vl T E wN fN d (wSc E S0 d wo)) := KS_cg (fun k hk => by simp only [List.mem_cons, List.not_mem_nil, or_false] at hk; rcases hk with rfl | rfl | rfl | rfl | rfl | rfl; exact (fun i hi => by rw [(show (va_up F_1 62 (upd (F 62) (Int32.toNatClampNeg x1) 3)) 58 = (F 58) from (hx1.2.2.1 58 (by decide)))]); exact (fun i hi => by rw [(show (va_up F_1 62 (upd (F 62) (Int32.toNatClampNeg x1) 3)) 59 = (F 59) from (hx1.2.2.1 59 (by decide)))]); exact (fun i hi => by rw [(show (va_up F_1 62 (upd (F 62) (Int32.toNatClampNeg x1) 3)) 60 = (F 60) from (hx1.2.2.1 60 (by decide)))]); exact (fun i hi => by rw [(show (va_up F_1 62 (upd (F 62) (Int32.toNatClampNeg x1) 3)) 62 = (upd (F 62) (Int32.toNatClampNeg x1) 3) from rfl)]; rw [updE, if_neg (by omega)]); exact (fun i hi => by rw [(show (va_up F_1 62 (upd (F 62) (Int32.toNatClampNeg x1) 3)) 64 = (F 64) from (hx1.2.2.1 64 (by decide)))]); exact (fun i hi => by rw [(show (va_up F_1 62 (upd (F 62) (Int32.toNatClampNeg x1) 3)) 66 = (F 66) from (hx1.2.2.1 66 (by decide)))])) (fun k hk => by simp only [List.mem_cons, List.not_mem_nil, or_false] at hk; rcases hk with rfl | rfl | rfl; exact (fun i hi => by rw [(show G_1 61 = (G 61) from (hx1.2.2.2 61 (by decide)))]); exact (fun i hi => by rw [(show G_1 63 = (G 63) from (hx1.2.2.2 63 (by decide)))]); exact (fun i hi => by rw [(show G_1 65 = (G 65) from (hx1.2.2.2 65 (by decide)))])) hKS
                  have e5 : n_1 5 = n 5 := hxx.1 5 (by decide)
                  have e57 : (n_1 57).toInt = x1.toInt + 1 := (by (try rw [(show n_1 57 = (n 57) from (hx1.1 57 (by decide)))]); omega)
                  have e57n : (n_1 57).toInt.toNat = (Int32.toNatClampNeg x1) + 1 := by omega
                  have vhta58 : (va_up F_1 62 (upd (F 62) (Int32.toNatClampNeg x1) 3)) 58 (Int32.toNatClampNeg x1) = (F 58 (Int32.toNatClampNeg x1)) := (by rw [(show (va_up F_1 62 (upd (F 62) (Int32.toNatClampNeg x1) 3)) 58 = (F 58) from (hx1.2.2.1 58 (by decide)))])
                  have vhta59 : (va_up F_1 62 (upd (F 62) (Int32.toNatClampNeg x1) 3)) 59 (Int32.toNatClampNeg x1) = (F 59 (Int32.toNatClampNeg x1)) := (by rw [(show (va_up F_1 62 (upd (F 62) (Int32.toNatClampNeg x1) 3)) 59 = (F 59) from (hx1.2.2.1 59 (by decide)))])
                  have vhta60 : (va_up F_1 62 (upd (F 62) (Int32.toNatClampNeg x1) 3)) 60 (Int32.toNatClampNeg x1) = (F 60 (Int32.toNatClampNeg x1)) := (by rw [(show (va_up F_1 62 (upd (F 62) (Int32.toNatClampNeg x1) 3)) 60 = (F 60) from (hx1.2.2.1 60 (by decide)))])
                  have vhta62 : (va_up F_1 62 (upd (F 62) (Int32.toNatClampNeg x1) 3)) 62 (Int32.toNatClampNeg x1) = 3 := (by rw [(show (va_up F_1 62 (upd (F 62) (Int32.toNatClampNeg x1) 3)) 62 = (upd (F 62) (Int32.toNatClampNeg x1) 3) from rfl)]; rw [updE, if_pos rfl])
                  have vhta64 : (va_up F_1 62 (upd (F 62) (Int32.toNatClampNeg x1) 3)) 64 (Int32.toNatClampNeg x1) = (F 64 (Int32.toNatClampNeg x1)) := (by rw [(show (va_up F_1 62 (upd (F 62) (Int32.toNatClampNeg x1) 3)) 64 = (F 64) from (hx1.2.2.1 64 (by decide)))])
                  have vhta66 : (va_up F_1 62 (upd (F 62) (Int32.toNatClampNeg x1) 3)) 66 (Int32.toNatClampNeg x1) = (F 66 (Int32.toNatClampNeg x1)) := (by rw [(show (va_up F_1 62 (upd (F 62) (Int32.toNatClampNeg x1) 3)) 66 = (F 66) from (hx1.2.2.1 66 (by decide)))])
                  have vhta61 : G_1 61 (Int32.toNatClampNeg x1) = (G 61 (Int32.toNatClampNeg x1)) := (by rw [(show G_1 61 = (G 61) from (hx1.2.2.2 61 (by decide)))])
                  have vhta63 : G_1 63 (Int32.toNatClampNeg x1) = (G 63 (Int32.toNatClampNeg x1)) := (by rw [(show G_1 63 = (G 63) from (hx1.2.2.2 63 (by decide)))])
                  have vhta65 : G_1 65 (Int32.toNatClampNeg x1) = (G 65 (Int32.toNatClampNeg x1)) := (by rw [(show G_1 65 = (G 65) from (hx1.2.2.2 65 (by decide)))])
                  have hta : frV F (n 5).toInt dd ((va_up F_1 62 (upd (F 62) (Int32.toNatClampNeg x1) 3)) 58 (Int32.toNatClampNeg x1)) ((va_up F_1 62 (upd (F 62) (Int32.toNatClampNeg x1) 3)) 59 (Int32.toNatClampNeg x1)) ((va_up F_1 62 (upd (F 62) (Int32.toNatClampNeg x1) 3)) 60 (Int32.toNatClampNeg x1)) ((va_up F_1 62 (upd (F 62) (Int32.toNatClampNeg x1) 3)) 62 (Int32.toNatClampNeg x1)) ((va_up F_1 62 (upd (F 62) (Int32.toNatClampNeg x1) 3)) 66 (Int32.toNatClampNeg x1)) r (3 * cR (r - 1) + 4) := by rw [vhta58, vhta59, vhta60, vhta62, vhta66]; exact ⟨fw, fd, fo_, fr_, Or.inr (Or.inr (Or.inr (Or.inl ⟨rfl, rfl⟩)))⟩
                  have hs1 : FSt (va_up F_1 62 (upd (F 62) (Int32.toNatClampNeg x1) 3)) (n 5).toInt dd ((Int32.toNatClampNeg x1) + 1) r (P1 + (3 * cR (r - 1) + 4)) := ⟨r1, P1, (3 * cR (r - 1) + 4), hlo9, by omega, frV_w (fun k hk => hxx.2.2.1 k ((by decide : ∀ k : Nat, k ∈ wK → k ∉ ([58, 59, 60, 62, 64] : List Nat)) k hk)) hta, rfl⟩
                  have hWI : WI T E S0 fo VF (va_up F_1 62 (upd (F 62) (Int32.toNatClampNeg x1) 3)) G_1 (n_1 57).toInt.toNat (z_1 67) := Or.inr ⟨(Int32.toNatClampNeg x1), wN, fN, d, wo, e57n, hKS9, (by unfold fD; rw [vhta58, vhta59, vhta60, vhta61]; exact ⟨hw1, hd1, hwo1, hfa1⟩), Or.inr ⟨by rw [vhta62]; rfl, hlp, Or.inr ⟨(by omega), hbt, by rw [vhta64]; exact htk0⟩⟩⟩
                  exact gz_vret rfl dX12_enters_233 (Nat.le_of_ble_eq_true rfl) (Nat.le_of_ble_eq_true rfl) (⟨rfl, _, _, _, _, hS_9, hxx, hWI, by omega, r, _, by rw [e57n, e5]; exact hs1, (by omega)⟩)
                ·
                  try simp only [mIn_0, lgc_lt, lgc_gt, lgc_le, lgc_ge, lgc_eq] at c_175
                  try simp only [fl_lt, fl_le, fl_eq, fL_w, fL_lt, fL_le, tm1, tm10k, tm9, tm99, Int32.reduceToInt, Int64.reduceToInt, Int.not_lt, Int.not_le] at c_175
                  refine gz_aload_n dX12_enters_178 rfl rfl ?_
                  refine gz_iload dX12_enters_179 rfl ?_
                  refine scX12_348 (k_X12_holdsE (x1 := (F 58 (Int32.toNatClampNeg x1))) (S := (wSc E S0 d wo)) (xh := grH T wN) hS_1 bAa hsRa (by omega) (hdM_cg (fun r _ => hxa.2.2.1 r (by simp)) xd) xv (by omega)) hS_1.1 ⟨(Nat.le_of_ble_eq_true rfl), (Nat.le_of_ble_eq_true rfl)⟩ ⟨(Nat.le_of_ble_eq_true rfl), (Nat.le_of_ble_eq_true rfl)⟩ rfl rfl (Nat.le_of_ble_eq_true rfl) dX12_enters_181 ?_
                  rintro r_10 f9 ⟨hb_10, y9⟩; rw [y9]
                  rcases hb_10 with ⟨hr10, hbt⟩ | ⟨hr10, hbt⟩
                  ·
                    refine gz_ev (w := .int 1) (congrArg Value.int hr10) ?_
                    refine gz_if_eq (tgt := 226) dX12_enters_184 (by decide) (fun c_184 => ?_) (fun c_184 => ?_)
                    · exact absurd c_184 (by decide)
                    ·
                      try simp only [mIn_0, lgc_lt, lgc_gt, lgc_le, lgc_ge, lgc_eq] at c_184
                      try simp only [fl_lt, fl_le, fl_eq, fL_w, fL_lt, fL_le, tm1, tm10k, tm9, tm99, Int32.reduceToInt, Int64.reduceToInt, Int.not_lt, Int.not_le] at c_184
                      refine gz_aload_n dX12_enters_187 rfl rfl ?_
                      refine mg_176 hS_1 dX12_enters_188 ?_
                      refine gz_iload_n dX12_enters_191 rfl rfl ?_
                      refine gz_iconst (v := 1) dX12_enters_192 (by decide) ?_
                      refine m_iast 62 hS_1 rfl (N := 80) rfl ((by exact vin_T (rfl : x1.toInt = x1.toInt) (by omega) (by omega))) dX12_enters_193 (fun f_11 hS_11q => ?_)
                      have hS_11 : mS cy m a f0 n_1 z_1 (va_up F_1 62 (upd (F 62) (Int32.toNatClampNeg x1) 1)) G_1 f_11 := (by have e9 := (show F_1 62 = (F 62) from (hx1.2.2.1 62 (by decide))); rw [e9] at hS_11q; exact hS_11q)
                      refine gz_aload_n dX12_enters_194 rfl rfl ?_
                      refine gz_aload_n dX12_enters_195 rfl rfl ?_
                      refine mg_32 hS_11 dX12_enters_196 ?_
                      refine gz_iload dX12_enters_199 rfl ?_
                      refine m_iald 11 hS_11 rfl (N := 880) rfl ((by exact vin_T (rfl : (((F 58) (Int32.toNatClampNeg x1))).toInt = (((F 58) (Int32.toNatClampNeg x1))).toInt) (by omega) (by omega))) dX12_enters_201 ?_
                      refine gz_ev (w := .int ((F 11) (Int32.toNatClampNeg ((F 58) (Int32.toNatClampNeg x1))))) (congrArg Value.int (congrFun (hx1.2.2.1 11 (by decide)) _)) ?_
                      refine gz_aload_n dX12_enters_202 rfl rfl ?_
                      refine mg_167 hS_11 dX12_enters_203 ?_
                      refine gz_iload_n dX12_enters_206 rfl rfl ?_
                      refine m_iald 59 hS_11 rfl (N := 80) rfl ((by exact vin_T (rfl : x1.toInt = x1.toInt) (by omega) (by omega))) dX12_enters_207 ?_
                      refine gz_ev (w := .int ((F 59) (Int32.toNatClampNeg x1))) (congrArg Value.int (congrFun (hx1.2.2.1 59 (by decide)) _)) ?_
                      refine gz_aload_n dX12_enters_208 rfl rfl ?_
                      refine mg_170 hS_11 dX12_enters_209 ?_
                      refine gz_iload_n dX12_enters_212 rfl rfl ?_
                      refine m_iald 60 hS_11 rfl (N := 80) rfl ((by exact vin_T (rfl : x1.toInt = x1.toInt) (by omega) (by omega))) dX12_enters_213 ?_
                      refine gz_ev (w := .int ((F 60) (Int32.toNatClampNeg x1))) (congrArg Value.int (congrFun (hx1.2.2.1 60 (by decide)) _)) ?_
                      refine gz_aload_n dX12_enters_214 rfl rfl ?_
                      refine mg_173 hS_11 dX12_enters_215 ?_
                      refine gz_iload_n dX12_enters_218 rfl rfl ?_
                      refine m_lald 61 hS_11 rfl (N := 80) rfl ((by exact vin_T (rfl : x1.toInt = x1.toInt) (by omega) (by omega))) dX12_enters_219 ?_
                      refine gz_ev (w := .long ((G 61) (Int32.toNatClampNeg x1))) (congrArg Value.long (congrFun (hx1.2.2.2 61 (by decide)) _)) ?_
                      have q1 : vW F (n 5).toInt (F 11 (Int32.toNatClampNeg (F 58 (Int32.toNatClampNeg x1)))).toInt ∧ szF F (F 11 (Int32.toNatClampNeg (F 58 (Int32.toNatClampNeg x1)))).toInt + 1 ≤ szF F (F 58 (Int32.toNatClampNeg x1)).toInt := one_ok bW fw (show 2 ≤ (F 7 (Int32.toNatClampNeg (F 58 (Int32.toNatClampNeg x1)))).toInt by omega)
                      have q1z := szF_pos bW q1.1
                      obtain ⟨rb, hrb_⟩ : ∃ rb : Nat, (rb : Int) = szF F (F 11 (Int32.toNatClampNeg (F 58 (Int32.toNatClampNeg x1)))).toInt + 4 - (F 59 (Int32.toNatClampNeg x1)).toInt := ⟨(szF F (F 11 (Int32.toNatClampNeg (F 58 (Int32.toNatClampNeg x1)))).toInt + 4 - (F 59 (Int32.toNatClampNeg x1)).toInt : Int).toNat, by omega⟩
                      have hcb := cR_mono (a := rb) (r - 1) (by omega)
                      have qo1 := xo1 (by omega)
                      refine scX12_466 (k_X12_pushesE (x1 := ((F 11) (Int32.toNatClampNeg ((F 58) (Int32.toNatClampNeg x1))))) (x2 := ((F 59) (Int32.toNatClampNeg x1))) (x3 := ((F 60) (Int32.toNatClampNeg x1))) (y := ((G 61) (Int32.toNatClampNeg x1))) hS_11 (by (try rw [(show n_1 57 = (n 57) from (hx1.1 57 (by decide)))]); omega)) hS_11.1 ⟨(Nat.le_of_ble_eq_true rfl), (Nat.le_of_ble_eq_true rfl)⟩ ⟨(Nat.le_of_ble_eq_true rfl), (Nat.le_of_ble_eq_true rfl)⟩ rfl rfl (Nat.le_of_ble_eq_true rfl) dX12_enters_220 ?_
                      rintro f_12 ⟨n_12, z_12, F_12, G_12, hS_12, hx12, g57_12, g58_12, g59_12, g60_12, g61_12, g62_12, g64_12⟩
                      try simp only [(show n_1 57 = (n 57) from (hx1.1 57 (by decide)))] at g57_12 g58_12 g59_12 g60_12 g61_12 g62_12 g64_12
                      try rw [(show (va_up F_1 62 (upd (F 62) (Int32.toNatClampNeg x1) 1)) 58 = (F 58) from (hx1.2.2.1 58 (by decide)))] at g58_12
                      try rw [(show (va_up F_1 62 (upd (F 62) (Int32.toNatClampNeg x1) 1)) 59 = (F 59) from (hx1.2.2.1 59 (by decide)))] at g59_12
                      try rw [(show (va_up F_1 62 (upd (F 62) (Int32.toNatClampNeg x1) 1)) 60 = (F 60) from (hx1.2.2.1 60 (by decide)))] at g60_12
                      try rw [(show (va_up F_1 62 (upd (F 62) (Int32.toNatClampNeg x1) 1)) 64 = (F 64) from (hx1.2.2.1 64 (by decide)))] at g64_12
                      try rw [(show G_1 61 = (G 61) from (hx1.2.2.2 61 (by decide)))] at g61_12
                      refine gz_goto (tgt := 233) dX12_enters_223 (by decide) ?_
                      have hxx : fx [57] [29, 67] [58, 59, 60, 62, 64] [28, 61] n z F G n_12 z_12 F_12 G_12 := (fx_tr (fx_F (fx_tr fx_rf hx1 (by decide)) (by decide)) hx12 (by decide))
                      have hlo9 : FSt F_12 (n 5).toInt dd (Int32.toNatClampNeg x1) r1 P1 := FSt_cg (fun k hk => hxx.2.2.1 k ((by decide : ∀ k : Nat, k ∈ wK → k ∉ ([58, 59, 60, 62, 64] : List Nat)) k hk)) _ _ _ (fun i hi => by rw [(show F_12 58 = (upd (F 58) (Int32.toNatClampNeg (n 57)) ((F 11) (Int32.toNatClampNeg ((F 58) (Int32.toNatClampNeg x1))))) from g58_12)]; rw [updE, if_neg (by omega)]) (fun i hi => by rw [(show F_12 59 = (upd (F 59) (Int32.toNatClampNeg (n 57)) ((F 59) (Int32.toNatClampNeg x1))) from g59_12)]; rw [updE, if_neg (by omega)]) (fun i hi => by rw [(show F_12 60 = (upd (F 60) (Int32.toNatClampNeg (n 57)) ((F 60) (Int32.toNatClampNeg x1))) from g60_12)]; rw [updE, if_neg (by omega)]) (fun i hi => by rw [(show F_12 62 = (upd (upd (F 62) (Int32.toNatClampNeg x1) 1) (Int32.toNatClampNeg (n 57)) 0) from g62_12)]; rw [updE, if_neg (by omega)]; rw [updE, if_neg (by omega)]) (fun i hi => by rw [(show F_12 66 = (F 66) from ((hx12.2.2.1 66 (by decide)).trans (hx1.2.2.1 66 (by decide))))]) hlo
                      have hKS9 : KS T E S0 fo VF F_12 G_12 (Int32.toNatClampNeg x1) (vl T E wN fN d (wSc E S0 d wo)) := KS_cg (fun k hk => by simp only [List.mem_cons, List.not_mem_nil, or_false] at hk; rcases hk with rfl | rfl | rfl | rfl | rfl | rfl; exact (fun i hi => by rw [(show F_12 58 = (upd (F 58) (Int32.toNatClampNeg (n 57)) ((F 11) (Int32.toNatClampNeg ((F 58) (Int32.toNatClampNeg x1))))) from g58_12)]; rw [updE, if_neg (by omega)]); exact (fun i hi => by rw [(show F_12 59 = (upd (F 59) (Int32.toNatClampNeg (n 57)) ((F 59) (Int32.toNatClampNeg x1))) from g59_12)]; rw [updE, if_neg (by omega)]); exact (fun i hi => by rw [(show F_12 60 = (upd (F 60) (Int32.toNatClampNeg (n 57)) ((F 60) (Int32.toNatClampNeg x1))) from g60_12)]; rw [updE, if_neg (by omega)]); exact (fun i hi => by rw [(show F_12 62 = (upd (upd (F 62) (Int32.toNatClampNeg x1) 1) (Int32.toNatClampNeg (n 57)) 0) from g62_12)]; rw [updE, if_neg (by omega)]; rw [updE, if_neg (by omega)]); exact (fun i hi => by rw [(show F_12 64 = (upd (F 64) (Int32.toNatClampNeg (n 57)) 0) from g64_12)]; rw [updE, if_neg (by omega)]); exact (fun i hi => by rw [(show F_12 66 = (F 66) from ((hx12.2.2.1 66 (by decide)).trans (hx1.2.2.1 66 (by decide))))])) (fun k hk => by simp only [List.mem_cons, List.not_mem_nil, or_false] at hk; rcases hk with rfl | rfl | rfl; exact (fun i hi => by rw [(show G_12 61 = (vp_updL (G 61) (Int32.toNatClampNeg (n 57)) ((G 61) (Int32.toNatClampNeg x1))) from g61_12)]; rw [updLE, if_neg (by omega)]); exact (fun i hi => by rw [(show G_12 63 = (G 63) from ((hx12.2.2.2 63 (by decide)).trans (hx1.2.2.2 63 (by decide))))]); exact (fun i hi => by rw [(show G_12 65 = (G 65) from ((hx12.2.2.2 65 (by decide)).trans (hx1.2.2.2 65 (by decide))))])) hKS
                      have e5 : n_12 5 = n 5 := hxx.1 5 (by decide)
                      have e57 : (n_12 57).toInt = x1.toInt + 2 := (by (try rw [(show n_12 57 = ((n 57) + 1) from g57_12)]); have q1_ := (T_add (rfl : ((n 57)).toInt = ((n 57)).toInt) (show (1 : Int32).toInt = 1 from rfl) (by omega)); omega)
                      have e57n : (n_12 57).toInt.toNat = (Int32.toNatClampNeg x1) + 2 := by omega
                      have vhta58 : F_12 58 (Int32.toNatClampNeg x1) = (F 58 (Int32.toNatClampNeg x1)) := (by rw [(show F_12 58 = (upd (F 58) (Int32.toNatClampNeg (n 57)) ((F 11) (Int32.toNatClampNeg ((F 58) (Int32.toNatClampNeg x1))))) from g58_12)]; rw [updE, if_neg (by omega)])
                      have vhta59 : F_12 59 (Int32.toNatClampNeg x1) = (F 59 (Int32.toNatClampNeg x1)) := (by rw [(show F_12 59 = (upd (F 59) (Int32.toNatClampNeg (n 57)) ((F 59) (Int32.toNatClampNeg x1))) from g59_12)]; rw [updE, if_neg (by omega)])
                      have vhta60 : F_12 60 (Int32.toNatClampNeg x1) = (F 60 (Int32.toNatClampNeg x1)) := (by rw [(show F_12 60 = (upd (F 60) (Int32.toNatClampNeg (n 57)) ((F 60) (Int32.toNatClampNeg x1))) from g60_12)]; rw [updE, if_neg (by omega)])
                      have vhta62 : F_12 62 (Int32.toNatClampNeg x1) = 1 := (by rw [(show F_12 62 = (upd (upd (F 62) (Int32.toNatClampNeg x1) 1) (Int32.toNatClampNeg (n 57)) 0) from g62_12)]; rw [updE, if_neg (by omega)]; rw [updE, if_pos rfl])
                      have vhta64 : F_12 64 (Int32.toNatClampNeg x1) = (F 64 (Int32.toNatClampNeg x1)) := (by rw [(show F_12 64 = (upd (F 64) (Int32.toNatClampNeg (n 57)) 0) from g64_12)]; rw [updE, if_neg (by omega)])
                      have vhta66 : F_12 66 (Int32.toNatClampNeg x1) = (F 66 (Int32.toNatClampNeg x1)) := (by rw [(show F_12 66 = (F 66) from ((hx12.2.2.1 66 (by decide)).trans (hx1.2.2.1 66 (by decide))))])
                      have vhta61 : G_12 61 (Int32.toNatClampNeg x1) = (G 61 (Int32.toNatClampNeg x1)) := (by rw [(show G_12 61 = (vp_updL (G 61) (Int32.toNatClampNeg (n 57)) ((G 61) (Int32.toNatClampNeg x1))) from g61_12)]; rw [updLE, if_neg (by omega)])
                      have vhta63 : G_12 63 (Int32.toNatClampNeg x1) = (G 63 (Int32.toNatClampNeg x1)) := (by rw [(show G_12 63 = (G 63) from ((hx12.2.2.2 63 (by decide)).trans (hx1.2.2.2 63 (by decide))))])
                      have vhta65 : G_12 65 (Int32.toNatClampNeg x1) = (G 65 (Int32.toNatClampNeg x1)) := (by rw [(show G_12 65 = (G 65) from ((hx12.2.2.2 65 (by decide)).trans (hx1.2.2.2 65 (by decide))))])
                      have hta : frV F (n 5).toInt dd (F_12 58 (Int32.toNatClampNeg x1)) (F_12 59 (Int32.toNatClampNeg x1)) (F_12 60 (Int32.toNatClampNeg x1)) (F_12 62 (Int32.toNatClampNeg x1)) (F_12 66 (Int32.toNatClampNeg x1)) r (3 * cR (r - 1) + 5) := by rw [vhta58, vhta59, vhta60, vhta62, vhta66]; exact ⟨fw, fd, fo_, fr_, Or.inr (Or.inl ⟨rfl, (by show (F 7 (Int32.toNatClampNeg (F 58 (Int32.toNatClampNeg x1)))).toInt = 3 ∨ (F 7 (Int32.toNatClampNeg (F 58 (Int32.toNatClampNeg x1)))).toInt = 4 ∨ (F 7 (Int32.toNatClampNeg (F 58 (Int32.toNatClampNeg x1)))).toInt = 7; omega), rfl⟩)⟩
                      have hs1 : FSt F_12 (n 5).toInt dd ((Int32.toNatClampNeg x1) + 1) r (P1 + (3 * cR (r - 1) + 5)) := ⟨r1, P1, (3 * cR (r - 1) + 5), hlo9, by omega, frV_w (fun k hk => hxx.2.2.1 k ((by decide : ∀ k : Nat, k ∈ wK → k ∉ ([58, 59, 60, 62, 64] : List Nat)) k hk)) hta, rfl⟩
                      have qn1 : (Int32.toNatClampNeg (n 57)) = (Int32.toNatClampNeg x1) + 1 := by omega
                      have vhtb58 : F_12 58 (Int32.toNatClampNeg (n 57)) = ((F 11) (Int32.toNatClampNeg ((F 58) (Int32.toNatClampNeg x1)))) := (by rw [(show F_12 58 = (upd (F 58) (Int32.toNatClampNeg (n 57)) ((F 11) (Int32.toNatClampNeg ((F 58) (Int32.toNatClampNeg x1))))) from g58_12)]; rw [updE, if_pos rfl])
                      have vhtb59 : F_12 59 (Int32.toNatClampNeg (n 57)) = ((F 59) (Int32.toNatClampNeg x1)) := (by rw [(show F_12 59 = (upd (F 59) (Int32.toNatClampNeg (n 57)) ((F 59) (Int32.toNatClampNeg x1))) from g59_12)]; rw [updE, if_pos rfl])
                      have vhtb60 : F_12 60 (Int32.toNatClampNeg (n 57)) = ((F 60) (Int32.toNatClampNeg x1)) := (by rw [(show F_12 60 = (upd (F 60) (Int32.toNatClampNeg (n 57)) ((F 60) (Int32.toNatClampNeg x1))) from g60_12)]; rw [updE, if_pos rfl])
                      have vhtb62 : F_12 62 (Int32.toNatClampNeg (n 57)) = 0 := (by rw [(show F_12 62 = (upd (upd (F 62) (Int32.toNatClampNeg x1) 1) (Int32.toNatClampNeg (n 57)) 0) from g62_12)]; rw [updE, if_pos rfl])
                      have vhtb64 : F_12 64 (Int32.toNatClampNeg (n 57)) = 0 := (by rw [(show F_12 64 = (upd (F 64) (Int32.toNatClampNeg (n 57)) 0) from g64_12)]; rw [updE, if_pos rfl])
                      have vhtb66 : F_12 66 (Int32.toNatClampNeg (n 57)) = (F 66 (Int32.toNatClampNeg (n 57))) := (by rw [(show F_12 66 = (F 66) from ((hx12.2.2.1 66 (by decide)).trans (hx1.2.2.1 66 (by decide))))])
                      have vhtb61 : G_12 61 (Int32.toNatClampNeg (n 57)) = ((G 61) (Int32.toNatClampNeg x1)) := (by rw [(show G_12 61 = (vp_updL (G 61) (Int32.toNatClampNeg (n 57)) ((G 61) (Int32.toNatClampNeg x1))) from g61_12)]; rw [updLE, if_pos rfl])
                      have vhtb63 : G_12 63 (Int32.toNatClampNeg (n 57)) = (G 63 (Int32.toNatClampNeg (n 57))) := (by rw [(show G_12 63 = (G 63) from ((hx12.2.2.2 63 (by decide)).trans (hx1.2.2.2 63 (by decide))))])
                      have vhtb65 : G_12 65 (Int32.toNatClampNeg (n 57)) = (G 65 (Int32.toNatClampNeg (n 57))) := (by rw [(show G_12 65 = (G 65) from ((hx12.2.2.2 65 (by decide)).trans (hx1.2.2.2 65 (by decide))))])
                      have htb : frV F (n 5).toInt dd (F_12 58 (Int32.toNatClampNeg (n 57))) (F_12 59 (Int32.toNatClampNeg (n 57))) (F_12 60 (Int32.toNatClampNeg (n 57))) (F_12 62 (Int32.toNatClampNeg (n 57))) (F_12 66 (Int32.toNatClampNeg (n 57))) rb (cR rb) := by rw [vhtb58, vhtb59, vhtb60, vhtb62, vhtb66]; exact ⟨q1.1, fd, fo_, hrb_, Or.inl ⟨rfl, rfl⟩⟩
                      rw [qn1] at vhtb58
                      rw [qn1] at vhtb59
                      rw [qn1] at vhtb60
                      rw [qn1] at vhtb62
                      rw [qn1] at vhtb64
                      rw [qn1] at vhtb66
                      rw [qn1] at vhtb61
                      rw [qn1] at vhtb63
                      rw [qn1] at vhtb65
                      rw [qn1] at htb
                      have hs2 : FSt F_12 (n 5).toInt dd ((Int32.toNatClampNeg x1) + 1 + 1) rb (P1 + (3 * cR (r - 1) + 5) + (cR rb)) := ⟨_, _, (cR rb), hs1, by omega, frV_w (fun k hk => hxx.2.2.1 k ((by decide : ∀ k : Nat, k ∈ wK → k ∉ ([58, 59, 60, 62, 64] : List Nat)) k hk)) htb, rfl⟩
                      have hK2 : KS T E S0 fo VF F_12 G_12 ((Int32.toNatClampNeg x1) + 1) (vl T E (wN + 1) fN d (wSc E S0 d wo)) := ⟨wN, fN, d, wo, (by unfold fD; rw [vhta58, vhta59, vhta60, vhta61]; exact ⟨hw1, hd1, hwo1, hfa1⟩), hlp, hKS9, by rw [vhta62, vhta64, vhta66, vhta63, vhta65]; exact Or.inl ⟨rfl, htk0, (Or.inr (Or.inr ⟨by omega, hbt⟩)), rfl⟩⟩
                      have hWI : WI T E S0 fo VF F_12 G_12 (n_12 57).toInt.toNat (z_12 67) := Or.inr ⟨(Int32.toNatClampNeg x1) + 1, (wN + 1), fN, d, wo, e57n, hK2, (by unfold fD; rw [vhtb58, vhtb59, vhtb60, vhtb61]; exact ⟨⟨qo1, hgl.2.1 (by omega)⟩, hd1, hwo1, hfa1⟩), Or.inl ⟨by rw [vhtb62]; rfl, by rw [vhtb64]; rfl⟩⟩
                      exact gz_vret rfl dX12_enters_233 (Nat.le_of_ble_eq_true rfl) (Nat.le_of_ble_eq_true rfl) (⟨rfl, _, _, _, _, hS_12, hxx, hWI, by omega, rb, _, by rw [e57n, e5]; exact hs2, (by omega)⟩)
                  ·
                    refine gz_ev (w := .int 0) (congrArg Value.int hr10) ?_
                    refine gz_if_eq (tgt := 226) dX12_enters_184 (by decide) (fun c_184 => ?_) (fun c_184 => ?_)
                    ·
                      try simp only [mIn_0, lgc_lt, lgc_gt, lgc_le, lgc_ge, lgc_eq] at c_184
                      try simp only [fl_lt, fl_le, fl_eq, fL_w, fL_lt, fL_le, tm1, tm10k, tm9, tm99, Int32.reduceToInt, Int64.reduceToInt, Int.not_lt, Int.not_le] at c_184
                      refine gz_aload_n dX12_enters_226 rfl rfl ?_
                      refine mg_176 hS_1 dX12_enters_227 ?_
                      refine gz_iload_n dX12_enters_230 rfl rfl ?_
                      refine gz_iconst (v := 3) dX12_enters_231 (by decide) ?_
                      refine m_iast 62 hS_1 rfl (N := 80) rfl ((by exact vin_T (rfl : x1.toInt = x1.toInt) (by omega) (by omega))) dX12_enters_232 (fun f_13 hS_13q => ?_)
                      have hS_13 : mS cy m a f0 n_1 z_1 (va_up F_1 62 (upd (F 62) (Int32.toNatClampNeg x1) 3)) G_1 f_13 := (by have e9 := (show F_1 62 = (F 62) from (hx1.2.2.1 62 (by decide))); rw [e9] at hS_13q; exact hS_13q)
                      have hl9 : (grH T wN).1 = 0 ∨ (grH T wN).1 = 1 ∨ (grH T wN).1 = 3 ∨ (grH T wN).1 = 4 ∨ (grH T wN).1 = 7 ∨ ((grH T wN).1 = 6 ∧ hlB (wSc E S0 d wo) (grH T wN) = false) := by rcases hb_4 with z | z; exact z.2; (exfalso; omega)
                      have hxx : fx [57] [29, 67] [58, 59, 60, 62, 64] [28, 61] n z F G n_1 z_1 (va_up F_1 62 (upd (F 62) (Int32.toNatClampNeg x1) 3)) G_1 := (fx_F (fx_tr fx_rf hx1 (by decide)) (by decide))
                      have hlo9 : FSt (va_up F_1 62 (upd (F 62) (Int32.toNatClampNeg x1) 3)) (n 5).toInt dd (Int32.toNatClampNeg x1) r1 P1 := FSt_cg (fun k hk => hxx.2.2.1 k ((by decide : ∀ k : Nat, k ∈ wK → k ∉ ([58, 59, 60, 62, 64] : List Nat)) k hk)) _ _ _ (fun i hi => by rw [(show (va_up F_1 62 (upd (F 62) (Int32.toNatClampNeg x1) 3)) 58 = (F 58) from (hx1.2.2.1 58 (by decide)))]) (fun i hi => by rw [(show (va_up F_1 62 (upd (F 62) (Int32.toNatClampNeg x1) 3)) 59 = (F 59) from (hx1.2.2.1 59 (by decide)))]) (fun i hi => by rw [(show (va_up F_1 62 (upd (F 62) (Int32.toNatClampNeg x1) 3)) 60 = (F 60) from (hx1.2.2.1 60 (by decide)))]) (fun i hi => by rw [(show (va_up F_1 62 (upd (F 62) (Int32.toNatClampNeg x1) 3)) 62 = (upd (F 62) (Int32.toNatClampNeg x1) 3) from rfl)]; rw [updE, if_neg (by omega)]) (fun i hi => by rw [(show (va_up F_1 62 (upd (F 62) (Int32.toNatClampNeg x1) 3)) 66 = (F 66) from (hx1.2.2.1 66 (by decide)))]) hlo
                      have hKS9 : KS T E S0 fo VF (va_up F_1 62 (upd (F 62) (Int32.toNatClampNeg x1) 3)) G_1 (Int32.toNatClampNeg x1) (vl T E wN fN d (wSc E S0 d wo)) := KS_cg (fun k hk => by simp only [List.mem_cons, List.not_mem_nil, or_false] at hk; rcases hk with rfl | rfl | rfl | rfl | rfl | rfl; exact (fun i hi => by rw [(show (va_up F_1 62 (upd (F 62) (Int32.toNatClampNeg x1) 3)) 58 = (F 58) from (hx1.2.2.1 58 (by decide)))]); exact (fun i hi => by rw [(show (va_up F_1 62 (upd (F 62) (Int32.toNatClampNeg x1) 3)) 59 = (F 59) from (hx1.2.2.1 59 (by decide)))]); exact (fun i hi => by rw [(show (va_up F_1 62 (upd (F 62) (Int32.toNatClampNeg x1) 3)) 60 = (F 60) from (hx1.2.2.1 60 (by decide)))]); exact (fun i hi => by rw [(show (va_up F_1 62 (upd (F 62) (Int32.toNatClampNeg x1) 3)) 62 = (upd (F 62) (Int32.toNatClampNeg x1) 3) from rfl)]; rw [updE, if_neg (by omega)]); exact (fun i hi => by rw [(show (va_up F_1 62 (upd (F 62) (Int32.toNatClampNeg x1) 3)) 64 = (F 64) from (hx1.2.2.1 64 (by decide)))]); exact (fun i hi => by rw [(show (va_up F_1 62 (upd (F 62) (Int32.toNatClampNeg x1) 3)) 66 = (F 66) from (hx1.2.2.1 66 (by decide)))])) (fun k hk => by simp only [List.mem_cons, List.not_mem_nil, or_false] at hk; rcases hk with rfl | rfl | rfl; exact (fun i hi => by rw [(show G_1 61 = (G 61) from (hx1.2.2.2 61 (by decide)))]); exact (fun i hi => by rw [(show G_1 63 = (G 63) from (hx1.2.2.2 63 (by decide)))]); exact (fun i hi => by rw [(show G_1 65 = (G 65) from (hx1.2.2.2 65 (by decide)))])) hKS
                      have e5 : n_1 5 = n 5 := hxx.1 5 (by decide)
                      have e57 : (n_1 57).toInt = x1.toInt + 1 := (by (try rw [(show n_1 57 = (n 57) from (hx1.1 57 (by decide)))]); omega)
                      have e57n : (n_1 57).toInt.toNat = (Int32.toNatClampNeg x1) + 1 := by omega
                      have vhta58 : (va_up F_1 62 (upd (F 62) (Int32.toNatClampNeg x1) 3)) 58 (Int32.toNatClampNeg x1) = (F 58 (Int32.toNatClampNeg x1)) := (by rw [(show (va_up F_1 62 (upd (F 62) (Int32.toNatClampNeg x1) 3)) 58 = (F 58) from (hx1.2.2.1 58 (by decide)))])
                      have vhta59 : (va_up F_1 62 (upd (F 62) (Int32.toNatClampNeg x1) 3)) 59 (Int32.toNatClampNeg x1) = (F 59 (Int32.toNatClampNeg x1)) := (by rw [(show (va_up F_1 62 (upd (F 62) (Int32.toNatClampNeg x1) 3)) 59 = (F 59) from (hx1.2.2.1 59 (by decide)))])
                      have vhta60 : (va_up F_1 62 (upd (F 62) (Int32.toNatClampNeg x1) 3)) 60 (Int32.toNatClampNeg x1) = (F 60 (Int32.toNatClampNeg x1)) := (by rw [(show (va_up F_1 62 (upd (F 62) (Int32.toNatClampNeg x1) 3)) 60 = (F 60) from (hx1.2.2.1 60 (by decide)))])
                      have vhta62 : (va_up F_1 62 (upd (F 62) (Int32.toNatClampNeg x1) 3)) 62 (Int32.toNatClampNeg x1) = 3 := (by rw [(show (va_up F_1 62 (upd (F 62) (Int32.toNatClampNeg x1) 3)) 62 = (upd (F 62) (Int32.toNatClampNeg x1) 3) from rfl)]; rw [updE, if_pos rfl])
                      have vhta64 : (va_up F_1 62 (upd (F 62) (Int32.toNatClampNeg x1) 3)) 64 (Int32.toNatClampNeg x1) = (F 64 (Int32.toNatClampNeg x1)) := (by rw [(show (va_up F_1 62 (upd (F 62) (Int32.toNatClampNeg x1) 3)) 64 = (F 64) from (hx1.2.2.1 64 (by decide)))])
                      have vhta66 : (va_up F_1 62 (upd (F 62) (Int32.toNatClampNeg x1) 3)) 66 (Int32.toNatClampNeg x1) = (F 66 (Int32.toNatClampNeg x1)) := (by rw [(show (va_up F_1 62 (upd (F 62) (Int32.toNatClampNeg x1) 3)) 66 = (F 66) from (hx1.2.2.1 66 (by decide)))])
                      have vhta61 : G_1 61 (Int32.toNatClampNeg x1) = (G 61 (Int32.toNatClampNeg x1)) := (by rw [(show G_1 61 = (G 61) from (hx1.2.2.2 61 (by decide)))])
                      have vhta63 : G_1 63 (Int32.toNatClampNeg x1) = (G 63 (Int32.toNatClampNeg x1)) := (by rw [(show G_1 63 = (G 63) from (hx1.2.2.2 63 (by decide)))])
                      have vhta65 : G_1 65 (Int32.toNatClampNeg x1) = (G 65 (Int32.toNatClampNeg x1)) := (by rw [(show G_1 65 = (G 65) from (hx1.2.2.2 65 (by decide)))])
                      have hta : frV F (n 5).toInt dd ((va_up F_1 62 (upd (F 62) (Int32.toNatClampNeg x1) 3)) 58 (Int32.toNatClampNeg x1)) ((va_up F_1 62 (upd (F 62) (Int32.toNatClampNeg x1) 3)) 59 (Int32.toNatClampNeg x1)) ((va_up F_1 62 (upd (F 62) (Int32.toNatClampNeg x1) 3)) 60 (Int32.toNatClampNeg x1)) ((va_up F_1 62 (upd (F 62) (Int32.toNatClampNeg x1) 3)) 62 (Int32.toNatClampNeg x1)) ((va_up F_1 62 (upd (F 62) (Int32.toNatClampNeg x1) 3)) 66 (Int32.toNatClampNeg x1)) r (3 * cR (r - 1) + 4) := by rw [vhta58, vhta59, vhta60, vhta62, vhta66]; exact ⟨fw, fd, fo_, fr_, Or.inr (Or.inr (Or.inr (Or.inl ⟨rfl, rfl⟩)))⟩
                      have hs1 : FSt (va_up F_1 62 (upd (F 62) (Int32.toNatClampNeg x1) 3)) (n 5).toInt dd ((Int32.toNatClampNeg x1) + 1) r (P1 + (3 * cR (r - 1) + 4)) := ⟨r1, P1, (3 * cR (r - 1) + 4), hlo9, by omega, frV_w (fun k hk => hxx.2.2.1 k ((by decide : ∀ k : Nat, k ∈ wK → k ∉ ([58, 59, 60, 62, 64] : List Nat)) k hk)) hta, rfl⟩
                      have hWI : WI T E S0 fo VF (va_up F_1 62 (upd (F 62) (Int32.toNatClampNeg x1) 3)) G_1 (n_1 57).toInt.toNat (z_1 67) := Or.inr ⟨(Int32.toNatClampNeg x1), wN, fN, d, wo, e57n, hKS9, (by unfold fD; rw [vhta58, vhta59, vhta60, vhta61]; exact ⟨hw1, hd1, hwo1, hfa1⟩), Or.inr ⟨by rw [vhta62]; rfl, hlp, Or.inr ⟨(by omega), hbt, by rw [vhta64]; exact htk0⟩⟩⟩
                      exact gz_vret rfl dX12_enters_233 (Nat.le_of_ble_eq_true rfl) (Nat.le_of_ble_eq_true rfl) (⟨rfl, _, _, _, _, hS_13, hxx, hWI, by omega, r, _, by rw [e57n, e5]; exact hs1, (by omega)⟩)
                    · exact absurd c_184 (by decide)
          ·
            try simp only [mIn_0, lgc_lt, lgc_gt, lgc_le, lgc_ge, lgc_eq] at c_97
            try simp only [fl_lt, fl_le, fl_eq, fL_w, fL_lt, fL_le, tm1, tm10k, tm9, tm99, Int32.reduceToInt, Int64.reduceToInt, Int.not_lt, Int.not_le] at c_97
            refine gz_aload_n dX12_enters_100 rfl rfl ?_
            refine gz_aload_n dX12_enters_101 rfl rfl ?_
            refine gz_iload dX12_enters_102 rfl ?_
            refine gz_aload_n dX12_enters_104 rfl rfl ?_
            refine mg_173 hS_1 dX12_enters_105 ?_
            refine gz_iload_n dX12_enters_108 rfl rfl ?_
            refine m_lald 61 hS_1 rfl (N := 80) rfl ((by exact vin_T (rfl : x1.toInt = x1.toInt) (by omega) (by omega))) dX12_enters_109 ?_
            refine gz_ev (w := .long ((G 61) (Int32.toNatClampNeg x1))) (congrArg Value.long (congrFun (hx1.2.2.2 61 (by decide)) _)) ?_
            refine scX12_384 (k_X12_paysOfE (x1 := (F 58 (Int32.toNatClampNeg x1))) (y := (G 61 (Int32.toNatClampNeg x1))) hS_1 bAa hXa hfo hw1 hfa1) hS_1.1 ⟨(Nat.le_of_ble_eq_true rfl), (Nat.le_of_ble_eq_true rfl)⟩ ⟨(Nat.le_of_ble_eq_true rfl), (Nat.le_of_ble_eq_true rfl)⟩ rfl rfl (Nat.le_of_ble_eq_true rfl) dX12_enters_110 ?_
            rintro r_p f9 ⟨hrp_, y9⟩; rw [y9]
            refine gz_iload_n dX12_enters_113 rfl rfl ?_
            refine gz_if_ne (tgt := 135) dX12_enters_114 (by decide) (fun c_114 => ?_) (fun c_114 => ?_)
            ·
              try simp only [mIn_0, lgc_lt, lgc_gt, lgc_le, lgc_ge, lgc_eq] at c_114
              try simp only [fl_lt, fl_le, fl_eq, fL_w, fL_lt, fL_le, tm1, tm10k, tm9, tm99, Int32.reduceToInt, Int64.reduceToInt, Int.not_lt, Int.not_le] at c_114
              refine gz_iconst (v := 1) dX12_enters_135 (by decide) ?_
              refine gz_i2l dX12_enters_136 ?_
              refine gz_lmul dX12_enters_137 ?_
              refine scX12_456 (k_X12_answersE hS_1) hS_1.1 ⟨(Nat.le_of_ble_eq_true rfl), (Nat.le_of_ble_eq_true rfl)⟩ ⟨(Nat.le_of_ble_eq_true rfl), (Nat.le_of_ble_eq_true rfl)⟩ rfl rfl (Nat.le_of_ble_eq_true rfl) dX12_enters_138 ?_
              rintro f_15 ⟨n_15, z_15, F_15, G_15, hS_15, hx15, g57_15, g67_15⟩
              try simp only [(show n_1 57 = (n 57) from (hx1.1 57 (by decide)))] at g57_15 g67_15
              refine gz_goto (tgt := 233) dX12_enters_141 (by decide) ?_
              have hl9 : (grH T wN).1 = 0 ∨ (grH T wN).1 = 1 ∨ (grH T wN).1 = 3 ∨ (grH T wN).1 = 4 ∨ (grH T wN).1 = 7 ∨ ((grH T wN).1 = 6 ∧ hlB (wSc E S0 d wo) (grH T wN) = false) := by rcases hb_4 with z | z; exact z.2; (exfalso; omega)
              have hxx : fx [57] [29, 67] [58, 59, 60, 62, 64] [28, 61] n z F G n_15 z_15 F_15 G_15 := (fx_tr (fx_tr fx_rf hx1 (by decide)) hx15 (by decide))
              have hlo9 : FSt F_15 (n 5).toInt dd (Int32.toNatClampNeg x1) r1 P1 := FSt_cg (fun k hk => hxx.2.2.1 k ((by decide : ∀ k : Nat, k ∈ wK → k ∉ ([58, 59, 60, 62, 64] : List Nat)) k hk)) _ _ _ (fun i hi => by rw [(show F_15 58 = (F 58) from ((hx15.2.2.1 58 (by decide)).trans (hx1.2.2.1 58 (by decide))))]) (fun i hi => by rw [(show F_15 59 = (F 59) from ((hx15.2.2.1 59 (by decide)).trans (hx1.2.2.1 59 (by decide))))]) (fun i hi => by rw [(show F_15 60 = (F 60) from ((hx15.2.2.1 60 (by decide)).trans (hx1.2.2.1 60 (by decide))))]) (fun i hi => by rw [(show F_15 62 = (F 62) from ((hx15.2.2.1 62 (by decide)).trans (hx1.2.2.1 62 (by decide))))]) (fun i hi => by rw [(show F_15 66 = (F 66) from ((hx15.2.2.1 66 (by decide)).trans (hx1.2.2.1 66 (by decide))))]) hlo
              have hKS9 : KS T E S0 fo VF F_15 G_15 (Int32.toNatClampNeg x1) (vl T E wN fN d (wSc E S0 d wo)) := KS_cg (fun k hk => by simp only [List.mem_cons, List.not_mem_nil, or_false] at hk; rcases hk with rfl | rfl | rfl | rfl | rfl | rfl; exact (fun i hi => by rw [(show F_15 58 = (F 58) from ((hx15.2.2.1 58 (by decide)).trans (hx1.2.2.1 58 (by decide))))]); exact (fun i hi => by rw [(show F_15 59 = (F 59) from ((hx15.2.2.1 59 (by decide)).trans (hx1.2.2.1 59 (by decide))))]); exact (fun i hi => by rw [(show F_15 60 = (F 60) from ((hx15.2.2.1 60 (by decide)).trans (hx1.2.2.1 60 (by decide))))]); exact (fun i hi => by rw [(show F_15 62 = (F 62) from ((hx15.2.2.1 62 (by decide)).trans (hx1.2.2.1 62 (by decide))))]); exact (fun i hi => by rw [(show F_15 64 = (F 64) from ((hx15.2.2.1 64 (by decide)).trans (hx1.2.2.1 64 (by decide))))]); exact (fun i hi => by rw [(show F_15 66 = (F 66) from ((hx15.2.2.1 66 (by decide)).trans (hx1.2.2.1 66 (by decide))))])) (fun k hk => by simp only [List.mem_cons, List.not_mem_nil, or_false] at hk; rcases hk with rfl | rfl | rfl; exact (fun i hi => by rw [(show G_15 61 = (G 61) from ((hx15.2.2.2 61 (by decide)).trans (hx1.2.2.2 61 (by decide))))]); exact (fun i hi => by rw [(show G_15 63 = (G 63) from ((hx15.2.2.2 63 (by decide)).trans (hx1.2.2.2 63 (by decide))))]); exact (fun i hi => by rw [(show G_15 65 = (G 65) from ((hx15.2.2.2 65 (by decide)).trans (hx1.2.2.2 65 (by decide))))])) hKS
              have e5 : n_15 5 = n 5 := hxx.1 5 (by decide)
              have e57 : (n_15 57).toInt = x1.toInt + 0 := (by (try rw [(show n_15 57 = ((n 57) - 1) from g57_15)]); have q1_ := (T_sub (rfl : ((n 57)).toInt = ((n 57)).toInt) (show (1 : Int32).toInt = 1 from rfl) (by omega)); omega)
              have e57n : (n_15 57).toInt.toNat = (Int32.toNatClampNeg x1) + 0 := by omega
              have hans : z_15 67 = (vl T E wN fN d (wSc E S0 d wo)) := (show z_15 67 = (r_p * ((1 : Int32).toInt64)) from g67_15).trans ((by rw [vl_1 hok hvT_ h4 hw1.2 hd1.2 hlp (by omega), if_neg (by omega), ← hrp_, Int64.ofInt_toInt]; rfl))
              exact gz_vret rfl dX12_enters_233 (Nat.le_of_ble_eq_true rfl) (Nat.le_of_ble_eq_true rfl) (⟨rfl, _, _, _, _, hS_15, hxx, Or.inl (by rw [e57n, hans]; exact hKS9), by omega, r1, P1, by rw [e57n, e5]; exact hlo9, (by omega)⟩)
            ·
              try simp only [mIn_0, lgc_lt, lgc_gt, lgc_le, lgc_ge, lgc_eq] at c_114
              try simp only [fl_lt, fl_le, fl_eq, fL_w, fL_lt, fL_le, tm1, tm10k, tm9, tm99, Int32.reduceToInt, Int64.reduceToInt, Int.not_lt, Int.not_le] at c_114
              refine gz_aload_n dX12_enters_117 rfl rfl ?_
              refine scX12_460 (k_X12_allWeightsE (wz := E.2.2.1) hS_1 (by rw [hxa.1 53 (by decide)]; exact hER.1) (by rw [hxa.2.2.1 54 (by decide)]; exact hER.2.2.1)) hS_1.1 ⟨(Nat.le_of_ble_eq_true rfl), (Nat.le_of_ble_eq_true rfl)⟩ ⟨(Nat.le_of_ble_eq_true rfl), (Nat.le_of_ble_eq_true rfl)⟩ rfl rfl (Nat.le_of_ble_eq_true rfl) dX12_enters_118 ?_
              rintro r_a f9 ⟨hra, y9⟩; rw [y9]; rw [hxa.2.2.1 54 (by decide)] at hra
              refine gz_iload_n dX12_enters_121 rfl rfl ?_
              refine gz_aload_n dX12_enters_122 rfl rfl ?_
              refine mg_167 hS_1 dX12_enters_123 ?_
              refine gz_iload_n dX12_enters_126 rfl rfl ?_
              refine m_iald 59 hS_1 rfl (N := 80) rfl ((by exact vin_T (rfl : x1.toInt = x1.toInt) (by omega) (by omega))) dX12_enters_127 ?_
              refine gz_ev (w := .int ((F 59) (Int32.toNatClampNeg x1))) (congrArg Value.int (congrFun (hx1.2.2.1 59 (by decide)) _)) ?_
              refine gz_isub dX12_enters_128 ?_
              have hab := awI_b hER.2.2.1 E.2.2.1 hER.1.2.2
              have hde : (x2 - ((F 59) (Int32.toNatClampNeg x1))).toInt = (E.2.2.2.2.2 : Int) - (d : Int) := T_sub (hDD : _ = _) hd1.1 (by omega)
              refine scX12_463 (k_X12_powerE (x1 := r_a) (x2 := (x2 - ((F 59) (Int32.toNatClampNeg x1)))) (by rw [hra]; have z9 := hER.1.2; omega) (by omega)) ⟨(Nat.le_of_ble_eq_true rfl), (Nat.le_of_ble_eq_true rfl)⟩ ⟨(Nat.le_of_ble_eq_true rfl), (Nat.le_of_ble_eq_true rfl)⟩ rfl rfl (Nat.le_of_ble_eq_true rfl) dX12_enters_129 ?_
              rintro r_pw f9 ⟨hpw, y9⟩; rw [y9]
              refine gz_goto (tgt := 136) dX12_enters_132 (by decide) ?_
              refine gz_i2l dX12_enters_136 ?_
              refine gz_lmul dX12_enters_137 ?_
              refine scX12_456 (k_X12_answersE hS_1) hS_1.1 ⟨(Nat.le_of_ble_eq_true rfl), (Nat.le_of_ble_eq_true rfl)⟩ ⟨(Nat.le_of_ble_eq_true rfl), (Nat.le_of_ble_eq_true rfl)⟩ rfl rfl (Nat.le_of_ble_eq_true rfl) dX12_enters_138 ?_
              rintro f_17 ⟨n_17, z_17, F_17, G_17, hS_17, hx17, g57_17, g67_17⟩
              try simp only [(show n_1 57 = (n 57) from (hx1.1 57 (by decide)))] at g57_17 g67_17
              refine gz_goto (tgt := 233) dX12_enters_141 (by decide) ?_
              have hl9 : (grH T wN).1 = 0 ∨ (grH T wN).1 = 1 ∨ (grH T wN).1 = 3 ∨ (grH T wN).1 = 4 ∨ (grH T wN).1 = 7 ∨ ((grH T wN).1 = 6 ∧ hlB (wSc E S0 d wo) (grH T wN) = false) := by rcases hb_4 with z | z; exact z.2; (exfalso; omega)
              have hxx : fx [57] [29, 67] [58, 59, 60, 62, 64] [28, 61] n z F G n_17 z_17 F_17 G_17 := (fx_tr (fx_tr fx_rf hx1 (by decide)) hx17 (by decide))
              have hlo9 : FSt F_17 (n 5).toInt dd (Int32.toNatClampNeg x1) r1 P1 := FSt_cg (fun k hk => hxx.2.2.1 k ((by decide : ∀ k : Nat, k ∈ wK → k ∉ ([58, 59, 60, 62, 64] : List Nat)) k hk)) _ _ _ (fun i hi => by rw [(show F_17 58 = (F 58) from ((hx17.2.2.1 58 (by decide)).trans (hx1.2.2.1 58 (by decide))))]) (fun i hi => by rw [(show F_17 59 = (F 59) from ((hx17.2.2.1 59 (by decide)).trans (hx1.2.2.1 59 (by decide))))]) (fun i hi => by rw [(show F_17 60 = (F 60) from ((hx17.2.2.1 60 (by decide)).trans (hx1.2.2.1 60 (by decide))))]) (fun i hi => by rw [(show F_17 62 = (F 62) from ((hx17.2.2.1 62 (by decide)).trans (hx1.2.2.1 62 (by decide))))]) (fun i hi => by rw [(show F_17 66 = (F 66) from ((hx17.2.2.1 66 (by decide)).trans (hx1.2.2.1 66 (by decide))))]) hlo
              have hKS9 : KS T E S0 fo VF F_17 G_17 (Int32.toNatClampNeg x1) (vl T E wN fN d (wSc E S0 d wo)) := KS_cg (fun k hk => by simp only [List.mem_cons, List.not_mem_nil, or_false] at hk; rcases hk with rfl | rfl | rfl | rfl | rfl | rfl; exact (fun i hi => by rw [(show F_17 58 = (F 58) from ((hx17.2.2.1 58 (by decide)).trans (hx1.2.2.1 58 (by decide))))]); exact (fun i hi => by rw [(show F_17 59 = (F 59) from ((hx17.2.2.1 59 (by decide)).trans (hx1.2.2.1 59 (by decide))))]); exact (fun i hi => by rw [(show F_17 60 = (F 60) from ((hx17.2.2.1 60 (by decide)).trans (hx1.2.2.1 60 (by decide))))]); exact (fun i hi => by rw [(show F_17 62 = (F 62) from ((hx17.2.2.1 62 (by decide)).trans (hx1.2.2.1 62 (by decide))))]); exact (fun i hi => by rw [(show F_17 64 = (F 64) from ((hx17.2.2.1 64 (by decide)).trans (hx1.2.2.1 64 (by decide))))]); exact (fun i hi => by rw [(show F_17 66 = (F 66) from ((hx17.2.2.1 66 (by decide)).trans (hx1.2.2.1 66 (by decide))))])) (fun k hk => by simp only [List.mem_cons, List.not_mem_nil, or_false] at hk; rcases hk with rfl | rfl | rfl; exact (fun i hi => by rw [(show G_17 61 = (G 61) from ((hx17.2.2.2 61 (by decide)).trans (hx1.2.2.2 61 (by decide))))]); exact (fun i hi => by rw [(show G_17 63 = (G 63) from ((hx17.2.2.2 63 (by decide)).trans (hx1.2.2.2 63 (by decide))))]); exact (fun i hi => by rw [(show G_17 65 = (G 65) from ((hx17.2.2.2 65 (by decide)).trans (hx1.2.2.2 65 (by decide))))])) hKS
              have e5 : n_17 5 = n 5 := hxx.1 5 (by decide)
              have e57 : (n_17 57).toInt = x1.toInt + 0 := (by (try rw [(show n_17 57 = ((n 57) - 1) from g57_17)]); have q1_ := (T_sub (rfl : ((n 57)).toInt = ((n 57)).toInt) (show (1 : Int32).toInt = 1 from rfl) (by omega)); omega)
              have e57n : (n_17 57).toInt.toNat = (Int32.toNatClampNeg x1) + 0 := by omega
              have hans : z_17 67 = (vl T E wN fN d (wSc E S0 d wo)) := (show z_17 67 = (r_p * r_pw.toInt64) from g67_17).trans ((by rw [vl_1 hok hvT_ h4 hw1.2 hd1.2 hlp (by omega), if_pos (by omega), hER.2.2.2.2 (E.2.2.2.2.2 - d) (by omega), ← hra, ← hrp_, Int64.ofInt_toInt, L_of (rfl : r_pw.toInt = _), hpw.1, show (x2 - ((F 59) (Int32.toNatClampNeg x1))).toInt.toNat = E.2.2.2.2.2 - d by omega]))
              exact gz_vret rfl dX12_enters_233 (Nat.le_of_ble_eq_true rfl) (Nat.le_of_ble_eq_true rfl) (⟨rfl, _, _, _, _, hS_17, hxx, Or.inl (by rw [e57n, hans]; exact hKS9), by omega, r1, P1, by rw [e57n, e5]; exact hlo9, (by omega)⟩)
        ·
          try simp only [mIn_0, lgc_lt, lgc_gt, lgc_le, lgc_ge, lgc_eq] at c_59
          try simp only [fl_lt, fl_le, fl_eq, fL_w, fL_lt, fL_le, tm1, tm10k, tm9, tm99, Int32.reduceToInt, Int64.reduceToInt, Int.not_lt, Int.not_le] at c_59
          refine gz_aload_n dX12_enters_62 rfl rfl ?_
          refine mg_173 hS_1 dX12_enters_63 ?_
          refine gz_iload_n dX12_enters_66 rfl rfl ?_
          refine gz_aload_n dX12_enters_67 rfl rfl ?_
          refine gz_iload dX12_enters_68 rfl ?_
          refine gz_aload_n dX12_enters_70 rfl rfl ?_
          refine mg_173 hS_1 dX12_enters_71 ?_
          refine gz_iload_n dX12_enters_74 rfl rfl ?_
          refine m_lald 61 hS_1 rfl (N := 80) rfl ((by exact vin_T (rfl : x1.toInt = x1.toInt) (by omega) (by omega))) dX12_enters_75 ?_
          refine gz_ev (w := .long ((G 61) (Int32.toNatClampNeg x1))) (congrArg Value.long (congrFun (hx1.2.2.2 61 (by decide)) _)) ?_
          refine scX12_380 (k_X12_factorBehindE (x1 := (F 58 (Int32.toNatClampNeg x1))) (y := (G 61 (Int32.toNatClampNeg x1))) (S := (wSc E S0 d wo)) hS_1 bAa hXa hsRa hfo hw1 hfa1) hS_1.1 ⟨(Nat.le_of_ble_eq_true rfl), (Nat.le_of_ble_eq_true rfl)⟩ ⟨(Nat.le_of_ble_eq_true rfl), (Nat.le_of_ble_eq_true rfl)⟩ rfl rfl (Nat.le_of_ble_eq_true rfl) dX12_enters_76 ?_
          rintro r_f f9 ⟨hrf, y9⟩; rw [y9]
          refine m_last 61 hS_1 rfl (N := 80) rfl ((by exact vin_T (rfl : x1.toInt = x1.toInt) (by omega) (by omega))) dX12_enters_79 (fun f_19 hS_19q => ?_)
          have hS_19 : mS cy m a f0 n_1 z_1 F_1 (va_up G_1 61 (vp_updL (G 61) (Int32.toNatClampNeg x1) r_f)) f_19 := (by have e9 := (show G_1 61 = (G 61) from (hx1.2.2.2 61 (by decide))); rw [e9] at hS_19q; exact hS_19q)
          refine gz_aload_n dX12_enters_80 rfl rfl ?_
          refine mg_164 hS_19 dX12_enters_81 ?_
          refine gz_iload_n dX12_enters_84 rfl rfl ?_
          refine gz_iload dX12_enters_85 rfl ?_
          refine m_iast 58 hS_19 rfl (N := 80) rfl ((by exact vin_T (rfl : x1.toInt = x1.toInt) (by omega) (by omega))) dX12_enters_87 (fun f_20 hS_20q => ?_)
          have hS_20 : mS cy m a f0 n_1 z_1 (va_up F_1 58 (upd (F 58) (Int32.toNatClampNeg x1) r_4)) (va_up G_1 61 (vp_updL (G 61) (Int32.toNatClampNeg x1) r_f)) f_20 := (by have e9 := (show F_1 58 = (F 58) from (hx1.2.2.1 58 (by decide))); rw [e9] at hS_20q; exact hS_20q)
          have hl9 : r_4.toInt = 40 * (fo : Int) + (nxT T (wSc E S0 d wo) wN : Int) ∧ (2 ≤ (grH T wN).1 ∧ (grH T wN).1 ≠ 3 ∧ (grH T wN).1 ≠ 4 ∧ (grH T wN).1 ≠ 7) ∧ ((grH T wN).1 = 6 → hlB (wSc E S0 d wo) (grH T wN) = true) := by rcases hb_4 with z | z; (exfalso; omega); exact z
          have hnl := nx_lk (S := (wSc E S0 d wo)) hok hvT_ hw1.2 hl9.2.1.1
          have q1 : vW F (n 5).toInt r_4.toInt ∧ szF F r_4.toInt + 1 ≤ szF F (F 58 (Int32.toNatClampNeg x1)).toInt := by by_cases c5 : (grH T wN).1 = 5 ∧ (grH T wN).2.1 ≤ (wSc E S0 d wo).1; (have e9 : nxT T (wSc E S0 d wo) wN = grS T wN := if_pos c5; have q2 := two_ok bW fw (show 3 ≤ (F 7 (Int32.toNatClampNeg (F 58 (Int32.toNatClampNeg x1)))).toInt ∧ (F 7 (Int32.toNatClampNeg (F 58 (Int32.toNatClampNeg x1)))).toInt ≤ 5 by omega); have q3_ := szF_pos bW (one_ok bW fw (show 2 ≤ (F 7 (Int32.toNatClampNeg (F 58 (Int32.toNatClampNeg x1)))).toInt by omega)).1; rw [show r_4.toInt = (F 12 (F 58 (Int32.toNatClampNeg x1)).toInt.toNat).toInt by rw [hl9.1, e9]; exact (xo2 (by omega)).symm]; exact ⟨q2.1, by omega⟩); (have e9 : nxT T (wSc E S0 d wo) wN = wN + 1 := if_neg c5; rw [show r_4.toInt = (F 11 (F 58 (Int32.toNatClampNeg x1)).toInt.toNat).toInt by rw [hl9.1, e9]; exact (xo1 (by omega)).symm]; exact one_ok bW fw (show 2 ≤ (F 7 (Int32.toNatClampNeg (F 58 (Int32.toNatClampNeg x1)))).toInt by omega))
          have q1z := szF_pos bW q1.1
          obtain ⟨rb, hrb_⟩ : ∃ rb : Nat, (rb : Int) = szF F r_4.toInt + 4 - (F 59 (Int32.toNatClampNeg x1)).toInt := ⟨(szF F r_4.toInt + 4 - (F 59 (Int32.toNatClampNeg x1)).toInt : Int).toNat, by omega⟩
          have hcb := cR_lt (a := rb) (b := r) (by omega)
          have hxx : fx [57] [29, 67] [58, 59, 60, 62, 64] [28, 61] n z F G n_1 z_1 (va_up F_1 58 (upd (F 58) (Int32.toNatClampNeg x1) r_4)) (va_up G_1 61 (vp_updL (G 61) (Int32.toNatClampNeg x1) r_f)) := (fx_F (fx_G (fx_tr fx_rf hx1 (by decide)) (by decide)) (by decide))
          have hlo9 : FSt (va_up F_1 58 (upd (F 58) (Int32.toNatClampNeg x1) r_4)) (n 5).toInt dd (Int32.toNatClampNeg x1) r1 P1 := FSt_cg (fun k hk => hxx.2.2.1 k ((by decide : ∀ k : Nat, k ∈ wK → k ∉ ([58, 59, 60, 62, 64] : List Nat)) k hk)) _ _ _ (fun i hi => by rw [(show (va_up F_1 58 (upd (F 58) (Int32.toNatClampNeg x1) r_4)) 58 = (upd (F 58) (Int32.toNatClampNeg x1) r_4) from rfl)]; rw [updE, if_neg (by omega)]) (fun i hi => by rw [(show (va_up F_1 58 (upd (F 58) (Int32.toNatClampNeg x1) r_4)) 59 = (F 59) from (hx1.2.2.1 59 (by decide)))]) (fun i hi => by rw [(show (va_up F_1 58 (upd (F 58) (Int32.toNatClampNeg x1) r_4)) 60 = (F 60) from (hx1.2.2.1 60 (by decide)))]) (fun i hi => by rw [(show (va_up F_1 58 (upd (F 58) (Int32.toNatClampNeg x1) r_4)) 62 = (F 62) from (hx1.2.2.1 62 (by decide)))]) (fun i hi => by rw [(show (va_up F_1 58 (upd (F 58) (Int32.toNatClampNeg x1) r_4)) 66 = (F 66) from (hx1.2.2.1 66 (by decide)))]) hlo
          have hKS9 : KS T E S0 fo VF (va_up F_1 58 (upd (F 58) (Int32.toNatClampNeg x1) r_4)) (va_up G_1 61 (vp_updL (G 61) (Int32.toNatClampNeg x1) r_f)) (Int32.toNatClampNeg x1) (vl T E wN fN d (wSc E S0 d wo)) := KS_cg (fun k hk => by simp only [List.mem_cons, List.not_mem_nil, or_false] at hk; rcases hk with rfl | rfl | rfl | rfl | rfl | rfl; exact (fun i hi => by rw [(show (va_up F_1 58 (upd (F 58) (Int32.toNatClampNeg x1) r_4)) 58 = (upd (F 58) (Int32.toNatClampNeg x1) r_4) from rfl)]; rw [updE, if_neg (by omega)]); exact (fun i hi => by rw [(show (va_up F_1 58 (upd (F 58) (Int32.toNatClampNeg x1) r_4)) 59 = (F 59) from (hx1.2.2.1 59 (by decide)))]); exact (fun i hi => by rw [(show (va_up F_1 58 (upd (F 58) (Int32.toNatClampNeg x1) r_4)) 60 = (F 60) from (hx1.2.2.1 60 (by decide)))]); exact (fun i hi => by rw [(show (va_up F_1 58 (upd (F 58) (Int32.toNatClampNeg x1) r_4)) 62 = (F 62) from (hx1.2.2.1 62 (by decide)))]); exact (fun i hi => by rw [(show (va_up F_1 58 (upd (F 58) (Int32.toNatClampNeg x1) r_4)) 64 = (F 64) from (hx1.2.2.1 64 (by decide)))]); exact (fun i hi => by rw [(show (va_up F_1 58 (upd (F 58) (Int32.toNatClampNeg x1) r_4)) 66 = (F 66) from (hx1.2.2.1 66 (by decide)))])) (fun k hk => by simp only [List.mem_cons, List.not_mem_nil, or_false] at hk; rcases hk with rfl | rfl | rfl; exact (fun i hi => by rw [(show (va_up G_1 61 (vp_updL (G 61) (Int32.toNatClampNeg x1) r_f)) 61 = (vp_updL (G 61) (Int32.toNatClampNeg x1) r_f) from rfl)]; rw [updLE, if_neg (by omega)]); exact (fun i hi => by rw [(show (va_up G_1 61 (vp_updL (G 61) (Int32.toNatClampNeg x1) r_f)) 63 = (G 63) from (hx1.2.2.2 63 (by decide)))]); exact (fun i hi => by rw [(show (va_up G_1 61 (vp_updL (G 61) (Int32.toNatClampNeg x1) r_f)) 65 = (G 65) from (hx1.2.2.2 65 (by decide)))])) hKS
          have e5 : n_1 5 = n 5 := hxx.1 5 (by decide)
          have e57 : (n_1 57).toInt = x1.toInt + 1 := (by (try rw [(show n_1 57 = (n 57) from (hx1.1 57 (by decide)))]); omega)
          have e57n : (n_1 57).toInt.toNat = (Int32.toNatClampNeg x1) + 1 := by omega
          have vhta58 : (va_up F_1 58 (upd (F 58) (Int32.toNatClampNeg x1) r_4)) 58 (Int32.toNatClampNeg x1) = r_4 := (by rw [(show (va_up F_1 58 (upd (F 58) (Int32.toNatClampNeg x1) r_4)) 58 = (upd (F 58) (Int32.toNatClampNeg x1) r_4) from rfl)]; rw [updE, if_pos rfl])
          have vhta59 : (va_up F_1 58 (upd (F 58) (Int32.toNatClampNeg x1) r_4)) 59 (Int32.toNatClampNeg x1) = (F 59 (Int32.toNatClampNeg x1)) := (by rw [(show (va_up F_1 58 (upd (F 58) (Int32.toNatClampNeg x1) r_4)) 59 = (F 59) from (hx1.2.2.1 59 (by decide)))])
          have vhta60 : (va_up F_1 58 (upd (F 58) (Int32.toNatClampNeg x1) r_4)) 60 (Int32.toNatClampNeg x1) = (F 60 (Int32.toNatClampNeg x1)) := (by rw [(show (va_up F_1 58 (upd (F 58) (Int32.toNatClampNeg x1) r_4)) 60 = (F 60) from (hx1.2.2.1 60 (by decide)))])
          have vhta62 : (va_up F_1 58 (upd (F 58) (Int32.toNatClampNeg x1) r_4)) 62 (Int32.toNatClampNeg x1) = (F 62 (Int32.toNatClampNeg x1)) := (by rw [(show (va_up F_1 58 (upd (F 58) (Int32.toNatClampNeg x1) r_4)) 62 = (F 62) from (hx1.2.2.1 62 (by decide)))])
          have vhta64 : (va_up F_1 58 (upd (F 58) (Int32.toNatClampNeg x1) r_4)) 64 (Int32.toNatClampNeg x1) = (F 64 (Int32.toNatClampNeg x1)) := (by rw [(show (va_up F_1 58 (upd (F 58) (Int32.toNatClampNeg x1) r_4)) 64 = (F 64) from (hx1.2.2.1 64 (by decide)))])
          have vhta66 : (va_up F_1 58 (upd (F 58) (Int32.toNatClampNeg x1) r_4)) 66 (Int32.toNatClampNeg x1) = (F 66 (Int32.toNatClampNeg x1)) := (by rw [(show (va_up F_1 58 (upd (F 58) (Int32.toNatClampNeg x1) r_4)) 66 = (F 66) from (hx1.2.2.1 66 (by decide)))])
          have vhta61 : (va_up G_1 61 (vp_updL (G 61) (Int32.toNatClampNeg x1) r_f)) 61 (Int32.toNatClampNeg x1) = r_f := (by rw [(show (va_up G_1 61 (vp_updL (G 61) (Int32.toNatClampNeg x1) r_f)) 61 = (vp_updL (G 61) (Int32.toNatClampNeg x1) r_f) from rfl)]; rw [updLE, if_pos rfl])
          have vhta63 : (va_up G_1 61 (vp_updL (G 61) (Int32.toNatClampNeg x1) r_f)) 63 (Int32.toNatClampNeg x1) = (G 63 (Int32.toNatClampNeg x1)) := (by rw [(show (va_up G_1 61 (vp_updL (G 61) (Int32.toNatClampNeg x1) r_f)) 63 = (G 63) from (hx1.2.2.2 63 (by decide)))])
          have vhta65 : (va_up G_1 61 (vp_updL (G 61) (Int32.toNatClampNeg x1) r_f)) 65 (Int32.toNatClampNeg x1) = (G 65 (Int32.toNatClampNeg x1)) := (by rw [(show (va_up G_1 61 (vp_updL (G 61) (Int32.toNatClampNeg x1) r_f)) 65 = (G 65) from (hx1.2.2.2 65 (by decide)))])
          have hta : frV F (n 5).toInt dd ((va_up F_1 58 (upd (F 58) (Int32.toNatClampNeg x1) r_4)) 58 (Int32.toNatClampNeg x1)) ((va_up F_1 58 (upd (F 58) (Int32.toNatClampNeg x1) r_4)) 59 (Int32.toNatClampNeg x1)) ((va_up F_1 58 (upd (F 58) (Int32.toNatClampNeg x1) r_4)) 60 (Int32.toNatClampNeg x1)) ((va_up F_1 58 (upd (F 58) (Int32.toNatClampNeg x1) r_4)) 62 (Int32.toNatClampNeg x1)) ((va_up F_1 58 (upd (F 58) (Int32.toNatClampNeg x1) r_4)) 66 (Int32.toNatClampNeg x1)) rb (cR rb) := by rw [vhta58, vhta59, vhta60, vhta62, vhta66]; exact ⟨q1.1, fd, fo_, hrb_, Or.inl ⟨hat, rfl⟩⟩
          have hs1 : FSt (va_up F_1 58 (upd (F 58) (Int32.toNatClampNeg x1) r_4)) (n 5).toInt dd ((Int32.toNatClampNeg x1) + 1) rb (P1 + (cR rb)) := ⟨r1, P1, (cR rb), hlo9, by omega, frV_w (fun k hk => hxx.2.2.1 k ((by decide : ∀ k : Nat, k ∈ wK → k ∉ ([58, 59, 60, 62, 64] : List Nat)) k hk)) hta, rfl⟩
          have hWI : WI T E S0 fo VF (va_up F_1 58 (upd (F 58) (Int32.toNatClampNeg x1) r_4)) (va_up G_1 61 (vp_updL (G 61) (Int32.toNatClampNeg x1) r_f)) (n_1 57).toInt.toNat (z_1 67) := Or.inr ⟨(Int32.toNatClampNeg x1), (nxT T (wSc E S0 d wo) wN), (psT (wSc E S0 d wo) (grH T wN) fN), d, wo, e57n, (by rw [← vl_n hok hvT_ h4 hw1.2 hd1.2 hlp hl9.2.1 hl9.2.2]; exact hKS9), (by unfold fD; rw [vhta58, vhta59, vhta60, vhta61]; exact ⟨⟨hl9.1, hnl.2⟩, hd1, hwo1, hrf, psT_b hfa1.2⟩), Or.inl ⟨by rw [vhta62]; exact hat, by rw [vhta64]; exact htk0⟩⟩
          exact gz_vret rfl dX12_enters_88 (Nat.le_of_ble_eq_true rfl) (Nat.le_of_ble_eq_true rfl) (⟨rfl, _, _, _, _, hS_20, hxx, hWI, by omega, rb, _, by rw [e57n, e5]; exact hs1, (by omega)⟩)
      ·
        try simp only [mIn_0, lgc_lt, lgc_gt, lgc_le, lgc_ge, lgc_eq] at c_40
        try simp only [fl_lt, fl_le, fl_eq, fL_w, fL_lt, fL_le, tm1, tm10k, tm9, tm99, Int32.reduceToInt, Int64.reduceToInt, Int.not_lt, Int.not_le] at c_40
        refine gz_aload_n dX12_enters_43 rfl rfl ?_
        refine gz_lconst (v := 0) dX12_enters_44 (by decide) ?_
        refine scX12_456 (k_X12_answersE hS_1) hS_1.1 ⟨(Nat.le_of_ble_eq_true rfl), (Nat.le_of_ble_eq_true rfl)⟩ ⟨(Nat.le_of_ble_eq_true rfl), (Nat.le_of_ble_eq_true rfl)⟩ rfl rfl (Nat.le_of_ble_eq_true rfl) dX12_enters_45 ?_
        rintro f_21 ⟨n_21, z_21, F_21, G_21, hS_21, hx21, g57_21, g67_21⟩
        try simp only [(show n_1 57 = (n 57) from (hx1.1 57 (by decide)))] at g57_21 g67_21
        have hxx : fx [57] [29, 67] [58, 59, 60, 62, 64] [28, 61] n z F G n_21 z_21 F_21 G_21 := (fx_tr (fx_tr fx_rf hx1 (by decide)) hx21 (by decide))
        have hlo9 : FSt F_21 (n 5).toInt dd (Int32.toNatClampNeg x1) r1 P1 := FSt_cg (fun k hk => hxx.2.2.1 k ((by decide : ∀ k : Nat, k ∈ wK → k ∉ ([58, 59, 60, 62, 64] : List Nat)) k hk)) _ _ _ (fun i hi => by rw [(show F_21 58 = (F 58) from ((hx21.2.2.1 58 (by decide)).trans (hx1.2.2.1 58 (by decide))))]) (fun i hi => by rw [(show F_21 59 = (F 59) from ((hx21.2.2.1 59 (by decide)).trans (hx1.2.2.1 59 (by decide))))]) (fun i hi => by rw [(show F_21 60 = (F 60) from ((hx21.2.2.1 60 (by decide)).trans (hx1.2.2.1 60 (by decide))))]) (fun i hi => by rw [(show F_21 62 = (F 62) from ((hx21.2.2.1 62 (by decide)).trans (hx1.2.2.1 62 (by decide))))]) (fun i hi => by rw [(show F_21 66 = (F 66) from ((hx21.2.2.1 66 (by decide)).trans (hx1.2.2.1 66 (by decide))))]) hlo
        have hKS9 : KS T E S0 fo VF F_21 G_21 (Int32.toNatClampNeg x1) (vl T E wN fN d (wSc E S0 d wo)) := KS_cg (fun k hk => by simp only [List.mem_cons, List.not_mem_nil, or_false] at hk; rcases hk with rfl | rfl | rfl | rfl | rfl | rfl; exact (fun i hi => by rw [(show F_21 58 = (F 58) from ((hx21.2.2.1 58 (by decide)).trans (hx1.2.2.1 58 (by decide))))]); exact (fun i hi => by rw [(show F_21 59 = (F 59) from ((hx21.2.2.1 59 (by decide)).trans (hx1.2.2.1 59 (by decide))))]); exact (fun i hi => by rw [(show F_21 60 = (F 60) from ((hx21.2.2.1 60 (by decide)).trans (hx1.2.2.1 60 (by decide))))]); exact (fun i hi => by rw [(show F_21 62 = (F 62) from ((hx21.2.2.1 62 (by decide)).trans (hx1.2.2.1 62 (by decide))))]); exact (fun i hi => by rw [(show F_21 64 = (F 64) from ((hx21.2.2.1 64 (by decide)).trans (hx1.2.2.1 64 (by decide))))]); exact (fun i hi => by rw [(show F_21 66 = (F 66) from ((hx21.2.2.1 66 (by decide)).trans (hx1.2.2.1 66 (by decide))))])) (fun k hk => by simp only [List.mem_cons, List.not_mem_nil, or_false] at hk; rcases hk with rfl | rfl | rfl; exact (fun i hi => by rw [(show G_21 61 = (G 61) from ((hx21.2.2.2 61 (by decide)).trans (hx1.2.2.2 61 (by decide))))]); exact (fun i hi => by rw [(show G_21 63 = (G 63) from ((hx21.2.2.2 63 (by decide)).trans (hx1.2.2.2 63 (by decide))))]); exact (fun i hi => by rw [(show G_21 65 = (G 65) from ((hx21.2.2.2 65 (by decide)).trans (hx1.2.2.2 65 (by decide))))])) hKS
        have e5 : n_21 5 = n 5 := hxx.1 5 (by decide)
        have e57 : (n_21 57).toInt = x1.toInt + 0 := (by (try rw [(show n_21 57 = ((n 57) - 1) from g57_21)]); have q1_ := (T_sub (rfl : ((n 57)).toInt = ((n 57)).toInt) (show (1 : Int32).toInt = 1 from rfl) (by omega)); omega)
        have e57n : (n_21 57).toInt.toNat = (Int32.toNatClampNeg x1) + 0 := by omega
        have hans : z_21 67 = (vl T E wN fN d (wSc E S0 d wo)) := (show z_21 67 = 0 from g67_21).trans ((vl_0 hok hvT_ h4 hw1.2 hd1.2 (Or.inr (by omega))).symm)
        exact gz_vret rfl dX12_enters_48 (Nat.le_of_ble_eq_true rfl) (Nat.le_of_ble_eq_true rfl) (⟨rfl, _, _, _, _, hS_21, hxx, Or.inl (by rw [e57n, hans]; exact hKS9), by omega, r1, P1, by rw [e57n, e5]; exact hlo9, (by omega)⟩)
