theorem vsF_add {F : Nat → Nat → Int32} {f : Nat} : ∀ a i b, vsF F f i (a + b) = vsF F f i a + vsF F f (i + a) b := by
  intro a
  induction a with
  | zero => intro i b; simp [vsF]
  | succ a ih =>
    intro i b
    rw [show a + 1 + b = (a + b) + 1 by omega]
    show _ + vsF F f (i + 1) (a + b) = (_ + vsF F f (i + 1) a) + _
    rw [ih, show i + 1 + a = i + (a + 1) by omega]; omega
theorem vsF_sub {F : Nat → Nat → Int32} {f i n j m : Nat} (h1 : i ≤ j) (h2 : j + m ≤ i + n) : vsF F f j m ≤ vsF F f i n := by
  have e1 := vsF_add (F := F) (f := f) (j - i) i (n - (j - i))
  have e2 := vsF_add (F := F) (f := f) m j (n - (j - i) - m)
  rw [show i + (j - i) = j by omega, show j - i + (n - (j - i)) = n by omega] at e1
  rw [show m + (n - (j - i) - m) = n - (j - i) by omega] at e2
  omega
/-- the VALUES of a WORD itself, and of all that it has -/
def owF (F : Nat → Nat → Int32) (w : Int) : Nat := ((F 15 w.toNat).toInt - (F 13 w.toNat).toInt).toNat
def vsW (F : Nat → Nat → Int32) (w : Int) : Nat := vsF F (w / 40).toNat (w % 40).toNat (szF F w)
theorem vsW_fk {F : Nat → Nat → Int32} {f k : Nat} (hk : k < 40) : vsW F (40 * (f : Int) + k) = vsF F f k (eN F f (F 6 f).toInt.toNat k - k) := by
  unfold vsW; rw [szF_fk hk, (vW_fk (F := F) hk).1, (vW_fk (F := F) hk).2]
theorem vsW_own {F : Nat → Nat → Int32} {c w : Int} (hW : rW F c) (h : vW F c w) : owF F w ≤ vsW F w ∧ vsW F w ≤ 40 := by
  obtain ⟨f, k, h1, h2, h3⟩ := h
  have q0 := (hW f h1).1
  have q := (hW f h1).2.2
  have z4 := eN_gt (F := F) (f := f) h2
  rw [h3, vsW_fk (by omega)]
  constructor
  · rw [show eN F f (F 6 f).toInt.toNat k - k = (eN F f (F 6 f).toInt.toNat k - k - 1) + 1 by omega]
    unfold owF
    rw [wAt (f := f) (k := k) rfl]
    show _ ≤ _ + _
    omega
  · have := vsF_sub (F := F) (f := f) (i := 0) (n := (F 6 f).toInt.toNat) (j := k) (m := eN F f (F 6 f).toInt.toNat k - k) (by omega) (by omega)
    omega
theorem one_vs {F : Nat → Nat → Int32} {c w : Int} (hW : rW F c) (h : vW F c w) (hk : 2 ≤ (F 7 w.toNat).toInt) : vsW F (F 11 w.toNat).toInt + owF F w ≤ vsW F w := by
  obtain ⟨f, k, h1, h2, h3⟩ := h
  have q := (hW f h1).2.1 k h2
  have q0 := (hW f h1).1
  rw [wAt h3] at hk ⊢
  obtain ⟨t, z1, z2, z3, -⟩ := q.2.2.2.1 hk
  have z4 := eN_gt (F := F) (f := f) h2
  have z5 := eN_lam (F := F) (f := f) h2 (Nat.le_of_lt z2) z3
  have z6 := eN_gt (F := F) (f := f) (k := t) (W := (F 6 f).toInt.toNat) (by omega)
  rw [z1, h3, vsW_fk (by omega), vsW_fk (by omega)]
  rw [show eN F f (F 6 f).toInt.toNat k - k = (eN F f (F 6 f).toInt.toNat k - k - 1) + 1 by omega]
  have e := vsF_sub (F := F) (f := f) (i := k + 1) (n := eN F f (F 6 f).toInt.toNat k - k - 1) (j := t) (m := eN F f (F 6 f).toInt.toNat t - t) (by omega) (by omega)
  unfold owF
  rw [wAt (f := f) (k := k) rfl]
  show _ ≤ _ + vsF F f (k + 1) (eN F f (F 6 f).toInt.toNat k - k - 1)
  omega
theorem two_vs {F : Nat → Nat → Int32} {c w : Int} (hW : rW F c) (h : vW F c w) (hk : 3 ≤ (F 7 w.toNat).toInt ∧ (F 7 w.toNat).toInt ≤ 5) : vsW F (F 11 w.toNat).toInt + vsW F (F 12 w.toNat).toInt + owF F w ≤ vsW F w := by
  obtain ⟨f, k, h1, h2, h3⟩ := h
  have q := (hW f h1).2.1 k h2
  have q0 := (hW f h1).1
  rw [wAt h3] at hk ⊢
  obtain ⟨t, z1, z2, z3, zz⟩ := q.2.2.2.1 (by omega)
  obtain ⟨u, y1, y2, y3⟩ := zz hk
  have z4 := eN_gt (F := F) (f := f) h2
  have z6 := eN_gt (F := F) (f := f) (k := t) (W := (F 6 f).toInt.toNat) (by omega)
  have z7 := eN_gt (F := F) (f := f) (k := u) (W := (F 6 f).toInt.toNat) (by omega)
  have z5 := eN_lam (F := F) (f := f) (j := u) h2 (by omega) y3
  rw [z1, y1, h3, vsW_fk (by omega), vsW_fk (by omega), vsW_fk (by omega)]
  have e0 := vsF_add (F := F) (f := f) (eN F f (F 6 f).toInt.toNat t - t) t (u - eN F f (F 6 f).toInt.toNat t + (eN F f (F 6 f).toInt.toNat u - u))
  have e2 := vsF_sub (F := F) (f := f) (i := t + (eN F f (F 6 f).toInt.toNat t - t)) (n := u - eN F f (F 6 f).toInt.toNat t + (eN F f (F 6 f).toInt.toNat u - u)) (j := u) (m := eN F f (F 6 f).toInt.toNat u - u) (by omega) (by omega)
  have e := vsF_sub (F := F) (f := f) (i := k + 1) (n := eN F f (F 6 f).toInt.toNat k - k - 1) (j := t) (m := eN F f (F 6 f).toInt.toNat t - t + (u - eN F f (F 6 f).toInt.toNat t + (eN F f (F 6 f).toInt.toNat u - u))) (by omega) (by omega)
  rw [show eN F f (F 6 f).toInt.toNat k - k = (eN F f (F 6 f).toInt.toNat k - k - 1) + 1 by omega]
  unfold owF
  rw [wAt (f := f) (k := k) rfl]
  show _ ≤ _ + vsF F f (k + 1) (eN F f (F 6 f).toInt.toNat k - k - 1)
  omega
theorem owF_ok {F : Nat → Nat → Int32} {c w : Int} (hW : rW F c) (h : vW F c w) : ((F 13 w.toNat).toInt ≤ (F 14 w.toNat).toInt ∧ (F 14 w.toNat).toInt ≤ (F 15 w.toNat).toInt) ∧ (owF F w : Int) = (F 15 w.toNat).toInt - (F 13 w.toNat).toInt := by
  obtain ⟨f, k, h1, h2, h3⟩ := h
  have q := (hW f h1).2.1 k h2
  unfold owF
  rw [wAt h3]
  refine ⟨q.2.2.2.2, ?_⟩
  have := q.2.2.2.2
  omega
theorem vsW_w {F F2 : Nat → Nat → Int32} (h : ∀ k, k ∈ wK → F2 k = F k) {w : Int} : vsW F2 w = vsW F w := by
  unfold vsW; rw [szF_w h, vsF_cg (h 13 (by decide)) (h 15 (by decide))]
/-- what telling one task costs: letters, and room among the tasks -/
def csT (F : Nat → Nat → Int32) (x : Int) : Nat := if x < 0 then 1 else 17 * szF F x + 7 * vsW F x
def wgT (F : Nat → Nat → Int32) (x : Int) : Nat := if x < 0 then 1 else 3 * szF F x - 1
def smT (c : Int → Nat) (g : Nat → Int32) : Nat → Nat
  | 0 => 0
  | i + 1 => c (g i).toInt + smT c g i
def tkT (F : Nat → Nat → Int32) (c : Int) (g : Nat → Int32) (t A B : Nat) : Prop := (∀ i, i < t → (g i).toInt = -1 ∨ (g i).toInt = -2 ∨ vW F c (g i).toInt) ∧ smT (csT F) g t = A ∧ smT (wgT F) g t = B
theorem smT_cg {c : Int → Nat} {g g2 : Nat → Int32} : ∀ t, (∀ i, i < t → g2 i = g i) → smT c g2 t = smT c g t := by
  intro t
  induction t with
  | zero => intro _; rfl
  | succ t ih => intro h; unfold smT; rw [h t (by omega), ih (fun i hi => h i (by omega))]
theorem tkT_0 {F : Nat → Nat → Int32} {c : Int} {g : Nat → Int32} : tkT F c g 0 0 0 := ⟨fun i hi => by omega, rfl, rfl⟩
theorem tkT_pop {F : Nat → Nat → Int32} {c : Int} {g : Nat → Int32} {t A B : Nat} (h : tkT F c g (t + 1) A B) : ((g t).toInt = -1 ∨ (g t).toInt = -2 ∨ vW F c (g t).toInt) ∧ ∃ A2 B2, tkT F c g t A2 B2 ∧ A2 + csT F (g t).toInt = A ∧ B2 + wgT F (g t).toInt = B := by
  refine ⟨h.1 t (by omega), smT (csT F) g t, smT (wgT F) g t, ⟨fun i hi => h.1 i (by omega), rfl, rfl⟩, ?_, ?_⟩
  · have := h.2.1; unfold smT at this; omega
  · have := h.2.2; unfold smT at this; omega
theorem tkT_push {F : Nat → Nat → Int32} {c : Int} {g : Nat → Int32} {t A B : Nat} {x : Int32} (h : tkT F c g t A B) (hx : x.toInt = -1 ∨ x.toInt = -2 ∨ vW F c x.toInt) : tkT F c (upd g t x) (t + 1) (A + csT F x.toInt) (B + wgT F x.toInt) := by
  have e : ∀ i, i < t → upd g t x i = g i := fun i hi => by rw [updE, if_neg (by omega)]
  refine ⟨fun i hi => ?_, ?_, ?_⟩
  · by_cases q : i = t
    · rw [updE, if_pos q]; exact hx
    · rw [e i (by omega)]; exact h.1 i (by omega)
  · unfold smT
    rw [smT_cg t e, h.2.1, updE, if_pos rfl]; omega
  · unfold smT
    rw [smT_cg t e, h.2.2, updE, if_pos rfl]; omega
theorem wgT_pos {F : Nat → Nat → Int32} {c x : Int} (hW : rW F c) (h : x = -1 ∨ x = -2 ∨ vW F c x) : 1 ≤ wgT F x := by
  unfold wgT
  split
  · exact Nat.le_refl _
  · rename_i q
    rcases h with h | h | h
    · omega
    · omega
    · have := szF_pos hW h; omega
theorem tkT_len {F : Nat → Nat → Int32} {c : Int} {g : Nat → Int32} (hW : rW F c) : ∀ {t A B : Nat}, tkT F c g t A B → t ≤ B := by
  intro t
  induction t with
  | zero => intro A B h; omega
  | succ t ih =>
    intro A B h
    obtain ⟨h1, A2, B2, h2, h3, h4⟩ := tkT_pop h
    have := ih h2
    have := wgT_pos hW h1
    omega
theorem csT_w {F F2 : Nat → Nat → Int32} (h : ∀ k, k ∈ wK → F2 k = F k) : csT F2 = csT F := by
  funext x; unfold csT; rw [szF_w h, vsW_w h]
theorem wgT_w {F F2 : Nat → Nat → Int32} (h : ∀ k, k ∈ wK → F2 k = F k) : wgT F2 = wgT F := by
  funext x; unfold wgT; rw [szF_w h]
theorem tkT_w {F F2 : Nat → Nat → Int32} (h : ∀ k, k ∈ wK → F2 k = F k) {c : Int} {g : Nat → Int32} {t A B : Nat} (q : tkT F c g t A B) : tkT F2 c g t A B := by
  refine ⟨fun i hi => ?_, by rw [csT_w h]; exact q.2.1, by rw [wgT_w h]; exact q.2.2⟩
  rcases q.1 i hi with z | z | z
  · exact Or.inl z
  · exact Or.inr (Or.inl z)
  · exact Or.inr (Or.inr (vW_cg (h 6 (by decide)) z))
theorem csT_v {F : Nat → Nat → Int32} {x : Int} (h : 0 ≤ x) : csT F x = 17 * szF F x + 7 * vsW F x := by unfold csT; rw [if_neg (by omega)]
theorem wgT_v {F : Nat → Nat → Int32} {x : Int} (h : 0 ≤ x) : wgT F x = 3 * szF F x - 1 := by unfold wgT; rw [if_neg (by omega)]
theorem csT_n {F : Nat → Nat → Int32} {x : Int} (h : x < 0) : csT F x = 1 ∧ wgT F x = 1 := by unfold csT wgT; rw [if_pos h, if_pos h]; exact ⟨rfl, rfl⟩

set_option maxHeartbeats 4000000 in
set_option maxRecDepth 100000 in
theorem l_X12_sums {l : Launch} {D : va_G} {cy : Nat → ClassId} {b : Nat} {m : Nat} {a : Nat → Nat} {f0 : gMem} {n0 : Nat → Int32} {z0 : Nat → Int64} {F0 : Nat → Nat → Int32} {G0 : Nat → Nat → Int64}  {x1 x2 x3 : Int32} (bA0 : rAll F0) (hw : 0 ≤ x1.toInt ∧ x1.toInt < 880) (hlh : 0 ≤ x2.toInt ∧ x2.toInt ≤ x3.toInt ∧ x3.toInt ≤ 40) (h8 : 0 ≤ (n0 88).toInt ∧ (n0 88).toInt + 7 * (x3.toInt - x2.toInt) ≤ 1000) : ∀ (k : Nat) (i : Int32) (n : Nat → Int32) (z : Nat → Int64) (F : Nat → Nat → Int32) (G : Nat → Nat → Int64) (fm : gMem), mS cy m a f0 n z F G fm → fx [88, 89] [] [87] [] n0 z0 F0 G0 n z F G → ((n0 88).toInt ≤ (n 88).toInt) → ((n 88).toInt ≤ (n0 88).toInt + 7 * (i.toInt - (40 * (x1.toInt / 40) + x2.toInt))) → (40 * (x1.toInt / 40) + x2.toInt ≤ i.toInt ∧ i.toInt ≤ 40 * (x1.toInt / 40) + x3.toInt) → (40 * (x1.toInt / 40) + x3.toInt - i.toInt < (k : Int)) → gG l (gRm 2 0 0) (gQf D b (pV fun f2 => ∃ (n2 : Nat → Int32) (z2 : Nat → Int64) (F2 : Nat → Nat → Int32) (G2 : Nat → Nat → Int64), mS cy m a f0 n2 z2 F2 G2 f2 ∧ fx [88, 89] [] [87] [] n0 z0 F0 G0 n2 z2 F2 G2 ∧ (n0 88).toInt ≤ (n2 88).toInt ∧ (n2 88).toInt ≤ (n0 88).toInt + 7 * (x3.toInt - x2.toInt)) 0 0) gTt D cy b cX12_sums 5 none RX12 "sums" 0 0 fm 11 [(4, .int i), (0, .ref m), (1, .int x1), (2, .int x2), (3, .int x3)] [] := by
  intro k
  induction k with
  | zero =>
    intro i n z F G fm hS hx hm hc hi hk
    exfalso; omega
  | succ k ih =>
    intro i n z F G fm hS hx hm hc hi hk
    have qb3 : (40 * (x1 / 40) + x3).toInt = 40 * (x1.toInt / 40) + x3.toInt := T_add (T_mul (show (40 : Int32).toInt = 40 from rfl) (T_div rfl (show (40 : Int32).toInt = 40 from rfl) (by omega) (by omega)) (by omega)) rfl (by omega)
    have qb2 : (40 * (x1 / 40) + x2).toInt = 40 * (x1.toInt / 40) + x2.toInt := T_add (T_mul (show (40 : Int32).toInt = 40 from rfl) (T_div rfl (show (40 : Int32).toInt = 40 from rfl) (by omega) (by omega)) (by omega)) rfl (by omega)
    have bA := rAll_w (fun k hk => hx.2.2.1 k ((by decide : ∀ k : Nat, k ∈ wK → k ∉ ([87] : List Nat)) k hk)) bA0
    have qA : i.toInt < 880 → (-1 ≤ ((F 19) (Int32.toNatClampNeg i)).toInt ∧ ((F 19) (Int32.toNatClampNeg i)).toInt ≤ 6) := fun q => (all_ok bA (w := i) (by omega)).2.2.2
    refine gz_iload dX12_sums_11 rfl ?_
    refine gz_bipush (v := 40) dX12_sums_13 (by decide) ?_
    refine gz_iload_n dX12_sums_15 rfl rfl ?_
    refine gz_bipush (v := 40) dX12_sums_16 (by decide) ?_
    refine gz_idiv dX12_sums_18 (by decide) ?_
    refine gz_imul dX12_sums_19 ?_
    refine gz_iload_n dX12_sums_20 rfl rfl ?_
    refine gz_iadd dX12_sums_21 ?_
    refine gz_icmp_ge (tgt := 113) dX12_sums_22 (by decide) (fun c_22 => ?_) (fun c_22 => ?_)
    ·
      try simp only [mIn_0, lgc_lt, lgc_gt, lgc_le, lgc_ge, lgc_eq] at c_22
      try simp only [fl_lt, fl_le, fl_eq, fL_w, fL_lt, fL_le, tm1, tm10k, tm9, tm99, Int32.reduceToInt, Int64.reduceToInt, Int.not_lt, Int.not_le] at c_22
      try have u_22t0 := (T_add (T_mul (show (40 : Int32).toInt = 40 from rfl) (T_div (rfl : (x1).toInt = (x1).toInt) (show (40 : Int32).toInt = 40 from rfl) (by omega) (by omega)) (by omega)) (rfl : (x3).toInt = (x3).toInt) (by omega))
      exact gz_vret rfl dX12_sums_113 (Nat.le_of_ble_eq_true rfl) (Nat.le_of_ble_eq_true rfl) (⟨rfl, _, _, _, _, hS, hx, hm, by omega⟩)
    ·
      try simp only [mIn_0, lgc_lt, lgc_gt, lgc_le, lgc_ge, lgc_eq] at c_22
      try simp only [fl_lt, fl_le, fl_eq, fL_w, fL_lt, fL_le, tm1, tm10k, tm9, tm99, Int32.reduceToInt, Int64.reduceToInt, Int.not_lt, Int.not_le] at c_22
      try have u_22t0 := (T_add (T_mul (show (40 : Int32).toInt = 40 from rfl) (T_div (rfl : (x1).toInt = (x1).toInt) (show (40 : Int32).toInt = 40 from rfl) (by omega) (by omega)) (by omega)) (rfl : (x3).toInt = (x3).toInt) (by omega))
      refine gz_aload_n dX12_sums_25 rfl rfl ?_
      refine mg_53 hS dX12_sums_26 ?_
      refine gz_iload dX12_sums_29 rfl ?_
      refine m_iald 18 hS rfl (N := 880) rfl ((by exact vin_T (rfl : (i).toInt = (i).toInt) (by omega) (by omega))) dX12_sums_31 ?_
      refine gz_if_eq (tgt := 46) dX12_sums_32 (by decide) (fun c_32 => ?_) (fun c_32 => ?_)
      ·
        try simp only [mIn_0, lgc_lt, lgc_gt, lgc_le, lgc_ge, lgc_eq] at c_32
        try simp only [fl_lt, fl_le, fl_eq, fL_w, fL_lt, fL_le, tm1, tm10k, tm9, tm99, Int32.reduceToInt, Int64.reduceToInt, Int.not_lt, Int.not_le] at c_32
        refine gz_aload_n dX12_sums_46 rfl rfl ?_
        refine mg_56 hS dX12_sums_47 ?_
        refine gz_iload dX12_sums_50 rfl ?_
        refine m_iald 19 hS rfl (N := 880) rfl ((by exact vin_T (rfl : (i).toInt = (i).toInt) (by omega) (by omega))) dX12_sums_52 ?_
        refine gz_if_ge (tgt := 70) dX12_sums_53 (by decide) (fun c_53 => ?_) (fun c_53 => ?_)
        ·
          try simp only [mIn_0, lgc_lt, lgc_gt, lgc_le, lgc_ge, lgc_eq] at c_53
          try simp only [fl_lt, fl_le, fl_eq, fL_w, fL_lt, fL_le, tm1, tm10k, tm9, tm99, Int32.reduceToInt, Int64.reduceToInt, Int.not_lt, Int.not_le] at c_53
          refine gz_aload_n dX12_sums_70 rfl rfl ?_
          refine gz_aload_n dX12_sums_71 rfl rfl ?_
          refine mg_56 hS dX12_sums_72 ?_
          refine gz_iload dX12_sums_75 rfl ?_
          refine m_iald 19 hS rfl (N := 880) rfl ((by exact vin_T (rfl : (i).toInt = (i).toInt) (by omega) (by omega))) dX12_sums_77 ?_
          refine gz_bipush (v := 6) dX12_sums_78 (by decide) ?_
          refine gz_icmp_ne (tgt := 89) dX12_sums_80 (by decide) (fun c_80 => ?_) (fun c_80 => ?_)
          ·
            try simp only [mIn_0, lgc_lt, lgc_gt, lgc_le, lgc_ge, lgc_eq] at c_80
            try simp only [fl_lt, fl_le, fl_eq, fL_w, fL_lt, fL_le, tm1, tm10k, tm9, tm99, Int32.reduceToInt, Int64.reduceToInt, Int.not_lt, Int.not_le] at c_80
            refine gz_ldc2 (v := (29440)) wd_1065 dX12_sums_89 ?_
            refine gz_bipush (v := 48) dX12_sums_92 (by decide) ?_
            refine gz_aload_n dX12_sums_94 rfl rfl ?_
            refine mg_56 hS dX12_sums_95 ?_
            refine gz_iload dX12_sums_98 rfl ?_
            refine m_iald 19 hS rfl (N := 880) rfl ((by exact vin_T (rfl : (i).toInt = (i).toInt) (by omega) (by omega))) dX12_sums_100 ?_
            refine gz_iadd dX12_sums_101 ?_
            refine gz_i2l dX12_sums_102 ?_
            refine gz_lor dX12_sums_103 ?_
            have q48 : (48 + ((F 19) (Int32.toNatClampNeg i))).toInt = 48 + ((F 19) (Int32.toNatClampNeg i)).toInt := T_add (show (48 : Int32).toInt = 48 from rfl) rfl (by omega)
            refine scX12_555 (k_X12_spellsS (y := ((29440) ||| ((48 + ((F 19) (Int32.toNatClampNeg i))).toInt64))) hS (by omega) (small_s (x := (48 + ((F 19) (Int32.toNatClampNeg i)))) (by omega))) hS.1 ⟨(Nat.le_of_ble_eq_true rfl), (Nat.le_of_ble_eq_true rfl)⟩ ⟨(Nat.le_of_ble_eq_true rfl), (Nat.le_of_ble_eq_true rfl)⟩ rfl rfl (Nat.le_of_ble_eq_true rfl) dX12_sums_104 ?_
            rintro f_1 ⟨n_1, z_1, F_1, G_1, hS_1, hx1, h8a_1, h8b_1⟩
            refine gz_iinc (v := (i + 1)) (lv' := [(4, .int (i + 1)), (0, .ref m), (1, .int x1), (2, .int x2), (3, .int x3)]) dX12_sums_107 rfl rfl (by decide) rfl ?_
            refine gz_goto (tgt := 11) dX12_sums_110 (by decide) ?_
            refine gz_sub (lv' := [(4, .int (i + 1)), (0, .ref m), (1, .int x1), (2, .int x2), (3, .int x3)]) (by simp [List.lookup]) ?_
            exact ih (i + 1) _ _ _ _ _ hS_1 (fx_tr hx hx1 (by decide)) ((by (try rw [(show n_1 88 = (n_1 88) from rfl)]); omega)) ((by (try rw [(show n_1 88 = (n_1 88) from rfl)]); have q1_ := (T_add (rfl : (i).toInt = (i).toInt) (show (1 : Int32).toInt = 1 from rfl) (by omega)); omega)) ((by have q1_ := (T_add (rfl : (i).toInt = (i).toInt) (show (1 : Int32).toInt = 1 from rfl) (by omega)); omega)) ((by have q1_ := (T_add (rfl : (i).toInt = (i).toInt) (show (1 : Int32).toInt = 1 from rfl) (by omega)); omega))
          ·
            try simp only [mIn_0, lgc_lt, lgc_gt, lgc_le, lgc_ge, lgc_eq] at c_80
            try simp only [fl_lt, fl_le, fl_eq, fL_w, fL_lt, fL_le, tm1, tm10k, tm9, tm99, Int32.reduceToInt, Int64.reduceToInt, Int.not_lt, Int.not_le] at c_80
            refine gz_ldc2 (v := (6578553)) wd_820 dX12_sums_83 ?_
            refine gz_goto (tgt := 104) dX12_sums_86 (by decide) ?_
            refine scX12_555 (k_X12_spellsS (y := (6578553)) hS (by omega) small_day) hS.1 ⟨(Nat.le_of_ble_eq_true rfl), (Nat.le_of_ble_eq_true rfl)⟩ ⟨(Nat.le_of_ble_eq_true rfl), (Nat.le_of_ble_eq_true rfl)⟩ rfl rfl (Nat.le_of_ble_eq_true rfl) dX12_sums_104 ?_
            rintro f_2 ⟨n_2, z_2, F_2, G_2, hS_2, hx2, h8a_2, h8b_2⟩
            refine gz_iinc (v := (i + 1)) (lv' := [(4, .int (i + 1)), (0, .ref m), (1, .int x1), (2, .int x2), (3, .int x3)]) dX12_sums_107 rfl rfl (by decide) rfl ?_
            refine gz_goto (tgt := 11) dX12_sums_110 (by decide) ?_
            refine gz_sub (lv' := [(4, .int (i + 1)), (0, .ref m), (1, .int x1), (2, .int x2), (3, .int x3)]) (by simp [List.lookup]) ?_
            exact ih (i + 1) _ _ _ _ _ hS_2 (fx_tr hx hx2 (by decide)) ((by (try rw [(show n_2 88 = (n_2 88) from rfl)]); omega)) ((by (try rw [(show n_2 88 = (n_2 88) from rfl)]); have q1_ := (T_add (rfl : (i).toInt = (i).toInt) (show (1 : Int32).toInt = 1 from rfl) (by omega)); omega)) ((by have q1_ := (T_add (rfl : (i).toInt = (i).toInt) (show (1 : Int32).toInt = 1 from rfl) (by omega)); omega)) ((by have q1_ := (T_add (rfl : (i).toInt = (i).toInt) (show (1 : Int32).toInt = 1 from rfl) (by omega)); omega))
        ·
          try simp only [mIn_0, lgc_lt, lgc_gt, lgc_le, lgc_ge, lgc_eq] at c_53
          try simp only [fl_lt, fl_le, fl_eq, fL_w, fL_lt, fL_le, tm1, tm10k, tm9, tm99, Int32.reduceToInt, Int64.reduceToInt, Int.not_lt, Int.not_le] at c_53
          refine gz_aload_n dX12_sums_56 rfl rfl ?_
          refine gz_aload_n dX12_sums_57 rfl rfl ?_
          refine mg_59 hS dX12_sums_58 ?_
          refine gz_iload dX12_sums_61 rfl ?_
          refine m_iald 20 hS rfl (N := 880) rfl ((by exact vin_T (rfl : (i).toInt = (i).toInt) (by omega) (by omega))) dX12_sums_63 ?_
          refine scX12_550 (k_X12_digits (x1 := ((F 20) (Int32.toNatClampNeg i))) hS (by omega)) hS.1 ⟨(Nat.le_of_ble_eq_true rfl), (Nat.le_of_ble_eq_true rfl)⟩ ⟨(Nat.le_of_ble_eq_true rfl), (Nat.le_of_ble_eq_true rfl)⟩ rfl rfl (Nat.le_of_ble_eq_true rfl) dX12_sums_64 ?_
          rintro f_3 ⟨n_3, z_3, F_3, G_3, hS_3, hx3, h8a_3, h8b_3⟩
          refine gz_goto (tgt := 107) dX12_sums_67 (by decide) ?_
          refine gz_iinc (v := (i + 1)) (lv' := [(4, .int (i + 1)), (0, .ref m), (1, .int x1), (2, .int x2), (3, .int x3)]) dX12_sums_107 rfl rfl (by decide) rfl ?_
          refine gz_goto (tgt := 11) dX12_sums_110 (by decide) ?_
          refine gz_sub (lv' := [(4, .int (i + 1)), (0, .ref m), (1, .int x1), (2, .int x2), (3, .int x3)]) (by simp [List.lookup]) ?_
          exact ih (i + 1) _ _ _ _ _ hS_3 (fx_tr hx hx3 (by decide)) ((by (try rw [(show n_3 88 = (n_3 88) from rfl)]); omega)) ((by (try rw [(show n_3 88 = (n_3 88) from rfl)]); have q1_ := (T_add (rfl : (i).toInt = (i).toInt) (show (1 : Int32).toInt = 1 from rfl) (by omega)); omega)) ((by have q1_ := (T_add (rfl : (i).toInt = (i).toInt) (show (1 : Int32).toInt = 1 from rfl) (by omega)); omega)) ((by have q1_ := (T_add (rfl : (i).toInt = (i).toInt) (show (1 : Int32).toInt = 1 from rfl) (by omega)); omega))
      ·
        try simp only [mIn_0, lgc_lt, lgc_gt, lgc_le, lgc_ge, lgc_eq] at c_32
        try simp only [fl_lt, fl_le, fl_eq, fL_w, fL_lt, fL_le, tm1, tm10k, tm9, tm99, Int32.reduceToInt, Int64.reduceToInt, Int.not_lt, Int.not_le] at c_32
        refine gz_aload_n dX12_sums_35 rfl rfl ?_
        refine gz_aload_n dX12_sums_36 rfl rfl ?_
        refine mg_53 hS dX12_sums_37 ?_
        refine gz_iload dX12_sums_40 rfl ?_
        refine m_iald 18 hS rfl (N := 880) rfl ((by exact vin_T (rfl : (i).toInt = (i).toInt) (by omega) (by omega))) dX12_sums_42 ?_
        refine scX12_547 (k_X12_signs (x1 := ((F 18) (Int32.toNatClampNeg i))) hS (by omega)) hS.1 ⟨(Nat.le_of_ble_eq_true rfl), (Nat.le_of_ble_eq_true rfl)⟩ ⟨(Nat.le_of_ble_eq_true rfl), (Nat.le_of_ble_eq_true rfl)⟩ rfl rfl (Nat.le_of_ble_eq_true rfl) dX12_sums_43 ?_
        rintro f_4 ⟨n_4, z_4, F_4, G_4, hS_4, hx4, h8_4⟩
        refine gz_aload_n dX12_sums_46 rfl rfl ?_
        refine mg_56 hS_4 dX12_sums_47 ?_
        refine gz_iload dX12_sums_50 rfl ?_
        refine m_iald 19 hS_4 rfl (N := 880) rfl ((by exact vin_T (rfl : (i).toInt = (i).toInt) (by omega) (by omega))) dX12_sums_52 ?_
        refine gz_ev (w := .int ((F 19) (Int32.toNatClampNeg i))) (congrArg Value.int (congrFun (hx4.2.2.1 19 (by decide)) _)) ?_
        refine gz_if_ge (tgt := 70) dX12_sums_53 (by decide) (fun c_53 => ?_) (fun c_53 => ?_)
        ·
          try simp only [mIn_0, lgc_lt, lgc_gt, lgc_le, lgc_ge, lgc_eq] at c_53
          try simp only [fl_lt, fl_le, fl_eq, fL_w, fL_lt, fL_le, tm1, tm10k, tm9, tm99, Int32.reduceToInt, Int64.reduceToInt, Int.not_lt, Int.not_le] at c_53
          refine gz_aload_n dX12_sums_70 rfl rfl ?_
          refine gz_aload_n dX12_sums_71 rfl rfl ?_
          refine mg_56 hS_4 dX12_sums_72 ?_
          refine gz_iload dX12_sums_75 rfl ?_
          refine m_iald 19 hS_4 rfl (N := 880) rfl ((by exact vin_T (rfl : (i).toInt = (i).toInt) (by omega) (by omega))) dX12_sums_77 ?_
          refine gz_ev (w := .int ((F 19) (Int32.toNatClampNeg i))) (congrArg Value.int (congrFun (hx4.2.2.1 19 (by decide)) _)) ?_
          refine gz_bipush (v := 6) dX12_sums_78 (by decide) ?_
          refine gz_icmp_ne (tgt := 89) dX12_sums_80 (by decide) (fun c_80 => ?_) (fun c_80 => ?_)
          ·
            try simp only [mIn_0, lgc_lt, lgc_gt, lgc_le, lgc_ge, lgc_eq] at c_80
            try simp only [fl_lt, fl_le, fl_eq, fL_w, fL_lt, fL_le, tm1, tm10k, tm9, tm99, Int32.reduceToInt, Int64.reduceToInt, Int.not_lt, Int.not_le] at c_80
            refine gz_ldc2 (v := (29440)) wd_1065 dX12_sums_89 ?_
            refine gz_bipush (v := 48) dX12_sums_92 (by decide) ?_
            refine gz_aload_n dX12_sums_94 rfl rfl ?_
            refine mg_56 hS_4 dX12_sums_95 ?_
            refine gz_iload dX12_sums_98 rfl ?_
            refine m_iald 19 hS_4 rfl (N := 880) rfl ((by exact vin_T (rfl : (i).toInt = (i).toInt) (by omega) (by omega))) dX12_sums_100 ?_
            refine gz_ev (w := .int ((F 19) (Int32.toNatClampNeg i))) (congrArg Value.int (congrFun (hx4.2.2.1 19 (by decide)) _)) ?_
            refine gz_iadd dX12_sums_101 ?_
            refine gz_i2l dX12_sums_102 ?_
            refine gz_lor dX12_sums_103 ?_
            have q48 : (48 + ((F 19) (Int32.toNatClampNeg i))).toInt = 48 + ((F 19) (Int32.toNatClampNeg i)).toInt := T_add (show (48 : Int32).toInt = 48 from rfl) rfl (by omega)
            refine scX12_555 (k_X12_spellsS (y := ((29440) ||| ((48 + ((F 19) (Int32.toNatClampNeg i))).toInt64))) hS_4 (by (try rw [(show n_4 88 = (n_4 88) from rfl)]); omega) (small_s (x := (48 + ((F 19) (Int32.toNatClampNeg i)))) (by omega))) hS_4.1 ⟨(Nat.le_of_ble_eq_true rfl), (Nat.le_of_ble_eq_true rfl)⟩ ⟨(Nat.le_of_ble_eq_true rfl), (Nat.le_of_ble_eq_true rfl)⟩ rfl rfl (Nat.le_of_ble_eq_true rfl) dX12_sums_104 ?_
            rintro f_5 ⟨n_5, z_5, F_5, G_5, hS_5, hx5, h8a_5, h8b_5⟩
            refine gz_iinc (v := (i + 1)) (lv' := [(4, .int (i + 1)), (0, .ref m), (1, .int x1), (2, .int x2), (3, .int x3)]) dX12_sums_107 rfl rfl (by decide) rfl ?_
            refine gz_goto (tgt := 11) dX12_sums_110 (by decide) ?_
            refine gz_sub (lv' := [(4, .int (i + 1)), (0, .ref m), (1, .int x1), (2, .int x2), (3, .int x3)]) (by simp [List.lookup]) ?_
            exact ih (i + 1) _ _ _ _ _ hS_5 (fx_tr (fx_tr hx hx4 (by decide)) hx5 (by decide)) ((by (try rw [(show n_5 88 = (n_5 88) from rfl)]); omega)) ((by (try rw [(show n_5 88 = (n_5 88) from rfl)]); have q1_ := (T_add (rfl : (i).toInt = (i).toInt) (show (1 : Int32).toInt = 1 from rfl) (by omega)); omega)) ((by have q1_ := (T_add (rfl : (i).toInt = (i).toInt) (show (1 : Int32).toInt = 1 from rfl) (by omega)); omega)) ((by have q1_ := (T_add (rfl : (i).toInt = (i).toInt) (show (1 : Int32).toInt = 1 from rfl) (by omega)); omega))
          ·
            try simp only [mIn_0, lgc_lt, lgc_gt, lgc_le, lgc_ge, lgc_eq] at c_80
            try simp only [fl_lt, fl_le, fl_eq, fL_w, fL_lt, fL_le, tm1, tm10k, tm9, tm99, Int32.reduceToInt, Int64.reduceToInt, Int.not_lt, Int.not_le] at c_80
            refine gz_ldc2 (v := (6578553)) wd_820 dX12_sums_83 ?_
            refine gz_goto (tgt := 104) dX12_sums_86 (by decide) ?_
            refine scX12_555 (k_X12_spellsS (y := (6578553)) hS_4 (by (try rw [(show n_4 88 = (n_4 88) from rfl)]); omega) small_day) hS_4.1 ⟨(Nat.le_of_ble_eq_true rfl), (Nat.le_of_ble_eq_true rfl)⟩ ⟨(Nat.le_of_ble_eq_true rfl), (Nat.le_of_ble_eq_true rfl)⟩ rfl rfl (Nat.le_of_ble_eq_true rfl) dX12_sums_104 ?_
            rintro f_6 ⟨n_6, z_6, F_6, G_6, hS_6, hx6, h8a_6, h8b_6⟩
            refine gz_iinc (v := (i + 1)) (lv' := [(4, .int (i + 1)), (0, .ref m), (1, .int x1), (2, .int x2), (3, .int x3)]) dX12_sums_107 rfl rfl (by decide) rfl ?_
            refine gz_goto (tgt := 11) dX12_sums_110 (by decide) ?_
            refine gz_sub (lv' := [(4, .int (i + 1)), (0, .ref m), (1, .int x1), (2, .int x2), (3, .int x3)]) (by simp [List.lookup]) ?_
            exact ih (i + 1) _ _ _ _ _ hS_6 (fx_tr (fx_tr hx hx4 (by decide)) hx6 (by decide)) ((by (try rw [(show n_6 88 = (n_6 88) from rfl)]); omega)) ((by (try rw [(show n_6 88 = (n_6 88) from rfl)]); have q1_ := (T_add (rfl : (i).toInt = (i).toInt) (show (1 : Int32).toInt = 1 from rfl) (by omega)); omega)) ((by have q1_ := (T_add (rfl : (i).toInt = (i).toInt) (show (1 : Int32).toInt = 1 from rfl) (by omega)); omega)) ((by have q1_ := (T_add (rfl : (i).toInt = (i).toInt) (show (1 : Int32).toInt = 1 from rfl) (by omega)); omega))
        ·
          try simp only [mIn_0, lgc_lt, lgc_gt, lgc_le, lgc_ge, lgc_eq] at c_53
          try simp only [fl_lt, fl_le, fl_eq, fL_w, fL_lt, fL_le, tm1, tm10k, tm9, tm99, Int32.reduceToInt, Int64.reduceToInt, Int.not_lt, Int.not_le] at c_53
          refine gz_aload_n dX12_sums_56 rfl rfl ?_
          refine gz_aload_n dX12_sums_57 rfl rfl ?_
          refine mg_59 hS_4 dX12_sums_58 ?_
          refine gz_iload dX12_sums_61 rfl ?_
          refine m_iald 20 hS_4 rfl (N := 880) rfl ((by exact vin_T (rfl : (i).toInt = (i).toInt) (by omega) (by omega))) dX12_sums_63 ?_
          refine gz_ev (w := .int ((F 20) (Int32.toNatClampNeg i))) (congrArg Value.int (congrFun (hx4.2.2.1 20 (by decide)) _)) ?_
          refine scX12_550 (k_X12_digits (x1 := ((F 20) (Int32.toNatClampNeg i))) hS_4 (by (try rw [(show n_4 88 = (n_4 88) from rfl)]); omega)) hS_4.1 ⟨(Nat.le_of_ble_eq_true rfl), (Nat.le_of_ble_eq_true rfl)⟩ ⟨(Nat.le_of_ble_eq_true rfl), (Nat.le_of_ble_eq_true rfl)⟩ rfl rfl (Nat.le_of_ble_eq_true rfl) dX12_sums_64 ?_
          rintro f_7 ⟨n_7, z_7, F_7, G_7, hS_7, hx7, h8a_7, h8b_7⟩
          refine gz_goto (tgt := 107) dX12_sums_67 (by decide) ?_
          refine gz_iinc (v := (i + 1)) (lv' := [(4, .int (i + 1)), (0, .ref m), (1, .int x1), (2, .int x2), (3, .int x3)]) dX12_sums_107 rfl rfl (by decide) rfl ?_
          refine gz_goto (tgt := 11) dX12_sums_110 (by decide) ?_
          refine gz_sub (lv' := [(4, .int (i + 1)), (0, .ref m), (1, .int x1), (2, .int x2), (3, .int x3)]) (by simp [List.lookup]) ?_
          exact ih (i + 1) _ _ _ _ _ hS_7 (fx_tr (fx_tr hx hx4 (by decide)) hx7 (by decide)) ((by (try rw [(show n_7 88 = (n_7 88) from rfl)]); omega)) ((by (try rw [(show n_7 88 = (n_7 88) from rfl)]); have q1_ := (T_add (rfl : (i).toInt = (i).toInt) (show (1 : Int32).toInt = 1 from rfl) (by omega)); omega)) ((by have q1_ := (T_add (rfl : (i).toInt = (i).toInt) (show (1 : Int32).toInt = 1 from rfl) (by omega)); omega)) ((by have q1_ := (T_add (rfl : (i).toInt = (i).toInt) (show (1 : Int32).toInt = 1 from rfl) (by omega)); omega))

set_option maxHeartbeats 4000000 in
set_option maxRecDepth 100000 in
theorem k_X12_sums {l : Launch} {D : va_G} {cy : Nat → ClassId} {b : Nat} {f : gMem} {m : Nat} {a : Nat → Nat} {f0 : gMem} {n : Nat → Int32} {z : Nat → Int64} {F : Nat → Nat → Int32} {G : Nat → Nat → Int64}  {x1 x2 x3 : Int32} (hS : mS cy m a f0 n z F G f) (bA : rAll F) (hw : 0 ≤ x1.toInt ∧ x1.toInt < 880) (hlh : 0 ≤ x2.toInt ∧ x2.toInt ≤ x3.toInt ∧ x3.toInt ≤ 40) (h8 : 0 ≤ (n 88).toInt ∧ (n 88).toInt + 7 * (x3.toInt - x2.toInt) ≤ 1000) : gC l D cy b yX12_sums cX12_sums 5 none 2 0 0 [.ref m, .int x1, .int x2, .int x3] f (pV fun f2 => ∃ (n2 : Nat → Int32) (z2 : Nat → Int64) (F2 : Nat → Nat → Int32) (G2 : Nat → Nat → Int64), mS cy m a f0 n2 z2 F2 G2 f2 ∧ fx [88, 89] [] [87] [] n z F G n2 z2 F2 G2 ∧ (n 88).toInt ≤ (n2 88).toInt ∧ (n2 88).toInt ≤ (n 88).toInt + 7 * (x3.toInt - x2.toInt)) := by
  have qb3 : (40 * (x1 / 40) + x3).toInt = 40 * (x1.toInt / 40) + x3.toInt := T_add (T_mul (show (40 : Int32).toInt = 40 from rfl) (T_div rfl (show (40 : Int32).toInt = 40 from rfl) (by omega) (by omega)) (by omega)) rfl (by omega)
  have qb2 : (40 * (x1 / 40) + x2).toInt = 40 * (x1.toInt / 40) + x2.toInt := T_add (T_mul (show (40 : Int32).toInt = 40 from rfl) (T_div rfl (show (40 : Int32).toInt = 40 from rfl) (by omega) (by omega)) (by omega)) rfl (by omega)
  refine gC_of (by decide) (Nat.le_of_ble_eq_true rfl) ?_
  show gG l _ _ _ D cy b cX12_sums 5 _ RX12 "sums" 0 0 f 0 [(0, .ref m), (1, .int x1), (2, .int x2), (3, .int x3)] []
  refine gz_bipush (v := 40) dX12_sums_0 (by decide) ?_
  refine gz_iload_n dX12_sums_2 rfl rfl ?_
  refine gz_bipush (v := 40) dX12_sums_3 (by decide) ?_
  refine gz_idiv dX12_sums_5 (by decide) ?_
  refine gz_imul dX12_sums_6 ?_
  refine gz_iload_n dX12_sums_7 rfl rfl ?_
  refine gz_iadd dX12_sums_8 ?_
  refine gz_istore (lv' := [(4, .int ((40 * (x1 / 40)) + x2)), (0, .ref m), (1, .int x1), (2, .int x2), (3, .int x3)]) dX12_sums_9 (by decide) rfl ?_
  refine gz_sub (lv' := [(4, .int ((40 * (x1 / 40)) + x2)), (0, .ref m), (1, .int x1), (2, .int x2), (3, .int x3)]) (by simp [List.lookup]) ?_
  exact l_X12_sums bA hw hlh h8 41 (40 * (x1 / 40) + x2) _ _ _ _ _ hS fx_rf (Int.le_refl _) (by rw [qb2]; omega) (by rw [qb2]; omega) (by rw [qb2]; omega)

set_option maxHeartbeats 4000000 in
set_option maxRecDepth 100000 in
theorem k_X12_tells {l : Launch} {D : va_G} {cy : Nat → ClassId} {b : Nat} {f : gMem} {m : Nat} {a : Nat → Nat} {f0 : gMem} {n : Nat → Int32} {z : Nat → Int64} {F : Nat → Nat → Int32} {G : Nat → Nat → Int64}  {x1 : Int32} (hS : mS cy m a f0 n z F G f) (a5 : 0 ≤ (n 5).toInt ∧ (n 5).toInt ≤ 20) (bA : rAll F) (bW : rW F (n 5).toInt) (hw : vW F (n 5).toInt x1.toInt) (h8 : 0 ≤ (n 88).toInt ∧ (n 88).toInt + 17 + 7 * (owF F x1.toInt : Int) ≤ 1000) : gC l D cy b yX12_tells cX12_tells 2 none 3 0 0 [.ref m, .int x1] f (pV fun f2 => ∃ (n2 : Nat → Int32) (z2 : Nat → Int64) (F2 : Nat → Nat → Int32) (G2 : Nat → Nat → Int64), mS cy m a f0 n2 z2 F2 G2 f2 ∧ fx [88, 89] [] [87] [] n z F G n2 z2 F2 G2 ∧ (n 88).toInt ≤ (n2 88).toInt ∧ (n2 88).toInt ≤ (n 88).toInt + 17 + 7 * (owF F x1.toInt : Int) ∧ ((F 7 (Int32.toNatClampNeg x1)).toInt ≤ 5 → (n2 88).toInt ≤ (n 88).toInt + 14)) := by
  have qv := vW_lt bW a5 hw
  have qk : 0 ≤ (F 7 (Int32.toNatClampNeg x1)).toInt ∧ (F 7 (Int32.toNatClampNeg x1)).toInt ≤ 10 := knd_ok bW hw
  have qA := all_ok bA (w := x1) (by omega)
  have qo : ((F 13 (Int32.toNatClampNeg x1)).toInt ≤ (F 14 (Int32.toNatClampNeg x1)).toInt ∧ (F 14 (Int32.toNatClampNeg x1)).toInt ≤ (F 15 (Int32.toNatClampNeg x1)).toInt) ∧ (owF F x1.toInt : Int) = (F 15 (Int32.toNatClampNeg x1)).toInt - (F 13 (Int32.toNatClampNeg x1)).toInt := owF_ok bW hw
  refine gC_of (by decide) (Nat.le_of_ble_eq_true rfl) ?_
  show gG l _ _ _ D cy b cX12_tells 2 _ RX12 "tells" 0 0 f 0 [(0, .ref m), (1, .int x1)] []
  refine gz_aload_n dX12_tells_0 rfl rfl ?_
  refine gz_aload_n dX12_tells_1 rfl rfl ?_
  refine mg_90 hS dX12_tells_2 ?_
  refine gz_aload_n dX12_tells_5 rfl rfl ?_
  refine mg_20 hS dX12_tells_6 ?_
  refine gz_iload_n dX12_tells_9 rfl rfl ?_
  refine m_iald 7 hS rfl (N := 880) rfl ((by exact vin_T (rfl : (x1).toInt = (x1).toInt) (by omega) (by omega))) dX12_tells_10 ?_
  refine m_lald 27 hS rfl (N := 11) rfl ((by exact vin_T (rfl : (((F 7) (Int32.toNatClampNeg x1))).toInt = (((F 7) (Int32.toNatClampNeg x1))).toInt) (by omega) (by omega))) dX12_tells_11 ?_
  refine scX12_555 (k_X12_spells (y := ((G 27) (Int32.toNatClampNeg ((F 7) (Int32.toNatClampNeg x1))))) hS (by omega)) hS.1 ⟨(Nat.le_of_ble_eq_true rfl), (Nat.le_of_ble_eq_true rfl)⟩ ⟨(Nat.le_of_ble_eq_true rfl), (Nat.le_of_ble_eq_true rfl)⟩ rfl rfl (Nat.le_of_ble_eq_true rfl) dX12_tells_12 ?_
  rintro f_1 ⟨n_1, z_1, F_1, G_1, hS_1, hx1, h8a_1, h8b_1⟩
  refine gz_aload_n dX12_tells_15 rfl rfl ?_
  refine mg_23 hS_1 dX12_tells_16 ?_
  refine gz_iload_n dX12_tells_19 rfl rfl ?_
  refine m_iald 8 hS_1 rfl (N := 880) rfl ((by exact vin_T (rfl : (x1).toInt = (x1).toInt) (by omega) (by omega))) dX12_tells_20 ?_
  refine gz_ev (w := .int ((F 8) (Int32.toNatClampNeg x1))) (congrArg Value.int (congrFun (hx1.2.2.1 8 (by decide)) _)) ?_
  refine gz_if_lt (tgt := 34) dX12_tells_21 (by decide) (fun c_21 => ?_) (fun c_21 => ?_)
  ·
    try simp only [mIn_0, lgc_lt, lgc_gt, lgc_le, lgc_ge, lgc_eq] at c_21
    try simp only [fl_lt, fl_le, fl_eq, fL_w, fL_lt, fL_le, tm1, tm10k, tm9, tm99, Int32.reduceToInt, Int64.reduceToInt, Int.not_lt, Int.not_le] at c_21
    refine gz_aload_n dX12_tells_34 rfl rfl ?_
    refine mg_20 hS_1 dX12_tells_35 ?_
    refine gz_iload_n dX12_tells_38 rfl rfl ?_
    refine m_iald 7 hS_1 rfl (N := 880) rfl ((by exact vin_T (rfl : (x1).toInt = (x1).toInt) (by omega) (by omega))) dX12_tells_39 ?_
    refine gz_ev (w := .int ((F 7) (Int32.toNatClampNeg x1))) (congrArg Value.int (congrFun (hx1.2.2.1 7 (by decide)) _)) ?_
    refine gz_bipush (v := 6) dX12_tells_40 (by decide) ?_
    refine gz_icmp_eq (tgt := 67) dX12_tells_42 (by decide) (fun c_42 => ?_) (fun c_42 => ?_)
    ·
      try simp only [mIn_0, lgc_lt, lgc_gt, lgc_le, lgc_ge, lgc_eq] at c_42
      try simp only [fl_lt, fl_le, fl_eq, fL_w, fL_lt, fL_le, tm1, tm10k, tm9, tm99, Int32.reduceToInt, Int64.reduceToInt, Int.not_lt, Int.not_le] at c_42
      refine gz_aload_n dX12_tells_67 rfl rfl ?_
      refine gz_iload_n dX12_tells_68 rfl rfl ?_
      refine gz_aload_n dX12_tells_69 rfl rfl ?_
      refine mg_38 hS_1 dX12_tells_70 ?_
      refine gz_iload_n dX12_tells_73 rfl rfl ?_
      refine m_iald 13 hS_1 rfl (N := 880) rfl ((by exact vin_T (rfl : (x1).toInt = (x1).toInt) (by omega) (by omega))) dX12_tells_74 ?_
      refine gz_ev (w := .int ((F 13) (Int32.toNatClampNeg x1))) (congrArg Value.int (congrFun (hx1.2.2.1 13 (by decide)) _)) ?_
      refine gz_aload_n dX12_tells_75 rfl rfl ?_
      refine mg_41 hS_1 dX12_tells_76 ?_
      refine gz_iload_n dX12_tells_79 rfl rfl ?_
      refine m_iald 14 hS_1 rfl (N := 880) rfl ((by exact vin_T (rfl : (x1).toInt = (x1).toInt) (by omega) (by omega))) dX12_tells_80 ?_
      refine gz_ev (w := .int ((F 14) (Int32.toNatClampNeg x1))) (congrArg Value.int (congrFun (hx1.2.2.1 14 (by decide)) _)) ?_
      have hxx81 : fx [88, 89] [] [87] [] n z F G n_1 z_1 F_1 G_1 := (fx_tr fx_rf hx1 (by decide))
      refine scX12_558 (k_X12_sums (x1 := x1) (x2 := ((F 13) (Int32.toNatClampNeg x1))) (x3 := ((F 14) (Int32.toNatClampNeg x1))) hS_1 (rAll_w (fun k hk => hxx81.2.2.1 k ((by decide : ∀ k : Nat, k ∈ wK → k ∉ ([87] : List Nat)) k hk)) bA) (by omega) (by omega) (by (try rw [(show n_1 88 = (n_1 88) from rfl)]); omega)) hS_1.1 ⟨(Nat.le_of_ble_eq_true rfl), (Nat.le_of_ble_eq_true rfl)⟩ ⟨(Nat.le_of_ble_eq_true rfl), (Nat.le_of_ble_eq_true rfl)⟩ rfl rfl (Nat.le_of_ble_eq_true rfl) dX12_tells_81 ?_
      rintro f_2 ⟨n_2, z_2, F_2, G_2, hS_2, hx2, h8a_2, h8b_2⟩
      refine gz_aload_n dX12_tells_84 rfl rfl ?_
      refine mg_47 hS_2 dX12_tells_85 ?_
      refine gz_iload_n dX12_tells_88 rfl rfl ?_
      refine m_iald 16 hS_2 rfl (N := 880) rfl ((by exact vin_T (rfl : (x1).toInt = (x1).toInt) (by omega) (by omega))) dX12_tells_89 ?_
      refine gz_ev (w := .int ((F 16) (Int32.toNatClampNeg x1))) (congrArg Value.int (congrFun ((hx2.2.2.1 16 (by decide)).trans (hx1.2.2.1 16 (by decide))) _)) ?_
      refine gz_iconst (v := 2) dX12_tells_90 (by decide) ?_
      refine gz_icmp_ge (tgt := 100) dX12_tells_91 (by decide) (fun c_91 => ?_) (fun c_91 => ?_)
      ·
        try simp only [mIn_0, lgc_lt, lgc_gt, lgc_le, lgc_ge, lgc_eq] at c_91
        try simp only [fl_lt, fl_le, fl_eq, fL_w, fL_lt, fL_le, tm1, tm10k, tm9, tm99, Int32.reduceToInt, Int64.reduceToInt, Int.not_lt, Int.not_le] at c_91
        refine gz_aload_n dX12_tells_100 rfl rfl ?_
        refine mg_47 hS_2 dX12_tells_101 ?_
        refine gz_iload_n dX12_tells_104 rfl rfl ?_
        refine m_iald 16 hS_2 rfl (N := 880) rfl ((by exact vin_T (rfl : (x1).toInt = (x1).toInt) (by omega) (by omega))) dX12_tells_105 ?_
        refine gz_ev (w := .int ((F 16) (Int32.toNatClampNeg x1))) (congrArg Value.int (congrFun ((hx2.2.2.1 16 (by decide)).trans (hx1.2.2.1 16 (by decide))) _)) ?_
        refine gz_iconst (v := 2) dX12_tells_106 (by decide) ?_
        refine gz_icmp_le (tgt := 116) dX12_tells_107 (by decide) (fun c_107 => ?_) (fun c_107 => ?_)
        ·
          try simp only [mIn_0, lgc_lt, lgc_gt, lgc_le, lgc_ge, lgc_eq] at c_107
          try simp only [fl_lt, fl_le, fl_eq, fL_w, fL_lt, fL_le, tm1, tm10k, tm9, tm99, Int32.reduceToInt, Int64.reduceToInt, Int.not_lt, Int.not_le] at c_107
          refine gz_aload_n dX12_tells_116 rfl rfl ?_
          refine mg_47 hS_2 dX12_tells_117 ?_
          refine gz_iload_n dX12_tells_120 rfl rfl ?_
          refine m_iald 16 hS_2 rfl (N := 880) rfl ((by exact vin_T (rfl : (x1).toInt = (x1).toInt) (by omega) (by omega))) dX12_tells_121 ?_
          refine gz_ev (w := .int ((F 16) (Int32.toNatClampNeg x1))) (congrArg Value.int (congrFun ((hx2.2.2.1 16 (by decide)).trans (hx1.2.2.1 16 (by decide))) _)) ?_
          refine gz_if_le (tgt := 141) dX12_tells_122 (by decide) (fun c_122 => ?_) (fun c_122 => ?_)
          ·
            try simp only [mIn_0, lgc_lt, lgc_gt, lgc_le, lgc_ge, lgc_eq] at c_122
            try simp only [fl_lt, fl_le, fl_eq, fL_w, fL_lt, fL_le, tm1, tm10k, tm9, tm99, Int32.reduceToInt, Int64.reduceToInt, Int.not_lt, Int.not_le] at c_122
            refine gz_aload_n dX12_tells_141 rfl rfl ?_
            refine gz_iload_n dX12_tells_142 rfl rfl ?_
            refine gz_aload_n dX12_tells_143 rfl rfl ?_
            refine mg_41 hS_2 dX12_tells_144 ?_
            refine gz_iload_n dX12_tells_147 rfl rfl ?_
            refine m_iald 14 hS_2 rfl (N := 880) rfl ((by exact vin_T (rfl : (x1).toInt = (x1).toInt) (by omega) (by omega))) dX12_tells_148 ?_
            refine gz_ev (w := .int ((F 14) (Int32.toNatClampNeg x1))) (congrArg Value.int (congrFun ((hx2.2.2.1 14 (by decide)).trans (hx1.2.2.1 14 (by decide))) _)) ?_
            refine gz_aload_n dX12_tells_149 rfl rfl ?_
            refine mg_44 hS_2 dX12_tells_150 ?_
            refine gz_iload_n dX12_tells_153 rfl rfl ?_
            refine m_iald 15 hS_2 rfl (N := 880) rfl ((by exact vin_T (rfl : (x1).toInt = (x1).toInt) (by omega) (by omega))) dX12_tells_154 ?_
            refine gz_ev (w := .int ((F 15) (Int32.toNatClampNeg x1))) (congrArg Value.int (congrFun ((hx2.2.2.1 15 (by decide)).trans (hx1.2.2.1 15 (by decide))) _)) ?_
            have hxx155 : fx [88, 89] [] [87] [] n z F G n_2 z_2 F_2 G_2 := (fx_tr (fx_tr fx_rf hx1 (by decide)) hx2 (by decide))
            refine scX12_558 (k_X12_sums (x1 := x1) (x2 := ((F 14) (Int32.toNatClampNeg x1))) (x3 := ((F 15) (Int32.toNatClampNeg x1))) hS_2 (rAll_w (fun k hk => hxx155.2.2.1 k ((by decide : ∀ k : Nat, k ∈ wK → k ∉ ([87] : List Nat)) k hk)) bA) (by omega) (by omega) (by (try rw [(show n_2 88 = (n_2 88) from rfl)]); omega)) hS_2.1 ⟨(Nat.le_of_ble_eq_true rfl), (Nat.le_of_ble_eq_true rfl)⟩ ⟨(Nat.le_of_ble_eq_true rfl), (Nat.le_of_ble_eq_true rfl)⟩ rfl rfl (Nat.le_of_ble_eq_true rfl) dX12_tells_155 ?_
            rintro f_3 ⟨n_3, z_3, F_3, G_3, hS_3, hx3, h8a_3, h8b_3⟩
            refine gz_aload_n dX12_tells_158 rfl rfl ?_
            refine gz_bipush (v := 58) dX12_tells_159 (by decide) ?_
            refine scX12_547 (k_X12_signs (x1 := 58) hS_3 (by (try rw [(show n_3 88 = (n_3 88) from rfl)]); omega)) hS_3.1 ⟨(Nat.le_of_ble_eq_true rfl), (Nat.le_of_ble_eq_true rfl)⟩ ⟨(Nat.le_of_ble_eq_true rfl), (Nat.le_of_ble_eq_true rfl)⟩ rfl rfl (Nat.le_of_ble_eq_true rfl) dX12_tells_161 ?_
            rintro f_4 ⟨n_4, z_4, F_4, G_4, hS_4, hx4, h8_4⟩
            refine gz_aload_n dX12_tells_164 rfl rfl ?_
            refine mg_20 hS_4 dX12_tells_165 ?_
            refine gz_iload_n dX12_tells_168 rfl rfl ?_
            refine m_iald 7 hS_4 rfl (N := 880) rfl ((by exact vin_T (rfl : (x1).toInt = (x1).toInt) (by omega) (by omega))) dX12_tells_169 ?_
            refine gz_ev (w := .int ((F 7) (Int32.toNatClampNeg x1))) (congrArg Value.int (congrFun ((hx4.2.2.1 7 (by decide)).trans ((hx3.2.2.1 7 (by decide)).trans ((hx2.2.2.1 7 (by decide)).trans (hx1.2.2.1 7 (by decide))))) _)) ?_
            refine gz_bipush (v := 9) dX12_tells_170 (by decide) ?_
            refine gz_icmp_ne (tgt := 198) dX12_tells_172 (by decide) (fun c_172 => ?_) (fun c_172 => ?_)
            ·
              try simp only [mIn_0, lgc_lt, lgc_gt, lgc_le, lgc_ge, lgc_eq] at c_172
              try simp only [fl_lt, fl_le, fl_eq, fL_w, fL_lt, fL_le, tm1, tm10k, tm9, tm99, Int32.reduceToInt, Int64.reduceToInt, Int.not_lt, Int.not_le] at c_172
              exact gz_vret rfl dX12_tells_198 (Nat.le_of_ble_eq_true rfl) (Nat.le_of_ble_eq_true rfl) (⟨rfl, _, _, _, _, hS_4, (fx_tr (fx_tr (fx_tr (fx_tr fx_rf hx1 (by decide)) hx2 (by decide)) hx3 (by decide)) hx4 (by decide)), (by (try rw [(show n_4 88 = (n_4 88) from rfl)]); omega), (by (try rw [(show n_4 88 = (n_4 88) from rfl)]); omega), (by (try rw [(show n_4 88 = (n_4 88) from rfl)]); omega)⟩)
            ·
              try simp only [mIn_0, lgc_lt, lgc_gt, lgc_le, lgc_ge, lgc_eq] at c_172
              try simp only [fl_lt, fl_le, fl_eq, fL_w, fL_lt, fL_le, tm1, tm10k, tm9, tm99, Int32.reduceToInt, Int64.reduceToInt, Int.not_lt, Int.not_le] at c_172
              refine gz_aload_n dX12_tells_175 rfl rfl ?_
              refine gz_iload_n dX12_tells_176 rfl rfl ?_
              refine gz_aload_n dX12_tells_177 rfl rfl ?_
              refine mg_38 hS_4 dX12_tells_178 ?_
              refine gz_iload_n dX12_tells_181 rfl rfl ?_
              refine m_iald 13 hS_4 rfl (N := 880) rfl ((by exact vin_T (rfl : (x1).toInt = (x1).toInt) (by omega) (by omega))) dX12_tells_182 ?_
              refine gz_ev (w := .int ((F 13) (Int32.toNatClampNeg x1))) (congrArg Value.int (congrFun ((hx4.2.2.1 13 (by decide)).trans ((hx3.2.2.1 13 (by decide)).trans ((hx2.2.2.1 13 (by decide)).trans (hx1.2.2.1 13 (by decide))))) _)) ?_
              refine gz_aload_n dX12_tells_183 rfl rfl ?_
              refine mg_41 hS_4 dX12_tells_184 ?_
              refine gz_iload_n dX12_tells_187 rfl rfl ?_
              refine m_iald 14 hS_4 rfl (N := 880) rfl ((by exact vin_T (rfl : (x1).toInt = (x1).toInt) (by omega) (by omega))) dX12_tells_188 ?_
              refine gz_ev (w := .int ((F 14) (Int32.toNatClampNeg x1))) (congrArg Value.int (congrFun ((hx4.2.2.1 14 (by decide)).trans ((hx3.2.2.1 14 (by decide)).trans ((hx2.2.2.1 14 (by decide)).trans (hx1.2.2.1 14 (by decide))))) _)) ?_
              have hxx189 : fx [88, 89] [] [87] [] n z F G n_4 z_4 F_4 G_4 := (fx_tr (fx_tr (fx_tr (fx_tr fx_rf hx1 (by decide)) hx2 (by decide)) hx3 (by decide)) hx4 (by decide))
              refine scX12_558 (k_X12_sums (x1 := x1) (x2 := ((F 13) (Int32.toNatClampNeg x1))) (x3 := ((F 14) (Int32.toNatClampNeg x1))) hS_4 (rAll_w (fun k hk => hxx189.2.2.1 k ((by decide : ∀ k : Nat, k ∈ wK → k ∉ ([87] : List Nat)) k hk)) bA) (by omega) (by omega) (by (try rw [(show n_4 88 = (n_4 88) from rfl)]); omega)) hS_4.1 ⟨(Nat.le_of_ble_eq_true rfl), (Nat.le_of_ble_eq_true rfl)⟩ ⟨(Nat.le_of_ble_eq_true rfl), (Nat.le_of_ble_eq_true rfl)⟩ rfl rfl (Nat.le_of_ble_eq_true rfl) dX12_tells_189 ?_
              rintro f_5 ⟨n_5, z_5, F_5, G_5, hS_5, hx5, h8a_5, h8b_5⟩
              refine gz_aload_n dX12_tells_192 rfl rfl ?_
              refine gz_bipush (v := 58) dX12_tells_193 (by decide) ?_
              refine scX12_547 (k_X12_signs (x1 := 58) hS_5 (by (try rw [(show n_5 88 = (n_5 88) from rfl)]); omega)) hS_5.1 ⟨(Nat.le_of_ble_eq_true rfl), (Nat.le_of_ble_eq_true rfl)⟩ ⟨(Nat.le_of_ble_eq_true rfl), (Nat.le_of_ble_eq_true rfl)⟩ rfl rfl (Nat.le_of_ble_eq_true rfl) dX12_tells_195 ?_
              rintro f_6 ⟨n_6, z_6, F_6, G_6, hS_6, hx6, h8_6⟩
              exact gz_vret rfl dX12_tells_198 (Nat.le_of_ble_eq_true rfl) (Nat.le_of_ble_eq_true rfl) (⟨rfl, _, _, _, _, hS_6, (fx_tr (fx_tr (fx_tr (fx_tr (fx_tr (fx_tr fx_rf hx1 (by decide)) hx2 (by decide)) hx3 (by decide)) hx4 (by decide)) hx5 (by decide)) hx6 (by decide)), (by (try rw [(show n_6 88 = (n_6 88) from rfl)]); omega), (by (try rw [(show n_6 88 = (n_6 88) from rfl)]); omega), (by (try rw [(show n_6 88 = (n_6 88) from rfl)]); omega)⟩)
          ·
            try simp only [mIn_0, lgc_lt, lgc_gt, lgc_le, lgc_ge, lgc_eq] at c_122
            try simp only [fl_lt, fl_le, fl_eq, fL_w, fL_lt, fL_le, tm1, tm10k, tm9, tm99, Int32.reduceToInt, Int64.reduceToInt, Int.not_lt, Int.not_le] at c_122
            refine gz_aload_n dX12_tells_125 rfl rfl ?_
            refine mg_47 hS_2 dX12_tells_126 ?_
            refine gz_iload_n dX12_tells_129 rfl rfl ?_
            refine m_iald 16 hS_2 rfl (N := 880) rfl ((by exact vin_T (rfl : (x1).toInt = (x1).toInt) (by omega) (by omega))) dX12_tells_130 ?_
            refine gz_ev (w := .int ((F 16) (Int32.toNatClampNeg x1))) (congrArg Value.int (congrFun ((hx2.2.2.1 16 (by decide)).trans (hx1.2.2.1 16 (by decide))) _)) ?_
            refine gz_iconst (v := 4) dX12_tells_131 (by decide) ?_
            refine gz_icmp_ge (tgt := 141) dX12_tells_132 (by decide) (fun c_132 => ?_) (fun c_132 => ?_)
            ·
              try simp only [mIn_0, lgc_lt, lgc_gt, lgc_le, lgc_ge, lgc_eq] at c_132
              try simp only [fl_lt, fl_le, fl_eq, fL_w, fL_lt, fL_le, tm1, tm10k, tm9, tm99, Int32.reduceToInt, Int64.reduceToInt, Int.not_lt, Int.not_le] at c_132
              refine gz_aload_n dX12_tells_141 rfl rfl ?_
              refine gz_iload_n dX12_tells_142 rfl rfl ?_
              refine gz_aload_n dX12_tells_143 rfl rfl ?_
              refine mg_41 hS_2 dX12_tells_144 ?_
              refine gz_iload_n dX12_tells_147 rfl rfl ?_
              refine m_iald 14 hS_2 rfl (N := 880) rfl ((by exact vin_T (rfl : (x1).toInt = (x1).toInt) (by omega) (by omega))) dX12_tells_148 ?_
              refine gz_ev (w := .int ((F 14) (Int32.toNatClampNeg x1))) (congrArg Value.int (congrFun ((hx2.2.2.1 14 (by decide)).trans (hx1.2.2.1 14 (by decide))) _)) ?_
              refine gz_aload_n dX12_tells_149 rfl rfl ?_
              refine mg_44 hS_2 dX12_tells_150 ?_
              refine gz_iload_n dX12_tells_153 rfl rfl ?_
              refine m_iald 15 hS_2 rfl (N := 880) rfl ((by exact vin_T (rfl : (x1).toInt = (x1).toInt) (by omega) (by omega))) dX12_tells_154 ?_
              refine gz_ev (w := .int ((F 15) (Int32.toNatClampNeg x1))) (congrArg Value.int (congrFun ((hx2.2.2.1 15 (by decide)).trans (hx1.2.2.1 15 (by decide))) _)) ?_
              have hxx155 : fx [88, 89] [] [87] [] n z F G n_2 z_2 F_2 G_2 := (fx_tr (fx_tr fx_rf hx1 (by decide)) hx2 (by decide))
              refine scX12_558 (k_X12_sums (x1 := x1) (x2 := ((F 14) (Int32.toNatClampNeg x1))) (x3 := ((F 15) (Int32.toNatClampNeg x1))) hS_2 (rAll_w (fun k hk => hxx155.2.2.1 k ((by decide : ∀ k : Nat, k ∈ wK → k ∉ ([87] : List Nat)) k hk)) bA) (by omega) (by omega) (by (try rw [(show n_2 88 = (n_2 88) from rfl)]); omega)) hS_2.1 ⟨(Nat.le_of_ble_eq_true rfl), (Nat.le_of_ble_eq_true rfl)⟩ ⟨(Nat.le_of_ble_eq_true rfl), (Nat.le_of_ble_eq_true rfl)⟩ rfl rfl (Nat.le_of_ble_eq_true rfl) dX12_tells_155 ?_
              rintro f_7 ⟨n_7, z_7, F_7, G_7, hS_7, hx7, h8a_7, h8b_7⟩
              refine gz_aload_n dX12_tells_158 rfl rfl ?_
              refine gz_bipush (v := 58) dX12_tells_159 (by decide) ?_
              refine scX12_547 (k_X12_signs (x1 := 58) hS_7 (by (try rw [(show n_7 88 = (n_7 88) from rfl)]); omega)) hS_7.1 ⟨(Nat.le_of_ble_eq_true rfl), (Nat.le_of_ble_eq_true rfl)⟩ ⟨(Nat.le_of_ble_eq_true rfl), (Nat.le_of_ble_eq_true rfl)⟩ rfl rfl (Nat.le_of_ble_eq_true rfl) dX12_tells_161 ?_
              rintro f_8 ⟨n_8, z_8, F_8, G_8, hS_8, hx8, h8_8⟩
              refine gz_aload_n dX12_tells_164 rfl rfl ?_
              refine mg_20 hS_8 dX12_tells_165 ?_
              refine gz_iload_n dX12_tells_168 rfl rfl ?_
              refine m_iald 7 hS_8 rfl (N := 880) rfl ((by exact vin_T (rfl : (x1).toInt = (x1).toInt) (by omega) (by omega))) dX12_tells_169 ?_
              refine gz_ev (w := .int ((F 7) (Int32.toNatClampNeg x1))) (congrArg Value.int (congrFun ((hx8.2.2.1 7 (by decide)).trans ((hx7.2.2.1 7 (by decide)).trans ((hx2.2.2.1 7 (by decide)).trans (hx1.2.2.1 7 (by decide))))) _)) ?_
              refine gz_bipush (v := 9) dX12_tells_170 (by decide) ?_
              refine gz_icmp_ne (tgt := 198) dX12_tells_172 (by decide) (fun c_172 => ?_) (fun c_172 => ?_)
              ·
                try simp only [mIn_0, lgc_lt, lgc_gt, lgc_le, lgc_ge, lgc_eq] at c_172
                try simp only [fl_lt, fl_le, fl_eq, fL_w, fL_lt, fL_le, tm1, tm10k, tm9, tm99, Int32.reduceToInt, Int64.reduceToInt, Int.not_lt, Int.not_le] at c_172
                exact gz_vret rfl dX12_tells_198 (Nat.le_of_ble_eq_true rfl) (Nat.le_of_ble_eq_true rfl) (⟨rfl, _, _, _, _, hS_8, (fx_tr (fx_tr (fx_tr (fx_tr fx_rf hx1 (by decide)) hx2 (by decide)) hx7 (by decide)) hx8 (by decide)), (by (try rw [(show n_8 88 = (n_8 88) from rfl)]); omega), (by (try rw [(show n_8 88 = (n_8 88) from rfl)]); omega), (by (try rw [(show n_8 88 = (n_8 88) from rfl)]); omega)⟩)
              ·
                try simp only [mIn_0, lgc_lt, lgc_gt, lgc_le, lgc_ge, lgc_eq] at c_172
                try simp only [fl_lt, fl_le, fl_eq, fL_w, fL_lt, fL_le, tm1, tm10k, tm9, tm99, Int32.reduceToInt, Int64.reduceToInt, Int.not_lt, Int.not_le] at c_172
                refine gz_aload_n dX12_tells_175 rfl rfl ?_
                refine gz_iload_n dX12_tells_176 rfl rfl ?_
                refine gz_aload_n dX12_tells_177 rfl rfl ?_
                refine mg_38 hS_8 dX12_tells_178 ?_
                refine gz_iload_n dX12_tells_181 rfl rfl ?_
                refine m_iald 13 hS_8 rfl (N := 880) rfl ((by exact vin_T (rfl : (x1).toInt = (x1).toInt) (by omega) (by omega))) dX12_tells_182 ?_
                refine gz_ev (w := .int ((F 13) (Int32.toNatClampNeg x1))) (congrArg Value.int (congrFun ((hx8.2.2.1 13 (by decide)).trans ((hx7.2.2.1 13 (by decide)).trans ((hx2.2.2.1 13 (by decide)).trans (hx1.2.2.1 13 (by decide))))) _)) ?_
                refine gz_aload_n dX12_tells_183 rfl rfl ?_
                refine mg_41 hS_8 dX12_tells_184 ?_
                refine gz_iload_n dX12_tells_187 rfl rfl ?_
                refine m_iald 14 hS_8 rfl (N := 880) rfl ((by exact vin_T (rfl : (x1).toInt = (x1).toInt) (by omega) (by omega))) dX12_tells_188 ?_
                refine gz_ev (w := .int ((F 14) (Int32.toNatClampNeg x1))) (congrArg Value.int (congrFun ((hx8.2.2.1 14 (by decide)).trans ((hx7.2.2.1 14 (by decide)).trans ((hx2.2.2.1 14 (by decide)).trans (hx1.2.2.1 14 (by decide))))) _)) ?_
                have hxx189 : fx [88, 89] [] [87] [] n z F G n_8 z_8 F_8 G_8 := (fx_tr (fx_tr (fx_tr (fx_tr fx_rf hx1 (by decide)) hx2 (by decide)) hx7 (by decide)) hx8 (by decide))
                refine scX12_558 (k_X12_sums (x1 := x1) (x2 := ((F 13) (Int32.toNatClampNeg x1))) (x3 := ((F 14) (Int32.toNatClampNeg x1))) hS_8 (rAll_w (fun k hk => hxx189.2.2.1 k ((by decide : ∀ k : Nat, k ∈ wK → k ∉ ([87] : List Nat)) k hk)) bA) (by omega) (by omega) (by (try rw [(show n_8 88 = (n_8 88) from rfl)]); omega)) hS_8.1 ⟨(Nat.le_of_ble_eq_true rfl), (Nat.le_of_ble_eq_true rfl)⟩ ⟨(Nat.le_of_ble_eq_true rfl), (Nat.le_of_ble_eq_true rfl)⟩ rfl rfl (Nat.le_of_ble_eq_true rfl) dX12_tells_189 ?_
                rintro f_9 ⟨n_9, z_9, F_9, G_9, hS_9, hx9, h8a_9, h8b_9⟩
                refine gz_aload_n dX12_tells_192 rfl rfl ?_
                refine gz_bipush (v := 58) dX12_tells_193 (by decide) ?_
                refine scX12_547 (k_X12_signs (x1 := 58) hS_9 (by (try rw [(show n_9 88 = (n_9 88) from rfl)]); omega)) hS_9.1 ⟨(Nat.le_of_ble_eq_true rfl), (Nat.le_of_ble_eq_true rfl)⟩ ⟨(Nat.le_of_ble_eq_true rfl), (Nat.le_of_ble_eq_true rfl)⟩ rfl rfl (Nat.le_of_ble_eq_true rfl) dX12_tells_195 ?_
                rintro f_10 ⟨n_10, z_10, F_10, G_10, hS_10, hx10, h8_10⟩
                exact gz_vret rfl dX12_tells_198 (Nat.le_of_ble_eq_true rfl) (Nat.le_of_ble_eq_true rfl) (⟨rfl, _, _, _, _, hS_10, (fx_tr (fx_tr (fx_tr (fx_tr (fx_tr (fx_tr fx_rf hx1 (by decide)) hx2 (by decide)) hx7 (by decide)) hx8 (by decide)) hx9 (by decide)) hx10 (by decide)), (by (try rw [(show n_10 88 = (n_10 88) from rfl)]); omega), (by (try rw [(show n_10 88 = (n_10 88) from rfl)]); omega), (by (try rw [(show n_10 88 = (n_10 88) from rfl)]); omega)⟩)
            ·
              try simp only [mIn_0, lgc_lt, lgc_gt, lgc_le, lgc_ge, lgc_eq] at c_132
              try simp only [fl_lt, fl_le, fl_eq, fL_w, fL_lt, fL_le, tm1, tm10k, tm9, tm99, Int32.reduceToInt, Int64.reduceToInt, Int.not_lt, Int.not_le] at c_132
              refine gz_aload_n dX12_tells_135 rfl rfl ?_
              refine gz_bipush (v := 61) dX12_tells_136 (by decide) ?_
              refine scX12_547 (k_X12_signs (x1 := 61) hS_2 (by (try rw [(show n_2 88 = (n_2 88) from rfl)]); omega)) hS_2.1 ⟨(Nat.le_of_ble_eq_true rfl), (Nat.le_of_ble_eq_true rfl)⟩ ⟨(Nat.le_of_ble_eq_true rfl), (Nat.le_of_ble_eq_true rfl)⟩ rfl rfl (Nat.le_of_ble_eq_true rfl) dX12_tells_138 ?_
              rintro f_11 ⟨n_11, z_11, F_11, G_11, hS_11, hx11, h8_11⟩
              refine gz_aload_n dX12_tells_141 rfl rfl ?_
              refine gz_iload_n dX12_tells_142 rfl rfl ?_
              refine gz_aload_n dX12_tells_143 rfl rfl ?_
              refine mg_41 hS_11 dX12_tells_144 ?_
              refine gz_iload_n dX12_tells_147 rfl rfl ?_
              refine m_iald 14 hS_11 rfl (N := 880) rfl ((by exact vin_T (rfl : (x1).toInt = (x1).toInt) (by omega) (by omega))) dX12_tells_148 ?_
              refine gz_ev (w := .int ((F 14) (Int32.toNatClampNeg x1))) (congrArg Value.int (congrFun ((hx11.2.2.1 14 (by decide)).trans ((hx2.2.2.1 14 (by decide)).trans (hx1.2.2.1 14 (by decide)))) _)) ?_
              refine gz_aload_n dX12_tells_149 rfl rfl ?_
              refine mg_44 hS_11 dX12_tells_150 ?_
              refine gz_iload_n dX12_tells_153 rfl rfl ?_
              refine m_iald 15 hS_11 rfl (N := 880) rfl ((by exact vin_T (rfl : (x1).toInt = (x1).toInt) (by omega) (by omega))) dX12_tells_154 ?_
              refine gz_ev (w := .int ((F 15) (Int32.toNatClampNeg x1))) (congrArg Value.int (congrFun ((hx11.2.2.1 15 (by decide)).trans ((hx2.2.2.1 15 (by decide)).trans (hx1.2.2.1 15 (by decide)))) _)) ?_
              have hxx155 : fx [88, 89] [] [87] [] n z F G n_11 z_11 F_11 G_11 := (fx_tr (fx_tr (fx_tr fx_rf hx1 (by decide)) hx2 (by decide)) hx11 (by decide))
              refine scX12_558 (k_X12_sums (x1 := x1) (x2 := ((F 14) (Int32.toNatClampNeg x1))) (x3 := ((F 15) (Int32.toNatClampNeg x1))) hS_11 (rAll_w (fun k hk => hxx155.2.2.1 k ((by decide : ∀ k : Nat, k ∈ wK → k ∉ ([87] : List Nat)) k hk)) bA) (by omega) (by omega) (by (try rw [(show n_11 88 = (n_11 88) from rfl)]); omega)) hS_11.1 ⟨(Nat.le_of_ble_eq_true rfl), (Nat.le_of_ble_eq_true rfl)⟩ ⟨(Nat.le_of_ble_eq_true rfl), (Nat.le_of_ble_eq_true rfl)⟩ rfl rfl (Nat.le_of_ble_eq_true rfl) dX12_tells_155 ?_
              rintro f_12 ⟨n_12, z_12, F_12, G_12, hS_12, hx12, h8a_12, h8b_12⟩
              refine gz_aload_n dX12_tells_158 rfl rfl ?_
              refine gz_bipush (v := 58) dX12_tells_159 (by decide) ?_
              refine scX12_547 (k_X12_signs (x1 := 58) hS_12 (by (try rw [(show n_12 88 = (n_12 88) from rfl)]); omega)) hS_12.1 ⟨(Nat.le_of_ble_eq_true rfl), (Nat.le_of_ble_eq_true rfl)⟩ ⟨(Nat.le_of_ble_eq_true rfl), (Nat.le_of_ble_eq_true rfl)⟩ rfl rfl (Nat.le_of_ble_eq_true rfl) dX12_tells_161 ?_
              rintro f_13 ⟨n_13, z_13, F_13, G_13, hS_13, hx13, h8_13⟩
              refine gz_aload_n dX12_tells_164 rfl rfl ?_
              refine mg_20 hS_13 dX12_tells_165 ?_
              refine gz_iload_n dX12_tells_168 rfl rfl ?_
              refine m_iald 7 hS_13 rfl (N := 880) rfl ((by exact vin_T (rfl : (x1).toInt = (x1).toInt) (by omega) (by omega))) dX12_tells_169 ?_
              refine gz_ev (w := .int ((F 7) (Int32.toNatClampNeg x1))) (congrArg Value.int (congrFun ((hx13.2.2.1 7 (by decide)).trans ((hx12.2.2.1 7 (by decide)).trans ((hx11.2.2.1 7 (by decide)).trans ((hx2.2.2.1 7 (by decide)).trans (hx1.2.2.1 7 (by decide)))))) _)) ?_
              refine gz_bipush (v := 9) dX12_tells_170 (by decide) ?_
              refine gz_icmp_ne (tgt := 198) dX12_tells_172 (by decide) (fun c_172 => ?_) (fun c_172 => ?_)
              ·
                try simp only [mIn_0, lgc_lt, lgc_gt, lgc_le, lgc_ge, lgc_eq] at c_172
                try simp only [fl_lt, fl_le, fl_eq, fL_w, fL_lt, fL_le, tm1, tm10k, tm9, tm99, Int32.reduceToInt, Int64.reduceToInt, Int.not_lt, Int.not_le] at c_172
                exact gz_vret rfl dX12_tells_198 (Nat.le_of_ble_eq_true rfl) (Nat.le_of_ble_eq_true rfl) (⟨rfl, _, _, _, _, hS_13, (fx_tr (fx_tr (fx_tr (fx_tr (fx_tr fx_rf hx1 (by decide)) hx2 (by decide)) hx11 (by decide)) hx12 (by decide)) hx13 (by decide)), (by (try rw [(show n_13 88 = (n_13 88) from rfl)]); omega), (by (try rw [(show n_13 88 = (n_13 88) from rfl)]); omega), (by (try rw [(show n_13 88 = (n_13 88) from rfl)]); omega)⟩)
              ·
                try simp only [mIn_0, lgc_lt, lgc_gt, lgc_le, lgc_ge, lgc_eq] at c_172
                try simp only [fl_lt, fl_le, fl_eq, fL_w, fL_lt, fL_le, tm1, tm10k, tm9, tm99, Int32.reduceToInt, Int64.reduceToInt, Int.not_lt, Int.not_le] at c_172
                refine gz_aload_n dX12_tells_175 rfl rfl ?_
                refine gz_iload_n dX12_tells_176 rfl rfl ?_
                refine gz_aload_n dX12_tells_177 rfl rfl ?_
                refine mg_38 hS_13 dX12_tells_178 ?_
                refine gz_iload_n dX12_tells_181 rfl rfl ?_
                refine m_iald 13 hS_13 rfl (N := 880) rfl ((by exact vin_T (rfl : (x1).toInt = (x1).toInt) (by omega) (by omega))) dX12_tells_182 ?_
                refine gz_ev (w := .int ((F 13) (Int32.toNatClampNeg x1))) (congrArg Value.int (congrFun ((hx13.2.2.1 13 (by decide)).trans ((hx12.2.2.1 13 (by decide)).trans ((hx11.2.2.1 13 (by decide)).trans ((hx2.2.2.1 13 (by decide)).trans (hx1.2.2.1 13 (by decide)))))) _)) ?_
                refine gz_aload_n dX12_tells_183 rfl rfl ?_
                refine mg_41 hS_13 dX12_tells_184 ?_
                refine gz_iload_n dX12_tells_187 rfl rfl ?_
                refine m_iald 14 hS_13 rfl (N := 880) rfl ((by exact vin_T (rfl : (x1).toInt = (x1).toInt) (by omega) (by omega))) dX12_tells_188 ?_
                refine gz_ev (w := .int ((F 14) (Int32.toNatClampNeg x1))) (congrArg Value.int (congrFun ((hx13.2.2.1 14 (by decide)).trans ((hx12.2.2.1 14 (by decide)).trans ((hx11.2.2.1 14 (by decide)).trans ((hx2.2.2.1 14 (by decide)).trans (hx1.2.2.1 14 (by decide)))))) _)) ?_
                have hxx189 : fx [88, 89] [] [87] [] n z F G n_13 z_13 F_13 G_13 := (fx_tr (fx_tr (fx_tr (fx_tr (fx_tr fx_rf hx1 (by decide)) hx2 (by decide)) hx11 (by decide)) hx12 (by decide)) hx13 (by decide))
                refine scX12_558 (k_X12_sums (x1 := x1) (x2 := ((F 13) (Int32.toNatClampNeg x1))) (x3 := ((F 14) (Int32.toNatClampNeg x1))) hS_13 (rAll_w (fun k hk => hxx189.2.2.1 k ((by decide : ∀ k : Nat, k ∈ wK → k ∉ ([87] : List Nat)) k hk)) bA) (by omega) (by omega) (by (try rw [(show n_13 88 = (n_13 88) from rfl)]); omega)) hS_13.1 ⟨(Nat.le_of_ble_eq_true rfl), (Nat.le_of_ble_eq_true rfl)⟩ ⟨(Nat.le_of_ble_eq_true rfl), (Nat.le_of_ble_eq_true rfl)⟩ rfl rfl (Nat.le_of_ble_eq_true rfl) dX12_tells_189 ?_
                rintro f_14 ⟨n_14, z_14, F_14, G_14, hS_14, hx14, h8a_14, h8b_14⟩
                refine gz_aload_n dX12_tells_192 rfl rfl ?_
                refine gz_bipush (v := 58) dX12_tells_193 (by decide) ?_
                refine scX12_547 (k_X12_signs (x1 := 58) hS_14 (by (try rw [(show n_14 88 = (n_14 88) from rfl)]); omega)) hS_14.1 ⟨(Nat.le_of_ble_eq_true rfl), (Nat.le_of_ble_eq_true rfl)⟩ ⟨(Nat.le_of_ble_eq_true rfl), (Nat.le_of_ble_eq_true rfl)⟩ rfl rfl (Nat.le_of_ble_eq_true rfl) dX12_tells_195 ?_
                rintro f_15 ⟨n_15, z_15, F_15, G_15, hS_15, hx15, h8_15⟩
                exact gz_vret rfl dX12_tells_198 (Nat.le_of_ble_eq_true rfl) (Nat.le_of_ble_eq_true rfl) (⟨rfl, _, _, _, _, hS_15, (fx_tr (fx_tr (fx_tr (fx_tr (fx_tr (fx_tr (fx_tr fx_rf hx1 (by decide)) hx2 (by decide)) hx11 (by decide)) hx12 (by decide)) hx13 (by decide)) hx14 (by decide)) hx15 (by decide)), (by (try rw [(show n_15 88 = (n_15 88) from rfl)]); omega), (by (try rw [(show n_15 88 = (n_15 88) from rfl)]); omega), (by (try rw [(show n_15 88 = (n_15 88) from rfl)]); omega)⟩)
        ·
          try simp only [mIn_0, lgc_lt, lgc_gt, lgc_le, lgc_ge, lgc_eq] at c_107
          try simp only [fl_lt, fl_le, fl_eq, fL_w, fL_lt, fL_le, tm1, tm10k, tm9, tm99, Int32.reduceToInt, Int64.reduceToInt, Int.not_lt, Int.not_le] at c_107
          refine gz_aload_n dX12_tells_110 rfl rfl ?_
          refine gz_bipush (v := 62) dX12_tells_111 (by decide) ?_
          refine scX12_547 (k_X12_signs (x1 := 62) hS_2 (by (try rw [(show n_2 88 = (n_2 88) from rfl)]); omega)) hS_2.1 ⟨(Nat.le_of_ble_eq_true rfl), (Nat.le_of_ble_eq_true rfl)⟩ ⟨(Nat.le_of_ble_eq_true rfl), (Nat.le_of_ble_eq_true rfl)⟩ rfl rfl (Nat.le_of_ble_eq_true rfl) dX12_tells_113 ?_
          rintro f_16 ⟨n_16, z_16, F_16, G_16, hS_16, hx16, h8_16⟩
          refine gz_aload_n dX12_tells_116 rfl rfl ?_
          refine mg_47 hS_16 dX12_tells_117 ?_
          refine gz_iload_n dX12_tells_120 rfl rfl ?_
          refine m_iald 16 hS_16 rfl (N := 880) rfl ((by exact vin_T (rfl : (x1).toInt = (x1).toInt) (by omega) (by omega))) dX12_tells_121 ?_
          refine gz_ev (w := .int ((F 16) (Int32.toNatClampNeg x1))) (congrArg Value.int (congrFun ((hx16.2.2.1 16 (by decide)).trans ((hx2.2.2.1 16 (by decide)).trans (hx1.2.2.1 16 (by decide)))) _)) ?_
          refine gz_if_le (tgt := 141) dX12_tells_122 (by decide) (fun c_122 => ?_) (fun c_122 => ?_)
          ·
            try simp only [mIn_0, lgc_lt, lgc_gt, lgc_le, lgc_ge, lgc_eq] at c_122
            try simp only [fl_lt, fl_le, fl_eq, fL_w, fL_lt, fL_le, tm1, tm10k, tm9, tm99, Int32.reduceToInt, Int64.reduceToInt, Int.not_lt, Int.not_le] at c_122
            refine gz_aload_n dX12_tells_141 rfl rfl ?_
            refine gz_iload_n dX12_tells_142 rfl rfl ?_
            refine gz_aload_n dX12_tells_143 rfl rfl ?_
            refine mg_41 hS_16 dX12_tells_144 ?_
            refine gz_iload_n dX12_tells_147 rfl rfl ?_
            refine m_iald 14 hS_16 rfl (N := 880) rfl ((by exact vin_T (rfl : (x1).toInt = (x1).toInt) (by omega) (by omega))) dX12_tells_148 ?_
            refine gz_ev (w := .int ((F 14) (Int32.toNatClampNeg x1))) (congrArg Value.int (congrFun ((hx16.2.2.1 14 (by decide)).trans ((hx2.2.2.1 14 (by decide)).trans (hx1.2.2.1 14 (by decide)))) _)) ?_
            refine gz_aload_n dX12_tells_149 rfl rfl ?_
            refine mg_44 hS_16 dX12_tells_150 ?_
            refine gz_iload_n dX12_tells_153 rfl rfl ?_
            refine m_iald 15 hS_16 rfl (N := 880) rfl ((by exact vin_T (rfl : (x1).toInt = (x1).toInt) (by omega) (by omega))) dX12_tells_154 ?_
            refine gz_ev (w := .int ((F 15) (Int32.toNatClampNeg x1))) (congrArg Value.int (congrFun ((hx16.2.2.1 15 (by decide)).trans ((hx2.2.2.1 15 (by decide)).trans (hx1.2.2.1 15 (by decide)))) _)) ?_
            have hxx155 : fx [88, 89] [] [87] [] n z F G n_16 z_16 F_16 G_16 := (fx_tr (fx_tr (fx_tr fx_rf hx1 (by decide)) hx2 (by decide)) hx16 (by decide))
            refine scX12_558 (k_X12_sums (x1 := x1) (x2 := ((F 14) (Int32.toNatClampNeg x1))) (x3 := ((F 15) (Int32.toNatClampNeg x1))) hS_16 (rAll_w (fun k hk => hxx155.2.2.1 k ((by decide : ∀ k : Nat, k ∈ wK → k ∉ ([87] : List Nat)) k hk)) bA) (by omega) (by omega) (by (try rw [(show n_16 88 = (n_16 88) from rfl)]); omega)) hS_16.1 ⟨(Nat.le_of_ble_eq_true rfl), (Nat.le_of_ble_eq_true rfl)⟩ ⟨(Nat.le_of_ble_eq_true rfl), (Nat.le_of_ble_eq_true rfl)⟩ rfl rfl (Nat.le_of_ble_eq_true rfl) dX12_tells_155 ?_
            rintro f_17 ⟨n_17, z_17, F_17, G_17, hS_17, hx17, h8a_17, h8b_17⟩
            refine gz_aload_n dX12_tells_158 rfl rfl ?_
            refine gz_bipush (v := 58) dX12_tells_159 (by decide) ?_
            refine scX12_547 (k_X12_signs (x1 := 58) hS_17 (by (try rw [(show n_17 88 = (n_17 88) from rfl)]); omega)) hS_17.1 ⟨(Nat.le_of_ble_eq_true rfl), (Nat.le_of_ble_eq_true rfl)⟩ ⟨(Nat.le_of_ble_eq_true rfl), (Nat.le_of_ble_eq_true rfl)⟩ rfl rfl (Nat.le_of_ble_eq_true rfl) dX12_tells_161 ?_
            rintro f_18 ⟨n_18, z_18, F_18, G_18, hS_18, hx18, h8_18⟩
            refine gz_aload_n dX12_tells_164 rfl rfl ?_
            refine mg_20 hS_18 dX12_tells_165 ?_
            refine gz_iload_n dX12_tells_168 rfl rfl ?_
            refine m_iald 7 hS_18 rfl (N := 880) rfl ((by exact vin_T (rfl : (x1).toInt = (x1).toInt) (by omega) (by omega))) dX12_tells_169 ?_
            refine gz_ev (w := .int ((F 7) (Int32.toNatClampNeg x1))) (congrArg Value.int (congrFun ((hx18.2.2.1 7 (by decide)).trans ((hx17.2.2.1 7 (by decide)).trans ((hx16.2.2.1 7 (by decide)).trans ((hx2.2.2.1 7 (by decide)).trans (hx1.2.2.1 7 (by decide)))))) _)) ?_
            refine gz_bipush (v := 9) dX12_tells_170 (by decide) ?_
            refine gz_icmp_ne (tgt := 198) dX12_tells_172 (by decide) (fun c_172 => ?_) (fun c_172 => ?_)
            ·
              try simp only [mIn_0, lgc_lt, lgc_gt, lgc_le, lgc_ge, lgc_eq] at c_172
              try simp only [fl_lt, fl_le, fl_eq, fL_w, fL_lt, fL_le, tm1, tm10k, tm9, tm99, Int32.reduceToInt, Int64.reduceToInt, Int.not_lt, Int.not_le] at c_172
              exact gz_vret rfl dX12_tells_198 (Nat.le_of_ble_eq_true rfl) (Nat.le_of_ble_eq_true rfl) (⟨rfl, _, _, _, _, hS_18, (fx_tr (fx_tr (fx_tr (fx_tr (fx_tr fx_rf hx1 (by decide)) hx2 (by decide)) hx16 (by decide)) hx17 (by decide)) hx18 (by decide)), (by (try rw [(show n_18 88 = (n_18 88) from rfl)]); omega), (by (try rw [(show n_18 88 = (n_18 88) from rfl)]); omega), (by (try rw [(show n_18 88 = (n_18 88) from rfl)]); omega)⟩)
            ·
              try simp only [mIn_0, lgc_lt, lgc_gt, lgc_le, lgc_ge, lgc_eq] at c_172
              try simp only [fl_lt, fl_le, fl_eq, fL_w, fL_lt, fL_le, tm1, tm10k, tm9, tm99, Int32.reduceToInt, Int64.reduceToInt, Int.not_lt, Int.not_le] at c_172
              refine gz_aload_n dX12_tells_175 rfl rfl ?_
              refine gz_iload_n dX12_tells_176 rfl rfl ?_
              refine gz_aload_n dX12_tells_177 rfl rfl ?_
              refine mg_38 hS_18 dX12_tells_178 ?_
              refine gz_iload_n dX12_tells_181 rfl rfl ?_
              refine m_iald 13 hS_18 rfl (N := 880) rfl ((by exact vin_T (rfl : (x1).toInt = (x1).toInt) (by omega) (by omega))) dX12_tells_182 ?_
              refine gz_ev (w := .int ((F 13) (Int32.toNatClampNeg x1))) (congrArg Value.int (congrFun ((hx18.2.2.1 13 (by decide)).trans ((hx17.2.2.1 13 (by decide)).trans ((hx16.2.2.1 13 (by decide)).trans ((hx2.2.2.1 13 (by decide)).trans (hx1.2.2.1 13 (by decide)))))) _)) ?_
              refine gz_aload_n dX12_tells_183 rfl rfl ?_
              refine mg_41 hS_18 dX12_tells_184 ?_
              refine gz_iload_n dX12_tells_187 rfl rfl ?_
              refine m_iald 14 hS_18 rfl (N := 880) rfl ((by exact vin_T (rfl : (x1).toInt = (x1).toInt) (by omega) (by omega))) dX12_tells_188 ?_
              refine gz_ev (w := .int ((F 14) (Int32.toNatClampNeg x1))) (congrArg Value.int (congrFun ((hx18.2.2.1 14 (by decide)).trans ((hx17.2.2.1 14 (by decide)).trans ((hx16.2.2.1 14 (by decide)).trans ((hx2.2.2.1 14 (by decide)).trans (hx1.2.2.1 14 (by decide)))))) _)) ?_
              have hxx189 : fx [88, 89] [] [87] [] n z F G n_18 z_18 F_18 G_18 := (fx_tr (fx_tr (fx_tr (fx_tr (fx_tr fx_rf hx1 (by decide)) hx2 (by decide)) hx16 (by decide)) hx17 (by decide)) hx18 (by decide))
              refine scX12_558 (k_X12_sums (x1 := x1) (x2 := ((F 13) (Int32.toNatClampNeg x1))) (x3 := ((F 14) (Int32.toNatClampNeg x1))) hS_18 (rAll_w (fun k hk => hxx189.2.2.1 k ((by decide : ∀ k : Nat, k ∈ wK → k ∉ ([87] : List Nat)) k hk)) bA) (by omega) (by omega) (by (try rw [(show n_18 88 = (n_18 88) from rfl)]); omega)) hS_18.1 ⟨(Nat.le_of_ble_eq_true rfl), (Nat.le_of_ble_eq_true rfl)⟩ ⟨(Nat.le_of_ble_eq_true rfl), (Nat.le_of_ble_eq_true rfl)⟩ rfl rfl (Nat.le_of_ble_eq_true rfl) dX12_tells_189 ?_
              rintro f_19 ⟨n_19, z_19, F_19, G_19, hS_19, hx19, h8a_19, h8b_19⟩
              refine gz_aload_n dX12_tells_192 rfl rfl ?_
              refine gz_bipush (v := 58) dX12_tells_193 (by decide) ?_
              refine scX12_547 (k_X12_signs (x1 := 58) hS_19 (by (try rw [(show n_19 88 = (n_19 88) from rfl)]); omega)) hS_19.1 ⟨(Nat.le_of_ble_eq_true rfl), (Nat.le_of_ble_eq_true rfl)⟩ ⟨(Nat.le_of_ble_eq_true rfl), (Nat.le_of_ble_eq_true rfl)⟩ rfl rfl (Nat.le_of_ble_eq_true rfl) dX12_tells_195 ?_
              rintro f_20 ⟨n_20, z_20, F_20, G_20, hS_20, hx20, h8_20⟩
              exact gz_vret rfl dX12_tells_198 (Nat.le_of_ble_eq_true rfl) (Nat.le_of_ble_eq_true rfl) (⟨rfl, _, _, _, _, hS_20, (fx_tr (fx_tr (fx_tr (fx_tr (fx_tr (fx_tr (fx_tr fx_rf hx1 (by decide)) hx2 (by decide)) hx16 (by decide)) hx17 (by decide)) hx18 (by decide)) hx19 (by decide)) hx20 (by decide)), (by (try rw [(show n_20 88 = (n_20 88) from rfl)]); omega), (by (try rw [(show n_20 88 = (n_20 88) from rfl)]); omega), (by (try rw [(show n_20 88 = (n_20 88) from rfl)]); omega)⟩)
          ·
            try simp only [mIn_0, lgc_lt, lgc_gt, lgc_le, lgc_ge, lgc_eq] at c_122
            try simp only [fl_lt, fl_le, fl_eq, fL_w, fL_lt, fL_le, tm1, tm10k, tm9, tm99, Int32.reduceToInt, Int64.reduceToInt, Int.not_lt, Int.not_le] at c_122
            refine gz_aload_n dX12_tells_125 rfl rfl ?_
            refine mg_47 hS_16 dX12_tells_126 ?_
            refine gz_iload_n dX12_tells_129 rfl rfl ?_
            refine m_iald 16 hS_16 rfl (N := 880) rfl ((by exact vin_T (rfl : (x1).toInt = (x1).toInt) (by omega) (by omega))) dX12_tells_130 ?_
            refine gz_ev (w := .int ((F 16) (Int32.toNatClampNeg x1))) (congrArg Value.int (congrFun ((hx16.2.2.1 16 (by decide)).trans ((hx2.2.2.1 16 (by decide)).trans (hx1.2.2.1 16 (by decide)))) _)) ?_
            refine gz_iconst (v := 4) dX12_tells_131 (by decide) ?_
            refine gz_icmp_ge (tgt := 141) dX12_tells_132 (by decide) (fun c_132 => ?_) (fun c_132 => ?_)
            ·
              try simp only [mIn_0, lgc_lt, lgc_gt, lgc_le, lgc_ge, lgc_eq] at c_132
              try simp only [fl_lt, fl_le, fl_eq, fL_w, fL_lt, fL_le, tm1, tm10k, tm9, tm99, Int32.reduceToInt, Int64.reduceToInt, Int.not_lt, Int.not_le] at c_132
              refine gz_aload_n dX12_tells_141 rfl rfl ?_
              refine gz_iload_n dX12_tells_142 rfl rfl ?_
              refine gz_aload_n dX12_tells_143 rfl rfl ?_
              refine mg_41 hS_16 dX12_tells_144 ?_
              refine gz_iload_n dX12_tells_147 rfl rfl ?_
              refine m_iald 14 hS_16 rfl (N := 880) rfl ((by exact vin_T (rfl : (x1).toInt = (x1).toInt) (by omega) (by omega))) dX12_tells_148 ?_
              refine gz_ev (w := .int ((F 14) (Int32.toNatClampNeg x1))) (congrArg Value.int (congrFun ((hx16.2.2.1 14 (by decide)).trans ((hx2.2.2.1 14 (by decide)).trans (hx1.2.2.1 14 (by decide)))) _)) ?_
              refine gz_aload_n dX12_tells_149 rfl rfl ?_
              refine mg_44 hS_16 dX12_tells_150 ?_
              refine gz_iload_n dX12_tells_153 rfl rfl ?_
              refine m_iald 15 hS_16 rfl (N := 880) rfl ((by exact vin_T (rfl : (x1).toInt = (x1).toInt) (by omega) (by omega))) dX12_tells_154 ?_
              refine gz_ev (w := .int ((F 15) (Int32.toNatClampNeg x1))) (congrArg Value.int (congrFun ((hx16.2.2.1 15 (by decide)).trans ((hx2.2.2.1 15 (by decide)).trans (hx1.2.2.1 15 (by decide)))) _)) ?_
              have hxx155 : fx [88, 89] [] [87] [] n z F G n_16 z_16 F_16 G_16 := (fx_tr (fx_tr (fx_tr fx_rf hx1 (by decide)) hx2 (by decide)) hx16 (by decide))
              refine scX12_558 (k_X12_sums (x1 := x1) (x2 := ((F 14) (Int32.toNatClampNeg x1))) (x3 := ((F 15) (Int32.toNatClampNeg x1))) hS_16 (rAll_w (fun k hk => hxx155.2.2.1 k ((by decide : ∀ k : Nat, k ∈ wK → k ∉ ([87] : List Nat)) k hk)) bA) (by omega) (by omega) (by (try rw [(show n_16 88 = (n_16 88) from rfl)]); omega)) hS_16.1 ⟨(Nat.le_of_ble_eq_true rfl), (Nat.le_of_ble_eq_true rfl)⟩ ⟨(Nat.le_of_ble_eq_true rfl), (Nat.le_of_ble_eq_true rfl)⟩ rfl rfl (Nat.le_of_ble_eq_true rfl) dX12_tells_155 ?_
              rintro f_21 ⟨n_21, z_21, F_21, G_21, hS_21, hx21, h8a_21, h8b_21⟩
              refine gz_aload_n dX12_tells_158 rfl rfl ?_
              refine gz_bipush (v := 58) dX12_tells_159 (by decide) ?_
              refine scX12_547 (k_X12_signs (x1 := 58) hS_21 (by (try rw [(show n_21 88 = (n_21 88) from rfl)]); omega)) hS_21.1 ⟨(Nat.le_of_ble_eq_true rfl), (Nat.le_of_ble_eq_true rfl)⟩ ⟨(Nat.le_of_ble_eq_true rfl), (Nat.le_of_ble_eq_true rfl)⟩ rfl rfl (Nat.le_of_ble_eq_true rfl) dX12_tells_161 ?_
              rintro f_22 ⟨n_22, z_22, F_22, G_22, hS_22, hx22, h8_22⟩
              refine gz_aload_n dX12_tells_164 rfl rfl ?_
              refine mg_20 hS_22 dX12_tells_165 ?_
              refine gz_iload_n dX12_tells_168 rfl rfl ?_
              refine m_iald 7 hS_22 rfl (N := 880) rfl ((by exact vin_T (rfl : (x1).toInt = (x1).toInt) (by omega) (by omega))) dX12_tells_169 ?_
              refine gz_ev (w := .int ((F 7) (Int32.toNatClampNeg x1))) (congrArg Value.int (congrFun ((hx22.2.2.1 7 (by decide)).trans ((hx21.2.2.1 7 (by decide)).trans ((hx16.2.2.1 7 (by decide)).trans ((hx2.2.2.1 7 (by decide)).trans (hx1.2.2.1 7 (by decide)))))) _)) ?_
              refine gz_bipush (v := 9) dX12_tells_170 (by decide) ?_
              refine gz_icmp_ne (tgt := 198) dX12_tells_172 (by decide) (fun c_172 => ?_) (fun c_172 => ?_)
              ·
                try simp only [mIn_0, lgc_lt, lgc_gt, lgc_le, lgc_ge, lgc_eq] at c_172
                try simp only [fl_lt, fl_le, fl_eq, fL_w, fL_lt, fL_le, tm1, tm10k, tm9, tm99, Int32.reduceToInt, Int64.reduceToInt, Int.not_lt, Int.not_le] at c_172
                exact gz_vret rfl dX12_tells_198 (Nat.le_of_ble_eq_true rfl) (Nat.le_of_ble_eq_true rfl) (⟨rfl, _, _, _, _, hS_22, (fx_tr (fx_tr (fx_tr (fx_tr (fx_tr fx_rf hx1 (by decide)) hx2 (by decide)) hx16 (by decide)) hx21 (by decide)) hx22 (by decide)), (by (try rw [(show n_22 88 = (n_22 88) from rfl)]); omega), (by (try rw [(show n_22 88 = (n_22 88) from rfl)]); omega), (by (try rw [(show n_22 88 = (n_22 88) from rfl)]); omega)⟩)
              ·
                try simp only [mIn_0, lgc_lt, lgc_gt, lgc_le, lgc_ge, lgc_eq] at c_172
                try simp only [fl_lt, fl_le, fl_eq, fL_w, fL_lt, fL_le, tm1, tm10k, tm9, tm99, Int32.reduceToInt, Int64.reduceToInt, Int.not_lt, Int.not_le] at c_172
                refine gz_aload_n dX12_tells_175 rfl rfl ?_
                refine gz_iload_n dX12_tells_176 rfl rfl ?_
                refine gz_aload_n dX12_tells_177 rfl rfl ?_
                refine mg_38 hS_22 dX12_tells_178 ?_
                refine gz_iload_n dX12_tells_181 rfl rfl ?_
                refine m_iald 13 hS_22 rfl (N := 880) rfl ((by exact vin_T (rfl : (x1).toInt = (x1).toInt) (by omega) (by omega))) dX12_tells_182 ?_
                refine gz_ev (w := .int ((F 13) (Int32.toNatClampNeg x1))) (congrArg Value.int (congrFun ((hx22.2.2.1 13 (by decide)).trans ((hx21.2.2.1 13 (by decide)).trans ((hx16.2.2.1 13 (by decide)).trans ((hx2.2.2.1 13 (by decide)).trans (hx1.2.2.1 13 (by decide)))))) _)) ?_
                refine gz_aload_n dX12_tells_183 rfl rfl ?_
                refine mg_41 hS_22 dX12_tells_184 ?_
                refine gz_iload_n dX12_tells_187 rfl rfl ?_
                refine m_iald 14 hS_22 rfl (N := 880) rfl ((by exact vin_T (rfl : (x1).toInt = (x1).toInt) (by omega) (by omega))) dX12_tells_188 ?_
                refine gz_ev (w := .int ((F 14) (Int32.toNatClampNeg x1))) (congrArg Value.int (congrFun ((hx22.2.2.1 14 (by decide)).trans ((hx21.2.2.1 14 (by decide)).trans ((hx16.2.2.1 14 (by decide)).trans ((hx2.2.2.1 14 (by decide)).trans (hx1.2.2.1 14 (by decide)))))) _)) ?_
                have hxx189 : fx [88, 89] [] [87] [] n z F G n_22 z_22 F_22 G_22 := (fx_tr (fx_tr (fx_tr (fx_tr (fx_tr fx_rf hx1 (by decide)) hx2 (by decide)) hx16 (by decide)) hx21 (by decide)) hx22 (by decide))
                refine scX12_558 (k_X12_sums (x1 := x1) (x2 := ((F 13) (Int32.toNatClampNeg x1))) (x3 := ((F 14) (Int32.toNatClampNeg x1))) hS_22 (rAll_w (fun k hk => hxx189.2.2.1 k ((by decide : ∀ k : Nat, k ∈ wK → k ∉ ([87] : List Nat)) k hk)) bA) (by omega) (by omega) (by (try rw [(show n_22 88 = (n_22 88) from rfl)]); omega)) hS_22.1 ⟨(Nat.le_of_ble_eq_true rfl), (Nat.le_of_ble_eq_true rfl)⟩ ⟨(Nat.le_of_ble_eq_true rfl), (Nat.le_of_ble_eq_true rfl)⟩ rfl rfl (Nat.le_of_ble_eq_true rfl) dX12_tells_189 ?_
                rintro f_23 ⟨n_23, z_23, F_23, G_23, hS_23, hx23, h8a_23, h8b_23⟩
                refine gz_aload_n dX12_tells_192 rfl rfl ?_
                refine gz_bipush (v := 58) dX12_tells_193 (by decide) ?_
                refine scX12_547 (k_X12_signs (x1 := 58) hS_23 (by (try rw [(show n_23 88 = (n_23 88) from rfl)]); omega)) hS_23.1 ⟨(Nat.le_of_ble_eq_true rfl), (Nat.le_of_ble_eq_true rfl)⟩ ⟨(Nat.le_of_ble_eq_true rfl), (Nat.le_of_ble_eq_true rfl)⟩ rfl rfl (Nat.le_of_ble_eq_true rfl) dX12_tells_195 ?_
                rintro f_24 ⟨n_24, z_24, F_24, G_24, hS_24, hx24, h8_24⟩
                exact gz_vret rfl dX12_tells_198 (Nat.le_of_ble_eq_true rfl) (Nat.le_of_ble_eq_true rfl) (⟨rfl, _, _, _, _, hS_24, (fx_tr (fx_tr (fx_tr (fx_tr (fx_tr (fx_tr (fx_tr fx_rf hx1 (by decide)) hx2 (by decide)) hx16 (by decide)) hx21 (by decide)) hx22 (by decide)) hx23 (by decide)) hx24 (by decide)), (by (try rw [(show n_24 88 = (n_24 88) from rfl)]); omega), (by (try rw [(show n_24 88 = (n_24 88) from rfl)]); omega), (by (try rw [(show n_24 88 = (n_24 88) from rfl)]); omega)⟩)
            ·
              try simp only [mIn_0, lgc_lt, lgc_gt, lgc_le, lgc_ge, lgc_eq] at c_132
              try simp only [fl_lt, fl_le, fl_eq, fL_w, fL_lt, fL_le, tm1, tm10k, tm9, tm99, Int32.reduceToInt, Int64.reduceToInt, Int.not_lt, Int.not_le] at c_132
              refine gz_aload_n dX12_tells_135 rfl rfl ?_
              refine gz_bipush (v := 61) dX12_tells_136 (by decide) ?_
              refine scX12_547 (k_X12_signs (x1 := 61) hS_16 (by (try rw [(show n_16 88 = (n_16 88) from rfl)]); omega)) hS_16.1 ⟨(Nat.le_of_ble_eq_true rfl), (Nat.le_of_ble_eq_true rfl)⟩ ⟨(Nat.le_of_ble_eq_true rfl), (Nat.le_of_ble_eq_true rfl)⟩ rfl rfl (Nat.le_of_ble_eq_true rfl) dX12_tells_138 ?_
              rintro f_25 ⟨n_25, z_25, F_25, G_25, hS_25, hx25, h8_25⟩
              refine gz_aload_n dX12_tells_141 rfl rfl ?_
              refine gz_iload_n dX12_tells_142 rfl rfl ?_
              refine gz_aload_n dX12_tells_143 rfl rfl ?_
              refine mg_41 hS_25 dX12_tells_144 ?_
              refine gz_iload_n dX12_tells_147 rfl rfl ?_
              refine m_iald 14 hS_25 rfl (N := 880) rfl ((by exact vin_T (rfl : (x1).toInt = (x1).toInt) (by omega) (by omega))) dX12_tells_148 ?_
              refine gz_ev (w := .int ((F 14) (Int32.toNatClampNeg x1))) (congrArg Value.int (congrFun ((hx25.2.2.1 14 (by decide)).trans ((hx16.2.2.1 14 (by decide)).trans ((hx2.2.2.1 14 (by decide)).trans (hx1.2.2.1 14 (by decide))))) _)) ?_
              refine gz_aload_n dX12_tells_149 rfl rfl ?_
              refine mg_44 hS_25 dX12_tells_150 ?_
              refine gz_iload_n dX12_tells_153 rfl rfl ?_
              refine m_iald 15 hS_25 rfl (N := 880) rfl ((by exact vin_T (rfl : (x1).toInt = (x1).toInt) (by omega) (by omega))) dX12_tells_154 ?_
              refine gz_ev (w := .int ((F 15) (Int32.toNatClampNeg x1))) (congrArg Value.int (congrFun ((hx25.2.2.1 15 (by decide)).trans ((hx16.2.2.1 15 (by decide)).trans ((hx2.2.2.1 15 (by decide)).trans (hx1.2.2.1 15 (by decide))))) _)) ?_
              have hxx155 : fx [88, 89] [] [87] [] n z F G n_25 z_25 F_25 G_25 := (fx_tr (fx_tr (fx_tr (fx_tr fx_rf hx1 (by decide)) hx2 (by decide)) hx16 (by decide)) hx25 (by decide))
              refine scX12_558 (k_X12_sums (x1 := x1) (x2 := ((F 14) (Int32.toNatClampNeg x1))) (x3 := ((F 15) (Int32.toNatClampNeg x1))) hS_25 (rAll_w (fun k hk => hxx155.2.2.1 k ((by decide : ∀ k : Nat, k ∈ wK → k ∉ ([87] : List Nat)) k hk)) bA) (by omega) (by omega) (by (try rw [(show n_25 88 = (n_25 88) from rfl)]); omega)) hS_25.1 ⟨(Nat.le_of_ble_eq_true rfl), (Nat.le_of_ble_eq_true rfl)⟩ ⟨(Nat.le_of_ble_eq_true rfl), (Nat.le_of_ble_eq_true rfl)⟩ rfl rfl (Nat.le_of_ble_eq_true rfl) dX12_tells_155 ?_
              rintro f_26 ⟨n_26, z_26, F_26, G_26, hS_26, hx26, h8a_26, h8b_26⟩
              refine gz_aload_n dX12_tells_158 rfl rfl ?_
              refine gz_bipush (v := 58) dX12_tells_159 (by decide) ?_
              refine scX12_547 (k_X12_signs (x1 := 58) hS_26 (by (try rw [(show n_26 88 = (n_26 88) from rfl)]); omega)) hS_26.1 ⟨(Nat.le_of_ble_eq_true rfl), (Nat.le_of_ble_eq_true rfl)⟩ ⟨(Nat.le_of_ble_eq_true rfl), (Nat.le_of_ble_eq_true rfl)⟩ rfl rfl (Nat.le_of_ble_eq_true rfl) dX12_tells_161 ?_
              rintro f_27 ⟨n_27, z_27, F_27, G_27, hS_27, hx27, h8_27⟩
              refine gz_aload_n dX12_tells_164 rfl rfl ?_
              refine mg_20 hS_27 dX12_tells_165 ?_
              refine gz_iload_n dX12_tells_168 rfl rfl ?_
              refine m_iald 7 hS_27 rfl (N := 880) rfl ((by exact vin_T (rfl : (x1).toInt = (x1).toInt) (by omega) (by omega))) dX12_tells_169 ?_
              refine gz_ev (w := .int ((F 7) (Int32.toNatClampNeg x1))) (congrArg Value.int (congrFun ((hx27.2.2.1 7 (by decide)).trans ((hx26.2.2.1 7 (by decide)).trans ((hx25.2.2.1 7 (by decide)).trans ((hx16.2.2.1 7 (by decide)).trans ((hx2.2.2.1 7 (by decide)).trans (hx1.2.2.1 7 (by decide))))))) _)) ?_
              refine gz_bipush (v := 9) dX12_tells_170 (by decide) ?_
              refine gz_icmp_ne (tgt := 198) dX12_tells_172 (by decide) (fun c_172 => ?_) (fun c_172 => ?_)
              ·
                try simp only [mIn_0, lgc_lt, lgc_gt, lgc_le, lgc_ge, lgc_eq] at c_172
                try simp only [fl_lt, fl_le, fl_eq, fL_w, fL_lt, fL_le, tm1, tm10k, tm9, tm99, Int32.reduceToInt, Int64.reduceToInt, Int.not_lt, Int.not_le] at c_172
                exact gz_vret rfl dX12_tells_198 (Nat.le_of_ble_eq_true rfl) (Nat.le_of_ble_eq_true rfl) (⟨rfl, _, _, _, _, hS_27, (fx_tr (fx_tr (fx_tr (fx_tr (fx_tr (fx_tr fx_rf hx1 (by decide)) hx2 (by decide)) hx16 (by decide)) hx25 (by decide)) hx26 (by decide)) hx27 (by decide)), (by (try rw [(show n_27 88 = (n_27 88) from rfl)]); omega), (by (try rw [(show n_27 88 = (n_27 88) from rfl)]); omega), (by (try rw [(show n_27 88 = (n_27 88) from rfl)]); omega)⟩)
              ·
                try simp only [mIn_0, lgc_lt, lgc_gt, lgc_le, lgc_ge, lgc_eq] at c_172
                try simp only [fl_lt, fl_le, fl_eq, fL_w, fL_lt, fL_le, tm1, tm10k, tm9, tm99, Int32.reduceToInt, Int64.reduceToInt, Int.not_lt, Int.not_le] at c_172
                refine gz_aload_n dX12_tells_175 rfl rfl ?_
                refine gz_iload_n dX12_tells_176 rfl rfl ?_
                refine gz_aload_n dX12_tells_177 rfl rfl ?_
                refine mg_38 hS_27 dX12_tells_178 ?_
                refine gz_iload_n dX12_tells_181 rfl rfl ?_
                refine m_iald 13 hS_27 rfl (N := 880) rfl ((by exact vin_T (rfl : (x1).toInt = (x1).toInt) (by omega) (by omega))) dX12_tells_182 ?_
                refine gz_ev (w := .int ((F 13) (Int32.toNatClampNeg x1))) (congrArg Value.int (congrFun ((hx27.2.2.1 13 (by decide)).trans ((hx26.2.2.1 13 (by decide)).trans ((hx25.2.2.1 13 (by decide)).trans ((hx16.2.2.1 13 (by decide)).trans ((hx2.2.2.1 13 (by decide)).trans (hx1.2.2.1 13 (by decide))))))) _)) ?_
                refine gz_aload_n dX12_tells_183 rfl rfl ?_
                refine mg_41 hS_27 dX12_tells_184 ?_
                refine gz_iload_n dX12_tells_187 rfl rfl ?_
                refine m_iald 14 hS_27 rfl (N := 880) rfl ((by exact vin_T (rfl : (x1).toInt = (x1).toInt) (by omega) (by omega))) dX12_tells_188 ?_
                refine gz_ev (w := .int ((F 14) (Int32.toNatClampNeg x1))) (congrArg Value.int (congrFun ((hx27.2.2.1 14 (by decide)).trans ((hx26.2.2.1 14 (by decide)).trans ((hx25.2.2.1 14 (by decide)).trans ((hx16.2.2.1 14 (by decide)).trans ((hx2.2.2.1 14 (by decide)).trans (hx1.2.2.1 14 (by decide))))))) _)) ?_
                have hxx189 : fx [88, 89] [] [87] [] n z F G n_27 z_27 F_27 G_27 := (fx_tr (fx_tr (fx_tr (fx_tr (fx_tr (fx_tr fx_rf hx1 (by decide)) hx2 (by decide)) hx16 (by decide)) hx25 (by decide)) hx26 (by decide)) hx27 (by decide))
                refine scX12_558 (k_X12_sums (x1 := x1) (x2 := ((F 13) (Int32.toNatClampNeg x1))) (x3 := ((F 14) (Int32.toNatClampNeg x1))) hS_27 (rAll_w (fun k hk => hxx189.2.2.1 k ((by decide : ∀ k : Nat, k ∈ wK → k ∉ ([87] : List Nat)) k hk)) bA) (by omega) (by omega) (by (try rw [(show n_27 88 = (n_27 88) from rfl)]); omega)) hS_27.1 ⟨(Nat.le_of_ble_eq_true rfl), (Nat.le_of_ble_eq_true rfl)⟩ ⟨(Nat.le_of_ble_eq_true rfl), (Nat.le_of_ble_eq_true rfl)⟩ rfl rfl (Nat.le_of_ble_eq_true rfl) dX12_tells_189 ?_
                rintro f_28 ⟨n_28, z_28, F_28, G_28, hS_28, hx28, h8a_28, h8b_28⟩
                refine gz_aload_n dX12_tells_192 rfl rfl ?_
                refine gz_bipush (v := 58) dX12_tells_193 (by decide) ?_
                refine scX12_547 (k_X12_signs (x1 := 58) hS_28 (by (try rw [(show n_28 88 = (n_28 88) from rfl)]); omega)) hS_28.1 ⟨(Nat.le_of_ble_eq_true rfl), (Nat.le_of_ble_eq_true rfl)⟩ ⟨(Nat.le_of_ble_eq_true rfl), (Nat.le_of_ble_eq_true rfl)⟩ rfl rfl (Nat.le_of_ble_eq_true rfl) dX12_tells_195 ?_
                rintro f_29 ⟨n_29, z_29, F_29, G_29, hS_29, hx29, h8_29⟩
                exact gz_vret rfl dX12_tells_198 (Nat.le_of_ble_eq_true rfl) (Nat.le_of_ble_eq_true rfl) (⟨rfl, _, _, _, _, hS_29, (fx_tr (fx_tr (fx_tr (fx_tr (fx_tr (fx_tr (fx_tr (fx_tr fx_rf hx1 (by decide)) hx2 (by decide)) hx16 (by decide)) hx25 (by decide)) hx26 (by decide)) hx27 (by decide)) hx28 (by decide)) hx29 (by decide)), (by (try rw [(show n_29 88 = (n_29 88) from rfl)]); omega), (by (try rw [(show n_29 88 = (n_29 88) from rfl)]); omega), (by (try rw [(show n_29 88 = (n_29 88) from rfl)]); omega)⟩)
      ·
        try simp only [mIn_0, lgc_lt, lgc_gt, lgc_le, lgc_ge, lgc_eq] at c_91
        try simp only [fl_lt, fl_le, fl_eq, fL_w, fL_lt, fL_le, tm1, tm10k, tm9, tm99, Int32.reduceToInt, Int64.reduceToInt, Int.not_lt, Int.not_le] at c_91
        refine gz_aload_n dX12_tells_94 rfl rfl ?_
        refine gz_bipush (v := 60) dX12_tells_95 (by decide) ?_
        refine scX12_547 (k_X12_signs (x1 := 60) hS_2 (by (try rw [(show n_2 88 = (n_2 88) from rfl)]); omega)) hS_2.1 ⟨(Nat.le_of_ble_eq_true rfl), (Nat.le_of_ble_eq_true rfl)⟩ ⟨(Nat.le_of_ble_eq_true rfl), (Nat.le_of_ble_eq_true rfl)⟩ rfl rfl (Nat.le_of_ble_eq_true rfl) dX12_tells_97 ?_
        rintro f_30 ⟨n_30, z_30, F_30, G_30, hS_30, hx30, h8_30⟩
        refine gz_aload_n dX12_tells_100 rfl rfl ?_
        refine mg_47 hS_30 dX12_tells_101 ?_
        refine gz_iload_n dX12_tells_104 rfl rfl ?_
        refine m_iald 16 hS_30 rfl (N := 880) rfl ((by exact vin_T (rfl : (x1).toInt = (x1).toInt) (by omega) (by omega))) dX12_tells_105 ?_
        refine gz_ev (w := .int ((F 16) (Int32.toNatClampNeg x1))) (congrArg Value.int (congrFun ((hx30.2.2.1 16 (by decide)).trans ((hx2.2.2.1 16 (by decide)).trans (hx1.2.2.1 16 (by decide)))) _)) ?_
        refine gz_iconst (v := 2) dX12_tells_106 (by decide) ?_
        refine gz_icmp_le (tgt := 116) dX12_tells_107 (by decide) (fun c_107 => ?_) (fun c_107 => ?_)
        ·
          try simp only [mIn_0, lgc_lt, lgc_gt, lgc_le, lgc_ge, lgc_eq] at c_107
          try simp only [fl_lt, fl_le, fl_eq, fL_w, fL_lt, fL_le, tm1, tm10k, tm9, tm99, Int32.reduceToInt, Int64.reduceToInt, Int.not_lt, Int.not_le] at c_107
          refine gz_aload_n dX12_tells_116 rfl rfl ?_
          refine mg_47 hS_30 dX12_tells_117 ?_
          refine gz_iload_n dX12_tells_120 rfl rfl ?_
          refine m_iald 16 hS_30 rfl (N := 880) rfl ((by exact vin_T (rfl : (x1).toInt = (x1).toInt) (by omega) (by omega))) dX12_tells_121 ?_
          refine gz_ev (w := .int ((F 16) (Int32.toNatClampNeg x1))) (congrArg Value.int (congrFun ((hx30.2.2.1 16 (by decide)).trans ((hx2.2.2.1 16 (by decide)).trans (hx1.2.2.1 16 (by decide)))) _)) ?_
          refine gz_if_le (tgt := 141) dX12_tells_122 (by decide) (fun c_122 => ?_) (fun c_122 => ?_)
          ·
            try simp only [mIn_0, lgc_lt, lgc_gt, lgc_le, lgc_ge, lgc_eq] at c_122
            try simp only [fl_lt, fl_le, fl_eq, fL_w, fL_lt, fL_le, tm1, tm10k, tm9, tm99, Int32.reduceToInt, Int64.reduceToInt, Int.not_lt, Int.not_le] at c_122
            refine gz_aload_n dX12_tells_141 rfl rfl ?_
            refine gz_iload_n dX12_tells_142 rfl rfl ?_
            refine gz_aload_n dX12_tells_143 rfl rfl ?_
            refine mg_41 hS_30 dX12_tells_144 ?_
            refine gz_iload_n dX12_tells_147 rfl rfl ?_
            refine m_iald 14 hS_30 rfl (N := 880) rfl ((by exact vin_T (rfl : (x1).toInt = (x1).toInt) (by omega) (by omega))) dX12_tells_148 ?_
            refine gz_ev (w := .int ((F 14) (Int32.toNatClampNeg x1))) (congrArg Value.int (congrFun ((hx30.2.2.1 14 (by decide)).trans ((hx2.2.2.1 14 (by decide)).trans (hx1.2.2.1 14 (by decide)))) _)) ?_
            refine gz_aload_n dX12_tells_149 rfl rfl ?_
            refine mg_44 hS_30 dX12_tells_150 ?_
            refine gz_iload_n dX12_tells_153 rfl rfl ?_
            refine m_iald 15 hS_30 rfl (N := 880) rfl ((by exact vin_T (rfl : (x1).toInt = (x1).toInt) (by omega) (by omega))) dX12_tells_154 ?_
            refine gz_ev (w := .int ((F 15) (Int32.toNatClampNeg x1))) (congrArg Value.int (congrFun ((hx30.2.2.1 15 (by decide)).trans ((hx2.2.2.1 15 (by decide)).trans (hx1.2.2.1 15 (by decide)))) _)) ?_
            have hxx155 : fx [88, 89] [] [87] [] n z F G n_30 z_30 F_30 G_30 := (fx_tr (fx_tr (fx_tr fx_rf hx1 (by decide)) hx2 (by decide)) hx30 (by decide))
            refine scX12_558 (k_X12_sums (x1 := x1) (x2 := ((F 14) (Int32.toNatClampNeg x1))) (x3 := ((F 15) (Int32.toNatClampNeg x1))) hS_30 (rAll_w (fun k hk => hxx155.2.2.1 k ((by decide : ∀ k : Nat, k ∈ wK → k ∉ ([87] : List Nat)) k hk)) bA) (by omega) (by omega) (by (try rw [(show n_30 88 = (n_30 88) from rfl)]); omega)) hS_30.1 ⟨(Nat.le_of_ble_eq_true rfl), (Nat.le_of_ble_eq_true rfl)⟩ ⟨(Nat.le_of_ble_eq_true rfl), (Nat.le_of_ble_eq_true rfl)⟩ rfl rfl (Nat.le_of_ble_eq_true rfl) dX12_tells_155 ?_
            rintro f_31 ⟨n_31, z_31, F_31, G_31, hS_31, hx31, h8a_31, h8b_31⟩
            refine gz_aload_n dX12_tells_158 rfl rfl ?_
            refine gz_bipush (v := 58) dX12_tells_159 (by decide) ?_
            refine scX12_547 (k_X12_signs (x1 := 58) hS_31 (by (try rw [(show n_31 88 = (n_31 88) from rfl)]); omega)) hS_31.1 ⟨(Nat.le_of_ble_eq_true rfl), (Nat.le_of_ble_eq_true rfl)⟩ ⟨(Nat.le_of_ble_eq_true rfl), (Nat.le_of_ble_eq_true rfl)⟩ rfl rfl (Nat.le_of_ble_eq_true rfl) dX12_tells_161 ?_
            rintro f_32 ⟨n_32, z_32, F_32, G_32, hS_32, hx32, h8_32⟩
            refine gz_aload_n dX12_tells_164 rfl rfl ?_
            refine mg_20 hS_32 dX12_tells_165 ?_
            refine gz_iload_n dX12_tells_168 rfl rfl ?_
            refine m_iald 7 hS_32 rfl (N := 880) rfl ((by exact vin_T (rfl : (x1).toInt = (x1).toInt) (by omega) (by omega))) dX12_tells_169 ?_
            refine gz_ev (w := .int ((F 7) (Int32.toNatClampNeg x1))) (congrArg Value.int (congrFun ((hx32.2.2.1 7 (by decide)).trans ((hx31.2.2.1 7 (by decide)).trans ((hx30.2.2.1 7 (by decide)).trans ((hx2.2.2.1 7 (by decide)).trans (hx1.2.2.1 7 (by decide)))))) _)) ?_
            refine gz_bipush (v := 9) dX12_tells_170 (by decide) ?_
            refine gz_icmp_ne (tgt := 198) dX12_tells_172 (by decide) (fun c_172 => ?_) (fun c_172 => ?_)
            ·
              try simp only [mIn_0, lgc_lt, lgc_gt, lgc_le, lgc_ge, lgc_eq] at c_172
              try simp only [fl_lt, fl_le, fl_eq, fL_w, fL_lt, fL_le, tm1, tm10k, tm9, tm99, Int32.reduceToInt, Int64.reduceToInt, Int.not_lt, Int.not_le] at c_172
              exact gz_vret rfl dX12_tells_198 (Nat.le_of_ble_eq_true rfl) (Nat.le_of_ble_eq_true rfl) (⟨rfl, _, _, _, _, hS_32, (fx_tr (fx_tr (fx_tr (fx_tr (fx_tr fx_rf hx1 (by decide)) hx2 (by decide)) hx30 (by decide)) hx31 (by decide)) hx32 (by decide)), (by (try rw [(show n_32 88 = (n_32 88) from rfl)]); omega), (by (try rw [(show n_32 88 = (n_32 88) from rfl)]); omega), (by (try rw [(show n_32 88 = (n_32 88) from rfl)]); omega)⟩)
            ·
              try simp only [mIn_0, lgc_lt, lgc_gt, lgc_le, lgc_ge, lgc_eq] at c_172
              try simp only [fl_lt, fl_le, fl_eq, fL_w, fL_lt, fL_le, tm1, tm10k, tm9, tm99, Int32.reduceToInt, Int64.reduceToInt, Int.not_lt, Int.not_le] at c_172
              refine gz_aload_n dX12_tells_175 rfl rfl ?_
              refine gz_iload_n dX12_tells_176 rfl rfl ?_
              refine gz_aload_n dX12_tells_177 rfl rfl ?_
              refine mg_38 hS_32 dX12_tells_178 ?_
              refine gz_iload_n dX12_tells_181 rfl rfl ?_
              refine m_iald 13 hS_32 rfl (N := 880) rfl ((by exact vin_T (rfl : (x1).toInt = (x1).toInt) (by omega) (by omega))) dX12_tells_182 ?_
              refine gz_ev (w := .int ((F 13) (Int32.toNatClampNeg x1))) (congrArg Value.int (congrFun ((hx32.2.2.1 13 (by decide)).trans ((hx31.2.2.1 13 (by decide)).trans ((hx30.2.2.1 13 (by decide)).trans ((hx2.2.2.1 13 (by decide)).trans (hx1.2.2.1 13 (by decide)))))) _)) ?_
              refine gz_aload_n dX12_tells_183 rfl rfl ?_
              refine mg_41 hS_32 dX12_tells_184 ?_
              refine gz_iload_n dX12_tells_187 rfl rfl ?_
              refine m_iald 14 hS_32 rfl (N := 880) rfl ((by exact vin_T (rfl : (x1).toInt = (x1).toInt) (by omega) (by omega))) dX12_tells_188 ?_
              refine gz_ev (w := .int ((F 14) (Int32.toNatClampNeg x1))) (congrArg Value.int (congrFun ((hx32.2.2.1 14 (by decide)).trans ((hx31.2.2.1 14 (by decide)).trans ((hx30.2.2.1 14 (by decide)).trans ((hx2.2.2.1 14 (by decide)).trans (hx1.2.2.1 14 (by decide)))))) _)) ?_
              have hxx189 : fx [88, 89] [] [87] [] n z F G n_32 z_32 F_32 G_32 := (fx_tr (fx_tr (fx_tr (fx_tr (fx_tr fx_rf hx1 (by decide)) hx2 (by decide)) hx30 (by decide)) hx31 (by decide)) hx32 (by decide))
              refine scX12_558 (k_X12_sums (x1 := x1) (x2 := ((F 13) (Int32.toNatClampNeg x1))) (x3 := ((F 14) (Int32.toNatClampNeg x1))) hS_32 (rAll_w (fun k hk => hxx189.2.2.1 k ((by decide : ∀ k : Nat, k ∈ wK → k ∉ ([87] : List Nat)) k hk)) bA) (by omega) (by omega) (by (try rw [(show n_32 88 = (n_32 88) from rfl)]); omega)) hS_32.1 ⟨(Nat.le_of_ble_eq_true rfl), (Nat.le_of_ble_eq_true rfl)⟩ ⟨(Nat.le_of_ble_eq_true rfl), (Nat.le_of_ble_eq_true rfl)⟩ rfl rfl (Nat.le_of_ble_eq_true rfl) dX12_tells_189 ?_
              rintro f_33 ⟨n_33, z_33, F_33, G_33, hS_33, hx33, h8a_33, h8b_33⟩
              refine gz_aload_n dX12_tells_192 rfl rfl ?_
              refine gz_bipush (v := 58) dX12_tells_193 (by decide) ?_
              refine scX12_547 (k_X12_signs (x1 := 58) hS_33 (by (try rw [(show n_33 88 = (n_33 88) from rfl)]); omega)) hS_33.1 ⟨(Nat.le_of_ble_eq_true rfl), (Nat.le_of_ble_eq_true rfl)⟩ ⟨(Nat.le_of_ble_eq_true rfl), (Nat.le_of_ble_eq_true rfl)⟩ rfl rfl (Nat.le_of_ble_eq_true rfl) dX12_tells_195 ?_
              rintro f_34 ⟨n_34, z_34, F_34, G_34, hS_34, hx34, h8_34⟩
              exact gz_vret rfl dX12_tells_198 (Nat.le_of_ble_eq_true rfl) (Nat.le_of_ble_eq_true rfl) (⟨rfl, _, _, _, _, hS_34, (fx_tr (fx_tr (fx_tr (fx_tr (fx_tr (fx_tr (fx_tr fx_rf hx1 (by decide)) hx2 (by decide)) hx30 (by decide)) hx31 (by decide)) hx32 (by decide)) hx33 (by decide)) hx34 (by decide)), (by (try rw [(show n_34 88 = (n_34 88) from rfl)]); omega), (by (try rw [(show n_34 88 = (n_34 88) from rfl)]); omega), (by (try rw [(show n_34 88 = (n_34 88) from rfl)]); omega)⟩)
          ·
            try simp only [mIn_0, lgc_lt, lgc_gt, lgc_le, lgc_ge, lgc_eq] at c_122
            try simp only [fl_lt, fl_le, fl_eq, fL_w, fL_lt, fL_le, tm1, tm10k, tm9, tm99, Int32.reduceToInt, Int64.reduceToInt, Int.not_lt, Int.not_le] at c_122
            refine gz_aload_n dX12_tells_125 rfl rfl ?_
            refine mg_47 hS_30 dX12_tells_126 ?_
            refine gz_iload_n dX12_tells_129 rfl rfl ?_
            refine m_iald 16 hS_30 rfl (N := 880) rfl ((by exact vin_T (rfl : (x1).toInt = (x1).toInt) (by omega) (by omega))) dX12_tells_130 ?_
            refine gz_ev (w := .int ((F 16) (Int32.toNatClampNeg x1))) (congrArg Value.int (congrFun ((hx30.2.2.1 16 (by decide)).trans ((hx2.2.2.1 16 (by decide)).trans (hx1.2.2.1 16 (by decide)))) _)) ?_
            refine gz_iconst (v := 4) dX12_tells_131 (by decide) ?_
            refine gz_icmp_ge (tgt := 141) dX12_tells_132 (by decide) (fun c_132 => ?_) (fun c_132 => ?_)
            ·
              try simp only [mIn_0, lgc_lt, lgc_gt, lgc_le, lgc_ge, lgc_eq] at c_132
              try simp only [fl_lt, fl_le, fl_eq, fL_w, fL_lt, fL_le, tm1, tm10k, tm9, tm99, Int32.reduceToInt, Int64.reduceToInt, Int.not_lt, Int.not_le] at c_132
              refine gz_aload_n dX12_tells_141 rfl rfl ?_
              refine gz_iload_n dX12_tells_142 rfl rfl ?_
              refine gz_aload_n dX12_tells_143 rfl rfl ?_
              refine mg_41 hS_30 dX12_tells_144 ?_
              refine gz_iload_n dX12_tells_147 rfl rfl ?_
              refine m_iald 14 hS_30 rfl (N := 880) rfl ((by exact vin_T (rfl : (x1).toInt = (x1).toInt) (by omega) (by omega))) dX12_tells_148 ?_
              refine gz_ev (w := .int ((F 14) (Int32.toNatClampNeg x1))) (congrArg Value.int (congrFun ((hx30.2.2.1 14 (by decide)).trans ((hx2.2.2.1 14 (by decide)).trans (hx1.2.2.1 14 (by decide)))) _)) ?_
              refine gz_aload_n dX12_tells_149 rfl rfl ?_
              refine mg_44 hS_30 dX12_tells_150 ?_
              refine gz_iload_n dX12_tells_153 rfl rfl ?_
              refine m_iald 15 hS_30 rfl (N := 880) rfl ((by exact vin_T (rfl : (x1).toInt = (x1).toInt) (by omega) (by omega))) dX12_tells_154 ?_
              refine gz_ev (w := .int ((F 15) (Int32.toNatClampNeg x1))) (congrArg Value.int (congrFun ((hx30.2.2.1 15 (by decide)).trans ((hx2.2.2.1 15 (by decide)).trans (hx1.2.2.1 15 (by decide)))) _)) ?_
              have hxx155 : fx [88, 89] [] [87] [] n z F G n_30 z_30 F_30 G_30 := (fx_tr (fx_tr (fx_tr fx_rf hx1 (by decide)) hx2 (by decide)) hx30 (by decide))
              refine scX12_558 (k_X12_sums (x1 := x1) (x2 := ((F 14) (Int32.toNatClampNeg x1))) (x3 := ((F 15) (Int32.toNatClampNeg x1))) hS_30 (rAll_w (fun k hk => hxx155.2.2.1 k ((by decide : ∀ k : Nat, k ∈ wK → k ∉ ([87] : List Nat)) k hk)) bA) (by omega) (by omega) (by (try rw [(show n_30 88 = (n_30 88) from rfl)]); omega)) hS_30.1 ⟨(Nat.le_of_ble_eq_true rfl), (Nat.le_of_ble_eq_true rfl)⟩ ⟨(Nat.le_of_ble_eq_true rfl), (Nat.le_of_ble_eq_true rfl)⟩ rfl rfl (Nat.le_of_ble_eq_true rfl) dX12_tells_155 ?_
              rintro f_35 ⟨n_35, z_35, F_35, G_35, hS_35, hx35, h8a_35, h8b_35⟩
              refine gz_aload_n dX12_tells_158 rfl rfl ?_
              refine gz_bipush (v := 58) dX12_tells_159 (by decide) ?_
              refine scX12_547 (k_X12_signs (x1 := 58) hS_35 (by (try rw [(show n_35 88 = (n_35 88) from rfl)]); omega)) hS_35.1 ⟨(Nat.le_of_ble_eq_true rfl), (Nat.le_of_ble_eq_true rfl)⟩ ⟨(Nat.le_of_ble_eq_true rfl), (Nat.le_of_ble_eq_true rfl)⟩ rfl rfl (Nat.le_of_ble_eq_true rfl) dX12_tells_161 ?_
              rintro f_36 ⟨n_36, z_36, F_36, G_36, hS_36, hx36, h8_36⟩
              refine gz_aload_n dX12_tells_164 rfl rfl ?_
              refine mg_20 hS_36 dX12_tells_165 ?_
              refine gz_iload_n dX12_tells_168 rfl rfl ?_
              refine m_iald 7 hS_36 rfl (N := 880) rfl ((by exact vin_T (rfl : (x1).toInt = (x1).toInt) (by omega) (by omega))) dX12_tells_169 ?_
              refine gz_ev (w := .int ((F 7) (Int32.toNatClampNeg x1))) (congrArg Value.int (congrFun ((hx36.2.2.1 7 (by decide)).trans ((hx35.2.2.1 7 (by decide)).trans ((hx30.2.2.1 7 (by decide)).trans ((hx2.2.2.1 7 (by decide)).trans (hx1.2.2.1 7 (by decide)))))) _)) ?_
              refine gz_bipush (v := 9) dX12_tells_170 (by decide) ?_
              refine gz_icmp_ne (tgt := 198) dX12_tells_172 (by decide) (fun c_172 => ?_) (fun c_172 => ?_)
              ·
                try simp only [mIn_0, lgc_lt, lgc_gt, lgc_le, lgc_ge, lgc_eq] at c_172
                try simp only [fl_lt, fl_le, fl_eq, fL_w, fL_lt, fL_le, tm1, tm10k, tm9, tm99, Int32.reduceToInt, Int64.reduceToInt, Int.not_lt, Int.not_le] at c_172
                exact gz_vret rfl dX12_tells_198 (Nat.le_of_ble_eq_true rfl) (Nat.le_of_ble_eq_true rfl) (⟨rfl, _, _, _, _, hS_36, (fx_tr (fx_tr (fx_tr (fx_tr (fx_tr fx_rf hx1 (by decide)) hx2 (by decide)) hx30 (by decide)) hx35 (by decide)) hx36 (by decide)), (by (try rw [(show n_36 88 = (n_36 88) from rfl)]); omega), (by (try rw [(show n_36 88 = (n_36 88) from rfl)]); omega), (by (try rw [(show n_36 88 = (n_36 88) from rfl)]); omega)⟩)
              ·
                try simp only [mIn_0, lgc_lt, lgc_gt, lgc_le, lgc_ge, lgc_eq] at c_172
                try simp only [fl_lt, fl_le, fl_eq, fL_w, fL_lt, fL_le, tm1, tm10k, tm9, tm99, Int32.reduceToInt, Int64.reduceToInt, Int.not_lt, Int.not_le] at c_172
                refine gz_aload_n dX12_tells_175 rfl rfl ?_
                refine gz_iload_n dX12_tells_176 rfl rfl ?_
                refine gz_aload_n dX12_tells_177 rfl rfl ?_
                refine mg_38 hS_36 dX12_tells_178 ?_
                refine gz_iload_n dX12_tells_181 rfl rfl ?_
                refine m_iald 13 hS_36 rfl (N := 880) rfl ((by exact vin_T (rfl : (x1).toInt = (x1).toInt) (by omega) (by omega))) dX12_tells_182 ?_
                refine gz_ev (w := .int ((F 13) (Int32.toNatClampNeg x1))) (congrArg Value.int (congrFun ((hx36.2.2.1 13 (by decide)).trans ((hx35.2.2.1 13 (by decide)).trans ((hx30.2.2.1 13 (by decide)).trans ((hx2.2.2.1 13 (by decide)).trans (hx1.2.2.1 13 (by decide)))))) _)) ?_
                refine gz_aload_n dX12_tells_183 rfl rfl ?_
                refine mg_41 hS_36 dX12_tells_184 ?_
                refine gz_iload_n dX12_tells_187 rfl rfl ?_
                refine m_iald 14 hS_36 rfl (N := 880) rfl ((by exact vin_T (rfl : (x1).toInt = (x1).toInt) (by omega) (by omega))) dX12_tells_188 ?_
                refine gz_ev (w := .int ((F 14) (Int32.toNatClampNeg x1))) (congrArg Value.int (congrFun ((hx36.2.2.1 14 (by decide)).trans ((hx35.2.2.1 14 (by decide)).trans ((hx30.2.2.1 14 (by decide)).trans ((hx2.2.2.1 14 (by decide)).trans (hx1.2.2.1 14 (by decide)))))) _)) ?_
                have hxx189 : fx [88, 89] [] [87] [] n z F G n_36 z_36 F_36 G_36 := (fx_tr (fx_tr (fx_tr (fx_tr (fx_tr fx_rf hx1 (by decide)) hx2 (by decide)) hx30 (by decide)) hx35 (by decide)) hx36 (by decide))
                refine scX12_558 (k_X12_sums (x1 := x1) (x2 := ((F 13) (Int32.toNatClampNeg x1))) (x3 := ((F 14) (Int32.toNatClampNeg x1))) hS_36 (rAll_w (fun k hk => hxx189.2.2.1 k ((by decide : ∀ k : Nat, k ∈ wK → k ∉ ([87] : List Nat)) k hk)) bA) (by omega) (by omega) (by (try rw [(show n_36 88 = (n_36 88) from rfl)]); omega)) hS_36.1 ⟨(Nat.le_of_ble_eq_true rfl), (Nat.le_of_ble_eq_true rfl)⟩ ⟨(Nat.le_of_ble_eq_true rfl), (Nat.le_of_ble_eq_true rfl)⟩ rfl rfl (Nat.le_of_ble_eq_true rfl) dX12_tells_189 ?_
                rintro f_37 ⟨n_37, z_37, F_37, G_37, hS_37, hx37, h8a_37, h8b_37⟩
                refine gz_aload_n dX12_tells_192 rfl rfl ?_
                refine gz_bipush (v := 58) dX12_tells_193 (by decide) ?_
                refine scX12_547 (k_X12_signs (x1 := 58) hS_37 (by (try rw [(show n_37 88 = (n_37 88) from rfl)]); omega)) hS_37.1 ⟨(Nat.le_of_ble_eq_true rfl), (Nat.le_of_ble_eq_true rfl)⟩ ⟨(Nat.le_of_ble_eq_true rfl), (Nat.le_of_ble_eq_true rfl)⟩ rfl rfl (Nat.le_of_ble_eq_true rfl) dX12_tells_195 ?_
                rintro f_38 ⟨n_38, z_38, F_38, G_38, hS_38, hx38, h8_38⟩
                exact gz_vret rfl dX12_tells_198 (Nat.le_of_ble_eq_true rfl) (Nat.le_of_ble_eq_true rfl) (⟨rfl, _, _, _, _, hS_38, (fx_tr (fx_tr (fx_tr (fx_tr (fx_tr (fx_tr (fx_tr fx_rf hx1 (by decide)) hx2 (by decide)) hx30 (by decide)) hx35 (by decide)) hx36 (by decide)) hx37 (by decide)) hx38 (by decide)), (by (try rw [(show n_38 88 = (n_38 88) from rfl)]); omega), (by (try rw [(show n_38 88 = (n_38 88) from rfl)]); omega), (by (try rw [(show n_38 88 = (n_38 88) from rfl)]); omega)⟩)
            ·
              try simp only [mIn_0, lgc_lt, lgc_gt, lgc_le, lgc_ge, lgc_eq] at c_132
              try simp only [fl_lt, fl_le, fl_eq, fL_w, fL_lt, fL_le, tm1, tm10k, tm9, tm99, Int32.reduceToInt, Int64.reduceToInt, Int.not_lt, Int.not_le] at c_132
              refine gz_aload_n dX12_tells_135 rfl rfl ?_
              refine gz_bipush (v := 61) dX12_tells_136 (by decide) ?_
              refine scX12_547 (k_X12_signs (x1 := 61) hS_30 (by (try rw [(show n_30 88 = (n_30 88) from rfl)]); omega)) hS_30.1 ⟨(Nat.le_of_ble_eq_true rfl), (Nat.le_of_ble_eq_true rfl)⟩ ⟨(Nat.le_of_ble_eq_true rfl), (Nat.le_of_ble_eq_true rfl)⟩ rfl rfl (Nat.le_of_ble_eq_true rfl) dX12_tells_138 ?_
              rintro f_39 ⟨n_39, z_39, F_39, G_39, hS_39, hx39, h8_39⟩
              refine gz_aload_n dX12_tells_141 rfl rfl ?_
              refine gz_iload_n dX12_tells_142 rfl rfl ?_
              refine gz_aload_n dX12_tells_143 rfl rfl ?_
              refine mg_41 hS_39 dX12_tells_144 ?_
              refine gz_iload_n dX12_tells_147 rfl rfl ?_
              refine m_iald 14 hS_39 rfl (N := 880) rfl ((by exact vin_T (rfl : (x1).toInt = (x1).toInt) (by omega) (by omega))) dX12_tells_148 ?_
              refine gz_ev (w := .int ((F 14) (Int32.toNatClampNeg x1))) (congrArg Value.int (congrFun ((hx39.2.2.1 14 (by decide)).trans ((hx30.2.2.1 14 (by decide)).trans ((hx2.2.2.1 14 (by decide)).trans (hx1.2.2.1 14 (by decide))))) _)) ?_
              refine gz_aload_n dX12_tells_149 rfl rfl ?_
              refine mg_44 hS_39 dX12_tells_150 ?_
              refine gz_iload_n dX12_tells_153 rfl rfl ?_
              refine m_iald 15 hS_39 rfl (N := 880) rfl ((by exact vin_T (rfl : (x1).toInt = (x1).toInt) (by omega) (by omega))) dX12_tells_154 ?_
              refine gz_ev (w := .int ((F 15) (Int32.toNatClampNeg x1))) (congrArg Value.int (congrFun ((hx39.2.2.1 15 (by decide)).trans ((hx30.2.2.1 15 (by decide)).trans ((hx2.2.2.1 15 (by decide)).trans (hx1.2.2.1 15 (by decide))))) _)) ?_
              have hxx155 : fx [88, 89] [] [87] [] n z F G n_39 z_39 F_39 G_39 := (fx_tr (fx_tr (fx_tr (fx_tr fx_rf hx1 (by decide)) hx2 (by decide)) hx30 (by decide)) hx39 (by decide))
              refine scX12_558 (k_X12_sums (x1 := x1) (x2 := ((F 14) (Int32.toNatClampNeg x1))) (x3 := ((F 15) (Int32.toNatClampNeg x1))) hS_39 (rAll_w (fun k hk => hxx155.2.2.1 k ((by decide : ∀ k : Nat, k ∈ wK → k ∉ ([87] : List Nat)) k hk)) bA) (by omega) (by omega) (by (try rw [(show n_39 88 = (n_39 88) from rfl)]); omega)) hS_39.1 ⟨(Nat.le_of_ble_eq_true rfl), (Nat.le_of_ble_eq_true rfl)⟩ ⟨(Nat.le_of_ble_eq_true rfl), (Nat.le_of_ble_eq_true rfl)⟩ rfl rfl (Nat.le_of_ble_eq_true rfl) dX12_tells_155 ?_
              rintro f_40 ⟨n_40, z_40, F_40, G_40, hS_40, hx40, h8a_40, h8b_40⟩
              refine gz_aload_n dX12_tells_158 rfl rfl ?_
              refine gz_bipush (v := 58) dX12_tells_159 (by decide) ?_
              refine scX12_547 (k_X12_signs (x1 := 58) hS_40 (by (try rw [(show n_40 88 = (n_40 88) from rfl)]); omega)) hS_40.1 ⟨(Nat.le_of_ble_eq_true rfl), (Nat.le_of_ble_eq_true rfl)⟩ ⟨(Nat.le_of_ble_eq_true rfl), (Nat.le_of_ble_eq_true rfl)⟩ rfl rfl (Nat.le_of_ble_eq_true rfl) dX12_tells_161 ?_
              rintro f_41 ⟨n_41, z_41, F_41, G_41, hS_41, hx41, h8_41⟩
              refine gz_aload_n dX12_tells_164 rfl rfl ?_
              refine mg_20 hS_41 dX12_tells_165 ?_
              refine gz_iload_n dX12_tells_168 rfl rfl ?_
              refine m_iald 7 hS_41 rfl (N := 880) rfl ((by exact vin_T (rfl : (x1).toInt = (x1).toInt) (by omega) (by omega))) dX12_tells_169 ?_
              refine gz_ev (w := .int ((F 7) (Int32.toNatClampNeg x1))) (congrArg Value.int (congrFun ((hx41.2.2.1 7 (by decide)).trans ((hx40.2.2.1 7 (by decide)).trans ((hx39.2.2.1 7 (by decide)).trans ((hx30.2.2.1 7 (by decide)).trans ((hx2.2.2.1 7 (by decide)).trans (hx1.2.2.1 7 (by decide))))))) _)) ?_
              refine gz_bipush (v := 9) dX12_tells_170 (by decide) ?_
              refine gz_icmp_ne (tgt := 198) dX12_tells_172 (by decide) (fun c_172 => ?_) (fun c_172 => ?_)
              ·
                try simp only [mIn_0, lgc_lt, lgc_gt, lgc_le, lgc_ge, lgc_eq] at c_172
                try simp only [fl_lt, fl_le, fl_eq, fL_w, fL_lt, fL_le, tm1, tm10k, tm9, tm99, Int32.reduceToInt, Int64.reduceToInt, Int.not_lt, Int.not_le] at c_172
                exact gz_vret rfl dX12_tells_198 (Nat.le_of_ble_eq_true rfl) (Nat.le_of_ble_eq_true rfl) (⟨rfl, _, _, _, _, hS_41, (fx_tr (fx_tr (fx_tr (fx_tr (fx_tr (fx_tr fx_rf hx1 (by decide)) hx2 (by decide)) hx30 (by decide)) hx39 (by decide)) hx40 (by decide)) hx41 (by decide)), (by (try rw [(show n_41 88 = (n_41 88) from rfl)]); omega), (by (try rw [(show n_41 88 = (n_41 88) from rfl)]); omega), (by (try rw [(show n_41 88 = (n_41 88) from rfl)]); omega)⟩)
              ·
                try simp only [mIn_0, lgc_lt, lgc_gt, lgc_le, lgc_ge, lgc_eq] at c_172
                try simp only [fl_lt, fl_le, fl_eq, fL_w, fL_lt, fL_le, tm1, tm10k, tm9, tm99, Int32.reduceToInt, Int64.reduceToInt, Int.not_lt, Int.not_le] at c_172
                refine gz_aload_n dX12_tells_175 rfl rfl ?_
                refine gz_iload_n dX12_tells_176 rfl rfl ?_
                refine gz_aload_n dX12_tells_177 rfl rfl ?_
                refine mg_38 hS_41 dX12_tells_178 ?_
                refine gz_iload_n dX12_tells_181 rfl rfl ?_
                refine m_iald 13 hS_41 rfl (N := 880) rfl ((by exact vin_T (rfl : (x1).toInt = (x1).toInt) (by omega) (by omega))) dX12_tells_182 ?_
                refine gz_ev (w := .int ((F 13) (Int32.toNatClampNeg x1))) (congrArg Value.int (congrFun ((hx41.2.2.1 13 (by decide)).trans ((hx40.2.2.1 13 (by decide)).trans ((hx39.2.2.1 13 (by decide)).trans ((hx30.2.2.1 13 (by decide)).trans ((hx2.2.2.1 13 (by decide)).trans (hx1.2.2.1 13 (by decide))))))) _)) ?_
                refine gz_aload_n dX12_tells_183 rfl rfl ?_
                refine mg_41 hS_41 dX12_tells_184 ?_
                refine gz_iload_n dX12_tells_187 rfl rfl ?_
                refine m_iald 14 hS_41 rfl (N := 880) rfl ((by exact vin_T (rfl : (x1).toInt = (x1).toInt) (by omega) (by omega))) dX12_tells_188 ?_
                refine gz_ev (w := .int ((F 14) (Int32.toNatClampNeg x1))) (congrArg Value.int (congrFun ((hx41.2.2.1 14 (by decide)).trans ((hx40.2.2.1 14 (by decide)).trans ((hx39.2.2.1 14 (by decide)).trans ((hx30.2.2.1 14 (by decide)).trans ((hx2.2.2.1 14 (by decide)).trans (hx1.2.2.1 14 (by decide))))))) _)) ?_
                have hxx189 : fx [88, 89] [] [87] [] n z F G n_41 z_41 F_41 G_41 := (fx_tr (fx_tr (fx_tr (fx_tr (fx_tr (fx_tr fx_rf hx1 (by decide)) hx2 (by decide)) hx30 (by decide)) hx39 (by decide)) hx40 (by decide)) hx41 (by decide))
                refine scX12_558 (k_X12_sums (x1 := x1) (x2 := ((F 13) (Int32.toNatClampNeg x1))) (x3 := ((F 14) (Int32.toNatClampNeg x1))) hS_41 (rAll_w (fun k hk => hxx189.2.2.1 k ((by decide : ∀ k : Nat, k ∈ wK → k ∉ ([87] : List Nat)) k hk)) bA) (by omega) (by omega) (by (try rw [(show n_41 88 = (n_41 88) from rfl)]); omega)) hS_41.1 ⟨(Nat.le_of_ble_eq_true rfl), (Nat.le_of_ble_eq_true rfl)⟩ ⟨(Nat.le_of_ble_eq_true rfl), (Nat.le_of_ble_eq_true rfl)⟩ rfl rfl (Nat.le_of_ble_eq_true rfl) dX12_tells_189 ?_
                rintro f_42 ⟨n_42, z_42, F_42, G_42, hS_42, hx42, h8a_42, h8b_42⟩
                refine gz_aload_n dX12_tells_192 rfl rfl ?_
                refine gz_bipush (v := 58) dX12_tells_193 (by decide) ?_
                refine scX12_547 (k_X12_signs (x1 := 58) hS_42 (by (try rw [(show n_42 88 = (n_42 88) from rfl)]); omega)) hS_42.1 ⟨(Nat.le_of_ble_eq_true rfl), (Nat.le_of_ble_eq_true rfl)⟩ ⟨(Nat.le_of_ble_eq_true rfl), (Nat.le_of_ble_eq_true rfl)⟩ rfl rfl (Nat.le_of_ble_eq_true rfl) dX12_tells_195 ?_
                rintro f_43 ⟨n_43, z_43, F_43, G_43, hS_43, hx43, h8_43⟩
                exact gz_vret rfl dX12_tells_198 (Nat.le_of_ble_eq_true rfl) (Nat.le_of_ble_eq_true rfl) (⟨rfl, _, _, _, _, hS_43, (fx_tr (fx_tr (fx_tr (fx_tr (fx_tr (fx_tr (fx_tr (fx_tr fx_rf hx1 (by decide)) hx2 (by decide)) hx30 (by decide)) hx39 (by decide)) hx40 (by decide)) hx41 (by decide)) hx42 (by decide)) hx43 (by decide)), (by (try rw [(show n_43 88 = (n_43 88) from rfl)]); omega), (by (try rw [(show n_43 88 = (n_43 88) from rfl)]); omega), (by (try rw [(show n_43 88 = (n_43 88) from rfl)]); omega)⟩)
        ·
          try simp only [mIn_0, lgc_lt, lgc_gt, lgc_le, lgc_ge, lgc_eq] at c_107
          try simp only [fl_lt, fl_le, fl_eq, fL_w, fL_lt, fL_le, tm1, tm10k, tm9, tm99, Int32.reduceToInt, Int64.reduceToInt, Int.not_lt, Int.not_le] at c_107
          refine gz_aload_n dX12_tells_110 rfl rfl ?_
          refine gz_bipush (v := 62) dX12_tells_111 (by decide) ?_
          refine scX12_547 (k_X12_signs (x1 := 62) hS_30 (by (try rw [(show n_30 88 = (n_30 88) from rfl)]); omega)) hS_30.1 ⟨(Nat.le_of_ble_eq_true rfl), (Nat.le_of_ble_eq_true rfl)⟩ ⟨(Nat.le_of_ble_eq_true rfl), (Nat.le_of_ble_eq_true rfl)⟩ rfl rfl (Nat.le_of_ble_eq_true rfl) dX12_tells_113 ?_
          rintro f_44 ⟨n_44, z_44, F_44, G_44, hS_44, hx44, h8_44⟩
          refine gz_aload_n dX12_tells_116 rfl rfl ?_
          refine mg_47 hS_44 dX12_tells_117 ?_
          refine gz_iload_n dX12_tells_120 rfl rfl ?_
          refine m_iald 16 hS_44 rfl (N := 880) rfl ((by exact vin_T (rfl : (x1).toInt = (x1).toInt) (by omega) (by omega))) dX12_tells_121 ?_
          refine gz_ev (w := .int ((F 16) (Int32.toNatClampNeg x1))) (congrArg Value.int (congrFun ((hx44.2.2.1 16 (by decide)).trans ((hx30.2.2.1 16 (by decide)).trans ((hx2.2.2.1 16 (by decide)).trans (hx1.2.2.1 16 (by decide))))) _)) ?_
          refine gz_if_le (tgt := 141) dX12_tells_122 (by decide) (fun c_122 => ?_) (fun c_122 => ?_)
          ·
            try simp only [mIn_0, lgc_lt, lgc_gt, lgc_le, lgc_ge, lgc_eq] at c_122
            try simp only [fl_lt, fl_le, fl_eq, fL_w, fL_lt, fL_le, tm1, tm10k, tm9, tm99, Int32.reduceToInt, Int64.reduceToInt, Int.not_lt, Int.not_le] at c_122
            refine gz_aload_n dX12_tells_141 rfl rfl ?_
            refine gz_iload_n dX12_tells_142 rfl rfl ?_
            refine gz_aload_n dX12_tells_143 rfl rfl ?_
            refine mg_41 hS_44 dX12_tells_144 ?_
            refine gz_iload_n dX12_tells_147 rfl rfl ?_
            refine m_iald 14 hS_44 rfl (N := 880) rfl ((by exact vin_T (rfl : (x1).toInt = (x1).toInt) (by omega) (by omega))) dX12_tells_148 ?_
            refine gz_ev (w := .int ((F 14) (Int32.toNatClampNeg x1))) (congrArg Value.int (congrFun ((hx44.2.2.1 14 (by decide)).trans ((hx30.2.2.1 14 (by decide)).trans ((hx2.2.2.1 14 (by decide)).trans (hx1.2.2.1 14 (by decide))))) _)) ?_
            refine gz_aload_n dX12_tells_149 rfl rfl ?_
            refine mg_44 hS_44 dX12_tells_150 ?_
            refine gz_iload_n dX12_tells_153 rfl rfl ?_
            refine m_iald 15 hS_44 rfl (N := 880) rfl ((by exact vin_T (rfl : (x1).toInt = (x1).toInt) (by omega) (by omega))) dX12_tells_154 ?_
            refine gz_ev (w := .int ((F 15) (Int32.toNatClampNeg x1))) (congrArg Value.int (congrFun ((hx44.2.2.1 15 (by decide)).trans ((hx30.2.2.1 15 (by decide)).trans ((hx2.2.2.1 15 (by decide)).trans (hx1.2.2.1 15 (by decide))))) _)) ?_
            have hxx155 : fx [88, 89] [] [87] [] n z F G n_44 z_44 F_44 G_44 := (fx_tr (fx_tr (fx_tr (fx_tr fx_rf hx1 (by decide)) hx2 (by decide)) hx30 (by decide)) hx44 (by decide))
            refine scX12_558 (k_X12_sums (x1 := x1) (x2 := ((F 14) (Int32.toNatClampNeg x1))) (x3 := ((F 15) (Int32.toNatClampNeg x1))) hS_44 (rAll_w (fun k hk => hxx155.2.2.1 k ((by decide : ∀ k : Nat, k ∈ wK → k ∉ ([87] : List Nat)) k hk)) bA) (by omega) (by omega) (by (try rw [(show n_44 88 = (n_44 88) from rfl)]); omega)) hS_44.1 ⟨(Nat.le_of_ble_eq_true rfl), (Nat.le_of_ble_eq_true rfl)⟩ ⟨(Nat.le_of_ble_eq_true rfl), (Nat.le_of_ble_eq_true rfl)⟩ rfl rfl (Nat.le_of_ble_eq_true rfl) dX12_tells_155 ?_
            rintro f_45 ⟨n_45, z_45, F_45, G_45, hS_45, hx45, h8a_45, h8b_45⟩
            refine gz_aload_n dX12_tells_158 rfl rfl ?_
            refine gz_bipush (v := 58) dX12_tells_159 (by decide) ?_
            refine scX12_547 (k_X12_signs (x1 := 58) hS_45 (by (try rw [(show n_45 88 = (n_45 88) from rfl)]); omega)) hS_45.1 ⟨(Nat.le_of_ble_eq_true rfl), (Nat.le_of_ble_eq_true rfl)⟩ ⟨(Nat.le_of_ble_eq_true rfl), (Nat.le_of_ble_eq_true rfl)⟩ rfl rfl (Nat.le_of_ble_eq_true rfl) dX12_tells_161 ?_
            rintro f_46 ⟨n_46, z_46, F_46, G_46, hS_46, hx46, h8_46⟩
            refine gz_aload_n dX12_tells_164 rfl rfl ?_
            refine mg_20 hS_46 dX12_tells_165 ?_
            refine gz_iload_n dX12_tells_168 rfl rfl ?_
            refine m_iald 7 hS_46 rfl (N := 880) rfl ((by exact vin_T (rfl : (x1).toInt = (x1).toInt) (by omega) (by omega))) dX12_tells_169 ?_
            refine gz_ev (w := .int ((F 7) (Int32.toNatClampNeg x1))) (congrArg Value.int (congrFun ((hx46.2.2.1 7 (by decide)).trans ((hx45.2.2.1 7 (by decide)).trans ((hx44.2.2.1 7 (by decide)).trans ((hx30.2.2.1 7 (by decide)).trans ((hx2.2.2.1 7 (by decide)).trans (hx1.2.2.1 7 (by decide))))))) _)) ?_
            refine gz_bipush (v := 9) dX12_tells_170 (by decide) ?_
            refine gz_icmp_ne (tgt := 198) dX12_tells_172 (by decide) (fun c_172 => ?_) (fun c_172 => ?_)
            ·
              try simp only [mIn_0, lgc_lt, lgc_gt, lgc_le, lgc_ge, lgc_eq] at c_172
              try simp only [fl_lt, fl_le, fl_eq, fL_w, fL_lt, fL_le, tm1, tm10k, tm9, tm99, Int32.reduceToInt, Int64.reduceToInt, Int.not_lt, Int.not_le] at c_172
              exact gz_vret rfl dX12_tells_198 (Nat.le_of_ble_eq_true rfl) (Nat.le_of_ble_eq_true rfl) (⟨rfl, _, _, _, _, hS_46, (fx_tr (fx_tr (fx_tr (fx_tr (fx_tr (fx_tr fx_rf hx1 (by decide)) hx2 (by decide)) hx30 (by decide)) hx44 (by decide)) hx45 (by decide)) hx46 (by decide)), (by (try rw [(show n_46 88 = (n_46 88) from rfl)]); omega), (by (try rw [(show n_46 88 = (n_46 88) from rfl)]); omega), (by (try rw [(show n_46 88 = (n_46 88) from rfl)]); omega)⟩)
            ·
              try simp only [mIn_0, lgc_lt, lgc_gt, lgc_le, lgc_ge, lgc_eq] at c_172
              try simp only [fl_lt, fl_le, fl_eq, fL_w, fL_lt, fL_le, tm1, tm10k, tm9, tm99, Int32.reduceToInt, Int64.reduceToInt, Int.not_lt, Int.not_le] at c_172
              refine gz_aload_n dX12_tells_175 rfl rfl ?_
              refine gz_iload_n dX12_tells_176 rfl rfl ?_
              refine gz_aload_n dX12_tells_177 rfl rfl ?_
              refine mg_38 hS_46 dX12_tells_178 ?_
              refine gz_iload_n dX12_tells_181 rfl rfl ?_
              refine m_iald 13 hS_46 rfl (N := 880) rfl ((by exact vin_T (rfl : (x1).toInt = (x1).toInt) (by omega) (by omega))) dX12_tells_182 ?_
              refine gz_ev (w := .int ((F 13) (Int32.toNatClampNeg x1))) (congrArg Value.int (congrFun ((hx46.2.2.1 13 (by decide)).trans ((hx45.2.2.1 13 (by decide)).trans ((hx44.2.2.1 13 (by decide)).trans ((hx30.2.2.1 13 (by decide)).trans ((hx2.2.2.1 13 (by decide)).trans (hx1.2.2.1 13 (by decide))))))) _)) ?_
              refine gz_aload_n dX12_tells_183 rfl rfl ?_
              refine mg_41 hS_46 dX12_tells_184 ?_
              refine gz_iload_n dX12_tells_187 rfl rfl ?_
              refine m_iald 14 hS_46 rfl (N := 880) rfl ((by exact vin_T (rfl : (x1).toInt = (x1).toInt) (by omega) (by omega))) dX12_tells_188 ?_
              refine gz_ev (w := .int ((F 14) (Int32.toNatClampNeg x1))) (congrArg Value.int (congrFun ((hx46.2.2.1 14 (by decide)).trans ((hx45.2.2.1 14 (by decide)).trans ((hx44.2.2.1 14 (by decide)).trans ((hx30.2.2.1 14 (by decide)).trans ((hx2.2.2.1 14 (by decide)).trans (hx1.2.2.1 14 (by decide))))))) _)) ?_
              have hxx189 : fx [88, 89] [] [87] [] n z F G n_46 z_46 F_46 G_46 := (fx_tr (fx_tr (fx_tr (fx_tr (fx_tr (fx_tr fx_rf hx1 (by decide)) hx2 (by decide)) hx30 (by decide)) hx44 (by decide)) hx45 (by decide)) hx46 (by decide))
              refine scX12_558 (k_X12_sums (x1 := x1) (x2 := ((F 13) (Int32.toNatClampNeg x1))) (x3 := ((F 14) (Int32.toNatClampNeg x1))) hS_46 (rAll_w (fun k hk => hxx189.2.2.1 k ((by decide : ∀ k : Nat, k ∈ wK → k ∉ ([87] : List Nat)) k hk)) bA) (by omega) (by omega) (by (try rw [(show n_46 88 = (n_46 88) from rfl)]); omega)) hS_46.1 ⟨(Nat.le_of_ble_eq_true rfl), (Nat.le_of_ble_eq_true rfl)⟩ ⟨(Nat.le_of_ble_eq_true rfl), (Nat.le_of_ble_eq_true rfl)⟩ rfl rfl (Nat.le_of_ble_eq_true rfl) dX12_tells_189 ?_
              rintro f_47 ⟨n_47, z_47, F_47, G_47, hS_47, hx47, h8a_47, h8b_47⟩
              refine gz_aload_n dX12_tells_192 rfl rfl ?_
              refine gz_bipush (v := 58) dX12_tells_193 (by decide) ?_
              refine scX12_547 (k_X12_signs (x1 := 58) hS_47 (by (try rw [(show n_47 88 = (n_47 88) from rfl)]); omega)) hS_47.1 ⟨(Nat.le_of_ble_eq_true rfl), (Nat.le_of_ble_eq_true rfl)⟩ ⟨(Nat.le_of_ble_eq_true rfl), (Nat.le_of_ble_eq_true rfl)⟩ rfl rfl (Nat.le_of_ble_eq_true rfl) dX12_tells_195 ?_
              rintro f_48 ⟨n_48, z_48, F_48, G_48, hS_48, hx48, h8_48⟩
              exact gz_vret rfl dX12_tells_198 (Nat.le_of_ble_eq_true rfl) (Nat.le_of_ble_eq_true rfl) (⟨rfl, _, _, _, _, hS_48, (fx_tr (fx_tr (fx_tr (fx_tr (fx_tr (fx_tr (fx_tr (fx_tr fx_rf hx1 (by decide)) hx2 (by decide)) hx30 (by decide)) hx44 (by decide)) hx45 (by decide)) hx46 (by decide)) hx47 (by decide)) hx48 (by decide)), (by (try rw [(show n_48 88 = (n_48 88) from rfl)]); omega), (by (try rw [(show n_48 88 = (n_48 88) from rfl)]); omega), (by (try rw [(show n_48 88 = (n_48 88) from rfl)]); omega)⟩)
          ·
            try simp only [mIn_0, lgc_lt, lgc_gt, lgc_le, lgc_ge, lgc_eq] at c_122
            try simp only [fl_lt, fl_le, fl_eq, fL_w, fL_lt, fL_le, tm1, tm10k, tm9, tm99, Int32.reduceToInt, Int64.reduceToInt, Int.not_lt, Int.not_le] at c_122
            refine gz_aload_n dX12_tells_125 rfl rfl ?_
            refine mg_47 hS_44 dX12_tells_126 ?_
            refine gz_iload_n dX12_tells_129 rfl rfl ?_
            refine m_iald 16 hS_44 rfl (N := 880) rfl ((by exact vin_T (rfl : (x1).toInt = (x1).toInt) (by omega) (by omega))) dX12_tells_130 ?_
            refine gz_ev (w := .int ((F 16) (Int32.toNatClampNeg x1))) (congrArg Value.int (congrFun ((hx44.2.2.1 16 (by decide)).trans ((hx30.2.2.1 16 (by decide)).trans ((hx2.2.2.1 16 (by decide)).trans (hx1.2.2.1 16 (by decide))))) _)) ?_
            refine gz_iconst (v := 4) dX12_tells_131 (by decide) ?_
            refine gz_icmp_ge (tgt := 141) dX12_tells_132 (by decide) (fun c_132 => ?_) (fun c_132 => ?_)
            ·
              try simp only [mIn_0, lgc_lt, lgc_gt, lgc_le, lgc_ge, lgc_eq] at c_132
              try simp only [fl_lt, fl_le, fl_eq, fL_w, fL_lt, fL_le, tm1, tm10k, tm9, tm99, Int32.reduceToInt, Int64.reduceToInt, Int.not_lt, Int.not_le] at c_132
              refine gz_aload_n dX12_tells_141 rfl rfl ?_
              refine gz_iload_n dX12_tells_142 rfl rfl ?_
              refine gz_aload_n dX12_tells_143 rfl rfl ?_
              refine mg_41 hS_44 dX12_tells_144 ?_
              refine gz_iload_n dX12_tells_147 rfl rfl ?_
              refine m_iald 14 hS_44 rfl (N := 880) rfl ((by exact vin_T (rfl : (x1).toInt = (x1).toInt) (by omega) (by omega))) dX12_tells_148 ?_
              refine gz_ev (w := .int ((F 14) (Int32.toNatClampNeg x1))) (congrArg Value.int (congrFun ((hx44.2.2.1 14 (by decide)).trans ((hx30.2.2.1 14 (by decide)).trans ((hx2.2.2.1 14 (by decide)).trans (hx1.2.2.1 14 (by decide))))) _)) ?_
              refine gz_aload_n dX12_tells_149 rfl rfl ?_
              refine mg_44 hS_44 dX12_tells_150 ?_
              refine gz_iload_n dX12_tells_153 rfl rfl ?_
              refine m_iald 15 hS_44 rfl (N := 880) rfl ((by exact vin_T (rfl : (x1).toInt = (x1).toInt) (by omega) (by omega))) dX12_tells_154 ?_
              refine gz_ev (w := .int ((F 15) (Int32.toNatClampNeg x1))) (congrArg Value.int (congrFun ((hx44.2.2.1 15 (by decide)).trans ((hx30.2.2.1 15 (by decide)).trans ((hx2.2.2.1 15 (by decide)).trans (hx1.2.2.1 15 (by decide))))) _)) ?_
              have hxx155 : fx [88, 89] [] [87] [] n z F G n_44 z_44 F_44 G_44 := (fx_tr (fx_tr (fx_tr (fx_tr fx_rf hx1 (by decide)) hx2 (by decide)) hx30 (by decide)) hx44 (by decide))
              refine scX12_558 (k_X12_sums (x1 := x1) (x2 := ((F 14) (Int32.toNatClampNeg x1))) (x3 := ((F 15) (Int32.toNatClampNeg x1))) hS_44 (rAll_w (fun k hk => hxx155.2.2.1 k ((by decide : ∀ k : Nat, k ∈ wK → k ∉ ([87] : List Nat)) k hk)) bA) (by omega) (by omega) (by (try rw [(show n_44 88 = (n_44 88) from rfl)]); omega)) hS_44.1 ⟨(Nat.le_of_ble_eq_true rfl), (Nat.le_of_ble_eq_true rfl)⟩ ⟨(Nat.le_of_ble_eq_true rfl), (Nat.le_of_ble_eq_true rfl)⟩ rfl rfl (Nat.le_of_ble_eq_true rfl) dX12_tells_155 ?_
              rintro f_49 ⟨n_49, z_49, F_49, G_49, hS_49, hx49, h8a_49, h8b_49⟩
              refine gz_aload_n dX12_tells_158 rfl rfl ?_
              refine gz_bipush (v := 58) dX12_tells_159 (by decide) ?_
              refine scX12_547 (k_X12_signs (x1 := 58) hS_49 (by (try rw [(show n_49 88 = (n_49 88) from rfl)]); omega)) hS_49.1 ⟨(Nat.le_of_ble_eq_true rfl), (Nat.le_of_ble_eq_true rfl)⟩ ⟨(Nat.le_of_ble_eq_true rfl), (Nat.le_of_ble_eq_true rfl)⟩ rfl rfl (Nat.le_of_ble_eq_true rfl) dX12_tells_161 ?_
              rintro f_50 ⟨n_50, z_50, F_50, G_50, hS_50, hx50, h8_50⟩
              refine gz_aload_n dX12_tells_164 rfl rfl ?_
              refine mg_20 hS_50 dX12_tells_165 ?_
              refine gz_iload_n dX12_tells_168 rfl rfl ?_
              refine m_iald 7 hS_50 rfl (N := 880) rfl ((by exact vin_T (rfl : (x1).toInt = (x1).toInt) (by omega) (by omega))) dX12_tells_169 ?_
              refine gz_ev (w := .int ((F 7) (Int32.toNatClampNeg x1))) (congrArg Value.int (congrFun ((hx50.2.2.1 7 (by decide)).trans ((hx49.2.2.1 7 (by decide)).trans ((hx44.2.2.1 7 (by decide)).trans ((hx30.2.2.1 7 (by decide)).trans ((hx2.2.2.1 7 (by decide)).trans (hx1.2.2.1 7 (by decide))))))) _)) ?_
              refine gz_bipush (v := 9) dX12_tells_170 (by decide) ?_
              refine gz_icmp_ne (tgt := 198) dX12_tells_172 (by decide) (fun c_172 => ?_) (fun c_172 => ?_)
              ·
                try simp only [mIn_0, lgc_lt, lgc_gt, lgc_le, lgc_ge, lgc_eq] at c_172
                try simp only [fl_lt, fl_le, fl_eq, fL_w, fL_lt, fL_le, tm1, tm10k, tm9, tm99, Int32.reduceToInt, Int64.reduceToInt, Int.not_lt, Int.not_le] at c_172
                exact gz_vret rfl dX12_tells_198 (Nat.le_of_ble_eq_true rfl) (Nat.le_of_ble_eq_true rfl) (⟨rfl, _, _, _, _, hS_50, (fx_tr (fx_tr (fx_tr (fx_tr (fx_tr (fx_tr fx_rf hx1 (by decide)) hx2 (by decide)) hx30 (by decide)) hx44 (by decide)) hx49 (by decide)) hx50 (by decide)), (by (try rw [(show n_50 88 = (n_50 88) from rfl)]); omega), (by (try rw [(show n_50 88 = (n_50 88) from rfl)]); omega), (by (try rw [(show n_50 88 = (n_50 88) from rfl)]); omega)⟩)
              ·
                try simp only [mIn_0, lgc_lt, lgc_gt, lgc_le, lgc_ge, lgc_eq] at c_172
                try simp only [fl_lt, fl_le, fl_eq, fL_w, fL_lt, fL_le, tm1, tm10k, tm9, tm99, Int32.reduceToInt, Int64.reduceToInt, Int.not_lt, Int.not_le] at c_172
                refine gz_aload_n dX12_tells_175 rfl rfl ?_
                refine gz_iload_n dX12_tells_176 rfl rfl ?_
                refine gz_aload_n dX12_tells_177 rfl rfl ?_
                refine mg_38 hS_50 dX12_tells_178 ?_
                refine gz_iload_n dX12_tells_181 rfl rfl ?_
                refine m_iald 13 hS_50 rfl (N := 880) rfl ((by exact vin_T (rfl : (x1).toInt = (x1).toInt) (by omega) (by omega))) dX12_tells_182 ?_
                refine gz_ev (w := .int ((F 13) (Int32.toNatClampNeg x1))) (congrArg Value.int (congrFun ((hx50.2.2.1 13 (by decide)).trans ((hx49.2.2.1 13 (by decide)).trans ((hx44.2.2.1 13 (by decide)).trans ((hx30.2.2.1 13 (by decide)).trans ((hx2.2.2.1 13 (by decide)).trans (hx1.2.2.1 13 (by decide))))))) _)) ?_
                refine gz_aload_n dX12_tells_183 rfl rfl ?_
                refine mg_41 hS_50 dX12_tells_184 ?_
                refine gz_iload_n dX12_tells_187 rfl rfl ?_
                refine m_iald 14 hS_50 rfl (N := 880) rfl ((by exact vin_T (rfl : (x1).toInt = (x1).toInt) (by omega) (by omega))) dX12_tells_188 ?_
                refine gz_ev (w := .int ((F 14) (Int32.toNatClampNeg x1))) (congrArg Value.int (congrFun ((hx50.2.2.1 14 (by decide)).trans ((hx49.2.2.1 14 (by decide)).trans ((hx44.2.2.1 14 (by decide)).trans ((hx30.2.2.1 14 (by decide)).trans ((hx2.2.2.1 14 (by decide)).trans (hx1.2.2.1 14 (by decide))))))) _)) ?_
                have hxx189 : fx [88, 89] [] [87] [] n z F G n_50 z_50 F_50 G_50 := (fx_tr (fx_tr (fx_tr (fx_tr (fx_tr (fx_tr fx_rf hx1 (by decide)) hx2 (by decide)) hx30 (by decide)) hx44 (by decide)) hx49 (by decide)) hx50 (by decide))
                refine scX12_558 (k_X12_sums (x1 := x1) (x2 := ((F 13) (Int32.toNatClampNeg x1))) (x3 := ((F 14) (Int32.toNatClampNeg x1))) hS_50 (rAll_w (fun k hk => hxx189.2.2.1 k ((by decide : ∀ k : Nat, k ∈ wK → k ∉ ([87] : List Nat)) k hk)) bA) (by omega) (by omega) (by (try rw [(show n_50 88 = (n_50 88) from rfl)]); omega)) hS_50.1 ⟨(Nat.le_of_ble_eq_true rfl), (Nat.le_of_ble_eq_true rfl)⟩ ⟨(Nat.le_of_ble_eq_true rfl), (Nat.le_of_ble_eq_true rfl)⟩ rfl rfl (Nat.le_of_ble_eq_true rfl) dX12_tells_189 ?_
                rintro f_51 ⟨n_51, z_51, F_51, G_51, hS_51, hx51, h8a_51, h8b_51⟩
                refine gz_aload_n dX12_tells_192 rfl rfl ?_
                refine gz_bipush (v := 58) dX12_tells_193 (by decide) ?_
                refine scX12_547 (k_X12_signs (x1 := 58) hS_51 (by (try rw [(show n_51 88 = (n_51 88) from rfl)]); omega)) hS_51.1 ⟨(Nat.le_of_ble_eq_true rfl), (Nat.le_of_ble_eq_true rfl)⟩ ⟨(Nat.le_of_ble_eq_true rfl), (Nat.le_of_ble_eq_true rfl)⟩ rfl rfl (Nat.le_of_ble_eq_true rfl) dX12_tells_195 ?_
                rintro f_52 ⟨n_52, z_52, F_52, G_52, hS_52, hx52, h8_52⟩
                exact gz_vret rfl dX12_tells_198 (Nat.le_of_ble_eq_true rfl) (Nat.le_of_ble_eq_true rfl) (⟨rfl, _, _, _, _, hS_52, (fx_tr (fx_tr (fx_tr (fx_tr (fx_tr (fx_tr (fx_tr (fx_tr fx_rf hx1 (by decide)) hx2 (by decide)) hx30 (by decide)) hx44 (by decide)) hx49 (by decide)) hx50 (by decide)) hx51 (by decide)) hx52 (by decide)), (by (try rw [(show n_52 88 = (n_52 88) from rfl)]); omega), (by (try rw [(show n_52 88 = (n_52 88) from rfl)]); omega), (by (try rw [(show n_52 88 = (n_52 88) from rfl)]); omega)⟩)
            ·
              try simp only [mIn_0, lgc_lt, lgc_gt, lgc_le, lgc_ge, lgc_eq] at c_132
              try simp only [fl_lt, fl_le, fl_eq, fL_w, fL_lt, fL_le, tm1, tm10k, tm9, tm99, Int32.reduceToInt, Int64.reduceToInt, Int.not_lt, Int.not_le] at c_132
              refine gz_aload_n dX12_tells_135 rfl rfl ?_
              refine gz_bipush (v := 61) dX12_tells_136 (by decide) ?_
              refine scX12_547 (k_X12_signs (x1 := 61) hS_44 (by (try rw [(show n_44 88 = (n_44 88) from rfl)]); omega)) hS_44.1 ⟨(Nat.le_of_ble_eq_true rfl), (Nat.le_of_ble_eq_true rfl)⟩ ⟨(Nat.le_of_ble_eq_true rfl), (Nat.le_of_ble_eq_true rfl)⟩ rfl rfl (Nat.le_of_ble_eq_true rfl) dX12_tells_138 ?_
              rintro f_53 ⟨n_53, z_53, F_53, G_53, hS_53, hx53, h8_53⟩
              refine gz_aload_n dX12_tells_141 rfl rfl ?_
              refine gz_iload_n dX12_tells_142 rfl rfl ?_
              refine gz_aload_n dX12_tells_143 rfl rfl ?_
              refine mg_41 hS_53 dX12_tells_144 ?_
              refine gz_iload_n dX12_tells_147 rfl rfl ?_
              refine m_iald 14 hS_53 rfl (N := 880) rfl ((by exact vin_T (rfl : (x1).toInt = (x1).toInt) (by omega) (by omega))) dX12_tells_148 ?_
              refine gz_ev (w := .int ((F 14) (Int32.toNatClampNeg x1))) (congrArg Value.int (congrFun ((hx53.2.2.1 14 (by decide)).trans ((hx44.2.2.1 14 (by decide)).trans ((hx30.2.2.1 14 (by decide)).trans ((hx2.2.2.1 14 (by decide)).trans (hx1.2.2.1 14 (by decide)))))) _)) ?_
              refine gz_aload_n dX12_tells_149 rfl rfl ?_
              refine mg_44 hS_53 dX12_tells_150 ?_
              refine gz_iload_n dX12_tells_153 rfl rfl ?_
              refine m_iald 15 hS_53 rfl (N := 880) rfl ((by exact vin_T (rfl : (x1).toInt = (x1).toInt) (by omega) (by omega))) dX12_tells_154 ?_
              refine gz_ev (w := .int ((F 15) (Int32.toNatClampNeg x1))) (congrArg Value.int (congrFun ((hx53.2.2.1 15 (by decide)).trans ((hx44.2.2.1 15 (by decide)).trans ((hx30.2.2.1 15 (by decide)).trans ((hx2.2.2.1 15 (by decide)).trans (hx1.2.2.1 15 (by decide)))))) _)) ?_
              have hxx155 : fx [88, 89] [] [87] [] n z F G n_53 z_53 F_53 G_53 := (fx_tr (fx_tr (fx_tr (fx_tr (fx_tr fx_rf hx1 (by decide)) hx2 (by decide)) hx30 (by decide)) hx44 (by decide)) hx53 (by decide))
              refine scX12_558 (k_X12_sums (x1 := x1) (x2 := ((F 14) (Int32.toNatClampNeg x1))) (x3 := ((F 15) (Int32.toNatClampNeg x1))) hS_53 (rAll_w (fun k hk => hxx155.2.2.1 k ((by decide : ∀ k : Nat, k ∈ wK → k ∉ ([87] : List Nat)) k hk)) bA) (by omega) (by omega) (by (try rw [(show n_53 88 = (n_53 88) from rfl)]); omega)) hS_53.1 ⟨(Nat.le_of_ble_eq_true rfl), (Nat.le_of_ble_eq_true rfl)⟩ ⟨(Nat.le_of_ble_eq_true rfl), (Nat.le_of_ble_eq_true rfl)⟩ rfl rfl (Nat.le_of_ble_eq_true rfl) dX12_tells_155 ?_
              rintro f_54 ⟨n_54, z_54, F_54, G_54, hS_54, hx54, h8a_54, h8b_54⟩
              refine gz_aload_n dX12_tells_158 rfl rfl ?_
              refine gz_bipush (v := 58) dX12_tells_159 (by decide) ?_
              refine scX12_547 (k_X12_signs (x1 := 58) hS_54 (by (try rw [(show n_54 88 = (n_54 88) from rfl)]); omega)) hS_54.1 ⟨(Nat.le_of_ble_eq_true rfl), (Nat.le_of_ble_eq_true rfl)⟩ ⟨(Nat.le_of_ble_eq_true rfl), (Nat.le_of_ble_eq_true rfl)⟩ rfl rfl (Nat.le_of_ble_eq_true rfl) dX12_tells_161 ?_
              rintro f_55 ⟨n_55, z_55, F_55, G_55, hS_55, hx55, h8_55⟩
              refine gz_aload_n dX12_tells_164 rfl rfl ?_
              refine mg_20 hS_55 dX12_tells_165 ?_
              refine gz_iload_n dX12_tells_168 rfl rfl ?_
              refine m_iald 7 hS_55 rfl (N := 880) rfl ((by exact vin_T (rfl : (x1).toInt = (x1).toInt) (by omega) (by omega))) dX12_tells_169 ?_
              refine gz_ev (w := .int ((F 7) (Int32.toNatClampNeg x1))) (congrArg Value.int (congrFun ((hx55.2.2.1 7 (by decide)).trans ((hx54.2.2.1 7 (by decide)).trans ((hx53.2.2.1 7 (by decide)).trans ((hx44.2.2.1 7 (by decide)).trans ((hx30.2.2.1 7 (by decide)).trans ((hx2.2.2.1 7 (by decide)).trans (hx1.2.2.1 7 (by decide)))))))) _)) ?_
              refine gz_bipush (v := 9) dX12_tells_170 (by decide) ?_
              refine gz_icmp_ne (tgt := 198) dX12_tells_172 (by decide) (fun c_172 => ?_) (fun c_172 => ?_)
              ·
                try simp only [mIn_0, lgc_lt, lgc_gt, lgc_le, lgc_ge, lgc_eq] at c_172
                try simp only [fl_lt, fl_le, fl_eq, fL_w, fL_lt, fL_le, tm1, tm10k, tm9, tm99, Int32.reduceToInt, Int64.reduceToInt, Int.not_lt, Int.not_le] at c_172
                exact gz_vret rfl dX12_tells_198 (Nat.le_of_ble_eq_true rfl) (Nat.le_of_ble_eq_true rfl) (⟨rfl, _, _, _, _, hS_55, (fx_tr (fx_tr (fx_tr (fx_tr (fx_tr (fx_tr (fx_tr fx_rf hx1 (by decide)) hx2 (by decide)) hx30 (by decide)) hx44 (by decide)) hx53 (by decide)) hx54 (by decide)) hx55 (by decide)), (by (try rw [(show n_55 88 = (n_55 88) from rfl)]); omega), (by (try rw [(show n_55 88 = (n_55 88) from rfl)]); omega), (by (try rw [(show n_55 88 = (n_55 88) from rfl)]); omega)⟩)
              ·
                try simp only [mIn_0, lgc_lt, lgc_gt, lgc_le, lgc_ge, lgc_eq] at c_172
                try simp only [fl_lt, fl_le, fl_eq, fL_w, fL_lt, fL_le, tm1, tm10k, tm9, tm99, Int32.reduceToInt, Int64.reduceToInt, Int.not_lt, Int.not_le] at c_172
                refine gz_aload_n dX12_tells_175 rfl rfl ?_
                refine gz_iload_n dX12_tells_176 rfl rfl ?_
                refine gz_aload_n dX12_tells_177 rfl rfl ?_
                refine mg_38 hS_55 dX12_tells_178 ?_
                refine gz_iload_n dX12_tells_181 rfl rfl ?_
                refine m_iald 13 hS_55 rfl (N := 880) rfl ((by exact vin_T (rfl : (x1).toInt = (x1).toInt) (by omega) (by omega))) dX12_tells_182 ?_
                refine gz_ev (w := .int ((F 13) (Int32.toNatClampNeg x1))) (congrArg Value.int (congrFun ((hx55.2.2.1 13 (by decide)).trans ((hx54.2.2.1 13 (by decide)).trans ((hx53.2.2.1 13 (by decide)).trans ((hx44.2.2.1 13 (by decide)).trans ((hx30.2.2.1 13 (by decide)).trans ((hx2.2.2.1 13 (by decide)).trans (hx1.2.2.1 13 (by decide)))))))) _)) ?_
                refine gz_aload_n dX12_tells_183 rfl rfl ?_
                refine mg_41 hS_55 dX12_tells_184 ?_
                refine gz_iload_n dX12_tells_187 rfl rfl ?_
                refine m_iald 14 hS_55 rfl (N := 880) rfl ((by exact vin_T (rfl : (x1).toInt = (x1).toInt) (by omega) (by omega))) dX12_tells_188 ?_
                refine gz_ev (w := .int ((F 14) (Int32.toNatClampNeg x1))) (congrArg Value.int (congrFun ((hx55.2.2.1 14 (by decide)).trans ((hx54.2.2.1 14 (by decide)).trans ((hx53.2.2.1 14 (by decide)).trans ((hx44.2.2.1 14 (by decide)).trans ((hx30.2.2.1 14 (by decide)).trans ((hx2.2.2.1 14 (by decide)).trans (hx1.2.2.1 14 (by decide)))))))) _)) ?_
                have hxx189 : fx [88, 89] [] [87] [] n z F G n_55 z_55 F_55 G_55 := (fx_tr (fx_tr (fx_tr (fx_tr (fx_tr (fx_tr (fx_tr fx_rf hx1 (by decide)) hx2 (by decide)) hx30 (by decide)) hx44 (by decide)) hx53 (by decide)) hx54 (by decide)) hx55 (by decide))
                refine scX12_558 (k_X12_sums (x1 := x1) (x2 := ((F 13) (Int32.toNatClampNeg x1))) (x3 := ((F 14) (Int32.toNatClampNeg x1))) hS_55 (rAll_w (fun k hk => hxx189.2.2.1 k ((by decide : ∀ k : Nat, k ∈ wK → k ∉ ([87] : List Nat)) k hk)) bA) (by omega) (by omega) (by (try rw [(show n_55 88 = (n_55 88) from rfl)]); omega)) hS_55.1 ⟨(Nat.le_of_ble_eq_true rfl), (Nat.le_of_ble_eq_true rfl)⟩ ⟨(Nat.le_of_ble_eq_true rfl), (Nat.le_of_ble_eq_true rfl)⟩ rfl rfl (Nat.le_of_ble_eq_true rfl) dX12_tells_189 ?_
                rintro f_56 ⟨n_56, z_56, F_56, G_56, hS_56, hx56, h8a_56, h8b_56⟩
                refine gz_aload_n dX12_tells_192 rfl rfl ?_
                refine gz_bipush (v := 58) dX12_tells_193 (by decide) ?_
                refine scX12_547 (k_X12_signs (x1 := 58) hS_56 (by (try rw [(show n_56 88 = (n_56 88) from rfl)]); omega)) hS_56.1 ⟨(Nat.le_of_ble_eq_true rfl), (Nat.le_of_ble_eq_true rfl)⟩ ⟨(Nat.le_of_ble_eq_true rfl), (Nat.le_of_ble_eq_true rfl)⟩ rfl rfl (Nat.le_of_ble_eq_true rfl) dX12_tells_195 ?_
                rintro f_57 ⟨n_57, z_57, F_57, G_57, hS_57, hx57, h8_57⟩
                exact gz_vret rfl dX12_tells_198 (Nat.le_of_ble_eq_true rfl) (Nat.le_of_ble_eq_true rfl) (⟨rfl, _, _, _, _, hS_57, (fx_tr (fx_tr (fx_tr (fx_tr (fx_tr (fx_tr (fx_tr (fx_tr (fx_tr fx_rf hx1 (by decide)) hx2 (by decide)) hx30 (by decide)) hx44 (by decide)) hx53 (by decide)) hx54 (by decide)) hx55 (by decide)) hx56 (by decide)) hx57 (by decide)), (by (try rw [(show n_57 88 = (n_57 88) from rfl)]); omega), (by (try rw [(show n_57 88 = (n_57 88) from rfl)]); omega), (by (try rw [(show n_57 88 = (n_57 88) from rfl)]); omega)⟩)
    ·
      try simp only [mIn_0, lgc_lt, lgc_gt, lgc_le, lgc_ge, lgc_eq] at c_42
      try simp only [fl_lt, fl_le, fl_eq, fL_w, fL_lt, fL_le, tm1, tm10k, tm9, tm99, Int32.reduceToInt, Int64.reduceToInt, Int.not_lt, Int.not_le] at c_42
      refine gz_aload_n dX12_tells_45 rfl rfl ?_
      refine mg_20 hS_1 dX12_tells_46 ?_
      refine gz_iload_n dX12_tells_49 rfl rfl ?_
      refine m_iald 7 hS_1 rfl (N := 880) rfl ((by exact vin_T (rfl : (x1).toInt = (x1).toInt) (by omega) (by omega))) dX12_tells_50 ?_
      refine gz_ev (w := .int ((F 7) (Int32.toNatClampNeg x1))) (congrArg Value.int (congrFun (hx1.2.2.1 7 (by decide)) _)) ?_
      refine gz_bipush (v := 7) dX12_tells_51 (by decide) ?_
      refine gz_icmp_eq (tgt := 67) dX12_tells_53 (by decide) (fun c_53 => ?_) (fun c_53 => ?_)
      ·
        try simp only [mIn_0, lgc_lt, lgc_gt, lgc_le, lgc_ge, lgc_eq] at c_53
        try simp only [fl_lt, fl_le, fl_eq, fL_w, fL_lt, fL_le, tm1, tm10k, tm9, tm99, Int32.reduceToInt, Int64.reduceToInt, Int.not_lt, Int.not_le] at c_53
        refine gz_aload_n dX12_tells_67 rfl rfl ?_
        refine gz_iload_n dX12_tells_68 rfl rfl ?_
        refine gz_aload_n dX12_tells_69 rfl rfl ?_
        refine mg_38 hS_1 dX12_tells_70 ?_
        refine gz_iload_n dX12_tells_73 rfl rfl ?_
        refine m_iald 13 hS_1 rfl (N := 880) rfl ((by exact vin_T (rfl : (x1).toInt = (x1).toInt) (by omega) (by omega))) dX12_tells_74 ?_
        refine gz_ev (w := .int ((F 13) (Int32.toNatClampNeg x1))) (congrArg Value.int (congrFun (hx1.2.2.1 13 (by decide)) _)) ?_
        refine gz_aload_n dX12_tells_75 rfl rfl ?_
        refine mg_41 hS_1 dX12_tells_76 ?_
        refine gz_iload_n dX12_tells_79 rfl rfl ?_
        refine m_iald 14 hS_1 rfl (N := 880) rfl ((by exact vin_T (rfl : (x1).toInt = (x1).toInt) (by omega) (by omega))) dX12_tells_80 ?_
        refine gz_ev (w := .int ((F 14) (Int32.toNatClampNeg x1))) (congrArg Value.int (congrFun (hx1.2.2.1 14 (by decide)) _)) ?_
        have hxx81 : fx [88, 89] [] [87] [] n z F G n_1 z_1 F_1 G_1 := (fx_tr fx_rf hx1 (by decide))
        refine scX12_558 (k_X12_sums (x1 := x1) (x2 := ((F 13) (Int32.toNatClampNeg x1))) (x3 := ((F 14) (Int32.toNatClampNeg x1))) hS_1 (rAll_w (fun k hk => hxx81.2.2.1 k ((by decide : ∀ k : Nat, k ∈ wK → k ∉ ([87] : List Nat)) k hk)) bA) (by omega) (by omega) (by (try rw [(show n_1 88 = (n_1 88) from rfl)]); omega)) hS_1.1 ⟨(Nat.le_of_ble_eq_true rfl), (Nat.le_of_ble_eq_true rfl)⟩ ⟨(Nat.le_of_ble_eq_true rfl), (Nat.le_of_ble_eq_true rfl)⟩ rfl rfl (Nat.le_of_ble_eq_true rfl) dX12_tells_81 ?_
        rintro f_58 ⟨n_58, z_58, F_58, G_58, hS_58, hx58, h8a_58, h8b_58⟩
        refine gz_aload_n dX12_tells_84 rfl rfl ?_
        refine mg_47 hS_58 dX12_tells_85 ?_
        refine gz_iload_n dX12_tells_88 rfl rfl ?_
        refine m_iald 16 hS_58 rfl (N := 880) rfl ((by exact vin_T (rfl : (x1).toInt = (x1).toInt) (by omega) (by omega))) dX12_tells_89 ?_
        refine gz_ev (w := .int ((F 16) (Int32.toNatClampNeg x1))) (congrArg Value.int (congrFun ((hx58.2.2.1 16 (by decide)).trans (hx1.2.2.1 16 (by decide))) _)) ?_
        refine gz_iconst (v := 2) dX12_tells_90 (by decide) ?_
        refine gz_icmp_ge (tgt := 100) dX12_tells_91 (by decide) (fun c_91 => ?_) (fun c_91 => ?_)
        ·
          try simp only [mIn_0, lgc_lt, lgc_gt, lgc_le, lgc_ge, lgc_eq] at c_91
          try simp only [fl_lt, fl_le, fl_eq, fL_w, fL_lt, fL_le, tm1, tm10k, tm9, tm99, Int32.reduceToInt, Int64.reduceToInt, Int.not_lt, Int.not_le] at c_91
          refine gz_aload_n dX12_tells_100 rfl rfl ?_
          refine mg_47 hS_58 dX12_tells_101 ?_
          refine gz_iload_n dX12_tells_104 rfl rfl ?_
          refine m_iald 16 hS_58 rfl (N := 880) rfl ((by exact vin_T (rfl : (x1).toInt = (x1).toInt) (by omega) (by omega))) dX12_tells_105 ?_
          refine gz_ev (w := .int ((F 16) (Int32.toNatClampNeg x1))) (congrArg Value.int (congrFun ((hx58.2.2.1 16 (by decide)).trans (hx1.2.2.1 16 (by decide))) _)) ?_
          refine gz_iconst (v := 2) dX12_tells_106 (by decide) ?_
          refine gz_icmp_le (tgt := 116) dX12_tells_107 (by decide) (fun c_107 => ?_) (fun c_107 => ?_)
          ·
            try simp only [mIn_0, lgc_lt, lgc_gt, lgc_le, lgc_ge, lgc_eq] at c_107
            try simp only [fl_lt, fl_le, fl_eq, fL_w, fL_lt, fL_le, tm1, tm10k, tm9, tm99, Int32.reduceToInt, Int64.reduceToInt, Int.not_lt, Int.not_le] at c_107
            refine gz_aload_n dX12_tells_116 rfl rfl ?_
            refine mg_47 hS_58 dX12_tells_117 ?_
            refine gz_iload_n dX12_tells_120 rfl rfl ?_
            refine m_iald 16 hS_58 rfl (N := 880) rfl ((by exact vin_T (rfl : (x1).toInt = (x1).toInt) (by omega) (by omega))) dX12_tells_121 ?_
            refine gz_ev (w := .int ((F 16) (Int32.toNatClampNeg x1))) (congrArg Value.int (congrFun ((hx58.2.2.1 16 (by decide)).trans (hx1.2.2.1 16 (by decide))) _)) ?_
            refine gz_if_le (tgt := 141) dX12_tells_122 (by decide) (fun c_122 => ?_) (fun c_122 => ?_)
            ·
              try simp only [mIn_0, lgc_lt, lgc_gt, lgc_le, lgc_ge, lgc_eq] at c_122
              try simp only [fl_lt, fl_le, fl_eq, fL_w, fL_lt, fL_le, tm1, tm10k, tm9, tm99, Int32.reduceToInt, Int64.reduceToInt, Int.not_lt, Int.not_le] at c_122
              refine gz_aload_n dX12_tells_141 rfl rfl ?_
              refine gz_iload_n dX12_tells_142 rfl rfl ?_
              refine gz_aload_n dX12_tells_143 rfl rfl ?_
              refine mg_41 hS_58 dX12_tells_144 ?_
              refine gz_iload_n dX12_tells_147 rfl rfl ?_
              refine m_iald 14 hS_58 rfl (N := 880) rfl ((by exact vin_T (rfl : (x1).toInt = (x1).toInt) (by omega) (by omega))) dX12_tells_148 ?_
              refine gz_ev (w := .int ((F 14) (Int32.toNatClampNeg x1))) (congrArg Value.int (congrFun ((hx58.2.2.1 14 (by decide)).trans (hx1.2.2.1 14 (by decide))) _)) ?_
              refine gz_aload_n dX12_tells_149 rfl rfl ?_
              refine mg_44 hS_58 dX12_tells_150 ?_
              refine gz_iload_n dX12_tells_153 rfl rfl ?_
              refine m_iald 15 hS_58 rfl (N := 880) rfl ((by exact vin_T (rfl : (x1).toInt = (x1).toInt) (by omega) (by omega))) dX12_tells_154 ?_
              refine gz_ev (w := .int ((F 15) (Int32.toNatClampNeg x1))) (congrArg Value.int (congrFun ((hx58.2.2.1 15 (by decide)).trans (hx1.2.2.1 15 (by decide))) _)) ?_
              have hxx155 : fx [88, 89] [] [87] [] n z F G n_58 z_58 F_58 G_58 := (fx_tr (fx_tr fx_rf hx1 (by decide)) hx58 (by decide))
              refine scX12_558 (k_X12_sums (x1 := x1) (x2 := ((F 14) (Int32.toNatClampNeg x1))) (x3 := ((F 15) (Int32.toNatClampNeg x1))) hS_58 (rAll_w (fun k hk => hxx155.2.2.1 k ((by decide : ∀ k : Nat, k ∈ wK → k ∉ ([87] : List Nat)) k hk)) bA) (by omega) (by omega) (by (try rw [(show n_58 88 = (n_58 88) from rfl)]); omega)) hS_58.1 ⟨(Nat.le_of_ble_eq_true rfl), (Nat.le_of_ble_eq_true rfl)⟩ ⟨(Nat.le_of_ble_eq_true rfl), (Nat.le_of_ble_eq_true rfl)⟩ rfl rfl (Nat.le_of_ble_eq_true rfl) dX12_tells_155 ?_
              rintro f_59 ⟨n_59, z_59, F_59, G_59, hS_59, hx59, h8a_59, h8b_59⟩
              refine gz_aload_n dX12_tells_158 rfl rfl ?_
              refine gz_bipush (v := 58) dX12_tells_159 (by decide) ?_
              refine scX12_547 (k_X12_signs (x1 := 58) hS_59 (by (try rw [(show n_59 88 = (n_59 88) from rfl)]); omega)) hS_59.1 ⟨(Nat.le_of_ble_eq_true rfl), (Nat.le_of_ble_eq_true rfl)⟩ ⟨(Nat.le_of_ble_eq_true rfl), (Nat.le_of_ble_eq_true rfl)⟩ rfl rfl (Nat.le_of_ble_eq_true rfl) dX12_tells_161 ?_
              rintro f_60 ⟨n_60, z_60, F_60, G_60, hS_60, hx60, h8_60⟩
              refine gz_aload_n dX12_tells_164 rfl rfl ?_
              refine mg_20 hS_60 dX12_tells_165 ?_
              refine gz_iload_n dX12_tells_168 rfl rfl ?_
              refine m_iald 7 hS_60 rfl (N := 880) rfl ((by exact vin_T (rfl : (x1).toInt = (x1).toInt) (by omega) (by omega))) dX12_tells_169 ?_
              refine gz_ev (w := .int ((F 7) (Int32.toNatClampNeg x1))) (congrArg Value.int (congrFun ((hx60.2.2.1 7 (by decide)).trans ((hx59.2.2.1 7 (by decide)).trans ((hx58.2.2.1 7 (by decide)).trans (hx1.2.2.1 7 (by decide))))) _)) ?_
              refine gz_bipush (v := 9) dX12_tells_170 (by decide) ?_
              refine gz_icmp_ne (tgt := 198) dX12_tells_172 (by decide) (fun c_172 => ?_) (fun c_172 => ?_)
              ·
                try simp only [mIn_0, lgc_lt, lgc_gt, lgc_le, lgc_ge, lgc_eq] at c_172
                try simp only [fl_lt, fl_le, fl_eq, fL_w, fL_lt, fL_le, tm1, tm10k, tm9, tm99, Int32.reduceToInt, Int64.reduceToInt, Int.not_lt, Int.not_le] at c_172
                exact gz_vret rfl dX12_tells_198 (Nat.le_of_ble_eq_true rfl) (Nat.le_of_ble_eq_true rfl) (⟨rfl, _, _, _, _, hS_60, (fx_tr (fx_tr (fx_tr (fx_tr fx_rf hx1 (by decide)) hx58 (by decide)) hx59 (by decide)) hx60 (by decide)), (by (try rw [(show n_60 88 = (n_60 88) from rfl)]); omega), (by (try rw [(show n_60 88 = (n_60 88) from rfl)]); omega), (by (try rw [(show n_60 88 = (n_60 88) from rfl)]); omega)⟩)
              ·
                try simp only [mIn_0, lgc_lt, lgc_gt, lgc_le, lgc_ge, lgc_eq] at c_172
                try simp only [fl_lt, fl_le, fl_eq, fL_w, fL_lt, fL_le, tm1, tm10k, tm9, tm99, Int32.reduceToInt, Int64.reduceToInt, Int.not_lt, Int.not_le] at c_172
                refine gz_aload_n dX12_tells_175 rfl rfl ?_
                refine gz_iload_n dX12_tells_176 rfl rfl ?_
                refine gz_aload_n dX12_tells_177 rfl rfl ?_
                refine mg_38 hS_60 dX12_tells_178 ?_
                refine gz_iload_n dX12_tells_181 rfl rfl ?_
                refine m_iald 13 hS_60 rfl (N := 880) rfl ((by exact vin_T (rfl : (x1).toInt = (x1).toInt) (by omega) (by omega))) dX12_tells_182 ?_
                refine gz_ev (w := .int ((F 13) (Int32.toNatClampNeg x1))) (congrArg Value.int (congrFun ((hx60.2.2.1 13 (by decide)).trans ((hx59.2.2.1 13 (by decide)).trans ((hx58.2.2.1 13 (by decide)).trans (hx1.2.2.1 13 (by decide))))) _)) ?_
                refine gz_aload_n dX12_tells_183 rfl rfl ?_
                refine mg_41 hS_60 dX12_tells_184 ?_
                refine gz_iload_n dX12_tells_187 rfl rfl ?_
                refine m_iald 14 hS_60 rfl (N := 880) rfl ((by exact vin_T (rfl : (x1).toInt = (x1).toInt) (by omega) (by omega))) dX12_tells_188 ?_
                refine gz_ev (w := .int ((F 14) (Int32.toNatClampNeg x1))) (congrArg Value.int (congrFun ((hx60.2.2.1 14 (by decide)).trans ((hx59.2.2.1 14 (by decide)).trans ((hx58.2.2.1 14 (by decide)).trans (hx1.2.2.1 14 (by decide))))) _)) ?_
                have hxx189 : fx [88, 89] [] [87] [] n z F G n_60 z_60 F_60 G_60 := (fx_tr (fx_tr (fx_tr (fx_tr fx_rf hx1 (by decide)) hx58 (by decide)) hx59 (by decide)) hx60 (by decide))
                refine scX12_558 (k_X12_sums (x1 := x1) (x2 := ((F 13) (Int32.toNatClampNeg x1))) (x3 := ((F 14) (Int32.toNatClampNeg x1))) hS_60 (rAll_w (fun k hk => hxx189.2.2.1 k ((by decide : ∀ k : Nat, k ∈ wK → k ∉ ([87] : List Nat)) k hk)) bA) (by omega) (by omega) (by (try rw [(show n_60 88 = (n_60 88) from rfl)]); omega)) hS_60.1 ⟨(Nat.le_of_ble_eq_true rfl), (Nat.le_of_ble_eq_true rfl)⟩ ⟨(Nat.le_of_ble_eq_true rfl), (Nat.le_of_ble_eq_true rfl)⟩ rfl rfl (Nat.le_of_ble_eq_true rfl) dX12_tells_189 ?_
                rintro f_61 ⟨n_61, z_61, F_61, G_61, hS_61, hx61, h8a_61, h8b_61⟩
                refine gz_aload_n dX12_tells_192 rfl rfl ?_
                refine gz_bipush (v := 58) dX12_tells_193 (by decide) ?_
                refine scX12_547 (k_X12_signs (x1 := 58) hS_61 (by (try rw [(show n_61 88 = (n_61 88) from rfl)]); omega)) hS_61.1 ⟨(Nat.le_of_ble_eq_true rfl), (Nat.le_of_ble_eq_true rfl)⟩ ⟨(Nat.le_of_ble_eq_true rfl), (Nat.le_of_ble_eq_true rfl)⟩ rfl rfl (Nat.le_of_ble_eq_true rfl) dX12_tells_195 ?_
                rintro f_62 ⟨n_62, z_62, F_62, G_62, hS_62, hx62, h8_62⟩
                exact gz_vret rfl dX12_tells_198 (Nat.le_of_ble_eq_true rfl) (Nat.le_of_ble_eq_true rfl) (⟨rfl, _, _, _, _, hS_62, (fx_tr (fx_tr (fx_tr (fx_tr (fx_tr (fx_tr fx_rf hx1 (by decide)) hx58 (by decide)) hx59 (by decide)) hx60 (by decide)) hx61 (by decide)) hx62 (by decide)), (by (try rw [(show n_62 88 = (n_62 88) from rfl)]); omega), (by (try rw [(show n_62 88 = (n_62 88) from rfl)]); omega), (by (try rw [(show n_62 88 = (n_62 88) from rfl)]); omega)⟩)
            ·
              try simp only [mIn_0, lgc_lt, lgc_gt, lgc_le, lgc_ge, lgc_eq] at c_122
              try simp only [fl_lt, fl_le, fl_eq, fL_w, fL_lt, fL_le, tm1, tm10k, tm9, tm99, Int32.reduceToInt, Int64.reduceToInt, Int.not_lt, Int.not_le] at c_122
              refine gz_aload_n dX12_tells_125 rfl rfl ?_
              refine mg_47 hS_58 dX12_tells_126 ?_
              refine gz_iload_n dX12_tells_129 rfl rfl ?_
              refine m_iald 16 hS_58 rfl (N := 880) rfl ((by exact vin_T (rfl : (x1).toInt = (x1).toInt) (by omega) (by omega))) dX12_tells_130 ?_
              refine gz_ev (w := .int ((F 16) (Int32.toNatClampNeg x1))) (congrArg Value.int (congrFun ((hx58.2.2.1 16 (by decide)).trans (hx1.2.2.1 16 (by decide))) _)) ?_
              refine gz_iconst (v := 4) dX12_tells_131 (by decide) ?_
              refine gz_icmp_ge (tgt := 141) dX12_tells_132 (by decide) (fun c_132 => ?_) (fun c_132 => ?_)
              ·
                try simp only [mIn_0, lgc_lt, lgc_gt, lgc_le, lgc_ge, lgc_eq] at c_132
                try simp only [fl_lt, fl_le, fl_eq, fL_w, fL_lt, fL_le, tm1, tm10k, tm9, tm99, Int32.reduceToInt, Int64.reduceToInt, Int.not_lt, Int.not_le] at c_132
                refine gz_aload_n dX12_tells_141 rfl rfl ?_
                refine gz_iload_n dX12_tells_142 rfl rfl ?_
                refine gz_aload_n dX12_tells_143 rfl rfl ?_
                refine mg_41 hS_58 dX12_tells_144 ?_
                refine gz_iload_n dX12_tells_147 rfl rfl ?_
                refine m_iald 14 hS_58 rfl (N := 880) rfl ((by exact vin_T (rfl : (x1).toInt = (x1).toInt) (by omega) (by omega))) dX12_tells_148 ?_
                refine gz_ev (w := .int ((F 14) (Int32.toNatClampNeg x1))) (congrArg Value.int (congrFun ((hx58.2.2.1 14 (by decide)).trans (hx1.2.2.1 14 (by decide))) _)) ?_
                refine gz_aload_n dX12_tells_149 rfl rfl ?_
                refine mg_44 hS_58 dX12_tells_150 ?_
                refine gz_iload_n dX12_tells_153 rfl rfl ?_
                refine m_iald 15 hS_58 rfl (N := 880) rfl ((by exact vin_T (rfl : (x1).toInt = (x1).toInt) (by omega) (by omega))) dX12_tells_154 ?_
                refine gz_ev (w := .int ((F 15) (Int32.toNatClampNeg x1))) (congrArg Value.int (congrFun ((hx58.2.2.1 15 (by decide)).trans (hx1.2.2.1 15 (by decide))) _)) ?_
                have hxx155 : fx [88, 89] [] [87] [] n z F G n_58 z_58 F_58 G_58 := (fx_tr (fx_tr fx_rf hx1 (by decide)) hx58 (by decide))
                refine scX12_558 (k_X12_sums (x1 := x1) (x2 := ((F 14) (Int32.toNatClampNeg x1))) (x3 := ((F 15) (Int32.toNatClampNeg x1))) hS_58 (rAll_w (fun k hk => hxx155.2.2.1 k ((by decide : ∀ k : Nat, k ∈ wK → k ∉ ([87] : List Nat)) k hk)) bA) (by omega) (by omega) (by (try rw [(show n_58 88 = (n_58 88) from rfl)]); omega)) hS_58.1 ⟨(Nat.le_of_ble_eq_true rfl), (Nat.le_of_ble_eq_true rfl)⟩ ⟨(Nat.le_of_ble_eq_true rfl), (Nat.le_of_ble_eq_true rfl)⟩ rfl rfl (Nat.le_of_ble_eq_true rfl) dX12_tells_155 ?_
                rintro f_63 ⟨n_63, z_63, F_63, G_63, hS_63, hx63, h8a_63, h8b_63⟩
                refine gz_aload_n dX12_tells_158 rfl rfl ?_
                refine gz_bipush (v := 58) dX12_tells_159 (by decide) ?_
                refine scX12_547 (k_X12_signs (x1 := 58) hS_63 (by (try rw [(show n_63 88 = (n_63 88) from rfl)]); omega)) hS_63.1 ⟨(Nat.le_of_ble_eq_true rfl), (Nat.le_of_ble_eq_true rfl)⟩ ⟨(Nat.le_of_ble_eq_true rfl), (Nat.le_of_ble_eq_true rfl)⟩ rfl rfl (Nat.le_of_ble_eq_true rfl) dX12_tells_161 ?_
                rintro f_64 ⟨n_64, z_64, F_64, G_64, hS_64, hx64, h8_64⟩
                refine gz_aload_n dX12_tells_164 rfl rfl ?_
                refine mg_20 hS_64 dX12_tells_165 ?_
                refine gz_iload_n dX12_tells_168 rfl rfl ?_
                refine m_iald 7 hS_64 rfl (N := 880) rfl ((by exact vin_T (rfl : (x1).toInt = (x1).toInt) (by omega) (by omega))) dX12_tells_169 ?_
                refine gz_ev (w := .int ((F 7) (Int32.toNatClampNeg x1))) (congrArg Value.int (congrFun ((hx64.2.2.1 7 (by decide)).trans ((hx63.2.2.1 7 (by decide)).trans ((hx58.2.2.1 7 (by decide)).trans (hx1.2.2.1 7 (by decide))))) _)) ?_
                refine gz_bipush (v := 9) dX12_tells_170 (by decide) ?_
                refine gz_icmp_ne (tgt := 198) dX12_tells_172 (by decide) (fun c_172 => ?_) (fun c_172 => ?_)
                ·
                  try simp only [mIn_0, lgc_lt, lgc_gt, lgc_le, lgc_ge, lgc_eq] at c_172
                  try simp only [fl_lt, fl_le, fl_eq, fL_w, fL_lt, fL_le, tm1, tm10k, tm9, tm99, Int32.reduceToInt, Int64.reduceToInt, Int.not_lt, Int.not_le] at c_172
                  exact gz_vret rfl dX12_tells_198 (Nat.le_of_ble_eq_true rfl) (Nat.le_of_ble_eq_true rfl) (⟨rfl, _, _, _, _, hS_64, (fx_tr (fx_tr (fx_tr (fx_tr fx_rf hx1 (by decide)) hx58 (by decide)) hx63 (by decide)) hx64 (by decide)), (by (try rw [(show n_64 88 = (n_64 88) from rfl)]); omega), (by (try rw [(show n_64 88 = (n_64 88) from rfl)]); omega), (by (try rw [(show n_64 88 = (n_64 88) from rfl)]); omega)⟩)
                ·
                  try simp only [mIn_0, lgc_lt, lgc_gt, lgc_le, lgc_ge, lgc_eq] at c_172
                  try simp only [fl_lt, fl_le, fl_eq, fL_w, fL_lt, fL_le, tm1, tm10k, tm9, tm99, Int32.reduceToInt, Int64.reduceToInt, Int.not_lt, Int.not_le] at c_172
                  refine gz_aload_n dX12_tells_175 rfl rfl ?_
                  refine gz_iload_n dX12_tells_176 rfl rfl ?_
                  refine gz_aload_n dX12_tells_177 rfl rfl ?_
                  refine mg_38 hS_64 dX12_tells_178 ?_
                  refine gz_iload_n dX12_tells_181 rfl rfl ?_
                  refine m_iald 13 hS_64 rfl (N := 880) rfl ((by exact vin_T (rfl : (x1).toInt = (x1).toInt) (by omega) (by omega))) dX12_tells_182 ?_
                  refine gz_ev (w := .int ((F 13) (Int32.toNatClampNeg x1))) (congrArg Value.int (congrFun ((hx64.2.2.1 13 (by decide)).trans ((hx63.2.2.1 13 (by decide)).trans ((hx58.2.2.1 13 (by decide)).trans (hx1.2.2.1 13 (by decide))))) _)) ?_
                  refine gz_aload_n dX12_tells_183 rfl rfl ?_
                  refine mg_41 hS_64 dX12_tells_184 ?_
                  refine gz_iload_n dX12_tells_187 rfl rfl ?_
                  refine m_iald 14 hS_64 rfl (N := 880) rfl ((by exact vin_T (rfl : (x1).toInt = (x1).toInt) (by omega) (by omega))) dX12_tells_188 ?_
                  refine gz_ev (w := .int ((F 14) (Int32.toNatClampNeg x1))) (congrArg Value.int (congrFun ((hx64.2.2.1 14 (by decide)).trans ((hx63.2.2.1 14 (by decide)).trans ((hx58.2.2.1 14 (by decide)).trans (hx1.2.2.1 14 (by decide))))) _)) ?_
                  have hxx189 : fx [88, 89] [] [87] [] n z F G n_64 z_64 F_64 G_64 := (fx_tr (fx_tr (fx_tr (fx_tr fx_rf hx1 (by decide)) hx58 (by decide)) hx63 (by decide)) hx64 (by decide))
                  refine scX12_558 (k_X12_sums (x1 := x1) (x2 := ((F 13) (Int32.toNatClampNeg x1))) (x3 := ((F 14) (Int32.toNatClampNeg x1))) hS_64 (rAll_w (fun k hk => hxx189.2.2.1 k ((by decide : ∀ k : Nat, k ∈ wK → k ∉ ([87] : List Nat)) k hk)) bA) (by omega) (by omega) (by (try rw [(show n_64 88 = (n_64 88) from rfl)]); omega)) hS_64.1 ⟨(Nat.le_of_ble_eq_true rfl), (Nat.le_of_ble_eq_true rfl)⟩ ⟨(Nat.le_of_ble_eq_true rfl), (Nat.le_of_ble_eq_true rfl)⟩ rfl rfl (Nat.le_of_ble_eq_true rfl) dX12_tells_189 ?_
                  rintro f_65 ⟨n_65, z_65, F_65, G_65, hS_65, hx65, h8a_65, h8b_65⟩
                  refine gz_aload_n dX12_tells_192 rfl rfl ?_
                  refine gz_bipush (v := 58) dX12_tells_193 (by decide) ?_
                  refine scX12_547 (k_X12_signs (x1 := 58) hS_65 (by (try rw [(show n_65 88 = (n_65 88) from rfl)]); omega)) hS_65.1 ⟨(Nat.le_of_ble_eq_true rfl), (Nat.le_of_ble_eq_true rfl)⟩ ⟨(Nat.le_of_ble_eq_true rfl), (Nat.le_of_ble_eq_true rfl)⟩ rfl rfl (Nat.le_of_ble_eq_true rfl) dX12_tells_195 ?_
                  rintro f_66 ⟨n_66, z_66, F_66, G_66, hS_66, hx66, h8_66⟩
                  exact gz_vret rfl dX12_tells_198 (Nat.le_of_ble_eq_true rfl) (Nat.le_of_ble_eq_true rfl) (⟨rfl, _, _, _, _, hS_66, (fx_tr (fx_tr (fx_tr (fx_tr (fx_tr (fx_tr fx_rf hx1 (by decide)) hx58 (by decide)) hx63 (by decide)) hx64 (by decide)) hx65 (by decide)) hx66 (by decide)), (by (try rw [(show n_66 88 = (n_66 88) from rfl)]); omega), (by (try rw [(show n_66 88 = (n_66 88) from rfl)]); omega), (by (try rw [(show n_66 88 = (n_66 88) from rfl)]); omega)⟩)
              ·
                try simp only [mIn_0, lgc_lt, lgc_gt, lgc_le, lgc_ge, lgc_eq] at c_132
                try simp only [fl_lt, fl_le, fl_eq, fL_w, fL_lt, fL_le, tm1, tm10k, tm9, tm99, Int32.reduceToInt, Int64.reduceToInt, Int.not_lt, Int.not_le] at c_132
                refine gz_aload_n dX12_tells_135 rfl rfl ?_
                refine gz_bipush (v := 61) dX12_tells_136 (by decide) ?_
                refine scX12_547 (k_X12_signs (x1 := 61) hS_58 (by (try rw [(show n_58 88 = (n_58 88) from rfl)]); omega)) hS_58.1 ⟨(Nat.le_of_ble_eq_true rfl), (Nat.le_of_ble_eq_true rfl)⟩ ⟨(Nat.le_of_ble_eq_true rfl), (Nat.le_of_ble_eq_true rfl)⟩ rfl rfl (Nat.le_of_ble_eq_true rfl) dX12_tells_138 ?_
                rintro f_67 ⟨n_67, z_67, F_67, G_67, hS_67, hx67, h8_67⟩
                refine gz_aload_n dX12_tells_141 rfl rfl ?_
                refine gz_iload_n dX12_tells_142 rfl rfl ?_
                refine gz_aload_n dX12_tells_143 rfl rfl ?_
                refine mg_41 hS_67 dX12_tells_144 ?_
                refine gz_iload_n dX12_tells_147 rfl rfl ?_
                refine m_iald 14 hS_67 rfl (N := 880) rfl ((by exact vin_T (rfl : (x1).toInt = (x1).toInt) (by omega) (by omega))) dX12_tells_148 ?_
                refine gz_ev (w := .int ((F 14) (Int32.toNatClampNeg x1))) (congrArg Value.int (congrFun ((hx67.2.2.1 14 (by decide)).trans ((hx58.2.2.1 14 (by decide)).trans (hx1.2.2.1 14 (by decide)))) _)) ?_
                refine gz_aload_n dX12_tells_149 rfl rfl ?_
                refine mg_44 hS_67 dX12_tells_150 ?_
                refine gz_iload_n dX12_tells_153 rfl rfl ?_
                refine m_iald 15 hS_67 rfl (N := 880) rfl ((by exact vin_T (rfl : (x1).toInt = (x1).toInt) (by omega) (by omega))) dX12_tells_154 ?_
                refine gz_ev (w := .int ((F 15) (Int32.toNatClampNeg x1))) (congrArg Value.int (congrFun ((hx67.2.2.1 15 (by decide)).trans ((hx58.2.2.1 15 (by decide)).trans (hx1.2.2.1 15 (by decide)))) _)) ?_
                have hxx155 : fx [88, 89] [] [87] [] n z F G n_67 z_67 F_67 G_67 := (fx_tr (fx_tr (fx_tr fx_rf hx1 (by decide)) hx58 (by decide)) hx67 (by decide))
                refine scX12_558 (k_X12_sums (x1 := x1) (x2 := ((F 14) (Int32.toNatClampNeg x1))) (x3 := ((F 15) (Int32.toNatClampNeg x1))) hS_67 (rAll_w (fun k hk => hxx155.2.2.1 k ((by decide : ∀ k : Nat, k ∈ wK → k ∉ ([87] : List Nat)) k hk)) bA) (by omega) (by omega) (by (try rw [(show n_67 88 = (n_67 88) from rfl)]); omega)) hS_67.1 ⟨(Nat.le_of_ble_eq_true rfl), (Nat.le_of_ble_eq_true rfl)⟩ ⟨(Nat.le_of_ble_eq_true rfl), (Nat.le_of_ble_eq_true rfl)⟩ rfl rfl (Nat.le_of_ble_eq_true rfl) dX12_tells_155 ?_
                rintro f_68 ⟨n_68, z_68, F_68, G_68, hS_68, hx68, h8a_68, h8b_68⟩
                refine gz_aload_n dX12_tells_158 rfl rfl ?_
                refine gz_bipush (v := 58) dX12_tells_159 (by decide) ?_
                refine scX12_547 (k_X12_signs (x1 := 58) hS_68 (by (try rw [(show n_68 88 = (n_68 88) from rfl)]); omega)) hS_68.1 ⟨(Nat.le_of_ble_eq_true rfl), (Nat.le_of_ble_eq_true rfl)⟩ ⟨(Nat.le_of_ble_eq_true rfl), (Nat.le_of_ble_eq_true rfl)⟩ rfl rfl (Nat.le_of_ble_eq_true rfl) dX12_tells_161 ?_
                rintro f_69 ⟨n_69, z_69, F_69, G_69, hS_69, hx69, h8_69⟩
                refine gz_aload_n dX12_tells_164 rfl rfl ?_
                refine mg_20 hS_69 dX12_tells_165 ?_
                refine gz_iload_n dX12_tells_168 rfl rfl ?_
                refine m_iald 7 hS_69 rfl (N := 880) rfl ((by exact vin_T (rfl : (x1).toInt = (x1).toInt) (by omega) (by omega))) dX12_tells_169 ?_
                refine gz_ev (w := .int ((F 7) (Int32.toNatClampNeg x1))) (congrArg Value.int (congrFun ((hx69.2.2.1 7 (by decide)).trans ((hx68.2.2.1 7 (by decide)).trans ((hx67.2.2.1 7 (by decide)).trans ((hx58.2.2.1 7 (by decide)).trans (hx1.2.2.1 7 (by decide)))))) _)) ?_
                refine gz_bipush (v := 9) dX12_tells_170 (by decide) ?_
                refine gz_icmp_ne (tgt := 198) dX12_tells_172 (by decide) (fun c_172 => ?_) (fun c_172 => ?_)
                ·
                  try simp only [mIn_0, lgc_lt, lgc_gt, lgc_le, lgc_ge, lgc_eq] at c_172
                  try simp only [fl_lt, fl_le, fl_eq, fL_w, fL_lt, fL_le, tm1, tm10k, tm9, tm99, Int32.reduceToInt, Int64.reduceToInt, Int.not_lt, Int.not_le] at c_172
                  exact gz_vret rfl dX12_tells_198 (Nat.le_of_ble_eq_true rfl) (Nat.le_of_ble_eq_true rfl) (⟨rfl, _, _, _, _, hS_69, (fx_tr (fx_tr (fx_tr (fx_tr (fx_tr fx_rf hx1 (by decide)) hx58 (by decide)) hx67 (by decide)) hx68 (by decide)) hx69 (by decide)), (by (try rw [(show n_69 88 = (n_69 88) from rfl)]); omega), (by (try rw [(show n_69 88 = (n_69 88) from rfl)]); omega), (by (try rw [(show n_69 88 = (n_69 88) from rfl)]); omega)⟩)
                ·
                  try simp only [mIn_0, lgc_lt, lgc_gt, lgc_le, lgc_ge, lgc_eq] at c_172
                  try simp only [fl_lt, fl_le, fl_eq, fL_w, fL_lt, fL_le, tm1, tm10k, tm9, tm99, Int32.reduceToInt, Int64.reduceToInt, Int.not_lt, Int.not_le] at c_172
                  refine gz_aload_n dX12_tells_175 rfl rfl ?_
                  refine gz_iload_n dX12_tells_176 rfl rfl ?_
                  refine gz_aload_n dX12_tells_177 rfl rfl ?_
                  refine mg_38 hS_69 dX12_tells_178 ?_
                  refine gz_iload_n dX12_tells_181 rfl rfl ?_
                  refine m_iald 13 hS_69 rfl (N := 880) rfl ((by exact vin_T (rfl : (x1).toInt = (x1).toInt) (by omega) (by omega))) dX12_tells_182 ?_
                  refine gz_ev (w := .int ((F 13) (Int32.toNatClampNeg x1))) (congrArg Value.int (congrFun ((hx69.2.2.1 13 (by decide)).trans ((hx68.2.2.1 13 (by decide)).trans ((hx67.2.2.1 13 (by decide)).trans ((hx58.2.2.1 13 (by decide)).trans (hx1.2.2.1 13 (by decide)))))) _)) ?_
                  refine gz_aload_n dX12_tells_183 rfl rfl ?_
                  refine mg_41 hS_69 dX12_tells_184 ?_
                  refine gz_iload_n dX12_tells_187 rfl rfl ?_
                  refine m_iald 14 hS_69 rfl (N := 880) rfl ((by exact vin_T (rfl : (x1).toInt = (x1).toInt) (by omega) (by omega))) dX12_tells_188 ?_
                  refine gz_ev (w := .int ((F 14) (Int32.toNatClampNeg x1))) (congrArg Value.int (congrFun ((hx69.2.2.1 14 (by decide)).trans ((hx68.2.2.1 14 (by decide)).trans ((hx67.2.2.1 14 (by decide)).trans ((hx58.2.2.1 14 (by decide)).trans (hx1.2.2.1 14 (by decide)))))) _)) ?_
                  have hxx189 : fx [88, 89] [] [87] [] n z F G n_69 z_69 F_69 G_69 := (fx_tr (fx_tr (fx_tr (fx_tr (fx_tr fx_rf hx1 (by decide)) hx58 (by decide)) hx67 (by decide)) hx68 (by decide)) hx69 (by decide))
                  refine scX12_558 (k_X12_sums (x1 := x1) (x2 := ((F 13) (Int32.toNatClampNeg x1))) (x3 := ((F 14) (Int32.toNatClampNeg x1))) hS_69 (rAll_w (fun k hk => hxx189.2.2.1 k ((by decide : ∀ k : Nat, k ∈ wK → k ∉ ([87] : List Nat)) k hk)) bA) (by omega) (by omega) (by (try rw [(show n_69 88 = (n_69 88) from rfl)]); omega)) hS_69.1 ⟨(Nat.le_of_ble_eq_true rfl), (Nat.le_of_ble_eq_true rfl)⟩ ⟨(Nat.le_of_ble_eq_true rfl), (Nat.le_of_ble_eq_true rfl)⟩ rfl rfl (Nat.le_of_ble_eq_true rfl) dX12_tells_189 ?_
                  rintro f_70 ⟨n_70, z_70, F_70, G_70, hS_70, hx70, h8a_70, h8b_70⟩
                  refine gz_aload_n dX12_tells_192 rfl rfl ?_
                  refine gz_bipush (v := 58) dX12_tells_193 (by decide) ?_
                  refine scX12_547 (k_X12_signs (x1 := 58) hS_70 (by (try rw [(show n_70 88 = (n_70 88) from rfl)]); omega)) hS_70.1 ⟨(Nat.le_of_ble_eq_true rfl), (Nat.le_of_ble_eq_true rfl)⟩ ⟨(Nat.le_of_ble_eq_true rfl), (Nat.le_of_ble_eq_true rfl)⟩ rfl rfl (Nat.le_of_ble_eq_true rfl) dX12_tells_195 ?_
                  rintro f_71 ⟨n_71, z_71, F_71, G_71, hS_71, hx71, h8_71⟩
                  exact gz_vret rfl dX12_tells_198 (Nat.le_of_ble_eq_true rfl) (Nat.le_of_ble_eq_true rfl) (⟨rfl, _, _, _, _, hS_71, (fx_tr (fx_tr (fx_tr (fx_tr (fx_tr (fx_tr (fx_tr fx_rf hx1 (by decide)) hx58 (by decide)) hx67 (by decide)) hx68 (by decide)) hx69 (by decide)) hx70 (by decide)) hx71 (by decide)), (by (try rw [(show n_71 88 = (n_71 88) from rfl)]); omega), (by (try rw [(show n_71 88 = (n_71 88) from rfl)]); omega), (by (try rw [(show n_71 88 = (n_71 88) from rfl)]); omega)⟩)
          ·
            try simp only [mIn_0, lgc_lt, lgc_gt, lgc_le, lgc_ge, lgc_eq] at c_107
            try simp only [fl_lt, fl_le, fl_eq, fL_w, fL_lt, fL_le, tm1, tm10k, tm9, tm99, Int32.reduceToInt, Int64.reduceToInt, Int.not_lt, Int.not_le] at c_107
            refine gz_aload_n dX12_tells_110 rfl rfl ?_
            refine gz_bipush (v := 62) dX12_tells_111 (by decide) ?_
            refine scX12_547 (k_X12_signs (x1 := 62) hS_58 (by (try rw [(show n_58 88 = (n_58 88) from rfl)]); omega)) hS_58.1 ⟨(Nat.le_of_ble_eq_true rfl), (Nat.le_of_ble_eq_true rfl)⟩ ⟨(Nat.le_of_ble_eq_true rfl), (Nat.le_of_ble_eq_true rfl)⟩ rfl rfl (Nat.le_of_ble_eq_true rfl) dX12_tells_113 ?_
            rintro f_72 ⟨n_72, z_72, F_72, G_72, hS_72, hx72, h8_72⟩
            refine gz_aload_n dX12_tells_116 rfl rfl ?_
            refine mg_47 hS_72 dX12_tells_117 ?_
            refine gz_iload_n dX12_tells_120 rfl rfl ?_
            refine m_iald 16 hS_72 rfl (N := 880) rfl ((by exact vin_T (rfl : (x1).toInt = (x1).toInt) (by omega) (by omega))) dX12_tells_121 ?_
            refine gz_ev (w := .int ((F 16) (Int32.toNatClampNeg x1))) (congrArg Value.int (congrFun ((hx72.2.2.1 16 (by decide)).trans ((hx58.2.2.1 16 (by decide)).trans (hx1.2.2.1 16 (by decide)))) _)) ?_
            refine gz_if_le (tgt := 141) dX12_tells_122 (by decide) (fun c_122 => ?_) (fun c_122 => ?_)
            ·
              try simp only [mIn_0, lgc_lt, lgc_gt, lgc_le, lgc_ge, lgc_eq] at c_122
              try simp only [fl_lt, fl_le, fl_eq, fL_w, fL_lt, fL_le, tm1, tm10k, tm9, tm99, Int32.reduceToInt, Int64.reduceToInt, Int.not_lt, Int.not_le] at c_122
              refine gz_aload_n dX12_tells_141 rfl rfl ?_
              refine gz_iload_n dX12_tells_142 rfl rfl ?_
              refine gz_aload_n dX12_tells_143 rfl rfl ?_
              refine mg_41 hS_72 dX12_tells_144 ?_
              refine gz_iload_n dX12_tells_147 rfl rfl ?_
              refine m_iald 14 hS_72 rfl (N := 880) rfl ((by exact vin_T (rfl : (x1).toInt = (x1).toInt) (by omega) (by omega))) dX12_tells_148 ?_
              refine gz_ev (w := .int ((F 14) (Int32.toNatClampNeg x1))) (congrArg Value.int (congrFun ((hx72.2.2.1 14 (by decide)).trans ((hx58.2.2.1 14 (by decide)).trans (hx1.2.2.1 14 (by decide)))) _)) ?_
              refine gz_aload_n dX12_tells_149 rfl rfl ?_
              refine mg_44 hS_72 dX12_tells_150 ?_
              refine gz_iload_n dX12_tells_153 rfl rfl ?_
              refine m_iald 15 hS_72 rfl (N := 880) rfl ((by exact vin_T (rfl : (x1).toInt = (x1).toInt) (by omega) (by omega))) dX12_tells_154 ?_
              refine gz_ev (w := .int ((F 15) (Int32.toNatClampNeg x1))) (congrArg Value.int (congrFun ((hx72.2.2.1 15 (by decide)).trans ((hx58.2.2.1 15 (by decide)).trans (hx1.2.2.1 15 (by decide)))) _)) ?_
              have hxx155 : fx [88, 89] [] [87] [] n z F G n_72 z_72 F_72 G_72 := (fx_tr (fx_tr (fx_tr fx_rf hx1 (by decide)) hx58 (by decide)) hx72 (by decide))
              refine scX12_558 (k_X12_sums (x1 := x1) (x2 := ((F 14) (Int32.toNatClampNeg x1))) (x3 := ((F 15) (Int32.toNatClampNeg x1))) hS_72 (rAll_w (fun k hk => hxx155.2.2.1 k ((by decide : ∀ k : Nat, k ∈ wK → k ∉ ([87] : List Nat)) k hk)) bA) (by omega) (by omega) (by (try rw [(show n_72 88 = (n_72 88) from rfl)]); omega)) hS_72.1 ⟨(Nat.le_of_ble_eq_true rfl), (Nat.le_of_ble_eq_true rfl)⟩ ⟨(Nat.le_of_ble_eq_true rfl), (Nat.le_of_ble_eq_true rfl)⟩ rfl rfl (Nat.le_of_ble_eq_true rfl) dX12_tells_155 ?_
              rintro f_73 ⟨n_73, z_73, F_73, G_73, hS_73, hx73, h8a_73, h8b_73⟩
              refine gz_aload_n dX12_tells_158 rfl rfl ?_
              refine gz_bipush (v := 58) dX12_tells_159 (by decide) ?_
              refine scX12_547 (k_X12_signs (x1 := 58) hS_73 (by (try rw [(show n_73 88 = (n_73 88) from rfl)]); omega)) hS_73.1 ⟨(Nat.le_of_ble_eq_true rfl), (Nat.le_of_ble_eq_true rfl)⟩ ⟨(Nat.le_of_ble_eq_true rfl), (Nat.le_of_ble_eq_true rfl)⟩ rfl rfl (Nat.le_of_ble_eq_true rfl) dX12_tells_161 ?_
              rintro f_74 ⟨n_74, z_74, F_74, G_74, hS_74, hx74, h8_74⟩
              refine gz_aload_n dX12_tells_164 rfl rfl ?_
              refine mg_20 hS_74 dX12_tells_165 ?_
              refine gz_iload_n dX12_tells_168 rfl rfl ?_
              refine m_iald 7 hS_74 rfl (N := 880) rfl ((by exact vin_T (rfl : (x1).toInt = (x1).toInt) (by omega) (by omega))) dX12_tells_169 ?_
              refine gz_ev (w := .int ((F 7) (Int32.toNatClampNeg x1))) (congrArg Value.int (congrFun ((hx74.2.2.1 7 (by decide)).trans ((hx73.2.2.1 7 (by decide)).trans ((hx72.2.2.1 7 (by decide)).trans ((hx58.2.2.1 7 (by decide)).trans (hx1.2.2.1 7 (by decide)))))) _)) ?_
              refine gz_bipush (v := 9) dX12_tells_170 (by decide) ?_
              refine gz_icmp_ne (tgt := 198) dX12_tells_172 (by decide) (fun c_172 => ?_) (fun c_172 => ?_)
              ·
                try simp only [mIn_0, lgc_lt, lgc_gt, lgc_le, lgc_ge, lgc_eq] at c_172
                try simp only [fl_lt, fl_le, fl_eq, fL_w, fL_lt, fL_le, tm1, tm10k, tm9, tm99, Int32.reduceToInt, Int64.reduceToInt, Int.not_lt, Int.not_le] at c_172
                exact gz_vret rfl dX12_tells_198 (Nat.le_of_ble_eq_true rfl) (Nat.le_of_ble_eq_true rfl) (⟨rfl, _, _, _, _, hS_74, (fx_tr (fx_tr (fx_tr (fx_tr (fx_tr fx_rf hx1 (by decide)) hx58 (by decide)) hx72 (by decide)) hx73 (by decide)) hx74 (by decide)), (by (try rw [(show n_74 88 = (n_74 88) from rfl)]); omega), (by (try rw [(show n_74 88 = (n_74 88) from rfl)]); omega), (by (try rw [(show n_74 88 = (n_74 88) from rfl)]); omega)⟩)
              ·
                try simp only [mIn_0, lgc_lt, lgc_gt, lgc_le, lgc_ge, lgc_eq] at c_172
                try simp only [fl_lt, fl_le, fl_eq, fL_w, fL_lt, fL_le, tm1, tm10k, tm9, tm99, Int32.reduceToInt, Int64.reduceToInt, Int.not_lt, Int.not_le] at c_172
                refine gz_aload_n dX12_tells_175 rfl rfl ?_
                refine gz_iload_n dX12_tells_176 rfl rfl ?_
                refine gz_aload_n dX12_tells_177 rfl rfl ?_
                refine mg_38 hS_74 dX12_tells_178 ?_
                refine gz_iload_n dX12_tells_181 rfl rfl ?_
                refine m_iald 13 hS_74 rfl (N := 880) rfl ((by exact vin_T (rfl : (x1).toInt = (x1).toInt) (by omega) (by omega))) dX12_tells_182 ?_
                refine gz_ev (w := .int ((F 13) (Int32.toNatClampNeg x1))) (congrArg Value.int (congrFun ((hx74.2.2.1 13 (by decide)).trans ((hx73.2.2.1 13 (by decide)).trans ((hx72.2.2.1 13 (by decide)).trans ((hx58.2.2.1 13 (by decide)).trans (hx1.2.2.1 13 (by decide)))))) _)) ?_
                refine gz_aload_n dX12_tells_183 rfl rfl ?_
                refine mg_41 hS_74 dX12_tells_184 ?_
                refine gz_iload_n dX12_tells_187 rfl rfl ?_
                refine m_iald 14 hS_74 rfl (N := 880) rfl ((by exact vin_T (rfl : (x1).toInt = (x1).toInt) (by omega) (by omega))) dX12_tells_188 ?_
                refine gz_ev (w := .int ((F 14) (Int32.toNatClampNeg x1))) (congrArg Value.int (congrFun ((hx74.2.2.1 14 (by decide)).trans ((hx73.2.2.1 14 (by decide)).trans ((hx72.2.2.1 14 (by decide)).trans ((hx58.2.2.1 14 (by decide)).trans (hx1.2.2.1 14 (by decide)))))) _)) ?_
                have hxx189 : fx [88, 89] [] [87] [] n z F G n_74 z_74 F_74 G_74 := (fx_tr (fx_tr (fx_tr (fx_tr (fx_tr fx_rf hx1 (by decide)) hx58 (by decide)) hx72 (by decide)) hx73 (by decide)) hx74 (by decide))
                refine scX12_558 (k_X12_sums (x1 := x1) (x2 := ((F 13) (Int32.toNatClampNeg x1))) (x3 := ((F 14) (Int32.toNatClampNeg x1))) hS_74 (rAll_w (fun k hk => hxx189.2.2.1 k ((by decide : ∀ k : Nat, k ∈ wK → k ∉ ([87] : List Nat)) k hk)) bA) (by omega) (by omega) (by (try rw [(show n_74 88 = (n_74 88) from rfl)]); omega)) hS_74.1 ⟨(Nat.le_of_ble_eq_true rfl), (Nat.le_of_ble_eq_true rfl)⟩ ⟨(Nat.le_of_ble_eq_true rfl), (Nat.le_of_ble_eq_true rfl)⟩ rfl rfl (Nat.le_of_ble_eq_true rfl) dX12_tells_189 ?_
                rintro f_75 ⟨n_75, z_75, F_75, G_75, hS_75, hx75, h8a_75, h8b_75⟩
                refine gz_aload_n dX12_tells_192 rfl rfl ?_
                refine gz_bipush (v := 58) dX12_tells_193 (by decide) ?_
                refine scX12_547 (k_X12_signs (x1 := 58) hS_75 (by (try rw [(show n_75 88 = (n_75 88) from rfl)]); omega)) hS_75.1 ⟨(Nat.le_of_ble_eq_true rfl), (Nat.le_of_ble_eq_true rfl)⟩ ⟨(Nat.le_of_ble_eq_true rfl), (Nat.le_of_ble_eq_true rfl)⟩ rfl rfl (Nat.le_of_ble_eq_true rfl) dX12_tells_195 ?_
                rintro f_76 ⟨n_76, z_76, F_76, G_76, hS_76, hx76, h8_76⟩
                exact gz_vret rfl dX12_tells_198 (Nat.le_of_ble_eq_true rfl) (Nat.le_of_ble_eq_true rfl) (⟨rfl, _, _, _, _, hS_76, (fx_tr (fx_tr (fx_tr (fx_tr (fx_tr (fx_tr (fx_tr fx_rf hx1 (by decide)) hx58 (by decide)) hx72 (by decide)) hx73 (by decide)) hx74 (by decide)) hx75 (by decide)) hx76 (by decide)), (by (try rw [(show n_76 88 = (n_76 88) from rfl)]); omega), (by (try rw [(show n_76 88 = (n_76 88) from rfl)]); omega), (by (try rw [(show n_76 88 = (n_76 88) from rfl)]); omega)⟩)
            ·
              try simp only [mIn_0, lgc_lt, lgc_gt, lgc_le, lgc_ge, lgc_eq] at c_122
              try simp only [fl_lt, fl_le, fl_eq, fL_w, fL_lt, fL_le, tm1, tm10k, tm9, tm99, Int32.reduceToInt, Int64.reduceToInt, Int.not_lt, Int.not_le] at c_122
              refine gz_aload_n dX12_tells_125 rfl rfl ?_
              refine mg_47 hS_72 dX12_tells_126 ?_
              refine gz_iload_n dX12_tells_129 rfl rfl ?_
              refine m_iald 16 hS_72 rfl (N := 880) rfl ((by exact vin_T (rfl : (x1).toInt = (x1).toInt) (by omega) (by omega))) dX12_tells_130 ?_
              refine gz_ev (w := .int ((F 16) (Int32.toNatClampNeg x1))) (congrArg Value.int (congrFun ((hx72.2.2.1 16 (by decide)).trans ((hx58.2.2.1 16 (by decide)).trans (hx1.2.2.1 16 (by decide)))) _)) ?_
              refine gz_iconst (v := 4) dX12_tells_131 (by decide) ?_
              refine gz_icmp_ge (tgt := 141) dX12_tells_132 (by decide) (fun c_132 => ?_) (fun c_132 => ?_)
              ·
                try simp only [mIn_0, lgc_lt, lgc_gt, lgc_le, lgc_ge, lgc_eq] at c_132
                try simp only [fl_lt, fl_le, fl_eq, fL_w, fL_lt, fL_le, tm1, tm10k, tm9, tm99, Int32.reduceToInt, Int64.reduceToInt, Int.not_lt, Int.not_le] at c_132
                refine gz_aload_n dX12_tells_141 rfl rfl ?_
                refine gz_iload_n dX12_tells_142 rfl rfl ?_
                refine gz_aload_n dX12_tells_143 rfl rfl ?_
                refine mg_41 hS_72 dX12_tells_144 ?_
                refine gz_iload_n dX12_tells_147 rfl rfl ?_
                refine m_iald 14 hS_72 rfl (N := 880) rfl ((by exact vin_T (rfl : (x1).toInt = (x1).toInt) (by omega) (by omega))) dX12_tells_148 ?_
                refine gz_ev (w := .int ((F 14) (Int32.toNatClampNeg x1))) (congrArg Value.int (congrFun ((hx72.2.2.1 14 (by decide)).trans ((hx58.2.2.1 14 (by decide)).trans (hx1.2.2.1 14 (by decide)))) _)) ?_
                refine gz_aload_n dX12_tells_149 rfl rfl ?_
                refine mg_44 hS_72 dX12_tells_150 ?_
                refine gz_iload_n dX12_tells_153 rfl rfl ?_
                refine m_iald 15 hS_72 rfl (N := 880) rfl ((by exact vin_T (rfl : (x1).toInt = (x1).toInt) (by omega) (by omega))) dX12_tells_154 ?_
                refine gz_ev (w := .int ((F 15) (Int32.toNatClampNeg x1))) (congrArg Value.int (congrFun ((hx72.2.2.1 15 (by decide)).trans ((hx58.2.2.1 15 (by decide)).trans (hx1.2.2.1 15 (by decide)))) _)) ?_
                have hxx155 : fx [88, 89] [] [87] [] n z F G n_72 z_72 F_72 G_72 := (fx_tr (fx_tr (fx_tr fx_rf hx1 (by decide)) hx58 (by decide)) hx72 (by decide))
                refine scX12_558 (k_X12_sums (x1 := x1) (x2 := ((F 14) (Int32.toNatClampNeg x1))) (x3 := ((F 15) (Int32.toNatClampNeg x1))) hS_72 (rAll_w (fun k hk => hxx155.2.2.1 k ((by decide : ∀ k : Nat, k ∈ wK → k ∉ ([87] : List Nat)) k hk)) bA) (by omega) (by omega) (by (try rw [(show n_72 88 = (n_72 88) from rfl)]); omega)) hS_72.1 ⟨(Nat.le_of_ble_eq_true rfl), (Nat.le_of_ble_eq_true rfl)⟩ ⟨(Nat.le_of_ble_eq_true rfl), (Nat.le_of_ble_eq_true rfl)⟩ rfl rfl (Nat.le_of_ble_eq_true rfl) dX12_tells_155 ?_
                rintro f_77 ⟨n_77, z_77, F_77, G_77, hS_77, hx77, h8a_77, h8b_77⟩
                refine gz_aload_n dX12_tells_158 rfl rfl ?_
                refine gz_bipush (v := 58) dX12_tells_159 (by decide) ?_
                refine scX12_547 (k_X12_signs (x1 := 58) hS_77 (by (try rw [(show n_77 88 = (n_77 88) from rfl)]); omega)) hS_77.1 ⟨(Nat.le_of_ble_eq_true rfl), (Nat.le_of_ble_eq_true rfl)⟩ ⟨(Nat.le_of_ble_eq_true rfl), (Nat.le_of_ble_eq_true rfl)⟩ rfl rfl (Nat.le_of_ble_eq_true rfl) dX12_tells_161 ?_
                rintro f_78 ⟨n_78, z_78, F_78, G_78, hS_78, hx78, h8_78⟩
                refine gz_aload_n dX12_tells_164 rfl rfl ?_
                refine mg_20 hS_78 dX12_tells_165 ?_
                refine gz_iload_n dX12_tells_168 rfl rfl ?_
                refine m_iald 7 hS_78 rfl (N := 880) rfl ((by exact vin_T (rfl : (x1).toInt = (x1).toInt) (by omega) (by omega))) dX12_tells_169 ?_
                refine gz_ev (w := .int ((F 7) (Int32.toNatClampNeg x1))) (congrArg Value.int (congrFun ((hx78.2.2.1 7 (by decide)).trans ((hx77.2.2.1 7 (by decide)).trans ((hx72.2.2.1 7 (by decide)).trans ((hx58.2.2.1 7 (by decide)).trans (hx1.2.2.1 7 (by decide)))))) _)) ?_
                refine gz_bipush (v := 9) dX12_tells_170 (by decide) ?_
                refine gz_icmp_ne (tgt := 198) dX12_tells_172 (by decide) (fun c_172 => ?_) (fun c_172 => ?_)
                ·
                  try simp only [mIn_0, lgc_lt, lgc_gt, lgc_le, lgc_ge, lgc_eq] at c_172
                  try simp only [fl_lt, fl_le, fl_eq, fL_w, fL_lt, fL_le, tm1, tm10k, tm9, tm99, Int32.reduceToInt, Int64.reduceToInt, Int.not_lt, Int.not_le] at c_172
                  exact gz_vret rfl dX12_tells_198 (Nat.le_of_ble_eq_true rfl) (Nat.le_of_ble_eq_true rfl) (⟨rfl, _, _, _, _, hS_78, (fx_tr (fx_tr (fx_tr (fx_tr (fx_tr fx_rf hx1 (by decide)) hx58 (by decide)) hx72 (by decide)) hx77 (by decide)) hx78 (by decide)), (by (try rw [(show n_78 88 = (n_78 88) from rfl)]); omega), (by (try rw [(show n_78 88 = (n_78 88) from rfl)]); omega), (by (try rw [(show n_78 88 = (n_78 88) from rfl)]); omega)⟩)
                ·
                  try simp only [mIn_0, lgc_lt, lgc_gt, lgc_le, lgc_ge, lgc_eq] at c_172
                  try simp only [fl_lt, fl_le, fl_eq, fL_w, fL_lt, fL_le, tm1, tm10k, tm9, tm99, Int32.reduceToInt, Int64.reduceToInt, Int.not_lt, Int.not_le] at c_172
                  refine gz_aload_n dX12_tells_175 rfl rfl ?_
                  refine gz_iload_n dX12_tells_176 rfl rfl ?_
                  refine gz_aload_n dX12_tells_177 rfl rfl ?_
                  refine mg_38 hS_78 dX12_tells_178 ?_
                  refine gz_iload_n dX12_tells_181 rfl rfl ?_
                  refine m_iald 13 hS_78 rfl (N := 880) rfl ((by exact vin_T (rfl : (x1).toInt = (x1).toInt) (by omega) (by omega))) dX12_tells_182 ?_
                  refine gz_ev (w := .int ((F 13) (Int32.toNatClampNeg x1))) (congrArg Value.int (congrFun ((hx78.2.2.1 13 (by decide)).trans ((hx77.2.2.1 13 (by decide)).trans ((hx72.2.2.1 13 (by decide)).trans ((hx58.2.2.1 13 (by decide)).trans (hx1.2.2.1 13 (by decide)))))) _)) ?_
                  refine gz_aload_n dX12_tells_183 rfl rfl ?_
                  refine mg_41 hS_78 dX12_tells_184 ?_
                  refine gz_iload_n dX12_tells_187 rfl rfl ?_
                  refine m_iald 14 hS_78 rfl (N := 880) rfl ((by exact vin_T (rfl : (x1).toInt = (x1).toInt) (by omega) (by omega))) dX12_tells_188 ?_
                  refine gz_ev (w := .int ((F 14) (Int32.toNatClampNeg x1))) (congrArg Value.int (congrFun ((hx78.2.2.1 14 (by decide)).trans ((hx77.2.2.1 14 (by decide)).trans ((hx72.2.2.1 14 (by decide)).trans ((hx58.2.2.1 14 (by decide)).trans (hx1.2.2.1 14 (by decide)))))) _)) ?_
                  have hxx189 : fx [88, 89] [] [87] [] n z F G n_78 z_78 F_78 G_78 := (fx_tr (fx_tr (fx_tr (fx_tr (fx_tr fx_rf hx1 (by decide)) hx58 (by decide)) hx72 (by decide)) hx77 (by decide)) hx78 (by decide))
                  refine scX12_558 (k_X12_sums (x1 := x1) (x2 := ((F 13) (Int32.toNatClampNeg x1))) (x3 := ((F 14) (Int32.toNatClampNeg x1))) hS_78 (rAll_w (fun k hk => hxx189.2.2.1 k ((by decide : ∀ k : Nat, k ∈ wK → k ∉ ([87] : List Nat)) k hk)) bA) (by omega) (by omega) (by (try rw [(show n_78 88 = (n_78 88) from rfl)]); omega)) hS_78.1 ⟨(Nat.le_of_ble_eq_true rfl), (Nat.le_of_ble_eq_true rfl)⟩ ⟨(Nat.le_of_ble_eq_true rfl), (Nat.le_of_ble_eq_true rfl)⟩ rfl rfl (Nat.le_of_ble_eq_true rfl) dX12_tells_189 ?_
                  rintro f_79 ⟨n_79, z_79, F_79, G_79, hS_79, hx79, h8a_79, h8b_79⟩
                  refine gz_aload_n dX12_tells_192 rfl rfl ?_
                  refine gz_bipush (v := 58) dX12_tells_193 (by decide) ?_
                  refine scX12_547 (k_X12_signs (x1 := 58) hS_79 (by (try rw [(show n_79 88 = (n_79 88) from rfl)]); omega)) hS_79.1 ⟨(Nat.le_of_ble_eq_true rfl), (Nat.le_of_ble_eq_true rfl)⟩ ⟨(Nat.le_of_ble_eq_true rfl), (Nat.le_of_ble_eq_true rfl)⟩ rfl rfl (Nat.le_of_ble_eq_true rfl) dX12_tells_195 ?_
                  rintro f_80 ⟨n_80, z_80, F_80, G_80, hS_80, hx80, h8_80⟩
                  exact gz_vret rfl dX12_tells_198 (Nat.le_of_ble_eq_true rfl) (Nat.le_of_ble_eq_true rfl) (⟨rfl, _, _, _, _, hS_80, (fx_tr (fx_tr (fx_tr (fx_tr (fx_tr (fx_tr (fx_tr fx_rf hx1 (by decide)) hx58 (by decide)) hx72 (by decide)) hx77 (by decide)) hx78 (by decide)) hx79 (by decide)) hx80 (by decide)), (by (try rw [(show n_80 88 = (n_80 88) from rfl)]); omega), (by (try rw [(show n_80 88 = (n_80 88) from rfl)]); omega), (by (try rw [(show n_80 88 = (n_80 88) from rfl)]); omega)⟩)
              ·
                try simp only [mIn_0, lgc_lt, lgc_gt, lgc_le, lgc_ge, lgc_eq] at c_132
                try simp only [fl_lt, fl_le, fl_eq, fL_w, fL_lt, fL_le, tm1, tm10k, tm9, tm99, Int32.reduceToInt, Int64.reduceToInt, Int.not_lt, Int.not_le] at c_132
                refine gz_aload_n dX12_tells_135 rfl rfl ?_
                refine gz_bipush (v := 61) dX12_tells_136 (by decide) ?_
                refine scX12_547 (k_X12_signs (x1 := 61) hS_72 (by (try rw [(show n_72 88 = (n_72 88) from rfl)]); omega)) hS_72.1 ⟨(Nat.le_of_ble_eq_true rfl), (Nat.le_of_ble_eq_true rfl)⟩ ⟨(Nat.le_of_ble_eq_true rfl), (Nat.le_of_ble_eq_true rfl)⟩ rfl rfl (Nat.le_of_ble_eq_true rfl) dX12_tells_138 ?_
                rintro f_81 ⟨n_81, z_81, F_81, G_81, hS_81, hx81, h8_81⟩
                refine gz_aload_n dX12_tells_141 rfl rfl ?_
                refine gz_iload_n dX12_tells_142 rfl rfl ?_
                refine gz_aload_n dX12_tells_143 rfl rfl ?_
                refine mg_41 hS_81 dX12_tells_144 ?_
                refine gz_iload_n dX12_tells_147 rfl rfl ?_
                refine m_iald 14 hS_81 rfl (N := 880) rfl ((by exact vin_T (rfl : (x1).toInt = (x1).toInt) (by omega) (by omega))) dX12_tells_148 ?_
                refine gz_ev (w := .int ((F 14) (Int32.toNatClampNeg x1))) (congrArg Value.int (congrFun ((hx81.2.2.1 14 (by decide)).trans ((hx72.2.2.1 14 (by decide)).trans ((hx58.2.2.1 14 (by decide)).trans (hx1.2.2.1 14 (by decide))))) _)) ?_
                refine gz_aload_n dX12_tells_149 rfl rfl ?_
                refine mg_44 hS_81 dX12_tells_150 ?_
                refine gz_iload_n dX12_tells_153 rfl rfl ?_
                refine m_iald 15 hS_81 rfl (N := 880) rfl ((by exact vin_T (rfl : (x1).toInt = (x1).toInt) (by omega) (by omega))) dX12_tells_154 ?_
                refine gz_ev (w := .int ((F 15) (Int32.toNatClampNeg x1))) (congrArg Value.int (congrFun ((hx81.2.2.1 15 (by decide)).trans ((hx72.2.2.1 15 (by decide)).trans ((hx58.2.2.1 15 (by decide)).trans (hx1.2.2.1 15 (by decide))))) _)) ?_
                have hxx155 : fx [88, 89] [] [87] [] n z F G n_81 z_81 F_81 G_81 := (fx_tr (fx_tr (fx_tr (fx_tr fx_rf hx1 (by decide)) hx58 (by decide)) hx72 (by decide)) hx81 (by decide))
                refine scX12_558 (k_X12_sums (x1 := x1) (x2 := ((F 14) (Int32.toNatClampNeg x1))) (x3 := ((F 15) (Int32.toNatClampNeg x1))) hS_81 (rAll_w (fun k hk => hxx155.2.2.1 k ((by decide : ∀ k : Nat, k ∈ wK → k ∉ ([87] : List Nat)) k hk)) bA) (by omega) (by omega) (by (try rw [(show n_81 88 = (n_81 88) from rfl)]); omega)) hS_81.1 ⟨(Nat.le_of_ble_eq_true rfl), (Nat.le_of_ble_eq_true rfl)⟩ ⟨(Nat.le_of_ble_eq_true rfl), (Nat.le_of_ble_eq_true rfl)⟩ rfl rfl (Nat.le_of_ble_eq_true rfl) dX12_tells_155 ?_
                rintro f_82 ⟨n_82, z_82, F_82, G_82, hS_82, hx82, h8a_82, h8b_82⟩
                refine gz_aload_n dX12_tells_158 rfl rfl ?_
                refine gz_bipush (v := 58) dX12_tells_159 (by decide) ?_
                refine scX12_547 (k_X12_signs (x1 := 58) hS_82 (by (try rw [(show n_82 88 = (n_82 88) from rfl)]); omega)) hS_82.1 ⟨(Nat.le_of_ble_eq_true rfl), (Nat.le_of_ble_eq_true rfl)⟩ ⟨(Nat.le_of_ble_eq_true rfl), (Nat.le_of_ble_eq_true rfl)⟩ rfl rfl (Nat.le_of_ble_eq_true rfl) dX12_tells_161 ?_
                rintro f_83 ⟨n_83, z_83, F_83, G_83, hS_83, hx83, h8_83⟩
                refine gz_aload_n dX12_tells_164 rfl rfl ?_
                refine mg_20 hS_83 dX12_tells_165 ?_
                refine gz_iload_n dX12_tells_168 rfl rfl ?_
                refine m_iald 7 hS_83 rfl (N := 880) rfl ((by exact vin_T (rfl : (x1).toInt = (x1).toInt) (by omega) (by omega))) dX12_tells_169 ?_
                refine gz_ev (w := .int ((F 7) (Int32.toNatClampNeg x1))) (congrArg Value.int (congrFun ((hx83.2.2.1 7 (by decide)).trans ((hx82.2.2.1 7 (by decide)).trans ((hx81.2.2.1 7 (by decide)).trans ((hx72.2.2.1 7 (by decide)).trans ((hx58.2.2.1 7 (by decide)).trans (hx1.2.2.1 7 (by decide))))))) _)) ?_
                refine gz_bipush (v := 9) dX12_tells_170 (by decide) ?_
                refine gz_icmp_ne (tgt := 198) dX12_tells_172 (by decide) (fun c_172 => ?_) (fun c_172 => ?_)
                ·
                  try simp only [mIn_0, lgc_lt, lgc_gt, lgc_le, lgc_ge, lgc_eq] at c_172
                  try simp only [fl_lt, fl_le, fl_eq, fL_w, fL_lt, fL_le, tm1, tm10k, tm9, tm99, Int32.reduceToInt, Int64.reduceToInt, Int.not_lt, Int.not_le] at c_172
                  exact gz_vret rfl dX12_tells_198 (Nat.le_of_ble_eq_true rfl) (Nat.le_of_ble_eq_true rfl) (⟨rfl, _, _, _, _, hS_83, (fx_tr (fx_tr (fx_tr (fx_tr (fx_tr (fx_tr fx_rf hx1 (by decide)) hx58 (by decide)) hx72 (by decide)) hx81 (by decide)) hx82 (by decide)) hx83 (by decide)), (by (try rw [(show n_83 88 = (n_83 88) from rfl)]); omega), (by (try rw [(show n_83 88 = (n_83 88) from rfl)]); omega), (by (try rw [(show n_83 88 = (n_83 88) from rfl)]); omega)⟩)
                ·
                  try simp only [mIn_0, lgc_lt, lgc_gt, lgc_le, lgc_ge, lgc_eq] at c_172
                  try simp only [fl_lt, fl_le, fl_eq, fL_w, fL_lt, fL_le, tm1, tm10k, tm9, tm99, Int32.reduceToInt, Int64.reduceToInt, Int.not_lt, Int.not_le] at c_172
                  refine gz_aload_n dX12_tells_175 rfl rfl ?_
                  refine gz_iload_n dX12_tells_176 rfl rfl ?_
                  refine gz_aload_n dX12_tells_177 rfl rfl ?_
                  refine mg_38 hS_83 dX12_tells_178 ?_
                  refine gz_iload_n dX12_tells_181 rfl rfl ?_
                  refine m_iald 13 hS_83 rfl (N := 880) rfl ((by exact vin_T (rfl : (x1).toInt = (x1).toInt) (by omega) (by omega))) dX12_tells_182 ?_
                  refine gz_ev (w := .int ((F 13) (Int32.toNatClampNeg x1))) (congrArg Value.int (congrFun ((hx83.2.2.1 13 (by decide)).trans ((hx82.2.2.1 13 (by decide)).trans ((hx81.2.2.1 13 (by decide)).trans ((hx72.2.2.1 13 (by decide)).trans ((hx58.2.2.1 13 (by decide)).trans (hx1.2.2.1 13 (by decide))))))) _)) ?_
                  refine gz_aload_n dX12_tells_183 rfl rfl ?_
                  refine mg_41 hS_83 dX12_tells_184 ?_
                  refine gz_iload_n dX12_tells_187 rfl rfl ?_
                  refine m_iald 14 hS_83 rfl (N := 880) rfl ((by exact vin_T (rfl : (x1).toInt = (x1).toInt) (by omega) (by omega))) dX12_tells_188 ?_
                  refine gz_ev (w := .int ((F 14) (Int32.toNatClampNeg x1))) (congrArg Value.int (congrFun ((hx83.2.2.1 14 (by decide)).trans ((hx82.2.2.1 14 (by decide)).trans ((hx81.2.2.1 14 (by decide)).trans ((hx72.2.2.1 14 (by decide)).trans ((hx58.2.2.1 14 (by decide)).trans (hx1.2.2.1 14 (by decide))))))) _)) ?_
                  have hxx189 : fx [88, 89] [] [87] [] n z F G n_83 z_83 F_83 G_83 := (fx_tr (fx_tr (fx_tr (fx_tr (fx_tr (fx_tr fx_rf hx1 (by decide)) hx58 (by decide)) hx72 (by decide)) hx81 (by decide)) hx82 (by decide)) hx83 (by decide))
                  refine scX12_558 (k_X12_sums (x1 := x1) (x2 := ((F 13) (Int32.toNatClampNeg x1))) (x3 := ((F 14) (Int32.toNatClampNeg x1))) hS_83 (rAll_w (fun k hk => hxx189.2.2.1 k ((by decide : ∀ k : Nat, k ∈ wK → k ∉ ([87] : List Nat)) k hk)) bA) (by omega) (by omega) (by (try rw [(show n_83 88 = (n_83 88) from rfl)]); omega)) hS_83.1 ⟨(Nat.le_of_ble_eq_true rfl), (Nat.le_of_ble_eq_true rfl)⟩ ⟨(Nat.le_of_ble_eq_true rfl), (Nat.le_of_ble_eq_true rfl)⟩ rfl rfl (Nat.le_of_ble_eq_true rfl) dX12_tells_189 ?_
                  rintro f_84 ⟨n_84, z_84, F_84, G_84, hS_84, hx84, h8a_84, h8b_84⟩
                  refine gz_aload_n dX12_tells_192 rfl rfl ?_
                  refine gz_bipush (v := 58) dX12_tells_193 (by decide) ?_
                  refine scX12_547 (k_X12_signs (x1 := 58) hS_84 (by (try rw [(show n_84 88 = (n_84 88) from rfl)]); omega)) hS_84.1 ⟨(Nat.le_of_ble_eq_true rfl), (Nat.le_of_ble_eq_true rfl)⟩ ⟨(Nat.le_of_ble_eq_true rfl), (Nat.le_of_ble_eq_true rfl)⟩ rfl rfl (Nat.le_of_ble_eq_true rfl) dX12_tells_195 ?_
                  rintro f_85 ⟨n_85, z_85, F_85, G_85, hS_85, hx85, h8_85⟩
                  exact gz_vret rfl dX12_tells_198 (Nat.le_of_ble_eq_true rfl) (Nat.le_of_ble_eq_true rfl) (⟨rfl, _, _, _, _, hS_85, (fx_tr (fx_tr (fx_tr (fx_tr (fx_tr (fx_tr (fx_tr (fx_tr fx_rf hx1 (by decide)) hx58 (by decide)) hx72 (by decide)) hx81 (by decide)) hx82 (by decide)) hx83 (by decide)) hx84 (by decide)) hx85 (by decide)), (by (try rw [(show n_85 88 = (n_85 88) from rfl)]); omega), (by (try rw [(show n_85 88 = (n_85 88) from rfl)]); omega), (by (try rw [(show n_85 88 = (n_85 88) from rfl)]); omega)⟩)
        ·
          try simp only [mIn_0, lgc_lt, lgc_gt, lgc_le, lgc_ge, lgc_eq] at c_91
          try simp only [fl_lt, fl_le, fl_eq, fL_w, fL_lt, fL_le, tm1, tm10k, tm9, tm99, Int32.reduceToInt, Int64.reduceToInt, Int.not_lt, Int.not_le] at c_91
          refine gz_aload_n dX12_tells_94 rfl rfl ?_
          refine gz_bipush (v := 60) dX12_tells_95 (by decide) ?_
          refine scX12_547 (k_X12_signs (x1 := 60) hS_58 (by (try rw [(show n_58 88 = (n_58 88) from rfl)]); omega)) hS_58.1 ⟨(Nat.le_of_ble_eq_true rfl), (Nat.le_of_ble_eq_true rfl)⟩ ⟨(Nat.le_of_ble_eq_true rfl), (Nat.le_of_ble_eq_true rfl)⟩ rfl rfl (Nat.le_of_ble_eq_true rfl) dX12_tells_97 ?_
          rintro f_86 ⟨n_86, z_86, F_86, G_86, hS_86, hx86, h8_86⟩
          refine gz_aload_n dX12_tells_100 rfl rfl ?_
          refine mg_47 hS_86 dX12_tells_101 ?_
          refine gz_iload_n dX12_tells_104 rfl rfl ?_
          refine m_iald 16 hS_86 rfl (N := 880) rfl ((by exact vin_T (rfl : (x1).toInt = (x1).toInt) (by omega) (by omega))) dX12_tells_105 ?_
          refine gz_ev (w := .int ((F 16) (Int32.toNatClampNeg x1))) (congrArg Value.int (congrFun ((hx86.2.2.1 16 (by decide)).trans ((hx58.2.2.1 16 (by decide)).trans (hx1.2.2.1 16 (by decide)))) _)) ?_
          refine gz_iconst (v := 2) dX12_tells_106 (by decide) ?_
          refine gz_icmp_le (tgt := 116) dX12_tells_107 (by decide) (fun c_107 => ?_) (fun c_107 => ?_)
          ·
            try simp only [mIn_0, lgc_lt, lgc_gt, lgc_le, lgc_ge, lgc_eq] at c_107
            try simp only [fl_lt, fl_le, fl_eq, fL_w, fL_lt, fL_le, tm1, tm10k, tm9, tm99, Int32.reduceToInt, Int64.reduceToInt, Int.not_lt, Int.not_le] at c_107
            refine gz_aload_n dX12_tells_116 rfl rfl ?_
            refine mg_47 hS_86 dX12_tells_117 ?_
            refine gz_iload_n dX12_tells_120 rfl rfl ?_
            refine m_iald 16 hS_86 rfl (N := 880) rfl ((by exact vin_T (rfl : (x1).toInt = (x1).toInt) (by omega) (by omega))) dX12_tells_121 ?_
            refine gz_ev (w := .int ((F 16) (Int32.toNatClampNeg x1))) (congrArg Value.int (congrFun ((hx86.2.2.1 16 (by decide)).trans ((hx58.2.2.1 16 (by decide)).trans (hx1.2.2.1 16 (by decide)))) _)) ?_
            refine gz_if_le (tgt := 141) dX12_tells_122 (by decide) (fun c_122 => ?_) (fun c_122 => ?_)
            ·
              try simp only [mIn_0, lgc_lt, lgc_gt, lgc_le, lgc_ge, lgc_eq] at c_122
              try simp only [fl_lt, fl_le, fl_eq, fL_w, fL_lt, fL_le, tm1, tm10k, tm9, tm99, Int32.reduceToInt, Int64.reduceToInt, Int.not_lt, Int.not_le] at c_122
              refine gz_aload_n dX12_tells_141 rfl rfl ?_
              refine gz_iload_n dX12_tells_142 rfl rfl ?_
              refine gz_aload_n dX12_tells_143 rfl rfl ?_
              refine mg_41 hS_86 dX12_tells_144 ?_
              refine gz_iload_n dX12_tells_147 rfl rfl ?_
              refine m_iald 14 hS_86 rfl (N := 880) rfl ((by exact vin_T (rfl : (x1).toInt = (x1).toInt) (by omega) (by omega))) dX12_tells_148 ?_
              refine gz_ev (w := .int ((F 14) (Int32.toNatClampNeg x1))) (congrArg Value.int (congrFun ((hx86.2.2.1 14 (by decide)).trans ((hx58.2.2.1 14 (by decide)).trans (hx1.2.2.1 14 (by decide)))) _)) ?_
              refine gz_aload_n dX12_tells_149 rfl rfl ?_
              refine mg_44 hS_86 dX12_tells_150 ?_
              refine gz_iload_n dX12_tells_153 rfl rfl ?_
              refine m_iald 15 hS_86 rfl (N := 880) rfl ((by exact vin_T (rfl : (x1).toInt = (x1).toInt) (by omega) (by omega))) dX12_tells_154 ?_
              refine gz_ev (w := .int ((F 15) (Int32.toNatClampNeg x1))) (congrArg Value.int (congrFun ((hx86.2.2.1 15 (by decide)).trans ((hx58.2.2.1 15 (by decide)).trans (hx1.2.2.1 15 (by decide)))) _)) ?_
              have hxx155 : fx [88, 89] [] [87] [] n z F G n_86 z_86 F_86 G_86 := (fx_tr (fx_tr (fx_tr fx_rf hx1 (by decide)) hx58 (by decide)) hx86 (by decide))
              refine scX12_558 (k_X12_sums (x1 := x1) (x2 := ((F 14) (Int32.toNatClampNeg x1))) (x3 := ((F 15) (Int32.toNatClampNeg x1))) hS_86 (rAll_w (fun k hk => hxx155.2.2.1 k ((by decide : ∀ k : Nat, k ∈ wK → k ∉ ([87] : List Nat)) k hk)) bA) (by omega) (by omega) (by (try rw [(show n_86 88 = (n_86 88) from rfl)]); omega)) hS_86.1 ⟨(Nat.le_of_ble_eq_true rfl), (Nat.le_of_ble_eq_true rfl)⟩ ⟨(Nat.le_of_ble_eq_true rfl), (Nat.le_of_ble_eq_true rfl)⟩ rfl rfl (Nat.le_of_ble_eq_true rfl) dX12_tells_155 ?_
              rintro f_87 ⟨n_87, z_87, F_87, G_87, hS_87, hx87, h8a_87, h8b_87⟩
              refine gz_aload_n dX12_tells_158 rfl rfl ?_
              refine gz_bipush (v := 58) dX12_tells_159 (by decide) ?_
              refine scX12_547 (k_X12_signs (x1 := 58) hS_87 (by (try rw [(show n_87 88 = (n_87 88) from rfl)]); omega)) hS_87.1 ⟨(Nat.le_of_ble_eq_true rfl), (Nat.le_of_ble_eq_true rfl)⟩ ⟨(Nat.le_of_ble_eq_true rfl), (Nat.le_of_ble_eq_true rfl)⟩ rfl rfl (Nat.le_of_ble_eq_true rfl) dX12_tells_161 ?_
              rintro f_88 ⟨n_88, z_88, F_88, G_88, hS_88, hx88, h8_88⟩
              refine gz_aload_n dX12_tells_164 rfl rfl ?_
              refine mg_20 hS_88 dX12_tells_165 ?_
              refine gz_iload_n dX12_tells_168 rfl rfl ?_
              refine m_iald 7 hS_88 rfl (N := 880) rfl ((by exact vin_T (rfl : (x1).toInt = (x1).toInt) (by omega) (by omega))) dX12_tells_169 ?_
              refine gz_ev (w := .int ((F 7) (Int32.toNatClampNeg x1))) (congrArg Value.int (congrFun ((hx88.2.2.1 7 (by decide)).trans ((hx87.2.2.1 7 (by decide)).trans ((hx86.2.2.1 7 (by decide)).trans ((hx58.2.2.1 7 (by decide)).trans (hx1.2.2.1 7 (by decide)))))) _)) ?_
              refine gz_bipush (v := 9) dX12_tells_170 (by decide) ?_
              refine gz_icmp_ne (tgt := 198) dX12_tells_172 (by decide) (fun c_172 => ?_) (fun c_172 => ?_)
              ·
                try simp only [mIn_0, lgc_lt, lgc_gt, lgc_le, lgc_ge, lgc_eq] at c_172
                try simp only [fl_lt, fl_le, fl_eq, fL_w, fL_lt, fL_le, tm1, tm10k, tm9, tm99, Int32.reduceToInt, Int64.reduceToInt, Int.not_lt, Int.not_le] at c_172
                exact gz_vret rfl dX12_tells_198 (Nat.le_of_ble_eq_true rfl) (Nat.le_of_ble_eq_true rfl) (⟨rfl, _, _, _, _, hS_88, (fx_tr (fx_tr (fx_tr (fx_tr (fx_tr fx_rf hx1 (by decide)) hx58 (by decide)) hx86 (by decide)) hx87 (by decide)) hx88 (by decide)), (by (try rw [(show n_88 88 = (n_88 88) from rfl)]); omega), (by (try rw [(show n_88 88 = (n_88 88) from rfl)]); omega), (by (try rw [(show n_88 88 = (n_88 88) from rfl)]); omega)⟩)
              ·
                try simp only [mIn_0, lgc_lt, lgc_gt, lgc_le, lgc_ge, lgc_eq] at c_172
                try simp only [fl_lt, fl_le, fl_eq, fL_w, fL_lt, fL_le, tm1, tm10k, tm9, tm99, Int32.reduceToInt, Int64.reduceToInt, Int.not_lt, Int.not_le] at c_172
                refine gz_aload_n dX12_tells_175 rfl rfl ?_
                refine gz_iload_n dX12_tells_176 rfl rfl ?_
                refine gz_aload_n dX12_tells_177 rfl rfl ?_
                refine mg_38 hS_88 dX12_tells_178 ?_
                refine gz_iload_n dX12_tells_181 rfl rfl ?_
                refine m_iald 13 hS_88 rfl (N := 880) rfl ((by exact vin_T (rfl : (x1).toInt = (x1).toInt) (by omega) (by omega))) dX12_tells_182 ?_
                refine gz_ev (w := .int ((F 13) (Int32.toNatClampNeg x1))) (congrArg Value.int (congrFun ((hx88.2.2.1 13 (by decide)).trans ((hx87.2.2.1 13 (by decide)).trans ((hx86.2.2.1 13 (by decide)).trans ((hx58.2.2.1 13 (by decide)).trans (hx1.2.2.1 13 (by decide)))))) _)) ?_
                refine gz_aload_n dX12_tells_183 rfl rfl ?_
                refine mg_41 hS_88 dX12_tells_184 ?_
                refine gz_iload_n dX12_tells_187 rfl rfl ?_
                refine m_iald 14 hS_88 rfl (N := 880) rfl ((by exact vin_T (rfl : (x1).toInt = (x1).toInt) (by omega) (by omega))) dX12_tells_188 ?_
                refine gz_ev (w := .int ((F 14) (Int32.toNatClampNeg x1))) (congrArg Value.int (congrFun ((hx88.2.2.1 14 (by decide)).trans ((hx87.2.2.1 14 (by decide)).trans ((hx86.2.2.1 14 (by decide)).trans ((hx58.2.2.1 14 (by decide)).trans (hx1.2.2.1 14 (by decide)))))) _)) ?_
                have hxx189 : fx [88, 89] [] [87] [] n z F G n_88 z_88 F_88 G_88 := (fx_tr (fx_tr (fx_tr (fx_tr (fx_tr fx_rf hx1 (by decide)) hx58 (by decide)) hx86 (by decide)) hx87 (by decide)) hx88 (by decide))
                refine scX12_558 (k_X12_sums (x1 := x1) (x2 := ((F 13) (Int32.toNatClampNeg x1))) (x3 := ((F 14) (Int32.toNatClampNeg x1))) hS_88 (rAll_w (fun k hk => hxx189.2.2.1 k ((by decide : ∀ k : Nat, k ∈ wK → k ∉ ([87] : List Nat)) k hk)) bA) (by omega) (by omega) (by (try rw [(show n_88 88 = (n_88 88) from rfl)]); omega)) hS_88.1 ⟨(Nat.le_of_ble_eq_true rfl), (Nat.le_of_ble_eq_true rfl)⟩ ⟨(Nat.le_of_ble_eq_true rfl), (Nat.le_of_ble_eq_true rfl)⟩ rfl rfl (Nat.le_of_ble_eq_true rfl) dX12_tells_189 ?_
                rintro f_89 ⟨n_89, z_89, F_89, G_89, hS_89, hx89, h8a_89, h8b_89⟩
                refine gz_aload_n dX12_tells_192 rfl rfl ?_
                refine gz_bipush (v := 58) dX12_tells_193 (by decide) ?_
                refine scX12_547 (k_X12_signs (x1 := 58) hS_89 (by (try rw [(show n_89 88 = (n_89 88) from rfl)]); omega)) hS_89.1 ⟨(Nat.le_of_ble_eq_true rfl), (Nat.le_of_ble_eq_true rfl)⟩ ⟨(Nat.le_of_ble_eq_true rfl), (Nat.le_of_ble_eq_true rfl)⟩ rfl rfl (Nat.le_of_ble_eq_true rfl) dX12_tells_195 ?_
                rintro f_90 ⟨n_90, z_90, F_90, G_90, hS_90, hx90, h8_90⟩
                exact gz_vret rfl dX12_tells_198 (Nat.le_of_ble_eq_true rfl) (Nat.le_of_ble_eq_true rfl) (⟨rfl, _, _, _, _, hS_90, (fx_tr (fx_tr (fx_tr (fx_tr (fx_tr (fx_tr (fx_tr fx_rf hx1 (by decide)) hx58 (by decide)) hx86 (by decide)) hx87 (by decide)) hx88 (by decide)) hx89 (by decide)) hx90 (by decide)), (by (try rw [(show n_90 88 = (n_90 88) from rfl)]); omega), (by (try rw [(show n_90 88 = (n_90 88) from rfl)]); omega), (by (try rw [(show n_90 88 = (n_90 88) from rfl)]); omega)⟩)
            ·
              try simp only [mIn_0, lgc_lt, lgc_gt, lgc_le, lgc_ge, lgc_eq] at c_122
              try simp only [fl_lt, fl_le, fl_eq, fL_w, fL_lt, fL_le, tm1, tm10k, tm9, tm99, Int32.reduceToInt, Int64.reduceToInt, Int.not_lt, Int.not_le] at c_122
              refine gz_aload_n dX12_tells_125 rfl rfl ?_
              refine mg_47 hS_86 dX12_tells_126 ?_
              refine gz_iload_n dX12_tells_129 rfl rfl ?_
              refine m_iald 16 hS_86 rfl (N := 880) rfl ((by exact vin_T (rfl : (x1).toInt = (x1).toInt) (by omega) (by omega))) dX12_tells_130 ?_
              refine gz_ev (w := .int ((F 16) (Int32.toNatClampNeg x1))) (congrArg Value.int (congrFun ((hx86.2.2.1 16 (by decide)).trans ((hx58.2.2.1 16 (by decide)).trans (hx1.2.2.1 16 (by decide)))) _)) ?_
              refine gz_iconst (v := 4) dX12_tells_131 (by decide) ?_
              refine gz_icmp_ge (tgt := 141) dX12_tells_132 (by decide) (fun c_132 => ?_) (fun c_132 => ?_)
              ·
                try simp only [mIn_0, lgc_lt, lgc_gt, lgc_le, lgc_ge, lgc_eq] at c_132
                try simp only [fl_lt, fl_le, fl_eq, fL_w, fL_lt, fL_le, tm1, tm10k, tm9, tm99, Int32.reduceToInt, Int64.reduceToInt, Int.not_lt, Int.not_le] at c_132
                refine gz_aload_n dX12_tells_141 rfl rfl ?_
                refine gz_iload_n dX12_tells_142 rfl rfl ?_
                refine gz_aload_n dX12_tells_143 rfl rfl ?_
                refine mg_41 hS_86 dX12_tells_144 ?_
                refine gz_iload_n dX12_tells_147 rfl rfl ?_
                refine m_iald 14 hS_86 rfl (N := 880) rfl ((by exact vin_T (rfl : (x1).toInt = (x1).toInt) (by omega) (by omega))) dX12_tells_148 ?_
                refine gz_ev (w := .int ((F 14) (Int32.toNatClampNeg x1))) (congrArg Value.int (congrFun ((hx86.2.2.1 14 (by decide)).trans ((hx58.2.2.1 14 (by decide)).trans (hx1.2.2.1 14 (by decide)))) _)) ?_
                refine gz_aload_n dX12_tells_149 rfl rfl ?_
                refine mg_44 hS_86 dX12_tells_150 ?_
                refine gz_iload_n dX12_tells_153 rfl rfl ?_
                refine m_iald 15 hS_86 rfl (N := 880) rfl ((by exact vin_T (rfl : (x1).toInt = (x1).toInt) (by omega) (by omega))) dX12_tells_154 ?_
                refine gz_ev (w := .int ((F 15) (Int32.toNatClampNeg x1))) (congrArg Value.int (congrFun ((hx86.2.2.1 15 (by decide)).trans ((hx58.2.2.1 15 (by decide)).trans (hx1.2.2.1 15 (by decide)))) _)) ?_
                have hxx155 : fx [88, 89] [] [87] [] n z F G n_86 z_86 F_86 G_86 := (fx_tr (fx_tr (fx_tr fx_rf hx1 (by decide)) hx58 (by decide)) hx86 (by decide))
                refine scX12_558 (k_X12_sums (x1 := x1) (x2 := ((F 14) (Int32.toNatClampNeg x1))) (x3 := ((F 15) (Int32.toNatClampNeg x1))) hS_86 (rAll_w (fun k hk => hxx155.2.2.1 k ((by decide : ∀ k : Nat, k ∈ wK → k ∉ ([87] : List Nat)) k hk)) bA) (by omega) (by omega) (by (try rw [(show n_86 88 = (n_86 88) from rfl)]); omega)) hS_86.1 ⟨(Nat.le_of_ble_eq_true rfl), (Nat.le_of_ble_eq_true rfl)⟩ ⟨(Nat.le_of_ble_eq_true rfl), (Nat.le_of_ble_eq_true rfl)⟩ rfl rfl (Nat.le_of_ble_eq_true rfl) dX12_tells_155 ?_
                rintro f_91 ⟨n_91, z_91, F_91, G_91, hS_91, hx91, h8a_91, h8b_91⟩
                refine gz_aload_n dX12_tells_158 rfl rfl ?_
                refine gz_bipush (v := 58) dX12_tells_159 (by decide) ?_
                refine scX12_547 (k_X12_signs (x1 := 58) hS_91 (by (try rw [(show n_91 88 = (n_91 88) from rfl)]); omega)) hS_91.1 ⟨(Nat.le_of_ble_eq_true rfl), (Nat.le_of_ble_eq_true rfl)⟩ ⟨(Nat.le_of_ble_eq_true rfl), (Nat.le_of_ble_eq_true rfl)⟩ rfl rfl (Nat.le_of_ble_eq_true rfl) dX12_tells_161 ?_
                rintro f_92 ⟨n_92, z_92, F_92, G_92, hS_92, hx92, h8_92⟩
                refine gz_aload_n dX12_tells_164 rfl rfl ?_
                refine mg_20 hS_92 dX12_tells_165 ?_
                refine gz_iload_n dX12_tells_168 rfl rfl ?_
                refine m_iald 7 hS_92 rfl (N := 880) rfl ((by exact vin_T (rfl : (x1).toInt = (x1).toInt) (by omega) (by omega))) dX12_tells_169 ?_
                refine gz_ev (w := .int ((F 7) (Int32.toNatClampNeg x1))) (congrArg Value.int (congrFun ((hx92.2.2.1 7 (by decide)).trans ((hx91.2.2.1 7 (by decide)).trans ((hx86.2.2.1 7 (by decide)).trans ((hx58.2.2.1 7 (by decide)).trans (hx1.2.2.1 7 (by decide)))))) _)) ?_
                refine gz_bipush (v := 9) dX12_tells_170 (by decide) ?_
                refine gz_icmp_ne (tgt := 198) dX12_tells_172 (by decide) (fun c_172 => ?_) (fun c_172 => ?_)
                ·
                  try simp only [mIn_0, lgc_lt, lgc_gt, lgc_le, lgc_ge, lgc_eq] at c_172
                  try simp only [fl_lt, fl_le, fl_eq, fL_w, fL_lt, fL_le, tm1, tm10k, tm9, tm99, Int32.reduceToInt, Int64.reduceToInt, Int.not_lt, Int.not_le] at c_172
                  exact gz_vret rfl dX12_tells_198 (Nat.le_of_ble_eq_true rfl) (Nat.le_of_ble_eq_true rfl) (⟨rfl, _, _, _, _, hS_92, (fx_tr (fx_tr (fx_tr (fx_tr (fx_tr fx_rf hx1 (by decide)) hx58 (by decide)) hx86 (by decide)) hx91 (by decide)) hx92 (by decide)), (by (try rw [(show n_92 88 = (n_92 88) from rfl)]); omega), (by (try rw [(show n_92 88 = (n_92 88) from rfl)]); omega), (by (try rw [(show n_92 88 = (n_92 88) from rfl)]); omega)⟩)
                ·
                  try simp only [mIn_0, lgc_lt, lgc_gt, lgc_le, lgc_ge, lgc_eq] at c_172
                  try simp only [fl_lt, fl_le, fl_eq, fL_w, fL_lt, fL_le, tm1, tm10k, tm9, tm99, Int32.reduceToInt, Int64.reduceToInt, Int.not_lt, Int.not_le] at c_172
                  refine gz_aload_n dX12_tells_175 rfl rfl ?_
                  refine gz_iload_n dX12_tells_176 rfl rfl ?_
                  refine gz_aload_n dX12_tells_177 rfl rfl ?_
                  refine mg_38 hS_92 dX12_tells_178 ?_
                  refine gz_iload_n dX12_tells_181 rfl rfl ?_
                  refine m_iald 13 hS_92 rfl (N := 880) rfl ((by exact vin_T (rfl : (x1).toInt = (x1).toInt) (by omega) (by omega))) dX12_tells_182 ?_
                  refine gz_ev (w := .int ((F 13) (Int32.toNatClampNeg x1))) (congrArg Value.int (congrFun ((hx92.2.2.1 13 (by decide)).trans ((hx91.2.2.1 13 (by decide)).trans ((hx86.2.2.1 13 (by decide)).trans ((hx58.2.2.1 13 (by decide)).trans (hx1.2.2.1 13 (by decide)))))) _)) ?_
                  refine gz_aload_n dX12_tells_183 rfl rfl ?_
                  refine mg_41 hS_92 dX12_tells_184 ?_
                  refine gz_iload_n dX12_tells_187 rfl rfl ?_
                  refine m_iald 14 hS_92 rfl (N := 880) rfl ((by exact vin_T (rfl : (x1).toInt = (x1).toInt) (by omega) (by omega))) dX12_tells_188 ?_
                  refine gz_ev (w := .int ((F 14) (Int32.toNatClampNeg x1))) (congrArg Value.int (congrFun ((hx92.2.2.1 14 (by decide)).trans ((hx91.2.2.1 14 (by decide)).trans ((hx86.2.2.1 14 (by decide)).trans ((hx58.2.2.1 14 (by decide)).trans (hx1.2.2.1 14 (by decide)))))) _)) ?_
                  have hxx189 : fx [88, 89] [] [87] [] n z F G n_92 z_92 F_92 G_92 := (fx_tr (fx_tr (fx_tr (fx_tr (fx_tr fx_rf hx1 (by decide)) hx58 (by decide)) hx86 (by decide)) hx91 (by decide)) hx92 (by decide))
                  refine scX12_558 (k_X12_sums (x1 := x1) (x2 := ((F 13) (Int32.toNatClampNeg x1))) (x3 := ((F 14) (Int32.toNatClampNeg x1))) hS_92 (rAll_w (fun k hk => hxx189.2.2.1 k ((by decide : ∀ k : Nat, k ∈ wK → k ∉ ([87] : List Nat)) k hk)) bA) (by omega) (by omega) (by (try rw [(show n_92 88 = (n_92 88) from rfl)]); omega)) hS_92.1 ⟨(Nat.le_of_ble_eq_true rfl), (Nat.le_of_ble_eq_true rfl)⟩ ⟨(Nat.le_of_ble_eq_true rfl), (Nat.le_of_ble_eq_true rfl)⟩ rfl rfl (Nat.le_of_ble_eq_true rfl) dX12_tells_189 ?_
                  rintro f_93 ⟨n_93, z_93, F_93, G_93, hS_93, hx93, h8a_93, h8b_93⟩
                  refine gz_aload_n dX12_tells_192 rfl rfl ?_
                  refine gz_bipush (v := 58) dX12_tells_193 (by decide) ?_
                  refine scX12_547 (k_X12_signs (x1 := 58) hS_93 (by (try rw [(show n_93 88 = (n_93 88) from rfl)]); omega)) hS_93.1 ⟨(Nat.le_of_ble_eq_true rfl), (Nat.le_of_ble_eq_true rfl)⟩ ⟨(Nat.le_of_ble_eq_true rfl), (Nat.le_of_ble_eq_true rfl)⟩ rfl rfl (Nat.le_of_ble_eq_true rfl) dX12_tells_195 ?_
                  rintro f_94 ⟨n_94, z_94, F_94, G_94, hS_94, hx94, h8_94⟩
                  exact gz_vret rfl dX12_tells_198 (Nat.le_of_ble_eq_true rfl) (Nat.le_of_ble_eq_true rfl) (⟨rfl, _, _, _, _, hS_94, (fx_tr (fx_tr (fx_tr (fx_tr (fx_tr (fx_tr (fx_tr fx_rf hx1 (by decide)) hx58 (by decide)) hx86 (by decide)) hx91 (by decide)) hx92 (by decide)) hx93 (by decide)) hx94 (by decide)), (by (try rw [(show n_94 88 = (n_94 88) from rfl)]); omega), (by (try rw [(show n_94 88 = (n_94 88) from rfl)]); omega), (by (try rw [(show n_94 88 = (n_94 88) from rfl)]); omega)⟩)
              ·
                try simp only [mIn_0, lgc_lt, lgc_gt, lgc_le, lgc_ge, lgc_eq] at c_132
                try simp only [fl_lt, fl_le, fl_eq, fL_w, fL_lt, fL_le, tm1, tm10k, tm9, tm99, Int32.reduceToInt, Int64.reduceToInt, Int.not_lt, Int.not_le] at c_132
                refine gz_aload_n dX12_tells_135 rfl rfl ?_
                refine gz_bipush (v := 61) dX12_tells_136 (by decide) ?_
                refine scX12_547 (k_X12_signs (x1 := 61) hS_86 (by (try rw [(show n_86 88 = (n_86 88) from rfl)]); omega)) hS_86.1 ⟨(Nat.le_of_ble_eq_true rfl), (Nat.le_of_ble_eq_true rfl)⟩ ⟨(Nat.le_of_ble_eq_true rfl), (Nat.le_of_ble_eq_true rfl)⟩ rfl rfl (Nat.le_of_ble_eq_true rfl) dX12_tells_138 ?_
                rintro f_95 ⟨n_95, z_95, F_95, G_95, hS_95, hx95, h8_95⟩
                refine gz_aload_n dX12_tells_141 rfl rfl ?_
                refine gz_iload_n dX12_tells_142 rfl rfl ?_
                refine gz_aload_n dX12_tells_143 rfl rfl ?_
                refine mg_41 hS_95 dX12_tells_144 ?_
                refine gz_iload_n dX12_tells_147 rfl rfl ?_
                refine m_iald 14 hS_95 rfl (N := 880) rfl ((by exact vin_T (rfl : (x1).toInt = (x1).toInt) (by omega) (by omega))) dX12_tells_148 ?_
                refine gz_ev (w := .int ((F 14) (Int32.toNatClampNeg x1))) (congrArg Value.int (congrFun ((hx95.2.2.1 14 (by decide)).trans ((hx86.2.2.1 14 (by decide)).trans ((hx58.2.2.1 14 (by decide)).trans (hx1.2.2.1 14 (by decide))))) _)) ?_
                refine gz_aload_n dX12_tells_149 rfl rfl ?_
                refine mg_44 hS_95 dX12_tells_150 ?_
                refine gz_iload_n dX12_tells_153 rfl rfl ?_
                refine m_iald 15 hS_95 rfl (N := 880) rfl ((by exact vin_T (rfl : (x1).toInt = (x1).toInt) (by omega) (by omega))) dX12_tells_154 ?_
                refine gz_ev (w := .int ((F 15) (Int32.toNatClampNeg x1))) (congrArg Value.int (congrFun ((hx95.2.2.1 15 (by decide)).trans ((hx86.2.2.1 15 (by decide)).trans ((hx58.2.2.1 15 (by decide)).trans (hx1.2.2.1 15 (by decide))))) _)) ?_
                have hxx155 : fx [88, 89] [] [87] [] n z F G n_95 z_95 F_95 G_95 := (fx_tr (fx_tr (fx_tr (fx_tr fx_rf hx1 (by decide)) hx58 (by decide)) hx86 (by decide)) hx95 (by decide))
                refine scX12_558 (k_X12_sums (x1 := x1) (x2 := ((F 14) (Int32.toNatClampNeg x1))) (x3 := ((F 15) (Int32.toNatClampNeg x1))) hS_95 (rAll_w (fun k hk => hxx155.2.2.1 k ((by decide : ∀ k : Nat, k ∈ wK → k ∉ ([87] : List Nat)) k hk)) bA) (by omega) (by omega) (by (try rw [(show n_95 88 = (n_95 88) from rfl)]); omega)) hS_95.1 ⟨(Nat.le_of_ble_eq_true rfl), (Nat.le_of_ble_eq_true rfl)⟩ ⟨(Nat.le_of_ble_eq_true rfl), (Nat.le_of_ble_eq_true rfl)⟩ rfl rfl (Nat.le_of_ble_eq_true rfl) dX12_tells_155 ?_
                rintro f_96 ⟨n_96, z_96, F_96, G_96, hS_96, hx96, h8a_96, h8b_96⟩
                refine gz_aload_n dX12_tells_158 rfl rfl ?_
                refine gz_bipush (v := 58) dX12_tells_159 (by decide) ?_
                refine scX12_547 (k_X12_signs (x1 := 58) hS_96 (by (try rw [(show n_96 88 = (n_96 88) from rfl)]); omega)) hS_96.1 ⟨(Nat.le_of_ble_eq_true rfl), (Nat.le_of_ble_eq_true rfl)⟩ ⟨(Nat.le_of_ble_eq_true rfl), (Nat.le_of_ble_eq_true rfl)⟩ rfl rfl (Nat.le_of_ble_eq_true rfl) dX12_tells_161 ?_
                rintro f_97 ⟨n_97, z_97, F_97, G_97, hS_97, hx97, h8_97⟩
                refine gz_aload_n dX12_tells_164 rfl rfl ?_
                refine mg_20 hS_97 dX12_tells_165 ?_
                refine gz_iload_n dX12_tells_168 rfl rfl ?_
                refine m_iald 7 hS_97 rfl (N := 880) rfl ((by exact vin_T (rfl : (x1).toInt = (x1).toInt) (by omega) (by omega))) dX12_tells_169 ?_
                refine gz_ev (w := .int ((F 7) (Int32.toNatClampNeg x1))) (congrArg Value.int (congrFun ((hx97.2.2.1 7 (by decide)).trans ((hx96.2.2.1 7 (by decide)).trans ((hx95.2.2.1 7 (by decide)).trans ((hx86.2.2.1 7 (by decide)).trans ((hx58.2.2.1 7 (by decide)).trans (hx1.2.2.1 7 (by decide))))))) _)) ?_
                refine gz_bipush (v := 9) dX12_tells_170 (by decide) ?_
                refine gz_icmp_ne (tgt := 198) dX12_tells_172 (by decide) (fun c_172 => ?_) (fun c_172 => ?_)
                ·
                  try simp only [mIn_0, lgc_lt, lgc_gt, lgc_le, lgc_ge, lgc_eq] at c_172
                  try simp only [fl_lt, fl_le, fl_eq, fL_w, fL_lt, fL_le, tm1, tm10k, tm9, tm99, Int32.reduceToInt, Int64.reduceToInt, Int.not_lt, Int.not_le] at c_172
                  exact gz_vret rfl dX12_tells_198 (Nat.le_of_ble_eq_true rfl) (Nat.le_of_ble_eq_true rfl) (⟨rfl, _, _, _, _, hS_97, (fx_tr (fx_tr (fx_tr (fx_tr (fx_tr (fx_tr fx_rf hx1 (by decide)) hx58 (by decide)) hx86 (by decide)) hx95 (by decide)) hx96 (by decide)) hx97 (by decide)), (by (try rw [(show n_97 88 = (n_97 88) from rfl)]); omega), (by (try rw [(show n_97 88 = (n_97 88) from rfl)]); omega), (by (try rw [(show n_97 88 = (n_97 88) from rfl)]); omega)⟩)
                ·
                  try simp only [mIn_0, lgc_lt, lgc_gt, lgc_le, lgc_ge, lgc_eq] at c_172
                  try simp only [fl_lt, fl_le, fl_eq, fL_w, fL_lt, fL_le, tm1, tm10k, tm9, tm99, Int32.reduceToInt, Int64.reduceToInt, Int.not_lt, Int.not_le] at c_172
                  refine gz_aload_n dX12_tells_175 rfl rfl ?_
                  refine gz_iload_n dX12_tells_176 rfl rfl ?_
                  refine gz_aload_n dX12_tells_177 rfl rfl ?_
                  refine mg_38 hS_97 dX12_tells_178 ?_
                  refine gz_iload_n dX12_tells_181 rfl rfl ?_
                  refine m_iald 13 hS_97 rfl (N := 880) rfl ((by exact vin_T (rfl : (x1).toInt = (x1).toInt) (by omega) (by omega))) dX12_tells_182 ?_
                  refine gz_ev (w := .int ((F 13) (Int32.toNatClampNeg x1))) (congrArg Value.int (congrFun ((hx97.2.2.1 13 (by decide)).trans ((hx96.2.2.1 13 (by decide)).trans ((hx95.2.2.1 13 (by decide)).trans ((hx86.2.2.1 13 (by decide)).trans ((hx58.2.2.1 13 (by decide)).trans (hx1.2.2.1 13 (by decide))))))) _)) ?_
                  refine gz_aload_n dX12_tells_183 rfl rfl ?_
                  refine mg_41 hS_97 dX12_tells_184 ?_
                  refine gz_iload_n dX12_tells_187 rfl rfl ?_
                  refine m_iald 14 hS_97 rfl (N := 880) rfl ((by exact vin_T (rfl : (x1).toInt = (x1).toInt) (by omega) (by omega))) dX12_tells_188 ?_
                  refine gz_ev (w := .int ((F 14) (Int32.toNatClampNeg x1))) (congrArg Value.int (congrFun ((hx97.2.2.1 14 (by decide)).trans ((hx96.2.2.1 14 (by decide)).trans ((hx95.2.2.1 14 (by decide)).trans ((hx86.2.2.1 14 (by decide)).trans ((hx58.2.2.1 14 (by decide)).trans (hx1.2.2.1 14 (by decide))))))) _)) ?_
                  have hxx189 : fx [88, 89] [] [87] [] n z F G n_97 z_97 F_97 G_97 := (fx_tr (fx_tr (fx_tr (fx_tr (fx_tr (fx_tr fx_rf hx1 (by decide)) hx58 (by decide)) hx86 (by decide)) hx95 (by decide)) hx96 (by decide)) hx97 (by decide))
                  refine scX12_558 (k_X12_sums (x1 := x1) (x2 := ((F 13) (Int32.toNatClampNeg x1))) (x3 := ((F 14) (Int32.toNatClampNeg x1))) hS_97 (rAll_w (fun k hk => hxx189.2.2.1 k ((by decide : ∀ k : Nat, k ∈ wK → k ∉ ([87] : List Nat)) k hk)) bA) (by omega) (by omega) (by (try rw [(show n_97 88 = (n_97 88) from rfl)]); omega)) hS_97.1 ⟨(Nat.le_of_ble_eq_true rfl), (Nat.le_of_ble_eq_true rfl)⟩ ⟨(Nat.le_of_ble_eq_true rfl), (Nat.le_of_ble_eq_true rfl)⟩ rfl rfl (Nat.le_of_ble_eq_true rfl) dX12_tells_189 ?_
                  rintro f_98 ⟨n_98, z_98, F_98, G_98, hS_98, hx98, h8a_98, h8b_98⟩
                  refine gz_aload_n dX12_tells_192 rfl rfl ?_
                  refine gz_bipush (v := 58) dX12_tells_193 (by decide) ?_
                  refine scX12_547 (k_X12_signs (x1 := 58) hS_98 (by (try rw [(show n_98 88 = (n_98 88) from rfl)]); omega)) hS_98.1 ⟨(Nat.le_of_ble_eq_true rfl), (Nat.le_of_ble_eq_true rfl)⟩ ⟨(Nat.le_of_ble_eq_true rfl), (Nat.le_of_ble_eq_true rfl)⟩ rfl rfl (Nat.le_of_ble_eq_true rfl) dX12_tells_195 ?_
                  rintro f_99 ⟨n_99, z_99, F_99, G_99, hS_99, hx99, h8_99⟩
                  exact gz_vret rfl dX12_tells_198 (Nat.le_of_ble_eq_true rfl) (Nat.le_of_ble_eq_true rfl) (⟨rfl, _, _, _, _, hS_99, (fx_tr (fx_tr (fx_tr (fx_tr (fx_tr (fx_tr (fx_tr (fx_tr fx_rf hx1 (by decide)) hx58 (by decide)) hx86 (by decide)) hx95 (by decide)) hx96 (by decide)) hx97 (by decide)) hx98 (by decide)) hx99 (by decide)), (by (try rw [(show n_99 88 = (n_99 88) from rfl)]); omega), (by (try rw [(show n_99 88 = (n_99 88) from rfl)]); omega), (by (try rw [(show n_99 88 = (n_99 88) from rfl)]); omega)⟩)
          ·
            try simp only [mIn_0, lgc_lt, lgc_gt, lgc_le, lgc_ge, lgc_eq] at c_107
            try simp only [fl_lt, fl_le, fl_eq, fL_w, fL_lt, fL_le, tm1, tm10k, tm9, tm99, Int32.reduceToInt, Int64.reduceToInt, Int.not_lt, Int.not_le] at c_107
            refine gz_aload_n dX12_tells_110 rfl rfl ?_
            refine gz_bipush (v := 62) dX12_tells_111 (by decide) ?_
            refine scX12_547 (k_X12_signs (x1 := 62) hS_86 (by (try rw [(show n_86 88 = (n_86 88) from rfl)]); omega)) hS_86.1 ⟨(Nat.le_of_ble_eq_true rfl), (Nat.le_of_ble_eq_true rfl)⟩ ⟨(Nat.le_of_ble_eq_true rfl), (Nat.le_of_ble_eq_true rfl)⟩ rfl rfl (Nat.le_of_ble_eq_true rfl) dX12_tells_113 ?_
            rintro f_100 ⟨n_100, z_100, F_100, G_100, hS_100, hx100, h8_100⟩
            refine gz_aload_n dX12_tells_116 rfl rfl ?_
            refine mg_47 hS_100 dX12_tells_117 ?_
            refine gz_iload_n dX12_tells_120 rfl rfl ?_
            refine m_iald 16 hS_100 rfl (N := 880) rfl ((by exact vin_T (rfl : (x1).toInt = (x1).toInt) (by omega) (by omega))) dX12_tells_121 ?_
            refine gz_ev (w := .int ((F 16) (Int32.toNatClampNeg x1))) (congrArg Value.int (congrFun ((hx100.2.2.1 16 (by decide)).trans ((hx86.2.2.1 16 (by decide)).trans ((hx58.2.2.1 16 (by decide)).trans (hx1.2.2.1 16 (by decide))))) _)) ?_
            refine gz_if_le (tgt := 141) dX12_tells_122 (by decide) (fun c_122 => ?_) (fun c_122 => ?_)
            ·
              try simp only [mIn_0, lgc_lt, lgc_gt, lgc_le, lgc_ge, lgc_eq] at c_122
              try simp only [fl_lt, fl_le, fl_eq, fL_w, fL_lt, fL_le, tm1, tm10k, tm9, tm99, Int32.reduceToInt, Int64.reduceToInt, Int.not_lt, Int.not_le] at c_122
              refine gz_aload_n dX12_tells_141 rfl rfl ?_
              refine gz_iload_n dX12_tells_142 rfl rfl ?_
              refine gz_aload_n dX12_tells_143 rfl rfl ?_
              refine mg_41 hS_100 dX12_tells_144 ?_
              refine gz_iload_n dX12_tells_147 rfl rfl ?_
              refine m_iald 14 hS_100 rfl (N := 880) rfl ((by exact vin_T (rfl : (x1).toInt = (x1).toInt) (by omega) (by omega))) dX12_tells_148 ?_
              refine gz_ev (w := .int ((F 14) (Int32.toNatClampNeg x1))) (congrArg Value.int (congrFun ((hx100.2.2.1 14 (by decide)).trans ((hx86.2.2.1 14 (by decide)).trans ((hx58.2.2.1 14 (by decide)).trans (hx1.2.2.1 14 (by decide))))) _)) ?_
              refine gz_aload_n dX12_tells_149 rfl rfl ?_
              refine mg_44 hS_100 dX12_tells_150 ?_
              refine gz_iload_n dX12_tells_153 rfl rfl ?_
              refine m_iald 15 hS_100 rfl (N := 880) rfl ((by exact vin_T (rfl : (x1).toInt = (x1).toInt) (by omega) (by omega))) dX12_tells_154 ?_
              refine gz_ev (w := .int ((F 15) (Int32.toNatClampNeg x1))) (congrArg Value.int (congrFun ((hx100.2.2.1 15 (by decide)).trans ((hx86.2.2.1 15 (by decide)).trans ((hx58.2.2.1 15 (by decide)).trans (hx1.2.2.1 15 (by decide))))) _)) ?_
              have hxx155 : fx [88, 89] [] [87] [] n z F G n_100 z_100 F_100 G_100 := (fx_tr (fx_tr (fx_tr (fx_tr fx_rf hx1 (by decide)) hx58 (by decide)) hx86 (by decide)) hx100 (by decide))
              refine scX12_558 (k_X12_sums (x1 := x1) (x2 := ((F 14) (Int32.toNatClampNeg x1))) (x3 := ((F 15) (Int32.toNatClampNeg x1))) hS_100 (rAll_w (fun k hk => hxx155.2.2.1 k ((by decide : ∀ k : Nat, k ∈ wK → k ∉ ([87] : List Nat)) k hk)) bA) (by omega) (by omega) (by (try rw [(show n_100 88 = (n_100 88) from rfl)]); omega)) hS_100.1 ⟨(Nat.le_of_ble_eq_true rfl), (Nat.le_of_ble_eq_true rfl)⟩ ⟨(Nat.le_of_ble_eq_true rfl), (Nat.le_of_ble_eq_true rfl)⟩ rfl rfl (Nat.le_of_ble_eq_true rfl) dX12_tells_155 ?_
              rintro f_101 ⟨n_101, z_101, F_101, G_101, hS_101, hx101, h8a_101, h8b_101⟩
              refine gz_aload_n dX12_tells_158 rfl rfl ?_
              refine gz_bipush (v := 58) dX12_tells_159 (by decide) ?_
              refine scX12_547 (k_X12_signs (x1 := 58) hS_101 (by (try rw [(show n_101 88 = (n_101 88) from rfl)]); omega)) hS_101.1 ⟨(Nat.le_of_ble_eq_true rfl), (Nat.le_of_ble_eq_true rfl)⟩ ⟨(Nat.le_of_ble_eq_true rfl), (Nat.le_of_ble_eq_true rfl)⟩ rfl rfl (Nat.le_of_ble_eq_true rfl) dX12_tells_161 ?_
              rintro f_102 ⟨n_102, z_102, F_102, G_102, hS_102, hx102, h8_102⟩
              refine gz_aload_n dX12_tells_164 rfl rfl ?_
              refine mg_20 hS_102 dX12_tells_165 ?_
              refine gz_iload_n dX12_tells_168 rfl rfl ?_
              refine m_iald 7 hS_102 rfl (N := 880) rfl ((by exact vin_T (rfl : (x1).toInt = (x1).toInt) (by omega) (by omega))) dX12_tells_169 ?_
              refine gz_ev (w := .int ((F 7) (Int32.toNatClampNeg x1))) (congrArg Value.int (congrFun ((hx102.2.2.1 7 (by decide)).trans ((hx101.2.2.1 7 (by decide)).trans ((hx100.2.2.1 7 (by decide)).trans ((hx86.2.2.1 7 (by decide)).trans ((hx58.2.2.1 7 (by decide)).trans (hx1.2.2.1 7 (by decide))))))) _)) ?_
              refine gz_bipush (v := 9) dX12_tells_170 (by decide) ?_
              refine gz_icmp_ne (tgt := 198) dX12_tells_172 (by decide) (fun c_172 => ?_) (fun c_172 => ?_)
              ·
                try simp only [mIn_0, lgc_lt, lgc_gt, lgc_le, lgc_ge, lgc_eq] at c_172
                try simp only [fl_lt, fl_le, fl_eq, fL_w, fL_lt, fL_le, tm1, tm10k, tm9, tm99, Int32.reduceToInt, Int64.reduceToInt, Int.not_lt, Int.not_le] at c_172
                exact gz_vret rfl dX12_tells_198 (Nat.le_of_ble_eq_true rfl) (Nat.le_of_ble_eq_true rfl) (⟨rfl, _, _, _, _, hS_102, (fx_tr (fx_tr (fx_tr (fx_tr (fx_tr (fx_tr fx_rf hx1 (by decide)) hx58 (by decide)) hx86 (by decide)) hx100 (by decide)) hx101 (by decide)) hx102 (by decide)), (by (try rw [(show n_102 88 = (n_102 88) from rfl)]); omega), (by (try rw [(show n_102 88 = (n_102 88) from rfl)]); omega), (by (try rw [(show n_102 88 = (n_102 88) from rfl)]); omega)⟩)
              ·
                try simp only [mIn_0, lgc_lt, lgc_gt, lgc_le, lgc_ge, lgc_eq] at c_172
                try simp only [fl_lt, fl_le, fl_eq, fL_w, fL_lt, fL_le, tm1, tm10k, tm9, tm99, Int32.reduceToInt, Int64.reduceToInt, Int.not_lt, Int.not_le] at c_172
                refine gz_aload_n dX12_tells_175 rfl rfl ?_
                refine gz_iload_n dX12_tells_176 rfl rfl ?_
                refine gz_aload_n dX12_tells_177 rfl rfl ?_
                refine mg_38 hS_102 dX12_tells_178 ?_
                refine gz_iload_n dX12_tells_181 rfl rfl ?_
                refine m_iald 13 hS_102 rfl (N := 880) rfl ((by exact vin_T (rfl : (x1).toInt = (x1).toInt) (by omega) (by omega))) dX12_tells_182 ?_
                refine gz_ev (w := .int ((F 13) (Int32.toNatClampNeg x1))) (congrArg Value.int (congrFun ((hx102.2.2.1 13 (by decide)).trans ((hx101.2.2.1 13 (by decide)).trans ((hx100.2.2.1 13 (by decide)).trans ((hx86.2.2.1 13 (by decide)).trans ((hx58.2.2.1 13 (by decide)).trans (hx1.2.2.1 13 (by decide))))))) _)) ?_
                refine gz_aload_n dX12_tells_183 rfl rfl ?_
                refine mg_41 hS_102 dX12_tells_184 ?_
                refine gz_iload_n dX12_tells_187 rfl rfl ?_
                refine m_iald 14 hS_102 rfl (N := 880) rfl ((by exact vin_T (rfl : (x1).toInt = (x1).toInt) (by omega) (by omega))) dX12_tells_188 ?_
                refine gz_ev (w := .int ((F 14) (Int32.toNatClampNeg x1))) (congrArg Value.int (congrFun ((hx102.2.2.1 14 (by decide)).trans ((hx101.2.2.1 14 (by decide)).trans ((hx100.2.2.1 14 (by decide)).trans ((hx86.2.2.1 14 (by decide)).trans ((hx58.2.2.1 14 (by decide)).trans (hx1.2.2.1 14 (by decide))))))) _)) ?_
                have hxx189 : fx [88, 89] [] [87] [] n z F G n_102 z_102 F_102 G_102 := (fx_tr (fx_tr (fx_tr (fx_tr (fx_tr (fx_tr fx_rf hx1 (by decide)) hx58 (by decide)) hx86 (by decide)) hx100 (by decide)) hx101 (by decide)) hx102 (by decide))
                refine scX12_558 (k_X12_sums (x1 := x1) (x2 := ((F 13) (Int32.toNatClampNeg x1))) (x3 := ((F 14) (Int32.toNatClampNeg x1))) hS_102 (rAll_w (fun k hk => hxx189.2.2.1 k ((by decide : ∀ k : Nat, k ∈ wK → k ∉ ([87] : List Nat)) k hk)) bA) (by omega) (by omega) (by (try rw [(show n_102 88 = (n_102 88) from rfl)]); omega)) hS_102.1 ⟨(Nat.le_of_ble_eq_true rfl), (Nat.le_of_ble_eq_true rfl)⟩ ⟨(Nat.le_of_ble_eq_true rfl), (Nat.le_of_ble_eq_true rfl)⟩ rfl rfl (Nat.le_of_ble_eq_true rfl) dX12_tells_189 ?_
                rintro f_103 ⟨n_103, z_103, F_103, G_103, hS_103, hx103, h8a_103, h8b_103⟩
                refine gz_aload_n dX12_tells_192 rfl rfl ?_
                refine gz_bipush (v := 58) dX12_tells_193 (by decide) ?_
                refine scX12_547 (k_X12_signs (x1 := 58) hS_103 (by (try rw [(show n_103 88 = (n_103 88) from rfl)]); omega)) hS_103.1 ⟨(Nat.le_of_ble_eq_true rfl), (Nat.le_of_ble_eq_true rfl)⟩ ⟨(Nat.le_of_ble_eq_true rfl), (Nat.le_of_ble_eq_true rfl)⟩ rfl rfl (Nat.le_of_ble_eq_true rfl) dX12_tells_195 ?_
                rintro f_104 ⟨n_104, z_104, F_104, G_104, hS_104, hx104, h8_104⟩
                exact gz_vret rfl dX12_tells_198 (Nat.le_of_ble_eq_true rfl) (Nat.le_of_ble_eq_true rfl) (⟨rfl, _, _, _, _, hS_104, (fx_tr (fx_tr (fx_tr (fx_tr (fx_tr (fx_tr (fx_tr (fx_tr fx_rf hx1 (by decide)) hx58 (by decide)) hx86 (by decide)) hx100 (by decide)) hx101 (by decide)) hx102 (by decide)) hx103 (by decide)) hx104 (by decide)), (by (try rw [(show n_104 88 = (n_104 88) from rfl)]); omega), (by (try rw [(show n_104 88 = (n_104 88) from rfl)]); omega), (by (try rw [(show n_104 88 = (n_104 88) from rfl)]); omega)⟩)
            ·
              try simp only [mIn_0, lgc_lt, lgc_gt, lgc_le, lgc_ge, lgc_eq] at c_122
              try simp only [fl_lt, fl_le, fl_eq, fL_w, fL_lt, fL_le, tm1, tm10k, tm9, tm99, Int32.reduceToInt, Int64.reduceToInt, Int.not_lt, Int.not_le] at c_122
              refine gz_aload_n dX12_tells_125 rfl rfl ?_
              refine mg_47 hS_100 dX12_tells_126 ?_
              refine gz_iload_n dX12_tells_129 rfl rfl ?_
              refine m_iald 16 hS_100 rfl (N := 880) rfl ((by exact vin_T (rfl : (x1).toInt = (x1).toInt) (by omega) (by omega))) dX12_tells_130 ?_
              refine gz_ev (w := .int ((F 16) (Int32.toNatClampNeg x1))) (congrArg Value.int (congrFun ((hx100.2.2.1 16 (by decide)).trans ((hx86.2.2.1 16 (by decide)).trans ((hx58.2.2.1 16 (by decide)).trans (hx1.2.2.1 16 (by decide))))) _)) ?_
              refine gz_iconst (v := 4) dX12_tells_131 (by decide) ?_
              refine gz_icmp_ge (tgt := 141) dX12_tells_132 (by decide) (fun c_132 => ?_) (fun c_132 => ?_)
              ·
                try simp only [mIn_0, lgc_lt, lgc_gt, lgc_le, lgc_ge, lgc_eq] at c_132
                try simp only [fl_lt, fl_le, fl_eq, fL_w, fL_lt, fL_le, tm1, tm10k, tm9, tm99, Int32.reduceToInt, Int64.reduceToInt, Int.not_lt, Int.not_le] at c_132
                refine gz_aload_n dX12_tells_141 rfl rfl ?_
                refine gz_iload_n dX12_tells_142 rfl rfl ?_
                refine gz_aload_n dX12_tells_143 rfl rfl ?_
                refine mg_41 hS_100 dX12_tells_144 ?_
                refine gz_iload_n dX12_tells_147 rfl rfl ?_
                refine m_iald 14 hS_100 rfl (N := 880) rfl ((by exact vin_T (rfl : (x1).toInt = (x1).toInt) (by omega) (by omega))) dX12_tells_148 ?_
                refine gz_ev (w := .int ((F 14) (Int32.toNatClampNeg x1))) (congrArg Value.int (congrFun ((hx100.2.2.1 14 (by decide)).trans ((hx86.2.2.1 14 (by decide)).trans ((hx58.2.2.1 14 (by decide)).trans (hx1.2.2.1 14 (by decide))))) _)) ?_
                refine gz_aload_n dX12_tells_149 rfl rfl ?_
                refine mg_44 hS_100 dX12_tells_150 ?_
                refine gz_iload_n dX12_tells_153 rfl rfl ?_
                refine m_iald 15 hS_100 rfl (N := 880) rfl ((by exact vin_T (rfl : (x1).toInt = (x1).toInt) (by omega) (by omega))) dX12_tells_154 ?_
                refine gz_ev (w := .int ((F 15) (Int32.toNatClampNeg x1))) (congrArg Value.int (congrFun ((hx100.2.2.1 15 (by decide)).trans ((hx86.2.2.1 15 (by decide)).trans ((hx58.2.2.1 15 (by decide)).trans (hx1.2.2.1 15 (by decide))))) _)) ?_
                have hxx155 : fx [88, 89] [] [87] [] n z F G n_100 z_100 F_100 G_100 := (fx_tr (fx_tr (fx_tr (fx_tr fx_rf hx1 (by decide)) hx58 (by decide)) hx86 (by decide)) hx100 (by decide))
                refine scX12_558 (k_X12_sums (x1 := x1) (x2 := ((F 14) (Int32.toNatClampNeg x1))) (x3 := ((F 15) (Int32.toNatClampNeg x1))) hS_100 (rAll_w (fun k hk => hxx155.2.2.1 k ((by decide : ∀ k : Nat, k ∈ wK → k ∉ ([87] : List Nat)) k hk)) bA) (by omega) (by omega) (by (try rw [(show n_100 88 = (n_100 88) from rfl)]); omega)) hS_100.1 ⟨(Nat.le_of_ble_eq_true rfl), (Nat.le_of_ble_eq_true rfl)⟩ ⟨(Nat.le_of_ble_eq_true rfl), (Nat.le_of_ble_eq_true rfl)⟩ rfl rfl (Nat.le_of_ble_eq_true rfl) dX12_tells_155 ?_
                rintro f_105 ⟨n_105, z_105, F_105, G_105, hS_105, hx105, h8a_105, h8b_105⟩
                refine gz_aload_n dX12_tells_158 rfl rfl ?_
                refine gz_bipush (v := 58) dX12_tells_159 (by decide) ?_
                refine scX12_547 (k_X12_signs (x1 := 58) hS_105 (by (try rw [(show n_105 88 = (n_105 88) from rfl)]); omega)) hS_105.1 ⟨(Nat.le_of_ble_eq_true rfl), (Nat.le_of_ble_eq_true rfl)⟩ ⟨(Nat.le_of_ble_eq_true rfl), (Nat.le_of_ble_eq_true rfl)⟩ rfl rfl (Nat.le_of_ble_eq_true rfl) dX12_tells_161 ?_
                rintro f_106 ⟨n_106, z_106, F_106, G_106, hS_106, hx106, h8_106⟩
                refine gz_aload_n dX12_tells_164 rfl rfl ?_
                refine mg_20 hS_106 dX12_tells_165 ?_
                refine gz_iload_n dX12_tells_168 rfl rfl ?_
                refine m_iald 7 hS_106 rfl (N := 880) rfl ((by exact vin_T (rfl : (x1).toInt = (x1).toInt) (by omega) (by omega))) dX12_tells_169 ?_
                refine gz_ev (w := .int ((F 7) (Int32.toNatClampNeg x1))) (congrArg Value.int (congrFun ((hx106.2.2.1 7 (by decide)).trans ((hx105.2.2.1 7 (by decide)).trans ((hx100.2.2.1 7 (by decide)).trans ((hx86.2.2.1 7 (by decide)).trans ((hx58.2.2.1 7 (by decide)).trans (hx1.2.2.1 7 (by decide))))))) _)) ?_
                refine gz_bipush (v := 9) dX12_tells_170 (by decide) ?_
                refine gz_icmp_ne (tgt := 198) dX12_tells_172 (by decide) (fun c_172 => ?_) (fun c_172 => ?_)
                ·
                  try simp only [mIn_0, lgc_lt, lgc_gt, lgc_le, lgc_ge, lgc_eq] at c_172
                  try simp only [fl_lt, fl_le, fl_eq, fL_w, fL_lt, fL_le, tm1, tm10k, tm9, tm99, Int32.reduceToInt, Int64.reduceToInt, Int.not_lt, Int.not_le] at c_172
                  exact gz_vret rfl dX12_tells_198 (Nat.le_of_ble_eq_true rfl) (Nat.le_of_ble_eq_true rfl) (⟨rfl, _, _, _, _, hS_106, (fx_tr (fx_tr (fx_tr (fx_tr (fx_tr (fx_tr fx_rf hx1 (by decide)) hx58 (by decide)) hx86 (by decide)) hx100 (by decide)) hx105 (by decide)) hx106 (by decide)), (by (try rw [(show n_106 88 = (n_106 88) from rfl)]); omega), (by (try rw [(show n_106 88 = (n_106 88) from rfl)]); omega), (by (try rw [(show n_106 88 = (n_106 88) from rfl)]); omega)⟩)
                ·
                  try simp only [mIn_0, lgc_lt, lgc_gt, lgc_le, lgc_ge, lgc_eq] at c_172
                  try simp only [fl_lt, fl_le, fl_eq, fL_w, fL_lt, fL_le, tm1, tm10k, tm9, tm99, Int32.reduceToInt, Int64.reduceToInt, Int.not_lt, Int.not_le] at c_172
                  refine gz_aload_n dX12_tells_175 rfl rfl ?_
                  refine gz_iload_n dX12_tells_176 rfl rfl ?_
                  refine gz_aload_n dX12_tells_177 rfl rfl ?_
                  refine mg_38 hS_106 dX12_tells_178 ?_
                  refine gz_iload_n dX12_tells_181 rfl rfl ?_
                  refine m_iald 13 hS_106 rfl (N := 880) rfl ((by exact vin_T (rfl : (x1).toInt = (x1).toInt) (by omega) (by omega))) dX12_tells_182 ?_
                  refine gz_ev (w := .int ((F 13) (Int32.toNatClampNeg x1))) (congrArg Value.int (congrFun ((hx106.2.2.1 13 (by decide)).trans ((hx105.2.2.1 13 (by decide)).trans ((hx100.2.2.1 13 (by decide)).trans ((hx86.2.2.1 13 (by decide)).trans ((hx58.2.2.1 13 (by decide)).trans (hx1.2.2.1 13 (by decide))))))) _)) ?_
                  refine gz_aload_n dX12_tells_183 rfl rfl ?_
                  refine mg_41 hS_106 dX12_tells_184 ?_
                  refine gz_iload_n dX12_tells_187 rfl rfl ?_
                  refine m_iald 14 hS_106 rfl (N := 880) rfl ((by exact vin_T (rfl : (x1).toInt = (x1).toInt) (by omega) (by omega))) dX12_tells_188 ?_
                  refine gz_ev (w := .int ((F 14) (Int32.toNatClampNeg x1))) (congrArg Value.int (congrFun ((hx106.2.2.1 14 (by decide)).trans ((hx105.2.2.1 14 (by decide)).trans ((hx100.2.2.1 14 (by decide)).trans ((hx86.2.2.1 14 (by decide)).trans ((hx58.2.2.1 14 (by decide)).trans (hx1.2.2.1 14 (by decide))))))) _)) ?_
                  have hxx189 : fx [88, 89] [] [87] [] n z F G n_106 z_106 F_106 G_106 := (fx_tr (fx_tr (fx_tr (fx_tr (fx_tr (fx_tr fx_rf hx1 (by decide)) hx58 (by decide)) hx86 (by decide)) hx100 (by decide)) hx105 (by decide)) hx106 (by decide))
                  refine scX12_558 (k_X12_sums (x1 := x1) (x2 := ((F 13) (Int32.toNatClampNeg x1))) (x3 := ((F 14) (Int32.toNatClampNeg x1))) hS_106 (rAll_w (fun k hk => hxx189.2.2.1 k ((by decide : ∀ k : Nat, k ∈ wK → k ∉ ([87] : List Nat)) k hk)) bA) (by omega) (by omega) (by (try rw [(show n_106 88 = (n_106 88) from rfl)]); omega)) hS_106.1 ⟨(Nat.le_of_ble_eq_true rfl), (Nat.le_of_ble_eq_true rfl)⟩ ⟨(Nat.le_of_ble_eq_true rfl), (Nat.le_of_ble_eq_true rfl)⟩ rfl rfl (Nat.le_of_ble_eq_true rfl) dX12_tells_189 ?_
                  rintro f_107 ⟨n_107, z_107, F_107, G_107, hS_107, hx107, h8a_107, h8b_107⟩
                  refine gz_aload_n dX12_tells_192 rfl rfl ?_
                  refine gz_bipush (v := 58) dX12_tells_193 (by decide) ?_
                  refine scX12_547 (k_X12_signs (x1 := 58) hS_107 (by (try rw [(show n_107 88 = (n_107 88) from rfl)]); omega)) hS_107.1 ⟨(Nat.le_of_ble_eq_true rfl), (Nat.le_of_ble_eq_true rfl)⟩ ⟨(Nat.le_of_ble_eq_true rfl), (Nat.le_of_ble_eq_true rfl)⟩ rfl rfl (Nat.le_of_ble_eq_true rfl) dX12_tells_195 ?_
                  rintro f_108 ⟨n_108, z_108, F_108, G_108, hS_108, hx108, h8_108⟩
                  exact gz_vret rfl dX12_tells_198 (Nat.le_of_ble_eq_true rfl) (Nat.le_of_ble_eq_true rfl) (⟨rfl, _, _, _, _, hS_108, (fx_tr (fx_tr (fx_tr (fx_tr (fx_tr (fx_tr (fx_tr (fx_tr fx_rf hx1 (by decide)) hx58 (by decide)) hx86 (by decide)) hx100 (by decide)) hx105 (by decide)) hx106 (by decide)) hx107 (by decide)) hx108 (by decide)), (by (try rw [(show n_108 88 = (n_108 88) from rfl)]); omega), (by (try rw [(show n_108 88 = (n_108 88) from rfl)]); omega), (by (try rw [(show n_108 88 = (n_108 88) from rfl)]); omega)⟩)
              ·
                try simp only [mIn_0, lgc_lt, lgc_gt, lgc_le, lgc_ge, lgc_eq] at c_132
                try simp only [fl_lt, fl_le, fl_eq, fL_w, fL_lt, fL_le, tm1, tm10k, tm9, tm99, Int32.reduceToInt, Int64.reduceToInt, Int.not_lt, Int.not_le] at c_132
                refine gz_aload_n dX12_tells_135 rfl rfl ?_
                refine gz_bipush (v := 61) dX12_tells_136 (by decide) ?_
                refine scX12_547 (k_X12_signs (x1 := 61) hS_100 (by (try rw [(show n_100 88 = (n_100 88) from rfl)]); omega)) hS_100.1 ⟨(Nat.le_of_ble_eq_true rfl), (Nat.le_of_ble_eq_true rfl)⟩ ⟨(Nat.le_of_ble_eq_true rfl), (Nat.le_of_ble_eq_true rfl)⟩ rfl rfl (Nat.le_of_ble_eq_true rfl) dX12_tells_138 ?_
                rintro f_109 ⟨n_109, z_109, F_109, G_109, hS_109, hx109, h8_109⟩
                refine gz_aload_n dX12_tells_141 rfl rfl ?_
                refine gz_iload_n dX12_tells_142 rfl rfl ?_
                refine gz_aload_n dX12_tells_143 rfl rfl ?_
                refine mg_41 hS_109 dX12_tells_144 ?_
                refine gz_iload_n dX12_tells_147 rfl rfl ?_
                refine m_iald 14 hS_109 rfl (N := 880) rfl ((by exact vin_T (rfl : (x1).toInt = (x1).toInt) (by omega) (by omega))) dX12_tells_148 ?_
                refine gz_ev (w := .int ((F 14) (Int32.toNatClampNeg x1))) (congrArg Value.int (congrFun ((hx109.2.2.1 14 (by decide)).trans ((hx100.2.2.1 14 (by decide)).trans ((hx86.2.2.1 14 (by decide)).trans ((hx58.2.2.1 14 (by decide)).trans (hx1.2.2.1 14 (by decide)))))) _)) ?_
                refine gz_aload_n dX12_tells_149 rfl rfl ?_
                refine mg_44 hS_109 dX12_tells_150 ?_
                refine gz_iload_n dX12_tells_153 rfl rfl ?_
                refine m_iald 15 hS_109 rfl (N := 880) rfl ((by exact vin_T (rfl : (x1).toInt = (x1).toInt) (by omega) (by omega))) dX12_tells_154 ?_
                refine gz_ev (w := .int ((F 15) (Int32.toNatClampNeg x1))) (congrArg Value.int (congrFun ((hx109.2.2.1 15 (by decide)).trans ((hx100.2.2.1 15 (by decide)).trans ((hx86.2.2.1 15 (by decide)).trans ((hx58.2.2.1 15 (by decide)).trans (hx1.2.2.1 15 (by decide)))))) _)) ?_
                have hxx155 : fx [88, 89] [] [87] [] n z F G n_109 z_109 F_109 G_109 := (fx_tr (fx_tr (fx_tr (fx_tr (fx_tr fx_rf hx1 (by decide)) hx58 (by decide)) hx86 (by decide)) hx100 (by decide)) hx109 (by decide))
                refine scX12_558 (k_X12_sums (x1 := x1) (x2 := ((F 14) (Int32.toNatClampNeg x1))) (x3 := ((F 15) (Int32.toNatClampNeg x1))) hS_109 (rAll_w (fun k hk => hxx155.2.2.1 k ((by decide : ∀ k : Nat, k ∈ wK → k ∉ ([87] : List Nat)) k hk)) bA) (by omega) (by omega) (by (try rw [(show n_109 88 = (n_109 88) from rfl)]); omega)) hS_109.1 ⟨(Nat.le_of_ble_eq_true rfl), (Nat.le_of_ble_eq_true rfl)⟩ ⟨(Nat.le_of_ble_eq_true rfl), (Nat.le_of_ble_eq_true rfl)⟩ rfl rfl (Nat.le_of_ble_eq_true rfl) dX12_tells_155 ?_
                rintro f_110 ⟨n_110, z_110, F_110, G_110, hS_110, hx110, h8a_110, h8b_110⟩
                refine gz_aload_n dX12_tells_158 rfl rfl ?_
                refine gz_bipush (v := 58) dX12_tells_159 (by decide) ?_
                refine scX12_547 (k_X12_signs (x1 := 58) hS_110 (by (try rw [(show n_110 88 = (n_110 88) from rfl)]); omega)) hS_110.1 ⟨(Nat.le_of_ble_eq_true rfl), (Nat.le_of_ble_eq_true rfl)⟩ ⟨(Nat.le_of_ble_eq_true rfl), (Nat.le_of_ble_eq_true rfl)⟩ rfl rfl (Nat.le_of_ble_eq_true rfl) dX12_tells_161 ?_
                rintro f_111 ⟨n_111, z_111, F_111, G_111, hS_111, hx111, h8_111⟩
                refine gz_aload_n dX12_tells_164 rfl rfl ?_
                refine mg_20 hS_111 dX12_tells_165 ?_
                refine gz_iload_n dX12_tells_168 rfl rfl ?_
                refine m_iald 7 hS_111 rfl (N := 880) rfl ((by exact vin_T (rfl : (x1).toInt = (x1).toInt) (by omega) (by omega))) dX12_tells_169 ?_
                refine gz_ev (w := .int ((F 7) (Int32.toNatClampNeg x1))) (congrArg Value.int (congrFun ((hx111.2.2.1 7 (by decide)).trans ((hx110.2.2.1 7 (by decide)).trans ((hx109.2.2.1 7 (by decide)).trans ((hx100.2.2.1 7 (by decide)).trans ((hx86.2.2.1 7 (by decide)).trans ((hx58.2.2.1 7 (by decide)).trans (hx1.2.2.1 7 (by decide)))))))) _)) ?_
                refine gz_bipush (v := 9) dX12_tells_170 (by decide) ?_
                refine gz_icmp_ne (tgt := 198) dX12_tells_172 (by decide) (fun c_172 => ?_) (fun c_172 => ?_)
                ·
                  try simp only [mIn_0, lgc_lt, lgc_gt, lgc_le, lgc_ge, lgc_eq] at c_172
                  try simp only [fl_lt, fl_le, fl_eq, fL_w, fL_lt, fL_le, tm1, tm10k, tm9, tm99, Int32.reduceToInt, Int64.reduceToInt, Int.not_lt, Int.not_le] at c_172
                  exact gz_vret rfl dX12_tells_198 (Nat.le_of_ble_eq_true rfl) (Nat.le_of_ble_eq_true rfl) (⟨rfl, _, _, _, _, hS_111, (fx_tr (fx_tr (fx_tr (fx_tr (fx_tr (fx_tr (fx_tr fx_rf hx1 (by decide)) hx58 (by decide)) hx86 (by decide)) hx100 (by decide)) hx109 (by decide)) hx110 (by decide)) hx111 (by decide)), (by (try rw [(show n_111 88 = (n_111 88) from rfl)]); omega), (by (try rw [(show n_111 88 = (n_111 88) from rfl)]); omega), (by (try rw [(show n_111 88 = (n_111 88) from rfl)]); omega)⟩)
                ·
                  try simp only [mIn_0, lgc_lt, lgc_gt, lgc_le, lgc_ge, lgc_eq] at c_172
                  try simp only [fl_lt, fl_le, fl_eq, fL_w, fL_lt, fL_le, tm1, tm10k, tm9, tm99, Int32.reduceToInt, Int64.reduceToInt, Int.not_lt, Int.not_le] at c_172
                  refine gz_aload_n dX12_tells_175 rfl rfl ?_
                  refine gz_iload_n dX12_tells_176 rfl rfl ?_
                  refine gz_aload_n dX12_tells_177 rfl rfl ?_
                  refine mg_38 hS_111 dX12_tells_178 ?_
                  refine gz_iload_n dX12_tells_181 rfl rfl ?_
                  refine m_iald 13 hS_111 rfl (N := 880) rfl ((by exact vin_T (rfl : (x1).toInt = (x1).toInt) (by omega) (by omega))) dX12_tells_182 ?_
                  refine gz_ev (w := .int ((F 13) (Int32.toNatClampNeg x1))) (congrArg Value.int (congrFun ((hx111.2.2.1 13 (by decide)).trans ((hx110.2.2.1 13 (by decide)).trans ((hx109.2.2.1 13 (by decide)).trans ((hx100.2.2.1 13 (by decide)).trans ((hx86.2.2.1 13 (by decide)).trans ((hx58.2.2.1 13 (by decide)).trans (hx1.2.2.1 13 (by decide)))))))) _)) ?_
                  refine gz_aload_n dX12_tells_183 rfl rfl ?_
                  refine mg_41 hS_111 dX12_tells_184 ?_
                  refine gz_iload_n dX12_tells_187 rfl rfl ?_
                  refine m_iald 14 hS_111 rfl (N := 880) rfl ((by exact vin_T (rfl : (x1).toInt = (x1).toInt) (by omega) (by omega))) dX12_tells_188 ?_
                  refine gz_ev (w := .int ((F 14) (Int32.toNatClampNeg x1))) (congrArg Value.int (congrFun ((hx111.2.2.1 14 (by decide)).trans ((hx110.2.2.1 14 (by decide)).trans ((hx109.2.2.1 14 (by decide)).trans ((hx100.2.2.1 14 (by decide)).trans ((hx86.2.2.1 14 (by decide)).trans ((hx58.2.2.1 14 (by decide)).trans (hx1.2.2.1 14 (by decide)))))))) _)) ?_
                  have hxx189 : fx [88, 89] [] [87] [] n z F G n_111 z_111 F_111 G_111 := (fx_tr (fx_tr (fx_tr (fx_tr (fx_tr (fx_tr (fx_tr fx_rf hx1 (by decide)) hx58 (by decide)) hx86 (by decide)) hx100 (by decide)) hx109 (by decide)) hx110 (by decide)) hx111 (by decide))
                  refine scX12_558 (k_X12_sums (x1 := x1) (x2 := ((F 13) (Int32.toNatClampNeg x1))) (x3 := ((F 14) (Int32.toNatClampNeg x1))) hS_111 (rAll_w (fun k hk => hxx189.2.2.1 k ((by decide : ∀ k : Nat, k ∈ wK → k ∉ ([87] : List Nat)) k hk)) bA) (by omega) (by omega) (by (try rw [(show n_111 88 = (n_111 88) from rfl)]); omega)) hS_111.1 ⟨(Nat.le_of_ble_eq_true rfl), (Nat.le_of_ble_eq_true rfl)⟩ ⟨(Nat.le_of_ble_eq_true rfl), (Nat.le_of_ble_eq_true rfl)⟩ rfl rfl (Nat.le_of_ble_eq_true rfl) dX12_tells_189 ?_
                  rintro f_112 ⟨n_112, z_112, F_112, G_112, hS_112, hx112, h8a_112, h8b_112⟩
                  refine gz_aload_n dX12_tells_192 rfl rfl ?_
                  refine gz_bipush (v := 58) dX12_tells_193 (by decide) ?_
                  refine scX12_547 (k_X12_signs (x1 := 58) hS_112 (by (try rw [(show n_112 88 = (n_112 88) from rfl)]); omega)) hS_112.1 ⟨(Nat.le_of_ble_eq_true rfl), (Nat.le_of_ble_eq_true rfl)⟩ ⟨(Nat.le_of_ble_eq_true rfl), (Nat.le_of_ble_eq_true rfl)⟩ rfl rfl (Nat.le_of_ble_eq_true rfl) dX12_tells_195 ?_
                  rintro f_113 ⟨n_113, z_113, F_113, G_113, hS_113, hx113, h8_113⟩
                  exact gz_vret rfl dX12_tells_198 (Nat.le_of_ble_eq_true rfl) (Nat.le_of_ble_eq_true rfl) (⟨rfl, _, _, _, _, hS_113, (fx_tr (fx_tr (fx_tr (fx_tr (fx_tr (fx_tr (fx_tr (fx_tr (fx_tr fx_rf hx1 (by decide)) hx58 (by decide)) hx86 (by decide)) hx100 (by decide)) hx109 (by decide)) hx110 (by decide)) hx111 (by decide)) hx112 (by decide)) hx113 (by decide)), (by (try rw [(show n_113 88 = (n_113 88) from rfl)]); omega), (by (try rw [(show n_113 88 = (n_113 88) from rfl)]); omega), (by (try rw [(show n_113 88 = (n_113 88) from rfl)]); omega)⟩)
      ·
        try simp only [mIn_0, lgc_lt, lgc_gt, lgc_le, lgc_ge, lgc_eq] at c_53
        try simp only [fl_lt, fl_le, fl_eq, fL_w, fL_lt, fL_le, tm1, tm10k, tm9, tm99, Int32.reduceToInt, Int64.reduceToInt, Int.not_lt, Int.not_le] at c_53
        refine gz_aload_n dX12_tells_56 rfl rfl ?_
        refine mg_20 hS_1 dX12_tells_57 ?_
        refine gz_iload_n dX12_tells_60 rfl rfl ?_
        refine m_iald 7 hS_1 rfl (N := 880) rfl ((by exact vin_T (rfl : (x1).toInt = (x1).toInt) (by omega) (by omega))) dX12_tells_61 ?_
        refine gz_ev (w := .int ((F 7) (Int32.toNatClampNeg x1))) (congrArg Value.int (congrFun (hx1.2.2.1 7 (by decide)) _)) ?_
        refine gz_bipush (v := 8) dX12_tells_62 (by decide) ?_
        refine gz_icmp_ne (tgt := 164) dX12_tells_64 (by decide) (fun c_64 => ?_) (fun c_64 => ?_)
        ·
          try simp only [mIn_0, lgc_lt, lgc_gt, lgc_le, lgc_ge, lgc_eq] at c_64
          try simp only [fl_lt, fl_le, fl_eq, fL_w, fL_lt, fL_le, tm1, tm10k, tm9, tm99, Int32.reduceToInt, Int64.reduceToInt, Int.not_lt, Int.not_le] at c_64
          refine gz_aload_n dX12_tells_164 rfl rfl ?_
          refine mg_20 hS_1 dX12_tells_165 ?_
          refine gz_iload_n dX12_tells_168 rfl rfl ?_
          refine m_iald 7 hS_1 rfl (N := 880) rfl ((by exact vin_T (rfl : (x1).toInt = (x1).toInt) (by omega) (by omega))) dX12_tells_169 ?_
          refine gz_ev (w := .int ((F 7) (Int32.toNatClampNeg x1))) (congrArg Value.int (congrFun (hx1.2.2.1 7 (by decide)) _)) ?_
          refine gz_bipush (v := 9) dX12_tells_170 (by decide) ?_
          refine gz_icmp_ne (tgt := 198) dX12_tells_172 (by decide) (fun c_172 => ?_) (fun c_172 => ?_)
          ·
            try simp only [mIn_0, lgc_lt, lgc_gt, lgc_le, lgc_ge, lgc_eq] at c_172
            try simp only [fl_lt, fl_le, fl_eq, fL_w, fL_lt, fL_le, tm1, tm10k, tm9, tm99, Int32.reduceToInt, Int64.reduceToInt, Int.not_lt, Int.not_le] at c_172
            exact gz_vret rfl dX12_tells_198 (Nat.le_of_ble_eq_true rfl) (Nat.le_of_ble_eq_true rfl) (⟨rfl, _, _, _, _, hS_1, (fx_tr fx_rf hx1 (by decide)), (by (try rw [(show n_1 88 = (n_1 88) from rfl)]); omega), (by (try rw [(show n_1 88 = (n_1 88) from rfl)]); omega), (by (try rw [(show n_1 88 = (n_1 88) from rfl)]); omega)⟩)
          ·
            try simp only [mIn_0, lgc_lt, lgc_gt, lgc_le, lgc_ge, lgc_eq] at c_172
            try simp only [fl_lt, fl_le, fl_eq, fL_w, fL_lt, fL_le, tm1, tm10k, tm9, tm99, Int32.reduceToInt, Int64.reduceToInt, Int.not_lt, Int.not_le] at c_172
            refine gz_aload_n dX12_tells_175 rfl rfl ?_
            refine gz_iload_n dX12_tells_176 rfl rfl ?_
            refine gz_aload_n dX12_tells_177 rfl rfl ?_
            refine mg_38 hS_1 dX12_tells_178 ?_
            refine gz_iload_n dX12_tells_181 rfl rfl ?_
            refine m_iald 13 hS_1 rfl (N := 880) rfl ((by exact vin_T (rfl : (x1).toInt = (x1).toInt) (by omega) (by omega))) dX12_tells_182 ?_
            refine gz_ev (w := .int ((F 13) (Int32.toNatClampNeg x1))) (congrArg Value.int (congrFun (hx1.2.2.1 13 (by decide)) _)) ?_
            refine gz_aload_n dX12_tells_183 rfl rfl ?_
            refine mg_41 hS_1 dX12_tells_184 ?_
            refine gz_iload_n dX12_tells_187 rfl rfl ?_
            refine m_iald 14 hS_1 rfl (N := 880) rfl ((by exact vin_T (rfl : (x1).toInt = (x1).toInt) (by omega) (by omega))) dX12_tells_188 ?_
            refine gz_ev (w := .int ((F 14) (Int32.toNatClampNeg x1))) (congrArg Value.int (congrFun (hx1.2.2.1 14 (by decide)) _)) ?_
            have hxx189 : fx [88, 89] [] [87] [] n z F G n_1 z_1 F_1 G_1 := (fx_tr fx_rf hx1 (by decide))
            refine scX12_558 (k_X12_sums (x1 := x1) (x2 := ((F 13) (Int32.toNatClampNeg x1))) (x3 := ((F 14) (Int32.toNatClampNeg x1))) hS_1 (rAll_w (fun k hk => hxx189.2.2.1 k ((by decide : ∀ k : Nat, k ∈ wK → k ∉ ([87] : List Nat)) k hk)) bA) (by omega) (by omega) (by (try rw [(show n_1 88 = (n_1 88) from rfl)]); omega)) hS_1.1 ⟨(Nat.le_of_ble_eq_true rfl), (Nat.le_of_ble_eq_true rfl)⟩ ⟨(Nat.le_of_ble_eq_true rfl), (Nat.le_of_ble_eq_true rfl)⟩ rfl rfl (Nat.le_of_ble_eq_true rfl) dX12_tells_189 ?_
            rintro f_114 ⟨n_114, z_114, F_114, G_114, hS_114, hx114, h8a_114, h8b_114⟩
            refine gz_aload_n dX12_tells_192 rfl rfl ?_
            refine gz_bipush (v := 58) dX12_tells_193 (by decide) ?_
            refine scX12_547 (k_X12_signs (x1 := 58) hS_114 (by (try rw [(show n_114 88 = (n_114 88) from rfl)]); omega)) hS_114.1 ⟨(Nat.le_of_ble_eq_true rfl), (Nat.le_of_ble_eq_true rfl)⟩ ⟨(Nat.le_of_ble_eq_true rfl), (Nat.le_of_ble_eq_true rfl)⟩ rfl rfl (Nat.le_of_ble_eq_true rfl) dX12_tells_195 ?_
            rintro f_115 ⟨n_115, z_115, F_115, G_115, hS_115, hx115, h8_115⟩
            exact gz_vret rfl dX12_tells_198 (Nat.le_of_ble_eq_true rfl) (Nat.le_of_ble_eq_true rfl) (⟨rfl, _, _, _, _, hS_115, (fx_tr (fx_tr (fx_tr fx_rf hx1 (by decide)) hx114 (by decide)) hx115 (by decide)), (by (try rw [(show n_115 88 = (n_115 88) from rfl)]); omega), (by (try rw [(show n_115 88 = (n_115 88) from rfl)]); omega), (by (try rw [(show n_115 88 = (n_115 88) from rfl)]); omega)⟩)
        ·
          try simp only [mIn_0, lgc_lt, lgc_gt, lgc_le, lgc_ge, lgc_eq] at c_64
          try simp only [fl_lt, fl_le, fl_eq, fL_w, fL_lt, fL_le, tm1, tm10k, tm9, tm99, Int32.reduceToInt, Int64.reduceToInt, Int.not_lt, Int.not_le] at c_64
          refine gz_aload_n dX12_tells_67 rfl rfl ?_
          refine gz_iload_n dX12_tells_68 rfl rfl ?_
          refine gz_aload_n dX12_tells_69 rfl rfl ?_
          refine mg_38 hS_1 dX12_tells_70 ?_
          refine gz_iload_n dX12_tells_73 rfl rfl ?_
          refine m_iald 13 hS_1 rfl (N := 880) rfl ((by exact vin_T (rfl : (x1).toInt = (x1).toInt) (by omega) (by omega))) dX12_tells_74 ?_
          refine gz_ev (w := .int ((F 13) (Int32.toNatClampNeg x1))) (congrArg Value.int (congrFun (hx1.2.2.1 13 (by decide)) _)) ?_
          refine gz_aload_n dX12_tells_75 rfl rfl ?_
          refine mg_41 hS_1 dX12_tells_76 ?_
          refine gz_iload_n dX12_tells_79 rfl rfl ?_
          refine m_iald 14 hS_1 rfl (N := 880) rfl ((by exact vin_T (rfl : (x1).toInt = (x1).toInt) (by omega) (by omega))) dX12_tells_80 ?_
          refine gz_ev (w := .int ((F 14) (Int32.toNatClampNeg x1))) (congrArg Value.int (congrFun (hx1.2.2.1 14 (by decide)) _)) ?_
          have hxx81 : fx [88, 89] [] [87] [] n z F G n_1 z_1 F_1 G_1 := (fx_tr fx_rf hx1 (by decide))
          refine scX12_558 (k_X12_sums (x1 := x1) (x2 := ((F 13) (Int32.toNatClampNeg x1))) (x3 := ((F 14) (Int32.toNatClampNeg x1))) hS_1 (rAll_w (fun k hk => hxx81.2.2.1 k ((by decide : ∀ k : Nat, k ∈ wK → k ∉ ([87] : List Nat)) k hk)) bA) (by omega) (by omega) (by (try rw [(show n_1 88 = (n_1 88) from rfl)]); omega)) hS_1.1 ⟨(Nat.le_of_ble_eq_true rfl), (Nat.le_of_ble_eq_true rfl)⟩ ⟨(Nat.le_of_ble_eq_true rfl), (Nat.le_of_ble_eq_true rfl)⟩ rfl rfl (Nat.le_of_ble_eq_true rfl) dX12_tells_81 ?_
          rintro f_116 ⟨n_116, z_116, F_116, G_116, hS_116, hx116, h8a_116, h8b_116⟩
          refine gz_aload_n dX12_tells_84 rfl rfl ?_
          refine mg_47 hS_116 dX12_tells_85 ?_
          refine gz_iload_n dX12_tells_88 rfl rfl ?_
          refine m_iald 16 hS_116 rfl (N := 880) rfl ((by exact vin_T (rfl : (x1).toInt = (x1).toInt) (by omega) (by omega))) dX12_tells_89 ?_
          refine gz_ev (w := .int ((F 16) (Int32.toNatClampNeg x1))) (congrArg Value.int (congrFun ((hx116.2.2.1 16 (by decide)).trans (hx1.2.2.1 16 (by decide))) _)) ?_
          refine gz_iconst (v := 2) dX12_tells_90 (by decide) ?_
          refine gz_icmp_ge (tgt := 100) dX12_tells_91 (by decide) (fun c_91 => ?_) (fun c_91 => ?_)
          ·
            try simp only [mIn_0, lgc_lt, lgc_gt, lgc_le, lgc_ge, lgc_eq] at c_91
            try simp only [fl_lt, fl_le, fl_eq, fL_w, fL_lt, fL_le, tm1, tm10k, tm9, tm99, Int32.reduceToInt, Int64.reduceToInt, Int.not_lt, Int.not_le] at c_91
            refine gz_aload_n dX12_tells_100 rfl rfl ?_
            refine mg_47 hS_116 dX12_tells_101 ?_
            refine gz_iload_n dX12_tells_104 rfl rfl ?_
            refine m_iald 16 hS_116 rfl (N := 880) rfl ((by exact vin_T (rfl : (x1).toInt = (x1).toInt) (by omega) (by omega))) dX12_tells_105 ?_
            refine gz_ev (w := .int ((F 16) (Int32.toNatClampNeg x1))) (congrArg Value.int (congrFun ((hx116.2.2.1 16 (by decide)).trans (hx1.2.2.1 16 (by decide))) _)) ?_
            refine gz_iconst (v := 2) dX12_tells_106 (by decide) ?_
            refine gz_icmp_le (tgt := 116) dX12_tells_107 (by decide) (fun c_107 => ?_) (fun c_107 => ?_)
            ·
              try simp only [mIn_0, lgc_lt, lgc_gt, lgc_le, lgc_ge, lgc_eq] at c_107
              try simp only [fl_lt, fl_le, fl_eq, fL_w, fL_lt, fL_le, tm1, tm10k, tm9, tm99, Int32.reduceToInt, Int64.reduceToInt, Int.not_lt, Int.not_le] at c_107
              refine gz_aload_n dX12_tells_116 rfl rfl ?_
              refine mg_47 hS_116 dX12_tells_117 ?_
              refine gz_iload_n dX12_tells_120 rfl rfl ?_
              refine m_iald 16 hS_116 rfl (N := 880) rfl ((by exact vin_T (rfl : (x1).toInt = (x1).toInt) (by omega) (by omega))) dX12_tells_121 ?_
              refine gz_ev (w := .int ((F 16) (Int32.toNatClampNeg x1))) (congrArg Value.int (congrFun ((hx116.2.2.1 16 (by decide)).trans (hx1.2.2.1 16 (by decide))) _)) ?_
              refine gz_if_le (tgt := 141) dX12_tells_122 (by decide) (fun c_122 => ?_) (fun c_122 => ?_)
              ·
                try simp only [mIn_0, lgc_lt, lgc_gt, lgc_le, lgc_ge, lgc_eq] at c_122
                try simp only [fl_lt, fl_le, fl_eq, fL_w, fL_lt, fL_le, tm1, tm10k, tm9, tm99, Int32.reduceToInt, Int64.reduceToInt, Int.not_lt, Int.not_le] at c_122
                refine gz_aload_n dX12_tells_141 rfl rfl ?_
                refine gz_iload_n dX12_tells_142 rfl rfl ?_
                refine gz_aload_n dX12_tells_143 rfl rfl ?_
                refine mg_41 hS_116 dX12_tells_144 ?_
                refine gz_iload_n dX12_tells_147 rfl rfl ?_
                refine m_iald 14 hS_116 rfl (N := 880) rfl ((by exact vin_T (rfl : (x1).toInt = (x1).toInt) (by omega) (by omega))) dX12_tells_148 ?_
                refine gz_ev (w := .int ((F 14) (Int32.toNatClampNeg x1))) (congrArg Value.int (congrFun ((hx116.2.2.1 14 (by decide)).trans (hx1.2.2.1 14 (by decide))) _)) ?_
                refine gz_aload_n dX12_tells_149 rfl rfl ?_
                refine mg_44 hS_116 dX12_tells_150 ?_
                refine gz_iload_n dX12_tells_153 rfl rfl ?_
                refine m_iald 15 hS_116 rfl (N := 880) rfl ((by exact vin_T (rfl : (x1).toInt = (x1).toInt) (by omega) (by omega))) dX12_tells_154 ?_
                refine gz_ev (w := .int ((F 15) (Int32.toNatClampNeg x1))) (congrArg Value.int (congrFun ((hx116.2.2.1 15 (by decide)).trans (hx1.2.2.1 15 (by decide))) _)) ?_
                have hxx155 : fx [88, 89] [] [87] [] n z F G n_116 z_116 F_116 G_116 := (fx_tr (fx_tr fx_rf hx1 (by decide)) hx116 (by decide))
                refine scX12_558 (k_X12_sums (x1 := x1) (x2 := ((F 14) (Int32.toNatClampNeg x1))) (x3 := ((F 15) (Int32.toNatClampNeg x1))) hS_116 (rAll_w (fun k hk => hxx155.2.2.1 k ((by decide : ∀ k : Nat, k ∈ wK → k ∉ ([87] : List Nat)) k hk)) bA) (by omega) (by omega) (by (try rw [(show n_116 88 = (n_116 88) from rfl)]); omega)) hS_116.1 ⟨(Nat.le_of_ble_eq_true rfl), (Nat.le_of_ble_eq_true rfl)⟩ ⟨(Nat.le_of_ble_eq_true rfl), (Nat.le_of_ble_eq_true rfl)⟩ rfl rfl (Nat.le_of_ble_eq_true rfl) dX12_tells_155 ?_
                rintro f_117 ⟨n_117, z_117, F_117, G_117, hS_117, hx117, h8a_117, h8b_117⟩
                refine gz_aload_n dX12_tells_158 rfl rfl ?_
                refine gz_bipush (v := 58) dX12_tells_159 (by decide) ?_
                refine scX12_547 (k_X12_signs (x1 := 58) hS_117 (by (try rw [(show n_117 88 = (n_117 88) from rfl)]); omega)) hS_117.1 ⟨(Nat.le_of_ble_eq_true rfl), (Nat.le_of_ble_eq_true rfl)⟩ ⟨(Nat.le_of_ble_eq_true rfl), (Nat.le_of_ble_eq_true rfl)⟩ rfl rfl (Nat.le_of_ble_eq_true rfl) dX12_tells_161 ?_
                rintro f_118 ⟨n_118, z_118, F_118, G_118, hS_118, hx118, h8_118⟩
                refine gz_aload_n dX12_tells_164 rfl rfl ?_
                refine mg_20 hS_118 dX12_tells_165 ?_
                refine gz_iload_n dX12_tells_168 rfl rfl ?_
                refine m_iald 7 hS_118 rfl (N := 880) rfl ((by exact vin_T (rfl : (x1).toInt = (x1).toInt) (by omega) (by omega))) dX12_tells_169 ?_
                refine gz_ev (w := .int ((F 7) (Int32.toNatClampNeg x1))) (congrArg Value.int (congrFun ((hx118.2.2.1 7 (by decide)).trans ((hx117.2.2.1 7 (by decide)).trans ((hx116.2.2.1 7 (by decide)).trans (hx1.2.2.1 7 (by decide))))) _)) ?_
                refine gz_bipush (v := 9) dX12_tells_170 (by decide) ?_
                refine gz_icmp_ne (tgt := 198) dX12_tells_172 (by decide) (fun c_172 => ?_) (fun c_172 => ?_)
                ·
                  try simp only [mIn_0, lgc_lt, lgc_gt, lgc_le, lgc_ge, lgc_eq] at c_172
                  try simp only [fl_lt, fl_le, fl_eq, fL_w, fL_lt, fL_le, tm1, tm10k, tm9, tm99, Int32.reduceToInt, Int64.reduceToInt, Int.not_lt, Int.not_le] at c_172
                  exact gz_vret rfl dX12_tells_198 (Nat.le_of_ble_eq_true rfl) (Nat.le_of_ble_eq_true rfl) (⟨rfl, _, _, _, _, hS_118, (fx_tr (fx_tr (fx_tr (fx_tr fx_rf hx1 (by decide)) hx116 (by decide)) hx117 (by decide)) hx118 (by decide)), (by (try rw [(show n_118 88 = (n_118 88) from rfl)]); omega), (by (try rw [(show n_118 88 = (n_118 88) from rfl)]); omega), (by (try rw [(show n_118 88 = (n_118 88) from rfl)]); omega)⟩)
                ·
                  try simp only [mIn_0, lgc_lt, lgc_gt, lgc_le, lgc_ge, lgc_eq] at c_172
                  try simp only [fl_lt, fl_le, fl_eq, fL_w, fL_lt, fL_le, tm1, tm10k, tm9, tm99, Int32.reduceToInt, Int64.reduceToInt, Int.not_lt, Int.not_le] at c_172
                  refine gz_aload_n dX12_tells_175 rfl rfl ?_
                  refine gz_iload_n dX12_tells_176 rfl rfl ?_
                  refine gz_aload_n dX12_tells_177 rfl rfl ?_
                  refine mg_38 hS_118 dX12_tells_178 ?_
                  refine gz_iload_n dX12_tells_181 rfl rfl ?_
                  refine m_iald 13 hS_118 rfl (N := 880) rfl ((by exact vin_T (rfl : (x1).toInt = (x1).toInt) (by omega) (by omega))) dX12_tells_182 ?_
                  refine gz_ev (w := .int ((F 13) (Int32.toNatClampNeg x1))) (congrArg Value.int (congrFun ((hx118.2.2.1 13 (by decide)).trans ((hx117.2.2.1 13 (by decide)).trans ((hx116.2.2.1 13 (by decide)).trans (hx1.2.2.1 13 (by decide))))) _)) ?_
                  refine gz_aload_n dX12_tells_183 rfl rfl ?_
                  refine mg_41 hS_118 dX12_tells_184 ?_
                  refine gz_iload_n dX12_tells_187 rfl rfl ?_
                  refine m_iald 14 hS_118 rfl (N := 880) rfl ((by exact vin_T (rfl : (x1).toInt = (x1).toInt) (by omega) (by omega))) dX12_tells_188 ?_
                  refine gz_ev (w := .int ((F 14) (Int32.toNatClampNeg x1))) (congrArg Value.int (congrFun ((hx118.2.2.1 14 (by decide)).trans ((hx117.2.2.1 14 (by decide)).trans ((hx116.2.2.1 14 (by decide)).trans (hx1.2.2.1 14 (by decide))))) _)) ?_
                  have hxx189 : fx [88, 89] [] [87] [] n z F G n_118 z_118 F_118 G_118 := (fx_tr (fx_tr (fx_tr (fx_tr fx_rf hx1 (by decide)) hx116 (by decide)) hx117 (by decide)) hx118 (by decide))
                  refine scX12_558 (k_X12_sums (x1 := x1) (x2 := ((F 13) (Int32.toNatClampNeg x1))) (x3 := ((F 14) (Int32.toNatClampNeg x1))) hS_118 (rAll_w (fun k hk => hxx189.2.2.1 k ((by decide : ∀ k : Nat, k ∈ wK → k ∉ ([87] : List Nat)) k hk)) bA) (by omega) (by omega) (by (try rw [(show n_118 88 = (n_118 88) from rfl)]); omega)) hS_118.1 ⟨(Nat.le_of_ble_eq_true rfl), (Nat.le_of_ble_eq_true rfl)⟩ ⟨(Nat.le_of_ble_eq_true rfl), (Nat.le_of_ble_eq_true rfl)⟩ rfl rfl (Nat.le_of_ble_eq_true rfl) dX12_tells_189 ?_
                  rintro f_119 ⟨n_119, z_119, F_119, G_119, hS_119, hx119, h8a_119, h8b_119⟩
                  refine gz_aload_n dX12_tells_192 rfl rfl ?_
                  refine gz_bipush (v := 58) dX12_tells_193 (by decide) ?_
                  refine scX12_547 (k_X12_signs (x1 := 58) hS_119 (by (try rw [(show n_119 88 = (n_119 88) from rfl)]); omega)) hS_119.1 ⟨(Nat.le_of_ble_eq_true rfl), (Nat.le_of_ble_eq_true rfl)⟩ ⟨(Nat.le_of_ble_eq_true rfl), (Nat.le_of_ble_eq_true rfl)⟩ rfl rfl (Nat.le_of_ble_eq_true rfl) dX12_tells_195 ?_
                  rintro f_120 ⟨n_120, z_120, F_120, G_120, hS_120, hx120, h8_120⟩
                  exact gz_vret rfl dX12_tells_198 (Nat.le_of_ble_eq_true rfl) (Nat.le_of_ble_eq_true rfl) (⟨rfl, _, _, _, _, hS_120, (fx_tr (fx_tr (fx_tr (fx_tr (fx_tr (fx_tr fx_rf hx1 (by decide)) hx116 (by decide)) hx117 (by decide)) hx118 (by decide)) hx119 (by decide)) hx120 (by decide)), (by (try rw [(show n_120 88 = (n_120 88) from rfl)]); omega), (by (try rw [(show n_120 88 = (n_120 88) from rfl)]); omega), (by (try rw [(show n_120 88 = (n_120 88) from rfl)]); omega)⟩)
              ·
                try simp only [mIn_0, lgc_lt, lgc_gt, lgc_le, lgc_ge, lgc_eq] at c_122
                try simp only [fl_lt, fl_le, fl_eq, fL_w, fL_lt, fL_le, tm1, tm10k, tm9, tm99, Int32.reduceToInt, Int64.reduceToInt, Int.not_lt, Int.not_le] at c_122
                refine gz_aload_n dX12_tells_125 rfl rfl ?_
                refine mg_47 hS_116 dX12_tells_126 ?_
                refine gz_iload_n dX12_tells_129 rfl rfl ?_
                refine m_iald 16 hS_116 rfl (N := 880) rfl ((by exact vin_T (rfl : (x1).toInt = (x1).toInt) (by omega) (by omega))) dX12_tells_130 ?_
                refine gz_ev (w := .int ((F 16) (Int32.toNatClampNeg x1))) (congrArg Value.int (congrFun ((hx116.2.2.1 16 (by decide)).trans (hx1.2.2.1 16 (by decide))) _)) ?_
                refine gz_iconst (v := 4) dX12_tells_131 (by decide) ?_
                refine gz_icmp_ge (tgt := 141) dX12_tells_132 (by decide) (fun c_132 => ?_) (fun c_132 => ?_)
                ·
                  try simp only [mIn_0, lgc_lt, lgc_gt, lgc_le, lgc_ge, lgc_eq] at c_132
                  try simp only [fl_lt, fl_le, fl_eq, fL_w, fL_lt, fL_le, tm1, tm10k, tm9, tm99, Int32.reduceToInt, Int64.reduceToInt, Int.not_lt, Int.not_le] at c_132
                  refine gz_aload_n dX12_tells_141 rfl rfl ?_
                  refine gz_iload_n dX12_tells_142 rfl rfl ?_
                  refine gz_aload_n dX12_tells_143 rfl rfl ?_
                  refine mg_41 hS_116 dX12_tells_144 ?_
                  refine gz_iload_n dX12_tells_147 rfl rfl ?_
                  refine m_iald 14 hS_116 rfl (N := 880) rfl ((by exact vin_T (rfl : (x1).toInt = (x1).toInt) (by omega) (by omega))) dX12_tells_148 ?_
                  refine gz_ev (w := .int ((F 14) (Int32.toNatClampNeg x1))) (congrArg Value.int (congrFun ((hx116.2.2.1 14 (by decide)).trans (hx1.2.2.1 14 (by decide))) _)) ?_
                  refine gz_aload_n dX12_tells_149 rfl rfl ?_
                  refine mg_44 hS_116 dX12_tells_150 ?_
                  refine gz_iload_n dX12_tells_153 rfl rfl ?_
                  refine m_iald 15 hS_116 rfl (N := 880) rfl ((by exact vin_T (rfl : (x1).toInt = (x1).toInt) (by omega) (by omega))) dX12_tells_154 ?_
                  refine gz_ev (w := .int ((F 15) (Int32.toNatClampNeg x1))) (congrArg Value.int (congrFun ((hx116.2.2.1 15 (by decide)).trans (hx1.2.2.1 15 (by decide))) _)) ?_
                  have hxx155 : fx [88, 89] [] [87] [] n z F G n_116 z_116 F_116 G_116 := (fx_tr (fx_tr fx_rf hx1 (by decide)) hx116 (by decide))
                  refine scX12_558 (k_X12_sums (x1 := x1) (x2 := ((F 14) (Int32.toNatClampNeg x1))) (x3 := ((F 15) (Int32.toNatClampNeg x1))) hS_116 (rAll_w (fun k hk => hxx155.2.2.1 k ((by decide : ∀ k : Nat, k ∈ wK → k ∉ ([87] : List Nat)) k hk)) bA) (by omega) (by omega) (by (try rw [(show n_116 88 = (n_116 88) from rfl)]); omega)) hS_116.1 ⟨(Nat.le_of_ble_eq_true rfl), (Nat.le_of_ble_eq_true rfl)⟩ ⟨(Nat.le_of_ble_eq_true rfl), (Nat.le_of_ble_eq_true rfl)⟩ rfl rfl (Nat.le_of_ble_eq_true rfl) dX12_tells_155 ?_
                  rintro f_121 ⟨n_121, z_121, F_121, G_121, hS_121, hx121, h8a_121, h8b_121⟩
                  refine gz_aload_n dX12_tells_158 rfl rfl ?_
                  refine gz_bipush (v := 58) dX12_tells_159 (by decide) ?_
                  refine scX12_547 (k_X12_signs (x1 := 58) hS_121 (by (try rw [(show n_121 88 = (n_121 88) from rfl)]); omega)) hS_121.1 ⟨(Nat.le_of_ble_eq_true rfl), (Nat.le_of_ble_eq_true rfl)⟩ ⟨(Nat.le_of_ble_eq_true rfl), (Nat.le_of_ble_eq_true rfl)⟩ rfl rfl (Nat.le_of_ble_eq_true rfl) dX12_tells_161 ?_
                  rintro f_122 ⟨n_122, z_122, F_122, G_122, hS_122, hx122, h8_122⟩
                  refine gz_aload_n dX12_tells_164 rfl rfl ?_
                  refine mg_20 hS_122 dX12_tells_165 ?_
                  refine gz_iload_n dX12_tells_168 rfl rfl ?_
                  refine m_iald 7 hS_122 rfl (N := 880) rfl ((by exact vin_T (rfl : (x1).toInt = (x1).toInt) (by omega) (by omega))) dX12_tells_169 ?_
                  refine gz_ev (w := .int ((F 7) (Int32.toNatClampNeg x1))) (congrArg Value.int (congrFun ((hx122.2.2.1 7 (by decide)).trans ((hx121.2.2.1 7 (by decide)).trans ((hx116.2.2.1 7 (by decide)).trans (hx1.2.2.1 7 (by decide))))) _)) ?_
                  refine gz_bipush (v := 9) dX12_tells_170 (by decide) ?_
                  refine gz_icmp_ne (tgt := 198) dX12_tells_172 (by decide) (fun c_172 => ?_) (fun c_172 => ?_)
                  ·
                    try simp only [mIn_0, lgc_lt, lgc_gt, lgc_le, lgc_ge, lgc_eq] at c_172
                    try simp only [fl_lt, fl_le, fl_eq, fL_w, fL_lt, fL_le, tm1, tm10k, tm9, tm99, Int32.reduceToInt, Int64.reduceToInt, Int.not_lt, Int.not_le] at c_172
                    exact gz_vret rfl dX12_tells_198 (Nat.le_of_ble_eq_true rfl) (Nat.le_of_ble_eq_true rfl) (⟨rfl, _, _, _, _, hS_122, (fx_tr (fx_tr (fx_tr (fx_tr fx_rf hx1 (by decide)) hx116 (by decide)) hx121 (by decide)) hx122 (by decide)), (by (try rw [(show n_122 88 = (n_122 88) from rfl)]); omega), (by (try rw [(show n_122 88 = (n_122 88) from rfl)]); omega), (by (try rw [(show n_122 88 = (n_122 88) from rfl)]); omega)⟩)
                  ·
                    try simp only [mIn_0, lgc_lt, lgc_gt, lgc_le, lgc_ge, lgc_eq] at c_172
                    try simp only [fl_lt, fl_le, fl_eq, fL_w, fL_lt, fL_le, tm1, tm10k, tm9, tm99, Int32.reduceToInt, Int64.reduceToInt, Int.not_lt, Int.not_le] at c_172
                    refine gz_aload_n dX12_tells_175 rfl rfl ?_
                    refine gz_iload_n dX12_tells_176 rfl rfl ?_
                    refine gz_aload_n dX12_tells_177 rfl rfl ?_
                    refine mg_38 hS_122 dX12_tells_178 ?_
                    refine gz_iload_n dX12_tells_181 rfl rfl ?_
                    refine m_iald 13 hS_122 rfl (N := 880) rfl ((by exact vin_T (rfl : (x1).toInt = (x1).toInt) (by omega) (by omega))) dX12_tells_182 ?_
                    refine gz_ev (w := .int ((F 13) (Int32.toNatClampNeg x1))) (congrArg Value.int (congrFun ((hx122.2.2.1 13 (by decide)).trans ((hx121.2.2.1 13 (by decide)).trans ((hx116.2.2.1 13 (by decide)).trans (hx1.2.2.1 13 (by decide))))) _)) ?_
                    refine gz_aload_n dX12_tells_183 rfl rfl ?_
                    refine mg_41 hS_122 dX12_tells_184 ?_
                    refine gz_iload_n dX12_tells_187 rfl rfl ?_
                    refine m_iald 14 hS_122 rfl (N := 880) rfl ((by exact vin_T (rfl : (x1).toInt = (x1).toInt) (by omega) (by omega))) dX12_tells_188 ?_
                    refine gz_ev (w := .int ((F 14) (Int32.toNatClampNeg x1))) (congrArg Value.int (congrFun ((hx122.2.2.1 14 (by decide)).trans ((hx121.2.2.1 14 (by decide)).trans ((hx116.2.2.1 14 (by decide)).trans (hx1.2.2.1 14 (by decide))))) _)) ?_
                    have hxx189 : fx [88, 89] [] [87] [] n z F G n_122 z_122 F_122 G_122 := (fx_tr (fx_tr (fx_tr (fx_tr fx_rf hx1 (by decide)) hx116 (by decide)) hx121 (by decide)) hx122 (by decide))
                    refine scX12_558 (k_X12_sums (x1 := x1) (x2 := ((F 13) (Int32.toNatClampNeg x1))) (x3 := ((F 14) (Int32.toNatClampNeg x1))) hS_122 (rAll_w (fun k hk => hxx189.2.2.1 k ((by decide : ∀ k : Nat, k ∈ wK → k ∉ ([87] : List Nat)) k hk)) bA) (by omega) (by omega) (by (try rw [(show n_122 88 = (n_122 88) from rfl)]); omega)) hS_122.1 ⟨(Nat.le_of_ble_eq_true rfl), (Nat.le_of_ble_eq_true rfl)⟩ ⟨(Nat.le_of_ble_eq_true rfl), (Nat.le_of_ble_eq_true rfl)⟩ rfl rfl (Nat.le_of_ble_eq_true rfl) dX12_tells_189 ?_
                    rintro f_123 ⟨n_123, z_123, F_123, G_123, hS_123, hx123, h8a_123, h8b_123⟩
                    refine gz_aload_n dX12_tells_192 rfl rfl ?_
                    refine gz_bipush (v := 58) dX12_tells_193 (by decide) ?_
                    refine scX12_547 (k_X12_signs (x1 := 58) hS_123 (by (try rw [(show n_123 88 = (n_123 88) from rfl)]); omega)) hS_123.1 ⟨(Nat.le_of_ble_eq_true rfl), (Nat.le_of_ble_eq_true rfl)⟩ ⟨(Nat.le_of_ble_eq_true rfl), (Nat.le_of_ble_eq_true rfl)⟩ rfl rfl (Nat.le_of_ble_eq_true rfl) dX12_tells_195 ?_
                    rintro f_124 ⟨n_124, z_124, F_124, G_124, hS_124, hx124, h8_124⟩
                    exact gz_vret rfl dX12_tells_198 (Nat.le_of_ble_eq_true rfl) (Nat.le_of_ble_eq_true rfl) (⟨rfl, _, _, _, _, hS_124, (fx_tr (fx_tr (fx_tr (fx_tr (fx_tr (fx_tr fx_rf hx1 (by decide)) hx116 (by decide)) hx121 (by decide)) hx122 (by decide)) hx123 (by decide)) hx124 (by decide)), (by (try rw [(show n_124 88 = (n_124 88) from rfl)]); omega), (by (try rw [(show n_124 88 = (n_124 88) from rfl)]); omega), (by (try rw [(show n_124 88 = (n_124 88) from rfl)]); omega)⟩)
                ·
                  try simp only [mIn_0, lgc_lt, lgc_gt, lgc_le, lgc_ge, lgc_eq] at c_132
                  try simp only [fl_lt, fl_le, fl_eq, fL_w, fL_lt, fL_le, tm1, tm10k, tm9, tm99, Int32.reduceToInt, Int64.reduceToInt, Int.not_lt, Int.not_le] at c_132
                  refine gz_aload_n dX12_tells_135 rfl rfl ?_
                  refine gz_bipush (v := 61) dX12_tells_136 (by decide) ?_
                  refine scX12_547 (k_X12_signs (x1 := 61) hS_116 (by (try rw [(show n_116 88 = (n_116 88) from rfl)]); omega)) hS_116.1 ⟨(Nat.le_of_ble_eq_true rfl), (Nat.le_of_ble_eq_true rfl)⟩ ⟨(Nat.le_of_ble_eq_true rfl), (Nat.le_of_ble_eq_true rfl)⟩ rfl rfl (Nat.le_of_ble_eq_true rfl) dX12_tells_138 ?_
                  rintro f_125 ⟨n_125, z_125, F_125, G_125, hS_125, hx125, h8_125⟩
                  refine gz_aload_n dX12_tells_141 rfl rfl ?_
                  refine gz_iload_n dX12_tells_142 rfl rfl ?_
                  refine gz_aload_n dX12_tells_143 rfl rfl ?_
                  refine mg_41 hS_125 dX12_tells_144 ?_
                  refine gz_iload_n dX12_tells_147 rfl rfl ?_
                  refine m_iald 14 hS_125 rfl (N := 880) rfl ((by exact vin_T (rfl : (x1).toInt = (x1).toInt) (by omega) (by omega))) dX12_tells_148 ?_
                  refine gz_ev (w := .int ((F 14) (Int32.toNatClampNeg x1))) (congrArg Value.int (congrFun ((hx125.2.2.1 14 (by decide)).trans ((hx116.2.2.1 14 (by decide)).trans (hx1.2.2.1 14 (by decide)))) _)) ?_
                  refine gz_aload_n dX12_tells_149 rfl rfl ?_
                  refine mg_44 hS_125 dX12_tells_150 ?_
                  refine gz_iload_n dX12_tells_153 rfl rfl ?_
                  refine m_iald 15 hS_125 rfl (N := 880) rfl ((by exact vin_T (rfl : (x1).toInt = (x1).toInt) (by omega) (by omega))) dX12_tells_154 ?_
                  refine gz_ev (w := .int ((F 15) (Int32.toNatClampNeg x1))) (congrArg Value.int (congrFun ((hx125.2.2.1 15 (by decide)).trans ((hx116.2.2.1 15 (by decide)).trans (hx1.2.2.1 15 (by decide)))) _)) ?_
                  have hxx155 : fx [88, 89] [] [87] [] n z F G n_125 z_125 F_125 G_125 := (fx_tr (fx_tr (fx_tr fx_rf hx1 (by decide)) hx116 (by decide)) hx125 (by decide))
                  refine scX12_558 (k_X12_sums (x1 := x1) (x2 := ((F 14) (Int32.toNatClampNeg x1))) (x3 := ((F 15) (Int32.toNatClampNeg x1))) hS_125 (rAll_w (fun k hk => hxx155.2.2.1 k ((by decide : ∀ k : Nat, k ∈ wK → k ∉ ([87] : List Nat)) k hk)) bA) (by omega) (by omega) (by (try rw [(show n_125 88 = (n_125 88) from rfl)]); omega)) hS_125.1 ⟨(Nat.le_of_ble_eq_true rfl), (Nat.le_of_ble_eq_true rfl)⟩ ⟨(Nat.le_of_ble_eq_true rfl), (Nat.le_of_ble_eq_true rfl)⟩ rfl rfl (Nat.le_of_ble_eq_true rfl) dX12_tells_155 ?_
                  rintro f_126 ⟨n_126, z_126, F_126, G_126, hS_126, hx126, h8a_126, h8b_126⟩
                  refine gz_aload_n dX12_tells_158 rfl rfl ?_
                  refine gz_bipush (v := 58) dX12_tells_159 (by decide) ?_
                  refine scX12_547 (k_X12_signs (x1 := 58) hS_126 (by (try rw [(show n_126 88 = (n_126 88) from rfl)]); omega)) hS_126.1 ⟨(Nat.le_of_ble_eq_true rfl), (Nat.le_of_ble_eq_true rfl)⟩ ⟨(Nat.le_of_ble_eq_true rfl), (Nat.le_of_ble_eq_true rfl)⟩ rfl rfl (Nat.le_of_ble_eq_true rfl) dX12_tells_161 ?_
                  rintro f_127 ⟨n_127, z_127, F_127, G_127, hS_127, hx127, h8_127⟩
                  refine gz_aload_n dX12_tells_164 rfl rfl ?_
                  refine mg_20 hS_127 dX12_tells_165 ?_
                  refine gz_iload_n dX12_tells_168 rfl rfl ?_
                  refine m_iald 7 hS_127 rfl (N := 880) rfl ((by exact vin_T (rfl : (x1).toInt = (x1).toInt) (by omega) (by omega))) dX12_tells_169 ?_
                  refine gz_ev (w := .int ((F 7) (Int32.toNatClampNeg x1))) (congrArg Value.int (congrFun ((hx127.2.2.1 7 (by decide)).trans ((hx126.2.2.1 7 (by decide)).trans ((hx125.2.2.1 7 (by decide)).trans ((hx116.2.2.1 7 (by decide)).trans (hx1.2.2.1 7 (by decide)))))) _)) ?_
                  refine gz_bipush (v := 9) dX12_tells_170 (by decide) ?_
                  refine gz_icmp_ne (tgt := 198) dX12_tells_172 (by decide) (fun c_172 => ?_) (fun c_172 => ?_)
                  ·
                    try simp only [mIn_0, lgc_lt, lgc_gt, lgc_le, lgc_ge, lgc_eq] at c_172
                    try simp only [fl_lt, fl_le, fl_eq, fL_w, fL_lt, fL_le, tm1, tm10k, tm9, tm99, Int32.reduceToInt, Int64.reduceToInt, Int.not_lt, Int.not_le] at c_172
                    exact gz_vret rfl dX12_tells_198 (Nat.le_of_ble_eq_true rfl) (Nat.le_of_ble_eq_true rfl) (⟨rfl, _, _, _, _, hS_127, (fx_tr (fx_tr (fx_tr (fx_tr (fx_tr fx_rf hx1 (by decide)) hx116 (by decide)) hx125 (by decide)) hx126 (by decide)) hx127 (by decide)), (by (try rw [(show n_127 88 = (n_127 88) from rfl)]); omega), (by (try rw [(show n_127 88 = (n_127 88) from rfl)]); omega), (by (try rw [(show n_127 88 = (n_127 88) from rfl)]); omega)⟩)
                  ·
                    try simp only [mIn_0, lgc_lt, lgc_gt, lgc_le, lgc_ge, lgc_eq] at c_172
                    try simp only [fl_lt, fl_le, fl_eq, fL_w, fL_lt, fL_le, tm1, tm10k, tm9, tm99, Int32.reduceToInt, Int64.reduceToInt, Int.not_lt, Int.not_le] at c_172
                    refine gz_aload_n dX12_tells_175 rfl rfl ?_
                    refine gz_iload_n dX12_tells_176 rfl rfl ?_
                    refine gz_aload_n dX12_tells_177 rfl rfl ?_
                    refine mg_38 hS_127 dX12_tells_178 ?_
                    refine gz_iload_n dX12_tells_181 rfl rfl ?_
                    refine m_iald 13 hS_127 rfl (N := 880) rfl ((by exact vin_T (rfl : (x1).toInt = (x1).toInt) (by omega) (by omega))) dX12_tells_182 ?_
                    refine gz_ev (w := .int ((F 13) (Int32.toNatClampNeg x1))) (congrArg Value.int (congrFun ((hx127.2.2.1 13 (by decide)).trans ((hx126.2.2.1 13 (by decide)).trans ((hx125.2.2.1 13 (by decide)).trans ((hx116.2.2.1 13 (by decide)).trans (hx1.2.2.1 13 (by decide)))))) _)) ?_
                    refine gz_aload_n dX12_tells_183 rfl rfl ?_
                    refine mg_41 hS_127 dX12_tells_184 ?_
                    refine gz_iload_n dX12_tells_187 rfl rfl ?_
                    refine m_iald 14 hS_127 rfl (N := 880) rfl ((by exact vin_T (rfl : (x1).toInt = (x1).toInt) (by omega) (by omega))) dX12_tells_188 ?_
                    refine gz_ev (w := .int ((F 14) (Int32.toNatClampNeg x1))) (congrArg Value.int (congrFun ((hx127.2.2.1 14 (by decide)).trans ((hx126.2.2.1 14 (by decide)).trans ((hx125.2.2.1 14 (by decide)).trans ((hx116.2.2.1 14 (by decide)).trans (hx1.2.2.1 14 (by decide)))))) _)) ?_
                    have hxx189 : fx [88, 89] [] [87] [] n z F G n_127 z_127 F_127 G_127 := (fx_tr (fx_tr (fx_tr (fx_tr (fx_tr fx_rf hx1 (by decide)) hx116 (by decide)) hx125 (by decide)) hx126 (by decide)) hx127 (by decide))
                    refine scX12_558 (k_X12_sums (x1 := x1) (x2 := ((F 13) (Int32.toNatClampNeg x1))) (x3 := ((F 14) (Int32.toNatClampNeg x1))) hS_127 (rAll_w (fun k hk => hxx189.2.2.1 k ((by decide : ∀ k : Nat, k ∈ wK → k ∉ ([87] : List Nat)) k hk)) bA) (by omega) (by omega) (by (try rw [(show n_127 88 = (n_127 88) from rfl)]); omega)) hS_127.1 ⟨(Nat.le_of_ble_eq_true rfl), (Nat.le_of_ble_eq_true rfl)⟩ ⟨(Nat.le_of_ble_eq_true rfl), (Nat.le_of_ble_eq_true rfl)⟩ rfl rfl (Nat.le_of_ble_eq_true rfl) dX12_tells_189 ?_
                    rintro f_128 ⟨n_128, z_128, F_128, G_128, hS_128, hx128, h8a_128, h8b_128⟩
                    refine gz_aload_n dX12_tells_192 rfl rfl ?_
                    refine gz_bipush (v := 58) dX12_tells_193 (by decide) ?_
                    refine scX12_547 (k_X12_signs (x1 := 58) hS_128 (by (try rw [(show n_128 88 = (n_128 88) from rfl)]); omega)) hS_128.1 ⟨(Nat.le_of_ble_eq_true rfl), (Nat.le_of_ble_eq_true rfl)⟩ ⟨(Nat.le_of_ble_eq_true rfl), (Nat.le_of_ble_eq_true rfl)⟩ rfl rfl (Nat.le_of_ble_eq_true rfl) dX12_tells_195 ?_
                    rintro f_129 ⟨n_129, z_129, F_129, G_129, hS_129, hx129, h8_129⟩
                    exact gz_vret rfl dX12_tells_198 (Nat.le_of_ble_eq_true rfl) (Nat.le_of_ble_eq_true rfl) (⟨rfl, _, _, _, _, hS_129, (fx_tr (fx_tr (fx_tr (fx_tr (fx_tr (fx_tr (fx_tr fx_rf hx1 (by decide)) hx116 (by decide)) hx125 (by decide)) hx126 (by decide)) hx127 (by decide)) hx128 (by decide)) hx129 (by decide)), (by (try rw [(show n_129 88 = (n_129 88) from rfl)]); omega), (by (try rw [(show n_129 88 = (n_129 88) from rfl)]); omega), (by (try rw [(show n_129 88 = (n_129 88) from rfl)]); omega)⟩)
            ·
              try simp only [mIn_0, lgc_lt, lgc_gt, lgc_le, lgc_ge, lgc_eq] at c_107
              try simp only [fl_lt, fl_le, fl_eq, fL_w, fL_lt, fL_le, tm1, tm10k, tm9, tm99, Int32.reduceToInt, Int64.reduceToInt, Int.not_lt, Int.not_le] at c_107
              refine gz_aload_n dX12_tells_110 rfl rfl ?_
              refine gz_bipush (v := 62) dX12_tells_111 (by decide) ?_
              refine scX12_547 (k_X12_signs (x1 := 62) hS_116 (by (try rw [(show n_116 88 = (n_116 88) from rfl)]); omega)) hS_116.1 ⟨(Nat.le_of_ble_eq_true rfl), (Nat.le_of_ble_eq_true rfl)⟩ ⟨(Nat.le_of_ble_eq_true rfl), (Nat.le_of_ble_eq_true rfl)⟩ rfl rfl (Nat.le_of_ble_eq_true rfl) dX12_tells_113 ?_
              rintro f_130 ⟨n_130, z_130, F_130, G_130, hS_130, hx130, h8_130⟩
              refine gz_aload_n dX12_tells_116 rfl rfl ?_
              refine mg_47 hS_130 dX12_tells_117 ?_
              refine gz_iload_n dX12_tells_120 rfl rfl ?_
              refine m_iald 16 hS_130 rfl (N := 880) rfl ((by exact vin_T (rfl : (x1).toInt = (x1).toInt) (by omega) (by omega))) dX12_tells_121 ?_
              refine gz_ev (w := .int ((F 16) (Int32.toNatClampNeg x1))) (congrArg Value.int (congrFun ((hx130.2.2.1 16 (by decide)).trans ((hx116.2.2.1 16 (by decide)).trans (hx1.2.2.1 16 (by decide)))) _)) ?_
              refine gz_if_le (tgt := 141) dX12_tells_122 (by decide) (fun c_122 => ?_) (fun c_122 => ?_)
              ·
                try simp only [mIn_0, lgc_lt, lgc_gt, lgc_le, lgc_ge, lgc_eq] at c_122
                try simp only [fl_lt, fl_le, fl_eq, fL_w, fL_lt, fL_le, tm1, tm10k, tm9, tm99, Int32.reduceToInt, Int64.reduceToInt, Int.not_lt, Int.not_le] at c_122
                refine gz_aload_n dX12_tells_141 rfl rfl ?_
                refine gz_iload_n dX12_tells_142 rfl rfl ?_
                refine gz_aload_n dX12_tells_143 rfl rfl ?_
                refine mg_41 hS_130 dX12_tells_144 ?_
                refine gz_iload_n dX12_tells_147 rfl rfl ?_
                refine m_iald 14 hS_130 rfl (N := 880) rfl ((by exact vin_T (rfl : (x1).toInt = (x1).toInt) (by omega) (by omega))) dX12_tells_148 ?_
                refine gz_ev (w := .int ((F 14) (Int32.toNatClampNeg x1))) (congrArg Value.int (congrFun ((hx130.2.2.1 14 (by decide)).trans ((hx116.2.2.1 14 (by decide)).trans (hx1.2.2.1 14 (by decide)))) _)) ?_
                refine gz_aload_n dX12_tells_149 rfl rfl ?_
                refine mg_44 hS_130 dX12_tells_150 ?_
                refine gz_iload_n dX12_tells_153 rfl rfl ?_
                refine m_iald 15 hS_130 rfl (N := 880) rfl ((by exact vin_T (rfl : (x1).toInt = (x1).toInt) (by omega) (by omega))) dX12_tells_154 ?_
                refine gz_ev (w := .int ((F 15) (Int32.toNatClampNeg x1))) (congrArg Value.int (congrFun ((hx130.2.2.1 15 (by decide)).trans ((hx116.2.2.1 15 (by decide)).trans (hx1.2.2.1 15 (by decide)))) _)) ?_
                have hxx155 : fx [88, 89] [] [87] [] n z F G n_130 z_130 F_130 G_130 := (fx_tr (fx_tr (fx_tr fx_rf hx1 (by decide)) hx116 (by decide)) hx130 (by decide))
                refine scX12_558 (k_X12_sums (x1 := x1) (x2 := ((F 14) (Int32.toNatClampNeg x1))) (x3 := ((F 15) (Int32.toNatClampNeg x1))) hS_130 (rAll_w (fun k hk => hxx155.2.2.1 k ((by decide : ∀ k : Nat, k ∈ wK → k ∉ ([87] : List Nat)) k hk)) bA) (by omega) (by omega) (by (try rw [(show n_130 88 = (n_130 88) from rfl)]); omega)) hS_130.1 ⟨(Nat.le_of_ble_eq_true rfl), (Nat.le_of_ble_eq_true rfl)⟩ ⟨(Nat.le_of_ble_eq_true rfl), (Nat.le_of_ble_eq_true rfl)⟩ rfl rfl (Nat.le_of_ble_eq_true rfl) dX12_tells_155 ?_
                rintro f_131 ⟨n_131, z_131, F_131, G_131, hS_131, hx131, h8a_131, h8b_131⟩
                refine gz_aload_n dX12_tells_158 rfl rfl ?_
                refine gz_bipush (v := 58) dX12_tells_159 (by decide) ?_
                refine scX12_547 (k_X12_signs (x1 := 58) hS_131 (by (try rw [(show n_131 88 = (n_131 88) from rfl)]); omega)) hS_131.1 ⟨(Nat.le_of_ble_eq_true rfl), (Nat.le_of_ble_eq_true rfl)⟩ ⟨(Nat.le_of_ble_eq_true rfl), (Nat.le_of_ble_eq_true rfl)⟩ rfl rfl (Nat.le_of_ble_eq_true rfl) dX12_tells_161 ?_
                rintro f_132 ⟨n_132, z_132, F_132, G_132, hS_132, hx132, h8_132⟩
                refine gz_aload_n dX12_tells_164 rfl rfl ?_
                refine mg_20 hS_132 dX12_tells_165 ?_
                refine gz_iload_n dX12_tells_168 rfl rfl ?_
                refine m_iald 7 hS_132 rfl (N := 880) rfl ((by exact vin_T (rfl : (x1).toInt = (x1).toInt) (by omega) (by omega))) dX12_tells_169 ?_
                refine gz_ev (w := .int ((F 7) (Int32.toNatClampNeg x1))) (congrArg Value.int (congrFun ((hx132.2.2.1 7 (by decide)).trans ((hx131.2.2.1 7 (by decide)).trans ((hx130.2.2.1 7 (by decide)).trans ((hx116.2.2.1 7 (by decide)).trans (hx1.2.2.1 7 (by decide)))))) _)) ?_
                refine gz_bipush (v := 9) dX12_tells_170 (by decide) ?_
                refine gz_icmp_ne (tgt := 198) dX12_tells_172 (by decide) (fun c_172 => ?_) (fun c_172 => ?_)
                ·
                  try simp only [mIn_0, lgc_lt, lgc_gt, lgc_le, lgc_ge, lgc_eq] at c_172
                  try simp only [fl_lt, fl_le, fl_eq, fL_w, fL_lt, fL_le, tm1, tm10k, tm9, tm99, Int32.reduceToInt, Int64.reduceToInt, Int.not_lt, Int.not_le] at c_172
                  exact gz_vret rfl dX12_tells_198 (Nat.le_of_ble_eq_true rfl) (Nat.le_of_ble_eq_true rfl) (⟨rfl, _, _, _, _, hS_132, (fx_tr (fx_tr (fx_tr (fx_tr (fx_tr fx_rf hx1 (by decide)) hx116 (by decide)) hx130 (by decide)) hx131 (by decide)) hx132 (by decide)), (by (try rw [(show n_132 88 = (n_132 88) from rfl)]); omega), (by (try rw [(show n_132 88 = (n_132 88) from rfl)]); omega), (by (try rw [(show n_132 88 = (n_132 88) from rfl)]); omega)⟩)
                ·
                  try simp only [mIn_0, lgc_lt, lgc_gt, lgc_le, lgc_ge, lgc_eq] at c_172
                  try simp only [fl_lt, fl_le, fl_eq, fL_w, fL_lt, fL_le, tm1, tm10k, tm9, tm99, Int32.reduceToInt, Int64.reduceToInt, Int.not_lt, Int.not_le] at c_172
                  refine gz_aload_n dX12_tells_175 rfl rfl ?_
                  refine gz_iload_n dX12_tells_176 rfl rfl ?_
                  refine gz_aload_n dX12_tells_177 rfl rfl ?_
                  refine mg_38 hS_132 dX12_tells_178 ?_
                  refine gz_iload_n dX12_tells_181 rfl rfl ?_
                  refine m_iald 13 hS_132 rfl (N := 880) rfl ((by exact vin_T (rfl : (x1).toInt = (x1).toInt) (by omega) (by omega))) dX12_tells_182 ?_
                  refine gz_ev (w := .int ((F 13) (Int32.toNatClampNeg x1))) (congrArg Value.int (congrFun ((hx132.2.2.1 13 (by decide)).trans ((hx131.2.2.1 13 (by decide)).trans ((hx130.2.2.1 13 (by decide)).trans ((hx116.2.2.1 13 (by decide)).trans (hx1.2.2.1 13 (by decide)))))) _)) ?_
                  refine gz_aload_n dX12_tells_183 rfl rfl ?_
                  refine mg_41 hS_132 dX12_tells_184 ?_
                  refine gz_iload_n dX12_tells_187 rfl rfl ?_
                  refine m_iald 14 hS_132 rfl (N := 880) rfl ((by exact vin_T (rfl : (x1).toInt = (x1).toInt) (by omega) (by omega))) dX12_tells_188 ?_
                  refine gz_ev (w := .int ((F 14) (Int32.toNatClampNeg x1))) (congrArg Value.int (congrFun ((hx132.2.2.1 14 (by decide)).trans ((hx131.2.2.1 14 (by decide)).trans ((hx130.2.2.1 14 (by decide)).trans ((hx116.2.2.1 14 (by decide)).trans (hx1.2.2.1 14 (by decide)))))) _)) ?_
                  have hxx189 : fx [88, 89] [] [87] [] n z F G n_132 z_132 F_132 G_132 := (fx_tr (fx_tr (fx_tr (fx_tr (fx_tr fx_rf hx1 (by decide)) hx116 (by decide)) hx130 (by decide)) hx131 (by decide)) hx132 (by decide))
                  refine scX12_558 (k_X12_sums (x1 := x1) (x2 := ((F 13) (Int32.toNatClampNeg x1))) (x3 := ((F 14) (Int32.toNatClampNeg x1))) hS_132 (rAll_w (fun k hk => hxx189.2.2.1 k ((by decide : ∀ k : Nat, k ∈ wK → k ∉ ([87] : List Nat)) k hk)) bA) (by omega) (by omega) (by (try rw [(show n_132 88 = (n_132 88) from rfl)]); omega)) hS_132.1 ⟨(Nat.le_of_ble_eq_true rfl), (Nat.le_of_ble_eq_true rfl)⟩ ⟨(Nat.le_of_ble_eq_true rfl), (Nat.le_of_ble_eq_true rfl)⟩ rfl rfl (Nat.le_of_ble_eq_true rfl) dX12_tells_189 ?_
                  rintro f_133 ⟨n_133, z_133, F_133, G_133, hS_133, hx133, h8a_133, h8b_133⟩
                  refine gz_aload_n dX12_tells_192 rfl rfl ?_
                  refine gz_bipush (v := 58) dX12_tells_193 (by decide) ?_
                  refine scX12_547 (k_X12_signs (x1 := 58) hS_133 (by (try rw [(show n_133 88 = (n_133 88) from rfl)]); omega)) hS_133.1 ⟨(Nat.le_of_ble_eq_true rfl), (Nat.le_of_ble_eq_true rfl)⟩ ⟨(Nat.le_of_ble_eq_true rfl), (Nat.le_of_ble_eq_true rfl)⟩ rfl rfl (Nat.le_of_ble_eq_true rfl) dX12_tells_195 ?_
                  rintro f_134 ⟨n_134, z_134, F_134, G_134, hS_134, hx134, h8_134⟩
                  exact gz_vret rfl dX12_tells_198 (Nat.le_of_ble_eq_true rfl) (Nat.le_of_ble_eq_true rfl) (⟨rfl, _, _, _, _, hS_134, (fx_tr (fx_tr (fx_tr (fx_tr (fx_tr (fx_tr (fx_tr fx_rf hx1 (by decide)) hx116 (by decide)) hx130 (by decide)) hx131 (by decide)) hx132 (by decide)) hx133 (by decide)) hx134 (by decide)), (by (try rw [(show n_134 88 = (n_134 88) from rfl)]); omega), (by (try rw [(show n_134 88 = (n_134 88) from rfl)]); omega), (by (try rw [(show n_134 88 = (n_134 88) from rfl)]); omega)⟩)
              ·
                try simp only [mIn_0, lgc_lt, lgc_gt, lgc_le, lgc_ge, lgc_eq] at c_122
                try simp only [fl_lt, fl_le, fl_eq, fL_w, fL_lt, fL_le, tm1, tm10k, tm9, tm99, Int32.reduceToInt, Int64.reduceToInt, Int.not_lt, Int.not_le] at c_122
                refine gz_aload_n dX12_tells_125 rfl rfl ?_
                refine mg_47 hS_130 dX12_tells_126 ?_
                refine gz_iload_n dX12_tells_129 rfl rfl ?_
                refine m_iald 16 hS_130 rfl (N := 880) rfl ((by exact vin_T (rfl : (x1).toInt = (x1).toInt) (by omega) (by omega))) dX12_tells_130 ?_
                refine gz_ev (w := .int ((F 16) (Int32.toNatClampNeg x1))) (congrArg Value.int (congrFun ((hx130.2.2.1 16 (by decide)).trans ((hx116.2.2.1 16 (by decide)).trans (hx1.2.2.1 16 (by decide)))) _)) ?_
                refine gz_iconst (v := 4) dX12_tells_131 (by decide) ?_
                refine gz_icmp_ge (tgt := 141) dX12_tells_132 (by decide) (fun c_132 => ?_) (fun c_132 => ?_)
                ·
                  try simp only [mIn_0, lgc_lt, lgc_gt, lgc_le, lgc_ge, lgc_eq] at c_132
                  try simp only [fl_lt, fl_le, fl_eq, fL_w, fL_lt, fL_le, tm1, tm10k, tm9, tm99, Int32.reduceToInt, Int64.reduceToInt, Int.not_lt, Int.not_le] at c_132
                  refine gz_aload_n dX12_tells_141 rfl rfl ?_
                  refine gz_iload_n dX12_tells_142 rfl rfl ?_
                  refine gz_aload_n dX12_tells_143 rfl rfl ?_
                  refine mg_41 hS_130 dX12_tells_144 ?_
                  refine gz_iload_n dX12_tells_147 rfl rfl ?_
                  refine m_iald 14 hS_130 rfl (N := 880) rfl ((by exact vin_T (rfl : (x1).toInt = (x1).toInt) (by omega) (by omega))) dX12_tells_148 ?_
                  refine gz_ev (w := .int ((F 14) (Int32.toNatClampNeg x1))) (congrArg Value.int (congrFun ((hx130.2.2.1 14 (by decide)).trans ((hx116.2.2.1 14 (by decide)).trans (hx1.2.2.1 14 (by decide)))) _)) ?_
                  refine gz_aload_n dX12_tells_149 rfl rfl ?_
                  refine mg_44 hS_130 dX12_tells_150 ?_
                  refine gz_iload_n dX12_tells_153 rfl rfl ?_
                  refine m_iald 15 hS_130 rfl (N := 880) rfl ((by exact vin_T (rfl : (x1).toInt = (x1).toInt) (by omega) (by omega))) dX12_tells_154 ?_
                  refine gz_ev (w := .int ((F 15) (Int32.toNatClampNeg x1))) (congrArg Value.int (congrFun ((hx130.2.2.1 15 (by decide)).trans ((hx116.2.2.1 15 (by decide)).trans (hx1.2.2.1 15 (by decide)))) _)) ?_
                  have hxx155 : fx [88, 89] [] [87] [] n z F G n_130 z_130 F_130 G_130 := (fx_tr (fx_tr (fx_tr fx_rf hx1 (by decide)) hx116 (by decide)) hx130 (by decide))
                  refine scX12_558 (k_X12_sums (x1 := x1) (x2 := ((F 14) (Int32.toNatClampNeg x1))) (x3 := ((F 15) (Int32.toNatClampNeg x1))) hS_130 (rAll_w (fun k hk => hxx155.2.2.1 k ((by decide : ∀ k : Nat, k ∈ wK → k ∉ ([87] : List Nat)) k hk)) bA) (by omega) (by omega) (by (try rw [(show n_130 88 = (n_130 88) from rfl)]); omega)) hS_130.1 ⟨(Nat.le_of_ble_eq_true rfl), (Nat.le_of_ble_eq_true rfl)⟩ ⟨(Nat.le_of_ble_eq_true rfl), (Nat.le_of_ble_eq_true rfl)⟩ rfl rfl (Nat.le_of_ble_eq_true rfl) dX12_tells_155 ?_
                  rintro f_135 ⟨n_135, z_135, F_135, G_135, hS_135, hx135, h8a_135, h8b_135⟩
                  refine gz_aload_n dX12_tells_158 rfl rfl ?_
                  refine gz_bipush (v := 58) dX12_tells_159 (by decide) ?_
                  refine scX12_547 (k_X12_signs (x1 := 58) hS_135 (by (try rw [(show n_135 88 = (n_135 88) from rfl)]); omega)) hS_135.1 ⟨(Nat.le_of_ble_eq_true rfl), (Nat.le_of_ble_eq_true rfl)⟩ ⟨(Nat.le_of_ble_eq_true rfl), (Nat.le_of_ble_eq_true rfl)⟩ rfl rfl (Nat.le_of_ble_eq_true rfl) dX12_tells_161 ?_
                  rintro f_136 ⟨n_136, z_136, F_136, G_136, hS_136, hx136, h8_136⟩
                  refine gz_aload_n dX12_tells_164 rfl rfl ?_
                  refine mg_20 hS_136 dX12_tells_165 ?_
                  refine gz_iload_n dX12_tells_168 rfl rfl ?_
                  refine m_iald 7 hS_136 rfl (N := 880) rfl ((by exact vin_T (rfl : (x1).toInt = (x1).toInt) (by omega) (by omega))) dX12_tells_169 ?_
                  refine gz_ev (w := .int ((F 7) (Int32.toNatClampNeg x1))) (congrArg Value.int (congrFun ((hx136.2.2.1 7 (by decide)).trans ((hx135.2.2.1 7 (by decide)).trans ((hx130.2.2.1 7 (by decide)).trans ((hx116.2.2.1 7 (by decide)).trans (hx1.2.2.1 7 (by decide)))))) _)) ?_
                  refine gz_bipush (v := 9) dX12_tells_170 (by decide) ?_
                  refine gz_icmp_ne (tgt := 198) dX12_tells_172 (by decide) (fun c_172 => ?_) (fun c_172 => ?_)
                  ·
                    try simp only [mIn_0, lgc_lt, lgc_gt, lgc_le, lgc_ge, lgc_eq] at c_172
                    try simp only [fl_lt, fl_le, fl_eq, fL_w, fL_lt, fL_le, tm1, tm10k, tm9, tm99, Int32.reduceToInt, Int64.reduceToInt, Int.not_lt, Int.not_le] at c_172
                    exact gz_vret rfl dX12_tells_198 (Nat.le_of_ble_eq_true rfl) (Nat.le_of_ble_eq_true rfl) (⟨rfl, _, _, _, _, hS_136, (fx_tr (fx_tr (fx_tr (fx_tr (fx_tr fx_rf hx1 (by decide)) hx116 (by decide)) hx130 (by decide)) hx135 (by decide)) hx136 (by decide)), (by (try rw [(show n_136 88 = (n_136 88) from rfl)]); omega), (by (try rw [(show n_136 88 = (n_136 88) from rfl)]); omega), (by (try rw [(show n_136 88 = (n_136 88) from rfl)]); omega)⟩)
                  ·
                    try simp only [mIn_0, lgc_lt, lgc_gt, lgc_le, lgc_ge, lgc_eq] at c_172
                    try simp only [fl_lt, fl_le, fl_eq, fL_w, fL_lt, fL_le, tm1, tm10k, tm9, tm99, Int32.reduceToInt, Int64.reduceToInt, Int.not_lt, Int.not_le] at c_172
                    refine gz_aload_n dX12_tells_175 rfl rfl ?_
                    refine gz_iload_n dX12_tells_176 rfl rfl ?_
                    refine gz_aload_n dX12_tells_177 rfl rfl ?_
                    refine mg_38 hS_136 dX12_tells_178 ?_
                    refine gz_iload_n dX12_tells_181 rfl rfl ?_
                    refine m_iald 13 hS_136 rfl (N := 880) rfl ((by exact vin_T (rfl : (x1).toInt = (x1).toInt) (by omega) (by omega))) dX12_tells_182 ?_
                    refine gz_ev (w := .int ((F 13) (Int32.toNatClampNeg x1))) (congrArg Value.int (congrFun ((hx136.2.2.1 13 (by decide)).trans ((hx135.2.2.1 13 (by decide)).trans ((hx130.2.2.1 13 (by decide)).trans ((hx116.2.2.1 13 (by decide)).trans (hx1.2.2.1 13 (by decide)))))) _)) ?_
                    refine gz_aload_n dX12_tells_183 rfl rfl ?_
                    refine mg_41 hS_136 dX12_tells_184 ?_
                    refine gz_iload_n dX12_tells_187 rfl rfl ?_
                    refine m_iald 14 hS_136 rfl (N := 880) rfl ((by exact vin_T (rfl : (x1).toInt = (x1).toInt) (by omega) (by omega))) dX12_tells_188 ?_
                    refine gz_ev (w := .int ((F 14) (Int32.toNatClampNeg x1))) (congrArg Value.int (congrFun ((hx136.2.2.1 14 (by decide)).trans ((hx135.2.2.1 14 (by decide)).trans ((hx130.2.2.1 14 (by decide)).trans ((hx116.2.2.1 14 (by decide)).trans (hx1.2.2.1 14 (by decide)))))) _)) ?_
                    have hxx189 : fx [88, 89] [] [87] [] n z F G n_136 z_136 F_136 G_136 := (fx_tr (fx_tr (fx_tr (fx_tr (fx_tr fx_rf hx1 (by decide)) hx116 (by decide)) hx130 (by decide)) hx135 (by decide)) hx136 (by decide))
                    refine scX12_558 (k_X12_sums (x1 := x1) (x2 := ((F 13) (Int32.toNatClampNeg x1))) (x3 := ((F 14) (Int32.toNatClampNeg x1))) hS_136 (rAll_w (fun k hk => hxx189.2.2.1 k ((by decide : ∀ k : Nat, k ∈ wK → k ∉ ([87] : List Nat)) k hk)) bA) (by omega) (by omega) (by (try rw [(show n_136 88 = (n_136 88) from rfl)]); omega)) hS_136.1 ⟨(Nat.le_of_ble_eq_true rfl), (Nat.le_of_ble_eq_true rfl)⟩ ⟨(Nat.le_of_ble_eq_true rfl), (Nat.le_of_ble_eq_true rfl)⟩ rfl rfl (Nat.le_of_ble_eq_true rfl) dX12_tells_189 ?_
                    rintro f_137 ⟨n_137, z_137, F_137, G_137, hS_137, hx137, h8a_137, h8b_137⟩
                    refine gz_aload_n dX12_tells_192 rfl rfl ?_
                    refine gz_bipush (v := 58) dX12_tells_193 (by decide) ?_
                    refine scX12_547 (k_X12_signs (x1 := 58) hS_137 (by (try rw [(show n_137 88 = (n_137 88) from rfl)]); omega)) hS_137.1 ⟨(Nat.le_of_ble_eq_true rfl), (Nat.le_of_ble_eq_true rfl)⟩ ⟨(Nat.le_of_ble_eq_true rfl), (Nat.le_of_ble_eq_true rfl)⟩ rfl rfl (Nat.le_of_ble_eq_true rfl) dX12_tells_195 ?_
                    rintro f_138 ⟨n_138, z_138, F_138, G_138, hS_138, hx138, h8_138⟩
                    exact gz_vret rfl dX12_tells_198 (Nat.le_of_ble_eq_true rfl) (Nat.le_of_ble_eq_true rfl) (⟨rfl, _, _, _, _, hS_138, (fx_tr (fx_tr (fx_tr (fx_tr (fx_tr (fx_tr (fx_tr fx_rf hx1 (by decide)) hx116 (by decide)) hx130 (by decide)) hx135 (by decide)) hx136 (by decide)) hx137 (by decide)) hx138 (by decide)), (by (try rw [(show n_138 88 = (n_138 88) from rfl)]); omega), (by (try rw [(show n_138 88 = (n_138 88) from rfl)]); omega), (by (try rw [(show n_138 88 = (n_138 88) from rfl)]); omega)⟩)
                ·
                  try simp only [mIn_0, lgc_lt, lgc_gt, lgc_le, lgc_ge, lgc_eq] at c_132
                  try simp only [fl_lt, fl_le, fl_eq, fL_w, fL_lt, fL_le, tm1, tm10k, tm9, tm99, Int32.reduceToInt, Int64.reduceToInt, Int.not_lt, Int.not_le] at c_132
                  refine gz_aload_n dX12_tells_135 rfl rfl ?_
                  refine gz_bipush (v := 61) dX12_tells_136 (by decide) ?_
                  refine scX12_547 (k_X12_signs (x1 := 61) hS_130 (by (try rw [(show n_130 88 = (n_130 88) from rfl)]); omega)) hS_130.1 ⟨(Nat.le_of_ble_eq_true rfl), (Nat.le_of_ble_eq_true rfl)⟩ ⟨(Nat.le_of_ble_eq_true rfl), (Nat.le_of_ble_eq_true rfl)⟩ rfl rfl (Nat.le_of_ble_eq_true rfl) dX12_tells_138 ?_
                  rintro f_139 ⟨n_139, z_139, F_139, G_139, hS_139, hx139, h8_139⟩
                  refine gz_aload_n dX12_tells_141 rfl rfl ?_
                  refine gz_iload_n dX12_tells_142 rfl rfl ?_
                  refine gz_aload_n dX12_tells_143 rfl rfl ?_
                  refine mg_41 hS_139 dX12_tells_144 ?_
                  refine gz_iload_n dX12_tells_147 rfl rfl ?_
                  refine m_iald 14 hS_139 rfl (N := 880) rfl ((by exact vin_T (rfl : (x1).toInt = (x1).toInt) (by omega) (by omega))) dX12_tells_148 ?_
                  refine gz_ev (w := .int ((F 14) (Int32.toNatClampNeg x1))) (congrArg Value.int (congrFun ((hx139.2.2.1 14 (by decide)).trans ((hx130.2.2.1 14 (by decide)).trans ((hx116.2.2.1 14 (by decide)).trans (hx1.2.2.1 14 (by decide))))) _)) ?_
                  refine gz_aload_n dX12_tells_149 rfl rfl ?_
                  refine mg_44 hS_139 dX12_tells_150 ?_
                  refine gz_iload_n dX12_tells_153 rfl rfl ?_
                  refine m_iald 15 hS_139 rfl (N := 880) rfl ((by exact vin_T (rfl : (x1).toInt = (x1).toInt) (by omega) (by omega))) dX12_tells_154 ?_
                  refine gz_ev (w := .int ((F 15) (Int32.toNatClampNeg x1))) (congrArg Value.int (congrFun ((hx139.2.2.1 15 (by decide)).trans ((hx130.2.2.1 15 (by decide)).trans ((hx116.2.2.1 15 (by decide)).trans (hx1.2.2.1 15 (by decide))))) _)) ?_
                  have hxx155 : fx [88, 89] [] [87] [] n z F G n_139 z_139 F_139 G_139 := (fx_tr (fx_tr (fx_tr (fx_tr fx_rf hx1 (by decide)) hx116 (by decide)) hx130 (by decide)) hx139 (by decide))
                  refine scX12_558 (k_X12_sums (x1 := x1) (x2 := ((F 14) (Int32.toNatClampNeg x1))) (x3 := ((F 15) (Int32.toNatClampNeg x1))) hS_139 (rAll_w (fun k hk => hxx155.2.2.1 k ((by decide : ∀ k : Nat, k ∈ wK → k ∉ ([87] : List Nat)) k hk)) bA) (by omega) (by omega) (by (try rw [(show n_139 88 = (n_139 88) from rfl)]); omega)) hS_139.1 ⟨(Nat.le_of_ble_eq_true rfl), (Nat.le_of_ble_eq_true rfl)⟩ ⟨(Nat.le_of_ble_eq_true rfl), (Nat.le_of_ble_eq_true rfl)⟩ rfl rfl (Nat.le_of_ble_eq_true rfl) dX12_tells_155 ?_
                  rintro f_140 ⟨n_140, z_140, F_140, G_140, hS_140, hx140, h8a_140, h8b_140⟩
                  refine gz_aload_n dX12_tells_158 rfl rfl ?_
                  refine gz_bipush (v := 58) dX12_tells_159 (by decide) ?_
                  refine scX12_547 (k_X12_signs (x1 := 58) hS_140 (by (try rw [(show n_140 88 = (n_140 88) from rfl)]); omega)) hS_140.1 ⟨(Nat.le_of_ble_eq_true rfl), (Nat.le_of_ble_eq_true rfl)⟩ ⟨(Nat.le_of_ble_eq_true rfl), (Nat.le_of_ble_eq_true rfl)⟩ rfl rfl (Nat.le_of_ble_eq_true rfl) dX12_tells_161 ?_
                  rintro f_141 ⟨n_141, z_141, F_141, G_141, hS_141, hx141, h8_141⟩
                  refine gz_aload_n dX12_tells_164 rfl rfl ?_
                  refine mg_20 hS_141 dX12_tells_165 ?_
                  refine gz_iload_n dX12_tells_168 rfl rfl ?_
                  refine m_iald 7 hS_141 rfl (N := 880) rfl ((by exact vin_T (rfl : (x1).toInt = (x1).toInt) (by omega) (by omega))) dX12_tells_169 ?_
                  refine gz_ev (w := .int ((F 7) (Int32.toNatClampNeg x1))) (congrArg Value.int (congrFun ((hx141.2.2.1 7 (by decide)).trans ((hx140.2.2.1 7 (by decide)).trans ((hx139.2.2.1 7 (by decide)).trans ((hx130.2.2.1 7 (by decide)).trans ((hx116.2.2.1 7 (by decide)).trans (hx1.2.2.1 7 (by decide))))))) _)) ?_
                  refine gz_bipush (v := 9) dX12_tells_170 (by decide) ?_
                  refine gz_icmp_ne (tgt := 198) dX12_tells_172 (by decide) (fun c_172 => ?_) (fun c_172 => ?_)
                  ·
                    try simp only [mIn_0, lgc_lt, lgc_gt, lgc_le, lgc_ge, lgc_eq] at c_172
                    try simp only [fl_lt, fl_le, fl_eq, fL_w, fL_lt, fL_le, tm1, tm10k, tm9, tm99, Int32.reduceToInt, Int64.reduceToInt, Int.not_lt, Int.not_le] at c_172
                    exact gz_vret rfl dX12_tells_198 (Nat.le_of_ble_eq_true rfl) (Nat.le_of_ble_eq_true rfl) (⟨rfl, _, _, _, _, hS_141, (fx_tr (fx_tr (fx_tr (fx_tr (fx_tr (fx_tr fx_rf hx1 (by decide)) hx116 (by decide)) hx130 (by decide)) hx139 (by decide)) hx140 (by decide)) hx141 (by decide)), (by (try rw [(show n_141 88 = (n_141 88) from rfl)]); omega), (by (try rw [(show n_141 88 = (n_141 88) from rfl)]); omega), (by (try rw [(show n_141 88 = (n_141 88) from rfl)]); omega)⟩)
                  ·
                    try simp only [mIn_0, lgc_lt, lgc_gt, lgc_le, lgc_ge, lgc_eq] at c_172
                    try simp only [fl_lt, fl_le, fl_eq, fL_w, fL_lt, fL_le, tm1, tm10k, tm9, tm99, Int32.reduceToInt, Int64.reduceToInt, Int.not_lt, Int.not_le] at c_172
                    refine gz_aload_n dX12_tells_175 rfl rfl ?_
                    refine gz_iload_n dX12_tells_176 rfl rfl ?_
                    refine gz_aload_n dX12_tells_177 rfl rfl ?_
                    refine mg_38 hS_141 dX12_tells_178 ?_
                    refine gz_iload_n dX12_tells_181 rfl rfl ?_
                    refine m_iald 13 hS_141 rfl (N := 880) rfl ((by exact vin_T (rfl : (x1).toInt = (x1).toInt) (by omega) (by omega))) dX12_tells_182 ?_
                    refine gz_ev (w := .int ((F 13) (Int32.toNatClampNeg x1))) (congrArg Value.int (congrFun ((hx141.2.2.1 13 (by decide)).trans ((hx140.2.2.1 13 (by decide)).trans ((hx139.2.2.1 13 (by decide)).trans ((hx130.2.2.1 13 (by decide)).trans ((hx116.2.2.1 13 (by decide)).trans (hx1.2.2.1 13 (by decide))))))) _)) ?_
                    refine gz_aload_n dX12_tells_183 rfl rfl ?_
                    refine mg_41 hS_141 dX12_tells_184 ?_
                    refine gz_iload_n dX12_tells_187 rfl rfl ?_
                    refine m_iald 14 hS_141 rfl (N := 880) rfl ((by exact vin_T (rfl : (x1).toInt = (x1).toInt) (by omega) (by omega))) dX12_tells_188 ?_
                    refine gz_ev (w := .int ((F 14) (Int32.toNatClampNeg x1))) (congrArg Value.int (congrFun ((hx141.2.2.1 14 (by decide)).trans ((hx140.2.2.1 14 (by decide)).trans ((hx139.2.2.1 14 (by decide)).trans ((hx130.2.2.1 14 (by decide)).trans ((hx116.2.2.1 14 (by decide)).trans (hx1.2.2.1 14 (by decide))))))) _)) ?_
                    have hxx189 : fx [88, 89] [] [87] [] n z F G n_141 z_141 F_141 G_141 := (fx_tr (fx_tr (fx_tr (fx_tr (fx_tr (fx_tr fx_rf hx1 (by decide)) hx116 (by decide)) hx130 (by decide)) hx139 (by decide)) hx140 (by decide)) hx141 (by decide))
                    refine scX12_558 (k_X12_sums (x1 := x1) (x2 := ((F 13) (Int32.toNatClampNeg x1))) (x3 := ((F 14) (Int32.toNatClampNeg x1))) hS_141 (rAll_w (fun k hk => hxx189.2.2.1 k ((by decide : ∀ k : Nat, k ∈ wK → k ∉ ([87] : List Nat)) k hk)) bA) (by omega) (by omega) (by (try rw [(show n_141 88 = (n_141 88) from rfl)]); omega)) hS_141.1 ⟨(Nat.le_of_ble_eq_true rfl), (Nat.le_of_ble_eq_true rfl)⟩ ⟨(Nat.le_of_ble_eq_true rfl), (Nat.le_of_ble_eq_true rfl)⟩ rfl rfl (Nat.le_of_ble_eq_true rfl) dX12_tells_189 ?_
                    rintro f_142 ⟨n_142, z_142, F_142, G_142, hS_142, hx142, h8a_142, h8b_142⟩
                    refine gz_aload_n dX12_tells_192 rfl rfl ?_
                    refine gz_bipush (v := 58) dX12_tells_193 (by decide) ?_
                    refine scX12_547 (k_X12_signs (x1 := 58) hS_142 (by (try rw [(show n_142 88 = (n_142 88) from rfl)]); omega)) hS_142.1 ⟨(Nat.le_of_ble_eq_true rfl), (Nat.le_of_ble_eq_true rfl)⟩ ⟨(Nat.le_of_ble_eq_true rfl), (Nat.le_of_ble_eq_true rfl)⟩ rfl rfl (Nat.le_of_ble_eq_true rfl) dX12_tells_195 ?_
                    rintro f_143 ⟨n_143, z_143, F_143, G_143, hS_143, hx143, h8_143⟩
                    exact gz_vret rfl dX12_tells_198 (Nat.le_of_ble_eq_true rfl) (Nat.le_of_ble_eq_true rfl) (⟨rfl, _, _, _, _, hS_143, (fx_tr (fx_tr (fx_tr (fx_tr (fx_tr (fx_tr (fx_tr (fx_tr fx_rf hx1 (by decide)) hx116 (by decide)) hx130 (by decide)) hx139 (by decide)) hx140 (by decide)) hx141 (by decide)) hx142 (by decide)) hx143 (by decide)), (by (try rw [(show n_143 88 = (n_143 88) from rfl)]); omega), (by (try rw [(show n_143 88 = (n_143 88) from rfl)]); omega), (by (try rw [(show n_143 88 = (n_143 88) from rfl)]); omega)⟩)
          ·
            try simp only [mIn_0, lgc_lt, lgc_gt, lgc_le, lgc_ge, lgc_eq] at c_91
            try simp only [fl_lt, fl_le, fl_eq, fL_w, fL_lt, fL_le, tm1, tm10k, tm9, tm99, Int32.reduceToInt, Int64.reduceToInt, Int.not_lt, Int.not_le] at c_91
            refine gz_aload_n dX12_tells_94 rfl rfl ?_
            refine gz_bipush (v := 60) dX12_tells_95 (by decide) ?_
            refine scX12_547 (k_X12_signs (x1 := 60) hS_116 (by (try rw [(show n_116 88 = (n_116 88) from rfl)]); omega)) hS_116.1 ⟨(Nat.le_of_ble_eq_true rfl), (Nat.le_of_ble_eq_true rfl)⟩ ⟨(Nat.le_of_ble_eq_true rfl), (Nat.le_of_ble_eq_true rfl)⟩ rfl rfl (Nat.le_of_ble_eq_true rfl) dX12_tells_97 ?_
            rintro f_144 ⟨n_144, z_144, F_144, G_144, hS_144, hx144, h8_144⟩
            refine gz_aload_n dX12_tells_100 rfl rfl ?_
            refine mg_47 hS_144 dX12_tells_101 ?_
            refine gz_iload_n dX12_tells_104 rfl rfl ?_
            refine m_iald 16 hS_144 rfl (N := 880) rfl ((by exact vin_T (rfl : (x1).toInt = (x1).toInt) (by omega) (by omega))) dX12_tells_105 ?_
            refine gz_ev (w := .int ((F 16) (Int32.toNatClampNeg x1))) (congrArg Value.int (congrFun ((hx144.2.2.1 16 (by decide)).trans ((hx116.2.2.1 16 (by decide)).trans (hx1.2.2.1 16 (by decide)))) _)) ?_
            refine gz_iconst (v := 2) dX12_tells_106 (by decide) ?_
            refine gz_icmp_le (tgt := 116) dX12_tells_107 (by decide) (fun c_107 => ?_) (fun c_107 => ?_)
            ·
              try simp only [mIn_0, lgc_lt, lgc_gt, lgc_le, lgc_ge, lgc_eq] at c_107
              try simp only [fl_lt, fl_le, fl_eq, fL_w, fL_lt, fL_le, tm1, tm10k, tm9, tm99, Int32.reduceToInt, Int64.reduceToInt, Int.not_lt, Int.not_le] at c_107
              refine gz_aload_n dX12_tells_116 rfl rfl ?_
              refine mg_47 hS_144 dX12_tells_117 ?_
              refine gz_iload_n dX12_tells_120 rfl rfl ?_
              refine m_iald 16 hS_144 rfl (N := 880) rfl ((by exact vin_T (rfl : (x1).toInt = (x1).toInt) (by omega) (by omega))) dX12_tells_121 ?_
              refine gz_ev (w := .int ((F 16) (Int32.toNatClampNeg x1))) (congrArg Value.int (congrFun ((hx144.2.2.1 16 (by decide)).trans ((hx116.2.2.1 16 (by decide)).trans (hx1.2.2.1 16 (by decide)))) _)) ?_
              refine gz_if_le (tgt := 141) dX12_tells_122 (by decide) (fun c_122 => ?_) (fun c_122 => ?_)
              ·
                try simp only [mIn_0, lgc_lt, lgc_gt, lgc_le, lgc_ge, lgc_eq] at c_122
                try simp only [fl_lt, fl_le, fl_eq, fL_w, fL_lt, fL_le, tm1, tm10k, tm9, tm99, Int32.reduceToInt, Int64.reduceToInt, Int.not_lt, Int.not_le] at c_122
                refine gz_aload_n dX12_tells_141 rfl rfl ?_
                refine gz_iload_n dX12_tells_142 rfl rfl ?_
                refine gz_aload_n dX12_tells_143 rfl rfl ?_
                refine mg_41 hS_144 dX12_tells_144 ?_
                refine gz_iload_n dX12_tells_147 rfl rfl ?_
                refine m_iald 14 hS_144 rfl (N := 880) rfl ((by exact vin_T (rfl : (x1).toInt = (x1).toInt) (by omega) (by omega))) dX12_tells_148 ?_
                refine gz_ev (w := .int ((F 14) (Int32.toNatClampNeg x1))) (congrArg Value.int (congrFun ((hx144.2.2.1 14 (by decide)).trans ((hx116.2.2.1 14 (by decide)).trans (hx1.2.2.1 14 (by decide)))) _)) ?_
                refine gz_aload_n dX12_tells_149 rfl rfl ?_
                refine mg_44 hS_144 dX12_tells_150 ?_
                refine gz_iload_n dX12_tells_153 rfl rfl ?_
                refine m_iald 15 hS_144 rfl (N := 880) rfl ((by exact vin_T (rfl : (x1).toInt = (x1).toInt) (by omega) (by omega))) dX12_tells_154 ?_
                refine gz_ev (w := .int ((F 15) (Int32.toNatClampNeg x1))) (congrArg Value.int (congrFun ((hx144.2.2.1 15 (by decide)).trans ((hx116.2.2.1 15 (by decide)).trans (hx1.2.2.1 15 (by decide)))) _)) ?_
                have hxx155 : fx [88, 89] [] [87] [] n z F G n_144 z_144 F_144 G_144 := (fx_tr (fx_tr (fx_tr fx_rf hx1 (by decide)) hx116 (by decide)) hx144 (by decide))
                refine scX12_558 (k_X12_sums (x1 := x1) (x2 := ((F 14) (Int32.toNatClampNeg x1))) (x3 := ((F 15) (Int32.toNatClampNeg x1))) hS_144 (rAll_w (fun k hk => hxx155.2.2.1 k ((by decide : ∀ k : Nat, k ∈ wK → k ∉ ([87] : List Nat)) k hk)) bA) (by omega) (by omega) (by (try rw [(show n_144 88 = (n_144 88) from rfl)]); omega)) hS_144.1 ⟨(Nat.le_of_ble_eq_true rfl), (Nat.le_of_ble_eq_true rfl)⟩ ⟨(Nat.le_of_ble_eq_true rfl), (Nat.le_of_ble_eq_true rfl)⟩ rfl rfl (Nat.le_of_ble_eq_true rfl) dX12_tells_155 ?_
                rintro f_145 ⟨n_145, z_145, F_145, G_145, hS_145, hx145, h8a_145, h8b_145⟩
                refine gz_aload_n dX12_tells_158 rfl rfl ?_
                refine gz_bipush (v := 58) dX12_tells_159 (by decide) ?_
                refine scX12_547 (k_X12_signs (x1 := 58) hS_145 (by (try rw [(show n_145 88 = (n_145 88) from rfl)]); omega)) hS_145.1 ⟨(Nat.le_of_ble_eq_true rfl), (Nat.le_of_ble_eq_true rfl)⟩ ⟨(Nat.le_of_ble_eq_true rfl), (Nat.le_of_ble_eq_true rfl)⟩ rfl rfl (Nat.le_of_ble_eq_true rfl) dX12_tells_161 ?_
                rintro f_146 ⟨n_146, z_146, F_146, G_146, hS_146, hx146, h8_146⟩
                refine gz_aload_n dX12_tells_164 rfl rfl ?_
                refine mg_20 hS_146 dX12_tells_165 ?_
                refine gz_iload_n dX12_tells_168 rfl rfl ?_
                refine m_iald 7 hS_146 rfl (N := 880) rfl ((by exact vin_T (rfl : (x1).toInt = (x1).toInt) (by omega) (by omega))) dX12_tells_169 ?_
                refine gz_ev (w := .int ((F 7) (Int32.toNatClampNeg x1))) (congrArg Value.int (congrFun ((hx146.2.2.1 7 (by decide)).trans ((hx145.2.2.1 7 (by decide)).trans ((hx144.2.2.1 7 (by decide)).trans ((hx116.2.2.1 7 (by decide)).trans (hx1.2.2.1 7 (by decide)))))) _)) ?_
                refine gz_bipush (v := 9) dX12_tells_170 (by decide) ?_
                refine gz_icmp_ne (tgt := 198) dX12_tells_172 (by decide) (fun c_172 => ?_) (fun c_172 => ?_)
                ·
                  try simp only [mIn_0, lgc_lt, lgc_gt, lgc_le, lgc_ge, lgc_eq] at c_172
                  try simp only [fl_lt, fl_le, fl_eq, fL_w, fL_lt, fL_le, tm1, tm10k, tm9, tm99, Int32.reduceToInt, Int64.reduceToInt, Int.not_lt, Int.not_le] at c_172
                  exact gz_vret rfl dX12_tells_198 (Nat.le_of_ble_eq_true rfl) (Nat.le_of_ble_eq_true rfl) (⟨rfl, _, _, _, _, hS_146, (fx_tr (fx_tr (fx_tr (fx_tr (fx_tr fx_rf hx1 (by decide)) hx116 (by decide)) hx144 (by decide)) hx145 (by decide)) hx146 (by decide)), (by (try rw [(show n_146 88 = (n_146 88) from rfl)]); omega), (by (try rw [(show n_146 88 = (n_146 88) from rfl)]); omega), (by (try rw [(show n_146 88 = (n_146 88) from rfl)]); omega)⟩)
                ·
                  try simp only [mIn_0, lgc_lt, lgc_gt, lgc_le, lgc_ge, lgc_eq] at c_172
                  try simp only [fl_lt, fl_le, fl_eq, fL_w, fL_lt, fL_le, tm1, tm10k, tm9, tm99, Int32.reduceToInt, Int64.reduceToInt, Int.not_lt, Int.not_le] at c_172
                  refine gz_aload_n dX12_tells_175 rfl rfl ?_
                  refine gz_iload_n dX12_tells_176 rfl rfl ?_
                  refine gz_aload_n dX12_tells_177 rfl rfl ?_
                  refine mg_38 hS_146 dX12_tells_178 ?_
                  refine gz_iload_n dX12_tells_181 rfl rfl ?_
                  refine m_iald 13 hS_146 rfl (N := 880) rfl ((by exact vin_T (rfl : (x1).toInt = (x1).toInt) (by omega) (by omega))) dX12_tells_182 ?_
                  refine gz_ev (w := .int ((F 13) (Int32.toNatClampNeg x1))) (congrArg Value.int (congrFun ((hx146.2.2.1 13 (by decide)).trans ((hx145.2.2.1 13 (by decide)).trans ((hx144.2.2.1 13 (by decide)).trans ((hx116.2.2.1 13 (by decide)).trans (hx1.2.2.1 13 (by decide)))))) _)) ?_
                  refine gz_aload_n dX12_tells_183 rfl rfl ?_
                  refine mg_41 hS_146 dX12_tells_184 ?_
                  refine gz_iload_n dX12_tells_187 rfl rfl ?_
                  refine m_iald 14 hS_146 rfl (N := 880) rfl ((by exact vin_T (rfl : (x1).toInt = (x1).toInt) (by omega) (by omega))) dX12_tells_188 ?_
                  refine gz_ev (w := .int ((F 14) (Int32.toNatClampNeg x1))) (congrArg Value.int (congrFun ((hx146.2.2.1 14 (by decide)).trans ((hx145.2.2.1 14 (by decide)).trans ((hx144.2.2.1 14 (by decide)).trans ((hx116.2.2.1 14 (by decide)).trans (hx1.2.2.1 14 (by decide)))))) _)) ?_
                  have hxx189 : fx [88, 89] [] [87] [] n z F G n_146 z_146 F_146 G_146 := (fx_tr (fx_tr (fx_tr (fx_tr (fx_tr fx_rf hx1 (by decide)) hx116 (by decide)) hx144 (by decide)) hx145 (by decide)) hx146 (by decide))
                  refine scX12_558 (k_X12_sums (x1 := x1) (x2 := ((F 13) (Int32.toNatClampNeg x1))) (x3 := ((F 14) (Int32.toNatClampNeg x1))) hS_146 (rAll_w (fun k hk => hxx189.2.2.1 k ((by decide : ∀ k : Nat, k ∈ wK → k ∉ ([87] : List Nat)) k hk)) bA) (by omega) (by omega) (by (try rw [(show n_146 88 = (n_146 88) from rfl)]); omega)) hS_146.1 ⟨(Nat.le_of_ble_eq_true rfl), (Nat.le_of_ble_eq_true rfl)⟩ ⟨(Nat.le_of_ble_eq_true rfl), (Nat.le_of_ble_eq_true rfl)⟩ rfl rfl (Nat.le_of_ble_eq_true rfl) dX12_tells_189 ?_
                  rintro f_147 ⟨n_147, z_147, F_147, G_147, hS_147, hx147, h8a_147, h8b_147⟩
                  refine gz_aload_n dX12_tells_192 rfl rfl ?_
                  refine gz_bipush (v := 58) dX12_tells_193 (by decide) ?_
                  refine scX12_547 (k_X12_signs (x1 := 58) hS_147 (by (try rw [(show n_147 88 = (n_147 88) from rfl)]); omega)) hS_147.1 ⟨(Nat.le_of_ble_eq_true rfl), (Nat.le_of_ble_eq_true rfl)⟩ ⟨(Nat.le_of_ble_eq_true rfl), (Nat.le_of_ble_eq_true rfl)⟩ rfl rfl (Nat.le_of_ble_eq_true rfl) dX12_tells_195 ?_
                  rintro f_148 ⟨n_148, z_148, F_148, G_148, hS_148, hx148, h8_148⟩
                  exact gz_vret rfl dX12_tells_198 (Nat.le_of_ble_eq_true rfl) (Nat.le_of_ble_eq_true rfl) (⟨rfl, _, _, _, _, hS_148, (fx_tr (fx_tr (fx_tr (fx_tr (fx_tr (fx_tr (fx_tr fx_rf hx1 (by decide)) hx116 (by decide)) hx144 (by decide)) hx145 (by decide)) hx146 (by decide)) hx147 (by decide)) hx148 (by decide)), (by (try rw [(show n_148 88 = (n_148 88) from rfl)]); omega), (by (try rw [(show n_148 88 = (n_148 88) from rfl)]); omega), (by (try rw [(show n_148 88 = (n_148 88) from rfl)]); omega)⟩)
              ·
                try simp only [mIn_0, lgc_lt, lgc_gt, lgc_le, lgc_ge, lgc_eq] at c_122
                try simp only [fl_lt, fl_le, fl_eq, fL_w, fL_lt, fL_le, tm1, tm10k, tm9, tm99, Int32.reduceToInt, Int64.reduceToInt, Int.not_lt, Int.not_le] at c_122
                refine gz_aload_n dX12_tells_125 rfl rfl ?_
                refine mg_47 hS_144 dX12_tells_126 ?_
                refine gz_iload_n dX12_tells_129 rfl rfl ?_
                refine m_iald 16 hS_144 rfl (N := 880) rfl ((by exact vin_T (rfl : (x1).toInt = (x1).toInt) (by omega) (by omega))) dX12_tells_130 ?_
                refine gz_ev (w := .int ((F 16) (Int32.toNatClampNeg x1))) (congrArg Value.int (congrFun ((hx144.2.2.1 16 (by decide)).trans ((hx116.2.2.1 16 (by decide)).trans (hx1.2.2.1 16 (by decide)))) _)) ?_
                refine gz_iconst (v := 4) dX12_tells_131 (by decide) ?_
                refine gz_icmp_ge (tgt := 141) dX12_tells_132 (by decide) (fun c_132 => ?_) (fun c_132 => ?_)
                ·
                  try simp only [mIn_0, lgc_lt, lgc_gt, lgc_le, lgc_ge, lgc_eq] at c_132
                  try simp only [fl_lt, fl_le, fl_eq, fL_w, fL_lt, fL_le, tm1, tm10k, tm9, tm99, Int32.reduceToInt, Int64.reduceToInt, Int.not_lt, Int.not_le] at c_132
                  refine gz_aload_n dX12_tells_141 rfl rfl ?_
                  refine gz_iload_n dX12_tells_142 rfl rfl ?_
                  refine gz_aload_n dX12_tells_143 rfl rfl ?_
                  refine mg_41 hS_144 dX12_tells_144 ?_
                  refine gz_iload_n dX12_tells_147 rfl rfl ?_
                  refine m_iald 14 hS_144 rfl (N := 880) rfl ((by exact vin_T (rfl : (x1).toInt = (x1).toInt) (by omega) (by omega))) dX12_tells_148 ?_
                  refine gz_ev (w := .int ((F 14) (Int32.toNatClampNeg x1))) (congrArg Value.int (congrFun ((hx144.2.2.1 14 (by decide)).trans ((hx116.2.2.1 14 (by decide)).trans (hx1.2.2.1 14 (by decide)))) _)) ?_
                  refine gz_aload_n dX12_tells_149 rfl rfl ?_
                  refine mg_44 hS_144 dX12_tells_150 ?_
                  refine gz_iload_n dX12_tells_153 rfl rfl ?_
                  refine m_iald 15 hS_144 rfl (N := 880) rfl ((by exact vin_T (rfl : (x1).toInt = (x1).toInt) (by omega) (by omega))) dX12_tells_154 ?_
                  refine gz_ev (w := .int ((F 15) (Int32.toNatClampNeg x1))) (congrArg Value.int (congrFun ((hx144.2.2.1 15 (by decide)).trans ((hx116.2.2.1 15 (by decide)).trans (hx1.2.2.1 15 (by decide)))) _)) ?_
                  have hxx155 : fx [88, 89] [] [87] [] n z F G n_144 z_144 F_144 G_144 := (fx_tr (fx_tr (fx_tr fx_rf hx1 (by decide)) hx116 (by decide)) hx144 (by decide))
                  refine scX12_558 (k_X12_sums (x1 := x1) (x2 := ((F 14) (Int32.toNatClampNeg x1))) (x3 := ((F 15) (Int32.toNatClampNeg x1))) hS_144 (rAll_w (fun k hk => hxx155.2.2.1 k ((by decide : ∀ k : Nat, k ∈ wK → k ∉ ([87] : List Nat)) k hk)) bA) (by omega) (by omega) (by (try rw [(show n_144 88 = (n_144 88) from rfl)]); omega)) hS_144.1 ⟨(Nat.le_of_ble_eq_true rfl), (Nat.le_of_ble_eq_true rfl)⟩ ⟨(Nat.le_of_ble_eq_true rfl), (Nat.le_of_ble_eq_true rfl)⟩ rfl rfl (Nat.le_of_ble_eq_true rfl) dX12_tells_155 ?_
                  rintro f_149 ⟨n_149, z_149, F_149, G_149, hS_149, hx149, h8a_149, h8b_149⟩
                  refine gz_aload_n dX12_tells_158 rfl rfl ?_
                  refine gz_bipush (v := 58) dX12_tells_159 (by decide) ?_
                  refine scX12_547 (k_X12_signs (x1 := 58) hS_149 (by (try rw [(show n_149 88 = (n_149 88) from rfl)]); omega)) hS_149.1 ⟨(Nat.le_of_ble_eq_true rfl), (Nat.le_of_ble_eq_true rfl)⟩ ⟨(Nat.le_of_ble_eq_true rfl), (Nat.le_of_ble_eq_true rfl)⟩ rfl rfl (Nat.le_of_ble_eq_true rfl) dX12_tells_161 ?_
                  rintro f_150 ⟨n_150, z_150, F_150, G_150, hS_150, hx150, h8_150⟩
                  refine gz_aload_n dX12_tells_164 rfl rfl ?_
                  refine mg_20 hS_150 dX12_tells_165 ?_
                  refine gz_iload_n dX12_tells_168 rfl rfl ?_
                  refine m_iald 7 hS_150 rfl (N := 880) rfl ((by exact vin_T (rfl : (x1).toInt = (x1).toInt) (by omega) (by omega))) dX12_tells_169 ?_
                  refine gz_ev (w := .int ((F 7) (Int32.toNatClampNeg x1))) (congrArg Value.int (congrFun ((hx150.2.2.1 7 (by decide)).trans ((hx149.2.2.1 7 (by decide)).trans ((hx144.2.2.1 7 (by decide)).trans ((hx116.2.2.1 7 (by decide)).trans (hx1.2.2.1 7 (by decide)))))) _)) ?_
                  refine gz_bipush (v := 9) dX12_tells_170 (by decide) ?_
                  refine gz_icmp_ne (tgt := 198) dX12_tells_172 (by decide) (fun c_172 => ?_) (fun c_172 => ?_)
                  ·
                    try simp only [mIn_0, lgc_lt, lgc_gt, lgc_le, lgc_ge, lgc_eq] at c_172
                    try simp only [fl_lt, fl_le, fl_eq, fL_w, fL_lt, fL_le, tm1, tm10k, tm9, tm99, Int32.reduceToInt, Int64.reduceToInt, Int.not_lt, Int.not_le] at c_172
                    exact gz_vret rfl dX12_tells_198 (Nat.le_of_ble_eq_true rfl) (Nat.le_of_ble_eq_true rfl) (⟨rfl, _, _, _, _, hS_150, (fx_tr (fx_tr (fx_tr (fx_tr (fx_tr fx_rf hx1 (by decide)) hx116 (by decide)) hx144 (by decide)) hx149 (by decide)) hx150 (by decide)), (by (try rw [(show n_150 88 = (n_150 88) from rfl)]); omega), (by (try rw [(show n_150 88 = (n_150 88) from rfl)]); omega), (by (try rw [(show n_150 88 = (n_150 88) from rfl)]); omega)⟩)
                  ·
                    try simp only [mIn_0, lgc_lt, lgc_gt, lgc_le, lgc_ge, lgc_eq] at c_172
                    try simp only [fl_lt, fl_le, fl_eq, fL_w, fL_lt, fL_le, tm1, tm10k, tm9, tm99, Int32.reduceToInt, Int64.reduceToInt, Int.not_lt, Int.not_le] at c_172
                    refine gz_aload_n dX12_tells_175 rfl rfl ?_
                    refine gz_iload_n dX12_tells_176 rfl rfl ?_
                    refine gz_aload_n dX12_tells_177 rfl rfl ?_
                    refine mg_38 hS_150 dX12_tells_178 ?_
                    refine gz_iload_n dX12_tells_181 rfl rfl ?_
                    refine m_iald 13 hS_150 rfl (N := 880) rfl ((by exact vin_T (rfl : (x1).toInt = (x1).toInt) (by omega) (by omega))) dX12_tells_182 ?_
                    refine gz_ev (w := .int ((F 13) (Int32.toNatClampNeg x1))) (congrArg Value.int (congrFun ((hx150.2.2.1 13 (by decide)).trans ((hx149.2.2.1 13 (by decide)).trans ((hx144.2.2.1 13 (by decide)).trans ((hx116.2.2.1 13 (by decide)).trans (hx1.2.2.1 13 (by decide)))))) _)) ?_
                    refine gz_aload_n dX12_tells_183 rfl rfl ?_
                    refine mg_41 hS_150 dX12_tells_184 ?_
                    refine gz_iload_n dX12_tells_187 rfl rfl ?_
                    refine m_iald 14 hS_150 rfl (N := 880) rfl ((by exact vin_T (rfl : (x1).toInt = (x1).toInt) (by omega) (by omega))) dX12_tells_188 ?_
                    refine gz_ev (w := .int ((F 14) (Int32.toNatClampNeg x1))) (congrArg Value.int (congrFun ((hx150.2.2.1 14 (by decide)).trans ((hx149.2.2.1 14 (by decide)).trans ((hx144.2.2.1 14 (by decide)).trans ((hx116.2.2.1 14 (by decide)).trans (hx1.2.2.1 14 (by decide)))))) _)) ?_
                    have hxx189 : fx [88, 89] [] [87] [] n z F G n_150 z_150 F_150 G_150 := (fx_tr (fx_tr (fx_tr (fx_tr (fx_tr fx_rf hx1 (by decide)) hx116 (by decide)) hx144 (by decide)) hx149 (by decide)) hx150 (by decide))
                    refine scX12_558 (k_X12_sums (x1 := x1) (x2 := ((F 13) (Int32.toNatClampNeg x1))) (x3 := ((F 14) (Int32.toNatClampNeg x1))) hS_150 (rAll_w (fun k hk => hxx189.2.2.1 k ((by decide : ∀ k : Nat, k ∈ wK → k ∉ ([87] : List Nat)) k hk)) bA) (by omega) (by omega) (by (try rw [(show n_150 88 = (n_150 88) from rfl)]); omega)) hS_150.1 ⟨(Nat.le_of_ble_eq_true rfl), (Nat.le_of_ble_eq_true rfl)⟩ ⟨(Nat.le_of_ble_eq_true rfl), (Nat.le_of_ble_eq_true rfl)⟩ rfl rfl (Nat.le_of_ble_eq_true rfl) dX12_tells_189 ?_
                    rintro f_151 ⟨n_151, z_151, F_151, G_151, hS_151, hx151, h8a_151, h8b_151⟩
                    refine gz_aload_n dX12_tells_192 rfl rfl ?_
                    refine gz_bipush (v := 58) dX12_tells_193 (by decide) ?_
                    refine scX12_547 (k_X12_signs (x1 := 58) hS_151 (by (try rw [(show n_151 88 = (n_151 88) from rfl)]); omega)) hS_151.1 ⟨(Nat.le_of_ble_eq_true rfl), (Nat.le_of_ble_eq_true rfl)⟩ ⟨(Nat.le_of_ble_eq_true rfl), (Nat.le_of_ble_eq_true rfl)⟩ rfl rfl (Nat.le_of_ble_eq_true rfl) dX12_tells_195 ?_
                    rintro f_152 ⟨n_152, z_152, F_152, G_152, hS_152, hx152, h8_152⟩
                    exact gz_vret rfl dX12_tells_198 (Nat.le_of_ble_eq_true rfl) (Nat.le_of_ble_eq_true rfl) (⟨rfl, _, _, _, _, hS_152, (fx_tr (fx_tr (fx_tr (fx_tr (fx_tr (fx_tr (fx_tr fx_rf hx1 (by decide)) hx116 (by decide)) hx144 (by decide)) hx149 (by decide)) hx150 (by decide)) hx151 (by decide)) hx152 (by decide)), (by (try rw [(show n_152 88 = (n_152 88) from rfl)]); omega), (by (try rw [(show n_152 88 = (n_152 88) from rfl)]); omega), (by (try rw [(show n_152 88 = (n_152 88) from rfl)]); omega)⟩)
                ·
                  try simp only [mIn_0, lgc_lt, lgc_gt, lgc_le, lgc_ge, lgc_eq] at c_132
                  try simp only [fl_lt, fl_le, fl_eq, fL_w, fL_lt, fL_le, tm1, tm10k, tm9, tm99, Int32.reduceToInt, Int64.reduceToInt, Int.not_lt, Int.not_le] at c_132
                  refine gz_aload_n dX12_tells_135 rfl rfl ?_
                  refine gz_bipush (v := 61) dX12_tells_136 (by decide) ?_
                  refine scX12_547 (k_X12_signs (x1 := 61) hS_144 (by (try rw [(show n_144 88 = (n_144 88) from rfl)]); omega)) hS_144.1 ⟨(Nat.le_of_ble_eq_true rfl), (Nat.le_of_ble_eq_true rfl)⟩ ⟨(Nat.le_of_ble_eq_true rfl), (Nat.le_of_ble_eq_true rfl)⟩ rfl rfl (Nat.le_of_ble_eq_true rfl) dX12_tells_138 ?_
                  rintro f_153 ⟨n_153, z_153, F_153, G_153, hS_153, hx153, h8_153⟩
                  refine gz_aload_n dX12_tells_141 rfl rfl ?_
                  refine gz_iload_n dX12_tells_142 rfl rfl ?_
                  refine gz_aload_n dX12_tells_143 rfl rfl ?_
                  refine mg_41 hS_153 dX12_tells_144 ?_
                  refine gz_iload_n dX12_tells_147 rfl rfl ?_
                  refine m_iald 14 hS_153 rfl (N := 880) rfl ((by exact vin_T (rfl : (x1).toInt = (x1).toInt) (by omega) (by omega))) dX12_tells_148 ?_
                  refine gz_ev (w := .int ((F 14) (Int32.toNatClampNeg x1))) (congrArg Value.int (congrFun ((hx153.2.2.1 14 (by decide)).trans ((hx144.2.2.1 14 (by decide)).trans ((hx116.2.2.1 14 (by decide)).trans (hx1.2.2.1 14 (by decide))))) _)) ?_
                  refine gz_aload_n dX12_tells_149 rfl rfl ?_
                  refine mg_44 hS_153 dX12_tells_150 ?_
                  refine gz_iload_n dX12_tells_153 rfl rfl ?_
                  refine m_iald 15 hS_153 rfl (N := 880) rfl ((by exact vin_T (rfl : (x1).toInt = (x1).toInt) (by omega) (by omega))) dX12_tells_154 ?_
                  refine gz_ev (w := .int ((F 15) (Int32.toNatClampNeg x1))) (congrArg Value.int (congrFun ((hx153.2.2.1 15 (by decide)).trans ((hx144.2.2.1 15 (by decide)).trans ((hx116.2.2.1 15 (by decide)).trans (hx1.2.2.1 15 (by decide))))) _)) ?_
                  have hxx155 : fx [88, 89] [] [87] [] n z F G n_153 z_153 F_153 G_153 := (fx_tr (fx_tr (fx_tr (fx_tr fx_rf hx1 (by decide)) hx116 (by decide)) hx144 (by decide)) hx153 (by decide))
                  refine scX12_558 (k_X12_sums (x1 := x1) (x2 := ((F 14) (Int32.toNatClampNeg x1))) (x3 := ((F 15) (Int32.toNatClampNeg x1))) hS_153 (rAll_w (fun k hk => hxx155.2.2.1 k ((by decide : ∀ k : Nat, k ∈ wK → k ∉ ([87] : List Nat)) k hk)) bA) (by omega) (by omega) (by (try rw [(show n_153 88 = (n_153 88) from rfl)]); omega)) hS_153.1 ⟨(Nat.le_of_ble_eq_true rfl), (Nat.le_of_ble_eq_true rfl)⟩ ⟨(Nat.le_of_ble_eq_true rfl), (Nat.le_of_ble_eq_true rfl)⟩ rfl rfl (Nat.le_of_ble_eq_true rfl) dX12_tells_155 ?_
                  rintro f_154 ⟨n_154, z_154, F_154, G_154, hS_154, hx154, h8a_154, h8b_154⟩
                  refine gz_aload_n dX12_tells_158 rfl rfl ?_
                  refine gz_bipush (v := 58) dX12_tells_159 (by decide) ?_
                  refine scX12_547 (k_X12_signs (x1 := 58) hS_154 (by (try rw [(show n_154 88 = (n_154 88) from rfl)]); omega)) hS_154.1 ⟨(Nat.le_of_ble_eq_true rfl), (Nat.le_of_ble_eq_true rfl)⟩ ⟨(Nat.le_of_ble_eq_true rfl), (Nat.le_of_ble_eq_true rfl)⟩ rfl rfl (Nat.le_of_ble_eq_true rfl) dX12_tells_161 ?_
                  rintro f_155 ⟨n_155, z_155, F_155, G_155, hS_155, hx155, h8_155⟩
                  refine gz_aload_n dX12_tells_164 rfl rfl ?_
                  refine mg_20 hS_155 dX12_tells_165 ?_
                  refine gz_iload_n dX12_tells_168 rfl rfl ?_
                  refine m_iald 7 hS_155 rfl (N := 880) rfl ((by exact vin_T (rfl : (x1).toInt = (x1).toInt) (by omega) (by omega))) dX12_tells_169 ?_
                  refine gz_ev (w := .int ((F 7) (Int32.toNatClampNeg x1))) (congrArg Value.int (congrFun ((hx155.2.2.1 7 (by decide)).trans ((hx154.2.2.1 7 (by decide)).trans ((hx153.2.2.1 7 (by decide)).trans ((hx144.2.2.1 7 (by decide)).trans ((hx116.2.2.1 7 (by decide)).trans (hx1.2.2.1 7 (by decide))))))) _)) ?_
                  refine gz_bipush (v := 9) dX12_tells_170 (by decide) ?_
                  refine gz_icmp_ne (tgt := 198) dX12_tells_172 (by decide) (fun c_172 => ?_) (fun c_172 => ?_)
                  ·
                    try simp only [mIn_0, lgc_lt, lgc_gt, lgc_le, lgc_ge, lgc_eq] at c_172
                    try simp only [fl_lt, fl_le, fl_eq, fL_w, fL_lt, fL_le, tm1, tm10k, tm9, tm99, Int32.reduceToInt, Int64.reduceToInt, Int.not_lt, Int.not_le] at c_172
                    exact gz_vret rfl dX12_tells_198 (Nat.le_of_ble_eq_true rfl) (Nat.le_of_ble_eq_true rfl) (⟨rfl, _, _, _, _, hS_155, (fx_tr (fx_tr (fx_tr (fx_tr (fx_tr (fx_tr fx_rf hx1 (by decide)) hx116 (by decide)) hx144 (by decide)) hx153 (by decide)) hx154 (by decide)) hx155 (by decide)), (by (try rw [(show n_155 88 = (n_155 88) from rfl)]); omega), (by (try rw [(show n_155 88 = (n_155 88) from rfl)]); omega), (by (try rw [(show n_155 88 = (n_155 88) from rfl)]); omega)⟩)
                  ·
                    try simp only [mIn_0, lgc_lt, lgc_gt, lgc_le, lgc_ge, lgc_eq] at c_172
                    try simp only [fl_lt, fl_le, fl_eq, fL_w, fL_lt, fL_le, tm1, tm10k, tm9, tm99, Int32.reduceToInt, Int64.reduceToInt, Int.not_lt, Int.not_le] at c_172
                    refine gz_aload_n dX12_tells_175 rfl rfl ?_
                    refine gz_iload_n dX12_tells_176 rfl rfl ?_
                    refine gz_aload_n dX12_tells_177 rfl rfl ?_
                    refine mg_38 hS_155 dX12_tells_178 ?_
                    refine gz_iload_n dX12_tells_181 rfl rfl ?_
                    refine m_iald 13 hS_155 rfl (N := 880) rfl ((by exact vin_T (rfl : (x1).toInt = (x1).toInt) (by omega) (by omega))) dX12_tells_182 ?_
                    refine gz_ev (w := .int ((F 13) (Int32.toNatClampNeg x1))) (congrArg Value.int (congrFun ((hx155.2.2.1 13 (by decide)).trans ((hx154.2.2.1 13 (by decide)).trans ((hx153.2.2.1 13 (by decide)).trans ((hx144.2.2.1 13 (by decide)).trans ((hx116.2.2.1 13 (by decide)).trans (hx1.2.2.1 13 (by decide))))))) _)) ?_
                    refine gz_aload_n dX12_tells_183 rfl rfl ?_
                    refine mg_41 hS_155 dX12_tells_184 ?_
                    refine gz_iload_n dX12_tells_187 rfl rfl ?_
                    refine m_iald 14 hS_155 rfl (N := 880) rfl ((by exact vin_T (rfl : (x1).toInt = (x1).toInt) (by omega) (by omega))) dX12_tells_188 ?_
                    refine gz_ev (w := .int ((F 14) (Int32.toNatClampNeg x1))) (congrArg Value.int (congrFun ((hx155.2.2.1 14 (by decide)).trans ((hx154.2.2.1 14 (by decide)).trans ((hx153.2.2.1 14 (by decide)).trans ((hx144.2.2.1 14 (by decide)).trans ((hx116.2.2.1 14 (by decide)).trans (hx1.2.2.1 14 (by decide))))))) _)) ?_
                    have hxx189 : fx [88, 89] [] [87] [] n z F G n_155 z_155 F_155 G_155 := (fx_tr (fx_tr (fx_tr (fx_tr (fx_tr (fx_tr fx_rf hx1 (by decide)) hx116 (by decide)) hx144 (by decide)) hx153 (by decide)) hx154 (by decide)) hx155 (by decide))
                    refine scX12_558 (k_X12_sums (x1 := x1) (x2 := ((F 13) (Int32.toNatClampNeg x1))) (x3 := ((F 14) (Int32.toNatClampNeg x1))) hS_155 (rAll_w (fun k hk => hxx189.2.2.1 k ((by decide : ∀ k : Nat, k ∈ wK → k ∉ ([87] : List Nat)) k hk)) bA) (by omega) (by omega) (by (try rw [(show n_155 88 = (n_155 88) from rfl)]); omega)) hS_155.1 ⟨(Nat.le_of_ble_eq_true rfl), (Nat.le_of_ble_eq_true rfl)⟩ ⟨(Nat.le_of_ble_eq_true rfl), (Nat.le_of_ble_eq_true rfl)⟩ rfl rfl (Nat.le_of_ble_eq_true rfl) dX12_tells_189 ?_
                    rintro f_156 ⟨n_156, z_156, F_156, G_156, hS_156, hx156, h8a_156, h8b_156⟩
                    refine gz_aload_n dX12_tells_192 rfl rfl ?_
                    refine gz_bipush (v := 58) dX12_tells_193 (by decide) ?_
                    refine scX12_547 (k_X12_signs (x1 := 58) hS_156 (by (try rw [(show n_156 88 = (n_156 88) from rfl)]); omega)) hS_156.1 ⟨(Nat.le_of_ble_eq_true rfl), (Nat.le_of_ble_eq_true rfl)⟩ ⟨(Nat.le_of_ble_eq_true rfl), (Nat.le_of_ble_eq_true rfl)⟩ rfl rfl (Nat.le_of_ble_eq_true rfl) dX12_tells_195 ?_
                    rintro f_157 ⟨n_157, z_157, F_157, G_157, hS_157, hx157, h8_157⟩
                    exact gz_vret rfl dX12_tells_198 (Nat.le_of_ble_eq_true rfl) (Nat.le_of_ble_eq_true rfl) (⟨rfl, _, _, _, _, hS_157, (fx_tr (fx_tr (fx_tr (fx_tr (fx_tr (fx_tr (fx_tr (fx_tr fx_rf hx1 (by decide)) hx116 (by decide)) hx144 (by decide)) hx153 (by decide)) hx154 (by decide)) hx155 (by decide)) hx156 (by decide)) hx157 (by decide)), (by (try rw [(show n_157 88 = (n_157 88) from rfl)]); omega), (by (try rw [(show n_157 88 = (n_157 88) from rfl)]); omega), (by (try rw [(show n_157 88 = (n_157 88) from rfl)]); omega)⟩)
            ·
              try simp only [mIn_0, lgc_lt, lgc_gt, lgc_le, lgc_ge, lgc_eq] at c_107
              try simp only [fl_lt, fl_le, fl_eq, fL_w, fL_lt, fL_le, tm1, tm10k, tm9, tm99, Int32.reduceToInt, Int64.reduceToInt, Int.not_lt, Int.not_le] at c_107
              refine gz_aload_n dX12_tells_110 rfl rfl ?_
              refine gz_bipush (v := 62) dX12_tells_111 (by decide) ?_
              refine scX12_547 (k_X12_signs (x1 := 62) hS_144 (by (try rw [(show n_144 88 = (n_144 88) from rfl)]); omega)) hS_144.1 ⟨(Nat.le_of_ble_eq_true rfl), (Nat.le_of_ble_eq_true rfl)⟩ ⟨(Nat.le_of_ble_eq_true rfl), (Nat.le_of_ble_eq_true rfl)⟩ rfl rfl (Nat.le_of_ble_eq_true rfl) dX12_tells_113 ?_
              rintro f_158 ⟨n_158, z_158, F_158, G_158, hS_158, hx158, h8_158⟩
              refine gz_aload_n dX12_tells_116 rfl rfl ?_
              refine mg_47 hS_158 dX12_tells_117 ?_
              refine gz_iload_n dX12_tells_120 rfl rfl ?_
              refine m_iald 16 hS_158 rfl (N := 880) rfl ((by exact vin_T (rfl : (x1).toInt = (x1).toInt) (by omega) (by omega))) dX12_tells_121 ?_
              refine gz_ev (w := .int ((F 16) (Int32.toNatClampNeg x1))) (congrArg Value.int (congrFun ((hx158.2.2.1 16 (by decide)).trans ((hx144.2.2.1 16 (by decide)).trans ((hx116.2.2.1 16 (by decide)).trans (hx1.2.2.1 16 (by decide))))) _)) ?_
              refine gz_if_le (tgt := 141) dX12_tells_122 (by decide) (fun c_122 => ?_) (fun c_122 => ?_)
              ·
                try simp only [mIn_0, lgc_lt, lgc_gt, lgc_le, lgc_ge, lgc_eq] at c_122
                try simp only [fl_lt, fl_le, fl_eq, fL_w, fL_lt, fL_le, tm1, tm10k, tm9, tm99, Int32.reduceToInt, Int64.reduceToInt, Int.not_lt, Int.not_le] at c_122
                refine gz_aload_n dX12_tells_141 rfl rfl ?_
                refine gz_iload_n dX12_tells_142 rfl rfl ?_
                refine gz_aload_n dX12_tells_143 rfl rfl ?_
                refine mg_41 hS_158 dX12_tells_144 ?_
                refine gz_iload_n dX12_tells_147 rfl rfl ?_
                refine m_iald 14 hS_158 rfl (N := 880) rfl ((by exact vin_T (rfl : (x1).toInt = (x1).toInt) (by omega) (by omega))) dX12_tells_148 ?_
                refine gz_ev (w := .int ((F 14) (Int32.toNatClampNeg x1))) (congrArg Value.int (congrFun ((hx158.2.2.1 14 (by decide)).trans ((hx144.2.2.1 14 (by decide)).trans ((hx116.2.2.1 14 (by decide)).trans (hx1.2.2.1 14 (by decide))))) _)) ?_
                refine gz_aload_n dX12_tells_149 rfl rfl ?_
                refine mg_44 hS_158 dX12_tells_150 ?_
                refine gz_iload_n dX12_tells_153 rfl rfl ?_
                refine m_iald 15 hS_158 rfl (N := 880) rfl ((by exact vin_T (rfl : (x1).toInt = (x1).toInt) (by omega) (by omega))) dX12_tells_154 ?_
                refine gz_ev (w := .int ((F 15) (Int32.toNatClampNeg x1))) (congrArg Value.int (congrFun ((hx158.2.2.1 15 (by decide)).trans ((hx144.2.2.1 15 (by decide)).trans ((hx116.2.2.1 15 (by decide)).trans (hx1.2.2.1 15 (by decide))))) _)) ?_
                have hxx155 : fx [88, 89] [] [87] [] n z F G n_158 z_158 F_158 G_158 := (fx_tr (fx_tr (fx_tr (fx_tr fx_rf hx1 (by decide)) hx116 (by decide)) hx144 (by decide)) hx158 (by decide))
                refine scX12_558 (k_X12_sums (x1 := x1) (x2 := ((F 14) (Int32.toNatClampNeg x1))) (x3 := ((F 15) (Int32.toNatClampNeg x1))) hS_158 (rAll_w (fun k hk => hxx155.2.2.1 k ((by decide : ∀ k : Nat, k ∈ wK → k ∉ ([87] : List Nat)) k hk)) bA) (by omega) (by omega) (by (try rw [(show n_158 88 = (n_158 88) from rfl)]); omega)) hS_158.1 ⟨(Nat.le_of_ble_eq_true rfl), (Nat.le_of_ble_eq_true rfl)⟩ ⟨(Nat.le_of_ble_eq_true rfl), (Nat.le_of_ble_eq_true rfl)⟩ rfl rfl (Nat.le_of_ble_eq_true rfl) dX12_tells_155 ?_
                rintro f_159 ⟨n_159, z_159, F_159, G_159, hS_159, hx159, h8a_159, h8b_159⟩
                refine gz_aload_n dX12_tells_158 rfl rfl ?_
                refine gz_bipush (v := 58) dX12_tells_159 (by decide) ?_
                refine scX12_547 (k_X12_signs (x1 := 58) hS_159 (by (try rw [(show n_159 88 = (n_159 88) from rfl)]); omega)) hS_159.1 ⟨(Nat.le_of_ble_eq_true rfl), (Nat.le_of_ble_eq_true rfl)⟩ ⟨(Nat.le_of_ble_eq_true rfl), (Nat.le_of_ble_eq_true rfl)⟩ rfl rfl (Nat.le_of_ble_eq_true rfl) dX12_tells_161 ?_
                rintro f_160 ⟨n_160, z_160, F_160, G_160, hS_160, hx160, h8_160⟩
                refine gz_aload_n dX12_tells_164 rfl rfl ?_
                refine mg_20 hS_160 dX12_tells_165 ?_
                refine gz_iload_n dX12_tells_168 rfl rfl ?_
                refine m_iald 7 hS_160 rfl (N := 880) rfl ((by exact vin_T (rfl : (x1).toInt = (x1).toInt) (by omega) (by omega))) dX12_tells_169 ?_
                refine gz_ev (w := .int ((F 7) (Int32.toNatClampNeg x1))) (congrArg Value.int (congrFun ((hx160.2.2.1 7 (by decide)).trans ((hx159.2.2.1 7 (by decide)).trans ((hx158.2.2.1 7 (by decide)).trans ((hx144.2.2.1 7 (by decide)).trans ((hx116.2.2.1 7 (by decide)).trans (hx1.2.2.1 7 (by decide))))))) _)) ?_
                refine gz_bipush (v := 9) dX12_tells_170 (by decide) ?_
                refine gz_icmp_ne (tgt := 198) dX12_tells_172 (by decide) (fun c_172 => ?_) (fun c_172 => ?_)
                ·
                  try simp only [mIn_0, lgc_lt, lgc_gt, lgc_le, lgc_ge, lgc_eq] at c_172
                  try simp only [fl_lt, fl_le, fl_eq, fL_w, fL_lt, fL_le, tm1, tm10k, tm9, tm99, Int32.reduceToInt, Int64.reduceToInt, Int.not_lt, Int.not_le] at c_172
                  exact gz_vret rfl dX12_tells_198 (Nat.le_of_ble_eq_true rfl) (Nat.le_of_ble_eq_true rfl) (⟨rfl, _, _, _, _, hS_160, (fx_tr (fx_tr (fx_tr (fx_tr (fx_tr (fx_tr fx_rf hx1 (by decide)) hx116 (by decide)) hx144 (by decide)) hx158 (by decide)) hx159 (by decide)) hx160 (by decide)), (by (try rw [(show n_160 88 = (n_160 88) from rfl)]); omega), (by (try rw [(show n_160 88 = (n_160 88) from rfl)]); omega), (by (try rw [(show n_160 88 = (n_160 88) from rfl)]); omega)⟩)
                ·
                  try simp only [mIn_0, lgc_lt, lgc_gt, lgc_le, lgc_ge, lgc_eq] at c_172
                  try simp only [fl_lt, fl_le, fl_eq, fL_w, fL_lt, fL_le, tm1, tm10k, tm9, tm99, Int32.reduceToInt, Int64.reduceToInt, Int.not_lt, Int.not_le] at c_172
                  refine gz_aload_n dX12_tells_175 rfl rfl ?_
                  refine gz_iload_n dX12_tells_176 rfl rfl ?_
                  refine gz_aload_n dX12_tells_177 rfl rfl ?_
                  refine mg_38 hS_160 dX12_tells_178 ?_
                  refine gz_iload_n dX12_tells_181 rfl rfl ?_
                  refine m_iald 13 hS_160 rfl (N := 880) rfl ((by exact vin_T (rfl : (x1).toInt = (x1).toInt) (by omega) (by omega))) dX12_tells_182 ?_
                  refine gz_ev (w := .int ((F 13) (Int32.toNatClampNeg x1))) (congrArg Value.int (congrFun ((hx160.2.2.1 13 (by decide)).trans ((hx159.2.2.1 13 (by decide)).trans ((hx158.2.2.1 13 (by decide)).trans ((hx144.2.2.1 13 (by decide)).trans ((hx116.2.2.1 13 (by decide)).trans (hx1.2.2.1 13 (by decide))))))) _)) ?_
                  refine gz_aload_n dX12_tells_183 rfl rfl ?_
                  refine mg_41 hS_160 dX12_tells_184 ?_
                  refine gz_iload_n dX12_tells_187 rfl rfl ?_
                  refine m_iald 14 hS_160 rfl (N := 880) rfl ((by exact vin_T (rfl : (x1).toInt = (x1).toInt) (by omega) (by omega))) dX12_tells_188 ?_
                  refine gz_ev (w := .int ((F 14) (Int32.toNatClampNeg x1))) (congrArg Value.int (congrFun ((hx160.2.2.1 14 (by decide)).trans ((hx159.2.2.1 14 (by decide)).trans ((hx158.2.2.1 14 (by decide)).trans ((hx144.2.2.1 14 (by decide)).trans ((hx116.2.2.1 14 (by decide)).trans (hx1.2.2.1 14 (by decide))))))) _)) ?_
                  have hxx189 : fx [88, 89] [] [87] [] n z F G n_160 z_160 F_160 G_160 := (fx_tr (fx_tr (fx_tr (fx_tr (fx_tr (fx_tr fx_rf hx1 (by decide)) hx116 (by decide)) hx144 (by decide)) hx158 (by decide)) hx159 (by decide)) hx160 (by decide))
                  refine scX12_558 (k_X12_sums (x1 := x1) (x2 := ((F 13) (Int32.toNatClampNeg x1))) (x3 := ((F 14) (Int32.toNatClampNeg x1))) hS_160 (rAll_w (fun k hk => hxx189.2.2.1 k ((by decide : ∀ k : Nat, k ∈ wK → k ∉ ([87] : List Nat)) k hk)) bA) (by omega) (by omega) (by (try rw [(show n_160 88 = (n_160 88) from rfl)]); omega)) hS_160.1 ⟨(Nat.le_of_ble_eq_true rfl), (Nat.le_of_ble_eq_true rfl)⟩ ⟨(Nat.le_of_ble_eq_true rfl), (Nat.le_of_ble_eq_true rfl)⟩ rfl rfl (Nat.le_of_ble_eq_true rfl) dX12_tells_189 ?_
                  rintro f_161 ⟨n_161, z_161, F_161, G_161, hS_161, hx161, h8a_161, h8b_161⟩
                  refine gz_aload_n dX12_tells_192 rfl rfl ?_
                  refine gz_bipush (v := 58) dX12_tells_193 (by decide) ?_
                  refine scX12_547 (k_X12_signs (x1 := 58) hS_161 (by (try rw [(show n_161 88 = (n_161 88) from rfl)]); omega)) hS_161.1 ⟨(Nat.le_of_ble_eq_true rfl), (Nat.le_of_ble_eq_true rfl)⟩ ⟨(Nat.le_of_ble_eq_true rfl), (Nat.le_of_ble_eq_true rfl)⟩ rfl rfl (Nat.le_of_ble_eq_true rfl) dX12_tells_195 ?_
                  rintro f_162 ⟨n_162, z_162, F_162, G_162, hS_162, hx162, h8_162⟩
                  exact gz_vret rfl dX12_tells_198 (Nat.le_of_ble_eq_true rfl) (Nat.le_of_ble_eq_true rfl) (⟨rfl, _, _, _, _, hS_162, (fx_tr (fx_tr (fx_tr (fx_tr (fx_tr (fx_tr (fx_tr (fx_tr fx_rf hx1 (by decide)) hx116 (by decide)) hx144 (by decide)) hx158 (by decide)) hx159 (by decide)) hx160 (by decide)) hx161 (by decide)) hx162 (by decide)), (by (try rw [(show n_162 88 = (n_162 88) from rfl)]); omega), (by (try rw [(show n_162 88 = (n_162 88) from rfl)]); omega), (by (try rw [(show n_162 88 = (n_162 88) from rfl)]); omega)⟩)
              ·
                try simp only [mIn_0, lgc_lt, lgc_gt, lgc_le, lgc_ge, lgc_eq] at c_122
                try simp only [fl_lt, fl_le, fl_eq, fL_w, fL_lt, fL_le, tm1, tm10k, tm9, tm99, Int32.reduceToInt, Int64.reduceToInt, Int.not_lt, Int.not_le] at c_122
                refine gz_aload_n dX12_tells_125 rfl rfl ?_
                refine mg_47 hS_158 dX12_tells_126 ?_
                refine gz_iload_n dX12_tells_129 rfl rfl ?_
                refine m_iald 16 hS_158 rfl (N := 880) rfl ((by exact vin_T (rfl : (x1).toInt = (x1).toInt) (by omega) (by omega))) dX12_tells_130 ?_
                refine gz_ev (w := .int ((F 16) (Int32.toNatClampNeg x1))) (congrArg Value.int (congrFun ((hx158.2.2.1 16 (by decide)).trans ((hx144.2.2.1 16 (by decide)).trans ((hx116.2.2.1 16 (by decide)).trans (hx1.2.2.1 16 (by decide))))) _)) ?_
                refine gz_iconst (v := 4) dX12_tells_131 (by decide) ?_
                refine gz_icmp_ge (tgt := 141) dX12_tells_132 (by decide) (fun c_132 => ?_) (fun c_132 => ?_)
                ·
                  try simp only [mIn_0, lgc_lt, lgc_gt, lgc_le, lgc_ge, lgc_eq] at c_132
                  try simp only [fl_lt, fl_le, fl_eq, fL_w, fL_lt, fL_le, tm1, tm10k, tm9, tm99, Int32.reduceToInt, Int64.reduceToInt, Int.not_lt, Int.not_le] at c_132
                  refine gz_aload_n dX12_tells_141 rfl rfl ?_
                  refine gz_iload_n dX12_tells_142 rfl rfl ?_
                  refine gz_aload_n dX12_tells_143 rfl rfl ?_
                  refine mg_41 hS_158 dX12_tells_144 ?_
                  refine gz_iload_n dX12_tells_147 rfl rfl ?_
                  refine m_iald 14 hS_158 rfl (N := 880) rfl ((by exact vin_T (rfl : (x1).toInt = (x1).toInt) (by omega) (by omega))) dX12_tells_148 ?_
                  refine gz_ev (w := .int ((F 14) (Int32.toNatClampNeg x1))) (congrArg Value.int (congrFun ((hx158.2.2.1 14 (by decide)).trans ((hx144.2.2.1 14 (by decide)).trans ((hx116.2.2.1 14 (by decide)).trans (hx1.2.2.1 14 (by decide))))) _)) ?_
                  refine gz_aload_n dX12_tells_149 rfl rfl ?_
                  refine mg_44 hS_158 dX12_tells_150 ?_
                  refine gz_iload_n dX12_tells_153 rfl rfl ?_
                  refine m_iald 15 hS_158 rfl (N := 880) rfl ((by exact vin_T (rfl : (x1).toInt = (x1).toInt) (by omega) (by omega))) dX12_tells_154 ?_
                  refine gz_ev (w := .int ((F 15) (Int32.toNatClampNeg x1))) (congrArg Value.int (congrFun ((hx158.2.2.1 15 (by decide)).trans ((hx144.2.2.1 15 (by decide)).trans ((hx116.2.2.1 15 (by decide)).trans (hx1.2.2.1 15 (by decide))))) _)) ?_
                  have hxx155 : fx [88, 89] [] [87] [] n z F G n_158 z_158 F_158 G_158 := (fx_tr (fx_tr (fx_tr (fx_tr fx_rf hx1 (by decide)) hx116 (by decide)) hx144 (by decide)) hx158 (by decide))
                  refine scX12_558 (k_X12_sums (x1 := x1) (x2 := ((F 14) (Int32.toNatClampNeg x1))) (x3 := ((F 15) (Int32.toNatClampNeg x1))) hS_158 (rAll_w (fun k hk => hxx155.2.2.1 k ((by decide : ∀ k : Nat, k ∈ wK → k ∉ ([87] : List Nat)) k hk)) bA) (by omega) (by omega) (by (try rw [(show n_158 88 = (n_158 88) from rfl)]); omega)) hS_158.1 ⟨(Nat.le_of_ble_eq_true rfl), (Nat.le_of_ble_eq_true rfl)⟩ ⟨(Nat.le_of_ble_eq_true rfl), (Nat.le_of_ble_eq_true rfl)⟩ rfl rfl (Nat.le_of_ble_eq_true rfl) dX12_tells_155 ?_
                  rintro f_163 ⟨n_163, z_163, F_163, G_163, hS_163, hx163, h8a_163, h8b_163⟩
                  refine gz_aload_n dX12_tells_158 rfl rfl ?_
                  refine gz_bipush (v := 58) dX12_tells_159 (by decide) ?_
                  refine scX12_547 (k_X12_signs (x1 := 58) hS_163 (by (try rw [(show n_163 88 = (n_163 88) from rfl)]); omega)) hS_163.1 ⟨(Nat.le_of_ble_eq_true rfl), (Nat.le_of_ble_eq_true rfl)⟩ ⟨(Nat.le_of_ble_eq_true rfl), (Nat.le_of_ble_eq_true rfl)⟩ rfl rfl (Nat.le_of_ble_eq_true rfl) dX12_tells_161 ?_
                  rintro f_164 ⟨n_164, z_164, F_164, G_164, hS_164, hx164, h8_164⟩
                  refine gz_aload_n dX12_tells_164 rfl rfl ?_
                  refine mg_20 hS_164 dX12_tells_165 ?_
                  refine gz_iload_n dX12_tells_168 rfl rfl ?_
                  refine m_iald 7 hS_164 rfl (N := 880) rfl ((by exact vin_T (rfl : (x1).toInt = (x1).toInt) (by omega) (by omega))) dX12_tells_169 ?_
                  refine gz_ev (w := .int ((F 7) (Int32.toNatClampNeg x1))) (congrArg Value.int (congrFun ((hx164.2.2.1 7 (by decide)).trans ((hx163.2.2.1 7 (by decide)).trans ((hx158.2.2.1 7 (by decide)).trans ((hx144.2.2.1 7 (by decide)).trans ((hx116.2.2.1 7 (by decide)).trans (hx1.2.2.1 7 (by decide))))))) _)) ?_
                  refine gz_bipush (v := 9) dX12_tells_170 (by decide) ?_
                  refine gz_icmp_ne (tgt := 198) dX12_tells_172 (by decide) (fun c_172 => ?_) (fun c_172 => ?_)
                  ·
                    try simp only [mIn_0, lgc_lt, lgc_gt, lgc_le, lgc_ge, lgc_eq] at c_172
                    try simp only [fl_lt, fl_le, fl_eq, fL_w, fL_lt, fL_le, tm1, tm10k, tm9, tm99, Int32.reduceToInt, Int64.reduceToInt, Int.not_lt, Int.not_le] at c_172
                    exact gz_vret rfl dX12_tells_198 (Nat.le_of_ble_eq_true rfl) (Nat.le_of_ble_eq_true rfl) (⟨rfl, _, _, _, _, hS_164, (fx_tr (fx_tr (fx_tr (fx_tr (fx_tr (fx_tr fx_rf hx1 (by decide)) hx116 (by decide)) hx144 (by decide)) hx158 (by decide)) hx163 (by decide)) hx164 (by decide)), (by (try rw [(show n_164 88 = (n_164 88) from rfl)]); omega), (by (try rw [(show n_164 88 = (n_164 88) from rfl)]); omega), (by (try rw [(show n_164 88 = (n_164 88) from rfl)]); omega)⟩)
                  ·
                    try simp only [mIn_0, lgc_lt, lgc_gt, lgc_le, lgc_ge, lgc_eq] at c_172
                    try simp only [fl_lt, fl_le, fl_eq, fL_w, fL_lt, fL_le, tm1, tm10k, tm9, tm99, Int32.reduceToInt, Int64.reduceToInt, Int.not_lt, Int.not_le] at c_172
                    refine gz_aload_n dX12_tells_175 rfl rfl ?_
                    refine gz_iload_n dX12_tells_176 rfl rfl ?_
                    refine gz_aload_n dX12_tells_177 rfl rfl ?_
                    refine mg_38 hS_164 dX12_tells_178 ?_
                    refine gz_iload_n dX12_tells_181 rfl rfl ?_
                    refine m_iald 13 hS_164 rfl (N := 880) rfl ((by exact vin_T (rfl : (x1).toInt = (x1).toInt) (by omega) (by omega))) dX12_tells_182 ?_
                    refine gz_ev (w := .int ((F 13) (Int32.toNatClampNeg x1))) (congrArg Value.int (congrFun ((hx164.2.2.1 13 (by decide)).trans ((hx163.2.2.1 13 (by decide)).trans ((hx158.2.2.1 13 (by decide)).trans ((hx144.2.2.1 13 (by decide)).trans ((hx116.2.2.1 13 (by decide)).trans (hx1.2.2.1 13 (by decide))))))) _)) ?_
                    refine gz_aload_n dX12_tells_183 rfl rfl ?_
                    refine mg_41 hS_164 dX12_tells_184 ?_
                    refine gz_iload_n dX12_tells_187 rfl rfl ?_
                    refine m_iald 14 hS_164 rfl (N := 880) rfl ((by exact vin_T (rfl : (x1).toInt = (x1).toInt) (by omega) (by omega))) dX12_tells_188 ?_
                    refine gz_ev (w := .int ((F 14) (Int32.toNatClampNeg x1))) (congrArg Value.int (congrFun ((hx164.2.2.1 14 (by decide)).trans ((hx163.2.2.1 14 (by decide)).trans ((hx158.2.2.1 14 (by decide)).trans ((hx144.2.2.1 14 (by decide)).trans ((hx116.2.2.1 14 (by decide)).trans (hx1.2.2.1 14 (by decide))))))) _)) ?_
                    have hxx189 : fx [88, 89] [] [87] [] n z F G n_164 z_164 F_164 G_164 := (fx_tr (fx_tr (fx_tr (fx_tr (fx_tr (fx_tr fx_rf hx1 (by decide)) hx116 (by decide)) hx144 (by decide)) hx158 (by decide)) hx163 (by decide)) hx164 (by decide))
                    refine scX12_558 (k_X12_sums (x1 := x1) (x2 := ((F 13) (Int32.toNatClampNeg x1))) (x3 := ((F 14) (Int32.toNatClampNeg x1))) hS_164 (rAll_w (fun k hk => hxx189.2.2.1 k ((by decide : ∀ k : Nat, k ∈ wK → k ∉ ([87] : List Nat)) k hk)) bA) (by omega) (by omega) (by (try rw [(show n_164 88 = (n_164 88) from rfl)]); omega)) hS_164.1 ⟨(Nat.le_of_ble_eq_true rfl), (Nat.le_of_ble_eq_true rfl)⟩ ⟨(Nat.le_of_ble_eq_true rfl), (Nat.le_of_ble_eq_true rfl)⟩ rfl rfl (Nat.le_of_ble_eq_true rfl) dX12_tells_189 ?_
                    rintro f_165 ⟨n_165, z_165, F_165, G_165, hS_165, hx165, h8a_165, h8b_165⟩
                    refine gz_aload_n dX12_tells_192 rfl rfl ?_
                    refine gz_bipush (v := 58) dX12_tells_193 (by decide) ?_
                    refine scX12_547 (k_X12_signs (x1 := 58) hS_165 (by (try rw [(show n_165 88 = (n_165 88) from rfl)]); omega)) hS_165.1 ⟨(Nat.le_of_ble_eq_true rfl), (Nat.le_of_ble_eq_true rfl)⟩ ⟨(Nat.le_of_ble_eq_true rfl), (Nat.le_of_ble_eq_true rfl)⟩ rfl rfl (Nat.le_of_ble_eq_true rfl) dX12_tells_195 ?_
                    rintro f_166 ⟨n_166, z_166, F_166, G_166, hS_166, hx166, h8_166⟩
                    exact gz_vret rfl dX12_tells_198 (Nat.le_of_ble_eq_true rfl) (Nat.le_of_ble_eq_true rfl) (⟨rfl, _, _, _, _, hS_166, (fx_tr (fx_tr (fx_tr (fx_tr (fx_tr (fx_tr (fx_tr (fx_tr fx_rf hx1 (by decide)) hx116 (by decide)) hx144 (by decide)) hx158 (by decide)) hx163 (by decide)) hx164 (by decide)) hx165 (by decide)) hx166 (by decide)), (by (try rw [(show n_166 88 = (n_166 88) from rfl)]); omega), (by (try rw [(show n_166 88 = (n_166 88) from rfl)]); omega), (by (try rw [(show n_166 88 = (n_166 88) from rfl)]); omega)⟩)
                ·
                  try simp only [mIn_0, lgc_lt, lgc_gt, lgc_le, lgc_ge, lgc_eq] at c_132
                  try simp only [fl_lt, fl_le, fl_eq, fL_w, fL_lt, fL_le, tm1, tm10k, tm9, tm99, Int32.reduceToInt, Int64.reduceToInt, Int.not_lt, Int.not_le] at c_132
                  refine gz_aload_n dX12_tells_135 rfl rfl ?_
                  refine gz_bipush (v := 61) dX12_tells_136 (by decide) ?_
                  refine scX12_547 (k_X12_signs (x1 := 61) hS_158 (by (try rw [(show n_158 88 = (n_158 88) from rfl)]); omega)) hS_158.1 ⟨(Nat.le_of_ble_eq_true rfl), (Nat.le_of_ble_eq_true rfl)⟩ ⟨(Nat.le_of_ble_eq_true rfl), (Nat.le_of_ble_eq_true rfl)⟩ rfl rfl (Nat.le_of_ble_eq_true rfl) dX12_tells_138 ?_
                  rintro f_167 ⟨n_167, z_167, F_167, G_167, hS_167, hx167, h8_167⟩
                  refine gz_aload_n dX12_tells_141 rfl rfl ?_
                  refine gz_iload_n dX12_tells_142 rfl rfl ?_
                  refine gz_aload_n dX12_tells_143 rfl rfl ?_
                  refine mg_41 hS_167 dX12_tells_144 ?_
                  refine gz_iload_n dX12_tells_147 rfl rfl ?_
                  refine m_iald 14 hS_167 rfl (N := 880) rfl ((by exact vin_T (rfl : (x1).toInt = (x1).toInt) (by omega) (by omega))) dX12_tells_148 ?_
                  refine gz_ev (w := .int ((F 14) (Int32.toNatClampNeg x1))) (congrArg Value.int (congrFun ((hx167.2.2.1 14 (by decide)).trans ((hx158.2.2.1 14 (by decide)).trans ((hx144.2.2.1 14 (by decide)).trans ((hx116.2.2.1 14 (by decide)).trans (hx1.2.2.1 14 (by decide)))))) _)) ?_
                  refine gz_aload_n dX12_tells_149 rfl rfl ?_
                  refine mg_44 hS_167 dX12_tells_150 ?_
                  refine gz_iload_n dX12_tells_153 rfl rfl ?_
                  refine m_iald 15 hS_167 rfl (N := 880) rfl ((by exact vin_T (rfl : (x1).toInt = (x1).toInt) (by omega) (by omega))) dX12_tells_154 ?_
                  refine gz_ev (w := .int ((F 15) (Int32.toNatClampNeg x1))) (congrArg Value.int (congrFun ((hx167.2.2.1 15 (by decide)).trans ((hx158.2.2.1 15 (by decide)).trans ((hx144.2.2.1 15 (by decide)).trans ((hx116.2.2.1 15 (by decide)).trans (hx1.2.2.1 15 (by decide)))))) _)) ?_
                  have hxx155 : fx [88, 89] [] [87] [] n z F G n_167 z_167 F_167 G_167 := (fx_tr (fx_tr (fx_tr (fx_tr (fx_tr fx_rf hx1 (by decide)) hx116 (by decide)) hx144 (by decide)) hx158 (by decide)) hx167 (by decide))
                  refine scX12_558 (k_X12_sums (x1 := x1) (x2 := ((F 14) (Int32.toNatClampNeg x1))) (x3 := ((F 15) (Int32.toNatClampNeg x1))) hS_167 (rAll_w (fun k hk => hxx155.2.2.1 k ((by decide : ∀ k : Nat, k ∈ wK → k ∉ ([87] : List Nat)) k hk)) bA) (by omega) (by omega) (by (try rw [(show n_167 88 = (n_167 88) from rfl)]); omega)) hS_167.1 ⟨(Nat.le_of_ble_eq_true rfl), (Nat.le_of_ble_eq_true rfl)⟩ ⟨(Nat.le_of_ble_eq_true rfl), (Nat.le_of_ble_eq_true rfl)⟩ rfl rfl (Nat.le_of_ble_eq_true rfl) dX12_tells_155 ?_
                  rintro f_168 ⟨n_168, z_168, F_168, G_168, hS_168, hx168, h8a_168, h8b_168⟩
                  refine gz_aload_n dX12_tells_158 rfl rfl ?_
                  refine gz_bipush (v := 58) dX12_tells_159 (by decide) ?_
                  refine scX12_547 (k_X12_signs (x1 := 58) hS_168 (by (try rw [(show n_168 88 = (n_168 88) from rfl)]); omega)) hS_168.1 ⟨(Nat.le_of_ble_eq_true rfl), (Nat.le_of_ble_eq_true rfl)⟩ ⟨(Nat.le_of_ble_eq_true rfl), (Nat.le_of_ble_eq_true rfl)⟩ rfl rfl (Nat.le_of_ble_eq_true rfl) dX12_tells_161 ?_
                  rintro f_169 ⟨n_169, z_169, F_169, G_169, hS_169, hx169, h8_169⟩
                  refine gz_aload_n dX12_tells_164 rfl rfl ?_
                  refine mg_20 hS_169 dX12_tells_165 ?_
                  refine gz_iload_n dX12_tells_168 rfl rfl ?_
                  refine m_iald 7 hS_169 rfl (N := 880) rfl ((by exact vin_T (rfl : (x1).toInt = (x1).toInt) (by omega) (by omega))) dX12_tells_169 ?_
                  refine gz_ev (w := .int ((F 7) (Int32.toNatClampNeg x1))) (congrArg Value.int (congrFun ((hx169.2.2.1 7 (by decide)).trans ((hx168.2.2.1 7 (by decide)).trans ((hx167.2.2.1 7 (by decide)).trans ((hx158.2.2.1 7 (by decide)).trans ((hx144.2.2.1 7 (by decide)).trans ((hx116.2.2.1 7 (by decide)).trans (hx1.2.2.1 7 (by decide)))))))) _)) ?_
                  refine gz_bipush (v := 9) dX12_tells_170 (by decide) ?_
                  refine gz_icmp_ne (tgt := 198) dX12_tells_172 (by decide) (fun c_172 => ?_) (fun c_172 => ?_)
                  ·
                    try simp only [mIn_0, lgc_lt, lgc_gt, lgc_le, lgc_ge, lgc_eq] at c_172
                    try simp only [fl_lt, fl_le, fl_eq, fL_w, fL_lt, fL_le, tm1, tm10k, tm9, tm99, Int32.reduceToInt, Int64.reduceToInt, Int.not_lt, Int.not_le] at c_172
                    exact gz_vret rfl dX12_tells_198 (Nat.le_of_ble_eq_true rfl) (Nat.le_of_ble_eq_true rfl) (⟨rfl, _, _, _, _, hS_169, (fx_tr (fx_tr (fx_tr (fx_tr (fx_tr (fx_tr (fx_tr fx_rf hx1 (by decide)) hx116 (by decide)) hx144 (by decide)) hx158 (by decide)) hx167 (by decide)) hx168 (by decide)) hx169 (by decide)), (by (try rw [(show n_169 88 = (n_169 88) from rfl)]); omega), (by (try rw [(show n_169 88 = (n_169 88) from rfl)]); omega), (by (try rw [(show n_169 88 = (n_169 88) from rfl)]); omega)⟩)
                  ·
                    try simp only [mIn_0, lgc_lt, lgc_gt, lgc_le, lgc_ge, lgc_eq] at c_172
                    try simp only [fl_lt, fl_le, fl_eq, fL_w, fL_lt, fL_le, tm1, tm10k, tm9, tm99, Int32.reduceToInt, Int64.reduceToInt, Int.not_lt, Int.not_le] at c_172
                    refine gz_aload_n dX12_tells_175 rfl rfl ?_
                    refine gz_iload_n dX12_tells_176 rfl rfl ?_
                    refine gz_aload_n dX12_tells_177 rfl rfl ?_
                    refine mg_38 hS_169 dX12_tells_178 ?_
                    refine gz_iload_n dX12_tells_181 rfl rfl ?_
                    refine m_iald 13 hS_169 rfl (N := 880) rfl ((by exact vin_T (rfl : (x1).toInt = (x1).toInt) (by omega) (by omega))) dX12_tells_182 ?_
                    refine gz_ev (w := .int ((F 13) (Int32.toNatClampNeg x1))) (congrArg Value.int (congrFun ((hx169.2.2.1 13 (by decide)).trans ((hx168.2.2.1 13 (by decide)).trans ((hx167.2.2.1 13 (by decide)).trans ((hx158.2.2.1 13 (by decide)).trans ((hx144.2.2.1 13 (by decide)).trans ((hx116.2.2.1 13 (by decide)).trans (hx1.2.2.1 13 (by decide)))))))) _)) ?_
                    refine gz_aload_n dX12_tells_183 rfl rfl ?_
                    refine mg_41 hS_169 dX12_tells_184 ?_
                    refine gz_iload_n dX12_tells_187 rfl rfl ?_
                    refine m_iald 14 hS_169 rfl (N := 880) rfl ((by exact vin_T (rfl : (x1).toInt = (x1).toInt) (by omega) (by omega))) dX12_tells_188 ?_
                    refine gz_ev (w := .int ((F 14) (Int32.toNatClampNeg x1))) (congrArg Value.int (congrFun ((hx169.2.2.1 14 (by decide)).trans ((hx168.2.2.1 14 (by decide)).trans ((hx167.2.2.1 14 (by decide)).trans ((hx158.2.2.1 14 (by decide)).trans ((hx144.2.2.1 14 (by decide)).trans ((hx116.2.2.1 14 (by decide)).trans (hx1.2.2.1 14 (by decide)))))))) _)) ?_
                    have hxx189 : fx [88, 89] [] [87] [] n z F G n_169 z_169 F_169 G_169 := (fx_tr (fx_tr (fx_tr (fx_tr (fx_tr (fx_tr (fx_tr fx_rf hx1 (by decide)) hx116 (by decide)) hx144 (by decide)) hx158 (by decide)) hx167 (by decide)) hx168 (by decide)) hx169 (by decide))
                    refine scX12_558 (k_X12_sums (x1 := x1) (x2 := ((F 13) (Int32.toNatClampNeg x1))) (x3 := ((F 14) (Int32.toNatClampNeg x1))) hS_169 (rAll_w (fun k hk => hxx189.2.2.1 k ((by decide : ∀ k : Nat, k ∈ wK → k ∉ ([87] : List Nat)) k hk)) bA) (by omega) (by omega) (by (try rw [(show n_169 88 = (n_169 88) from rfl)]); omega)) hS_169.1 ⟨(Nat.le_of_ble_eq_true rfl), (Nat.le_of_ble_eq_true rfl)⟩ ⟨(Nat.le_of_ble_eq_true rfl), (Nat.le_of_ble_eq_true rfl)⟩ rfl rfl (Nat.le_of_ble_eq_true rfl) dX12_tells_189 ?_
                    rintro f_170 ⟨n_170, z_170, F_170, G_170, hS_170, hx170, h8a_170, h8b_170⟩
                    refine gz_aload_n dX12_tells_192 rfl rfl ?_
                    refine gz_bipush (v := 58) dX12_tells_193 (by decide) ?_
                    refine scX12_547 (k_X12_signs (x1 := 58) hS_170 (by (try rw [(show n_170 88 = (n_170 88) from rfl)]); omega)) hS_170.1 ⟨(Nat.le_of_ble_eq_true rfl), (Nat.le_of_ble_eq_true rfl)⟩ ⟨(Nat.le_of_ble_eq_true rfl), (Nat.le_of_ble_eq_true rfl)⟩ rfl rfl (Nat.le_of_ble_eq_true rfl) dX12_tells_195 ?_
                    rintro f_171 ⟨n_171, z_171, F_171, G_171, hS_171, hx171, h8_171⟩
                    exact gz_vret rfl dX12_tells_198 (Nat.le_of_ble_eq_true rfl) (Nat.le_of_ble_eq_true rfl) (⟨rfl, _, _, _, _, hS_171, (fx_tr (fx_tr (fx_tr (fx_tr (fx_tr (fx_tr (fx_tr (fx_tr (fx_tr fx_rf hx1 (by decide)) hx116 (by decide)) hx144 (by decide)) hx158 (by decide)) hx167 (by decide)) hx168 (by decide)) hx169 (by decide)) hx170 (by decide)) hx171 (by decide)), (by (try rw [(show n_171 88 = (n_171 88) from rfl)]); omega), (by (try rw [(show n_171 88 = (n_171 88) from rfl)]); omega), (by (try rw [(show n_171 88 = (n_171 88) from rfl)]); omega)⟩)
  ·
    try simp only [mIn_0, lgc_lt, lgc_gt, lgc_le, lgc_ge, lgc_eq] at c_21
    try simp only [fl_lt, fl_le, fl_eq, fL_w, fL_lt, fL_le, tm1, tm10k, tm9, tm99, Int32.reduceToInt, Int64.reduceToInt, Int.not_lt, Int.not_le] at c_21
    refine gz_aload_n dX12_tells_24 rfl rfl ?_
    refine gz_aload_n dX12_tells_25 rfl rfl ?_
    refine mg_23 hS_1 dX12_tells_26 ?_
    refine gz_iload_n dX12_tells_29 rfl rfl ?_
    refine m_iald 8 hS_1 rfl (N := 880) rfl ((by exact vin_T (rfl : (x1).toInt = (x1).toInt) (by omega) (by omega))) dX12_tells_30 ?_
    refine gz_ev (w := .int ((F 8) (Int32.toNatClampNeg x1))) (congrArg Value.int (congrFun (hx1.2.2.1 8 (by decide)) _)) ?_
    refine scX12_550 (k_X12_digits (x1 := ((F 8) (Int32.toNatClampNeg x1))) hS_1 (by (try rw [(show n_1 88 = (n_1 88) from rfl)]); omega)) hS_1.1 ⟨(Nat.le_of_ble_eq_true rfl), (Nat.le_of_ble_eq_true rfl)⟩ ⟨(Nat.le_of_ble_eq_true rfl), (Nat.le_of_ble_eq_true rfl)⟩ rfl rfl (Nat.le_of_ble_eq_true rfl) dX12_tells_31 ?_
    rintro f_172 ⟨n_172, z_172, F_172, G_172, hS_172, hx172, h8a_172, h8b_172⟩
    refine gz_aload_n dX12_tells_34 rfl rfl ?_
    refine mg_20 hS_172 dX12_tells_35 ?_
    refine gz_iload_n dX12_tells_38 rfl rfl ?_
    refine m_iald 7 hS_172 rfl (N := 880) rfl ((by exact vin_T (rfl : (x1).toInt = (x1).toInt) (by omega) (by omega))) dX12_tells_39 ?_
    refine gz_ev (w := .int ((F 7) (Int32.toNatClampNeg x1))) (congrArg Value.int (congrFun ((hx172.2.2.1 7 (by decide)).trans (hx1.2.2.1 7 (by decide))) _)) ?_
    refine gz_bipush (v := 6) dX12_tells_40 (by decide) ?_
    refine gz_icmp_eq (tgt := 67) dX12_tells_42 (by decide) (fun c_42 => ?_) (fun c_42 => ?_)
    ·
      try simp only [mIn_0, lgc_lt, lgc_gt, lgc_le, lgc_ge, lgc_eq] at c_42
      try simp only [fl_lt, fl_le, fl_eq, fL_w, fL_lt, fL_le, tm1, tm10k, tm9, tm99, Int32.reduceToInt, Int64.reduceToInt, Int.not_lt, Int.not_le] at c_42
      refine gz_aload_n dX12_tells_67 rfl rfl ?_
      refine gz_iload_n dX12_tells_68 rfl rfl ?_
      refine gz_aload_n dX12_tells_69 rfl rfl ?_
      refine mg_38 hS_172 dX12_tells_70 ?_
      refine gz_iload_n dX12_tells_73 rfl rfl ?_
      refine m_iald 13 hS_172 rfl (N := 880) rfl ((by exact vin_T (rfl : (x1).toInt = (x1).toInt) (by omega) (by omega))) dX12_tells_74 ?_
      refine gz_ev (w := .int ((F 13) (Int32.toNatClampNeg x1))) (congrArg Value.int (congrFun ((hx172.2.2.1 13 (by decide)).trans (hx1.2.2.1 13 (by decide))) _)) ?_
      refine gz_aload_n dX12_tells_75 rfl rfl ?_
      refine mg_41 hS_172 dX12_tells_76 ?_
      refine gz_iload_n dX12_tells_79 rfl rfl ?_
      refine m_iald 14 hS_172 rfl (N := 880) rfl ((by exact vin_T (rfl : (x1).toInt = (x1).toInt) (by omega) (by omega))) dX12_tells_80 ?_
      refine gz_ev (w := .int ((F 14) (Int32.toNatClampNeg x1))) (congrArg Value.int (congrFun ((hx172.2.2.1 14 (by decide)).trans (hx1.2.2.1 14 (by decide))) _)) ?_
      have hxx81 : fx [88, 89] [] [87] [] n z F G n_172 z_172 F_172 G_172 := (fx_tr (fx_tr fx_rf hx1 (by decide)) hx172 (by decide))
      refine scX12_558 (k_X12_sums (x1 := x1) (x2 := ((F 13) (Int32.toNatClampNeg x1))) (x3 := ((F 14) (Int32.toNatClampNeg x1))) hS_172 (rAll_w (fun k hk => hxx81.2.2.1 k ((by decide : ∀ k : Nat, k ∈ wK → k ∉ ([87] : List Nat)) k hk)) bA) (by omega) (by omega) (by (try rw [(show n_172 88 = (n_172 88) from rfl)]); omega)) hS_172.1 ⟨(Nat.le_of_ble_eq_true rfl), (Nat.le_of_ble_eq_true rfl)⟩ ⟨(Nat.le_of_ble_eq_true rfl), (Nat.le_of_ble_eq_true rfl)⟩ rfl rfl (Nat.le_of_ble_eq_true rfl) dX12_tells_81 ?_
      rintro f_173 ⟨n_173, z_173, F_173, G_173, hS_173, hx173, h8a_173, h8b_173⟩
      refine gz_aload_n dX12_tells_84 rfl rfl ?_
      refine mg_47 hS_173 dX12_tells_85 ?_
      refine gz_iload_n dX12_tells_88 rfl rfl ?_
      refine m_iald 16 hS_173 rfl (N := 880) rfl ((by exact vin_T (rfl : (x1).toInt = (x1).toInt) (by omega) (by omega))) dX12_tells_89 ?_
      refine gz_ev (w := .int ((F 16) (Int32.toNatClampNeg x1))) (congrArg Value.int (congrFun ((hx173.2.2.1 16 (by decide)).trans ((hx172.2.2.1 16 (by decide)).trans (hx1.2.2.1 16 (by decide)))) _)) ?_
      refine gz_iconst (v := 2) dX12_tells_90 (by decide) ?_
      refine gz_icmp_ge (tgt := 100) dX12_tells_91 (by decide) (fun c_91 => ?_) (fun c_91 => ?_)
      ·
        try simp only [mIn_0, lgc_lt, lgc_gt, lgc_le, lgc_ge, lgc_eq] at c_91
        try simp only [fl_lt, fl_le, fl_eq, fL_w, fL_lt, fL_le, tm1, tm10k, tm9, tm99, Int32.reduceToInt, Int64.reduceToInt, Int.not_lt, Int.not_le] at c_91
        refine gz_aload_n dX12_tells_100 rfl rfl ?_
        refine mg_47 hS_173 dX12_tells_101 ?_
        refine gz_iload_n dX12_tells_104 rfl rfl ?_
        refine m_iald 16 hS_173 rfl (N := 880) rfl ((by exact vin_T (rfl : (x1).toInt = (x1).toInt) (by omega) (by omega))) dX12_tells_105 ?_
        refine gz_ev (w := .int ((F 16) (Int32.toNatClampNeg x1))) (congrArg Value.int (congrFun ((hx173.2.2.1 16 (by decide)).trans ((hx172.2.2.1 16 (by decide)).trans (hx1.2.2.1 16 (by decide)))) _)) ?_
        refine gz_iconst (v := 2) dX12_tells_106 (by decide) ?_
        refine gz_icmp_le (tgt := 116) dX12_tells_107 (by decide) (fun c_107 => ?_) (fun c_107 => ?_)
        ·
          try simp only [mIn_0, lgc_lt, lgc_gt, lgc_le, lgc_ge, lgc_eq] at c_107
          try simp only [fl_lt, fl_le, fl_eq, fL_w, fL_lt, fL_le, tm1, tm10k, tm9, tm99, Int32.reduceToInt, Int64.reduceToInt, Int.not_lt, Int.not_le] at c_107
          refine gz_aload_n dX12_tells_116 rfl rfl ?_
          refine mg_47 hS_173 dX12_tells_117 ?_
          refine gz_iload_n dX12_tells_120 rfl rfl ?_
          refine m_iald 16 hS_173 rfl (N := 880) rfl ((by exact vin_T (rfl : (x1).toInt = (x1).toInt) (by omega) (by omega))) dX12_tells_121 ?_
          refine gz_ev (w := .int ((F 16) (Int32.toNatClampNeg x1))) (congrArg Value.int (congrFun ((hx173.2.2.1 16 (by decide)).trans ((hx172.2.2.1 16 (by decide)).trans (hx1.2.2.1 16 (by decide)))) _)) ?_
          refine gz_if_le (tgt := 141) dX12_tells_122 (by decide) (fun c_122 => ?_) (fun c_122 => ?_)
          ·
            try simp only [mIn_0, lgc_lt, lgc_gt, lgc_le, lgc_ge, lgc_eq] at c_122
            try simp only [fl_lt, fl_le, fl_eq, fL_w, fL_lt, fL_le, tm1, tm10k, tm9, tm99, Int32.reduceToInt, Int64.reduceToInt, Int.not_lt, Int.not_le] at c_122
            refine gz_aload_n dX12_tells_141 rfl rfl ?_
            refine gz_iload_n dX12_tells_142 rfl rfl ?_
            refine gz_aload_n dX12_tells_143 rfl rfl ?_
            refine mg_41 hS_173 dX12_tells_144 ?_
            refine gz_iload_n dX12_tells_147 rfl rfl ?_
            refine m_iald 14 hS_173 rfl (N := 880) rfl ((by exact vin_T (rfl : (x1).toInt = (x1).toInt) (by omega) (by omega))) dX12_tells_148 ?_
            refine gz_ev (w := .int ((F 14) (Int32.toNatClampNeg x1))) (congrArg Value.int (congrFun ((hx173.2.2.1 14 (by decide)).trans ((hx172.2.2.1 14 (by decide)).trans (hx1.2.2.1 14 (by decide)))) _)) ?_
            refine gz_aload_n dX12_tells_149 rfl rfl ?_
            refine mg_44 hS_173 dX12_tells_150 ?_
            refine gz_iload_n dX12_tells_153 rfl rfl ?_
            refine m_iald 15 hS_173 rfl (N := 880) rfl ((by exact vin_T (rfl : (x1).toInt = (x1).toInt) (by omega) (by omega))) dX12_tells_154 ?_
            refine gz_ev (w := .int ((F 15) (Int32.toNatClampNeg x1))) (congrArg Value.int (congrFun ((hx173.2.2.1 15 (by decide)).trans ((hx172.2.2.1 15 (by decide)).trans (hx1.2.2.1 15 (by decide)))) _)) ?_
            have hxx155 : fx [88, 89] [] [87] [] n z F G n_173 z_173 F_173 G_173 := (fx_tr (fx_tr (fx_tr fx_rf hx1 (by decide)) hx172 (by decide)) hx173 (by decide))
            refine scX12_558 (k_X12_sums (x1 := x1) (x2 := ((F 14) (Int32.toNatClampNeg x1))) (x3 := ((F 15) (Int32.toNatClampNeg x1))) hS_173 (rAll_w (fun k hk => hxx155.2.2.1 k ((by decide : ∀ k : Nat, k ∈ wK → k ∉ ([87] : List Nat)) k hk)) bA) (by omega) (by omega) (by (try rw [(show n_173 88 = (n_173 88) from rfl)]); omega)) hS_173.1 ⟨(Nat.le_of_ble_eq_true rfl), (Nat.le_of_ble_eq_true rfl)⟩ ⟨(Nat.le_of_ble_eq_true rfl), (Nat.le_of_ble_eq_true rfl)⟩ rfl rfl (Nat.le_of_ble_eq_true rfl) dX12_tells_155 ?_
            rintro f_174 ⟨n_174, z_174, F_174, G_174, hS_174, hx174, h8a_174, h8b_174⟩
            refine gz_aload_n dX12_tells_158 rfl rfl ?_
            refine gz_bipush (v := 58) dX12_tells_159 (by decide) ?_
            refine scX12_547 (k_X12_signs (x1 := 58) hS_174 (by (try rw [(show n_174 88 = (n_174 88) from rfl)]); omega)) hS_174.1 ⟨(Nat.le_of_ble_eq_true rfl), (Nat.le_of_ble_eq_true rfl)⟩ ⟨(Nat.le_of_ble_eq_true rfl), (Nat.le_of_ble_eq_true rfl)⟩ rfl rfl (Nat.le_of_ble_eq_true rfl) dX12_tells_161 ?_
            rintro f_175 ⟨n_175, z_175, F_175, G_175, hS_175, hx175, h8_175⟩
            refine gz_aload_n dX12_tells_164 rfl rfl ?_
            refine mg_20 hS_175 dX12_tells_165 ?_
            refine gz_iload_n dX12_tells_168 rfl rfl ?_
            refine m_iald 7 hS_175 rfl (N := 880) rfl ((by exact vin_T (rfl : (x1).toInt = (x1).toInt) (by omega) (by omega))) dX12_tells_169 ?_
            refine gz_ev (w := .int ((F 7) (Int32.toNatClampNeg x1))) (congrArg Value.int (congrFun ((hx175.2.2.1 7 (by decide)).trans ((hx174.2.2.1 7 (by decide)).trans ((hx173.2.2.1 7 (by decide)).trans ((hx172.2.2.1 7 (by decide)).trans (hx1.2.2.1 7 (by decide)))))) _)) ?_
            refine gz_bipush (v := 9) dX12_tells_170 (by decide) ?_
            refine gz_icmp_ne (tgt := 198) dX12_tells_172 (by decide) (fun c_172 => ?_) (fun c_172 => ?_)
            ·
              try simp only [mIn_0, lgc_lt, lgc_gt, lgc_le, lgc_ge, lgc_eq] at c_172
              try simp only [fl_lt, fl_le, fl_eq, fL_w, fL_lt, fL_le, tm1, tm10k, tm9, tm99, Int32.reduceToInt, Int64.reduceToInt, Int.not_lt, Int.not_le] at c_172
              exact gz_vret rfl dX12_tells_198 (Nat.le_of_ble_eq_true rfl) (Nat.le_of_ble_eq_true rfl) (⟨rfl, _, _, _, _, hS_175, (fx_tr (fx_tr (fx_tr (fx_tr (fx_tr fx_rf hx1 (by decide)) hx172 (by decide)) hx173 (by decide)) hx174 (by decide)) hx175 (by decide)), (by (try rw [(show n_175 88 = (n_175 88) from rfl)]); omega), (by (try rw [(show n_175 88 = (n_175 88) from rfl)]); omega), (by (try rw [(show n_175 88 = (n_175 88) from rfl)]); omega)⟩)
            ·
              try simp only [mIn_0, lgc_lt, lgc_gt, lgc_le, lgc_ge, lgc_eq] at c_172
              try simp only [fl_lt, fl_le, fl_eq, fL_w, fL_lt, fL_le, tm1, tm10k, tm9, tm99, Int32.reduceToInt, Int64.reduceToInt, Int.not_lt, Int.not_le] at c_172
              refine gz_aload_n dX12_tells_175 rfl rfl ?_
              refine gz_iload_n dX12_tells_176 rfl rfl ?_
              refine gz_aload_n dX12_tells_177 rfl rfl ?_
              refine mg_38 hS_175 dX12_tells_178 ?_
              refine gz_iload_n dX12_tells_181 rfl rfl ?_
              refine m_iald 13 hS_175 rfl (N := 880) rfl ((by exact vin_T (rfl : (x1).toInt = (x1).toInt) (by omega) (by omega))) dX12_tells_182 ?_
              refine gz_ev (w := .int ((F 13) (Int32.toNatClampNeg x1))) (congrArg Value.int (congrFun ((hx175.2.2.1 13 (by decide)).trans ((hx174.2.2.1 13 (by decide)).trans ((hx173.2.2.1 13 (by decide)).trans ((hx172.2.2.1 13 (by decide)).trans (hx1.2.2.1 13 (by decide)))))) _)) ?_
              refine gz_aload_n dX12_tells_183 rfl rfl ?_
              refine mg_41 hS_175 dX12_tells_184 ?_
              refine gz_iload_n dX12_tells_187 rfl rfl ?_
              refine m_iald 14 hS_175 rfl (N := 880) rfl ((by exact vin_T (rfl : (x1).toInt = (x1).toInt) (by omega) (by omega))) dX12_tells_188 ?_
              refine gz_ev (w := .int ((F 14) (Int32.toNatClampNeg x1))) (congrArg Value.int (congrFun ((hx175.2.2.1 14 (by decide)).trans ((hx174.2.2.1 14 (by decide)).trans ((hx173.2.2.1 14 (by decide)).trans ((hx172.2.2.1 14 (by decide)).trans (hx1.2.2.1 14 (by decide)))))) _)) ?_
              have hxx189 : fx [88, 89] [] [87] [] n z F G n_175 z_175 F_175 G_175 := (fx_tr (fx_tr (fx_tr (fx_tr (fx_tr fx_rf hx1 (by decide)) hx172 (by decide)) hx173 (by decide)) hx174 (by decide)) hx175 (by decide))
              refine scX12_558 (k_X12_sums (x1 := x1) (x2 := ((F 13) (Int32.toNatClampNeg x1))) (x3 := ((F 14) (Int32.toNatClampNeg x1))) hS_175 (rAll_w (fun k hk => hxx189.2.2.1 k ((by decide : ∀ k : Nat, k ∈ wK → k ∉ ([87] : List Nat)) k hk)) bA) (by omega) (by omega) (by (try rw [(show n_175 88 = (n_175 88) from rfl)]); omega)) hS_175.1 ⟨(Nat.le_of_ble_eq_true rfl), (Nat.le_of_ble_eq_true rfl)⟩ ⟨(Nat.le_of_ble_eq_true rfl), (Nat.le_of_ble_eq_true rfl)⟩ rfl rfl (Nat.le_of_ble_eq_true rfl) dX12_tells_189 ?_
              rintro f_176 ⟨n_176, z_176, F_176, G_176, hS_176, hx176, h8a_176, h8b_176⟩
              refine gz_aload_n dX12_tells_192 rfl rfl ?_
              refine gz_bipush (v := 58) dX12_tells_193 (by decide) ?_
              refine scX12_547 (k_X12_signs (x1 := 58) hS_176 (by (try rw [(show n_176 88 = (n_176 88) from rfl)]); omega)) hS_176.1 ⟨(Nat.le_of_ble_eq_true rfl), (Nat.le_of_ble_eq_true rfl)⟩ ⟨(Nat.le_of_ble_eq_true rfl), (Nat.le_of_ble_eq_true rfl)⟩ rfl rfl (Nat.le_of_ble_eq_true rfl) dX12_tells_195 ?_
              rintro f_177 ⟨n_177, z_177, F_177, G_177, hS_177, hx177, h8_177⟩
              exact gz_vret rfl dX12_tells_198 (Nat.le_of_ble_eq_true rfl) (Nat.le_of_ble_eq_true rfl) (⟨rfl, _, _, _, _, hS_177, (fx_tr (fx_tr (fx_tr (fx_tr (fx_tr (fx_tr (fx_tr fx_rf hx1 (by decide)) hx172 (by decide)) hx173 (by decide)) hx174 (by decide)) hx175 (by decide)) hx176 (by decide)) hx177 (by decide)), (by (try rw [(show n_177 88 = (n_177 88) from rfl)]); omega), (by (try rw [(show n_177 88 = (n_177 88) from rfl)]); omega), (by (try rw [(show n_177 88 = (n_177 88) from rfl)]); omega)⟩)
          ·
            try simp only [mIn_0, lgc_lt, lgc_gt, lgc_le, lgc_ge, lgc_eq] at c_122
            try simp only [fl_lt, fl_le, fl_eq, fL_w, fL_lt, fL_le, tm1, tm10k, tm9, tm99, Int32.reduceToInt, Int64.reduceToInt, Int.not_lt, Int.not_le] at c_122
            refine gz_aload_n dX12_tells_125 rfl rfl ?_
            refine mg_47 hS_173 dX12_tells_126 ?_
            refine gz_iload_n dX12_tells_129 rfl rfl ?_
            refine m_iald 16 hS_173 rfl (N := 880) rfl ((by exact vin_T (rfl : (x1).toInt = (x1).toInt) (by omega) (by omega))) dX12_tells_130 ?_
            refine gz_ev (w := .int ((F 16) (Int32.toNatClampNeg x1))) (congrArg Value.int (congrFun ((hx173.2.2.1 16 (by decide)).trans ((hx172.2.2.1 16 (by decide)).trans (hx1.2.2.1 16 (by decide)))) _)) ?_
            refine gz_iconst (v := 4) dX12_tells_131 (by decide) ?_
            refine gz_icmp_ge (tgt := 141) dX12_tells_132 (by decide) (fun c_132 => ?_) (fun c_132 => ?_)
            ·
              try simp only [mIn_0, lgc_lt, lgc_gt, lgc_le, lgc_ge, lgc_eq] at c_132
              try simp only [fl_lt, fl_le, fl_eq, fL_w, fL_lt, fL_le, tm1, tm10k, tm9, tm99, Int32.reduceToInt, Int64.reduceToInt, Int.not_lt, Int.not_le] at c_132
              refine gz_aload_n dX12_tells_141 rfl rfl ?_
              refine gz_iload_n dX12_tells_142 rfl rfl ?_
              refine gz_aload_n dX12_tells_143 rfl rfl ?_
              refine mg_41 hS_173 dX12_tells_144 ?_
              refine gz_iload_n dX12_tells_147 rfl rfl ?_
              refine m_iald 14 hS_173 rfl (N := 880) rfl ((by exact vin_T (rfl : (x1).toInt = (x1).toInt) (by omega) (by omega))) dX12_tells_148 ?_
              refine gz_ev (w := .int ((F 14) (Int32.toNatClampNeg x1))) (congrArg Value.int (congrFun ((hx173.2.2.1 14 (by decide)).trans ((hx172.2.2.1 14 (by decide)).trans (hx1.2.2.1 14 (by decide)))) _)) ?_
              refine gz_aload_n dX12_tells_149 rfl rfl ?_
              refine mg_44 hS_173 dX12_tells_150 ?_
              refine gz_iload_n dX12_tells_153 rfl rfl ?_
              refine m_iald 15 hS_173 rfl (N := 880) rfl ((by exact vin_T (rfl : (x1).toInt = (x1).toInt) (by omega) (by omega))) dX12_tells_154 ?_
              refine gz_ev (w := .int ((F 15) (Int32.toNatClampNeg x1))) (congrArg Value.int (congrFun ((hx173.2.2.1 15 (by decide)).trans ((hx172.2.2.1 15 (by decide)).trans (hx1.2.2.1 15 (by decide)))) _)) ?_
              have hxx155 : fx [88, 89] [] [87] [] n z F G n_173 z_173 F_173 G_173 := (fx_tr (fx_tr (fx_tr fx_rf hx1 (by decide)) hx172 (by decide)) hx173 (by decide))
              refine scX12_558 (k_X12_sums (x1 := x1) (x2 := ((F 14) (Int32.toNatClampNeg x1))) (x3 := ((F 15) (Int32.toNatClampNeg x1))) hS_173 (rAll_w (fun k hk => hxx155.2.2.1 k ((by decide : ∀ k : Nat, k ∈ wK → k ∉ ([87] : List Nat)) k hk)) bA) (by omega) (by omega) (by (try rw [(show n_173 88 = (n_173 88) from rfl)]); omega)) hS_173.1 ⟨(Nat.le_of_ble_eq_true rfl), (Nat.le_of_ble_eq_true rfl)⟩ ⟨(Nat.le_of_ble_eq_true rfl), (Nat.le_of_ble_eq_true rfl)⟩ rfl rfl (Nat.le_of_ble_eq_true rfl) dX12_tells_155 ?_
              rintro f_178 ⟨n_178, z_178, F_178, G_178, hS_178, hx178, h8a_178, h8b_178⟩
              refine gz_aload_n dX12_tells_158 rfl rfl ?_
              refine gz_bipush (v := 58) dX12_tells_159 (by decide) ?_
              refine scX12_547 (k_X12_signs (x1 := 58) hS_178 (by (try rw [(show n_178 88 = (n_178 88) from rfl)]); omega)) hS_178.1 ⟨(Nat.le_of_ble_eq_true rfl), (Nat.le_of_ble_eq_true rfl)⟩ ⟨(Nat.le_of_ble_eq_true rfl), (Nat.le_of_ble_eq_true rfl)⟩ rfl rfl (Nat.le_of_ble_eq_true rfl) dX12_tells_161 ?_
              rintro f_179 ⟨n_179, z_179, F_179, G_179, hS_179, hx179, h8_179⟩
              refine gz_aload_n dX12_tells_164 rfl rfl ?_
              refine mg_20 hS_179 dX12_tells_165 ?_
              refine gz_iload_n dX12_tells_168 rfl rfl ?_
              refine m_iald 7 hS_179 rfl (N := 880) rfl ((by exact vin_T (rfl : (x1).toInt = (x1).toInt) (by omega) (by omega))) dX12_tells_169 ?_
              refine gz_ev (w := .int ((F 7) (Int32.toNatClampNeg x1))) (congrArg Value.int (congrFun ((hx179.2.2.1 7 (by decide)).trans ((hx178.2.2.1 7 (by decide)).trans ((hx173.2.2.1 7 (by decide)).trans ((hx172.2.2.1 7 (by decide)).trans (hx1.2.2.1 7 (by decide)))))) _)) ?_
              refine gz_bipush (v := 9) dX12_tells_170 (by decide) ?_
              refine gz_icmp_ne (tgt := 198) dX12_tells_172 (by decide) (fun c_172 => ?_) (fun c_172 => ?_)
              ·
                try simp only [mIn_0, lgc_lt, lgc_gt, lgc_le, lgc_ge, lgc_eq] at c_172
                try simp only [fl_lt, fl_le, fl_eq, fL_w, fL_lt, fL_le, tm1, tm10k, tm9, tm99, Int32.reduceToInt, Int64.reduceToInt, Int.not_lt, Int.not_le] at c_172
                exact gz_vret rfl dX12_tells_198 (Nat.le_of_ble_eq_true rfl) (Nat.le_of_ble_eq_true rfl) (⟨rfl, _, _, _, _, hS_179, (fx_tr (fx_tr (fx_tr (fx_tr (fx_tr fx_rf hx1 (by decide)) hx172 (by decide)) hx173 (by decide)) hx178 (by decide)) hx179 (by decide)), (by (try rw [(show n_179 88 = (n_179 88) from rfl)]); omega), (by (try rw [(show n_179 88 = (n_179 88) from rfl)]); omega), (by (try rw [(show n_179 88 = (n_179 88) from rfl)]); omega)⟩)
              ·
                try simp only [mIn_0, lgc_lt, lgc_gt, lgc_le, lgc_ge, lgc_eq] at c_172
                try simp only [fl_lt, fl_le, fl_eq, fL_w, fL_lt, fL_le, tm1, tm10k, tm9, tm99, Int32.reduceToInt, Int64.reduceToInt, Int.not_lt, Int.not_le] at c_172
                refine gz_aload_n dX12_tells_175 rfl rfl ?_
                refine gz_iload_n dX12_tells_176 rfl rfl ?_
                refine gz_aload_n dX12_tells_177 rfl rfl ?_
                refine mg_38 hS_179 dX12_tells_178 ?_
                refine gz_iload_n dX12_tells_181 rfl rfl ?_
                refine m_iald 13 hS_179 rfl (N := 880) rfl ((by exact vin_T (rfl : (x1).toInt = (x1).toInt) (by omega) (by omega))) dX12_tells_182 ?_
                refine gz_ev (w := .int ((F 13) (Int32.toNatClampNeg x1))) (congrArg Value.int (congrFun ((hx179.2.2.1 13 (by decide)).trans ((hx178.2.2.1 13 (by decide)).trans ((hx173.2.2.1 13 (by decide)).trans ((hx172.2.2.1 13 (by decide)).trans (hx1.2.2.1 13 (by decide)))))) _)) ?_
                refine gz_aload_n dX12_tells_183 rfl rfl ?_
                refine mg_41 hS_179 dX12_tells_184 ?_
                refine gz_iload_n dX12_tells_187 rfl rfl ?_
                refine m_iald 14 hS_179 rfl (N := 880) rfl ((by exact vin_T (rfl : (x1).toInt = (x1).toInt) (by omega) (by omega))) dX12_tells_188 ?_
                refine gz_ev (w := .int ((F 14) (Int32.toNatClampNeg x1))) (congrArg Value.int (congrFun ((hx179.2.2.1 14 (by decide)).trans ((hx178.2.2.1 14 (by decide)).trans ((hx173.2.2.1 14 (by decide)).trans ((hx172.2.2.1 14 (by decide)).trans (hx1.2.2.1 14 (by decide)))))) _)) ?_
                have hxx189 : fx [88, 89] [] [87] [] n z F G n_179 z_179 F_179 G_179 := (fx_tr (fx_tr (fx_tr (fx_tr (fx_tr fx_rf hx1 (by decide)) hx172 (by decide)) hx173 (by decide)) hx178 (by decide)) hx179 (by decide))
                refine scX12_558 (k_X12_sums (x1 := x1) (x2 := ((F 13) (Int32.toNatClampNeg x1))) (x3 := ((F 14) (Int32.toNatClampNeg x1))) hS_179 (rAll_w (fun k hk => hxx189.2.2.1 k ((by decide : ∀ k : Nat, k ∈ wK → k ∉ ([87] : List Nat)) k hk)) bA) (by omega) (by omega) (by (try rw [(show n_179 88 = (n_179 88) from rfl)]); omega)) hS_179.1 ⟨(Nat.le_of_ble_eq_true rfl), (Nat.le_of_ble_eq_true rfl)⟩ ⟨(Nat.le_of_ble_eq_true rfl), (Nat.le_of_ble_eq_true rfl)⟩ rfl rfl (Nat.le_of_ble_eq_true rfl) dX12_tells_189 ?_
                rintro f_180 ⟨n_180, z_180, F_180, G_180, hS_180, hx180, h8a_180, h8b_180⟩
                refine gz_aload_n dX12_tells_192 rfl rfl ?_
                refine gz_bipush (v := 58) dX12_tells_193 (by decide) ?_
                refine scX12_547 (k_X12_signs (x1 := 58) hS_180 (by (try rw [(show n_180 88 = (n_180 88) from rfl)]); omega)) hS_180.1 ⟨(Nat.le_of_ble_eq_true rfl), (Nat.le_of_ble_eq_true rfl)⟩ ⟨(Nat.le_of_ble_eq_true rfl), (Nat.le_of_ble_eq_true rfl)⟩ rfl rfl (Nat.le_of_ble_eq_true rfl) dX12_tells_195 ?_
                rintro f_181 ⟨n_181, z_181, F_181, G_181, hS_181, hx181, h8_181⟩
                exact gz_vret rfl dX12_tells_198 (Nat.le_of_ble_eq_true rfl) (Nat.le_of_ble_eq_true rfl) (⟨rfl, _, _, _, _, hS_181, (fx_tr (fx_tr (fx_tr (fx_tr (fx_tr (fx_tr (fx_tr fx_rf hx1 (by decide)) hx172 (by decide)) hx173 (by decide)) hx178 (by decide)) hx179 (by decide)) hx180 (by decide)) hx181 (by decide)), (by (try rw [(show n_181 88 = (n_181 88) from rfl)]); omega), (by (try rw [(show n_181 88 = (n_181 88) from rfl)]); omega), (by (try rw [(show n_181 88 = (n_181 88) from rfl)]); omega)⟩)
            ·
              try simp only [mIn_0, lgc_lt, lgc_gt, lgc_le, lgc_ge, lgc_eq] at c_132
              try simp only [fl_lt, fl_le, fl_eq, fL_w, fL_lt, fL_le, tm1, tm10k, tm9, tm99, Int32.reduceToInt, Int64.reduceToInt, Int.not_lt, Int.not_le] at c_132
              refine gz_aload_n dX12_tells_135 rfl rfl ?_
              refine gz_bipush (v := 61) dX12_tells_136 (by decide) ?_
              refine scX12_547 (k_X12_signs (x1 := 61) hS_173 (by (try rw [(show n_173 88 = (n_173 88) from rfl)]); omega)) hS_173.1 ⟨(Nat.le_of_ble_eq_true rfl), (Nat.le_of_ble_eq_true rfl)⟩ ⟨(Nat.le_of_ble_eq_true rfl), (Nat.le_of_ble_eq_true rfl)⟩ rfl rfl (Nat.le_of_ble_eq_true rfl) dX12_tells_138 ?_
              rintro f_182 ⟨n_182, z_182, F_182, G_182, hS_182, hx182, h8_182⟩
              refine gz_aload_n dX12_tells_141 rfl rfl ?_
              refine gz_iload_n dX12_tells_142 rfl rfl ?_
              refine gz_aload_n dX12_tells_143 rfl rfl ?_
              refine mg_41 hS_182 dX12_tells_144 ?_
              refine gz_iload_n dX12_tells_147 rfl rfl ?_
              refine m_iald 14 hS_182 rfl (N := 880) rfl ((by exact vin_T (rfl : (x1).toInt = (x1).toInt) (by omega) (by omega))) dX12_tells_148 ?_
              refine gz_ev (w := .int ((F 14) (Int32.toNatClampNeg x1))) (congrArg Value.int (congrFun ((hx182.2.2.1 14 (by decide)).trans ((hx173.2.2.1 14 (by decide)).trans ((hx172.2.2.1 14 (by decide)).trans (hx1.2.2.1 14 (by decide))))) _)) ?_
              refine gz_aload_n dX12_tells_149 rfl rfl ?_
              refine mg_44 hS_182 dX12_tells_150 ?_
              refine gz_iload_n dX12_tells_153 rfl rfl ?_
              refine m_iald 15 hS_182 rfl (N := 880) rfl ((by exact vin_T (rfl : (x1).toInt = (x1).toInt) (by omega) (by omega))) dX12_tells_154 ?_
              refine gz_ev (w := .int ((F 15) (Int32.toNatClampNeg x1))) (congrArg Value.int (congrFun ((hx182.2.2.1 15 (by decide)).trans ((hx173.2.2.1 15 (by decide)).trans ((hx172.2.2.1 15 (by decide)).trans (hx1.2.2.1 15 (by decide))))) _)) ?_
              have hxx155 : fx [88, 89] [] [87] [] n z F G n_182 z_182 F_182 G_182 := (fx_tr (fx_tr (fx_tr (fx_tr fx_rf hx1 (by decide)) hx172 (by decide)) hx173 (by decide)) hx182 (by decide))
              refine scX12_558 (k_X12_sums (x1 := x1) (x2 := ((F 14) (Int32.toNatClampNeg x1))) (x3 := ((F 15) (Int32.toNatClampNeg x1))) hS_182 (rAll_w (fun k hk => hxx155.2.2.1 k ((by decide : ∀ k : Nat, k ∈ wK → k ∉ ([87] : List Nat)) k hk)) bA) (by omega) (by omega) (by (try rw [(show n_182 88 = (n_182 88) from rfl)]); omega)) hS_182.1 ⟨(Nat.le_of_ble_eq_true rfl), (Nat.le_of_ble_eq_true rfl)⟩ ⟨(Nat.le_of_ble_eq_true rfl), (Nat.le_of_ble_eq_true rfl)⟩ rfl rfl (Nat.le_of_ble_eq_true rfl) dX12_tells_155 ?_
              rintro f_183 ⟨n_183, z_183, F_183, G_183, hS_183, hx183, h8a_183, h8b_183⟩
              refine gz_aload_n dX12_tells_158 rfl rfl ?_
              refine gz_bipush (v := 58) dX12_tells_159 (by decide) ?_
              refine scX12_547 (k_X12_signs (x1 := 58) hS_183 (by (try rw [(show n_183 88 = (n_183 88) from rfl)]); omega)) hS_183.1 ⟨(Nat.le_of_ble_eq_true rfl), (Nat.le_of_ble_eq_true rfl)⟩ ⟨(Nat.le_of_ble_eq_true rfl), (Nat.le_of_ble_eq_true rfl)⟩ rfl rfl (Nat.le_of_ble_eq_true rfl) dX12_tells_161 ?_
              rintro f_184 ⟨n_184, z_184, F_184, G_184, hS_184, hx184, h8_184⟩
              refine gz_aload_n dX12_tells_164 rfl rfl ?_
              refine mg_20 hS_184 dX12_tells_165 ?_
              refine gz_iload_n dX12_tells_168 rfl rfl ?_
              refine m_iald 7 hS_184 rfl (N := 880) rfl ((by exact vin_T (rfl : (x1).toInt = (x1).toInt) (by omega) (by omega))) dX12_tells_169 ?_
              refine gz_ev (w := .int ((F 7) (Int32.toNatClampNeg x1))) (congrArg Value.int (congrFun ((hx184.2.2.1 7 (by decide)).trans ((hx183.2.2.1 7 (by decide)).trans ((hx182.2.2.1 7 (by decide)).trans ((hx173.2.2.1 7 (by decide)).trans ((hx172.2.2.1 7 (by decide)).trans (hx1.2.2.1 7 (by decide))))))) _)) ?_
              refine gz_bipush (v := 9) dX12_tells_170 (by decide) ?_
              refine gz_icmp_ne (tgt := 198) dX12_tells_172 (by decide) (fun c_172 => ?_) (fun c_172 => ?_)
              ·
                try simp only [mIn_0, lgc_lt, lgc_gt, lgc_le, lgc_ge, lgc_eq] at c_172
                try simp only [fl_lt, fl_le, fl_eq, fL_w, fL_lt, fL_le, tm1, tm10k, tm9, tm99, Int32.reduceToInt, Int64.reduceToInt, Int.not_lt, Int.not_le] at c_172
                exact gz_vret rfl dX12_tells_198 (Nat.le_of_ble_eq_true rfl) (Nat.le_of_ble_eq_true rfl) (⟨rfl, _, _, _, _, hS_184, (fx_tr (fx_tr (fx_tr (fx_tr (fx_tr (fx_tr fx_rf hx1 (by decide)) hx172 (by decide)) hx173 (by decide)) hx182 (by decide)) hx183 (by decide)) hx184 (by decide)), (by (try rw [(show n_184 88 = (n_184 88) from rfl)]); omega), (by (try rw [(show n_184 88 = (n_184 88) from rfl)]); omega), (by (try rw [(show n_184 88 = (n_184 88) from rfl)]); omega)⟩)
              ·
                try simp only [mIn_0, lgc_lt, lgc_gt, lgc_le, lgc_ge, lgc_eq] at c_172
                try simp only [fl_lt, fl_le, fl_eq, fL_w, fL_lt, fL_le, tm1, tm10k, tm9, tm99, Int32.reduceToInt, Int64.reduceToInt, Int.not_lt, Int.not_le] at c_172
                refine gz_aload_n dX12_tells_175 rfl rfl ?_
                refine gz_iload_n dX12_tells_176 rfl rfl ?_
                refine gz_aload_n dX12_tells_177 rfl rfl ?_
                refine mg_38 hS_184 dX12_tells_178 ?_
                refine gz_iload_n dX12_tells_181 rfl rfl ?_
                refine m_iald 13 hS_184 rfl (N := 880) rfl ((by exact vin_T (rfl : (x1).toInt = (x1).toInt) (by omega) (by omega))) dX12_tells_182 ?_
                refine gz_ev (w := .int ((F 13) (Int32.toNatClampNeg x1))) (congrArg Value.int (congrFun ((hx184.2.2.1 13 (by decide)).trans ((hx183.2.2.1 13 (by decide)).trans ((hx182.2.2.1 13 (by decide)).trans ((hx173.2.2.1 13 (by decide)).trans ((hx172.2.2.1 13 (by decide)).trans (hx1.2.2.1 13 (by decide))))))) _)) ?_
                refine gz_aload_n dX12_tells_183 rfl rfl ?_
                refine mg_41 hS_184 dX12_tells_184 ?_
                refine gz_iload_n dX12_tells_187 rfl rfl ?_
                refine m_iald 14 hS_184 rfl (N := 880) rfl ((by exact vin_T (rfl : (x1).toInt = (x1).toInt) (by omega) (by omega))) dX12_tells_188 ?_
                refine gz_ev (w := .int ((F 14) (Int32.toNatClampNeg x1))) (congrArg Value.int (congrFun ((hx184.2.2.1 14 (by decide)).trans ((hx183.2.2.1 14 (by decide)).trans ((hx182.2.2.1 14 (by decide)).trans ((hx173.2.2.1 14 (by decide)).trans ((hx172.2.2.1 14 (by decide)).trans (hx1.2.2.1 14 (by decide))))))) _)) ?_
                have hxx189 : fx [88, 89] [] [87] [] n z F G n_184 z_184 F_184 G_184 := (fx_tr (fx_tr (fx_tr (fx_tr (fx_tr (fx_tr fx_rf hx1 (by decide)) hx172 (by decide)) hx173 (by decide)) hx182 (by decide)) hx183 (by decide)) hx184 (by decide))
                refine scX12_558 (k_X12_sums (x1 := x1) (x2 := ((F 13) (Int32.toNatClampNeg x1))) (x3 := ((F 14) (Int32.toNatClampNeg x1))) hS_184 (rAll_w (fun k hk => hxx189.2.2.1 k ((by decide : ∀ k : Nat, k ∈ wK → k ∉ ([87] : List Nat)) k hk)) bA) (by omega) (by omega) (by (try rw [(show n_184 88 = (n_184 88) from rfl)]); omega)) hS_184.1 ⟨(Nat.le_of_ble_eq_true rfl), (Nat.le_of_ble_eq_true rfl)⟩ ⟨(Nat.le_of_ble_eq_true rfl), (Nat.le_of_ble_eq_true rfl)⟩ rfl rfl (Nat.le_of_ble_eq_true rfl) dX12_tells_189 ?_
                rintro f_185 ⟨n_185, z_185, F_185, G_185, hS_185, hx185, h8a_185, h8b_185⟩
                refine gz_aload_n dX12_tells_192 rfl rfl ?_
                refine gz_bipush (v := 58) dX12_tells_193 (by decide) ?_
                refine scX12_547 (k_X12_signs (x1 := 58) hS_185 (by (try rw [(show n_185 88 = (n_185 88) from rfl)]); omega)) hS_185.1 ⟨(Nat.le_of_ble_eq_true rfl), (Nat.le_of_ble_eq_true rfl)⟩ ⟨(Nat.le_of_ble_eq_true rfl), (Nat.le_of_ble_eq_true rfl)⟩ rfl rfl (Nat.le_of_ble_eq_true rfl) dX12_tells_195 ?_
                rintro f_186 ⟨n_186, z_186, F_186, G_186, hS_186, hx186, h8_186⟩
                exact gz_vret rfl dX12_tells_198 (Nat.le_of_ble_eq_true rfl) (Nat.le_of_ble_eq_true rfl) (⟨rfl, _, _, _, _, hS_186, (fx_tr (fx_tr (fx_tr (fx_tr (fx_tr (fx_tr (fx_tr (fx_tr fx_rf hx1 (by decide)) hx172 (by decide)) hx173 (by decide)) hx182 (by decide)) hx183 (by decide)) hx184 (by decide)) hx185 (by decide)) hx186 (by decide)), (by (try rw [(show n_186 88 = (n_186 88) from rfl)]); omega), (by (try rw [(show n_186 88 = (n_186 88) from rfl)]); omega), (by (try rw [(show n_186 88 = (n_186 88) from rfl)]); omega)⟩)
        ·
          try simp only [mIn_0, lgc_lt, lgc_gt, lgc_le, lgc_ge, lgc_eq] at c_107
          try simp only [fl_lt, fl_le, fl_eq, fL_w, fL_lt, fL_le, tm1, tm10k, tm9, tm99, Int32.reduceToInt, Int64.reduceToInt, Int.not_lt, Int.not_le] at c_107
          refine gz_aload_n dX12_tells_110 rfl rfl ?_
          refine gz_bipush (v := 62) dX12_tells_111 (by decide) ?_
          refine scX12_547 (k_X12_signs (x1 := 62) hS_173 (by (try rw [(show n_173 88 = (n_173 88) from rfl)]); omega)) hS_173.1 ⟨(Nat.le_of_ble_eq_true rfl), (Nat.le_of_ble_eq_true rfl)⟩ ⟨(Nat.le_of_ble_eq_true rfl), (Nat.le_of_ble_eq_true rfl)⟩ rfl rfl (Nat.le_of_ble_eq_true rfl) dX12_tells_113 ?_
          rintro f_187 ⟨n_187, z_187, F_187, G_187, hS_187, hx187, h8_187⟩
          refine gz_aload_n dX12_tells_116 rfl rfl ?_
          refine mg_47 hS_187 dX12_tells_117 ?_
          refine gz_iload_n dX12_tells_120 rfl rfl ?_
          refine m_iald 16 hS_187 rfl (N := 880) rfl ((by exact vin_T (rfl : (x1).toInt = (x1).toInt) (by omega) (by omega))) dX12_tells_121 ?_
          refine gz_ev (w := .int ((F 16) (Int32.toNatClampNeg x1))) (congrArg Value.int (congrFun ((hx187.2.2.1 16 (by decide)).trans ((hx173.2.2.1 16 (by decide)).trans ((hx172.2.2.1 16 (by decide)).trans (hx1.2.2.1 16 (by decide))))) _)) ?_
          refine gz_if_le (tgt := 141) dX12_tells_122 (by decide) (fun c_122 => ?_) (fun c_122 => ?_)
          ·
            try simp only [mIn_0, lgc_lt, lgc_gt, lgc_le, lgc_ge, lgc_eq] at c_122
            try simp only [fl_lt, fl_le, fl_eq, fL_w, fL_lt, fL_le, tm1, tm10k, tm9, tm99, Int32.reduceToInt, Int64.reduceToInt, Int.not_lt, Int.not_le] at c_122
            refine gz_aload_n dX12_tells_141 rfl rfl ?_
            refine gz_iload_n dX12_tells_142 rfl rfl ?_
            refine gz_aload_n dX12_tells_143 rfl rfl ?_
            refine mg_41 hS_187 dX12_tells_144 ?_
            refine gz_iload_n dX12_tells_147 rfl rfl ?_
            refine m_iald 14 hS_187 rfl (N := 880) rfl ((by exact vin_T (rfl : (x1).toInt = (x1).toInt) (by omega) (by omega))) dX12_tells_148 ?_
            refine gz_ev (w := .int ((F 14) (Int32.toNatClampNeg x1))) (congrArg Value.int (congrFun ((hx187.2.2.1 14 (by decide)).trans ((hx173.2.2.1 14 (by decide)).trans ((hx172.2.2.1 14 (by decide)).trans (hx1.2.2.1 14 (by decide))))) _)) ?_
            refine gz_aload_n dX12_tells_149 rfl rfl ?_
            refine mg_44 hS_187 dX12_tells_150 ?_
            refine gz_iload_n dX12_tells_153 rfl rfl ?_
            refine m_iald 15 hS_187 rfl (N := 880) rfl ((by exact vin_T (rfl : (x1).toInt = (x1).toInt) (by omega) (by omega))) dX12_tells_154 ?_
            refine gz_ev (w := .int ((F 15) (Int32.toNatClampNeg x1))) (congrArg Value.int (congrFun ((hx187.2.2.1 15 (by decide)).trans ((hx173.2.2.1 15 (by decide)).trans ((hx172.2.2.1 15 (by decide)).trans (hx1.2.2.1 15 (by decide))))) _)) ?_
            have hxx155 : fx [88, 89] [] [87] [] n z F G n_187 z_187 F_187 G_187 := (fx_tr (fx_tr (fx_tr (fx_tr fx_rf hx1 (by decide)) hx172 (by decide)) hx173 (by decide)) hx187 (by decide))
            refine scX12_558 (k_X12_sums (x1 := x1) (x2 := ((F 14) (Int32.toNatClampNeg x1))) (x3 := ((F 15) (Int32.toNatClampNeg x1))) hS_187 (rAll_w (fun k hk => hxx155.2.2.1 k ((by decide : ∀ k : Nat, k ∈ wK → k ∉ ([87] : List Nat)) k hk)) bA) (by omega) (by omega) (by (try rw [(show n_187 88 = (n_187 88) from rfl)]); omega)) hS_187.1 ⟨(Nat.le_of_ble_eq_true rfl), (Nat.le_of_ble_eq_true rfl)⟩ ⟨(Nat.le_of_ble_eq_true rfl), (Nat.le_of_ble_eq_true rfl)⟩ rfl rfl (Nat.le_of_ble_eq_true rfl) dX12_tells_155 ?_
            rintro f_188 ⟨n_188, z_188, F_188, G_188, hS_188, hx188, h8a_188, h8b_188⟩
            refine gz_aload_n dX12_tells_158 rfl rfl ?_
            refine gz_bipush (v := 58) dX12_tells_159 (by decide) ?_
            refine scX12_547 (k_X12_signs (x1 := 58) hS_188 (by (try rw [(show n_188 88 = (n_188 88) from rfl)]); omega)) hS_188.1 ⟨(Nat.le_of_ble_eq_true rfl), (Nat.le_of_ble_eq_true rfl)⟩ ⟨(Nat.le_of_ble_eq_true rfl), (Nat.le_of_ble_eq_true rfl)⟩ rfl rfl (Nat.le_of_ble_eq_true rfl) dX12_tells_161 ?_
            rintro f_189 ⟨n_189, z_189, F_189, G_189, hS_189, hx189, h8_189⟩
            refine gz_aload_n dX12_tells_164 rfl rfl ?_
            refine mg_20 hS_189 dX12_tells_165 ?_
            refine gz_iload_n dX12_tells_168 rfl rfl ?_
            refine m_iald 7 hS_189 rfl (N := 880) rfl ((by exact vin_T (rfl : (x1).toInt = (x1).toInt) (by omega) (by omega))) dX12_tells_169 ?_
            refine gz_ev (w := .int ((F 7) (Int32.toNatClampNeg x1))) (congrArg Value.int (congrFun ((hx189.2.2.1 7 (by decide)).trans ((hx188.2.2.1 7 (by decide)).trans ((hx187.2.2.1 7 (by decide)).trans ((hx173.2.2.1 7 (by decide)).trans ((hx172.2.2.1 7 (by decide)).trans (hx1.2.2.1 7 (by decide))))))) _)) ?_
            refine gz_bipush (v := 9) dX12_tells_170 (by decide) ?_
            refine gz_icmp_ne (tgt := 198) dX12_tells_172 (by decide) (fun c_172 => ?_) (fun c_172 => ?_)
            ·
              try simp only [mIn_0, lgc_lt, lgc_gt, lgc_le, lgc_ge, lgc_eq] at c_172
              try simp only [fl_lt, fl_le, fl_eq, fL_w, fL_lt, fL_le, tm1, tm10k, tm9, tm99, Int32.reduceToInt, Int64.reduceToInt, Int.not_lt, Int.not_le] at c_172
              exact gz_vret rfl dX12_tells_198 (Nat.le_of_ble_eq_true rfl) (Nat.le_of_ble_eq_true rfl) (⟨rfl, _, _, _, _, hS_189, (fx_tr (fx_tr (fx_tr (fx_tr (fx_tr (fx_tr fx_rf hx1 (by decide)) hx172 (by decide)) hx173 (by decide)) hx187 (by decide)) hx188 (by decide)) hx189 (by decide)), (by (try rw [(show n_189 88 = (n_189 88) from rfl)]); omega), (by (try rw [(show n_189 88 = (n_189 88) from rfl)]); omega), (by (try rw [(show n_189 88 = (n_189 88) from rfl)]); omega)⟩)
            ·
              try simp only [mIn_0, lgc_lt, lgc_gt, lgc_le, lgc_ge, lgc_eq] at c_172
              try simp only [fl_lt, fl_le, fl_eq, fL_w, fL_lt, fL_le, tm1, tm10k, tm9, tm99, Int32.reduceToInt, Int64.reduceToInt, Int.not_lt, Int.not_le] at c_172
              refine gz_aload_n dX12_tells_175 rfl rfl ?_
              refine gz_iload_n dX12_tells_176 rfl rfl ?_
              refine gz_aload_n dX12_tells_177 rfl rfl ?_
              refine mg_38 hS_189 dX12_tells_178 ?_
              refine gz_iload_n dX12_tells_181 rfl rfl ?_
              refine m_iald 13 hS_189 rfl (N := 880) rfl ((by exact vin_T (rfl : (x1).toInt = (x1).toInt) (by omega) (by omega))) dX12_tells_182 ?_
              refine gz_ev (w := .int ((F 13) (Int32.toNatClampNeg x1))) (congrArg Value.int (congrFun ((hx189.2.2.1 13 (by decide)).trans ((hx188.2.2.1 13 (by decide)).trans ((hx187.2.2.1 13 (by decide)).trans ((hx173.2.2.1 13 (by decide)).trans ((hx172.2.2.1 13 (by decide)).trans (hx1.2.2.1 13 (by decide))))))) _)) ?_
              refine gz_aload_n dX12_tells_183 rfl rfl ?_
              refine mg_41 hS_189 dX12_tells_184 ?_
              refine gz_iload_n dX12_tells_187 rfl rfl ?_
              refine m_iald 14 hS_189 rfl (N := 880) rfl ((by exact vin_T (rfl : (x1).toInt = (x1).toInt) (by omega) (by omega))) dX12_tells_188 ?_
              refine gz_ev (w := .int ((F 14) (Int32.toNatClampNeg x1))) (congrArg Value.int (congrFun ((hx189.2.2.1 14 (by decide)).trans ((hx188.2.2.1 14 (by decide)).trans ((hx187.2.2.1 14 (by decide)).trans ((hx173.2.2.1 14 (by decide)).trans ((hx172.2.2.1 14 (by decide)).trans (hx1.2.2.1 14 (by decide))))))) _)) ?_
              have hxx189 : fx [88, 89] [] [87] [] n z F G n_189 z_189 F_189 G_189 := (fx_tr (fx_tr (fx_tr (fx_tr (fx_tr (fx_tr fx_rf hx1 (by decide)) hx172 (by decide)) hx173 (by decide)) hx187 (by decide)) hx188 (by decide)) hx189 (by decide))
              refine scX12_558 (k_X12_sums (x1 := x1) (x2 := ((F 13) (Int32.toNatClampNeg x1))) (x3 := ((F 14) (Int32.toNatClampNeg x1))) hS_189 (rAll_w (fun k hk => hxx189.2.2.1 k ((by decide : ∀ k : Nat, k ∈ wK → k ∉ ([87] : List Nat)) k hk)) bA) (by omega) (by omega) (by (try rw [(show n_189 88 = (n_189 88) from rfl)]); omega)) hS_189.1 ⟨(Nat.le_of_ble_eq_true rfl), (Nat.le_of_ble_eq_true rfl)⟩ ⟨(Nat.le_of_ble_eq_true rfl), (Nat.le_of_ble_eq_true rfl)⟩ rfl rfl (Nat.le_of_ble_eq_true rfl) dX12_tells_189 ?_
              rintro f_190 ⟨n_190, z_190, F_190, G_190, hS_190, hx190, h8a_190, h8b_190⟩
              refine gz_aload_n dX12_tells_192 rfl rfl ?_
              refine gz_bipush (v := 58) dX12_tells_193 (by decide) ?_
              refine scX12_547 (k_X12_signs (x1 := 58) hS_190 (by (try rw [(show n_190 88 = (n_190 88) from rfl)]); omega)) hS_190.1 ⟨(Nat.le_of_ble_eq_true rfl), (Nat.le_of_ble_eq_true rfl)⟩ ⟨(Nat.le_of_ble_eq_true rfl), (Nat.le_of_ble_eq_true rfl)⟩ rfl rfl (Nat.le_of_ble_eq_true rfl) dX12_tells_195 ?_
              rintro f_191 ⟨n_191, z_191, F_191, G_191, hS_191, hx191, h8_191⟩
              exact gz_vret rfl dX12_tells_198 (Nat.le_of_ble_eq_true rfl) (Nat.le_of_ble_eq_true rfl) (⟨rfl, _, _, _, _, hS_191, (fx_tr (fx_tr (fx_tr (fx_tr (fx_tr (fx_tr (fx_tr (fx_tr fx_rf hx1 (by decide)) hx172 (by decide)) hx173 (by decide)) hx187 (by decide)) hx188 (by decide)) hx189 (by decide)) hx190 (by decide)) hx191 (by decide)), (by (try rw [(show n_191 88 = (n_191 88) from rfl)]); omega), (by (try rw [(show n_191 88 = (n_191 88) from rfl)]); omega), (by (try rw [(show n_191 88 = (n_191 88) from rfl)]); omega)⟩)
          ·
            try simp only [mIn_0, lgc_lt, lgc_gt, lgc_le, lgc_ge, lgc_eq] at c_122
            try simp only [fl_lt, fl_le, fl_eq, fL_w, fL_lt, fL_le, tm1, tm10k, tm9, tm99, Int32.reduceToInt, Int64.reduceToInt, Int.not_lt, Int.not_le] at c_122
            refine gz_aload_n dX12_tells_125 rfl rfl ?_
            refine mg_47 hS_187 dX12_tells_126 ?_
            refine gz_iload_n dX12_tells_129 rfl rfl ?_
            refine m_iald 16 hS_187 rfl (N := 880) rfl ((by exact vin_T (rfl : (x1).toInt = (x1).toInt) (by omega) (by omega))) dX12_tells_130 ?_
            refine gz_ev (w := .int ((F 16) (Int32.toNatClampNeg x1))) (congrArg Value.int (congrFun ((hx187.2.2.1 16 (by decide)).trans ((hx173.2.2.1 16 (by decide)).trans ((hx172.2.2.1 16 (by decide)).trans (hx1.2.2.1 16 (by decide))))) _)) ?_
            refine gz_iconst (v := 4) dX12_tells_131 (by decide) ?_
            refine gz_icmp_ge (tgt := 141) dX12_tells_132 (by decide) (fun c_132 => ?_) (fun c_132 => ?_)
            ·
              try simp only [mIn_0, lgc_lt, lgc_gt, lgc_le, lgc_ge, lgc_eq] at c_132
              try simp only [fl_lt, fl_le, fl_eq, fL_w, fL_lt, fL_le, tm1, tm10k, tm9, tm99, Int32.reduceToInt, Int64.reduceToInt, Int.not_lt, Int.not_le] at c_132
              refine gz_aload_n dX12_tells_141 rfl rfl ?_
              refine gz_iload_n dX12_tells_142 rfl rfl ?_
              refine gz_aload_n dX12_tells_143 rfl rfl ?_
              refine mg_41 hS_187 dX12_tells_144 ?_
              refine gz_iload_n dX12_tells_147 rfl rfl ?_
              refine m_iald 14 hS_187 rfl (N := 880) rfl ((by exact vin_T (rfl : (x1).toInt = (x1).toInt) (by omega) (by omega))) dX12_tells_148 ?_
              refine gz_ev (w := .int ((F 14) (Int32.toNatClampNeg x1))) (congrArg Value.int (congrFun ((hx187.2.2.1 14 (by decide)).trans ((hx173.2.2.1 14 (by decide)).trans ((hx172.2.2.1 14 (by decide)).trans (hx1.2.2.1 14 (by decide))))) _)) ?_
              refine gz_aload_n dX12_tells_149 rfl rfl ?_
              refine mg_44 hS_187 dX12_tells_150 ?_
              refine gz_iload_n dX12_tells_153 rfl rfl ?_
              refine m_iald 15 hS_187 rfl (N := 880) rfl ((by exact vin_T (rfl : (x1).toInt = (x1).toInt) (by omega) (by omega))) dX12_tells_154 ?_
              refine gz_ev (w := .int ((F 15) (Int32.toNatClampNeg x1))) (congrArg Value.int (congrFun ((hx187.2.2.1 15 (by decide)).trans ((hx173.2.2.1 15 (by decide)).trans ((hx172.2.2.1 15 (by decide)).trans (hx1.2.2.1 15 (by decide))))) _)) ?_
              have hxx155 : fx [88, 89] [] [87] [] n z F G n_187 z_187 F_187 G_187 := (fx_tr (fx_tr (fx_tr (fx_tr fx_rf hx1 (by decide)) hx172 (by decide)) hx173 (by decide)) hx187 (by decide))
              refine scX12_558 (k_X12_sums (x1 := x1) (x2 := ((F 14) (Int32.toNatClampNeg x1))) (x3 := ((F 15) (Int32.toNatClampNeg x1))) hS_187 (rAll_w (fun k hk => hxx155.2.2.1 k ((by decide : ∀ k : Nat, k ∈ wK → k ∉ ([87] : List Nat)) k hk)) bA) (by omega) (by omega) (by (try rw [(show n_187 88 = (n_187 88) from rfl)]); omega)) hS_187.1 ⟨(Nat.le_of_ble_eq_true rfl), (Nat.le_of_ble_eq_true rfl)⟩ ⟨(Nat.le_of_ble_eq_true rfl), (Nat.le_of_ble_eq_true rfl)⟩ rfl rfl (Nat.le_of_ble_eq_true rfl) dX12_tells_155 ?_
              rintro f_192 ⟨n_192, z_192, F_192, G_192, hS_192, hx192, h8a_192, h8b_192⟩
              refine gz_aload_n dX12_tells_158 rfl rfl ?_
              refine gz_bipush (v := 58) dX12_tells_159 (by decide) ?_
              refine scX12_547 (k_X12_signs (x1 := 58) hS_192 (by (try rw [(show n_192 88 = (n_192 88) from rfl)]); omega)) hS_192.1 ⟨(Nat.le_of_ble_eq_true rfl), (Nat.le_of_ble_eq_true rfl)⟩ ⟨(Nat.le_of_ble_eq_true rfl), (Nat.le_of_ble_eq_true rfl)⟩ rfl rfl (Nat.le_of_ble_eq_true rfl) dX12_tells_161 ?_
              rintro f_193 ⟨n_193, z_193, F_193, G_193, hS_193, hx193, h8_193⟩
              refine gz_aload_n dX12_tells_164 rfl rfl ?_
              refine mg_20 hS_193 dX12_tells_165 ?_
              refine gz_iload_n dX12_tells_168 rfl rfl ?_
              refine m_iald 7 hS_193 rfl (N := 880) rfl ((by exact vin_T (rfl : (x1).toInt = (x1).toInt) (by omega) (by omega))) dX12_tells_169 ?_
              refine gz_ev (w := .int ((F 7) (Int32.toNatClampNeg x1))) (congrArg Value.int (congrFun ((hx193.2.2.1 7 (by decide)).trans ((hx192.2.2.1 7 (by decide)).trans ((hx187.2.2.1 7 (by decide)).trans ((hx173.2.2.1 7 (by decide)).trans ((hx172.2.2.1 7 (by decide)).trans (hx1.2.2.1 7 (by decide))))))) _)) ?_
              refine gz_bipush (v := 9) dX12_tells_170 (by decide) ?_
              refine gz_icmp_ne (tgt := 198) dX12_tells_172 (by decide) (fun c_172 => ?_) (fun c_172 => ?_)
              ·
                try simp only [mIn_0, lgc_lt, lgc_gt, lgc_le, lgc_ge, lgc_eq] at c_172
                try simp only [fl_lt, fl_le, fl_eq, fL_w, fL_lt, fL_le, tm1, tm10k, tm9, tm99, Int32.reduceToInt, Int64.reduceToInt, Int.not_lt, Int.not_le] at c_172
                exact gz_vret rfl dX12_tells_198 (Nat.le_of_ble_eq_true rfl) (Nat.le_of_ble_eq_true rfl) (⟨rfl, _, _, _, _, hS_193, (fx_tr (fx_tr (fx_tr (fx_tr (fx_tr (fx_tr fx_rf hx1 (by decide)) hx172 (by decide)) hx173 (by decide)) hx187 (by decide)) hx192 (by decide)) hx193 (by decide)), (by (try rw [(show n_193 88 = (n_193 88) from rfl)]); omega), (by (try rw [(show n_193 88 = (n_193 88) from rfl)]); omega), (by (try rw [(show n_193 88 = (n_193 88) from rfl)]); omega)⟩)
              ·
                try simp only [mIn_0, lgc_lt, lgc_gt, lgc_le, lgc_ge, lgc_eq] at c_172
                try simp only [fl_lt, fl_le, fl_eq, fL_w, fL_lt, fL_le, tm1, tm10k, tm9, tm99, Int32.reduceToInt, Int64.reduceToInt, Int.not_lt, Int.not_le] at c_172
                refine gz_aload_n dX12_tells_175 rfl rfl ?_
                refine gz_iload_n dX12_tells_176 rfl rfl ?_
                refine gz_aload_n dX12_tells_177 rfl rfl ?_
                refine mg_38 hS_193 dX12_tells_178 ?_
                refine gz_iload_n dX12_tells_181 rfl rfl ?_
                refine m_iald 13 hS_193 rfl (N := 880) rfl ((by exact vin_T (rfl : (x1).toInt = (x1).toInt) (by omega) (by omega))) dX12_tells_182 ?_
                refine gz_ev (w := .int ((F 13) (Int32.toNatClampNeg x1))) (congrArg Value.int (congrFun ((hx193.2.2.1 13 (by decide)).trans ((hx192.2.2.1 13 (by decide)).trans ((hx187.2.2.1 13 (by decide)).trans ((hx173.2.2.1 13 (by decide)).trans ((hx172.2.2.1 13 (by decide)).trans (hx1.2.2.1 13 (by decide))))))) _)) ?_
                refine gz_aload_n dX12_tells_183 rfl rfl ?_
                refine mg_41 hS_193 dX12_tells_184 ?_
                refine gz_iload_n dX12_tells_187 rfl rfl ?_
                refine m_iald 14 hS_193 rfl (N := 880) rfl ((by exact vin_T (rfl : (x1).toInt = (x1).toInt) (by omega) (by omega))) dX12_tells_188 ?_
                refine gz_ev (w := .int ((F 14) (Int32.toNatClampNeg x1))) (congrArg Value.int (congrFun ((hx193.2.2.1 14 (by decide)).trans ((hx192.2.2.1 14 (by decide)).trans ((hx187.2.2.1 14 (by decide)).trans ((hx173.2.2.1 14 (by decide)).trans ((hx172.2.2.1 14 (by decide)).trans (hx1.2.2.1 14 (by decide))))))) _)) ?_
                have hxx189 : fx [88, 89] [] [87] [] n z F G n_193 z_193 F_193 G_193 := (fx_tr (fx_tr (fx_tr (fx_tr (fx_tr (fx_tr fx_rf hx1 (by decide)) hx172 (by decide)) hx173 (by decide)) hx187 (by decide)) hx192 (by decide)) hx193 (by decide))
                refine scX12_558 (k_X12_sums (x1 := x1) (x2 := ((F 13) (Int32.toNatClampNeg x1))) (x3 := ((F 14) (Int32.toNatClampNeg x1))) hS_193 (rAll_w (fun k hk => hxx189.2.2.1 k ((by decide : ∀ k : Nat, k ∈ wK → k ∉ ([87] : List Nat)) k hk)) bA) (by omega) (by omega) (by (try rw [(show n_193 88 = (n_193 88) from rfl)]); omega)) hS_193.1 ⟨(Nat.le_of_ble_eq_true rfl), (Nat.le_of_ble_eq_true rfl)⟩ ⟨(Nat.le_of_ble_eq_true rfl), (Nat.le_of_ble_eq_true rfl)⟩ rfl rfl (Nat.le_of_ble_eq_true rfl) dX12_tells_189 ?_
                rintro f_194 ⟨n_194, z_194, F_194, G_194, hS_194, hx194, h8a_194, h8b_194⟩
                refine gz_aload_n dX12_tells_192 rfl rfl ?_
                refine gz_bipush (v := 58) dX12_tells_193 (by decide) ?_
                refine scX12_547 (k_X12_signs (x1 := 58) hS_194 (by (try rw [(show n_194 88 = (n_194 88) from rfl)]); omega)) hS_194.1 ⟨(Nat.le_of_ble_eq_true rfl), (Nat.le_of_ble_eq_true rfl)⟩ ⟨(Nat.le_of_ble_eq_true rfl), (Nat.le_of_ble_eq_true rfl)⟩ rfl rfl (Nat.le_of_ble_eq_true rfl) dX12_tells_195 ?_
                rintro f_195 ⟨n_195, z_195, F_195, G_195, hS_195, hx195, h8_195⟩
                exact gz_vret rfl dX12_tells_198 (Nat.le_of_ble_eq_true rfl) (Nat.le_of_ble_eq_true rfl) (⟨rfl, _, _, _, _, hS_195, (fx_tr (fx_tr (fx_tr (fx_tr (fx_tr (fx_tr (fx_tr (fx_tr fx_rf hx1 (by decide)) hx172 (by decide)) hx173 (by decide)) hx187 (by decide)) hx192 (by decide)) hx193 (by decide)) hx194 (by decide)) hx195 (by decide)), (by (try rw [(show n_195 88 = (n_195 88) from rfl)]); omega), (by (try rw [(show n_195 88 = (n_195 88) from rfl)]); omega), (by (try rw [(show n_195 88 = (n_195 88) from rfl)]); omega)⟩)
            ·
              try simp only [mIn_0, lgc_lt, lgc_gt, lgc_le, lgc_ge, lgc_eq] at c_132
              try simp only [fl_lt, fl_le, fl_eq, fL_w, fL_lt, fL_le, tm1, tm10k, tm9, tm99, Int32.reduceToInt, Int64.reduceToInt, Int.not_lt, Int.not_le] at c_132
              refine gz_aload_n dX12_tells_135 rfl rfl ?_
              refine gz_bipush (v := 61) dX12_tells_136 (by decide) ?_
              refine scX12_547 (k_X12_signs (x1 := 61) hS_187 (by (try rw [(show n_187 88 = (n_187 88) from rfl)]); omega)) hS_187.1 ⟨(Nat.le_of_ble_eq_true rfl), (Nat.le_of_ble_eq_true rfl)⟩ ⟨(Nat.le_of_ble_eq_true rfl), (Nat.le_of_ble_eq_true rfl)⟩ rfl rfl (Nat.le_of_ble_eq_true rfl) dX12_tells_138 ?_
              rintro f_196 ⟨n_196, z_196, F_196, G_196, hS_196, hx196, h8_196⟩
              refine gz_aload_n dX12_tells_141 rfl rfl ?_
              refine gz_iload_n dX12_tells_142 rfl rfl ?_
              refine gz_aload_n dX12_tells_143 rfl rfl ?_
              refine mg_41 hS_196 dX12_tells_144 ?_
              refine gz_iload_n dX12_tells_147 rfl rfl ?_
              refine m_iald 14 hS_196 rfl (N := 880) rfl ((by exact vin_T (rfl : (x1).toInt = (x1).toInt) (by omega) (by omega))) dX12_tells_148 ?_
              refine gz_ev (w := .int ((F 14) (Int32.toNatClampNeg x1))) (congrArg Value.int (congrFun ((hx196.2.2.1 14 (by decide)).trans ((hx187.2.2.1 14 (by decide)).trans ((hx173.2.2.1 14 (by decide)).trans ((hx172.2.2.1 14 (by decide)).trans (hx1.2.2.1 14 (by decide)))))) _)) ?_
              refine gz_aload_n dX12_tells_149 rfl rfl ?_
              refine mg_44 hS_196 dX12_tells_150 ?_
              refine gz_iload_n dX12_tells_153 rfl rfl ?_
              refine m_iald 15 hS_196 rfl (N := 880) rfl ((by exact vin_T (rfl : (x1).toInt = (x1).toInt) (by omega) (by omega))) dX12_tells_154 ?_
              refine gz_ev (w := .int ((F 15) (Int32.toNatClampNeg x1))) (congrArg Value.int (congrFun ((hx196.2.2.1 15 (by decide)).trans ((hx187.2.2.1 15 (by decide)).trans ((hx173.2.2.1 15 (by decide)).trans ((hx172.2.2.1 15 (by decide)).trans (hx1.2.2.1 15 (by decide)))))) _)) ?_
              have hxx155 : fx [88, 89] [] [87] [] n z F G n_196 z_196 F_196 G_196 := (fx_tr (fx_tr (fx_tr (fx_tr (fx_tr fx_rf hx1 (by decide)) hx172 (by decide)) hx173 (by decide)) hx187 (by decide)) hx196 (by decide))
              refine scX12_558 (k_X12_sums (x1 := x1) (x2 := ((F 14) (Int32.toNatClampNeg x1))) (x3 := ((F 15) (Int32.toNatClampNeg x1))) hS_196 (rAll_w (fun k hk => hxx155.2.2.1 k ((by decide : ∀ k : Nat, k ∈ wK → k ∉ ([87] : List Nat)) k hk)) bA) (by omega) (by omega) (by (try rw [(show n_196 88 = (n_196 88) from rfl)]); omega)) hS_196.1 ⟨(Nat.le_of_ble_eq_true rfl), (Nat.le_of_ble_eq_true rfl)⟩ ⟨(Nat.le_of_ble_eq_true rfl), (Nat.le_of_ble_eq_true rfl)⟩ rfl rfl (Nat.le_of_ble_eq_true rfl) dX12_tells_155 ?_
              rintro f_197 ⟨n_197, z_197, F_197, G_197, hS_197, hx197, h8a_197, h8b_197⟩
              refine gz_aload_n dX12_tells_158 rfl rfl ?_
              refine gz_bipush (v := 58) dX12_tells_159 (by decide) ?_
              refine scX12_547 (k_X12_signs (x1 := 58) hS_197 (by (try rw [(show n_197 88 = (n_197 88) from rfl)]); omega)) hS_197.1 ⟨(Nat.le_of_ble_eq_true rfl), (Nat.le_of_ble_eq_true rfl)⟩ ⟨(Nat.le_of_ble_eq_true rfl), (Nat.le_of_ble_eq_true rfl)⟩ rfl rfl (Nat.le_of_ble_eq_true rfl) dX12_tells_161 ?_
              rintro f_198 ⟨n_198, z_198, F_198, G_198, hS_198, hx198, h8_198⟩
              refine gz_aload_n dX12_tells_164 rfl rfl ?_
              refine mg_20 hS_198 dX12_tells_165 ?_
              refine gz_iload_n dX12_tells_168 rfl rfl ?_
              refine m_iald 7 hS_198 rfl (N := 880) rfl ((by exact vin_T (rfl : (x1).toInt = (x1).toInt) (by omega) (by omega))) dX12_tells_169 ?_
              refine gz_ev (w := .int ((F 7) (Int32.toNatClampNeg x1))) (congrArg Value.int (congrFun ((hx198.2.2.1 7 (by decide)).trans ((hx197.2.2.1 7 (by decide)).trans ((hx196.2.2.1 7 (by decide)).trans ((hx187.2.2.1 7 (by decide)).trans ((hx173.2.2.1 7 (by decide)).trans ((hx172.2.2.1 7 (by decide)).trans (hx1.2.2.1 7 (by decide)))))))) _)) ?_
              refine gz_bipush (v := 9) dX12_tells_170 (by decide) ?_
              refine gz_icmp_ne (tgt := 198) dX12_tells_172 (by decide) (fun c_172 => ?_) (fun c_172 => ?_)
              ·
                try simp only [mIn_0, lgc_lt, lgc_gt, lgc_le, lgc_ge, lgc_eq] at c_172
                try simp only [fl_lt, fl_le, fl_eq, fL_w, fL_lt, fL_le, tm1, tm10k, tm9, tm99, Int32.reduceToInt, Int64.reduceToInt, Int.not_lt, Int.not_le] at c_172
                exact gz_vret rfl dX12_tells_198 (Nat.le_of_ble_eq_true rfl) (Nat.le_of_ble_eq_true rfl) (⟨rfl, _, _, _, _, hS_198, (fx_tr (fx_tr (fx_tr (fx_tr (fx_tr (fx_tr (fx_tr fx_rf hx1 (by decide)) hx172 (by decide)) hx173 (by decide)) hx187 (by decide)) hx196 (by decide)) hx197 (by decide)) hx198 (by decide)), (by (try rw [(show n_198 88 = (n_198 88) from rfl)]); omega), (by (try rw [(show n_198 88 = (n_198 88) from rfl)]); omega), (by (try rw [(show n_198 88 = (n_198 88) from rfl)]); omega)⟩)
              ·
                try simp only [mIn_0, lgc_lt, lgc_gt, lgc_le, lgc_ge, lgc_eq] at c_172
                try simp only [fl_lt, fl_le, fl_eq, fL_w, fL_lt, fL_le, tm1, tm10k, tm9, tm99, Int32.reduceToInt, Int64.reduceToInt, Int.not_lt, Int.not_le] at c_172
                refine gz_aload_n dX12_tells_175 rfl rfl ?_
                refine gz_iload_n dX12_tells_176 rfl rfl ?_
                refine gz_aload_n dX12_tells_177 rfl rfl ?_
                refine mg_38 hS_198 dX12_tells_178 ?_
                refine gz_iload_n dX12_tells_181 rfl rfl ?_
                refine m_iald 13 hS_198 rfl (N := 880) rfl ((by exact vin_T (rfl : (x1).toInt = (x1).toInt) (by omega) (by omega))) dX12_tells_182 ?_
                refine gz_ev (w := .int ((F 13) (Int32.toNatClampNeg x1))) (congrArg Value.int (congrFun ((hx198.2.2.1 13 (by decide)).trans ((hx197.2.2.1 13 (by decide)).trans ((hx196.2.2.1 13 (by decide)).trans ((hx187.2.2.1 13 (by decide)).trans ((hx173.2.2.1 13 (by decide)).trans ((hx172.2.2.1 13 (by decide)).trans (hx1.2.2.1 13 (by decide)))))))) _)) ?_
                refine gz_aload_n dX12_tells_183 rfl rfl ?_
                refine mg_41 hS_198 dX12_tells_184 ?_
                refine gz_iload_n dX12_tells_187 rfl rfl ?_
                refine m_iald 14 hS_198 rfl (N := 880) rfl ((by exact vin_T (rfl : (x1).toInt = (x1).toInt) (by omega) (by omega))) dX12_tells_188 ?_
                refine gz_ev (w := .int ((F 14) (Int32.toNatClampNeg x1))) (congrArg Value.int (congrFun ((hx198.2.2.1 14 (by decide)).trans ((hx197.2.2.1 14 (by decide)).trans ((hx196.2.2.1 14 (by decide)).trans ((hx187.2.2.1 14 (by decide)).trans ((hx173.2.2.1 14 (by decide)).trans ((hx172.2.2.1 14 (by decide)).trans (hx1.2.2.1 14 (by decide)))))))) _)) ?_
                have hxx189 : fx [88, 89] [] [87] [] n z F G n_198 z_198 F_198 G_198 := (fx_tr (fx_tr (fx_tr (fx_tr (fx_tr (fx_tr (fx_tr fx_rf hx1 (by decide)) hx172 (by decide)) hx173 (by decide)) hx187 (by decide)) hx196 (by decide)) hx197 (by decide)) hx198 (by decide))
                refine scX12_558 (k_X12_sums (x1 := x1) (x2 := ((F 13) (Int32.toNatClampNeg x1))) (x3 := ((F 14) (Int32.toNatClampNeg x1))) hS_198 (rAll_w (fun k hk => hxx189.2.2.1 k ((by decide : ∀ k : Nat, k ∈ wK → k ∉ ([87] : List Nat)) k hk)) bA) (by omega) (by omega) (by (try rw [(show n_198 88 = (n_198 88) from rfl)]); omega)) hS_198.1 ⟨(Nat.le_of_ble_eq_true rfl), (Nat.le_of_ble_eq_true rfl)⟩ ⟨(Nat.le_of_ble_eq_true rfl), (Nat.le_of_ble_eq_true rfl)⟩ rfl rfl (Nat.le_of_ble_eq_true rfl) dX12_tells_189 ?_
                rintro f_199 ⟨n_199, z_199, F_199, G_199, hS_199, hx199, h8a_199, h8b_199⟩
                refine gz_aload_n dX12_tells_192 rfl rfl ?_
                refine gz_bipush (v := 58) dX12_tells_193 (by decide) ?_
                refine scX12_547 (k_X12_signs (x1 := 58) hS_199 (by (try rw [(show n_199 88 = (n_199 88) from rfl)]); omega)) hS_199.1 ⟨(Nat.le_of_ble_eq_true rfl), (Nat.le_of_ble_eq_true rfl)⟩ ⟨(Nat.le_of_ble_eq_true rfl), (Nat.le_of_ble_eq_true rfl)⟩ rfl rfl (Nat.le_of_ble_eq_true rfl) dX12_tells_195 ?_
                rintro f_200 ⟨n_200, z_200, F_200, G_200, hS_200, hx200, h8_200⟩
                exact gz_vret rfl dX12_tells_198 (Nat.le_of_ble_eq_true rfl) (Nat.le_of_ble_eq_true rfl) (⟨rfl, _, _, _, _, hS_200, (fx_tr (fx_tr (fx_tr (fx_tr (fx_tr (fx_tr (fx_tr (fx_tr (fx_tr fx_rf hx1 (by decide)) hx172 (by decide)) hx173 (by decide)) hx187 (by decide)) hx196 (by decide)) hx197 (by decide)) hx198 (by decide)) hx199 (by decide)) hx200 (by decide)), (by (try rw [(show n_200 88 = (n_200 88) from rfl)]); omega), (by (try rw [(show n_200 88 = (n_200 88) from rfl)]); omega), (by (try rw [(show n_200 88 = (n_200 88) from rfl)]); omega)⟩)
      ·
        try simp only [mIn_0, lgc_lt, lgc_gt, lgc_le, lgc_ge, lgc_eq] at c_91
        try simp only [fl_lt, fl_le, fl_eq, fL_w, fL_lt, fL_le, tm1, tm10k, tm9, tm99, Int32.reduceToInt, Int64.reduceToInt, Int.not_lt, Int.not_le] at c_91
        refine gz_aload_n dX12_tells_94 rfl rfl ?_
        refine gz_bipush (v := 60) dX12_tells_95 (by decide) ?_
        refine scX12_547 (k_X12_signs (x1 := 60) hS_173 (by (try rw [(show n_173 88 = (n_173 88) from rfl)]); omega)) hS_173.1 ⟨(Nat.le_of_ble_eq_true rfl), (Nat.le_of_ble_eq_true rfl)⟩ ⟨(Nat.le_of_ble_eq_true rfl), (Nat.le_of_ble_eq_true rfl)⟩ rfl rfl (Nat.le_of_ble_eq_true rfl) dX12_tells_97 ?_
        rintro f_201 ⟨n_201, z_201, F_201, G_201, hS_201, hx201, h8_201⟩
        refine gz_aload_n dX12_tells_100 rfl rfl ?_
        refine mg_47 hS_201 dX12_tells_101 ?_
        refine gz_iload_n dX12_tells_104 rfl rfl ?_
        refine m_iald 16 hS_201 rfl (N := 880) rfl ((by exact vin_T (rfl : (x1).toInt = (x1).toInt) (by omega) (by omega))) dX12_tells_105 ?_
        refine gz_ev (w := .int ((F 16) (Int32.toNatClampNeg x1))) (congrArg Value.int (congrFun ((hx201.2.2.1 16 (by decide)).trans ((hx173.2.2.1 16 (by decide)).trans ((hx172.2.2.1 16 (by decide)).trans (hx1.2.2.1 16 (by decide))))) _)) ?_
        refine gz_iconst (v := 2) dX12_tells_106 (by decide) ?_
        refine gz_icmp_le (tgt := 116) dX12_tells_107 (by decide) (fun c_107 => ?_) (fun c_107 => ?_)
        ·
          try simp only [mIn_0, lgc_lt, lgc_gt, lgc_le, lgc_ge, lgc_eq] at c_107
          try simp only [fl_lt, fl_le, fl_eq, fL_w, fL_lt, fL_le, tm1, tm10k, tm9, tm99, Int32.reduceToInt, Int64.reduceToInt, Int.not_lt, Int.not_le] at c_107
          refine gz_aload_n dX12_tells_116 rfl rfl ?_
          refine mg_47 hS_201 dX12_tells_117 ?_
          refine gz_iload_n dX12_tells_120 rfl rfl ?_
          refine m_iald 16 hS_201 rfl (N := 880) rfl ((by exact vin_T (rfl : (x1).toInt = (x1).toInt) (by omega) (by omega))) dX12_tells_121 ?_
          refine gz_ev (w := .int ((F 16) (Int32.toNatClampNeg x1))) (congrArg Value.int (congrFun ((hx201.2.2.1 16 (by decide)).trans ((hx173.2.2.1 16 (by decide)).trans ((hx172.2.2.1 16 (by decide)).trans (hx1.2.2.1 16 (by decide))))) _)) ?_
          refine gz_if_le (tgt := 141) dX12_tells_122 (by decide) (fun c_122 => ?_) (fun c_122 => ?_)
          ·
            try simp only [mIn_0, lgc_lt, lgc_gt, lgc_le, lgc_ge, lgc_eq] at c_122
            try simp only [fl_lt, fl_le, fl_eq, fL_w, fL_lt, fL_le, tm1, tm10k, tm9, tm99, Int32.reduceToInt, Int64.reduceToInt, Int.not_lt, Int.not_le] at c_122
            refine gz_aload_n dX12_tells_141 rfl rfl ?_
            refine gz_iload_n dX12_tells_142 rfl rfl ?_
            refine gz_aload_n dX12_tells_143 rfl rfl ?_
            refine mg_41 hS_201 dX12_tells_144 ?_
            refine gz_iload_n dX12_tells_147 rfl rfl ?_
            refine m_iald 14 hS_201 rfl (N := 880) rfl ((by exact vin_T (rfl : (x1).toInt = (x1).toInt) (by omega) (by omega))) dX12_tells_148 ?_
            refine gz_ev (w := .int ((F 14) (Int32.toNatClampNeg x1))) (congrArg Value.int (congrFun ((hx201.2.2.1 14 (by decide)).trans ((hx173.2.2.1 14 (by decide)).trans ((hx172.2.2.1 14 (by decide)).trans (hx1.2.2.1 14 (by decide))))) _)) ?_
            refine gz_aload_n dX12_tells_149 rfl rfl ?_
            refine mg_44 hS_201 dX12_tells_150 ?_
            refine gz_iload_n dX12_tells_153 rfl rfl ?_
            refine m_iald 15 hS_201 rfl (N := 880) rfl ((by exact vin_T (rfl : (x1).toInt = (x1).toInt) (by omega) (by omega))) dX12_tells_154 ?_
            refine gz_ev (w := .int ((F 15) (Int32.toNatClampNeg x1))) (congrArg Value.int (congrFun ((hx201.2.2.1 15 (by decide)).trans ((hx173.2.2.1 15 (by decide)).trans ((hx172.2.2.1 15 (by decide)).trans (hx1.2.2.1 15 (by decide))))) _)) ?_
            have hxx155 : fx [88, 89] [] [87] [] n z F G n_201 z_201 F_201 G_201 := (fx_tr (fx_tr (fx_tr (fx_tr fx_rf hx1 (by decide)) hx172 (by decide)) hx173 (by decide)) hx201 (by decide))
            refine scX12_558 (k_X12_sums (x1 := x1) (x2 := ((F 14) (Int32.toNatClampNeg x1))) (x3 := ((F 15) (Int32.toNatClampNeg x1))) hS_201 (rAll_w (fun k hk => hxx155.2.2.1 k ((by decide : ∀ k : Nat, k ∈ wK → k ∉ ([87] : List Nat)) k hk)) bA) (by omega) (by omega) (by (try rw [(show n_201 88 = (n_201 88) from rfl)]); omega)) hS_201.1 ⟨(Nat.le_of_ble_eq_true rfl), (Nat.le_of_ble_eq_true rfl)⟩ ⟨(Nat.le_of_ble_eq_true rfl), (Nat.le_of_ble_eq_true rfl)⟩ rfl rfl (Nat.le_of_ble_eq_true rfl) dX12_tells_155 ?_
            rintro f_202 ⟨n_202, z_202, F_202, G_202, hS_202, hx202, h8a_202, h8b_202⟩
            refine gz_aload_n dX12_tells_158 rfl rfl ?_
            refine gz_bipush (v := 58) dX12_tells_159 (by decide) ?_
            refine scX12_547 (k_X12_signs (x1 := 58) hS_202 (by (try rw [(show n_202 88 = (n_202 88) from rfl)]); omega)) hS_202.1 ⟨(Nat.le_of_ble_eq_true rfl), (Nat.le_of_ble_eq_true rfl)⟩ ⟨(Nat.le_of_ble_eq_true rfl), (Nat.le_of_ble_eq_true rfl)⟩ rfl rfl (Nat.le_of_ble_eq_true rfl) dX12_tells_161 ?_
            rintro f_203 ⟨n_203, z_203, F_203, G_203, hS_203, hx203, h8_203⟩
            refine gz_aload_n dX12_tells_164 rfl rfl ?_
            refine mg_20 hS_203 dX12_tells_165 ?_
            refine gz_iload_n dX12_tells_168 rfl rfl ?_
            refine m_iald 7 hS_203 rfl (N := 880) rfl ((by exact vin_T (rfl : (x1).toInt = (x1).toInt) (by omega) (by omega))) dX12_tells_169 ?_
            refine gz_ev (w := .int ((F 7) (Int32.toNatClampNeg x1))) (congrArg Value.int (congrFun ((hx203.2.2.1 7 (by decide)).trans ((hx202.2.2.1 7 (by decide)).trans ((hx201.2.2.1 7 (by decide)).trans ((hx173.2.2.1 7 (by decide)).trans ((hx172.2.2.1 7 (by decide)).trans (hx1.2.2.1 7 (by decide))))))) _)) ?_
            refine gz_bipush (v := 9) dX12_tells_170 (by decide) ?_
            refine gz_icmp_ne (tgt := 198) dX12_tells_172 (by decide) (fun c_172 => ?_) (fun c_172 => ?_)
            ·
              try simp only [mIn_0, lgc_lt, lgc_gt, lgc_le, lgc_ge, lgc_eq] at c_172
              try simp only [fl_lt, fl_le, fl_eq, fL_w, fL_lt, fL_le, tm1, tm10k, tm9, tm99, Int32.reduceToInt, Int64.reduceToInt, Int.not_lt, Int.not_le] at c_172
              exact gz_vret rfl dX12_tells_198 (Nat.le_of_ble_eq_true rfl) (Nat.le_of_ble_eq_true rfl) (⟨rfl, _, _, _, _, hS_203, (fx_tr (fx_tr (fx_tr (fx_tr (fx_tr (fx_tr fx_rf hx1 (by decide)) hx172 (by decide)) hx173 (by decide)) hx201 (by decide)) hx202 (by decide)) hx203 (by decide)), (by (try rw [(show n_203 88 = (n_203 88) from rfl)]); omega), (by (try rw [(show n_203 88 = (n_203 88) from rfl)]); omega), (by (try rw [(show n_203 88 = (n_203 88) from rfl)]); omega)⟩)
            ·
              try simp only [mIn_0, lgc_lt, lgc_gt, lgc_le, lgc_ge, lgc_eq] at c_172
              try simp only [fl_lt, fl_le, fl_eq, fL_w, fL_lt, fL_le, tm1, tm10k, tm9, tm99, Int32.reduceToInt, Int64.reduceToInt, Int.not_lt, Int.not_le] at c_172
              refine gz_aload_n dX12_tells_175 rfl rfl ?_
              refine gz_iload_n dX12_tells_176 rfl rfl ?_
              refine gz_aload_n dX12_tells_177 rfl rfl ?_
              refine mg_38 hS_203 dX12_tells_178 ?_
              refine gz_iload_n dX12_tells_181 rfl rfl ?_
              refine m_iald 13 hS_203 rfl (N := 880) rfl ((by exact vin_T (rfl : (x1).toInt = (x1).toInt) (by omega) (by omega))) dX12_tells_182 ?_
              refine gz_ev (w := .int ((F 13) (Int32.toNatClampNeg x1))) (congrArg Value.int (congrFun ((hx203.2.2.1 13 (by decide)).trans ((hx202.2.2.1 13 (by decide)).trans ((hx201.2.2.1 13 (by decide)).trans ((hx173.2.2.1 13 (by decide)).trans ((hx172.2.2.1 13 (by decide)).trans (hx1.2.2.1 13 (by decide))))))) _)) ?_
              refine gz_aload_n dX12_tells_183 rfl rfl ?_
              refine mg_41 hS_203 dX12_tells_184 ?_
              refine gz_iload_n dX12_tells_187 rfl rfl ?_
              refine m_iald 14 hS_203 rfl (N := 880) rfl ((by exact vin_T (rfl : (x1).toInt = (x1).toInt) (by omega) (by omega))) dX12_tells_188 ?_
              refine gz_ev (w := .int ((F 14) (Int32.toNatClampNeg x1))) (congrArg Value.int (congrFun ((hx203.2.2.1 14 (by decide)).trans ((hx202.2.2.1 14 (by decide)).trans ((hx201.2.2.1 14 (by decide)).trans ((hx173.2.2.1 14 (by decide)).trans ((hx172.2.2.1 14 (by decide)).trans (hx1.2.2.1 14 (by decide))))))) _)) ?_
              have hxx189 : fx [88, 89] [] [87] [] n z F G n_203 z_203 F_203 G_203 := (fx_tr (fx_tr (fx_tr (fx_tr (fx_tr (fx_tr fx_rf hx1 (by decide)) hx172 (by decide)) hx173 (by decide)) hx201 (by decide)) hx202 (by decide)) hx203 (by decide))
              refine scX12_558 (k_X12_sums (x1 := x1) (x2 := ((F 13) (Int32.toNatClampNeg x1))) (x3 := ((F 14) (Int32.toNatClampNeg x1))) hS_203 (rAll_w (fun k hk => hxx189.2.2.1 k ((by decide : ∀ k : Nat, k ∈ wK → k ∉ ([87] : List Nat)) k hk)) bA) (by omega) (by omega) (by (try rw [(show n_203 88 = (n_203 88) from rfl)]); omega)) hS_203.1 ⟨(Nat.le_of_ble_eq_true rfl), (Nat.le_of_ble_eq_true rfl)⟩ ⟨(Nat.le_of_ble_eq_true rfl), (Nat.le_of_ble_eq_true rfl)⟩ rfl rfl (Nat.le_of_ble_eq_true rfl) dX12_tells_189 ?_
              rintro f_204 ⟨n_204, z_204, F_204, G_204, hS_204, hx204, h8a_204, h8b_204⟩
              refine gz_aload_n dX12_tells_192 rfl rfl ?_
              refine gz_bipush (v := 58) dX12_tells_193 (by decide) ?_
              refine scX12_547 (k_X12_signs (x1 := 58) hS_204 (by (try rw [(show n_204 88 = (n_204 88) from rfl)]); omega)) hS_204.1 ⟨(Nat.le_of_ble_eq_true rfl), (Nat.le_of_ble_eq_true rfl)⟩ ⟨(Nat.le_of_ble_eq_true rfl), (Nat.le_of_ble_eq_true rfl)⟩ rfl rfl (Nat.le_of_ble_eq_true rfl) dX12_tells_195 ?_
              rintro f_205 ⟨n_205, z_205, F_205, G_205, hS_205, hx205, h8_205⟩
              exact gz_vret rfl dX12_tells_198 (Nat.le_of_ble_eq_true rfl) (Nat.le_of_ble_eq_true rfl) (⟨rfl, _, _, _, _, hS_205, (fx_tr (fx_tr (fx_tr (fx_tr (fx_tr (fx_tr (fx_tr (fx_tr fx_rf hx1 (by decide)) hx172 (by decide)) hx173 (by decide)) hx201 (by decide)) hx202 (by decide)) hx203 (by decide)) hx204 (by decide)) hx205 (by decide)), (by (try rw [(show n_205 88 = (n_205 88) from rfl)]); omega), (by (try rw [(show n_205 88 = (n_205 88) from rfl)]); omega), (by (try rw [(show n_205 88 = (n_205 88) from rfl)]); omega)⟩)
          ·
            try simp only [mIn_0, lgc_lt, lgc_gt, lgc_le, lgc_ge, lgc_eq] at c_122
            try simp only [fl_lt, fl_le, fl_eq, fL_w, fL_lt, fL_le, tm1, tm10k, tm9, tm99, Int32.reduceToInt, Int64.reduceToInt, Int.not_lt, Int.not_le] at c_122
            refine gz_aload_n dX12_tells_125 rfl rfl ?_
            refine mg_47 hS_201 dX12_tells_126 ?_
            refine gz_iload_n dX12_tells_129 rfl rfl ?_
            refine m_iald 16 hS_201 rfl (N := 880) rfl ((by exact vin_T (rfl : (x1).toInt = (x1).toInt) (by omega) (by omega))) dX12_tells_130 ?_
            refine gz_ev (w := .int ((F 16) (Int32.toNatClampNeg x1))) (congrArg Value.int (congrFun ((hx201.2.2.1 16 (by decide)).trans ((hx173.2.2.1 16 (by decide)).trans ((hx172.2.2.1 16 (by decide)).trans (hx1.2.2.1 16 (by decide))))) _)) ?_
            refine gz_iconst (v := 4) dX12_tells_131 (by decide) ?_
            refine gz_icmp_ge (tgt := 141) dX12_tells_132 (by decide) (fun c_132 => ?_) (fun c_132 => ?_)
            ·
              try simp only [mIn_0, lgc_lt, lgc_gt, lgc_le, lgc_ge, lgc_eq] at c_132
              try simp only [fl_lt, fl_le, fl_eq, fL_w, fL_lt, fL_le, tm1, tm10k, tm9, tm99, Int32.reduceToInt, Int64.reduceToInt, Int.not_lt, Int.not_le] at c_132
              refine gz_aload_n dX12_tells_141 rfl rfl ?_
              refine gz_iload_n dX12_tells_142 rfl rfl ?_
              refine gz_aload_n dX12_tells_143 rfl rfl ?_
              refine mg_41 hS_201 dX12_tells_144 ?_
              refine gz_iload_n dX12_tells_147 rfl rfl ?_
              refine m_iald 14 hS_201 rfl (N := 880) rfl ((by exact vin_T (rfl : (x1).toInt = (x1).toInt) (by omega) (by omega))) dX12_tells_148 ?_
              refine gz_ev (w := .int ((F 14) (Int32.toNatClampNeg x1))) (congrArg Value.int (congrFun ((hx201.2.2.1 14 (by decide)).trans ((hx173.2.2.1 14 (by decide)).trans ((hx172.2.2.1 14 (by decide)).trans (hx1.2.2.1 14 (by decide))))) _)) ?_
              refine gz_aload_n dX12_tells_149 rfl rfl ?_
              refine mg_44 hS_201 dX12_tells_150 ?_
              refine gz_iload_n dX12_tells_153 rfl rfl ?_
              refine m_iald 15 hS_201 rfl (N := 880) rfl ((by exact vin_T (rfl : (x1).toInt = (x1).toInt) (by omega) (by omega))) dX12_tells_154 ?_
              refine gz_ev (w := .int ((F 15) (Int32.toNatClampNeg x1))) (congrArg Value.int (congrFun ((hx201.2.2.1 15 (by decide)).trans ((hx173.2.2.1 15 (by decide)).trans ((hx172.2.2.1 15 (by decide)).trans (hx1.2.2.1 15 (by decide))))) _)) ?_
              have hxx155 : fx [88, 89] [] [87] [] n z F G n_201 z_201 F_201 G_201 := (fx_tr (fx_tr (fx_tr (fx_tr fx_rf hx1 (by decide)) hx172 (by decide)) hx173 (by decide)) hx201 (by decide))
              refine scX12_558 (k_X12_sums (x1 := x1) (x2 := ((F 14) (Int32.toNatClampNeg x1))) (x3 := ((F 15) (Int32.toNatClampNeg x1))) hS_201 (rAll_w (fun k hk => hxx155.2.2.1 k ((by decide : ∀ k : Nat, k ∈ wK → k ∉ ([87] : List Nat)) k hk)) bA) (by omega) (by omega) (by (try rw [(show n_201 88 = (n_201 88) from rfl)]); omega)) hS_201.1 ⟨(Nat.le_of_ble_eq_true rfl), (Nat.le_of_ble_eq_true rfl)⟩ ⟨(Nat.le_of_ble_eq_true rfl), (Nat.le_of_ble_eq_true rfl)⟩ rfl rfl (Nat.le_of_ble_eq_true rfl) dX12_tells_155 ?_
              rintro f_206 ⟨n_206, z_206, F_206, G_206, hS_206, hx206, h8a_206, h8b_206⟩
              refine gz_aload_n dX12_tells_158 rfl rfl ?_
              refine gz_bipush (v := 58) dX12_tells_159 (by decide) ?_
              refine scX12_547 (k_X12_signs (x1 := 58) hS_206 (by (try rw [(show n_206 88 = (n_206 88) from rfl)]); omega)) hS_206.1 ⟨(Nat.le_of_ble_eq_true rfl), (Nat.le_of_ble_eq_true rfl)⟩ ⟨(Nat.le_of_ble_eq_true rfl), (Nat.le_of_ble_eq_true rfl)⟩ rfl rfl (Nat.le_of_ble_eq_true rfl) dX12_tells_161 ?_
              rintro f_207 ⟨n_207, z_207, F_207, G_207, hS_207, hx207, h8_207⟩
              refine gz_aload_n dX12_tells_164 rfl rfl ?_
              refine mg_20 hS_207 dX12_tells_165 ?_
              refine gz_iload_n dX12_tells_168 rfl rfl ?_
              refine m_iald 7 hS_207 rfl (N := 880) rfl ((by exact vin_T (rfl : (x1).toInt = (x1).toInt) (by omega) (by omega))) dX12_tells_169 ?_
              refine gz_ev (w := .int ((F 7) (Int32.toNatClampNeg x1))) (congrArg Value.int (congrFun ((hx207.2.2.1 7 (by decide)).trans ((hx206.2.2.1 7 (by decide)).trans ((hx201.2.2.1 7 (by decide)).trans ((hx173.2.2.1 7 (by decide)).trans ((hx172.2.2.1 7 (by decide)).trans (hx1.2.2.1 7 (by decide))))))) _)) ?_
              refine gz_bipush (v := 9) dX12_tells_170 (by decide) ?_
              refine gz_icmp_ne (tgt := 198) dX12_tells_172 (by decide) (fun c_172 => ?_) (fun c_172 => ?_)
              ·
                try simp only [mIn_0, lgc_lt, lgc_gt, lgc_le, lgc_ge, lgc_eq] at c_172
                try simp only [fl_lt, fl_le, fl_eq, fL_w, fL_lt, fL_le, tm1, tm10k, tm9, tm99, Int32.reduceToInt, Int64.reduceToInt, Int.not_lt, Int.not_le] at c_172
                exact gz_vret rfl dX12_tells_198 (Nat.le_of_ble_eq_true rfl) (Nat.le_of_ble_eq_true rfl) (⟨rfl, _, _, _, _, hS_207, (fx_tr (fx_tr (fx_tr (fx_tr (fx_tr (fx_tr fx_rf hx1 (by decide)) hx172 (by decide)) hx173 (by decide)) hx201 (by decide)) hx206 (by decide)) hx207 (by decide)), (by (try rw [(show n_207 88 = (n_207 88) from rfl)]); omega), (by (try rw [(show n_207 88 = (n_207 88) from rfl)]); omega), (by (try rw [(show n_207 88 = (n_207 88) from rfl)]); omega)⟩)
              ·
                try simp only [mIn_0, lgc_lt, lgc_gt, lgc_le, lgc_ge, lgc_eq] at c_172
                try simp only [fl_lt, fl_le, fl_eq, fL_w, fL_lt, fL_le, tm1, tm10k, tm9, tm99, Int32.reduceToInt, Int64.reduceToInt, Int.not_lt, Int.not_le] at c_172
                refine gz_aload_n dX12_tells_175 rfl rfl ?_
                refine gz_iload_n dX12_tells_176 rfl rfl ?_
                refine gz_aload_n dX12_tells_177 rfl rfl ?_
                refine mg_38 hS_207 dX12_tells_178 ?_
                refine gz_iload_n dX12_tells_181 rfl rfl ?_
                refine m_iald 13 hS_207 rfl (N := 880) rfl ((by exact vin_T (rfl : (x1).toInt = (x1).toInt) (by omega) (by omega))) dX12_tells_182 ?_
                refine gz_ev (w := .int ((F 13) (Int32.toNatClampNeg x1))) (congrArg Value.int (congrFun ((hx207.2.2.1 13 (by decide)).trans ((hx206.2.2.1 13 (by decide)).trans ((hx201.2.2.1 13 (by decide)).trans ((hx173.2.2.1 13 (by decide)).trans ((hx172.2.2.1 13 (by decide)).trans (hx1.2.2.1 13 (by decide))))))) _)) ?_
                refine gz_aload_n dX12_tells_183 rfl rfl ?_
                refine mg_41 hS_207 dX12_tells_184 ?_
                refine gz_iload_n dX12_tells_187 rfl rfl ?_
                refine m_iald 14 hS_207 rfl (N := 880) rfl ((by exact vin_T (rfl : (x1).toInt = (x1).toInt) (by omega) (by omega))) dX12_tells_188 ?_
                refine gz_ev (w := .int ((F 14) (Int32.toNatClampNeg x1))) (congrArg Value.int (congrFun ((hx207.2.2.1 14 (by decide)).trans ((hx206.2.2.1 14 (by decide)).trans ((hx201.2.2.1 14 (by decide)).trans ((hx173.2.2.1 14 (by decide)).trans ((hx172.2.2.1 14 (by decide)).trans (hx1.2.2.1 14 (by decide))))))) _)) ?_
                have hxx189 : fx [88, 89] [] [87] [] n z F G n_207 z_207 F_207 G_207 := (fx_tr (fx_tr (fx_tr (fx_tr (fx_tr (fx_tr fx_rf hx1 (by decide)) hx172 (by decide)) hx173 (by decide)) hx201 (by decide)) hx206 (by decide)) hx207 (by decide))
                refine scX12_558 (k_X12_sums (x1 := x1) (x2 := ((F 13) (Int32.toNatClampNeg x1))) (x3 := ((F 14) (Int32.toNatClampNeg x1))) hS_207 (rAll_w (fun k hk => hxx189.2.2.1 k ((by decide : ∀ k : Nat, k ∈ wK → k ∉ ([87] : List Nat)) k hk)) bA) (by omega) (by omega) (by (try rw [(show n_207 88 = (n_207 88) from rfl)]); omega)) hS_207.1 ⟨(Nat.le_of_ble_eq_true rfl), (Nat.le_of_ble_eq_true rfl)⟩ ⟨(Nat.le_of_ble_eq_true rfl), (Nat.le_of_ble_eq_true rfl)⟩ rfl rfl (Nat.le_of_ble_eq_true rfl) dX12_tells_189 ?_
                rintro f_208 ⟨n_208, z_208, F_208, G_208, hS_208, hx208, h8a_208, h8b_208⟩
                refine gz_aload_n dX12_tells_192 rfl rfl ?_
                refine gz_bipush (v := 58) dX12_tells_193 (by decide) ?_
                refine scX12_547 (k_X12_signs (x1 := 58) hS_208 (by (try rw [(show n_208 88 = (n_208 88) from rfl)]); omega)) hS_208.1 ⟨(Nat.le_of_ble_eq_true rfl), (Nat.le_of_ble_eq_true rfl)⟩ ⟨(Nat.le_of_ble_eq_true rfl), (Nat.le_of_ble_eq_true rfl)⟩ rfl rfl (Nat.le_of_ble_eq_true rfl) dX12_tells_195 ?_
                rintro f_209 ⟨n_209, z_209, F_209, G_209, hS_209, hx209, h8_209⟩
                exact gz_vret rfl dX12_tells_198 (Nat.le_of_ble_eq_true rfl) (Nat.le_of_ble_eq_true rfl) (⟨rfl, _, _, _, _, hS_209, (fx_tr (fx_tr (fx_tr (fx_tr (fx_tr (fx_tr (fx_tr (fx_tr fx_rf hx1 (by decide)) hx172 (by decide)) hx173 (by decide)) hx201 (by decide)) hx206 (by decide)) hx207 (by decide)) hx208 (by decide)) hx209 (by decide)), (by (try rw [(show n_209 88 = (n_209 88) from rfl)]); omega), (by (try rw [(show n_209 88 = (n_209 88) from rfl)]); omega), (by (try rw [(show n_209 88 = (n_209 88) from rfl)]); omega)⟩)
            ·
              try simp only [mIn_0, lgc_lt, lgc_gt, lgc_le, lgc_ge, lgc_eq] at c_132
              try simp only [fl_lt, fl_le, fl_eq, fL_w, fL_lt, fL_le, tm1, tm10k, tm9, tm99, Int32.reduceToInt, Int64.reduceToInt, Int.not_lt, Int.not_le] at c_132
              refine gz_aload_n dX12_tells_135 rfl rfl ?_
              refine gz_bipush (v := 61) dX12_tells_136 (by decide) ?_
              refine scX12_547 (k_X12_signs (x1 := 61) hS_201 (by (try rw [(show n_201 88 = (n_201 88) from rfl)]); omega)) hS_201.1 ⟨(Nat.le_of_ble_eq_true rfl), (Nat.le_of_ble_eq_true rfl)⟩ ⟨(Nat.le_of_ble_eq_true rfl), (Nat.le_of_ble_eq_true rfl)⟩ rfl rfl (Nat.le_of_ble_eq_true rfl) dX12_tells_138 ?_
              rintro f_210 ⟨n_210, z_210, F_210, G_210, hS_210, hx210, h8_210⟩
              refine gz_aload_n dX12_tells_141 rfl rfl ?_
              refine gz_iload_n dX12_tells_142 rfl rfl ?_
              refine gz_aload_n dX12_tells_143 rfl rfl ?_
              refine mg_41 hS_210 dX12_tells_144 ?_
              refine gz_iload_n dX12_tells_147 rfl rfl ?_
              refine m_iald 14 hS_210 rfl (N := 880) rfl ((by exact vin_T (rfl : (x1).toInt = (x1).toInt) (by omega) (by omega))) dX12_tells_148 ?_
              refine gz_ev (w := .int ((F 14) (Int32.toNatClampNeg x1))) (congrArg Value.int (congrFun ((hx210.2.2.1 14 (by decide)).trans ((hx201.2.2.1 14 (by decide)).trans ((hx173.2.2.1 14 (by decide)).trans ((hx172.2.2.1 14 (by decide)).trans (hx1.2.2.1 14 (by decide)))))) _)) ?_
              refine gz_aload_n dX12_tells_149 rfl rfl ?_
              refine mg_44 hS_210 dX12_tells_150 ?_
              refine gz_iload_n dX12_tells_153 rfl rfl ?_
              refine m_iald 15 hS_210 rfl (N := 880) rfl ((by exact vin_T (rfl : (x1).toInt = (x1).toInt) (by omega) (by omega))) dX12_tells_154 ?_
              refine gz_ev (w := .int ((F 15) (Int32.toNatClampNeg x1))) (congrArg Value.int (congrFun ((hx210.2.2.1 15 (by decide)).trans ((hx201.2.2.1 15 (by decide)).trans ((hx173.2.2.1 15 (by decide)).trans ((hx172.2.2.1 15 (by decide)).trans (hx1.2.2.1 15 (by decide)))))) _)) ?_
              have hxx155 : fx [88, 89] [] [87] [] n z F G n_210 z_210 F_210 G_210 := (fx_tr (fx_tr (fx_tr (fx_tr (fx_tr fx_rf hx1 (by decide)) hx172 (by decide)) hx173 (by decide)) hx201 (by decide)) hx210 (by decide))
              refine scX12_558 (k_X12_sums (x1 := x1) (x2 := ((F 14) (Int32.toNatClampNeg x1))) (x3 := ((F 15) (Int32.toNatClampNeg x1))) hS_210 (rAll_w (fun k hk => hxx155.2.2.1 k ((by decide : ∀ k : Nat, k ∈ wK → k ∉ ([87] : List Nat)) k hk)) bA) (by omega) (by omega) (by (try rw [(show n_210 88 = (n_210 88) from rfl)]); omega)) hS_210.1 ⟨(Nat.le_of_ble_eq_true rfl), (Nat.le_of_ble_eq_true rfl)⟩ ⟨(Nat.le_of_ble_eq_true rfl), (Nat.le_of_ble_eq_true rfl)⟩ rfl rfl (Nat.le_of_ble_eq_true rfl) dX12_tells_155 ?_
              rintro f_211 ⟨n_211, z_211, F_211, G_211, hS_211, hx211, h8a_211, h8b_211⟩
              refine gz_aload_n dX12_tells_158 rfl rfl ?_
              refine gz_bipush (v := 58) dX12_tells_159 (by decide) ?_
              refine scX12_547 (k_X12_signs (x1 := 58) hS_211 (by (try rw [(show n_211 88 = (n_211 88) from rfl)]); omega)) hS_211.1 ⟨(Nat.le_of_ble_eq_true rfl), (Nat.le_of_ble_eq_true rfl)⟩ ⟨(Nat.le_of_ble_eq_true rfl), (Nat.le_of_ble_eq_true rfl)⟩ rfl rfl (Nat.le_of_ble_eq_true rfl) dX12_tells_161 ?_
              rintro f_212 ⟨n_212, z_212, F_212, G_212, hS_212, hx212, h8_212⟩
              refine gz_aload_n dX12_tells_164 rfl rfl ?_
              refine mg_20 hS_212 dX12_tells_165 ?_
              refine gz_iload_n dX12_tells_168 rfl rfl ?_
              refine m_iald 7 hS_212 rfl (N := 880) rfl ((by exact vin_T (rfl : (x1).toInt = (x1).toInt) (by omega) (by omega))) dX12_tells_169 ?_
              refine gz_ev (w := .int ((F 7) (Int32.toNatClampNeg x1))) (congrArg Value.int (congrFun ((hx212.2.2.1 7 (by decide)).trans ((hx211.2.2.1 7 (by decide)).trans ((hx210.2.2.1 7 (by decide)).trans ((hx201.2.2.1 7 (by decide)).trans ((hx173.2.2.1 7 (by decide)).trans ((hx172.2.2.1 7 (by decide)).trans (hx1.2.2.1 7 (by decide)))))))) _)) ?_
              refine gz_bipush (v := 9) dX12_tells_170 (by decide) ?_
              refine gz_icmp_ne (tgt := 198) dX12_tells_172 (by decide) (fun c_172 => ?_) (fun c_172 => ?_)
              ·
                try simp only [mIn_0, lgc_lt, lgc_gt, lgc_le, lgc_ge, lgc_eq] at c_172
                try simp only [fl_lt, fl_le, fl_eq, fL_w, fL_lt, fL_le, tm1, tm10k, tm9, tm99, Int32.reduceToInt, Int64.reduceToInt, Int.not_lt, Int.not_le] at c_172
                exact gz_vret rfl dX12_tells_198 (Nat.le_of_ble_eq_true rfl) (Nat.le_of_ble_eq_true rfl) (⟨rfl, _, _, _, _, hS_212, (fx_tr (fx_tr (fx_tr (fx_tr (fx_tr (fx_tr (fx_tr fx_rf hx1 (by decide)) hx172 (by decide)) hx173 (by decide)) hx201 (by decide)) hx210 (by decide)) hx211 (by decide)) hx212 (by decide)), (by (try rw [(show n_212 88 = (n_212 88) from rfl)]); omega), (by (try rw [(show n_212 88 = (n_212 88) from rfl)]); omega), (by (try rw [(show n_212 88 = (n_212 88) from rfl)]); omega)⟩)
              ·
                try simp only [mIn_0, lgc_lt, lgc_gt, lgc_le, lgc_ge, lgc_eq] at c_172
                try simp only [fl_lt, fl_le, fl_eq, fL_w, fL_lt, fL_le, tm1, tm10k, tm9, tm99, Int32.reduceToInt, Int64.reduceToInt, Int.not_lt, Int.not_le] at c_172
                refine gz_aload_n dX12_tells_175 rfl rfl ?_
                refine gz_iload_n dX12_tells_176 rfl rfl ?_
                refine gz_aload_n dX12_tells_177 rfl rfl ?_
                refine mg_38 hS_212 dX12_tells_178 ?_
                refine gz_iload_n dX12_tells_181 rfl rfl ?_
                refine m_iald 13 hS_212 rfl (N := 880) rfl ((by exact vin_T (rfl : (x1).toInt = (x1).toInt) (by omega) (by omega))) dX12_tells_182 ?_
                refine gz_ev (w := .int ((F 13) (Int32.toNatClampNeg x1))) (congrArg Value.int (congrFun ((hx212.2.2.1 13 (by decide)).trans ((hx211.2.2.1 13 (by decide)).trans ((hx210.2.2.1 13 (by decide)).trans ((hx201.2.2.1 13 (by decide)).trans ((hx173.2.2.1 13 (by decide)).trans ((hx172.2.2.1 13 (by decide)).trans (hx1.2.2.1 13 (by decide)))))))) _)) ?_
                refine gz_aload_n dX12_tells_183 rfl rfl ?_
                refine mg_41 hS_212 dX12_tells_184 ?_
                refine gz_iload_n dX12_tells_187 rfl rfl ?_
                refine m_iald 14 hS_212 rfl (N := 880) rfl ((by exact vin_T (rfl : (x1).toInt = (x1).toInt) (by omega) (by omega))) dX12_tells_188 ?_
                refine gz_ev (w := .int ((F 14) (Int32.toNatClampNeg x1))) (congrArg Value.int (congrFun ((hx212.2.2.1 14 (by decide)).trans ((hx211.2.2.1 14 (by decide)).trans ((hx210.2.2.1 14 (by decide)).trans ((hx201.2.2.1 14 (by decide)).trans ((hx173.2.2.1 14 (by decide)).trans ((hx172.2.2.1 14 (by decide)).trans (hx1.2.2.1 14 (by decide)))))))) _)) ?_
                have hxx189 : fx [88, 89] [] [87] [] n z F G n_212 z_212 F_212 G_212 := (fx_tr (fx_tr (fx_tr (fx_tr (fx_tr (fx_tr (fx_tr fx_rf hx1 (by decide)) hx172 (by decide)) hx173 (by decide)) hx201 (by decide)) hx210 (by decide)) hx211 (by decide)) hx212 (by decide))
                refine scX12_558 (k_X12_sums (x1 := x1) (x2 := ((F 13) (Int32.toNatClampNeg x1))) (x3 := ((F 14) (Int32.toNatClampNeg x1))) hS_212 (rAll_w (fun k hk => hxx189.2.2.1 k ((by decide : ∀ k : Nat, k ∈ wK → k ∉ ([87] : List Nat)) k hk)) bA) (by omega) (by omega) (by (try rw [(show n_212 88 = (n_212 88) from rfl)]); omega)) hS_212.1 ⟨(Nat.le_of_ble_eq_true rfl), (Nat.le_of_ble_eq_true rfl)⟩ ⟨(Nat.le_of_ble_eq_true rfl), (Nat.le_of_ble_eq_true rfl)⟩ rfl rfl (Nat.le_of_ble_eq_true rfl) dX12_tells_189 ?_
                rintro f_213 ⟨n_213, z_213, F_213, G_213, hS_213, hx213, h8a_213, h8b_213⟩
                refine gz_aload_n dX12_tells_192 rfl rfl ?_
                refine gz_bipush (v := 58) dX12_tells_193 (by decide) ?_
                refine scX12_547 (k_X12_signs (x1 := 58) hS_213 (by (try rw [(show n_213 88 = (n_213 88) from rfl)]); omega)) hS_213.1 ⟨(Nat.le_of_ble_eq_true rfl), (Nat.le_of_ble_eq_true rfl)⟩ ⟨(Nat.le_of_ble_eq_true rfl), (Nat.le_of_ble_eq_true rfl)⟩ rfl rfl (Nat.le_of_ble_eq_true rfl) dX12_tells_195 ?_
                rintro f_214 ⟨n_214, z_214, F_214, G_214, hS_214, hx214, h8_214⟩
                exact gz_vret rfl dX12_tells_198 (Nat.le_of_ble_eq_true rfl) (Nat.le_of_ble_eq_true rfl) (⟨rfl, _, _, _, _, hS_214, (fx_tr (fx_tr (fx_tr (fx_tr (fx_tr (fx_tr (fx_tr (fx_tr (fx_tr fx_rf hx1 (by decide)) hx172 (by decide)) hx173 (by decide)) hx201 (by decide)) hx210 (by decide)) hx211 (by decide)) hx212 (by decide)) hx213 (by decide)) hx214 (by decide)), (by (try rw [(show n_214 88 = (n_214 88) from rfl)]); omega), (by (try rw [(show n_214 88 = (n_214 88) from rfl)]); omega), (by (try rw [(show n_214 88 = (n_214 88) from rfl)]); omega)⟩)
        ·
          try simp only [mIn_0, lgc_lt, lgc_gt, lgc_le, lgc_ge, lgc_eq] at c_107
          try simp only [fl_lt, fl_le, fl_eq, fL_w, fL_lt, fL_le, tm1, tm10k, tm9, tm99, Int32.reduceToInt, Int64.reduceToInt, Int.not_lt, Int.not_le] at c_107
          refine gz_aload_n dX12_tells_110 rfl rfl ?_
          refine gz_bipush (v := 62) dX12_tells_111 (by decide) ?_
          refine scX12_547 (k_X12_signs (x1 := 62) hS_201 (by (try rw [(show n_201 88 = (n_201 88) from rfl)]); omega)) hS_201.1 ⟨(Nat.le_of_ble_eq_true rfl), (Nat.le_of_ble_eq_true rfl)⟩ ⟨(Nat.le_of_ble_eq_true rfl), (Nat.le_of_ble_eq_true rfl)⟩ rfl rfl (Nat.le_of_ble_eq_true rfl) dX12_tells_113 ?_
          rintro f_215 ⟨n_215, z_215, F_215, G_215, hS_215, hx215, h8_215⟩
          refine gz_aload_n dX12_tells_116 rfl rfl ?_
          refine mg_47 hS_215 dX12_tells_117 ?_
          refine gz_iload_n dX12_tells_120 rfl rfl ?_
          refine m_iald 16 hS_215 rfl (N := 880) rfl ((by exact vin_T (rfl : (x1).toInt = (x1).toInt) (by omega) (by omega))) dX12_tells_121 ?_
          refine gz_ev (w := .int ((F 16) (Int32.toNatClampNeg x1))) (congrArg Value.int (congrFun ((hx215.2.2.1 16 (by decide)).trans ((hx201.2.2.1 16 (by decide)).trans ((hx173.2.2.1 16 (by decide)).trans ((hx172.2.2.1 16 (by decide)).trans (hx1.2.2.1 16 (by decide)))))) _)) ?_
          refine gz_if_le (tgt := 141) dX12_tells_122 (by decide) (fun c_122 => ?_) (fun c_122 => ?_)
          ·
            try simp only [mIn_0, lgc_lt, lgc_gt, lgc_le, lgc_ge, lgc_eq] at c_122
            try simp only [fl_lt, fl_le, fl_eq, fL_w, fL_lt, fL_le, tm1, tm10k, tm9, tm99, Int32.reduceToInt, Int64.reduceToInt, Int.not_lt, Int.not_le] at c_122
            refine gz_aload_n dX12_tells_141 rfl rfl ?_
            refine gz_iload_n dX12_tells_142 rfl rfl ?_
            refine gz_aload_n dX12_tells_143 rfl rfl ?_
            refine mg_41 hS_215 dX12_tells_144 ?_
            refine gz_iload_n dX12_tells_147 rfl rfl ?_
            refine m_iald 14 hS_215 rfl (N := 880) rfl ((by exact vin_T (rfl : (x1).toInt = (x1).toInt) (by omega) (by omega))) dX12_tells_148 ?_
            refine gz_ev (w := .int ((F 14) (Int32.toNatClampNeg x1))) (congrArg Value.int (congrFun ((hx215.2.2.1 14 (by decide)).trans ((hx201.2.2.1 14 (by decide)).trans ((hx173.2.2.1 14 (by decide)).trans ((hx172.2.2.1 14 (by decide)).trans (hx1.2.2.1 14 (by decide)))))) _)) ?_
            refine gz_aload_n dX12_tells_149 rfl rfl ?_
            refine mg_44 hS_215 dX12_tells_150 ?_
            refine gz_iload_n dX12_tells_153 rfl rfl ?_
            refine m_iald 15 hS_215 rfl (N := 880) rfl ((by exact vin_T (rfl : (x1).toInt = (x1).toInt) (by omega) (by omega))) dX12_tells_154 ?_
            refine gz_ev (w := .int ((F 15) (Int32.toNatClampNeg x1))) (congrArg Value.int (congrFun ((hx215.2.2.1 15 (by decide)).trans ((hx201.2.2.1 15 (by decide)).trans ((hx173.2.2.1 15 (by decide)).trans ((hx172.2.2.1 15 (by decide)).trans (hx1.2.2.1 15 (by decide)))))) _)) ?_
            have hxx155 : fx [88, 89] [] [87] [] n z F G n_215 z_215 F_215 G_215 := (fx_tr (fx_tr (fx_tr (fx_tr (fx_tr fx_rf hx1 (by decide)) hx172 (by decide)) hx173 (by decide)) hx201 (by decide)) hx215 (by decide))
            refine scX12_558 (k_X12_sums (x1 := x1) (x2 := ((F 14) (Int32.toNatClampNeg x1))) (x3 := ((F 15) (Int32.toNatClampNeg x1))) hS_215 (rAll_w (fun k hk => hxx155.2.2.1 k ((by decide : ∀ k : Nat, k ∈ wK → k ∉ ([87] : List Nat)) k hk)) bA) (by omega) (by omega) (by (try rw [(show n_215 88 = (n_215 88) from rfl)]); omega)) hS_215.1 ⟨(Nat.le_of_ble_eq_true rfl), (Nat.le_of_ble_eq_true rfl)⟩ ⟨(Nat.le_of_ble_eq_true rfl), (Nat.le_of_ble_eq_true rfl)⟩ rfl rfl (Nat.le_of_ble_eq_true rfl) dX12_tells_155 ?_
            rintro f_216 ⟨n_216, z_216, F_216, G_216, hS_216, hx216, h8a_216, h8b_216⟩
            refine gz_aload_n dX12_tells_158 rfl rfl ?_
            refine gz_bipush (v := 58) dX12_tells_159 (by decide) ?_
            refine scX12_547 (k_X12_signs (x1 := 58) hS_216 (by (try rw [(show n_216 88 = (n_216 88) from rfl)]); omega)) hS_216.1 ⟨(Nat.le_of_ble_eq_true rfl), (Nat.le_of_ble_eq_true rfl)⟩ ⟨(Nat.le_of_ble_eq_true rfl), (Nat.le_of_ble_eq_true rfl)⟩ rfl rfl (Nat.le_of_ble_eq_true rfl) dX12_tells_161 ?_
            rintro f_217 ⟨n_217, z_217, F_217, G_217, hS_217, hx217, h8_217⟩
            refine gz_aload_n dX12_tells_164 rfl rfl ?_
            refine mg_20 hS_217 dX12_tells_165 ?_
            refine gz_iload_n dX12_tells_168 rfl rfl ?_
            refine m_iald 7 hS_217 rfl (N := 880) rfl ((by exact vin_T (rfl : (x1).toInt = (x1).toInt) (by omega) (by omega))) dX12_tells_169 ?_
            refine gz_ev (w := .int ((F 7) (Int32.toNatClampNeg x1))) (congrArg Value.int (congrFun ((hx217.2.2.1 7 (by decide)).trans ((hx216.2.2.1 7 (by decide)).trans ((hx215.2.2.1 7 (by decide)).trans ((hx201.2.2.1 7 (by decide)).trans ((hx173.2.2.1 7 (by decide)).trans ((hx172.2.2.1 7 (by decide)).trans (hx1.2.2.1 7 (by decide)))))))) _)) ?_
            refine gz_bipush (v := 9) dX12_tells_170 (by decide) ?_
            refine gz_icmp_ne (tgt := 198) dX12_tells_172 (by decide) (fun c_172 => ?_) (fun c_172 => ?_)
            ·
              try simp only [mIn_0, lgc_lt, lgc_gt, lgc_le, lgc_ge, lgc_eq] at c_172
              try simp only [fl_lt, fl_le, fl_eq, fL_w, fL_lt, fL_le, tm1, tm10k, tm9, tm99, Int32.reduceToInt, Int64.reduceToInt, Int.not_lt, Int.not_le] at c_172
              exact gz_vret rfl dX12_tells_198 (Nat.le_of_ble_eq_true rfl) (Nat.le_of_ble_eq_true rfl) (⟨rfl, _, _, _, _, hS_217, (fx_tr (fx_tr (fx_tr (fx_tr (fx_tr (fx_tr (fx_tr fx_rf hx1 (by decide)) hx172 (by decide)) hx173 (by decide)) hx201 (by decide)) hx215 (by decide)) hx216 (by decide)) hx217 (by decide)), (by (try rw [(show n_217 88 = (n_217 88) from rfl)]); omega), (by (try rw [(show n_217 88 = (n_217 88) from rfl)]); omega), (by (try rw [(show n_217 88 = (n_217 88) from rfl)]); omega)⟩)
            ·
              try simp only [mIn_0, lgc_lt, lgc_gt, lgc_le, lgc_ge, lgc_eq] at c_172
              try simp only [fl_lt, fl_le, fl_eq, fL_w, fL_lt, fL_le, tm1, tm10k, tm9, tm99, Int32.reduceToInt, Int64.reduceToInt, Int.not_lt, Int.not_le] at c_172
              refine gz_aload_n dX12_tells_175 rfl rfl ?_
              refine gz_iload_n dX12_tells_176 rfl rfl ?_
              refine gz_aload_n dX12_tells_177 rfl rfl ?_
              refine mg_38 hS_217 dX12_tells_178 ?_
              refine gz_iload_n dX12_tells_181 rfl rfl ?_
              refine m_iald 13 hS_217 rfl (N := 880) rfl ((by exact vin_T (rfl : (x1).toInt = (x1).toInt) (by omega) (by omega))) dX12_tells_182 ?_
              refine gz_ev (w := .int ((F 13) (Int32.toNatClampNeg x1))) (congrArg Value.int (congrFun ((hx217.2.2.1 13 (by decide)).trans ((hx216.2.2.1 13 (by decide)).trans ((hx215.2.2.1 13 (by decide)).trans ((hx201.2.2.1 13 (by decide)).trans ((hx173.2.2.1 13 (by decide)).trans ((hx172.2.2.1 13 (by decide)).trans (hx1.2.2.1 13 (by decide)))))))) _)) ?_
              refine gz_aload_n dX12_tells_183 rfl rfl ?_
              refine mg_41 hS_217 dX12_tells_184 ?_
              refine gz_iload_n dX12_tells_187 rfl rfl ?_
              refine m_iald 14 hS_217 rfl (N := 880) rfl ((by exact vin_T (rfl : (x1).toInt = (x1).toInt) (by omega) (by omega))) dX12_tells_188 ?_
              refine gz_ev (w := .int ((F 14) (Int32.toNatClampNeg x1))) (congrArg Value.int (congrFun ((hx217.2.2.1 14 (by decide)).trans ((hx216.2.2.1 14 (by decide)).trans ((hx215.2.2.1 14 (by decide)).trans ((hx201.2.2.1 14 (by decide)).trans ((hx173.2.2.1 14 (by decide)).trans ((hx172.2.2.1 14 (by decide)).trans (hx1.2.2.1 14 (by decide)))))))) _)) ?_
              have hxx189 : fx [88, 89] [] [87] [] n z F G n_217 z_217 F_217 G_217 := (fx_tr (fx_tr (fx_tr (fx_tr (fx_tr (fx_tr (fx_tr fx_rf hx1 (by decide)) hx172 (by decide)) hx173 (by decide)) hx201 (by decide)) hx215 (by decide)) hx216 (by decide)) hx217 (by decide))
              refine scX12_558 (k_X12_sums (x1 := x1) (x2 := ((F 13) (Int32.toNatClampNeg x1))) (x3 := ((F 14) (Int32.toNatClampNeg x1))) hS_217 (rAll_w (fun k hk => hxx189.2.2.1 k ((by decide : ∀ k : Nat, k ∈ wK → k ∉ ([87] : List Nat)) k hk)) bA) (by omega) (by omega) (by (try rw [(show n_217 88 = (n_217 88) from rfl)]); omega)) hS_217.1 ⟨(Nat.le_of_ble_eq_true rfl), (Nat.le_of_ble_eq_true rfl)⟩ ⟨(Nat.le_of_ble_eq_true rfl), (Nat.le_of_ble_eq_true rfl)⟩ rfl rfl (Nat.le_of_ble_eq_true rfl) dX12_tells_189 ?_
              rintro f_218 ⟨n_218, z_218, F_218, G_218, hS_218, hx218, h8a_218, h8b_218⟩
              refine gz_aload_n dX12_tells_192 rfl rfl ?_
              refine gz_bipush (v := 58) dX12_tells_193 (by decide) ?_
              refine scX12_547 (k_X12_signs (x1 := 58) hS_218 (by (try rw [(show n_218 88 = (n_218 88) from rfl)]); omega)) hS_218.1 ⟨(Nat.le_of_ble_eq_true rfl), (Nat.le_of_ble_eq_true rfl)⟩ ⟨(Nat.le_of_ble_eq_true rfl), (Nat.le_of_ble_eq_true rfl)⟩ rfl rfl (Nat.le_of_ble_eq_true rfl) dX12_tells_195 ?_
              rintro f_219 ⟨n_219, z_219, F_219, G_219, hS_219, hx219, h8_219⟩
              exact gz_vret rfl dX12_tells_198 (Nat.le_of_ble_eq_true rfl) (Nat.le_of_ble_eq_true rfl) (⟨rfl, _, _, _, _, hS_219, (fx_tr (fx_tr (fx_tr (fx_tr (fx_tr (fx_tr (fx_tr (fx_tr (fx_tr fx_rf hx1 (by decide)) hx172 (by decide)) hx173 (by decide)) hx201 (by decide)) hx215 (by decide)) hx216 (by decide)) hx217 (by decide)) hx218 (by decide)) hx219 (by decide)), (by (try rw [(show n_219 88 = (n_219 88) from rfl)]); omega), (by (try rw [(show n_219 88 = (n_219 88) from rfl)]); omega), (by (try rw [(show n_219 88 = (n_219 88) from rfl)]); omega)⟩)
          ·
            try simp only [mIn_0, lgc_lt, lgc_gt, lgc_le, lgc_ge, lgc_eq] at c_122
            try simp only [fl_lt, fl_le, fl_eq, fL_w, fL_lt, fL_le, tm1, tm10k, tm9, tm99, Int32.reduceToInt, Int64.reduceToInt, Int.not_lt, Int.not_le] at c_122
            refine gz_aload_n dX12_tells_125 rfl rfl ?_
            refine mg_47 hS_215 dX12_tells_126 ?_
            refine gz_iload_n dX12_tells_129 rfl rfl ?_
            refine m_iald 16 hS_215 rfl (N := 880) rfl ((by exact vin_T (rfl : (x1).toInt = (x1).toInt) (by omega) (by omega))) dX12_tells_130 ?_
            refine gz_ev (w := .int ((F 16) (Int32.toNatClampNeg x1))) (congrArg Value.int (congrFun ((hx215.2.2.1 16 (by decide)).trans ((hx201.2.2.1 16 (by decide)).trans ((hx173.2.2.1 16 (by decide)).trans ((hx172.2.2.1 16 (by decide)).trans (hx1.2.2.1 16 (by decide)))))) _)) ?_
            refine gz_iconst (v := 4) dX12_tells_131 (by decide) ?_
            refine gz_icmp_ge (tgt := 141) dX12_tells_132 (by decide) (fun c_132 => ?_) (fun c_132 => ?_)
            ·
              try simp only [mIn_0, lgc_lt, lgc_gt, lgc_le, lgc_ge, lgc_eq] at c_132
              try simp only [fl_lt, fl_le, fl_eq, fL_w, fL_lt, fL_le, tm1, tm10k, tm9, tm99, Int32.reduceToInt, Int64.reduceToInt, Int.not_lt, Int.not_le] at c_132
              refine gz_aload_n dX12_tells_141 rfl rfl ?_
              refine gz_iload_n dX12_tells_142 rfl rfl ?_
              refine gz_aload_n dX12_tells_143 rfl rfl ?_
              refine mg_41 hS_215 dX12_tells_144 ?_
              refine gz_iload_n dX12_tells_147 rfl rfl ?_
              refine m_iald 14 hS_215 rfl (N := 880) rfl ((by exact vin_T (rfl : (x1).toInt = (x1).toInt) (by omega) (by omega))) dX12_tells_148 ?_
              refine gz_ev (w := .int ((F 14) (Int32.toNatClampNeg x1))) (congrArg Value.int (congrFun ((hx215.2.2.1 14 (by decide)).trans ((hx201.2.2.1 14 (by decide)).trans ((hx173.2.2.1 14 (by decide)).trans ((hx172.2.2.1 14 (by decide)).trans (hx1.2.2.1 14 (by decide)))))) _)) ?_
              refine gz_aload_n dX12_tells_149 rfl rfl ?_
              refine mg_44 hS_215 dX12_tells_150 ?_
              refine gz_iload_n dX12_tells_153 rfl rfl ?_
              refine m_iald 15 hS_215 rfl (N := 880) rfl ((by exact vin_T (rfl : (x1).toInt = (x1).toInt) (by omega) (by omega))) dX12_tells_154 ?_
              refine gz_ev (w := .int ((F 15) (Int32.toNatClampNeg x1))) (congrArg Value.int (congrFun ((hx215.2.2.1 15 (by decide)).trans ((hx201.2.2.1 15 (by decide)).trans ((hx173.2.2.1 15 (by decide)).trans ((hx172.2.2.1 15 (by decide)).trans (hx1.2.2.1 15 (by decide)))))) _)) ?_
              have hxx155 : fx [88, 89] [] [87] [] n z F G n_215 z_215 F_215 G_215 := (fx_tr (fx_tr (fx_tr (fx_tr (fx_tr fx_rf hx1 (by decide)) hx172 (by decide)) hx173 (by decide)) hx201 (by decide)) hx215 (by decide))
              refine scX12_558 (k_X12_sums (x1 := x1) (x2 := ((F 14) (Int32.toNatClampNeg x1))) (x3 := ((F 15) (Int32.toNatClampNeg x1))) hS_215 (rAll_w (fun k hk => hxx155.2.2.1 k ((by decide : ∀ k : Nat, k ∈ wK → k ∉ ([87] : List Nat)) k hk)) bA) (by omega) (by omega) (by (try rw [(show n_215 88 = (n_215 88) from rfl)]); omega)) hS_215.1 ⟨(Nat.le_of_ble_eq_true rfl), (Nat.le_of_ble_eq_true rfl)⟩ ⟨(Nat.le_of_ble_eq_true rfl), (Nat.le_of_ble_eq_true rfl)⟩ rfl rfl (Nat.le_of_ble_eq_true rfl) dX12_tells_155 ?_
              rintro f_220 ⟨n_220, z_220, F_220, G_220, hS_220, hx220, h8a_220, h8b_220⟩
              refine gz_aload_n dX12_tells_158 rfl rfl ?_
              refine gz_bipush (v := 58) dX12_tells_159 (by decide) ?_
              refine scX12_547 (k_X12_signs (x1 := 58) hS_220 (by (try rw [(show n_220 88 = (n_220 88) from rfl)]); omega)) hS_220.1 ⟨(Nat.le_of_ble_eq_true rfl), (Nat.le_of_ble_eq_true rfl)⟩ ⟨(Nat.le_of_ble_eq_true rfl), (Nat.le_of_ble_eq_true rfl)⟩ rfl rfl (Nat.le_of_ble_eq_true rfl) dX12_tells_161 ?_
              rintro f_221 ⟨n_221, z_221, F_221, G_221, hS_221, hx221, h8_221⟩
              refine gz_aload_n dX12_tells_164 rfl rfl ?_
              refine mg_20 hS_221 dX12_tells_165 ?_
              refine gz_iload_n dX12_tells_168 rfl rfl ?_
              refine m_iald 7 hS_221 rfl (N := 880) rfl ((by exact vin_T (rfl : (x1).toInt = (x1).toInt) (by omega) (by omega))) dX12_tells_169 ?_
              refine gz_ev (w := .int ((F 7) (Int32.toNatClampNeg x1))) (congrArg Value.int (congrFun ((hx221.2.2.1 7 (by decide)).trans ((hx220.2.2.1 7 (by decide)).trans ((hx215.2.2.1 7 (by decide)).trans ((hx201.2.2.1 7 (by decide)).trans ((hx173.2.2.1 7 (by decide)).trans ((hx172.2.2.1 7 (by decide)).trans (hx1.2.2.1 7 (by decide)))))))) _)) ?_
              refine gz_bipush (v := 9) dX12_tells_170 (by decide) ?_
              refine gz_icmp_ne (tgt := 198) dX12_tells_172 (by decide) (fun c_172 => ?_) (fun c_172 => ?_)
              ·
                try simp only [mIn_0, lgc_lt, lgc_gt, lgc_le, lgc_ge, lgc_eq] at c_172
                try simp only [fl_lt, fl_le, fl_eq, fL_w, fL_lt, fL_le, tm1, tm10k, tm9, tm99, Int32.reduceToInt, Int64.reduceToInt, Int.not_lt, Int.not_le] at c_172
                exact gz_vret rfl dX12_tells_198 (Nat.le_of_ble_eq_true rfl) (Nat.le_of_ble_eq_true rfl) (⟨rfl, _, _, _, _, hS_221, (fx_tr (fx_tr (fx_tr (fx_tr (fx_tr (fx_tr (fx_tr fx_rf hx1 (by decide)) hx172 (by decide)) hx173 (by decide)) hx201 (by decide)) hx215 (by decide)) hx220 (by decide)) hx221 (by decide)), (by (try rw [(show n_221 88 = (n_221 88) from rfl)]); omega), (by (try rw [(show n_221 88 = (n_221 88) from rfl)]); omega), (by (try rw [(show n_221 88 = (n_221 88) from rfl)]); omega)⟩)
              ·
                try simp only [mIn_0, lgc_lt, lgc_gt, lgc_le, lgc_ge, lgc_eq] at c_172
                try simp only [fl_lt, fl_le, fl_eq, fL_w, fL_lt, fL_le, tm1, tm10k, tm9, tm99, Int32.reduceToInt, Int64.reduceToInt, Int.not_lt, Int.not_le] at c_172
                refine gz_aload_n dX12_tells_175 rfl rfl ?_
                refine gz_iload_n dX12_tells_176 rfl rfl ?_
                refine gz_aload_n dX12_tells_177 rfl rfl ?_
                refine mg_38 hS_221 dX12_tells_178 ?_
                refine gz_iload_n dX12_tells_181 rfl rfl ?_
                refine m_iald 13 hS_221 rfl (N := 880) rfl ((by exact vin_T (rfl : (x1).toInt = (x1).toInt) (by omega) (by omega))) dX12_tells_182 ?_
                refine gz_ev (w := .int ((F 13) (Int32.toNatClampNeg x1))) (congrArg Value.int (congrFun ((hx221.2.2.1 13 (by decide)).trans ((hx220.2.2.1 13 (by decide)).trans ((hx215.2.2.1 13 (by decide)).trans ((hx201.2.2.1 13 (by decide)).trans ((hx173.2.2.1 13 (by decide)).trans ((hx172.2.2.1 13 (by decide)).trans (hx1.2.2.1 13 (by decide)))))))) _)) ?_
                refine gz_aload_n dX12_tells_183 rfl rfl ?_
                refine mg_41 hS_221 dX12_tells_184 ?_
                refine gz_iload_n dX12_tells_187 rfl rfl ?_
                refine m_iald 14 hS_221 rfl (N := 880) rfl ((by exact vin_T (rfl : (x1).toInt = (x1).toInt) (by omega) (by omega))) dX12_tells_188 ?_
                refine gz_ev (w := .int ((F 14) (Int32.toNatClampNeg x1))) (congrArg Value.int (congrFun ((hx221.2.2.1 14 (by decide)).trans ((hx220.2.2.1 14 (by decide)).trans ((hx215.2.2.1 14 (by decide)).trans ((hx201.2.2.1 14 (by decide)).trans ((hx173.2.2.1 14 (by decide)).trans ((hx172.2.2.1 14 (by decide)).trans (hx1.2.2.1 14 (by decide)))))))) _)) ?_
                have hxx189 : fx [88, 89] [] [87] [] n z F G n_221 z_221 F_221 G_221 := (fx_tr (fx_tr (fx_tr (fx_tr (fx_tr (fx_tr (fx_tr fx_rf hx1 (by decide)) hx172 (by decide)) hx173 (by decide)) hx201 (by decide)) hx215 (by decide)) hx220 (by decide)) hx221 (by decide))
                refine scX12_558 (k_X12_sums (x1 := x1) (x2 := ((F 13) (Int32.toNatClampNeg x1))) (x3 := ((F 14) (Int32.toNatClampNeg x1))) hS_221 (rAll_w (fun k hk => hxx189.2.2.1 k ((by decide : ∀ k : Nat, k ∈ wK → k ∉ ([87] : List Nat)) k hk)) bA) (by omega) (by omega) (by (try rw [(show n_221 88 = (n_221 88) from rfl)]); omega)) hS_221.1 ⟨(Nat.le_of_ble_eq_true rfl), (Nat.le_of_ble_eq_true rfl)⟩ ⟨(Nat.le_of_ble_eq_true rfl), (Nat.le_of_ble_eq_true rfl)⟩ rfl rfl (Nat.le_of_ble_eq_true rfl) dX12_tells_189 ?_
                rintro f_222 ⟨n_222, z_222, F_222, G_222, hS_222, hx222, h8a_222, h8b_222⟩
                refine gz_aload_n dX12_tells_192 rfl rfl ?_
                refine gz_bipush (v := 58) dX12_tells_193 (by decide) ?_
                refine scX12_547 (k_X12_signs (x1 := 58) hS_222 (by (try rw [(show n_222 88 = (n_222 88) from rfl)]); omega)) hS_222.1 ⟨(Nat.le_of_ble_eq_true rfl), (Nat.le_of_ble_eq_true rfl)⟩ ⟨(Nat.le_of_ble_eq_true rfl), (Nat.le_of_ble_eq_true rfl)⟩ rfl rfl (Nat.le_of_ble_eq_true rfl) dX12_tells_195 ?_
                rintro f_223 ⟨n_223, z_223, F_223, G_223, hS_223, hx223, h8_223⟩
                exact gz_vret rfl dX12_tells_198 (Nat.le_of_ble_eq_true rfl) (Nat.le_of_ble_eq_true rfl) (⟨rfl, _, _, _, _, hS_223, (fx_tr (fx_tr (fx_tr (fx_tr (fx_tr (fx_tr (fx_tr (fx_tr (fx_tr fx_rf hx1 (by decide)) hx172 (by decide)) hx173 (by decide)) hx201 (by decide)) hx215 (by decide)) hx220 (by decide)) hx221 (by decide)) hx222 (by decide)) hx223 (by decide)), (by (try rw [(show n_223 88 = (n_223 88) from rfl)]); omega), (by (try rw [(show n_223 88 = (n_223 88) from rfl)]); omega), (by (try rw [(show n_223 88 = (n_223 88) from rfl)]); omega)⟩)
            ·
              try simp only [mIn_0, lgc_lt, lgc_gt, lgc_le, lgc_ge, lgc_eq] at c_132
              try simp only [fl_lt, fl_le, fl_eq, fL_w, fL_lt, fL_le, tm1, tm10k, tm9, tm99, Int32.reduceToInt, Int64.reduceToInt, Int.not_lt, Int.not_le] at c_132
              refine gz_aload_n dX12_tells_135 rfl rfl ?_
              refine gz_bipush (v := 61) dX12_tells_136 (by decide) ?_
              refine scX12_547 (k_X12_signs (x1 := 61) hS_215 (by (try rw [(show n_215 88 = (n_215 88) from rfl)]); omega)) hS_215.1 ⟨(Nat.le_of_ble_eq_true rfl), (Nat.le_of_ble_eq_true rfl)⟩ ⟨(Nat.le_of_ble_eq_true rfl), (Nat.le_of_ble_eq_true rfl)⟩ rfl rfl (Nat.le_of_ble_eq_true rfl) dX12_tells_138 ?_
              rintro f_224 ⟨n_224, z_224, F_224, G_224, hS_224, hx224, h8_224⟩
              refine gz_aload_n dX12_tells_141 rfl rfl ?_
              refine gz_iload_n dX12_tells_142 rfl rfl ?_
              refine gz_aload_n dX12_tells_143 rfl rfl ?_
              refine mg_41 hS_224 dX12_tells_144 ?_
              refine gz_iload_n dX12_tells_147 rfl rfl ?_
              refine m_iald 14 hS_224 rfl (N := 880) rfl ((by exact vin_T (rfl : (x1).toInt = (x1).toInt) (by omega) (by omega))) dX12_tells_148 ?_
              refine gz_ev (w := .int ((F 14) (Int32.toNatClampNeg x1))) (congrArg Value.int (congrFun ((hx224.2.2.1 14 (by decide)).trans ((hx215.2.2.1 14 (by decide)).trans ((hx201.2.2.1 14 (by decide)).trans ((hx173.2.2.1 14 (by decide)).trans ((hx172.2.2.1 14 (by decide)).trans (hx1.2.2.1 14 (by decide))))))) _)) ?_
              refine gz_aload_n dX12_tells_149 rfl rfl ?_
              refine mg_44 hS_224 dX12_tells_150 ?_
              refine gz_iload_n dX12_tells_153 rfl rfl ?_
              refine m_iald 15 hS_224 rfl (N := 880) rfl ((by exact vin_T (rfl : (x1).toInt = (x1).toInt) (by omega) (by omega))) dX12_tells_154 ?_
              refine gz_ev (w := .int ((F 15) (Int32.toNatClampNeg x1))) (congrArg Value.int (congrFun ((hx224.2.2.1 15 (by decide)).trans ((hx215.2.2.1 15 (by decide)).trans ((hx201.2.2.1 15 (by decide)).trans ((hx173.2.2.1 15 (by decide)).trans ((hx172.2.2.1 15 (by decide)).trans (hx1.2.2.1 15 (by decide))))))) _)) ?_
              have hxx155 : fx [88, 89] [] [87] [] n z F G n_224 z_224 F_224 G_224 := (fx_tr (fx_tr (fx_tr (fx_tr (fx_tr (fx_tr fx_rf hx1 (by decide)) hx172 (by decide)) hx173 (by decide)) hx201 (by decide)) hx215 (by decide)) hx224 (by decide))
              refine scX12_558 (k_X12_sums (x1 := x1) (x2 := ((F 14) (Int32.toNatClampNeg x1))) (x3 := ((F 15) (Int32.toNatClampNeg x1))) hS_224 (rAll_w (fun k hk => hxx155.2.2.1 k ((by decide : ∀ k : Nat, k ∈ wK → k ∉ ([87] : List Nat)) k hk)) bA) (by omega) (by omega) (by (try rw [(show n_224 88 = (n_224 88) from rfl)]); omega)) hS_224.1 ⟨(Nat.le_of_ble_eq_true rfl), (Nat.le_of_ble_eq_true rfl)⟩ ⟨(Nat.le_of_ble_eq_true rfl), (Nat.le_of_ble_eq_true rfl)⟩ rfl rfl (Nat.le_of_ble_eq_true rfl) dX12_tells_155 ?_
              rintro f_225 ⟨n_225, z_225, F_225, G_225, hS_225, hx225, h8a_225, h8b_225⟩
              refine gz_aload_n dX12_tells_158 rfl rfl ?_
              refine gz_bipush (v := 58) dX12_tells_159 (by decide) ?_
              refine scX12_547 (k_X12_signs (x1 := 58) hS_225 (by (try rw [(show n_225 88 = (n_225 88) from rfl)]); omega)) hS_225.1 ⟨(Nat.le_of_ble_eq_true rfl), (Nat.le_of_ble_eq_true rfl)⟩ ⟨(Nat.le_of_ble_eq_true rfl), (Nat.le_of_ble_eq_true rfl)⟩ rfl rfl (Nat.le_of_ble_eq_true rfl) dX12_tells_161 ?_
              rintro f_226 ⟨n_226, z_226, F_226, G_226, hS_226, hx226, h8_226⟩
              refine gz_aload_n dX12_tells_164 rfl rfl ?_
              refine mg_20 hS_226 dX12_tells_165 ?_
              refine gz_iload_n dX12_tells_168 rfl rfl ?_
              refine m_iald 7 hS_226 rfl (N := 880) rfl ((by exact vin_T (rfl : (x1).toInt = (x1).toInt) (by omega) (by omega))) dX12_tells_169 ?_
              refine gz_ev (w := .int ((F 7) (Int32.toNatClampNeg x1))) (congrArg Value.int (congrFun ((hx226.2.2.1 7 (by decide)).trans ((hx225.2.2.1 7 (by decide)).trans ((hx224.2.2.1 7 (by decide)).trans ((hx215.2.2.1 7 (by decide)).trans ((hx201.2.2.1 7 (by decide)).trans ((hx173.2.2.1 7 (by decide)).trans ((hx172.2.2.1 7 (by decide)).trans (hx1.2.2.1 7 (by decide))))))))) _)) ?_
              refine gz_bipush (v := 9) dX12_tells_170 (by decide) ?_
              refine gz_icmp_ne (tgt := 198) dX12_tells_172 (by decide) (fun c_172 => ?_) (fun c_172 => ?_)
              ·
                try simp only [mIn_0, lgc_lt, lgc_gt, lgc_le, lgc_ge, lgc_eq] at c_172
                try simp only [fl_lt, fl_le, fl_eq, fL_w, fL_lt, fL_le, tm1, tm10k, tm9, tm99, Int32.reduceToInt, Int64.reduceToInt, Int.not_lt, Int.not_le] at c_172
                exact gz_vret rfl dX12_tells_198 (Nat.le_of_ble_eq_true rfl) (Nat.le_of_ble_eq_true rfl) (⟨rfl, _, _, _, _, hS_226, (fx_tr (fx_tr (fx_tr (fx_tr (fx_tr (fx_tr (fx_tr (fx_tr fx_rf hx1 (by decide)) hx172 (by decide)) hx173 (by decide)) hx201 (by decide)) hx215 (by decide)) hx224 (by decide)) hx225 (by decide)) hx226 (by decide)), (by (try rw [(show n_226 88 = (n_226 88) from rfl)]); omega), (by (try rw [(show n_226 88 = (n_226 88) from rfl)]); omega), (by (try rw [(show n_226 88 = (n_226 88) from rfl)]); omega)⟩)
              ·
                try simp only [mIn_0, lgc_lt, lgc_gt, lgc_le, lgc_ge, lgc_eq] at c_172
                try simp only [fl_lt, fl_le, fl_eq, fL_w, fL_lt, fL_le, tm1, tm10k, tm9, tm99, Int32.reduceToInt, Int64.reduceToInt, Int.not_lt, Int.not_le] at c_172
                refine gz_aload_n dX12_tells_175 rfl rfl ?_
                refine gz_iload_n dX12_tells_176 rfl rfl ?_
                refine gz_aload_n dX12_tells_177 rfl rfl ?_
                refine mg_38 hS_226 dX12_tells_178 ?_
                refine gz_iload_n dX12_tells_181 rfl rfl ?_
                refine m_iald 13 hS_226 rfl (N := 880) rfl ((by exact vin_T (rfl : (x1).toInt = (x1).toInt) (by omega) (by omega))) dX12_tells_182 ?_
                refine gz_ev (w := .int ((F 13) (Int32.toNatClampNeg x1))) (congrArg Value.int (congrFun ((hx226.2.2.1 13 (by decide)).trans ((hx225.2.2.1 13 (by decide)).trans ((hx224.2.2.1 13 (by decide)).trans ((hx215.2.2.1 13 (by decide)).trans ((hx201.2.2.1 13 (by decide)).trans ((hx173.2.2.1 13 (by decide)).trans ((hx172.2.2.1 13 (by decide)).trans (hx1.2.2.1 13 (by decide))))))))) _)) ?_
                refine gz_aload_n dX12_tells_183 rfl rfl ?_
                refine mg_41 hS_226 dX12_tells_184 ?_
                refine gz_iload_n dX12_tells_187 rfl rfl ?_
                refine m_iald 14 hS_226 rfl (N := 880) rfl ((by exact vin_T (rfl : (x1).toInt = (x1).toInt) (by omega) (by omega))) dX12_tells_188 ?_
                refine gz_ev (w := .int ((F 14) (Int32.toNatClampNeg x1))) (congrArg Value.int (congrFun ((hx226.2.2.1 14 (by decide)).trans ((hx225.2.2.1 14 (by decide)).trans ((hx224.2.2.1 14 (by decide)).trans ((hx215.2.2.1 14 (by decide)).trans ((hx201.2.2.1 14 (by decide)).trans ((hx173.2.2.1 14 (by decide)).trans ((hx172.2.2.1 14 (by decide)).trans (hx1.2.2.1 14 (by decide))))))))) _)) ?_
                have hxx189 : fx [88, 89] [] [87] [] n z F G n_226 z_226 F_226 G_226 := (fx_tr (fx_tr (fx_tr (fx_tr (fx_tr (fx_tr (fx_tr (fx_tr fx_rf hx1 (by decide)) hx172 (by decide)) hx173 (by decide)) hx201 (by decide)) hx215 (by decide)) hx224 (by decide)) hx225 (by decide)) hx226 (by decide))
                refine scX12_558 (k_X12_sums (x1 := x1) (x2 := ((F 13) (Int32.toNatClampNeg x1))) (x3 := ((F 14) (Int32.toNatClampNeg x1))) hS_226 (rAll_w (fun k hk => hxx189.2.2.1 k ((by decide : ∀ k : Nat, k ∈ wK → k ∉ ([87] : List Nat)) k hk)) bA) (by omega) (by omega) (by (try rw [(show n_226 88 = (n_226 88) from rfl)]); omega)) hS_226.1 ⟨(Nat.le_of_ble_eq_true rfl), (Nat.le_of_ble_eq_true rfl)⟩ ⟨(Nat.le_of_ble_eq_true rfl), (Nat.le_of_ble_eq_true rfl)⟩ rfl rfl (Nat.le_of_ble_eq_true rfl) dX12_tells_189 ?_
                rintro f_227 ⟨n_227, z_227, F_227, G_227, hS_227, hx227, h8a_227, h8b_227⟩
                refine gz_aload_n dX12_tells_192 rfl rfl ?_
                refine gz_bipush (v := 58) dX12_tells_193 (by decide) ?_
                refine scX12_547 (k_X12_signs (x1 := 58) hS_227 (by (try rw [(show n_227 88 = (n_227 88) from rfl)]); omega)) hS_227.1 ⟨(Nat.le_of_ble_eq_true rfl), (Nat.le_of_ble_eq_true rfl)⟩ ⟨(Nat.le_of_ble_eq_true rfl), (Nat.le_of_ble_eq_true rfl)⟩ rfl rfl (Nat.le_of_ble_eq_true rfl) dX12_tells_195 ?_
                rintro f_228 ⟨n_228, z_228, F_228, G_228, hS_228, hx228, h8_228⟩
                exact gz_vret rfl dX12_tells_198 (Nat.le_of_ble_eq_true rfl) (Nat.le_of_ble_eq_true rfl) (⟨rfl, _, _, _, _, hS_228, (fx_tr (fx_tr (fx_tr (fx_tr (fx_tr (fx_tr (fx_tr (fx_tr (fx_tr (fx_tr fx_rf hx1 (by decide)) hx172 (by decide)) hx173 (by decide)) hx201 (by decide)) hx215 (by decide)) hx224 (by decide)) hx225 (by decide)) hx226 (by decide)) hx227 (by decide)) hx228 (by decide)), (by (try rw [(show n_228 88 = (n_228 88) from rfl)]); omega), (by (try rw [(show n_228 88 = (n_228 88) from rfl)]); omega), (by (try rw [(show n_228 88 = (n_228 88) from rfl)]); omega)⟩)
    ·
      try simp only [mIn_0, lgc_lt, lgc_gt, lgc_le, lgc_ge, lgc_eq] at c_42
      try simp only [fl_lt, fl_le, fl_eq, fL_w, fL_lt, fL_le, tm1, tm10k, tm9, tm99, Int32.reduceToInt, Int64.reduceToInt, Int.not_lt, Int.not_le] at c_42
      refine gz_aload_n dX12_tells_45 rfl rfl ?_
      refine mg_20 hS_172 dX12_tells_46 ?_
      refine gz_iload_n dX12_tells_49 rfl rfl ?_
      refine m_iald 7 hS_172 rfl (N := 880) rfl ((by exact vin_T (rfl : (x1).toInt = (x1).toInt) (by omega) (by omega))) dX12_tells_50 ?_
      refine gz_ev (w := .int ((F 7) (Int32.toNatClampNeg x1))) (congrArg Value.int (congrFun ((hx172.2.2.1 7 (by decide)).trans (hx1.2.2.1 7 (by decide))) _)) ?_
      refine gz_bipush (v := 7) dX12_tells_51 (by decide) ?_
      refine gz_icmp_eq (tgt := 67) dX12_tells_53 (by decide) (fun c_53 => ?_) (fun c_53 => ?_)
      ·
        try simp only [mIn_0, lgc_lt, lgc_gt, lgc_le, lgc_ge, lgc_eq] at c_53
        try simp only [fl_lt, fl_le, fl_eq, fL_w, fL_lt, fL_le, tm1, tm10k, tm9, tm99, Int32.reduceToInt, Int64.reduceToInt, Int.not_lt, Int.not_le] at c_53
        refine gz_aload_n dX12_tells_67 rfl rfl ?_
        refine gz_iload_n dX12_tells_68 rfl rfl ?_
        refine gz_aload_n dX12_tells_69 rfl rfl ?_
        refine mg_38 hS_172 dX12_tells_70 ?_
        refine gz_iload_n dX12_tells_73 rfl rfl ?_
        refine m_iald 13 hS_172 rfl (N := 880) rfl ((by exact vin_T (rfl : (x1).toInt = (x1).toInt) (by omega) (by omega))) dX12_tells_74 ?_
        refine gz_ev (w := .int ((F 13) (Int32.toNatClampNeg x1))) (congrArg Value.int (congrFun ((hx172.2.2.1 13 (by decide)).trans (hx1.2.2.1 13 (by decide))) _)) ?_
        refine gz_aload_n dX12_tells_75 rfl rfl ?_
        refine mg_41 hS_172 dX12_tells_76 ?_
        refine gz_iload_n dX12_tells_79 rfl rfl ?_
        refine m_iald 14 hS_172 rfl (N := 880) rfl ((by exact vin_T (rfl : (x1).toInt = (x1).toInt) (by omega) (by omega))) dX12_tells_80 ?_
        refine gz_ev (w := .int ((F 14) (Int32.toNatClampNeg x1))) (congrArg Value.int (congrFun ((hx172.2.2.1 14 (by decide)).trans (hx1.2.2.1 14 (by decide))) _)) ?_
        have hxx81 : fx [88, 89] [] [87] [] n z F G n_172 z_172 F_172 G_172 := (fx_tr (fx_tr fx_rf hx1 (by decide)) hx172 (by decide))
        refine scX12_558 (k_X12_sums (x1 := x1) (x2 := ((F 13) (Int32.toNatClampNeg x1))) (x3 := ((F 14) (Int32.toNatClampNeg x1))) hS_172 (rAll_w (fun k hk => hxx81.2.2.1 k ((by decide : ∀ k : Nat, k ∈ wK → k ∉ ([87] : List Nat)) k hk)) bA) (by omega) (by omega) (by (try rw [(show n_172 88 = (n_172 88) from rfl)]); omega)) hS_172.1 ⟨(Nat.le_of_ble_eq_true rfl), (Nat.le_of_ble_eq_true rfl)⟩ ⟨(Nat.le_of_ble_eq_true rfl), (Nat.le_of_ble_eq_true rfl)⟩ rfl rfl (Nat.le_of_ble_eq_true rfl) dX12_tells_81 ?_
        rintro f_229 ⟨n_229, z_229, F_229, G_229, hS_229, hx229, h8a_229, h8b_229⟩
        refine gz_aload_n dX12_tells_84 rfl rfl ?_
        refine mg_47 hS_229 dX12_tells_85 ?_
        refine gz_iload_n dX12_tells_88 rfl rfl ?_
        refine m_iald 16 hS_229 rfl (N := 880) rfl ((by exact vin_T (rfl : (x1).toInt = (x1).toInt) (by omega) (by omega))) dX12_tells_89 ?_
        refine gz_ev (w := .int ((F 16) (Int32.toNatClampNeg x1))) (congrArg Value.int (congrFun ((hx229.2.2.1 16 (by decide)).trans ((hx172.2.2.1 16 (by decide)).trans (hx1.2.2.1 16 (by decide)))) _)) ?_
        refine gz_iconst (v := 2) dX12_tells_90 (by decide) ?_
        refine gz_icmp_ge (tgt := 100) dX12_tells_91 (by decide) (fun c_91 => ?_) (fun c_91 => ?_)
        ·
          try simp only [mIn_0, lgc_lt, lgc_gt, lgc_le, lgc_ge, lgc_eq] at c_91
          try simp only [fl_lt, fl_le, fl_eq, fL_w, fL_lt, fL_le, tm1, tm10k, tm9, tm99, Int32.reduceToInt, Int64.reduceToInt, Int.not_lt, Int.not_le] at c_91
          refine gz_aload_n dX12_tells_100 rfl rfl ?_
          refine mg_47 hS_229 dX12_tells_101 ?_
          refine gz_iload_n dX12_tells_104 rfl rfl ?_
          refine m_iald 16 hS_229 rfl (N := 880) rfl ((by exact vin_T (rfl : (x1).toInt = (x1).toInt) (by omega) (by omega))) dX12_tells_105 ?_
          refine gz_ev (w := .int ((F 16) (Int32.toNatClampNeg x1))) (congrArg Value.int (congrFun ((hx229.2.2.1 16 (by decide)).trans ((hx172.2.2.1 16 (by decide)).trans (hx1.2.2.1 16 (by decide)))) _)) ?_
          refine gz_iconst (v := 2) dX12_tells_106 (by decide) ?_
          refine gz_icmp_le (tgt := 116) dX12_tells_107 (by decide) (fun c_107 => ?_) (fun c_107 => ?_)
          ·
            try simp only [mIn_0, lgc_lt, lgc_gt, lgc_le, lgc_ge, lgc_eq] at c_107
            try simp only [fl_lt, fl_le, fl_eq, fL_w, fL_lt, fL_le, tm1, tm10k, tm9, tm99, Int32.reduceToInt, Int64.reduceToInt, Int.not_lt, Int.not_le] at c_107
            refine gz_aload_n dX12_tells_116 rfl rfl ?_
            refine mg_47 hS_229 dX12_tells_117 ?_
            refine gz_iload_n dX12_tells_120 rfl rfl ?_
            refine m_iald 16 hS_229 rfl (N := 880) rfl ((by exact vin_T (rfl : (x1).toInt = (x1).toInt) (by omega) (by omega))) dX12_tells_121 ?_
            refine gz_ev (w := .int ((F 16) (Int32.toNatClampNeg x1))) (congrArg Value.int (congrFun ((hx229.2.2.1 16 (by decide)).trans ((hx172.2.2.1 16 (by decide)).trans (hx1.2.2.1 16 (by decide)))) _)) ?_
            refine gz_if_le (tgt := 141) dX12_tells_122 (by decide) (fun c_122 => ?_) (fun c_122 => ?_)
            ·
              try simp only [mIn_0, lgc_lt, lgc_gt, lgc_le, lgc_ge, lgc_eq] at c_122
              try simp only [fl_lt, fl_le, fl_eq, fL_w, fL_lt, fL_le, tm1, tm10k, tm9, tm99, Int32.reduceToInt, Int64.reduceToInt, Int.not_lt, Int.not_le] at c_122
              refine gz_aload_n dX12_tells_141 rfl rfl ?_
              refine gz_iload_n dX12_tells_142 rfl rfl ?_
              refine gz_aload_n dX12_tells_143 rfl rfl ?_
              refine mg_41 hS_229 dX12_tells_144 ?_
              refine gz_iload_n dX12_tells_147 rfl rfl ?_
              refine m_iald 14 hS_229 rfl (N := 880) rfl ((by exact vin_T (rfl : (x1).toInt = (x1).toInt) (by omega) (by omega))) dX12_tells_148 ?_
              refine gz_ev (w := .int ((F 14) (Int32.toNatClampNeg x1))) (congrArg Value.int (congrFun ((hx229.2.2.1 14 (by decide)).trans ((hx172.2.2.1 14 (by decide)).trans (hx1.2.2.1 14 (by decide)))) _)) ?_
              refine gz_aload_n dX12_tells_149 rfl rfl ?_
              refine mg_44 hS_229 dX12_tells_150 ?_
              refine gz_iload_n dX12_tells_153 rfl rfl ?_
              refine m_iald 15 hS_229 rfl (N := 880) rfl ((by exact vin_T (rfl : (x1).toInt = (x1).toInt) (by omega) (by omega))) dX12_tells_154 ?_
              refine gz_ev (w := .int ((F 15) (Int32.toNatClampNeg x1))) (congrArg Value.int (congrFun ((hx229.2.2.1 15 (by decide)).trans ((hx172.2.2.1 15 (by decide)).trans (hx1.2.2.1 15 (by decide)))) _)) ?_
              have hxx155 : fx [88, 89] [] [87] [] n z F G n_229 z_229 F_229 G_229 := (fx_tr (fx_tr (fx_tr fx_rf hx1 (by decide)) hx172 (by decide)) hx229 (by decide))
              refine scX12_558 (k_X12_sums (x1 := x1) (x2 := ((F 14) (Int32.toNatClampNeg x1))) (x3 := ((F 15) (Int32.toNatClampNeg x1))) hS_229 (rAll_w (fun k hk => hxx155.2.2.1 k ((by decide : ∀ k : Nat, k ∈ wK → k ∉ ([87] : List Nat)) k hk)) bA) (by omega) (by omega) (by (try rw [(show n_229 88 = (n_229 88) from rfl)]); omega)) hS_229.1 ⟨(Nat.le_of_ble_eq_true rfl), (Nat.le_of_ble_eq_true rfl)⟩ ⟨(Nat.le_of_ble_eq_true rfl), (Nat.le_of_ble_eq_true rfl)⟩ rfl rfl (Nat.le_of_ble_eq_true rfl) dX12_tells_155 ?_
              rintro f_230 ⟨n_230, z_230, F_230, G_230, hS_230, hx230, h8a_230, h8b_230⟩
              refine gz_aload_n dX12_tells_158 rfl rfl ?_
              refine gz_bipush (v := 58) dX12_tells_159 (by decide) ?_
              refine scX12_547 (k_X12_signs (x1 := 58) hS_230 (by (try rw [(show n_230 88 = (n_230 88) from rfl)]); omega)) hS_230.1 ⟨(Nat.le_of_ble_eq_true rfl), (Nat.le_of_ble_eq_true rfl)⟩ ⟨(Nat.le_of_ble_eq_true rfl), (Nat.le_of_ble_eq_true rfl)⟩ rfl rfl (Nat.le_of_ble_eq_true rfl) dX12_tells_161 ?_
              rintro f_231 ⟨n_231, z_231, F_231, G_231, hS_231, hx231, h8_231⟩
              refine gz_aload_n dX12_tells_164 rfl rfl ?_
              refine mg_20 hS_231 dX12_tells_165 ?_
              refine gz_iload_n dX12_tells_168 rfl rfl ?_
              refine m_iald 7 hS_231 rfl (N := 880) rfl ((by exact vin_T (rfl : (x1).toInt = (x1).toInt) (by omega) (by omega))) dX12_tells_169 ?_
              refine gz_ev (w := .int ((F 7) (Int32.toNatClampNeg x1))) (congrArg Value.int (congrFun ((hx231.2.2.1 7 (by decide)).trans ((hx230.2.2.1 7 (by decide)).trans ((hx229.2.2.1 7 (by decide)).trans ((hx172.2.2.1 7 (by decide)).trans (hx1.2.2.1 7 (by decide)))))) _)) ?_
              refine gz_bipush (v := 9) dX12_tells_170 (by decide) ?_
              refine gz_icmp_ne (tgt := 198) dX12_tells_172 (by decide) (fun c_172 => ?_) (fun c_172 => ?_)
              ·
                try simp only [mIn_0, lgc_lt, lgc_gt, lgc_le, lgc_ge, lgc_eq] at c_172
                try simp only [fl_lt, fl_le, fl_eq, fL_w, fL_lt, fL_le, tm1, tm10k, tm9, tm99, Int32.reduceToInt, Int64.reduceToInt, Int.not_lt, Int.not_le] at c_172
                exact gz_vret rfl dX12_tells_198 (Nat.le_of_ble_eq_true rfl) (Nat.le_of_ble_eq_true rfl) (⟨rfl, _, _, _, _, hS_231, (fx_tr (fx_tr (fx_tr (fx_tr (fx_tr fx_rf hx1 (by decide)) hx172 (by decide)) hx229 (by decide)) hx230 (by decide)) hx231 (by decide)), (by (try rw [(show n_231 88 = (n_231 88) from rfl)]); omega), (by (try rw [(show n_231 88 = (n_231 88) from rfl)]); omega), (by (try rw [(show n_231 88 = (n_231 88) from rfl)]); omega)⟩)
              ·
                try simp only [mIn_0, lgc_lt, lgc_gt, lgc_le, lgc_ge, lgc_eq] at c_172
                try simp only [fl_lt, fl_le, fl_eq, fL_w, fL_lt, fL_le, tm1, tm10k, tm9, tm99, Int32.reduceToInt, Int64.reduceToInt, Int.not_lt, Int.not_le] at c_172
                refine gz_aload_n dX12_tells_175 rfl rfl ?_
                refine gz_iload_n dX12_tells_176 rfl rfl ?_
                refine gz_aload_n dX12_tells_177 rfl rfl ?_
                refine mg_38 hS_231 dX12_tells_178 ?_
                refine gz_iload_n dX12_tells_181 rfl rfl ?_
                refine m_iald 13 hS_231 rfl (N := 880) rfl ((by exact vin_T (rfl : (x1).toInt = (x1).toInt) (by omega) (by omega))) dX12_tells_182 ?_
                refine gz_ev (w := .int ((F 13) (Int32.toNatClampNeg x1))) (congrArg Value.int (congrFun ((hx231.2.2.1 13 (by decide)).trans ((hx230.2.2.1 13 (by decide)).trans ((hx229.2.2.1 13 (by decide)).trans ((hx172.2.2.1 13 (by decide)).trans (hx1.2.2.1 13 (by decide)))))) _)) ?_
                refine gz_aload_n dX12_tells_183 rfl rfl ?_
                refine mg_41 hS_231 dX12_tells_184 ?_
                refine gz_iload_n dX12_tells_187 rfl rfl ?_
                refine m_iald 14 hS_231 rfl (N := 880) rfl ((by exact vin_T (rfl : (x1).toInt = (x1).toInt) (by omega) (by omega))) dX12_tells_188 ?_
                refine gz_ev (w := .int ((F 14) (Int32.toNatClampNeg x1))) (congrArg Value.int (congrFun ((hx231.2.2.1 14 (by decide)).trans ((hx230.2.2.1 14 (by decide)).trans ((hx229.2.2.1 14 (by decide)).trans ((hx172.2.2.1 14 (by decide)).trans (hx1.2.2.1 14 (by decide)))))) _)) ?_
                have hxx189 : fx [88, 89] [] [87] [] n z F G n_231 z_231 F_231 G_231 := (fx_tr (fx_tr (fx_tr (fx_tr (fx_tr fx_rf hx1 (by decide)) hx172 (by decide)) hx229 (by decide)) hx230 (by decide)) hx231 (by decide))
                refine scX12_558 (k_X12_sums (x1 := x1) (x2 := ((F 13) (Int32.toNatClampNeg x1))) (x3 := ((F 14) (Int32.toNatClampNeg x1))) hS_231 (rAll_w (fun k hk => hxx189.2.2.1 k ((by decide : ∀ k : Nat, k ∈ wK → k ∉ ([87] : List Nat)) k hk)) bA) (by omega) (by omega) (by (try rw [(show n_231 88 = (n_231 88) from rfl)]); omega)) hS_231.1 ⟨(Nat.le_of_ble_eq_true rfl), (Nat.le_of_ble_eq_true rfl)⟩ ⟨(Nat.le_of_ble_eq_true rfl), (Nat.le_of_ble_eq_true rfl)⟩ rfl rfl (Nat.le_of_ble_eq_true rfl) dX12_tells_189 ?_
                rintro f_232 ⟨n_232, z_232, F_232, G_232, hS_232, hx232, h8a_232, h8b_232⟩
                refine gz_aload_n dX12_tells_192 rfl rfl ?_
                refine gz_bipush (v := 58) dX12_tells_193 (by decide) ?_
                refine scX12_547 (k_X12_signs (x1 := 58) hS_232 (by (try rw [(show n_232 88 = (n_232 88) from rfl)]); omega)) hS_232.1 ⟨(Nat.le_of_ble_eq_true rfl), (Nat.le_of_ble_eq_true rfl)⟩ ⟨(Nat.le_of_ble_eq_true rfl), (Nat.le_of_ble_eq_true rfl)⟩ rfl rfl (Nat.le_of_ble_eq_true rfl) dX12_tells_195 ?_
                rintro f_233 ⟨n_233, z_233, F_233, G_233, hS_233, hx233, h8_233⟩
                exact gz_vret rfl dX12_tells_198 (Nat.le_of_ble_eq_true rfl) (Nat.le_of_ble_eq_true rfl) (⟨rfl, _, _, _, _, hS_233, (fx_tr (fx_tr (fx_tr (fx_tr (fx_tr (fx_tr (fx_tr fx_rf hx1 (by decide)) hx172 (by decide)) hx229 (by decide)) hx230 (by decide)) hx231 (by decide)) hx232 (by decide)) hx233 (by decide)), (by (try rw [(show n_233 88 = (n_233 88) from rfl)]); omega), (by (try rw [(show n_233 88 = (n_233 88) from rfl)]); omega), (by (try rw [(show n_233 88 = (n_233 88) from rfl)]); omega)⟩)
            ·
              try simp only [mIn_0, lgc_lt, lgc_gt, lgc_le, lgc_ge, lgc_eq] at c_122
              try simp only [fl_lt, fl_le, fl_eq, fL_w, fL_lt, fL_le, tm1, tm10k, tm9, tm99, Int32.reduceToInt, Int64.reduceToInt, Int.not_lt, Int.not_le] at c_122
              refine gz_aload_n dX12_tells_125 rfl rfl ?_
              refine mg_47 hS_229 dX12_tells_126 ?_
              refine gz_iload_n dX12_tells_129 rfl rfl ?_
              refine m_iald 16 hS_229 rfl (N := 880) rfl ((by exact vin_T (rfl : (x1).toInt = (x1).toInt) (by omega) (by omega))) dX12_tells_130 ?_
              refine gz_ev (w := .int ((F 16) (Int32.toNatClampNeg x1))) (congrArg Value.int (congrFun ((hx229.2.2.1 16 (by decide)).trans ((hx172.2.2.1 16 (by decide)).trans (hx1.2.2.1 16 (by decide)))) _)) ?_
              refine gz_iconst (v := 4) dX12_tells_131 (by decide) ?_
              refine gz_icmp_ge (tgt := 141) dX12_tells_132 (by decide) (fun c_132 => ?_) (fun c_132 => ?_)
              ·
                try simp only [mIn_0, lgc_lt, lgc_gt, lgc_le, lgc_ge, lgc_eq] at c_132
                try simp only [fl_lt, fl_le, fl_eq, fL_w, fL_lt, fL_le, tm1, tm10k, tm9, tm99, Int32.reduceToInt, Int64.reduceToInt, Int.not_lt, Int.not_le] at c_132
                refine gz_aload_n dX12_tells_141 rfl rfl ?_
                refine gz_iload_n dX12_tells_142 rfl rfl ?_
                refine gz_aload_n dX12_tells_143 rfl rfl ?_
                refine mg_41 hS_229 dX12_tells_144 ?_
                refine gz_iload_n dX12_tells_147 rfl rfl ?_
                refine m_iald 14 hS_229 rfl (N := 880) rfl ((by exact vin_T (rfl : (x1).toInt = (x1).toInt) (by omega) (by omega))) dX12_tells_148 ?_
                refine gz_ev (w := .int ((F 14) (Int32.toNatClampNeg x1))) (congrArg Value.int (congrFun ((hx229.2.2.1 14 (by decide)).trans ((hx172.2.2.1 14 (by decide)).trans (hx1.2.2.1 14 (by decide)))) _)) ?_
                refine gz_aload_n dX12_tells_149 rfl rfl ?_
                refine mg_44 hS_229 dX12_tells_150 ?_
                refine gz_iload_n dX12_tells_153 rfl rfl ?_
                refine m_iald 15 hS_229 rfl (N := 880) rfl ((by exact vin_T (rfl : (x1).toInt = (x1).toInt) (by omega) (by omega))) dX12_tells_154 ?_
                refine gz_ev (w := .int ((F 15) (Int32.toNatClampNeg x1))) (congrArg Value.int (congrFun ((hx229.2.2.1 15 (by decide)).trans ((hx172.2.2.1 15 (by decide)).trans (hx1.2.2.1 15 (by decide)))) _)) ?_
                have hxx155 : fx [88, 89] [] [87] [] n z F G n_229 z_229 F_229 G_229 := (fx_tr (fx_tr (fx_tr fx_rf hx1 (by decide)) hx172 (by decide)) hx229 (by decide))
                refine scX12_558 (k_X12_sums (x1 := x1) (x2 := ((F 14) (Int32.toNatClampNeg x1))) (x3 := ((F 15) (Int32.toNatClampNeg x1))) hS_229 (rAll_w (fun k hk => hxx155.2.2.1 k ((by decide : ∀ k : Nat, k ∈ wK → k ∉ ([87] : List Nat)) k hk)) bA) (by omega) (by omega) (by (try rw [(show n_229 88 = (n_229 88) from rfl)]); omega)) hS_229.1 ⟨(Nat.le_of_ble_eq_true rfl), (Nat.le_of_ble_eq_true rfl)⟩ ⟨(Nat.le_of_ble_eq_true rfl), (Nat.le_of_ble_eq_true rfl)⟩ rfl rfl (Nat.le_of_ble_eq_true rfl) dX12_tells_155 ?_
                rintro f_234 ⟨n_234, z_234, F_234, G_234, hS_234, hx234, h8a_234, h8b_234⟩
                refine gz_aload_n dX12_tells_158 rfl rfl ?_
                refine gz_bipush (v := 58) dX12_tells_159 (by decide) ?_
                refine scX12_547 (k_X12_signs (x1 := 58) hS_234 (by (try rw [(show n_234 88 = (n_234 88) from rfl)]); omega)) hS_234.1 ⟨(Nat.le_of_ble_eq_true rfl), (Nat.le_of_ble_eq_true rfl)⟩ ⟨(Nat.le_of_ble_eq_true rfl), (Nat.le_of_ble_eq_true rfl)⟩ rfl rfl (Nat.le_of_ble_eq_true rfl) dX12_tells_161 ?_
                rintro f_235 ⟨n_235, z_235, F_235, G_235, hS_235, hx235, h8_235⟩
                refine gz_aload_n dX12_tells_164 rfl rfl ?_
                refine mg_20 hS_235 dX12_tells_165 ?_
                refine gz_iload_n dX12_tells_168 rfl rfl ?_
                refine m_iald 7 hS_235 rfl (N := 880) rfl ((by exact vin_T (rfl : (x1).toInt = (x1).toInt) (by omega) (by omega))) dX12_tells_169 ?_
                refine gz_ev (w := .int ((F 7) (Int32.toNatClampNeg x1))) (congrArg Value.int (congrFun ((hx235.2.2.1 7 (by decide)).trans ((hx234.2.2.1 7 (by decide)).trans ((hx229.2.2.1 7 (by decide)).trans ((hx172.2.2.1 7 (by decide)).trans (hx1.2.2.1 7 (by decide)))))) _)) ?_
                refine gz_bipush (v := 9) dX12_tells_170 (by decide) ?_
                refine gz_icmp_ne (tgt := 198) dX12_tells_172 (by decide) (fun c_172 => ?_) (fun c_172 => ?_)
                ·
                  try simp only [mIn_0, lgc_lt, lgc_gt, lgc_le, lgc_ge, lgc_eq] at c_172
                  try simp only [fl_lt, fl_le, fl_eq, fL_w, fL_lt, fL_le, tm1, tm10k, tm9, tm99, Int32.reduceToInt, Int64.reduceToInt, Int.not_lt, Int.not_le] at c_172
                  exact gz_vret rfl dX12_tells_198 (Nat.le_of_ble_eq_true rfl) (Nat.le_of_ble_eq_true rfl) (⟨rfl, _, _, _, _, hS_235, (fx_tr (fx_tr (fx_tr (fx_tr (fx_tr fx_rf hx1 (by decide)) hx172 (by decide)) hx229 (by decide)) hx234 (by decide)) hx235 (by decide)), (by (try rw [(show n_235 88 = (n_235 88) from rfl)]); omega), (by (try rw [(show n_235 88 = (n_235 88) from rfl)]); omega), (by (try rw [(show n_235 88 = (n_235 88) from rfl)]); omega)⟩)
                ·
                  try simp only [mIn_0, lgc_lt, lgc_gt, lgc_le, lgc_ge, lgc_eq] at c_172
                  try simp only [fl_lt, fl_le, fl_eq, fL_w, fL_lt, fL_le, tm1, tm10k, tm9, tm99, Int32.reduceToInt, Int64.reduceToInt, Int.not_lt, Int.not_le] at c_172
                  refine gz_aload_n dX12_tells_175 rfl rfl ?_
                  refine gz_iload_n dX12_tells_176 rfl rfl ?_
                  refine gz_aload_n dX12_tells_177 rfl rfl ?_
                  refine mg_38 hS_235 dX12_tells_178 ?_
                  refine gz_iload_n dX12_tells_181 rfl rfl ?_
                  refine m_iald 13 hS_235 rfl (N := 880) rfl ((by exact vin_T (rfl : (x1).toInt = (x1).toInt) (by omega) (by omega))) dX12_tells_182 ?_
                  refine gz_ev (w := .int ((F 13) (Int32.toNatClampNeg x1))) (congrArg Value.int (congrFun ((hx235.2.2.1 13 (by decide)).trans ((hx234.2.2.1 13 (by decide)).trans ((hx229.2.2.1 13 (by decide)).trans ((hx172.2.2.1 13 (by decide)).trans (hx1.2.2.1 13 (by decide)))))) _)) ?_
                  refine gz_aload_n dX12_tells_183 rfl rfl ?_
                  refine mg_41 hS_235 dX12_tells_184 ?_
                  refine gz_iload_n dX12_tells_187 rfl rfl ?_
                  refine m_iald 14 hS_235 rfl (N := 880) rfl ((by exact vin_T (rfl : (x1).toInt = (x1).toInt) (by omega) (by omega))) dX12_tells_188 ?_
                  refine gz_ev (w := .int ((F 14) (Int32.toNatClampNeg x1))) (congrArg Value.int (congrFun ((hx235.2.2.1 14 (by decide)).trans ((hx234.2.2.1 14 (by decide)).trans ((hx229.2.2.1 14 (by decide)).trans ((hx172.2.2.1 14 (by decide)).trans (hx1.2.2.1 14 (by decide)))))) _)) ?_
                  have hxx189 : fx [88, 89] [] [87] [] n z F G n_235 z_235 F_235 G_235 := (fx_tr (fx_tr (fx_tr (fx_tr (fx_tr fx_rf hx1 (by decide)) hx172 (by decide)) hx229 (by decide)) hx234 (by decide)) hx235 (by decide))
                  refine scX12_558 (k_X12_sums (x1 := x1) (x2 := ((F 13) (Int32.toNatClampNeg x1))) (x3 := ((F 14) (Int32.toNatClampNeg x1))) hS_235 (rAll_w (fun k hk => hxx189.2.2.1 k ((by decide : ∀ k : Nat, k ∈ wK → k ∉ ([87] : List Nat)) k hk)) bA) (by omega) (by omega) (by (try rw [(show n_235 88 = (n_235 88) from rfl)]); omega)) hS_235.1 ⟨(Nat.le_of_ble_eq_true rfl), (Nat.le_of_ble_eq_true rfl)⟩ ⟨(Nat.le_of_ble_eq_true rfl), (Nat.le_of_ble_eq_true rfl)⟩ rfl rfl (Nat.le_of_ble_eq_true rfl) dX12_tells_189 ?_
                  rintro f_236 ⟨n_236, z_236, F_236, G_236, hS_236, hx236, h8a_236, h8b_236⟩
                  refine gz_aload_n dX12_tells_192 rfl rfl ?_
                  refine gz_bipush (v := 58) dX12_tells_193 (by decide) ?_
                  refine scX12_547 (k_X12_signs (x1 := 58) hS_236 (by (try rw [(show n_236 88 = (n_236 88) from rfl)]); omega)) hS_236.1 ⟨(Nat.le_of_ble_eq_true rfl), (Nat.le_of_ble_eq_true rfl)⟩ ⟨(Nat.le_of_ble_eq_true rfl), (Nat.le_of_ble_eq_true rfl)⟩ rfl rfl (Nat.le_of_ble_eq_true rfl) dX12_tells_195 ?_
                  rintro f_237 ⟨n_237, z_237, F_237, G_237, hS_237, hx237, h8_237⟩
                  exact gz_vret rfl dX12_tells_198 (Nat.le_of_ble_eq_true rfl) (Nat.le_of_ble_eq_true rfl) (⟨rfl, _, _, _, _, hS_237, (fx_tr (fx_tr (fx_tr (fx_tr (fx_tr (fx_tr (fx_tr fx_rf hx1 (by decide)) hx172 (by decide)) hx229 (by decide)) hx234 (by decide)) hx235 (by decide)) hx236 (by decide)) hx237 (by decide)), (by (try rw [(show n_237 88 = (n_237 88) from rfl)]); omega), (by (try rw [(show n_237 88 = (n_237 88) from rfl)]); omega), (by (try rw [(show n_237 88 = (n_237 88) from rfl)]); omega)⟩)
              ·
                try simp only [mIn_0, lgc_lt, lgc_gt, lgc_le, lgc_ge, lgc_eq] at c_132
                try simp only [fl_lt, fl_le, fl_eq, fL_w, fL_lt, fL_le, tm1, tm10k, tm9, tm99, Int32.reduceToInt, Int64.reduceToInt, Int.not_lt, Int.not_le] at c_132
                refine gz_aload_n dX12_tells_135 rfl rfl ?_
                refine gz_bipush (v := 61) dX12_tells_136 (by decide) ?_
                refine scX12_547 (k_X12_signs (x1 := 61) hS_229 (by (try rw [(show n_229 88 = (n_229 88) from rfl)]); omega)) hS_229.1 ⟨(Nat.le_of_ble_eq_true rfl), (Nat.le_of_ble_eq_true rfl)⟩ ⟨(Nat.le_of_ble_eq_true rfl), (Nat.le_of_ble_eq_true rfl)⟩ rfl rfl (Nat.le_of_ble_eq_true rfl) dX12_tells_138 ?_
                rintro f_238 ⟨n_238, z_238, F_238, G_238, hS_238, hx238, h8_238⟩
                refine gz_aload_n dX12_tells_141 rfl rfl ?_
                refine gz_iload_n dX12_tells_142 rfl rfl ?_
                refine gz_aload_n dX12_tells_143 rfl rfl ?_
                refine mg_41 hS_238 dX12_tells_144 ?_
                refine gz_iload_n dX12_tells_147 rfl rfl ?_
                refine m_iald 14 hS_238 rfl (N := 880) rfl ((by exact vin_T (rfl : (x1).toInt = (x1).toInt) (by omega) (by omega))) dX12_tells_148 ?_
                refine gz_ev (w := .int ((F 14) (Int32.toNatClampNeg x1))) (congrArg Value.int (congrFun ((hx238.2.2.1 14 (by decide)).trans ((hx229.2.2.1 14 (by decide)).trans ((hx172.2.2.1 14 (by decide)).trans (hx1.2.2.1 14 (by decide))))) _)) ?_
                refine gz_aload_n dX12_tells_149 rfl rfl ?_
                refine mg_44 hS_238 dX12_tells_150 ?_
                refine gz_iload_n dX12_tells_153 rfl rfl ?_
                refine m_iald 15 hS_238 rfl (N := 880) rfl ((by exact vin_T (rfl : (x1).toInt = (x1).toInt) (by omega) (by omega))) dX12_tells_154 ?_
                refine gz_ev (w := .int ((F 15) (Int32.toNatClampNeg x1))) (congrArg Value.int (congrFun ((hx238.2.2.1 15 (by decide)).trans ((hx229.2.2.1 15 (by decide)).trans ((hx172.2.2.1 15 (by decide)).trans (hx1.2.2.1 15 (by decide))))) _)) ?_
                have hxx155 : fx [88, 89] [] [87] [] n z F G n_238 z_238 F_238 G_238 := (fx_tr (fx_tr (fx_tr (fx_tr fx_rf hx1 (by decide)) hx172 (by decide)) hx229 (by decide)) hx238 (by decide))
                refine scX12_558 (k_X12_sums (x1 := x1) (x2 := ((F 14) (Int32.toNatClampNeg x1))) (x3 := ((F 15) (Int32.toNatClampNeg x1))) hS_238 (rAll_w (fun k hk => hxx155.2.2.1 k ((by decide : ∀ k : Nat, k ∈ wK → k ∉ ([87] : List Nat)) k hk)) bA) (by omega) (by omega) (by (try rw [(show n_238 88 = (n_238 88) from rfl)]); omega)) hS_238.1 ⟨(Nat.le_of_ble_eq_true rfl), (Nat.le_of_ble_eq_true rfl)⟩ ⟨(Nat.le_of_ble_eq_true rfl), (Nat.le_of_ble_eq_true rfl)⟩ rfl rfl (Nat.le_of_ble_eq_true rfl) dX12_tells_155 ?_
                rintro f_239 ⟨n_239, z_239, F_239, G_239, hS_239, hx239, h8a_239, h8b_239⟩
                refine gz_aload_n dX12_tells_158 rfl rfl ?_
                refine gz_bipush (v := 58) dX12_tells_159 (by decide) ?_
                refine scX12_547 (k_X12_signs (x1 := 58) hS_239 (by (try rw [(show n_239 88 = (n_239 88) from rfl)]); omega)) hS_239.1 ⟨(Nat.le_of_ble_eq_true rfl), (Nat.le_of_ble_eq_true rfl)⟩ ⟨(Nat.le_of_ble_eq_true rfl), (Nat.le_of_ble_eq_true rfl)⟩ rfl rfl (Nat.le_of_ble_eq_true rfl) dX12_tells_161 ?_
                rintro f_240 ⟨n_240, z_240, F_240, G_240, hS_240, hx240, h8_240⟩
                refine gz_aload_n dX12_tells_164 rfl rfl ?_
                refine mg_20 hS_240 dX12_tells_165 ?_
                refine gz_iload_n dX12_tells_168 rfl rfl ?_
                refine m_iald 7 hS_240 rfl (N := 880) rfl ((by exact vin_T (rfl : (x1).toInt = (x1).toInt) (by omega) (by omega))) dX12_tells_169 ?_
                refine gz_ev (w := .int ((F 7) (Int32.toNatClampNeg x1))) (congrArg Value.int (congrFun ((hx240.2.2.1 7 (by decide)).trans ((hx239.2.2.1 7 (by decide)).trans ((hx238.2.2.1 7 (by decide)).trans ((hx229.2.2.1 7 (by decide)).trans ((hx172.2.2.1 7 (by decide)).trans (hx1.2.2.1 7 (by decide))))))) _)) ?_
                refine gz_bipush (v := 9) dX12_tells_170 (by decide) ?_
                refine gz_icmp_ne (tgt := 198) dX12_tells_172 (by decide) (fun c_172 => ?_) (fun c_172 => ?_)
                ·
                  try simp only [mIn_0, lgc_lt, lgc_gt, lgc_le, lgc_ge, lgc_eq] at c_172
                  try simp only [fl_lt, fl_le, fl_eq, fL_w, fL_lt, fL_le, tm1, tm10k, tm9, tm99, Int32.reduceToInt, Int64.reduceToInt, Int.not_lt, Int.not_le] at c_172
                  exact gz_vret rfl dX12_tells_198 (Nat.le_of_ble_eq_true rfl) (Nat.le_of_ble_eq_true rfl) (⟨rfl, _, _, _, _, hS_240, (fx_tr (fx_tr (fx_tr (fx_tr (fx_tr (fx_tr fx_rf hx1 (by decide)) hx172 (by decide)) hx229 (by decide)) hx238 (by decide)) hx239 (by decide)) hx240 (by decide)), (by (try rw [(show n_240 88 = (n_240 88) from rfl)]); omega), (by (try rw [(show n_240 88 = (n_240 88) from rfl)]); omega), (by (try rw [(show n_240 88 = (n_240 88) from rfl)]); omega)⟩)
                ·
                  try simp only [mIn_0, lgc_lt, lgc_gt, lgc_le, lgc_ge, lgc_eq] at c_172
                  try simp only [fl_lt, fl_le, fl_eq, fL_w, fL_lt, fL_le, tm1, tm10k, tm9, tm99, Int32.reduceToInt, Int64.reduceToInt, Int.not_lt, Int.not_le] at c_172
                  refine gz_aload_n dX12_tells_175 rfl rfl ?_
                  refine gz_iload_n dX12_tells_176 rfl rfl ?_
                  refine gz_aload_n dX12_tells_177 rfl rfl ?_
                  refine mg_38 hS_240 dX12_tells_178 ?_
                  refine gz_iload_n dX12_tells_181 rfl rfl ?_
                  refine m_iald 13 hS_240 rfl (N := 880) rfl ((by exact vin_T (rfl : (x1).toInt = (x1).toInt) (by omega) (by omega))) dX12_tells_182 ?_
                  refine gz_ev (w := .int ((F 13) (Int32.toNatClampNeg x1))) (congrArg Value.int (congrFun ((hx240.2.2.1 13 (by decide)).trans ((hx239.2.2.1 13 (by decide)).trans ((hx238.2.2.1 13 (by decide)).trans ((hx229.2.2.1 13 (by decide)).trans ((hx172.2.2.1 13 (by decide)).trans (hx1.2.2.1 13 (by decide))))))) _)) ?_
                  refine gz_aload_n dX12_tells_183 rfl rfl ?_
                  refine mg_41 hS_240 dX12_tells_184 ?_
                  refine gz_iload_n dX12_tells_187 rfl rfl ?_
                  refine m_iald 14 hS_240 rfl (N := 880) rfl ((by exact vin_T (rfl : (x1).toInt = (x1).toInt) (by omega) (by omega))) dX12_tells_188 ?_
                  refine gz_ev (w := .int ((F 14) (Int32.toNatClampNeg x1))) (congrArg Value.int (congrFun ((hx240.2.2.1 14 (by decide)).trans ((hx239.2.2.1 14 (by decide)).trans ((hx238.2.2.1 14 (by decide)).trans ((hx229.2.2.1 14 (by decide)).trans ((hx172.2.2.1 14 (by decide)).trans (hx1.2.2.1 14 (by decide))))))) _)) ?_
                  have hxx189 : fx [88, 89] [] [87] [] n z F G n_240 z_240 F_240 G_240 := (fx_tr (fx_tr (fx_tr (fx_tr (fx_tr (fx_tr fx_rf hx1 (by decide)) hx172 (by decide)) hx229 (by decide)) hx238 (by decide)) hx239 (by decide)) hx240 (by decide))
                  refine scX12_558 (k_X12_sums (x1 := x1) (x2 := ((F 13) (Int32.toNatClampNeg x1))) (x3 := ((F 14) (Int32.toNatClampNeg x1))) hS_240 (rAll_w (fun k hk => hxx189.2.2.1 k ((by decide : ∀ k : Nat, k ∈ wK → k ∉ ([87] : List Nat)) k hk)) bA) (by omega) (by omega) (by (try rw [(show n_240 88 = (n_240 88) from rfl)]); omega)) hS_240.1 ⟨(Nat.le_of_ble_eq_true rfl), (Nat.le_of_ble_eq_true rfl)⟩ ⟨(Nat.le_of_ble_eq_true rfl), (Nat.le_of_ble_eq_true rfl)⟩ rfl rfl (Nat.le_of_ble_eq_true rfl) dX12_tells_189 ?_
                  rintro f_241 ⟨n_241, z_241, F_241, G_241, hS_241, hx241, h8a_241, h8b_241⟩
                  refine gz_aload_n dX12_tells_192 rfl rfl ?_
                  refine gz_bipush (v := 58) dX12_tells_193 (by decide) ?_
                  refine scX12_547 (k_X12_signs (x1 := 58) hS_241 (by (try rw [(show n_241 88 = (n_241 88) from rfl)]); omega)) hS_241.1 ⟨(Nat.le_of_ble_eq_true rfl), (Nat.le_of_ble_eq_true rfl)⟩ ⟨(Nat.le_of_ble_eq_true rfl), (Nat.le_of_ble_eq_true rfl)⟩ rfl rfl (Nat.le_of_ble_eq_true rfl) dX12_tells_195 ?_
                  rintro f_242 ⟨n_242, z_242, F_242, G_242, hS_242, hx242, h8_242⟩
                  exact gz_vret rfl dX12_tells_198 (Nat.le_of_ble_eq_true rfl) (Nat.le_of_ble_eq_true rfl) (⟨rfl, _, _, _, _, hS_242, (fx_tr (fx_tr (fx_tr (fx_tr (fx_tr (fx_tr (fx_tr (fx_tr fx_rf hx1 (by decide)) hx172 (by decide)) hx229 (by decide)) hx238 (by decide)) hx239 (by decide)) hx240 (by decide)) hx241 (by decide)) hx242 (by decide)), (by (try rw [(show n_242 88 = (n_242 88) from rfl)]); omega), (by (try rw [(show n_242 88 = (n_242 88) from rfl)]); omega), (by (try rw [(show n_242 88 = (n_242 88) from rfl)]); omega)⟩)
          ·
            try simp only [mIn_0, lgc_lt, lgc_gt, lgc_le, lgc_ge, lgc_eq] at c_107
            try simp only [fl_lt, fl_le, fl_eq, fL_w, fL_lt, fL_le, tm1, tm10k, tm9, tm99, Int32.reduceToInt, Int64.reduceToInt, Int.not_lt, Int.not_le] at c_107
            refine gz_aload_n dX12_tells_110 rfl rfl ?_
            refine gz_bipush (v := 62) dX12_tells_111 (by decide) ?_
            refine scX12_547 (k_X12_signs (x1 := 62) hS_229 (by (try rw [(show n_229 88 = (n_229 88) from rfl)]); omega)) hS_229.1 ⟨(Nat.le_of_ble_eq_true rfl), (Nat.le_of_ble_eq_true rfl)⟩ ⟨(Nat.le_of_ble_eq_true rfl), (Nat.le_of_ble_eq_true rfl)⟩ rfl rfl (Nat.le_of_ble_eq_true rfl) dX12_tells_113 ?_
            rintro f_243 ⟨n_243, z_243, F_243, G_243, hS_243, hx243, h8_243⟩
            refine gz_aload_n dX12_tells_116 rfl rfl ?_
            refine mg_47 hS_243 dX12_tells_117 ?_
            refine gz_iload_n dX12_tells_120 rfl rfl ?_
            refine m_iald 16 hS_243 rfl (N := 880) rfl ((by exact vin_T (rfl : (x1).toInt = (x1).toInt) (by omega) (by omega))) dX12_tells_121 ?_
            refine gz_ev (w := .int ((F 16) (Int32.toNatClampNeg x1))) (congrArg Value.int (congrFun ((hx243.2.2.1 16 (by decide)).trans ((hx229.2.2.1 16 (by decide)).trans ((hx172.2.2.1 16 (by decide)).trans (hx1.2.2.1 16 (by decide))))) _)) ?_
            refine gz_if_le (tgt := 141) dX12_tells_122 (by decide) (fun c_122 => ?_) (fun c_122 => ?_)
            ·
              try simp only [mIn_0, lgc_lt, lgc_gt, lgc_le, lgc_ge, lgc_eq] at c_122
              try simp only [fl_lt, fl_le, fl_eq, fL_w, fL_lt, fL_le, tm1, tm10k, tm9, tm99, Int32.reduceToInt, Int64.reduceToInt, Int.not_lt, Int.not_le] at c_122
              refine gz_aload_n dX12_tells_141 rfl rfl ?_
              refine gz_iload_n dX12_tells_142 rfl rfl ?_
              refine gz_aload_n dX12_tells_143 rfl rfl ?_
              refine mg_41 hS_243 dX12_tells_144 ?_
              refine gz_iload_n dX12_tells_147 rfl rfl ?_
              refine m_iald 14 hS_243 rfl (N := 880) rfl ((by exact vin_T (rfl : (x1).toInt = (x1).toInt) (by omega) (by omega))) dX12_tells_148 ?_
              refine gz_ev (w := .int ((F 14) (Int32.toNatClampNeg x1))) (congrArg Value.int (congrFun ((hx243.2.2.1 14 (by decide)).trans ((hx229.2.2.1 14 (by decide)).trans ((hx172.2.2.1 14 (by decide)).trans (hx1.2.2.1 14 (by decide))))) _)) ?_
              refine gz_aload_n dX12_tells_149 rfl rfl ?_
              refine mg_44 hS_243 dX12_tells_150 ?_
              refine gz_iload_n dX12_tells_153 rfl rfl ?_
              refine m_iald 15 hS_243 rfl (N := 880) rfl ((by exact vin_T (rfl : (x1).toInt = (x1).toInt) (by omega) (by omega))) dX12_tells_154 ?_
              refine gz_ev (w := .int ((F 15) (Int32.toNatClampNeg x1))) (congrArg Value.int (congrFun ((hx243.2.2.1 15 (by decide)).trans ((hx229.2.2.1 15 (by decide)).trans ((hx172.2.2.1 15 (by decide)).trans (hx1.2.2.1 15 (by decide))))) _)) ?_
              have hxx155 : fx [88, 89] [] [87] [] n z F G n_243 z_243 F_243 G_243 := (fx_tr (fx_tr (fx_tr (fx_tr fx_rf hx1 (by decide)) hx172 (by decide)) hx229 (by decide)) hx243 (by decide))
              refine scX12_558 (k_X12_sums (x1 := x1) (x2 := ((F 14) (Int32.toNatClampNeg x1))) (x3 := ((F 15) (Int32.toNatClampNeg x1))) hS_243 (rAll_w (fun k hk => hxx155.2.2.1 k ((by decide : ∀ k : Nat, k ∈ wK → k ∉ ([87] : List Nat)) k hk)) bA) (by omega) (by omega) (by (try rw [(show n_243 88 = (n_243 88) from rfl)]); omega)) hS_243.1 ⟨(Nat.le_of_ble_eq_true rfl), (Nat.le_of_ble_eq_true rfl)⟩ ⟨(Nat.le_of_ble_eq_true rfl), (Nat.le_of_ble_eq_true rfl)⟩ rfl rfl (Nat.le_of_ble_eq_true rfl) dX12_tells_155 ?_
              rintro f_244 ⟨n_244, z_244, F_244, G_244, hS_244, hx244, h8a_244, h8b_244⟩
              refine gz_aload_n dX12_tells_158 rfl rfl ?_
              refine gz_bipush (v := 58) dX12_tells_159 (by decide) ?_
              refine scX12_547 (k_X12_signs (x1 := 58) hS_244 (by (try rw [(show n_244 88 = (n_244 88) from rfl)]); omega)) hS_244.1 ⟨(Nat.le_of_ble_eq_true rfl), (Nat.le_of_ble_eq_true rfl)⟩ ⟨(Nat.le_of_ble_eq_true rfl), (Nat.le_of_ble_eq_true rfl)⟩ rfl rfl (Nat.le_of_ble_eq_true rfl) dX12_tells_161 ?_
              rintro f_245 ⟨n_245, z_245, F_245, G_245, hS_245, hx245, h8_245⟩
              refine gz_aload_n dX12_tells_164 rfl rfl ?_
              refine mg_20 hS_245 dX12_tells_165 ?_
              refine gz_iload_n dX12_tells_168 rfl rfl ?_
              refine m_iald 7 hS_245 rfl (N := 880) rfl ((by exact vin_T (rfl : (x1).toInt = (x1).toInt) (by omega) (by omega))) dX12_tells_169 ?_
              refine gz_ev (w := .int ((F 7) (Int32.toNatClampNeg x1))) (congrArg Value.int (congrFun ((hx245.2.2.1 7 (by decide)).trans ((hx244.2.2.1 7 (by decide)).trans ((hx243.2.2.1 7 (by decide)).trans ((hx229.2.2.1 7 (by decide)).trans ((hx172.2.2.1 7 (by decide)).trans (hx1.2.2.1 7 (by decide))))))) _)) ?_
              refine gz_bipush (v := 9) dX12_tells_170 (by decide) ?_
              refine gz_icmp_ne (tgt := 198) dX12_tells_172 (by decide) (fun c_172 => ?_) (fun c_172 => ?_)
              ·
                try simp only [mIn_0, lgc_lt, lgc_gt, lgc_le, lgc_ge, lgc_eq] at c_172
                try simp only [fl_lt, fl_le, fl_eq, fL_w, fL_lt, fL_le, tm1, tm10k, tm9, tm99, Int32.reduceToInt, Int64.reduceToInt, Int.not_lt, Int.not_le] at c_172
                exact gz_vret rfl dX12_tells_198 (Nat.le_of_ble_eq_true rfl) (Nat.le_of_ble_eq_true rfl) (⟨rfl, _, _, _, _, hS_245, (fx_tr (fx_tr (fx_tr (fx_tr (fx_tr (fx_tr fx_rf hx1 (by decide)) hx172 (by decide)) hx229 (by decide)) hx243 (by decide)) hx244 (by decide)) hx245 (by decide)), (by (try rw [(show n_245 88 = (n_245 88) from rfl)]); omega), (by (try rw [(show n_245 88 = (n_245 88) from rfl)]); omega), (by (try rw [(show n_245 88 = (n_245 88) from rfl)]); omega)⟩)
              ·
                try simp only [mIn_0, lgc_lt, lgc_gt, lgc_le, lgc_ge, lgc_eq] at c_172
                try simp only [fl_lt, fl_le, fl_eq, fL_w, fL_lt, fL_le, tm1, tm10k, tm9, tm99, Int32.reduceToInt, Int64.reduceToInt, Int.not_lt, Int.not_le] at c_172
                refine gz_aload_n dX12_tells_175 rfl rfl ?_
                refine gz_iload_n dX12_tells_176 rfl rfl ?_
                refine gz_aload_n dX12_tells_177 rfl rfl ?_
                refine mg_38 hS_245 dX12_tells_178 ?_
                refine gz_iload_n dX12_tells_181 rfl rfl ?_
                refine m_iald 13 hS_245 rfl (N := 880) rfl ((by exact vin_T (rfl : (x1).toInt = (x1).toInt) (by omega) (by omega))) dX12_tells_182 ?_
                refine gz_ev (w := .int ((F 13) (Int32.toNatClampNeg x1))) (congrArg Value.int (congrFun ((hx245.2.2.1 13 (by decide)).trans ((hx244.2.2.1 13 (by decide)).trans ((hx243.2.2.1 13 (by decide)).trans ((hx229.2.2.1 13 (by decide)).trans ((hx172.2.2.1 13 (by decide)).trans (hx1.2.2.1 13 (by decide))))))) _)) ?_
                refine gz_aload_n dX12_tells_183 rfl rfl ?_
                refine mg_41 hS_245 dX12_tells_184 ?_
                refine gz_iload_n dX12_tells_187 rfl rfl ?_
                refine m_iald 14 hS_245 rfl (N := 880) rfl ((by exact vin_T (rfl : (x1).toInt = (x1).toInt) (by omega) (by omega))) dX12_tells_188 ?_
                refine gz_ev (w := .int ((F 14) (Int32.toNatClampNeg x1))) (congrArg Value.int (congrFun ((hx245.2.2.1 14 (by decide)).trans ((hx244.2.2.1 14 (by decide)).trans ((hx243.2.2.1 14 (by decide)).trans ((hx229.2.2.1 14 (by decide)).trans ((hx172.2.2.1 14 (by decide)).trans (hx1.2.2.1 14 (by decide))))))) _)) ?_
                have hxx189 : fx [88, 89] [] [87] [] n z F G n_245 z_245 F_245 G_245 := (fx_tr (fx_tr (fx_tr (fx_tr (fx_tr (fx_tr fx_rf hx1 (by decide)) hx172 (by decide)) hx229 (by decide)) hx243 (by decide)) hx244 (by decide)) hx245 (by decide))
                refine scX12_558 (k_X12_sums (x1 := x1) (x2 := ((F 13) (Int32.toNatClampNeg x1))) (x3 := ((F 14) (Int32.toNatClampNeg x1))) hS_245 (rAll_w (fun k hk => hxx189.2.2.1 k ((by decide : ∀ k : Nat, k ∈ wK → k ∉ ([87] : List Nat)) k hk)) bA) (by omega) (by omega) (by (try rw [(show n_245 88 = (n_245 88) from rfl)]); omega)) hS_245.1 ⟨(Nat.le_of_ble_eq_true rfl), (Nat.le_of_ble_eq_true rfl)⟩ ⟨(Nat.le_of_ble_eq_true rfl), (Nat.le_of_ble_eq_true rfl)⟩ rfl rfl (Nat.le_of_ble_eq_true rfl) dX12_tells_189 ?_
                rintro f_246 ⟨n_246, z_246, F_246, G_246, hS_246, hx246, h8a_246, h8b_246⟩
                refine gz_aload_n dX12_tells_192 rfl rfl ?_
                refine gz_bipush (v := 58) dX12_tells_193 (by decide) ?_
                refine scX12_547 (k_X12_signs (x1 := 58) hS_246 (by (try rw [(show n_246 88 = (n_246 88) from rfl)]); omega)) hS_246.1 ⟨(Nat.le_of_ble_eq_true rfl), (Nat.le_of_ble_eq_true rfl)⟩ ⟨(Nat.le_of_ble_eq_true rfl), (Nat.le_of_ble_eq_true rfl)⟩ rfl rfl (Nat.le_of_ble_eq_true rfl) dX12_tells_195 ?_
                rintro f_247 ⟨n_247, z_247, F_247, G_247, hS_247, hx247, h8_247⟩
                exact gz_vret rfl dX12_tells_198 (Nat.le_of_ble_eq_true rfl) (Nat.le_of_ble_eq_true rfl) (⟨rfl, _, _, _, _, hS_247, (fx_tr (fx_tr (fx_tr (fx_tr (fx_tr (fx_tr (fx_tr (fx_tr fx_rf hx1 (by decide)) hx172 (by decide)) hx229 (by decide)) hx243 (by decide)) hx244 (by decide)) hx245 (by decide)) hx246 (by decide)) hx247 (by decide)), (by (try rw [(show n_247 88 = (n_247 88) from rfl)]); omega), (by (try rw [(show n_247 88 = (n_247 88) from rfl)]); omega), (by (try rw [(show n_247 88 = (n_247 88) from rfl)]); omega)⟩)
            ·
              try simp only [mIn_0, lgc_lt, lgc_gt, lgc_le, lgc_ge, lgc_eq] at c_122
              try simp only [fl_lt, fl_le, fl_eq, fL_w, fL_lt, fL_le, tm1, tm10k, tm9, tm99, Int32.reduceToInt, Int64.reduceToInt, Int.not_lt, Int.not_le] at c_122
              refine gz_aload_n dX12_tells_125 rfl rfl ?_
              refine mg_47 hS_243 dX12_tells_126 ?_
              refine gz_iload_n dX12_tells_129 rfl rfl ?_
              refine m_iald 16 hS_243 rfl (N := 880) rfl ((by exact vin_T (rfl : (x1).toInt = (x1).toInt) (by omega) (by omega))) dX12_tells_130 ?_
              refine gz_ev (w := .int ((F 16) (Int32.toNatClampNeg x1))) (congrArg Value.int (congrFun ((hx243.2.2.1 16 (by decide)).trans ((hx229.2.2.1 16 (by decide)).trans ((hx172.2.2.1 16 (by decide)).trans (hx1.2.2.1 16 (by decide))))) _)) ?_
              refine gz_iconst (v := 4) dX12_tells_131 (by decide) ?_
              refine gz_icmp_ge (tgt := 141) dX12_tells_132 (by decide) (fun c_132 => ?_) (fun c_132 => ?_)
              ·
                try simp only [mIn_0, lgc_lt, lgc_gt, lgc_le, lgc_ge, lgc_eq] at c_132
                try simp only [fl_lt, fl_le, fl_eq, fL_w, fL_lt, fL_le, tm1, tm10k, tm9, tm99, Int32.reduceToInt, Int64.reduceToInt, Int.not_lt, Int.not_le] at c_132
                refine gz_aload_n dX12_tells_141 rfl rfl ?_
                refine gz_iload_n dX12_tells_142 rfl rfl ?_
                refine gz_aload_n dX12_tells_143 rfl rfl ?_
                refine mg_41 hS_243 dX12_tells_144 ?_
                refine gz_iload_n dX12_tells_147 rfl rfl ?_
                refine m_iald 14 hS_243 rfl (N := 880) rfl ((by exact vin_T (rfl : (x1).toInt = (x1).toInt) (by omega) (by omega))) dX12_tells_148 ?_
                refine gz_ev (w := .int ((F 14) (Int32.toNatClampNeg x1))) (congrArg Value.int (congrFun ((hx243.2.2.1 14 (by decide)).trans ((hx229.2.2.1 14 (by decide)).trans ((hx172.2.2.1 14 (by decide)).trans (hx1.2.2.1 14 (by decide))))) _)) ?_
                refine gz_aload_n dX12_tells_149 rfl rfl ?_
                refine mg_44 hS_243 dX12_tells_150 ?_
                refine gz_iload_n dX12_tells_153 rfl rfl ?_
                refine m_iald 15 hS_243 rfl (N := 880) rfl ((by exact vin_T (rfl : (x1).toInt = (x1).toInt) (by omega) (by omega))) dX12_tells_154 ?_
                refine gz_ev (w := .int ((F 15) (Int32.toNatClampNeg x1))) (congrArg Value.int (congrFun ((hx243.2.2.1 15 (by decide)).trans ((hx229.2.2.1 15 (by decide)).trans ((hx172.2.2.1 15 (by decide)).trans (hx1.2.2.1 15 (by decide))))) _)) ?_
                have hxx155 : fx [88, 89] [] [87] [] n z F G n_243 z_243 F_243 G_243 := (fx_tr (fx_tr (fx_tr (fx_tr fx_rf hx1 (by decide)) hx172 (by decide)) hx229 (by decide)) hx243 (by decide))
                refine scX12_558 (k_X12_sums (x1 := x1) (x2 := ((F 14) (Int32.toNatClampNeg x1))) (x3 := ((F 15) (Int32.toNatClampNeg x1))) hS_243 (rAll_w (fun k hk => hxx155.2.2.1 k ((by decide : ∀ k : Nat, k ∈ wK → k ∉ ([87] : List Nat)) k hk)) bA) (by omega) (by omega) (by (try rw [(show n_243 88 = (n_243 88) from rfl)]); omega)) hS_243.1 ⟨(Nat.le_of_ble_eq_true rfl), (Nat.le_of_ble_eq_true rfl)⟩ ⟨(Nat.le_of_ble_eq_true rfl), (Nat.le_of_ble_eq_true rfl)⟩ rfl rfl (Nat.le_of_ble_eq_true rfl) dX12_tells_155 ?_
                rintro f_248 ⟨n_248, z_248, F_248, G_248, hS_248, hx248, h8a_248, h8b_248⟩
                refine gz_aload_n dX12_tells_158 rfl rfl ?_
                refine gz_bipush (v := 58) dX12_tells_159 (by decide) ?_
                refine scX12_547 (k_X12_signs (x1 := 58) hS_248 (by (try rw [(show n_248 88 = (n_248 88) from rfl)]); omega)) hS_248.1 ⟨(Nat.le_of_ble_eq_true rfl), (Nat.le_of_ble_eq_true rfl)⟩ ⟨(Nat.le_of_ble_eq_true rfl), (Nat.le_of_ble_eq_true rfl)⟩ rfl rfl (Nat.le_of_ble_eq_true rfl) dX12_tells_161 ?_
                rintro f_249 ⟨n_249, z_249, F_249, G_249, hS_249, hx249, h8_249⟩
                refine gz_aload_n dX12_tells_164 rfl rfl ?_
                refine mg_20 hS_249 dX12_tells_165 ?_
                refine gz_iload_n dX12_tells_168 rfl rfl ?_
                refine m_iald 7 hS_249 rfl (N := 880) rfl ((by exact vin_T (rfl : (x1).toInt = (x1).toInt) (by omega) (by omega))) dX12_tells_169 ?_
                refine gz_ev (w := .int ((F 7) (Int32.toNatClampNeg x1))) (congrArg Value.int (congrFun ((hx249.2.2.1 7 (by decide)).trans ((hx248.2.2.1 7 (by decide)).trans ((hx243.2.2.1 7 (by decide)).trans ((hx229.2.2.1 7 (by decide)).trans ((hx172.2.2.1 7 (by decide)).trans (hx1.2.2.1 7 (by decide))))))) _)) ?_
                refine gz_bipush (v := 9) dX12_tells_170 (by decide) ?_
                refine gz_icmp_ne (tgt := 198) dX12_tells_172 (by decide) (fun c_172 => ?_) (fun c_172 => ?_)
                ·
                  try simp only [mIn_0, lgc_lt, lgc_gt, lgc_le, lgc_ge, lgc_eq] at c_172
                  try simp only [fl_lt, fl_le, fl_eq, fL_w, fL_lt, fL_le, tm1, tm10k, tm9, tm99, Int32.reduceToInt, Int64.reduceToInt, Int.not_lt, Int.not_le] at c_172
                  exact gz_vret rfl dX12_tells_198 (Nat.le_of_ble_eq_true rfl) (Nat.le_of_ble_eq_true rfl) (⟨rfl, _, _, _, _, hS_249, (fx_tr (fx_tr (fx_tr (fx_tr (fx_tr (fx_tr fx_rf hx1 (by decide)) hx172 (by decide)) hx229 (by decide)) hx243 (by decide)) hx248 (by decide)) hx249 (by decide)), (by (try rw [(show n_249 88 = (n_249 88) from rfl)]); omega), (by (try rw [(show n_249 88 = (n_249 88) from rfl)]); omega), (by (try rw [(show n_249 88 = (n_249 88) from rfl)]); omega)⟩)
                ·
                  try simp only [mIn_0, lgc_lt, lgc_gt, lgc_le, lgc_ge, lgc_eq] at c_172
                  try simp only [fl_lt, fl_le, fl_eq, fL_w, fL_lt, fL_le, tm1, tm10k, tm9, tm99, Int32.reduceToInt, Int64.reduceToInt, Int.not_lt, Int.not_le] at c_172
                  refine gz_aload_n dX12_tells_175 rfl rfl ?_
                  refine gz_iload_n dX12_tells_176 rfl rfl ?_
                  refine gz_aload_n dX12_tells_177 rfl rfl ?_
                  refine mg_38 hS_249 dX12_tells_178 ?_
                  refine gz_iload_n dX12_tells_181 rfl rfl ?_
                  refine m_iald 13 hS_249 rfl (N := 880) rfl ((by exact vin_T (rfl : (x1).toInt = (x1).toInt) (by omega) (by omega))) dX12_tells_182 ?_
                  refine gz_ev (w := .int ((F 13) (Int32.toNatClampNeg x1))) (congrArg Value.int (congrFun ((hx249.2.2.1 13 (by decide)).trans ((hx248.2.2.1 13 (by decide)).trans ((hx243.2.2.1 13 (by decide)).trans ((hx229.2.2.1 13 (by decide)).trans ((hx172.2.2.1 13 (by decide)).trans (hx1.2.2.1 13 (by decide))))))) _)) ?_
                  refine gz_aload_n dX12_tells_183 rfl rfl ?_
                  refine mg_41 hS_249 dX12_tells_184 ?_
                  refine gz_iload_n dX12_tells_187 rfl rfl ?_
                  refine m_iald 14 hS_249 rfl (N := 880) rfl ((by exact vin_T (rfl : (x1).toInt = (x1).toInt) (by omega) (by omega))) dX12_tells_188 ?_
                  refine gz_ev (w := .int ((F 14) (Int32.toNatClampNeg x1))) (congrArg Value.int (congrFun ((hx249.2.2.1 14 (by decide)).trans ((hx248.2.2.1 14 (by decide)).trans ((hx243.2.2.1 14 (by decide)).trans ((hx229.2.2.1 14 (by decide)).trans ((hx172.2.2.1 14 (by decide)).trans (hx1.2.2.1 14 (by decide))))))) _)) ?_
                  have hxx189 : fx [88, 89] [] [87] [] n z F G n_249 z_249 F_249 G_249 := (fx_tr (fx_tr (fx_tr (fx_tr (fx_tr (fx_tr fx_rf hx1 (by decide)) hx172 (by decide)) hx229 (by decide)) hx243 (by decide)) hx248 (by decide)) hx249 (by decide))
                  refine scX12_558 (k_X12_sums (x1 := x1) (x2 := ((F 13) (Int32.toNatClampNeg x1))) (x3 := ((F 14) (Int32.toNatClampNeg x1))) hS_249 (rAll_w (fun k hk => hxx189.2.2.1 k ((by decide : ∀ k : Nat, k ∈ wK → k ∉ ([87] : List Nat)) k hk)) bA) (by omega) (by omega) (by (try rw [(show n_249 88 = (n_249 88) from rfl)]); omega)) hS_249.1 ⟨(Nat.le_of_ble_eq_true rfl), (Nat.le_of_ble_eq_true rfl)⟩ ⟨(Nat.le_of_ble_eq_true rfl), (Nat.le_of_ble_eq_true rfl)⟩ rfl rfl (Nat.le_of_ble_eq_true rfl) dX12_tells_189 ?_
                  rintro f_250 ⟨n_250, z_250, F_250, G_250, hS_250, hx250, h8a_250, h8b_250⟩
                  refine gz_aload_n dX12_tells_192 rfl rfl ?_
                  refine gz_bipush (v := 58) dX12_tells_193 (by decide) ?_
                  refine scX12_547 (k_X12_signs (x1 := 58) hS_250 (by (try rw [(show n_250 88 = (n_250 88) from rfl)]); omega)) hS_250.1 ⟨(Nat.le_of_ble_eq_true rfl), (Nat.le_of_ble_eq_true rfl)⟩ ⟨(Nat.le_of_ble_eq_true rfl), (Nat.le_of_ble_eq_true rfl)⟩ rfl rfl (Nat.le_of_ble_eq_true rfl) dX12_tells_195 ?_
                  rintro f_251 ⟨n_251, z_251, F_251, G_251, hS_251, hx251, h8_251⟩
                  exact gz_vret rfl dX12_tells_198 (Nat.le_of_ble_eq_true rfl) (Nat.le_of_ble_eq_true rfl) (⟨rfl, _, _, _, _, hS_251, (fx_tr (fx_tr (fx_tr (fx_tr (fx_tr (fx_tr (fx_tr (fx_tr fx_rf hx1 (by decide)) hx172 (by decide)) hx229 (by decide)) hx243 (by decide)) hx248 (by decide)) hx249 (by decide)) hx250 (by decide)) hx251 (by decide)), (by (try rw [(show n_251 88 = (n_251 88) from rfl)]); omega), (by (try rw [(show n_251 88 = (n_251 88) from rfl)]); omega), (by (try rw [(show n_251 88 = (n_251 88) from rfl)]); omega)⟩)
              ·
                try simp only [mIn_0, lgc_lt, lgc_gt, lgc_le, lgc_ge, lgc_eq] at c_132
                try simp only [fl_lt, fl_le, fl_eq, fL_w, fL_lt, fL_le, tm1, tm10k, tm9, tm99, Int32.reduceToInt, Int64.reduceToInt, Int.not_lt, Int.not_le] at c_132
                refine gz_aload_n dX12_tells_135 rfl rfl ?_
                refine gz_bipush (v := 61) dX12_tells_136 (by decide) ?_
                refine scX12_547 (k_X12_signs (x1 := 61) hS_243 (by (try rw [(show n_243 88 = (n_243 88) from rfl)]); omega)) hS_243.1 ⟨(Nat.le_of_ble_eq_true rfl), (Nat.le_of_ble_eq_true rfl)⟩ ⟨(Nat.le_of_ble_eq_true rfl), (Nat.le_of_ble_eq_true rfl)⟩ rfl rfl (Nat.le_of_ble_eq_true rfl) dX12_tells_138 ?_
                rintro f_252 ⟨n_252, z_252, F_252, G_252, hS_252, hx252, h8_252⟩
                refine gz_aload_n dX12_tells_141 rfl rfl ?_
                refine gz_iload_n dX12_tells_142 rfl rfl ?_
                refine gz_aload_n dX12_tells_143 rfl rfl ?_
                refine mg_41 hS_252 dX12_tells_144 ?_
                refine gz_iload_n dX12_tells_147 rfl rfl ?_
                refine m_iald 14 hS_252 rfl (N := 880) rfl ((by exact vin_T (rfl : (x1).toInt = (x1).toInt) (by omega) (by omega))) dX12_tells_148 ?_
                refine gz_ev (w := .int ((F 14) (Int32.toNatClampNeg x1))) (congrArg Value.int (congrFun ((hx252.2.2.1 14 (by decide)).trans ((hx243.2.2.1 14 (by decide)).trans ((hx229.2.2.1 14 (by decide)).trans ((hx172.2.2.1 14 (by decide)).trans (hx1.2.2.1 14 (by decide)))))) _)) ?_
                refine gz_aload_n dX12_tells_149 rfl rfl ?_
                refine mg_44 hS_252 dX12_tells_150 ?_
                refine gz_iload_n dX12_tells_153 rfl rfl ?_
                refine m_iald 15 hS_252 rfl (N := 880) rfl ((by exact vin_T (rfl : (x1).toInt = (x1).toInt) (by omega) (by omega))) dX12_tells_154 ?_
                refine gz_ev (w := .int ((F 15) (Int32.toNatClampNeg x1))) (congrArg Value.int (congrFun ((hx252.2.2.1 15 (by decide)).trans ((hx243.2.2.1 15 (by decide)).trans ((hx229.2.2.1 15 (by decide)).trans ((hx172.2.2.1 15 (by decide)).trans (hx1.2.2.1 15 (by decide)))))) _)) ?_
                have hxx155 : fx [88, 89] [] [87] [] n z F G n_252 z_252 F_252 G_252 := (fx_tr (fx_tr (fx_tr (fx_tr (fx_tr fx_rf hx1 (by decide)) hx172 (by decide)) hx229 (by decide)) hx243 (by decide)) hx252 (by decide))
                refine scX12_558 (k_X12_sums (x1 := x1) (x2 := ((F 14) (Int32.toNatClampNeg x1))) (x3 := ((F 15) (Int32.toNatClampNeg x1))) hS_252 (rAll_w (fun k hk => hxx155.2.2.1 k ((by decide : ∀ k : Nat, k ∈ wK → k ∉ ([87] : List Nat)) k hk)) bA) (by omega) (by omega) (by (try rw [(show n_252 88 = (n_252 88) from rfl)]); omega)) hS_252.1 ⟨(Nat.le_of_ble_eq_true rfl), (Nat.le_of_ble_eq_true rfl)⟩ ⟨(Nat.le_of_ble_eq_true rfl), (Nat.le_of_ble_eq_true rfl)⟩ rfl rfl (Nat.le_of_ble_eq_true rfl) dX12_tells_155 ?_
                rintro f_253 ⟨n_253, z_253, F_253, G_253, hS_253, hx253, h8a_253, h8b_253⟩
                refine gz_aload_n dX12_tells_158 rfl rfl ?_
                refine gz_bipush (v := 58) dX12_tells_159 (by decide) ?_
                refine scX12_547 (k_X12_signs (x1 := 58) hS_253 (by (try rw [(show n_253 88 = (n_253 88) from rfl)]); omega)) hS_253.1 ⟨(Nat.le_of_ble_eq_true rfl), (Nat.le_of_ble_eq_true rfl)⟩ ⟨(Nat.le_of_ble_eq_true rfl), (Nat.le_of_ble_eq_true rfl)⟩ rfl rfl (Nat.le_of_ble_eq_true rfl) dX12_tells_161 ?_
                rintro f_254 ⟨n_254, z_254, F_254, G_254, hS_254, hx254, h8_254⟩
                refine gz_aload_n dX12_tells_164 rfl rfl ?_
                refine mg_20 hS_254 dX12_tells_165 ?_
                refine gz_iload_n dX12_tells_168 rfl rfl ?_
                refine m_iald 7 hS_254 rfl (N := 880) rfl ((by exact vin_T (rfl : (x1).toInt = (x1).toInt) (by omega) (by omega))) dX12_tells_169 ?_
                refine gz_ev (w := .int ((F 7) (Int32.toNatClampNeg x1))) (congrArg Value.int (congrFun ((hx254.2.2.1 7 (by decide)).trans ((hx253.2.2.1 7 (by decide)).trans ((hx252.2.2.1 7 (by decide)).trans ((hx243.2.2.1 7 (by decide)).trans ((hx229.2.2.1 7 (by decide)).trans ((hx172.2.2.1 7 (by decide)).trans (hx1.2.2.1 7 (by decide)))))))) _)) ?_
                refine gz_bipush (v := 9) dX12_tells_170 (by decide) ?_
                refine gz_icmp_ne (tgt := 198) dX12_tells_172 (by decide) (fun c_172 => ?_) (fun c_172 => ?_)
                ·
                  try simp only [mIn_0, lgc_lt, lgc_gt, lgc_le, lgc_ge, lgc_eq] at c_172
                  try simp only [fl_lt, fl_le, fl_eq, fL_w, fL_lt, fL_le, tm1, tm10k, tm9, tm99, Int32.reduceToInt, Int64.reduceToInt, Int.not_lt, Int.not_le] at c_172
                  exact gz_vret rfl dX12_tells_198 (Nat.le_of_ble_eq_true rfl) (Nat.le_of_ble_eq_true rfl) (⟨rfl, _, _, _, _, hS_254, (fx_tr (fx_tr (fx_tr (fx_tr (fx_tr (fx_tr (fx_tr fx_rf hx1 (by decide)) hx172 (by decide)) hx229 (by decide)) hx243 (by decide)) hx252 (by decide)) hx253 (by decide)) hx254 (by decide)), (by (try rw [(show n_254 88 = (n_254 88) from rfl)]); omega), (by (try rw [(show n_254 88 = (n_254 88) from rfl)]); omega), (by (try rw [(show n_254 88 = (n_254 88) from rfl)]); omega)⟩)
                ·
                  try simp only [mIn_0, lgc_lt, lgc_gt, lgc_le, lgc_ge, lgc_eq] at c_172
                  try simp only [fl_lt, fl_le, fl_eq, fL_w, fL_lt, fL_le, tm1, tm10k, tm9, tm99, Int32.reduceToInt, Int64.reduceToInt, Int.not_lt, Int.not_le] at c_172
                  refine gz_aload_n dX12_tells_175 rfl rfl ?_
                  refine gz_iload_n dX12_tells_176 rfl rfl ?_
                  refine gz_aload_n dX12_tells_177 rfl rfl ?_
                  refine mg_38 hS_254 dX12_tells_178 ?_
                  refine gz_iload_n dX12_tells_181 rfl rfl ?_
                  refine m_iald 13 hS_254 rfl (N := 880) rfl ((by exact vin_T (rfl : (x1).toInt = (x1).toInt) (by omega) (by omega))) dX12_tells_182 ?_
                  refine gz_ev (w := .int ((F 13) (Int32.toNatClampNeg x1))) (congrArg Value.int (congrFun ((hx254.2.2.1 13 (by decide)).trans ((hx253.2.2.1 13 (by decide)).trans ((hx252.2.2.1 13 (by decide)).trans ((hx243.2.2.1 13 (by decide)).trans ((hx229.2.2.1 13 (by decide)).trans ((hx172.2.2.1 13 (by decide)).trans (hx1.2.2.1 13 (by decide)))))))) _)) ?_
                  refine gz_aload_n dX12_tells_183 rfl rfl ?_
                  refine mg_41 hS_254 dX12_tells_184 ?_
                  refine gz_iload_n dX12_tells_187 rfl rfl ?_
                  refine m_iald 14 hS_254 rfl (N := 880) rfl ((by exact vin_T (rfl : (x1).toInt = (x1).toInt) (by omega) (by omega))) dX12_tells_188 ?_
                  refine gz_ev (w := .int ((F 14) (Int32.toNatClampNeg x1))) (congrArg Value.int (congrFun ((hx254.2.2.1 14 (by decide)).trans ((hx253.2.2.1 14 (by decide)).trans ((hx252.2.2.1 14 (by decide)).trans ((hx243.2.2.1 14 (by decide)).trans ((hx229.2.2.1 14 (by decide)).trans ((hx172.2.2.1 14 (by decide)).trans (hx1.2.2.1 14 (by decide)))))))) _)) ?_
                  have hxx189 : fx [88, 89] [] [87] [] n z F G n_254 z_254 F_254 G_254 := (fx_tr (fx_tr (fx_tr (fx_tr (fx_tr (fx_tr (fx_tr fx_rf hx1 (by decide)) hx172 (by decide)) hx229 (by decide)) hx243 (by decide)) hx252 (by decide)) hx253 (by decide)) hx254 (by decide))
                  refine scX12_558 (k_X12_sums (x1 := x1) (x2 := ((F 13) (Int32.toNatClampNeg x1))) (x3 := ((F 14) (Int32.toNatClampNeg x1))) hS_254 (rAll_w (fun k hk => hxx189.2.2.1 k ((by decide : ∀ k : Nat, k ∈ wK → k ∉ ([87] : List Nat)) k hk)) bA) (by omega) (by omega) (by (try rw [(show n_254 88 = (n_254 88) from rfl)]); omega)) hS_254.1 ⟨(Nat.le_of_ble_eq_true rfl), (Nat.le_of_ble_eq_true rfl)⟩ ⟨(Nat.le_of_ble_eq_true rfl), (Nat.le_of_ble_eq_true rfl)⟩ rfl rfl (Nat.le_of_ble_eq_true rfl) dX12_tells_189 ?_
                  rintro f_255 ⟨n_255, z_255, F_255, G_255, hS_255, hx255, h8a_255, h8b_255⟩
                  refine gz_aload_n dX12_tells_192 rfl rfl ?_
                  refine gz_bipush (v := 58) dX12_tells_193 (by decide) ?_
                  refine scX12_547 (k_X12_signs (x1 := 58) hS_255 (by (try rw [(show n_255 88 = (n_255 88) from rfl)]); omega)) hS_255.1 ⟨(Nat.le_of_ble_eq_true rfl), (Nat.le_of_ble_eq_true rfl)⟩ ⟨(Nat.le_of_ble_eq_true rfl), (Nat.le_of_ble_eq_true rfl)⟩ rfl rfl (Nat.le_of_ble_eq_true rfl) dX12_tells_195 ?_
                  rintro f_256 ⟨n_256, z_256, F_256, G_256, hS_256, hx256, h8_256⟩
                  exact gz_vret rfl dX12_tells_198 (Nat.le_of_ble_eq_true rfl) (Nat.le_of_ble_eq_true rfl) (⟨rfl, _, _, _, _, hS_256, (fx_tr (fx_tr (fx_tr (fx_tr (fx_tr (fx_tr (fx_tr (fx_tr (fx_tr fx_rf hx1 (by decide)) hx172 (by decide)) hx229 (by decide)) hx243 (by decide)) hx252 (by decide)) hx253 (by decide)) hx254 (by decide)) hx255 (by decide)) hx256 (by decide)), (by (try rw [(show n_256 88 = (n_256 88) from rfl)]); omega), (by (try rw [(show n_256 88 = (n_256 88) from rfl)]); omega), (by (try rw [(show n_256 88 = (n_256 88) from rfl)]); omega)⟩)
        ·
          try simp only [mIn_0, lgc_lt, lgc_gt, lgc_le, lgc_ge, lgc_eq] at c_91
          try simp only [fl_lt, fl_le, fl_eq, fL_w, fL_lt, fL_le, tm1, tm10k, tm9, tm99, Int32.reduceToInt, Int64.reduceToInt, Int.not_lt, Int.not_le] at c_91
          refine gz_aload_n dX12_tells_94 rfl rfl ?_
          refine gz_bipush (v := 60) dX12_tells_95 (by decide) ?_
          refine scX12_547 (k_X12_signs (x1 := 60) hS_229 (by (try rw [(show n_229 88 = (n_229 88) from rfl)]); omega)) hS_229.1 ⟨(Nat.le_of_ble_eq_true rfl), (Nat.le_of_ble_eq_true rfl)⟩ ⟨(Nat.le_of_ble_eq_true rfl), (Nat.le_of_ble_eq_true rfl)⟩ rfl rfl (Nat.le_of_ble_eq_true rfl) dX12_tells_97 ?_
          rintro f_257 ⟨n_257, z_257, F_257, G_257, hS_257, hx257, h8_257⟩
          refine gz_aload_n dX12_tells_100 rfl rfl ?_
          refine mg_47 hS_257 dX12_tells_101 ?_
          refine gz_iload_n dX12_tells_104 rfl rfl ?_
          refine m_iald 16 hS_257 rfl (N := 880) rfl ((by exact vin_T (rfl : (x1).toInt = (x1).toInt) (by omega) (by omega))) dX12_tells_105 ?_
          refine gz_ev (w := .int ((F 16) (Int32.toNatClampNeg x1))) (congrArg Value.int (congrFun ((hx257.2.2.1 16 (by decide)).trans ((hx229.2.2.1 16 (by decide)).trans ((hx172.2.2.1 16 (by decide)).trans (hx1.2.2.1 16 (by decide))))) _)) ?_
          refine gz_iconst (v := 2) dX12_tells_106 (by decide) ?_
          refine gz_icmp_le (tgt := 116) dX12_tells_107 (by decide) (fun c_107 => ?_) (fun c_107 => ?_)
          ·
            try simp only [mIn_0, lgc_lt, lgc_gt, lgc_le, lgc_ge, lgc_eq] at c_107
            try simp only [fl_lt, fl_le, fl_eq, fL_w, fL_lt, fL_le, tm1, tm10k, tm9, tm99, Int32.reduceToInt, Int64.reduceToInt, Int.not_lt, Int.not_le] at c_107
            refine gz_aload_n dX12_tells_116 rfl rfl ?_
            refine mg_47 hS_257 dX12_tells_117 ?_
            refine gz_iload_n dX12_tells_120 rfl rfl ?_
            refine m_iald 16 hS_257 rfl (N := 880) rfl ((by exact vin_T (rfl : (x1).toInt = (x1).toInt) (by omega) (by omega))) dX12_tells_121 ?_
            refine gz_ev (w := .int ((F 16) (Int32.toNatClampNeg x1))) (congrArg Value.int (congrFun ((hx257.2.2.1 16 (by decide)).trans ((hx229.2.2.1 16 (by decide)).trans ((hx172.2.2.1 16 (by decide)).trans (hx1.2.2.1 16 (by decide))))) _)) ?_
            refine gz_if_le (tgt := 141) dX12_tells_122 (by decide) (fun c_122 => ?_) (fun c_122 => ?_)
            ·
              try simp only [mIn_0, lgc_lt, lgc_gt, lgc_le, lgc_ge, lgc_eq] at c_122
              try simp only [fl_lt, fl_le, fl_eq, fL_w, fL_lt, fL_le, tm1, tm10k, tm9, tm99, Int32.reduceToInt, Int64.reduceToInt, Int.not_lt, Int.not_le] at c_122
              refine gz_aload_n dX12_tells_141 rfl rfl ?_
              refine gz_iload_n dX12_tells_142 rfl rfl ?_
              refine gz_aload_n dX12_tells_143 rfl rfl ?_
              refine mg_41 hS_257 dX12_tells_144 ?_
              refine gz_iload_n dX12_tells_147 rfl rfl ?_
              refine m_iald 14 hS_257 rfl (N := 880) rfl ((by exact vin_T (rfl : (x1).toInt = (x1).toInt) (by omega) (by omega))) dX12_tells_148 ?_
              refine gz_ev (w := .int ((F 14) (Int32.toNatClampNeg x1))) (congrArg Value.int (congrFun ((hx257.2.2.1 14 (by decide)).trans ((hx229.2.2.1 14 (by decide)).trans ((hx172.2.2.1 14 (by decide)).trans (hx1.2.2.1 14 (by decide))))) _)) ?_
              refine gz_aload_n dX12_tells_149 rfl rfl ?_
              refine mg_44 hS_257 dX12_tells_150 ?_
              refine gz_iload_n dX12_tells_153 rfl rfl ?_
              refine m_iald 15 hS_257 rfl (N := 880) rfl ((by exact vin_T (rfl : (x1).toInt = (x1).toInt) (by omega) (by omega))) dX12_tells_154 ?_
              refine gz_ev (w := .int ((F 15) (Int32.toNatClampNeg x1))) (congrArg Value.int (congrFun ((hx257.2.2.1 15 (by decide)).trans ((hx229.2.2.1 15 (by decide)).trans ((hx172.2.2.1 15 (by decide)).trans (hx1.2.2.1 15 (by decide))))) _)) ?_
              have hxx155 : fx [88, 89] [] [87] [] n z F G n_257 z_257 F_257 G_257 := (fx_tr (fx_tr (fx_tr (fx_tr fx_rf hx1 (by decide)) hx172 (by decide)) hx229 (by decide)) hx257 (by decide))
              refine scX12_558 (k_X12_sums (x1 := x1) (x2 := ((F 14) (Int32.toNatClampNeg x1))) (x3 := ((F 15) (Int32.toNatClampNeg x1))) hS_257 (rAll_w (fun k hk => hxx155.2.2.1 k ((by decide : ∀ k : Nat, k ∈ wK → k ∉ ([87] : List Nat)) k hk)) bA) (by omega) (by omega) (by (try rw [(show n_257 88 = (n_257 88) from rfl)]); omega)) hS_257.1 ⟨(Nat.le_of_ble_eq_true rfl), (Nat.le_of_ble_eq_true rfl)⟩ ⟨(Nat.le_of_ble_eq_true rfl), (Nat.le_of_ble_eq_true rfl)⟩ rfl rfl (Nat.le_of_ble_eq_true rfl) dX12_tells_155 ?_
              rintro f_258 ⟨n_258, z_258, F_258, G_258, hS_258, hx258, h8a_258, h8b_258⟩
              refine gz_aload_n dX12_tells_158 rfl rfl ?_
              refine gz_bipush (v := 58) dX12_tells_159 (by decide) ?_
              refine scX12_547 (k_X12_signs (x1 := 58) hS_258 (by (try rw [(show n_258 88 = (n_258 88) from rfl)]); omega)) hS_258.1 ⟨(Nat.le_of_ble_eq_true rfl), (Nat.le_of_ble_eq_true rfl)⟩ ⟨(Nat.le_of_ble_eq_true rfl), (Nat.le_of_ble_eq_true rfl)⟩ rfl rfl (Nat.le_of_ble_eq_true rfl) dX12_tells_161 ?_
              rintro f_259 ⟨n_259, z_259, F_259, G_259, hS_259, hx259, h8_259⟩
              refine gz_aload_n dX12_tells_164 rfl rfl ?_
              refine mg_20 hS_259 dX12_tells_165 ?_
              refine gz_iload_n dX12_tells_168 rfl rfl ?_
              refine m_iald 7 hS_259 rfl (N := 880) rfl ((by exact vin_T (rfl : (x1).toInt = (x1).toInt) (by omega) (by omega))) dX12_tells_169 ?_
              refine gz_ev (w := .int ((F 7) (Int32.toNatClampNeg x1))) (congrArg Value.int (congrFun ((hx259.2.2.1 7 (by decide)).trans ((hx258.2.2.1 7 (by decide)).trans ((hx257.2.2.1 7 (by decide)).trans ((hx229.2.2.1 7 (by decide)).trans ((hx172.2.2.1 7 (by decide)).trans (hx1.2.2.1 7 (by decide))))))) _)) ?_
              refine gz_bipush (v := 9) dX12_tells_170 (by decide) ?_
              refine gz_icmp_ne (tgt := 198) dX12_tells_172 (by decide) (fun c_172 => ?_) (fun c_172 => ?_)
              ·
                try simp only [mIn_0, lgc_lt, lgc_gt, lgc_le, lgc_ge, lgc_eq] at c_172
                try simp only [fl_lt, fl_le, fl_eq, fL_w, fL_lt, fL_le, tm1, tm10k, tm9, tm99, Int32.reduceToInt, Int64.reduceToInt, Int.not_lt, Int.not_le] at c_172
                exact gz_vret rfl dX12_tells_198 (Nat.le_of_ble_eq_true rfl) (Nat.le_of_ble_eq_true rfl) (⟨rfl, _, _, _, _, hS_259, (fx_tr (fx_tr (fx_tr (fx_tr (fx_tr (fx_tr fx_rf hx1 (by decide)) hx172 (by decide)) hx229 (by decide)) hx257 (by decide)) hx258 (by decide)) hx259 (by decide)), (by (try rw [(show n_259 88 = (n_259 88) from rfl)]); omega), (by (try rw [(show n_259 88 = (n_259 88) from rfl)]); omega), (by (try rw [(show n_259 88 = (n_259 88) from rfl)]); omega)⟩)
              ·
                try simp only [mIn_0, lgc_lt, lgc_gt, lgc_le, lgc_ge, lgc_eq] at c_172
                try simp only [fl_lt, fl_le, fl_eq, fL_w, fL_lt, fL_le, tm1, tm10k, tm9, tm99, Int32.reduceToInt, Int64.reduceToInt, Int.not_lt, Int.not_le] at c_172
                refine gz_aload_n dX12_tells_175 rfl rfl ?_
                refine gz_iload_n dX12_tells_176 rfl rfl ?_
                refine gz_aload_n dX12_tells_177 rfl rfl ?_
                refine mg_38 hS_259 dX12_tells_178 ?_
                refine gz_iload_n dX12_tells_181 rfl rfl ?_
                refine m_iald 13 hS_259 rfl (N := 880) rfl ((by exact vin_T (rfl : (x1).toInt = (x1).toInt) (by omega) (by omega))) dX12_tells_182 ?_
                refine gz_ev (w := .int ((F 13) (Int32.toNatClampNeg x1))) (congrArg Value.int (congrFun ((hx259.2.2.1 13 (by decide)).trans ((hx258.2.2.1 13 (by decide)).trans ((hx257.2.2.1 13 (by decide)).trans ((hx229.2.2.1 13 (by decide)).trans ((hx172.2.2.1 13 (by decide)).trans (hx1.2.2.1 13 (by decide))))))) _)) ?_
                refine gz_aload_n dX12_tells_183 rfl rfl ?_
                refine mg_41 hS_259 dX12_tells_184 ?_
                refine gz_iload_n dX12_tells_187 rfl rfl ?_
                refine m_iald 14 hS_259 rfl (N := 880) rfl ((by exact vin_T (rfl : (x1).toInt = (x1).toInt) (by omega) (by omega))) dX12_tells_188 ?_
                refine gz_ev (w := .int ((F 14) (Int32.toNatClampNeg x1))) (congrArg Value.int (congrFun ((hx259.2.2.1 14 (by decide)).trans ((hx258.2.2.1 14 (by decide)).trans ((hx257.2.2.1 14 (by decide)).trans ((hx229.2.2.1 14 (by decide)).trans ((hx172.2.2.1 14 (by decide)).trans (hx1.2.2.1 14 (by decide))))))) _)) ?_
                have hxx189 : fx [88, 89] [] [87] [] n z F G n_259 z_259 F_259 G_259 := (fx_tr (fx_tr (fx_tr (fx_tr (fx_tr (fx_tr fx_rf hx1 (by decide)) hx172 (by decide)) hx229 (by decide)) hx257 (by decide)) hx258 (by decide)) hx259 (by decide))
                refine scX12_558 (k_X12_sums (x1 := x1) (x2 := ((F 13) (Int32.toNatClampNeg x1))) (x3 := ((F 14) (Int32.toNatClampNeg x1))) hS_259 (rAll_w (fun k hk => hxx189.2.2.1 k ((by decide : ∀ k : Nat, k ∈ wK → k ∉ ([87] : List Nat)) k hk)) bA) (by omega) (by omega) (by (try rw [(show n_259 88 = (n_259 88) from rfl)]); omega)) hS_259.1 ⟨(Nat.le_of_ble_eq_true rfl), (Nat.le_of_ble_eq_true rfl)⟩ ⟨(Nat.le_of_ble_eq_true rfl), (Nat.le_of_ble_eq_true rfl)⟩ rfl rfl (Nat.le_of_ble_eq_true rfl) dX12_tells_189 ?_
                rintro f_260 ⟨n_260, z_260, F_260, G_260, hS_260, hx260, h8a_260, h8b_260⟩
                refine gz_aload_n dX12_tells_192 rfl rfl ?_
                refine gz_bipush (v := 58) dX12_tells_193 (by decide) ?_
                refine scX12_547 (k_X12_signs (x1 := 58) hS_260 (by (try rw [(show n_260 88 = (n_260 88) from rfl)]); omega)) hS_260.1 ⟨(Nat.le_of_ble_eq_true rfl), (Nat.le_of_ble_eq_true rfl)⟩ ⟨(Nat.le_of_ble_eq_true rfl), (Nat.le_of_ble_eq_true rfl)⟩ rfl rfl (Nat.le_of_ble_eq_true rfl) dX12_tells_195 ?_
                rintro f_261 ⟨n_261, z_261, F_261, G_261, hS_261, hx261, h8_261⟩
                exact gz_vret rfl dX12_tells_198 (Nat.le_of_ble_eq_true rfl) (Nat.le_of_ble_eq_true rfl) (⟨rfl, _, _, _, _, hS_261, (fx_tr (fx_tr (fx_tr (fx_tr (fx_tr (fx_tr (fx_tr (fx_tr fx_rf hx1 (by decide)) hx172 (by decide)) hx229 (by decide)) hx257 (by decide)) hx258 (by decide)) hx259 (by decide)) hx260 (by decide)) hx261 (by decide)), (by (try rw [(show n_261 88 = (n_261 88) from rfl)]); omega), (by (try rw [(show n_261 88 = (n_261 88) from rfl)]); omega), (by (try rw [(show n_261 88 = (n_261 88) from rfl)]); omega)⟩)
            ·
              try simp only [mIn_0, lgc_lt, lgc_gt, lgc_le, lgc_ge, lgc_eq] at c_122
              try simp only [fl_lt, fl_le, fl_eq, fL_w, fL_lt, fL_le, tm1, tm10k, tm9, tm99, Int32.reduceToInt, Int64.reduceToInt, Int.not_lt, Int.not_le] at c_122
              refine gz_aload_n dX12_tells_125 rfl rfl ?_
              refine mg_47 hS_257 dX12_tells_126 ?_
              refine gz_iload_n dX12_tells_129 rfl rfl ?_
              refine m_iald 16 hS_257 rfl (N := 880) rfl ((by exact vin_T (rfl : (x1).toInt = (x1).toInt) (by omega) (by omega))) dX12_tells_130 ?_
              refine gz_ev (w := .int ((F 16) (Int32.toNatClampNeg x1))) (congrArg Value.int (congrFun ((hx257.2.2.1 16 (by decide)).trans ((hx229.2.2.1 16 (by decide)).trans ((hx172.2.2.1 16 (by decide)).trans (hx1.2.2.1 16 (by decide))))) _)) ?_
              refine gz_iconst (v := 4) dX12_tells_131 (by decide) ?_
              refine gz_icmp_ge (tgt := 141) dX12_tells_132 (by decide) (fun c_132 => ?_) (fun c_132 => ?_)
              ·
                try simp only [mIn_0, lgc_lt, lgc_gt, lgc_le, lgc_ge, lgc_eq] at c_132
                try simp only [fl_lt, fl_le, fl_eq, fL_w, fL_lt, fL_le, tm1, tm10k, tm9, tm99, Int32.reduceToInt, Int64.reduceToInt, Int.not_lt, Int.not_le] at c_132
                refine gz_aload_n dX12_tells_141 rfl rfl ?_
                refine gz_iload_n dX12_tells_142 rfl rfl ?_
                refine gz_aload_n dX12_tells_143 rfl rfl ?_
                refine mg_41 hS_257 dX12_tells_144 ?_
                refine gz_iload_n dX12_tells_147 rfl rfl ?_
                refine m_iald 14 hS_257 rfl (N := 880) rfl ((by exact vin_T (rfl : (x1).toInt = (x1).toInt) (by omega) (by omega))) dX12_tells_148 ?_
                refine gz_ev (w := .int ((F 14) (Int32.toNatClampNeg x1))) (congrArg Value.int (congrFun ((hx257.2.2.1 14 (by decide)).trans ((hx229.2.2.1 14 (by decide)).trans ((hx172.2.2.1 14 (by decide)).trans (hx1.2.2.1 14 (by decide))))) _)) ?_
                refine gz_aload_n dX12_tells_149 rfl rfl ?_
                refine mg_44 hS_257 dX12_tells_150 ?_
                refine gz_iload_n dX12_tells_153 rfl rfl ?_
                refine m_iald 15 hS_257 rfl (N := 880) rfl ((by exact vin_T (rfl : (x1).toInt = (x1).toInt) (by omega) (by omega))) dX12_tells_154 ?_
                refine gz_ev (w := .int ((F 15) (Int32.toNatClampNeg x1))) (congrArg Value.int (congrFun ((hx257.2.2.1 15 (by decide)).trans ((hx229.2.2.1 15 (by decide)).trans ((hx172.2.2.1 15 (by decide)).trans (hx1.2.2.1 15 (by decide))))) _)) ?_
                have hxx155 : fx [88, 89] [] [87] [] n z F G n_257 z_257 F_257 G_257 := (fx_tr (fx_tr (fx_tr (fx_tr fx_rf hx1 (by decide)) hx172 (by decide)) hx229 (by decide)) hx257 (by decide))
                refine scX12_558 (k_X12_sums (x1 := x1) (x2 := ((F 14) (Int32.toNatClampNeg x1))) (x3 := ((F 15) (Int32.toNatClampNeg x1))) hS_257 (rAll_w (fun k hk => hxx155.2.2.1 k ((by decide : ∀ k : Nat, k ∈ wK → k ∉ ([87] : List Nat)) k hk)) bA) (by omega) (by omega) (by (try rw [(show n_257 88 = (n_257 88) from rfl)]); omega)) hS_257.1 ⟨(Nat.le_of_ble_eq_true rfl), (Nat.le_of_ble_eq_true rfl)⟩ ⟨(Nat.le_of_ble_eq_true rfl), (Nat.le_of_ble_eq_true rfl)⟩ rfl rfl (Nat.le_of_ble_eq_true rfl) dX12_tells_155 ?_
                rintro f_262 ⟨n_262, z_262, F_262, G_262, hS_262, hx262, h8a_262, h8b_262⟩
                refine gz_aload_n dX12_tells_158 rfl rfl ?_
                refine gz_bipush (v := 58) dX12_tells_159 (by decide) ?_
                refine scX12_547 (k_X12_signs (x1 := 58) hS_262 (by (try rw [(show n_262 88 = (n_262 88) from rfl)]); omega)) hS_262.1 ⟨(Nat.le_of_ble_eq_true rfl), (Nat.le_of_ble_eq_true rfl)⟩ ⟨(Nat.le_of_ble_eq_true rfl), (Nat.le_of_ble_eq_true rfl)⟩ rfl rfl (Nat.le_of_ble_eq_true rfl) dX12_tells_161 ?_
                rintro f_263 ⟨n_263, z_263, F_263, G_263, hS_263, hx263, h8_263⟩
                refine gz_aload_n dX12_tells_164 rfl rfl ?_
                refine mg_20 hS_263 dX12_tells_165 ?_
                refine gz_iload_n dX12_tells_168 rfl rfl ?_
                refine m_iald 7 hS_263 rfl (N := 880) rfl ((by exact vin_T (rfl : (x1).toInt = (x1).toInt) (by omega) (by omega))) dX12_tells_169 ?_
                refine gz_ev (w := .int ((F 7) (Int32.toNatClampNeg x1))) (congrArg Value.int (congrFun ((hx263.2.2.1 7 (by decide)).trans ((hx262.2.2.1 7 (by decide)).trans ((hx257.2.2.1 7 (by decide)).trans ((hx229.2.2.1 7 (by decide)).trans ((hx172.2.2.1 7 (by decide)).trans (hx1.2.2.1 7 (by decide))))))) _)) ?_
                refine gz_bipush (v := 9) dX12_tells_170 (by decide) ?_
                refine gz_icmp_ne (tgt := 198) dX12_tells_172 (by decide) (fun c_172 => ?_) (fun c_172 => ?_)
                ·
                  try simp only [mIn_0, lgc_lt, lgc_gt, lgc_le, lgc_ge, lgc_eq] at c_172
                  try simp only [fl_lt, fl_le, fl_eq, fL_w, fL_lt, fL_le, tm1, tm10k, tm9, tm99, Int32.reduceToInt, Int64.reduceToInt, Int.not_lt, Int.not_le] at c_172
                  exact gz_vret rfl dX12_tells_198 (Nat.le_of_ble_eq_true rfl) (Nat.le_of_ble_eq_true rfl) (⟨rfl, _, _, _, _, hS_263, (fx_tr (fx_tr (fx_tr (fx_tr (fx_tr (fx_tr fx_rf hx1 (by decide)) hx172 (by decide)) hx229 (by decide)) hx257 (by decide)) hx262 (by decide)) hx263 (by decide)), (by (try rw [(show n_263 88 = (n_263 88) from rfl)]); omega), (by (try rw [(show n_263 88 = (n_263 88) from rfl)]); omega), (by (try rw [(show n_263 88 = (n_263 88) from rfl)]); omega)⟩)
                ·
                  try simp only [mIn_0, lgc_lt, lgc_gt, lgc_le, lgc_ge, lgc_eq] at c_172
                  try simp only [fl_lt, fl_le, fl_eq, fL_w, fL_lt, fL_le, tm1, tm10k, tm9, tm99, Int32.reduceToInt, Int64.reduceToInt, Int.not_lt, Int.not_le] at c_172
                  refine gz_aload_n dX12_tells_175 rfl rfl ?_
                  refine gz_iload_n dX12_tells_176 rfl rfl ?_
                  refine gz_aload_n dX12_tells_177 rfl rfl ?_
                  refine mg_38 hS_263 dX12_tells_178 ?_
                  refine gz_iload_n dX12_tells_181 rfl rfl ?_
                  refine m_iald 13 hS_263 rfl (N := 880) rfl ((by exact vin_T (rfl : (x1).toInt = (x1).toInt) (by omega) (by omega))) dX12_tells_182 ?_
                  refine gz_ev (w := .int ((F 13) (Int32.toNatClampNeg x1))) (congrArg Value.int (congrFun ((hx263.2.2.1 13 (by decide)).trans ((hx262.2.2.1 13 (by decide)).trans ((hx257.2.2.1 13 (by decide)).trans ((hx229.2.2.1 13 (by decide)).trans ((hx172.2.2.1 13 (by decide)).trans (hx1.2.2.1 13 (by decide))))))) _)) ?_
                  refine gz_aload_n dX12_tells_183 rfl rfl ?_
                  refine mg_41 hS_263 dX12_tells_184 ?_
                  refine gz_iload_n dX12_tells_187 rfl rfl ?_
                  refine m_iald 14 hS_263 rfl (N := 880) rfl ((by exact vin_T (rfl : (x1).toInt = (x1).toInt) (by omega) (by omega))) dX12_tells_188 ?_
                  refine gz_ev (w := .int ((F 14) (Int32.toNatClampNeg x1))) (congrArg Value.int (congrFun ((hx263.2.2.1 14 (by decide)).trans ((hx262.2.2.1 14 (by decide)).trans ((hx257.2.2.1 14 (by decide)).trans ((hx229.2.2.1 14 (by decide)).trans ((hx172.2.2.1 14 (by decide)).trans (hx1.2.2.1 14 (by decide))))))) _)) ?_
                  have hxx189 : fx [88, 89] [] [87] [] n z F G n_263 z_263 F_263 G_263 := (fx_tr (fx_tr (fx_tr (fx_tr (fx_tr (fx_tr fx_rf hx1 (by decide)) hx172 (by decide)) hx229 (by decide)) hx257 (by decide)) hx262 (by decide)) hx263 (by decide))
                  refine scX12_558 (k_X12_sums (x1 := x1) (x2 := ((F 13) (Int32.toNatClampNeg x1))) (x3 := ((F 14) (Int32.toNatClampNeg x1))) hS_263 (rAll_w (fun k hk => hxx189.2.2.1 k ((by decide : ∀ k : Nat, k ∈ wK → k ∉ ([87] : List Nat)) k hk)) bA) (by omega) (by omega) (by (try rw [(show n_263 88 = (n_263 88) from rfl)]); omega)) hS_263.1 ⟨(Nat.le_of_ble_eq_true rfl), (Nat.le_of_ble_eq_true rfl)⟩ ⟨(Nat.le_of_ble_eq_true rfl), (Nat.le_of_ble_eq_true rfl)⟩ rfl rfl (Nat.le_of_ble_eq_true rfl) dX12_tells_189 ?_
                  rintro f_264 ⟨n_264, z_264, F_264, G_264, hS_264, hx264, h8a_264, h8b_264⟩
                  refine gz_aload_n dX12_tells_192 rfl rfl ?_
                  refine gz_bipush (v := 58) dX12_tells_193 (by decide) ?_
                  refine scX12_547 (k_X12_signs (x1 := 58) hS_264 (by (try rw [(show n_264 88 = (n_264 88) from rfl)]); omega)) hS_264.1 ⟨(Nat.le_of_ble_eq_true rfl), (Nat.le_of_ble_eq_true rfl)⟩ ⟨(Nat.le_of_ble_eq_true rfl), (Nat.le_of_ble_eq_true rfl)⟩ rfl rfl (Nat.le_of_ble_eq_true rfl) dX12_tells_195 ?_
                  rintro f_265 ⟨n_265, z_265, F_265, G_265, hS_265, hx265, h8_265⟩
                  exact gz_vret rfl dX12_tells_198 (Nat.le_of_ble_eq_true rfl) (Nat.le_of_ble_eq_true rfl) (⟨rfl, _, _, _, _, hS_265, (fx_tr (fx_tr (fx_tr (fx_tr (fx_tr (fx_tr (fx_tr (fx_tr fx_rf hx1 (by decide)) hx172 (by decide)) hx229 (by decide)) hx257 (by decide)) hx262 (by decide)) hx263 (by decide)) hx264 (by decide)) hx265 (by decide)), (by (try rw [(show n_265 88 = (n_265 88) from rfl)]); omega), (by (try rw [(show n_265 88 = (n_265 88) from rfl)]); omega), (by (try rw [(show n_265 88 = (n_265 88) from rfl)]); omega)⟩)
              ·
                try simp only [mIn_0, lgc_lt, lgc_gt, lgc_le, lgc_ge, lgc_eq] at c_132
                try simp only [fl_lt, fl_le, fl_eq, fL_w, fL_lt, fL_le, tm1, tm10k, tm9, tm99, Int32.reduceToInt, Int64.reduceToInt, Int.not_lt, Int.not_le] at c_132
                refine gz_aload_n dX12_tells_135 rfl rfl ?_
                refine gz_bipush (v := 61) dX12_tells_136 (by decide) ?_
                refine scX12_547 (k_X12_signs (x1 := 61) hS_257 (by (try rw [(show n_257 88 = (n_257 88) from rfl)]); omega)) hS_257.1 ⟨(Nat.le_of_ble_eq_true rfl), (Nat.le_of_ble_eq_true rfl)⟩ ⟨(Nat.le_of_ble_eq_true rfl), (Nat.le_of_ble_eq_true rfl)⟩ rfl rfl (Nat.le_of_ble_eq_true rfl) dX12_tells_138 ?_
                rintro f_266 ⟨n_266, z_266, F_266, G_266, hS_266, hx266, h8_266⟩
                refine gz_aload_n dX12_tells_141 rfl rfl ?_
                refine gz_iload_n dX12_tells_142 rfl rfl ?_
                refine gz_aload_n dX12_tells_143 rfl rfl ?_
                refine mg_41 hS_266 dX12_tells_144 ?_
                refine gz_iload_n dX12_tells_147 rfl rfl ?_
                refine m_iald 14 hS_266 rfl (N := 880) rfl ((by exact vin_T (rfl : (x1).toInt = (x1).toInt) (by omega) (by omega))) dX12_tells_148 ?_
                refine gz_ev (w := .int ((F 14) (Int32.toNatClampNeg x1))) (congrArg Value.int (congrFun ((hx266.2.2.1 14 (by decide)).trans ((hx257.2.2.1 14 (by decide)).trans ((hx229.2.2.1 14 (by decide)).trans ((hx172.2.2.1 14 (by decide)).trans (hx1.2.2.1 14 (by decide)))))) _)) ?_
                refine gz_aload_n dX12_tells_149 rfl rfl ?_
                refine mg_44 hS_266 dX12_tells_150 ?_
                refine gz_iload_n dX12_tells_153 rfl rfl ?_
                refine m_iald 15 hS_266 rfl (N := 880) rfl ((by exact vin_T (rfl : (x1).toInt = (x1).toInt) (by omega) (by omega))) dX12_tells_154 ?_
                refine gz_ev (w := .int ((F 15) (Int32.toNatClampNeg x1))) (congrArg Value.int (congrFun ((hx266.2.2.1 15 (by decide)).trans ((hx257.2.2.1 15 (by decide)).trans ((hx229.2.2.1 15 (by decide)).trans ((hx172.2.2.1 15 (by decide)).trans (hx1.2.2.1 15 (by decide)))))) _)) ?_
                have hxx155 : fx [88, 89] [] [87] [] n z F G n_266 z_266 F_266 G_266 := (fx_tr (fx_tr (fx_tr (fx_tr (fx_tr fx_rf hx1 (by decide)) hx172 (by decide)) hx229 (by decide)) hx257 (by decide)) hx266 (by decide))
                refine scX12_558 (k_X12_sums (x1 := x1) (x2 := ((F 14) (Int32.toNatClampNeg x1))) (x3 := ((F 15) (Int32.toNatClampNeg x1))) hS_266 (rAll_w (fun k hk => hxx155.2.2.1 k ((by decide : ∀ k : Nat, k ∈ wK → k ∉ ([87] : List Nat)) k hk)) bA) (by omega) (by omega) (by (try rw [(show n_266 88 = (n_266 88) from rfl)]); omega)) hS_266.1 ⟨(Nat.le_of_ble_eq_true rfl), (Nat.le_of_ble_eq_true rfl)⟩ ⟨(Nat.le_of_ble_eq_true rfl), (Nat.le_of_ble_eq_true rfl)⟩ rfl rfl (Nat.le_of_ble_eq_true rfl) dX12_tells_155 ?_
                rintro f_267 ⟨n_267, z_267, F_267, G_267, hS_267, hx267, h8a_267, h8b_267⟩
                refine gz_aload_n dX12_tells_158 rfl rfl ?_
                refine gz_bipush (v := 58) dX12_tells_159 (by decide) ?_
                refine scX12_547 (k_X12_signs (x1 := 58) hS_267 (by (try rw [(show n_267 88 = (n_267 88) from rfl)]); omega)) hS_267.1 ⟨(Nat.le_of_ble_eq_true rfl), (Nat.le_of_ble_eq_true rfl)⟩ ⟨(Nat.le_of_ble_eq_true rfl), (Nat.le_of_ble_eq_true rfl)⟩ rfl rfl (Nat.le_of_ble_eq_true rfl) dX12_tells_161 ?_
                rintro f_268 ⟨n_268, z_268, F_268, G_268, hS_268, hx268, h8_268⟩
                refine gz_aload_n dX12_tells_164 rfl rfl ?_
                refine mg_20 hS_268 dX12_tells_165 ?_
                refine gz_iload_n dX12_tells_168 rfl rfl ?_
                refine m_iald 7 hS_268 rfl (N := 880) rfl ((by exact vin_T (rfl : (x1).toInt = (x1).toInt) (by omega) (by omega))) dX12_tells_169 ?_
                refine gz_ev (w := .int ((F 7) (Int32.toNatClampNeg x1))) (congrArg Value.int (congrFun ((hx268.2.2.1 7 (by decide)).trans ((hx267.2.2.1 7 (by decide)).trans ((hx266.2.2.1 7 (by decide)).trans ((hx257.2.2.1 7 (by decide)).trans ((hx229.2.2.1 7 (by decide)).trans ((hx172.2.2.1 7 (by decide)).trans (hx1.2.2.1 7 (by decide)))))))) _)) ?_
                refine gz_bipush (v := 9) dX12_tells_170 (by decide) ?_
                refine gz_icmp_ne (tgt := 198) dX12_tells_172 (by decide) (fun c_172 => ?_) (fun c_172 => ?_)
                ·
                  try simp only [mIn_0, lgc_lt, lgc_gt, lgc_le, lgc_ge, lgc_eq] at c_172
                  try simp only [fl_lt, fl_le, fl_eq, fL_w, fL_lt, fL_le, tm1, tm10k, tm9, tm99, Int32.reduceToInt, Int64.reduceToInt, Int.not_lt, Int.not_le] at c_172
                  exact gz_vret rfl dX12_tells_198 (Nat.le_of_ble_eq_true rfl) (Nat.le_of_ble_eq_true rfl) (⟨rfl, _, _, _, _, hS_268, (fx_tr (fx_tr (fx_tr (fx_tr (fx_tr (fx_tr (fx_tr fx_rf hx1 (by decide)) hx172 (by decide)) hx229 (by decide)) hx257 (by decide)) hx266 (by decide)) hx267 (by decide)) hx268 (by decide)), (by (try rw [(show n_268 88 = (n_268 88) from rfl)]); omega), (by (try rw [(show n_268 88 = (n_268 88) from rfl)]); omega), (by (try rw [(show n_268 88 = (n_268 88) from rfl)]); omega)⟩)
                ·
                  try simp only [mIn_0, lgc_lt, lgc_gt, lgc_le, lgc_ge, lgc_eq] at c_172
                  try simp only [fl_lt, fl_le, fl_eq, fL_w, fL_lt, fL_le, tm1, tm10k, tm9, tm99, Int32.reduceToInt, Int64.reduceToInt, Int.not_lt, Int.not_le] at c_172
                  refine gz_aload_n dX12_tells_175 rfl rfl ?_
                  refine gz_iload_n dX12_tells_176 rfl rfl ?_
                  refine gz_aload_n dX12_tells_177 rfl rfl ?_
                  refine mg_38 hS_268 dX12_tells_178 ?_
                  refine gz_iload_n dX12_tells_181 rfl rfl ?_
                  refine m_iald 13 hS_268 rfl (N := 880) rfl ((by exact vin_T (rfl : (x1).toInt = (x1).toInt) (by omega) (by omega))) dX12_tells_182 ?_
                  refine gz_ev (w := .int ((F 13) (Int32.toNatClampNeg x1))) (congrArg Value.int (congrFun ((hx268.2.2.1 13 (by decide)).trans ((hx267.2.2.1 13 (by decide)).trans ((hx266.2.2.1 13 (by decide)).trans ((hx257.2.2.1 13 (by decide)).trans ((hx229.2.2.1 13 (by decide)).trans ((hx172.2.2.1 13 (by decide)).trans (hx1.2.2.1 13 (by decide)))))))) _)) ?_
                  refine gz_aload_n dX12_tells_183 rfl rfl ?_
                  refine mg_41 hS_268 dX12_tells_184 ?_
                  refine gz_iload_n dX12_tells_187 rfl rfl ?_
                  refine m_iald 14 hS_268 rfl (N := 880) rfl ((by exact vin_T (rfl : (x1).toInt = (x1).toInt) (by omega) (by omega))) dX12_tells_188 ?_
                  refine gz_ev (w := .int ((F 14) (Int32.toNatClampNeg x1))) (congrArg Value.int (congrFun ((hx268.2.2.1 14 (by decide)).trans ((hx267.2.2.1 14 (by decide)).trans ((hx266.2.2.1 14 (by decide)).trans ((hx257.2.2.1 14 (by decide)).trans ((hx229.2.2.1 14 (by decide)).trans ((hx172.2.2.1 14 (by decide)).trans (hx1.2.2.1 14 (by decide)))))))) _)) ?_
                  have hxx189 : fx [88, 89] [] [87] [] n z F G n_268 z_268 F_268 G_268 := (fx_tr (fx_tr (fx_tr (fx_tr (fx_tr (fx_tr (fx_tr fx_rf hx1 (by decide)) hx172 (by decide)) hx229 (by decide)) hx257 (by decide)) hx266 (by decide)) hx267 (by decide)) hx268 (by decide))
                  refine scX12_558 (k_X12_sums (x1 := x1) (x2 := ((F 13) (Int32.toNatClampNeg x1))) (x3 := ((F 14) (Int32.toNatClampNeg x1))) hS_268 (rAll_w (fun k hk => hxx189.2.2.1 k ((by decide : ∀ k : Nat, k ∈ wK → k ∉ ([87] : List Nat)) k hk)) bA) (by omega) (by omega) (by (try rw [(show n_268 88 = (n_268 88) from rfl)]); omega)) hS_268.1 ⟨(Nat.le_of_ble_eq_true rfl), (Nat.le_of_ble_eq_true rfl)⟩ ⟨(Nat.le_of_ble_eq_true rfl), (Nat.le_of_ble_eq_true rfl)⟩ rfl rfl (Nat.le_of_ble_eq_true rfl) dX12_tells_189 ?_
                  rintro f_269 ⟨n_269, z_269, F_269, G_269, hS_269, hx269, h8a_269, h8b_269⟩
                  refine gz_aload_n dX12_tells_192 rfl rfl ?_
                  refine gz_bipush (v := 58) dX12_tells_193 (by decide) ?_
                  refine scX12_547 (k_X12_signs (x1 := 58) hS_269 (by (try rw [(show n_269 88 = (n_269 88) from rfl)]); omega)) hS_269.1 ⟨(Nat.le_of_ble_eq_true rfl), (Nat.le_of_ble_eq_true rfl)⟩ ⟨(Nat.le_of_ble_eq_true rfl), (Nat.le_of_ble_eq_true rfl)⟩ rfl rfl (Nat.le_of_ble_eq_true rfl) dX12_tells_195 ?_
                  rintro f_270 ⟨n_270, z_270, F_270, G_270, hS_270, hx270, h8_270⟩
                  exact gz_vret rfl dX12_tells_198 (Nat.le_of_ble_eq_true rfl) (Nat.le_of_ble_eq_true rfl) (⟨rfl, _, _, _, _, hS_270, (fx_tr (fx_tr (fx_tr (fx_tr (fx_tr (fx_tr (fx_tr (fx_tr (fx_tr fx_rf hx1 (by decide)) hx172 (by decide)) hx229 (by decide)) hx257 (by decide)) hx266 (by decide)) hx267 (by decide)) hx268 (by decide)) hx269 (by decide)) hx270 (by decide)), (by (try rw [(show n_270 88 = (n_270 88) from rfl)]); omega), (by (try rw [(show n_270 88 = (n_270 88) from rfl)]); omega), (by (try rw [(show n_270 88 = (n_270 88) from rfl)]); omega)⟩)
          ·
            try simp only [mIn_0, lgc_lt, lgc_gt, lgc_le, lgc_ge, lgc_eq] at c_107
            try simp only [fl_lt, fl_le, fl_eq, fL_w, fL_lt, fL_le, tm1, tm10k, tm9, tm99, Int32.reduceToInt, Int64.reduceToInt, Int.not_lt, Int.not_le] at c_107
            refine gz_aload_n dX12_tells_110 rfl rfl ?_
            refine gz_bipush (v := 62) dX12_tells_111 (by decide) ?_
            refine scX12_547 (k_X12_signs (x1 := 62) hS_257 (by (try rw [(show n_257 88 = (n_257 88) from rfl)]); omega)) hS_257.1 ⟨(Nat.le_of_ble_eq_true rfl), (Nat.le_of_ble_eq_true rfl)⟩ ⟨(Nat.le_of_ble_eq_true rfl), (Nat.le_of_ble_eq_true rfl)⟩ rfl rfl (Nat.le_of_ble_eq_true rfl) dX12_tells_113 ?_
            rintro f_271 ⟨n_271, z_271, F_271, G_271, hS_271, hx271, h8_271⟩
            refine gz_aload_n dX12_tells_116 rfl rfl ?_
            refine mg_47 hS_271 dX12_tells_117 ?_
            refine gz_iload_n dX12_tells_120 rfl rfl ?_
            refine m_iald 16 hS_271 rfl (N := 880) rfl ((by exact vin_T (rfl : (x1).toInt = (x1).toInt) (by omega) (by omega))) dX12_tells_121 ?_
            refine gz_ev (w := .int ((F 16) (Int32.toNatClampNeg x1))) (congrArg Value.int (congrFun ((hx271.2.2.1 16 (by decide)).trans ((hx257.2.2.1 16 (by decide)).trans ((hx229.2.2.1 16 (by decide)).trans ((hx172.2.2.1 16 (by decide)).trans (hx1.2.2.1 16 (by decide)))))) _)) ?_
            refine gz_if_le (tgt := 141) dX12_tells_122 (by decide) (fun c_122 => ?_) (fun c_122 => ?_)
            ·
              try simp only [mIn_0, lgc_lt, lgc_gt, lgc_le, lgc_ge, lgc_eq] at c_122
              try simp only [fl_lt, fl_le, fl_eq, fL_w, fL_lt, fL_le, tm1, tm10k, tm9, tm99, Int32.reduceToInt, Int64.reduceToInt, Int.not_lt, Int.not_le] at c_122
              refine gz_aload_n dX12_tells_141 rfl rfl ?_
              refine gz_iload_n dX12_tells_142 rfl rfl ?_
              refine gz_aload_n dX12_tells_143 rfl rfl ?_
              refine mg_41 hS_271 dX12_tells_144 ?_
              refine gz_iload_n dX12_tells_147 rfl rfl ?_
              refine m_iald 14 hS_271 rfl (N := 880) rfl ((by exact vin_T (rfl : (x1).toInt = (x1).toInt) (by omega) (by omega))) dX12_tells_148 ?_
              refine gz_ev (w := .int ((F 14) (Int32.toNatClampNeg x1))) (congrArg Value.int (congrFun ((hx271.2.2.1 14 (by decide)).trans ((hx257.2.2.1 14 (by decide)).trans ((hx229.2.2.1 14 (by decide)).trans ((hx172.2.2.1 14 (by decide)).trans (hx1.2.2.1 14 (by decide)))))) _)) ?_
              refine gz_aload_n dX12_tells_149 rfl rfl ?_
              refine mg_44 hS_271 dX12_tells_150 ?_
              refine gz_iload_n dX12_tells_153 rfl rfl ?_
              refine m_iald 15 hS_271 rfl (N := 880) rfl ((by exact vin_T (rfl : (x1).toInt = (x1).toInt) (by omega) (by omega))) dX12_tells_154 ?_
              refine gz_ev (w := .int ((F 15) (Int32.toNatClampNeg x1))) (congrArg Value.int (congrFun ((hx271.2.2.1 15 (by decide)).trans ((hx257.2.2.1 15 (by decide)).trans ((hx229.2.2.1 15 (by decide)).trans ((hx172.2.2.1 15 (by decide)).trans (hx1.2.2.1 15 (by decide)))))) _)) ?_
              have hxx155 : fx [88, 89] [] [87] [] n z F G n_271 z_271 F_271 G_271 := (fx_tr (fx_tr (fx_tr (fx_tr (fx_tr fx_rf hx1 (by decide)) hx172 (by decide)) hx229 (by decide)) hx257 (by decide)) hx271 (by decide))
              refine scX12_558 (k_X12_sums (x1 := x1) (x2 := ((F 14) (Int32.toNatClampNeg x1))) (x3 := ((F 15) (Int32.toNatClampNeg x1))) hS_271 (rAll_w (fun k hk => hxx155.2.2.1 k ((by decide : ∀ k : Nat, k ∈ wK → k ∉ ([87] : List Nat)) k hk)) bA) (by omega) (by omega) (by (try rw [(show n_271 88 = (n_271 88) from rfl)]); omega)) hS_271.1 ⟨(Nat.le_of_ble_eq_true rfl), (Nat.le_of_ble_eq_true rfl)⟩ ⟨(Nat.le_of_ble_eq_true rfl), (Nat.le_of_ble_eq_true rfl)⟩ rfl rfl (Nat.le_of_ble_eq_true rfl) dX12_tells_155 ?_
              rintro f_272 ⟨n_272, z_272, F_272, G_272, hS_272, hx272, h8a_272, h8b_272⟩
              refine gz_aload_n dX12_tells_158 rfl rfl ?_
              refine gz_bipush (v := 58) dX12_tells_159 (by decide) ?_
              refine scX12_547 (k_X12_signs (x1 := 58) hS_272 (by (try rw [(show n_272 88 = (n_272 88) from rfl)]); omega)) hS_272.1 ⟨(Nat.le_of_ble_eq_true rfl), (Nat.le_of_ble_eq_true rfl)⟩ ⟨(Nat.le_of_ble_eq_true rfl), (Nat.le_of_ble_eq_true rfl)⟩ rfl rfl (Nat.le_of_ble_eq_true rfl) dX12_tells_161 ?_
              rintro f_273 ⟨n_273, z_273, F_273, G_273, hS_273, hx273, h8_273⟩
              refine gz_aload_n dX12_tells_164 rfl rfl ?_
              refine mg_20 hS_273 dX12_tells_165 ?_
              refine gz_iload_n dX12_tells_168 rfl rfl ?_
              refine m_iald 7 hS_273 rfl (N := 880) rfl ((by exact vin_T (rfl : (x1).toInt = (x1).toInt) (by omega) (by omega))) dX12_tells_169 ?_
              refine gz_ev (w := .int ((F 7) (Int32.toNatClampNeg x1))) (congrArg Value.int (congrFun ((hx273.2.2.1 7 (by decide)).trans ((hx272.2.2.1 7 (by decide)).trans ((hx271.2.2.1 7 (by decide)).trans ((hx257.2.2.1 7 (by decide)).trans ((hx229.2.2.1 7 (by decide)).trans ((hx172.2.2.1 7 (by decide)).trans (hx1.2.2.1 7 (by decide)))))))) _)) ?_
              refine gz_bipush (v := 9) dX12_tells_170 (by decide) ?_
              refine gz_icmp_ne (tgt := 198) dX12_tells_172 (by decide) (fun c_172 => ?_) (fun c_172 => ?_)
              ·
                try simp only [mIn_0, lgc_lt, lgc_gt, lgc_le, lgc_ge, lgc_eq] at c_172
                try simp only [fl_lt, fl_le, fl_eq, fL_w, fL_lt, fL_le, tm1, tm10k, tm9, tm99, Int32.reduceToInt, Int64.reduceToInt, Int.not_lt, Int.not_le] at c_172
                exact gz_vret rfl dX12_tells_198 (Nat.le_of_ble_eq_true rfl) (Nat.le_of_ble_eq_true rfl) (⟨rfl, _, _, _, _, hS_273, (fx_tr (fx_tr (fx_tr (fx_tr (fx_tr (fx_tr (fx_tr fx_rf hx1 (by decide)) hx172 (by decide)) hx229 (by decide)) hx257 (by decide)) hx271 (by decide)) hx272 (by decide)) hx273 (by decide)), (by (try rw [(show n_273 88 = (n_273 88) from rfl)]); omega), (by (try rw [(show n_273 88 = (n_273 88) from rfl)]); omega), (by (try rw [(show n_273 88 = (n_273 88) from rfl)]); omega)⟩)
              ·
                try simp only [mIn_0, lgc_lt, lgc_gt, lgc_le, lgc_ge, lgc_eq] at c_172
                try simp only [fl_lt, fl_le, fl_eq, fL_w, fL_lt, fL_le, tm1, tm10k, tm9, tm99, Int32.reduceToInt, Int64.reduceToInt, Int.not_lt, Int.not_le] at c_172
                refine gz_aload_n dX12_tells_175 rfl rfl ?_
                refine gz_iload_n dX12_tells_176 rfl rfl ?_
                refine gz_aload_n dX12_tells_177 rfl rfl ?_
                refine mg_38 hS_273 dX12_tells_178 ?_
                refine gz_iload_n dX12_tells_181 rfl rfl ?_
                refine m_iald 13 hS_273 rfl (N := 880) rfl ((by exact vin_T (rfl : (x1).toInt = (x1).toInt) (by omega) (by omega))) dX12_tells_182 ?_
                refine gz_ev (w := .int ((F 13) (Int32.toNatClampNeg x1))) (congrArg Value.int (congrFun ((hx273.2.2.1 13 (by decide)).trans ((hx272.2.2.1 13 (by decide)).trans ((hx271.2.2.1 13 (by decide)).trans ((hx257.2.2.1 13 (by decide)).trans ((hx229.2.2.1 13 (by decide)).trans ((hx172.2.2.1 13 (by decide)).trans (hx1.2.2.1 13 (by decide)))))))) _)) ?_
                refine gz_aload_n dX12_tells_183 rfl rfl ?_
                refine mg_41 hS_273 dX12_tells_184 ?_
                refine gz_iload_n dX12_tells_187 rfl rfl ?_
                refine m_iald 14 hS_273 rfl (N := 880) rfl ((by exact vin_T (rfl : (x1).toInt = (x1).toInt) (by omega) (by omega))) dX12_tells_188 ?_
                refine gz_ev (w := .int ((F 14) (Int32.toNatClampNeg x1))) (congrArg Value.int (congrFun ((hx273.2.2.1 14 (by decide)).trans ((hx272.2.2.1 14 (by decide)).trans ((hx271.2.2.1 14 (by decide)).trans ((hx257.2.2.1 14 (by decide)).trans ((hx229.2.2.1 14 (by decide)).trans ((hx172.2.2.1 14 (by decide)).trans (hx1.2.2.1 14 (by decide)))))))) _)) ?_
                have hxx189 : fx [88, 89] [] [87] [] n z F G n_273 z_273 F_273 G_273 := (fx_tr (fx_tr (fx_tr (fx_tr (fx_tr (fx_tr (fx_tr fx_rf hx1 (by decide)) hx172 (by decide)) hx229 (by decide)) hx257 (by decide)) hx271 (by decide)) hx272 (by decide)) hx273 (by decide))
                refine scX12_558 (k_X12_sums (x1 := x1) (x2 := ((F 13) (Int32.toNatClampNeg x1))) (x3 := ((F 14) (Int32.toNatClampNeg x1))) hS_273 (rAll_w (fun k hk => hxx189.2.2.1 k ((by decide : ∀ k : Nat, k ∈ wK → k ∉ ([87] : List Nat)) k hk)) bA) (by omega) (by omega) (by (try rw [(show n_273 88 = (n_273 88) from rfl)]); omega)) hS_273.1 ⟨(Nat.le_of_ble_eq_true rfl), (Nat.le_of_ble_eq_true rfl)⟩ ⟨(Nat.le_of_ble_eq_true rfl), (Nat.le_of_ble_eq_true rfl)⟩ rfl rfl (Nat.le_of_ble_eq_true rfl) dX12_tells_189 ?_
                rintro f_274 ⟨n_274, z_274, F_274, G_274, hS_274, hx274, h8a_274, h8b_274⟩
                refine gz_aload_n dX12_tells_192 rfl rfl ?_
                refine gz_bipush (v := 58) dX12_tells_193 (by decide) ?_
                refine scX12_547 (k_X12_signs (x1 := 58) hS_274 (by (try rw [(show n_274 88 = (n_274 88) from rfl)]); omega)) hS_274.1 ⟨(Nat.le_of_ble_eq_true rfl), (Nat.le_of_ble_eq_true rfl)⟩ ⟨(Nat.le_of_ble_eq_true rfl), (Nat.le_of_ble_eq_true rfl)⟩ rfl rfl (Nat.le_of_ble_eq_true rfl) dX12_tells_195 ?_
                rintro f_275 ⟨n_275, z_275, F_275, G_275, hS_275, hx275, h8_275⟩
                exact gz_vret rfl dX12_tells_198 (Nat.le_of_ble_eq_true rfl) (Nat.le_of_ble_eq_true rfl) (⟨rfl, _, _, _, _, hS_275, (fx_tr (fx_tr (fx_tr (fx_tr (fx_tr (fx_tr (fx_tr (fx_tr (fx_tr fx_rf hx1 (by decide)) hx172 (by decide)) hx229 (by decide)) hx257 (by decide)) hx271 (by decide)) hx272 (by decide)) hx273 (by decide)) hx274 (by decide)) hx275 (by decide)), (by (try rw [(show n_275 88 = (n_275 88) from rfl)]); omega), (by (try rw [(show n_275 88 = (n_275 88) from rfl)]); omega), (by (try rw [(show n_275 88 = (n_275 88) from rfl)]); omega)⟩)
            ·
              try simp only [mIn_0, lgc_lt, lgc_gt, lgc_le, lgc_ge, lgc_eq] at c_122
              try simp only [fl_lt, fl_le, fl_eq, fL_w, fL_lt, fL_le, tm1, tm10k, tm9, tm99, Int32.reduceToInt, Int64.reduceToInt, Int.not_lt, Int.not_le] at c_122
              refine gz_aload_n dX12_tells_125 rfl rfl ?_
              refine mg_47 hS_271 dX12_tells_126 ?_
              refine gz_iload_n dX12_tells_129 rfl rfl ?_
              refine m_iald 16 hS_271 rfl (N := 880) rfl ((by exact vin_T (rfl : (x1).toInt = (x1).toInt) (by omega) (by omega))) dX12_tells_130 ?_
              refine gz_ev (w := .int ((F 16) (Int32.toNatClampNeg x1))) (congrArg Value.int (congrFun ((hx271.2.2.1 16 (by decide)).trans ((hx257.2.2.1 16 (by decide)).trans ((hx229.2.2.1 16 (by decide)).trans ((hx172.2.2.1 16 (by decide)).trans (hx1.2.2.1 16 (by decide)))))) _)) ?_
              refine gz_iconst (v := 4) dX12_tells_131 (by decide) ?_
              refine gz_icmp_ge (tgt := 141) dX12_tells_132 (by decide) (fun c_132 => ?_) (fun c_132 => ?_)
              ·
                try simp only [mIn_0, lgc_lt, lgc_gt, lgc_le, lgc_ge, lgc_eq] at c_132
                try simp only [fl_lt, fl_le, fl_eq, fL_w, fL_lt, fL_le, tm1, tm10k, tm9, tm99, Int32.reduceToInt, Int64.reduceToInt, Int.not_lt, Int.not_le] at c_132
                refine gz_aload_n dX12_tells_141 rfl rfl ?_
                refine gz_iload_n dX12_tells_142 rfl rfl ?_
                refine gz_aload_n dX12_tells_143 rfl rfl ?_
                refine mg_41 hS_271 dX12_tells_144 ?_
                refine gz_iload_n dX12_tells_147 rfl rfl ?_
                refine m_iald 14 hS_271 rfl (N := 880) rfl ((by exact vin_T (rfl : (x1).toInt = (x1).toInt) (by omega) (by omega))) dX12_tells_148 ?_
                refine gz_ev (w := .int ((F 14) (Int32.toNatClampNeg x1))) (congrArg Value.int (congrFun ((hx271.2.2.1 14 (by decide)).trans ((hx257.2.2.1 14 (by decide)).trans ((hx229.2.2.1 14 (by decide)).trans ((hx172.2.2.1 14 (by decide)).trans (hx1.2.2.1 14 (by decide)))))) _)) ?_
                refine gz_aload_n dX12_tells_149 rfl rfl ?_
                refine mg_44 hS_271 dX12_tells_150 ?_
                refine gz_iload_n dX12_tells_153 rfl rfl ?_
                refine m_iald 15 hS_271 rfl (N := 880) rfl ((by exact vin_T (rfl : (x1).toInt = (x1).toInt) (by omega) (by omega))) dX12_tells_154 ?_
                refine gz_ev (w := .int ((F 15) (Int32.toNatClampNeg x1))) (congrArg Value.int (congrFun ((hx271.2.2.1 15 (by decide)).trans ((hx257.2.2.1 15 (by decide)).trans ((hx229.2.2.1 15 (by decide)).trans ((hx172.2.2.1 15 (by decide)).trans (hx1.2.2.1 15 (by decide)))))) _)) ?_
                have hxx155 : fx [88, 89] [] [87] [] n z F G n_271 z_271 F_271 G_271 := (fx_tr (fx_tr (fx_tr (fx_tr (fx_tr fx_rf hx1 (by decide)) hx172 (by decide)) hx229 (by decide)) hx257 (by decide)) hx271 (by decide))
                refine scX12_558 (k_X12_sums (x1 := x1) (x2 := ((F 14) (Int32.toNatClampNeg x1))) (x3 := ((F 15) (Int32.toNatClampNeg x1))) hS_271 (rAll_w (fun k hk => hxx155.2.2.1 k ((by decide : ∀ k : Nat, k ∈ wK → k ∉ ([87] : List Nat)) k hk)) bA) (by omega) (by omega) (by (try rw [(show n_271 88 = (n_271 88) from rfl)]); omega)) hS_271.1 ⟨(Nat.le_of_ble_eq_true rfl), (Nat.le_of_ble_eq_true rfl)⟩ ⟨(Nat.le_of_ble_eq_true rfl), (Nat.le_of_ble_eq_true rfl)⟩ rfl rfl (Nat.le_of_ble_eq_true rfl) dX12_tells_155 ?_
                rintro f_276 ⟨n_276, z_276, F_276, G_276, hS_276, hx276, h8a_276, h8b_276⟩
                refine gz_aload_n dX12_tells_158 rfl rfl ?_
                refine gz_bipush (v := 58) dX12_tells_159 (by decide) ?_
                refine scX12_547 (k_X12_signs (x1 := 58) hS_276 (by (try rw [(show n_276 88 = (n_276 88) from rfl)]); omega)) hS_276.1 ⟨(Nat.le_of_ble_eq_true rfl), (Nat.le_of_ble_eq_true rfl)⟩ ⟨(Nat.le_of_ble_eq_true rfl), (Nat.le_of_ble_eq_true rfl)⟩ rfl rfl (Nat.le_of_ble_eq_true rfl) dX12_tells_161 ?_
                rintro f_277 ⟨n_277, z_277, F_277, G_277, hS_277, hx277, h8_277⟩
                refine gz_aload_n dX12_tells_164 rfl rfl ?_
                refine mg_20 hS_277 dX12_tells_165 ?_
                refine gz_iload_n dX12_tells_168 rfl rfl ?_
                refine m_iald 7 hS_277 rfl (N := 880) rfl ((by exact vin_T (rfl : (x1).toInt = (x1).toInt) (by omega) (by omega))) dX12_tells_169 ?_
                refine gz_ev (w := .int ((F 7) (Int32.toNatClampNeg x1))) (congrArg Value.int (congrFun ((hx277.2.2.1 7 (by decide)).trans ((hx276.2.2.1 7 (by decide)).trans ((hx271.2.2.1 7 (by decide)).trans ((hx257.2.2.1 7 (by decide)).trans ((hx229.2.2.1 7 (by decide)).trans ((hx172.2.2.1 7 (by decide)).trans (hx1.2.2.1 7 (by decide)))))))) _)) ?_
                refine gz_bipush (v := 9) dX12_tells_170 (by decide) ?_
                refine gz_icmp_ne (tgt := 198) dX12_tells_172 (by decide) (fun c_172 => ?_) (fun c_172 => ?_)
                ·
                  try simp only [mIn_0, lgc_lt, lgc_gt, lgc_le, lgc_ge, lgc_eq] at c_172
                  try simp only [fl_lt, fl_le, fl_eq, fL_w, fL_lt, fL_le, tm1, tm10k, tm9, tm99, Int32.reduceToInt, Int64.reduceToInt, Int.not_lt, Int.not_le] at c_172
                  exact gz_vret rfl dX12_tells_198 (Nat.le_of_ble_eq_true rfl) (Nat.le_of_ble_eq_true rfl) (⟨rfl, _, _, _, _, hS_277, (fx_tr (fx_tr (fx_tr (fx_tr (fx_tr (fx_tr (fx_tr fx_rf hx1 (by decide)) hx172 (by decide)) hx229 (by decide)) hx257 (by decide)) hx271 (by decide)) hx276 (by decide)) hx277 (by decide)), (by (try rw [(show n_277 88 = (n_277 88) from rfl)]); omega), (by (try rw [(show n_277 88 = (n_277 88) from rfl)]); omega), (by (try rw [(show n_277 88 = (n_277 88) from rfl)]); omega)⟩)
                ·
                  try simp only [mIn_0, lgc_lt, lgc_gt, lgc_le, lgc_ge, lgc_eq] at c_172
                  try simp only [fl_lt, fl_le, fl_eq, fL_w, fL_lt, fL_le, tm1, tm10k, tm9, tm99, Int32.reduceToInt, Int64.reduceToInt, Int.not_lt, Int.not_le] at c_172
                  refine gz_aload_n dX12_tells_175 rfl rfl ?_
                  refine gz_iload_n dX12_tells_176 rfl rfl ?_
                  refine gz_aload_n dX12_tells_177 rfl rfl ?_
                  refine mg_38 hS_277 dX12_tells_178 ?_
                  refine gz_iload_n dX12_tells_181 rfl rfl ?_
                  refine m_iald 13 hS_277 rfl (N := 880) rfl ((by exact vin_T (rfl : (x1).toInt = (x1).toInt) (by omega) (by omega))) dX12_tells_182 ?_
                  refine gz_ev (w := .int ((F 13) (Int32.toNatClampNeg x1))) (congrArg Value.int (congrFun ((hx277.2.2.1 13 (by decide)).trans ((hx276.2.2.1 13 (by decide)).trans ((hx271.2.2.1 13 (by decide)).trans ((hx257.2.2.1 13 (by decide)).trans ((hx229.2.2.1 13 (by decide)).trans ((hx172.2.2.1 13 (by decide)).trans (hx1.2.2.1 13 (by decide)))))))) _)) ?_
                  refine gz_aload_n dX12_tells_183 rfl rfl ?_
                  refine mg_41 hS_277 dX12_tells_184 ?_
                  refine gz_iload_n dX12_tells_187 rfl rfl ?_
                  refine m_iald 14 hS_277 rfl (N := 880) rfl ((by exact vin_T (rfl : (x1).toInt = (x1).toInt) (by omega) (by omega))) dX12_tells_188 ?_
                  refine gz_ev (w := .int ((F 14) (Int32.toNatClampNeg x1))) (congrArg Value.int (congrFun ((hx277.2.2.1 14 (by decide)).trans ((hx276.2.2.1 14 (by decide)).trans ((hx271.2.2.1 14 (by decide)).trans ((hx257.2.2.1 14 (by decide)).trans ((hx229.2.2.1 14 (by decide)).trans ((hx172.2.2.1 14 (by decide)).trans (hx1.2.2.1 14 (by decide)))))))) _)) ?_
                  have hxx189 : fx [88, 89] [] [87] [] n z F G n_277 z_277 F_277 G_277 := (fx_tr (fx_tr (fx_tr (fx_tr (fx_tr (fx_tr (fx_tr fx_rf hx1 (by decide)) hx172 (by decide)) hx229 (by decide)) hx257 (by decide)) hx271 (by decide)) hx276 (by decide)) hx277 (by decide))
                  refine scX12_558 (k_X12_sums (x1 := x1) (x2 := ((F 13) (Int32.toNatClampNeg x1))) (x3 := ((F 14) (Int32.toNatClampNeg x1))) hS_277 (rAll_w (fun k hk => hxx189.2.2.1 k ((by decide : ∀ k : Nat, k ∈ wK → k ∉ ([87] : List Nat)) k hk)) bA) (by omega) (by omega) (by (try rw [(show n_277 88 = (n_277 88) from rfl)]); omega)) hS_277.1 ⟨(Nat.le_of_ble_eq_true rfl), (Nat.le_of_ble_eq_true rfl)⟩ ⟨(Nat.le_of_ble_eq_true rfl), (Nat.le_of_ble_eq_true rfl)⟩ rfl rfl (Nat.le_of_ble_eq_true rfl) dX12_tells_189 ?_
                  rintro f_278 ⟨n_278, z_278, F_278, G_278, hS_278, hx278, h8a_278, h8b_278⟩
                  refine gz_aload_n dX12_tells_192 rfl rfl ?_
                  refine gz_bipush (v := 58) dX12_tells_193 (by decide) ?_
                  refine scX12_547 (k_X12_signs (x1 := 58) hS_278 (by (try rw [(show n_278 88 = (n_278 88) from rfl)]); omega)) hS_278.1 ⟨(Nat.le_of_ble_eq_true rfl), (Nat.le_of_ble_eq_true rfl)⟩ ⟨(Nat.le_of_ble_eq_true rfl), (Nat.le_of_ble_eq_true rfl)⟩ rfl rfl (Nat.le_of_ble_eq_true rfl) dX12_tells_195 ?_
                  rintro f_279 ⟨n_279, z_279, F_279, G_279, hS_279, hx279, h8_279⟩
                  exact gz_vret rfl dX12_tells_198 (Nat.le_of_ble_eq_true rfl) (Nat.le_of_ble_eq_true rfl) (⟨rfl, _, _, _, _, hS_279, (fx_tr (fx_tr (fx_tr (fx_tr (fx_tr (fx_tr (fx_tr (fx_tr (fx_tr fx_rf hx1 (by decide)) hx172 (by decide)) hx229 (by decide)) hx257 (by decide)) hx271 (by decide)) hx276 (by decide)) hx277 (by decide)) hx278 (by decide)) hx279 (by decide)), (by (try rw [(show n_279 88 = (n_279 88) from rfl)]); omega), (by (try rw [(show n_279 88 = (n_279 88) from rfl)]); omega), (by (try rw [(show n_279 88 = (n_279 88) from rfl)]); omega)⟩)
              ·
                try simp only [mIn_0, lgc_lt, lgc_gt, lgc_le, lgc_ge, lgc_eq] at c_132
                try simp only [fl_lt, fl_le, fl_eq, fL_w, fL_lt, fL_le, tm1, tm10k, tm9, tm99, Int32.reduceToInt, Int64.reduceToInt, Int.not_lt, Int.not_le] at c_132
                refine gz_aload_n dX12_tells_135 rfl rfl ?_
                refine gz_bipush (v := 61) dX12_tells_136 (by decide) ?_
                refine scX12_547 (k_X12_signs (x1 := 61) hS_271 (by (try rw [(show n_271 88 = (n_271 88) from rfl)]); omega)) hS_271.1 ⟨(Nat.le_of_ble_eq_true rfl), (Nat.le_of_ble_eq_true rfl)⟩ ⟨(Nat.le_of_ble_eq_true rfl), (Nat.le_of_ble_eq_true rfl)⟩ rfl rfl (Nat.le_of_ble_eq_true rfl) dX12_tells_138 ?_
                rintro f_280 ⟨n_280, z_280, F_280, G_280, hS_280, hx280, h8_280⟩
                refine gz_aload_n dX12_tells_141 rfl rfl ?_
                refine gz_iload_n dX12_tells_142 rfl rfl ?_
                refine gz_aload_n dX12_tells_143 rfl rfl ?_
                refine mg_41 hS_280 dX12_tells_144 ?_
                refine gz_iload_n dX12_tells_147 rfl rfl ?_
                refine m_iald 14 hS_280 rfl (N := 880) rfl ((by exact vin_T (rfl : (x1).toInt = (x1).toInt) (by omega) (by omega))) dX12_tells_148 ?_
                refine gz_ev (w := .int ((F 14) (Int32.toNatClampNeg x1))) (congrArg Value.int (congrFun ((hx280.2.2.1 14 (by decide)).trans ((hx271.2.2.1 14 (by decide)).trans ((hx257.2.2.1 14 (by decide)).trans ((hx229.2.2.1 14 (by decide)).trans ((hx172.2.2.1 14 (by decide)).trans (hx1.2.2.1 14 (by decide))))))) _)) ?_
                refine gz_aload_n dX12_tells_149 rfl rfl ?_
                refine mg_44 hS_280 dX12_tells_150 ?_
                refine gz_iload_n dX12_tells_153 rfl rfl ?_
                refine m_iald 15 hS_280 rfl (N := 880) rfl ((by exact vin_T (rfl : (x1).toInt = (x1).toInt) (by omega) (by omega))) dX12_tells_154 ?_
                refine gz_ev (w := .int ((F 15) (Int32.toNatClampNeg x1))) (congrArg Value.int (congrFun ((hx280.2.2.1 15 (by decide)).trans ((hx271.2.2.1 15 (by decide)).trans ((hx257.2.2.1 15 (by decide)).trans ((hx229.2.2.1 15 (by decide)).trans ((hx172.2.2.1 15 (by decide)).trans (hx1.2.2.1 15 (by decide))))))) _)) ?_
                have hxx155 : fx [88, 89] [] [87] [] n z F G n_280 z_280 F_280 G_280 := (fx_tr (fx_tr (fx_tr (fx_tr (fx_tr (fx_tr fx_rf hx1 (by decide)) hx172 (by decide)) hx229 (by decide)) hx257 (by decide)) hx271 (by decide)) hx280 (by decide))
                refine scX12_558 (k_X12_sums (x1 := x1) (x2 := ((F 14) (Int32.toNatClampNeg x1))) (x3 := ((F 15) (Int32.toNatClampNeg x1))) hS_280 (rAll_w (fun k hk => hxx155.2.2.1 k ((by decide : ∀ k : Nat, k ∈ wK → k ∉ ([87] : List Nat)) k hk)) bA) (by omega) (by omega) (by (try rw [(show n_280 88 = (n_280 88) from rfl)]); omega)) hS_280.1 ⟨(Nat.le_of_ble_eq_true rfl), (Nat.le_of_ble_eq_true rfl)⟩ ⟨(Nat.le_of_ble_eq_true rfl), (Nat.le_of_ble_eq_true rfl)⟩ rfl rfl (Nat.le_of_ble_eq_true rfl) dX12_tells_155 ?_
                rintro f_281 ⟨n_281, z_281, F_281, G_281, hS_281, hx281, h8a_281, h8b_281⟩
                refine gz_aload_n dX12_tells_158 rfl rfl ?_
                refine gz_bipush (v := 58) dX12_tells_159 (by decide) ?_
                refine scX12_547 (k_X12_signs (x1 := 58) hS_281 (by (try rw [(show n_281 88 = (n_281 88) from rfl)]); omega)) hS_281.1 ⟨(Nat.le_of_ble_eq_true rfl), (Nat.le_of_ble_eq_true rfl)⟩ ⟨(Nat.le_of_ble_eq_true rfl), (Nat.le_of_ble_eq_true rfl)⟩ rfl rfl (Nat.le_of_ble_eq_true rfl) dX12_tells_161 ?_
                rintro f_282 ⟨n_282, z_282, F_282, G_282, hS_282, hx282, h8_282⟩
                refine gz_aload_n dX12_tells_164 rfl rfl ?_
                refine mg_20 hS_282 dX12_tells_165 ?_
                refine gz_iload_n dX12_tells_168 rfl rfl ?_
                refine m_iald 7 hS_282 rfl (N := 880) rfl ((by exact vin_T (rfl : (x1).toInt = (x1).toInt) (by omega) (by omega))) dX12_tells_169 ?_
                refine gz_ev (w := .int ((F 7) (Int32.toNatClampNeg x1))) (congrArg Value.int (congrFun ((hx282.2.2.1 7 (by decide)).trans ((hx281.2.2.1 7 (by decide)).trans ((hx280.2.2.1 7 (by decide)).trans ((hx271.2.2.1 7 (by decide)).trans ((hx257.2.2.1 7 (by decide)).trans ((hx229.2.2.1 7 (by decide)).trans ((hx172.2.2.1 7 (by decide)).trans (hx1.2.2.1 7 (by decide))))))))) _)) ?_
                refine gz_bipush (v := 9) dX12_tells_170 (by decide) ?_
                refine gz_icmp_ne (tgt := 198) dX12_tells_172 (by decide) (fun c_172 => ?_) (fun c_172 => ?_)
                ·
                  try simp only [mIn_0, lgc_lt, lgc_gt, lgc_le, lgc_ge, lgc_eq] at c_172
                  try simp only [fl_lt, fl_le, fl_eq, fL_w, fL_lt, fL_le, tm1, tm10k, tm9, tm99, Int32.reduceToInt, Int64.reduceToInt, Int.not_lt, Int.not_le] at c_172
                  exact gz_vret rfl dX12_tells_198 (Nat.le_of_ble_eq_true rfl) (Nat.le_of_ble_eq_true rfl) (⟨rfl, _, _, _, _, hS_282, (fx_tr (fx_tr (fx_tr (fx_tr (fx_tr (fx_tr (fx_tr (fx_tr fx_rf hx1 (by decide)) hx172 (by decide)) hx229 (by decide)) hx257 (by decide)) hx271 (by decide)) hx280 (by decide)) hx281 (by decide)) hx282 (by decide)), (by (try rw [(show n_282 88 = (n_282 88) from rfl)]); omega), (by (try rw [(show n_282 88 = (n_282 88) from rfl)]); omega), (by (try rw [(show n_282 88 = (n_282 88) from rfl)]); omega)⟩)
                ·
                  try simp only [mIn_0, lgc_lt, lgc_gt, lgc_le, lgc_ge, lgc_eq] at c_172
                  try simp only [fl_lt, fl_le, fl_eq, fL_w, fL_lt, fL_le, tm1, tm10k, tm9, tm99, Int32.reduceToInt, Int64.reduceToInt, Int.not_lt, Int.not_le] at c_172
                  refine gz_aload_n dX12_tells_175 rfl rfl ?_
                  refine gz_iload_n dX12_tells_176 rfl rfl ?_
                  refine gz_aload_n dX12_tells_177 rfl rfl ?_
                  refine mg_38 hS_282 dX12_tells_178 ?_
                  refine gz_iload_n dX12_tells_181 rfl rfl ?_
                  refine m_iald 13 hS_282 rfl (N := 880) rfl ((by exact vin_T (rfl : (x1).toInt = (x1).toInt) (by omega) (by omega))) dX12_tells_182 ?_
                  refine gz_ev (w := .int ((F 13) (Int32.toNatClampNeg x1))) (congrArg Value.int (congrFun ((hx282.2.2.1 13 (by decide)).trans ((hx281.2.2.1 13 (by decide)).trans ((hx280.2.2.1 13 (by decide)).trans ((hx271.2.2.1 13 (by decide)).trans ((hx257.2.2.1 13 (by decide)).trans ((hx229.2.2.1 13 (by decide)).trans ((hx172.2.2.1 13 (by decide)).trans (hx1.2.2.1 13 (by decide))))))))) _)) ?_
                  refine gz_aload_n dX12_tells_183 rfl rfl ?_
                  refine mg_41 hS_282 dX12_tells_184 ?_
                  refine gz_iload_n dX12_tells_187 rfl rfl ?_
                  refine m_iald 14 hS_282 rfl (N := 880) rfl ((by exact vin_T (rfl : (x1).toInt = (x1).toInt) (by omega) (by omega))) dX12_tells_188 ?_
                  refine gz_ev (w := .int ((F 14) (Int32.toNatClampNeg x1))) (congrArg Value.int (congrFun ((hx282.2.2.1 14 (by decide)).trans ((hx281.2.2.1 14 (by decide)).trans ((hx280.2.2.1 14 (by decide)).trans ((hx271.2.2.1 14 (by decide)).trans ((hx257.2.2.1 14 (by decide)).trans ((hx229.2.2.1 14 (by decide)).trans ((hx172.2.2.1 14 (by decide)).trans (hx1.2.2.1 14 (by decide))))))))) _)) ?_
                  have hxx189 : fx [88, 89] [] [87] [] n z F G n_282 z_282 F_282 G_282 := (fx_tr (fx_tr (fx_tr (fx_tr (fx_tr (fx_tr (fx_tr (fx_tr fx_rf hx1 (by decide)) hx172 (by decide)) hx229 (by decide)) hx257 (by decide)) hx271 (by decide)) hx280 (by decide)) hx281 (by decide)) hx282 (by decide))
                  refine scX12_558 (k_X12_sums (x1 := x1) (x2 := ((F 13) (Int32.toNatClampNeg x1))) (x3 := ((F 14) (Int32.toNatClampNeg x1))) hS_282 (rAll_w (fun k hk => hxx189.2.2.1 k ((by decide : ∀ k : Nat, k ∈ wK → k ∉ ([87] : List Nat)) k hk)) bA) (by omega) (by omega) (by (try rw [(show n_282 88 = (n_282 88) from rfl)]); omega)) hS_282.1 ⟨(Nat.le_of_ble_eq_true rfl), (Nat.le_of_ble_eq_true rfl)⟩ ⟨(Nat.le_of_ble_eq_true rfl), (Nat.le_of_ble_eq_true rfl)⟩ rfl rfl (Nat.le_of_ble_eq_true rfl) dX12_tells_189 ?_
                  rintro f_283 ⟨n_283, z_283, F_283, G_283, hS_283, hx283, h8a_283, h8b_283⟩
                  refine gz_aload_n dX12_tells_192 rfl rfl ?_
                  refine gz_bipush (v := 58) dX12_tells_193 (by decide) ?_
                  refine scX12_547 (k_X12_signs (x1 := 58) hS_283 (by (try rw [(show n_283 88 = (n_283 88) from rfl)]); omega)) hS_283.1 ⟨(Nat.le_of_ble_eq_true rfl), (Nat.le_of_ble_eq_true rfl)⟩ ⟨(Nat.le_of_ble_eq_true rfl), (Nat.le_of_ble_eq_true rfl)⟩ rfl rfl (Nat.le_of_ble_eq_true rfl) dX12_tells_195 ?_
                  rintro f_284 ⟨n_284, z_284, F_284, G_284, hS_284, hx284, h8_284⟩
                  exact gz_vret rfl dX12_tells_198 (Nat.le_of_ble_eq_true rfl) (Nat.le_of_ble_eq_true rfl) (⟨rfl, _, _, _, _, hS_284, (fx_tr (fx_tr (fx_tr (fx_tr (fx_tr (fx_tr (fx_tr (fx_tr (fx_tr (fx_tr fx_rf hx1 (by decide)) hx172 (by decide)) hx229 (by decide)) hx257 (by decide)) hx271 (by decide)) hx280 (by decide)) hx281 (by decide)) hx282 (by decide)) hx283 (by decide)) hx284 (by decide)), (by (try rw [(show n_284 88 = (n_284 88) from rfl)]); omega), (by (try rw [(show n_284 88 = (n_284 88) from rfl)]); omega), (by (try rw [(show n_284 88 = (n_284 88) from rfl)]); omega)⟩)
      ·
        try simp only [mIn_0, lgc_lt, lgc_gt, lgc_le, lgc_ge, lgc_eq] at c_53
        try simp only [fl_lt, fl_le, fl_eq, fL_w, fL_lt, fL_le, tm1, tm10k, tm9, tm99, Int32.reduceToInt, Int64.reduceToInt, Int.not_lt, Int.not_le] at c_53
        refine gz_aload_n dX12_tells_56 rfl rfl ?_
        refine mg_20 hS_172 dX12_tells_57 ?_
        refine gz_iload_n dX12_tells_60 rfl rfl ?_
        refine m_iald 7 hS_172 rfl (N := 880) rfl ((by exact vin_T (rfl : (x1).toInt = (x1).toInt) (by omega) (by omega))) dX12_tells_61 ?_
        refine gz_ev (w := .int ((F 7) (Int32.toNatClampNeg x1))) (congrArg Value.int (congrFun ((hx172.2.2.1 7 (by decide)).trans (hx1.2.2.1 7 (by decide))) _)) ?_
        refine gz_bipush (v := 8) dX12_tells_62 (by decide) ?_
        refine gz_icmp_ne (tgt := 164) dX12_tells_64 (by decide) (fun c_64 => ?_) (fun c_64 => ?_)
        ·
          try simp only [mIn_0, lgc_lt, lgc_gt, lgc_le, lgc_ge, lgc_eq] at c_64
          try simp only [fl_lt, fl_le, fl_eq, fL_w, fL_lt, fL_le, tm1, tm10k, tm9, tm99, Int32.reduceToInt, Int64.reduceToInt, Int.not_lt, Int.not_le] at c_64
          refine gz_aload_n dX12_tells_164 rfl rfl ?_
          refine mg_20 hS_172 dX12_tells_165 ?_
          refine gz_iload_n dX12_tells_168 rfl rfl ?_
          refine m_iald 7 hS_172 rfl (N := 880) rfl ((by exact vin_T (rfl : (x1).toInt = (x1).toInt) (by omega) (by omega))) dX12_tells_169 ?_
          refine gz_ev (w := .int ((F 7) (Int32.toNatClampNeg x1))) (congrArg Value.int (congrFun ((hx172.2.2.1 7 (by decide)).trans (hx1.2.2.1 7 (by decide))) _)) ?_
          refine gz_bipush (v := 9) dX12_tells_170 (by decide) ?_
          refine gz_icmp_ne (tgt := 198) dX12_tells_172 (by decide) (fun c_172 => ?_) (fun c_172 => ?_)
          ·
            try simp only [mIn_0, lgc_lt, lgc_gt, lgc_le, lgc_ge, lgc_eq] at c_172
            try simp only [fl_lt, fl_le, fl_eq, fL_w, fL_lt, fL_le, tm1, tm10k, tm9, tm99, Int32.reduceToInt, Int64.reduceToInt, Int.not_lt, Int.not_le] at c_172
            exact gz_vret rfl dX12_tells_198 (Nat.le_of_ble_eq_true rfl) (Nat.le_of_ble_eq_true rfl) (⟨rfl, _, _, _, _, hS_172, (fx_tr (fx_tr fx_rf hx1 (by decide)) hx172 (by decide)), (by (try rw [(show n_172 88 = (n_172 88) from rfl)]); omega), (by (try rw [(show n_172 88 = (n_172 88) from rfl)]); omega), (by (try rw [(show n_172 88 = (n_172 88) from rfl)]); omega)⟩)
          ·
            try simp only [mIn_0, lgc_lt, lgc_gt, lgc_le, lgc_ge, lgc_eq] at c_172
            try simp only [fl_lt, fl_le, fl_eq, fL_w, fL_lt, fL_le, tm1, tm10k, tm9, tm99, Int32.reduceToInt, Int64.reduceToInt, Int.not_lt, Int.not_le] at c_172
            refine gz_aload_n dX12_tells_175 rfl rfl ?_
            refine gz_iload_n dX12_tells_176 rfl rfl ?_
            refine gz_aload_n dX12_tells_177 rfl rfl ?_
            refine mg_38 hS_172 dX12_tells_178 ?_
            refine gz_iload_n dX12_tells_181 rfl rfl ?_
            refine m_iald 13 hS_172 rfl (N := 880) rfl ((by exact vin_T (rfl : (x1).toInt = (x1).toInt) (by omega) (by omega))) dX12_tells_182 ?_
            refine gz_ev (w := .int ((F 13) (Int32.toNatClampNeg x1))) (congrArg Value.int (congrFun ((hx172.2.2.1 13 (by decide)).trans (hx1.2.2.1 13 (by decide))) _)) ?_
            refine gz_aload_n dX12_tells_183 rfl rfl ?_
            refine mg_41 hS_172 dX12_tells_184 ?_
            refine gz_iload_n dX12_tells_187 rfl rfl ?_
            refine m_iald 14 hS_172 rfl (N := 880) rfl ((by exact vin_T (rfl : (x1).toInt = (x1).toInt) (by omega) (by omega))) dX12_tells_188 ?_
            refine gz_ev (w := .int ((F 14) (Int32.toNatClampNeg x1))) (congrArg Value.int (congrFun ((hx172.2.2.1 14 (by decide)).trans (hx1.2.2.1 14 (by decide))) _)) ?_
            have hxx189 : fx [88, 89] [] [87] [] n z F G n_172 z_172 F_172 G_172 := (fx_tr (fx_tr fx_rf hx1 (by decide)) hx172 (by decide))
            refine scX12_558 (k_X12_sums (x1 := x1) (x2 := ((F 13) (Int32.toNatClampNeg x1))) (x3 := ((F 14) (Int32.toNatClampNeg x1))) hS_172 (rAll_w (fun k hk => hxx189.2.2.1 k ((by decide : ∀ k : Nat, k ∈ wK → k ∉ ([87] : List Nat)) k hk)) bA) (by omega) (by omega) (by (try rw [(show n_172 88 = (n_172 88) from rfl)]); omega)) hS_172.1 ⟨(Nat.le_of_ble_eq_true rfl), (Nat.le_of_ble_eq_true rfl)⟩ ⟨(Nat.le_of_ble_eq_true rfl), (Nat.le_of_ble_eq_true rfl)⟩ rfl rfl (Nat.le_of_ble_eq_true rfl) dX12_tells_189 ?_
            rintro f_285 ⟨n_285, z_285, F_285, G_285, hS_285, hx285, h8a_285, h8b_285⟩
            refine gz_aload_n dX12_tells_192 rfl rfl ?_
            refine gz_bipush (v := 58) dX12_tells_193 (by decide) ?_
            refine scX12_547 (k_X12_signs (x1 := 58) hS_285 (by (try rw [(show n_285 88 = (n_285 88) from rfl)]); omega)) hS_285.1 ⟨(Nat.le_of_ble_eq_true rfl), (Nat.le_of_ble_eq_true rfl)⟩ ⟨(Nat.le_of_ble_eq_true rfl), (Nat.le_of_ble_eq_true rfl)⟩ rfl rfl (Nat.le_of_ble_eq_true rfl) dX12_tells_195 ?_
            rintro f_286 ⟨n_286, z_286, F_286, G_286, hS_286, hx286, h8_286⟩
            exact gz_vret rfl dX12_tells_198 (Nat.le_of_ble_eq_true rfl) (Nat.le_of_ble_eq_true rfl) (⟨rfl, _, _, _, _, hS_286, (fx_tr (fx_tr (fx_tr (fx_tr fx_rf hx1 (by decide)) hx172 (by decide)) hx285 (by decide)) hx286 (by decide)), (by (try rw [(show n_286 88 = (n_286 88) from rfl)]); omega), (by (try rw [(show n_286 88 = (n_286 88) from rfl)]); omega), (by (try rw [(show n_286 88 = (n_286 88) from rfl)]); omega)⟩)
        ·
          try simp only [mIn_0, lgc_lt, lgc_gt, lgc_le, lgc_ge, lgc_eq] at c_64
          try simp only [fl_lt, fl_le, fl_eq, fL_w, fL_lt, fL_le, tm1, tm10k, tm9, tm99, Int32.reduceToInt, Int64.reduceToInt, Int.not_lt, Int.not_le] at c_64
          refine gz_aload_n dX12_tells_67 rfl rfl ?_
          refine gz_iload_n dX12_tells_68 rfl rfl ?_
          refine gz_aload_n dX12_tells_69 rfl rfl ?_
          refine mg_38 hS_172 dX12_tells_70 ?_
          refine gz_iload_n dX12_tells_73 rfl rfl ?_
          refine m_iald 13 hS_172 rfl (N := 880) rfl ((by exact vin_T (rfl : (x1).toInt = (x1).toInt) (by omega) (by omega))) dX12_tells_74 ?_
          refine gz_ev (w := .int ((F 13) (Int32.toNatClampNeg x1))) (congrArg Value.int (congrFun ((hx172.2.2.1 13 (by decide)).trans (hx1.2.2.1 13 (by decide))) _)) ?_
          refine gz_aload_n dX12_tells_75 rfl rfl ?_
          refine mg_41 hS_172 dX12_tells_76 ?_
          refine gz_iload_n dX12_tells_79 rfl rfl ?_
          refine m_iald 14 hS_172 rfl (N := 880) rfl ((by exact vin_T (rfl : (x1).toInt = (x1).toInt) (by omega) (by omega))) dX12_tells_80 ?_
          refine gz_ev (w := .int ((F 14) (Int32.toNatClampNeg x1))) (congrArg Value.int (congrFun ((hx172.2.2.1 14 (by decide)).trans (hx1.2.2.1 14 (by decide))) _)) ?_
          have hxx81 : fx [88, 89] [] [87] [] n z F G n_172 z_172 F_172 G_172 := (fx_tr (fx_tr fx_rf hx1 (by decide)) hx172 (by decide))
          refine scX12_558 (k_X12_sums (x1 := x1) (x2 := ((F 13) (Int32.toNatClampNeg x1))) (x3 := ((F 14) (Int32.toNatClampNeg x1))) hS_172 (rAll_w (fun k hk => hxx81.2.2.1 k ((by decide : ∀ k : Nat, k ∈ wK → k ∉ ([87] : List Nat)) k hk)) bA) (by omega) (by omega) (by (try rw [(show n_172 88 = (n_172 88) from rfl)]); omega)) hS_172.1 ⟨(Nat.le_of_ble_eq_true rfl), (Nat.le_of_ble_eq_true rfl)⟩ ⟨(Nat.le_of_ble_eq_true rfl), (Nat.le_of_ble_eq_true rfl)⟩ rfl rfl (Nat.le_of_ble_eq_true rfl) dX12_tells_81 ?_
          rintro f_287 ⟨n_287, z_287, F_287, G_287, hS_287, hx287, h8a_287, h8b_287⟩
          refine gz_aload_n dX12_tells_84 rfl rfl ?_
          refine mg_47 hS_287 dX12_tells_85 ?_
          refine gz_iload_n dX12_tells_88 rfl rfl ?_
          refine m_iald 16 hS_287 rfl (N := 880) rfl ((by exact vin_T (rfl : (x1).toInt = (x1).toInt) (by omega) (by omega))) dX12_tells_89 ?_
          refine gz_ev (w := .int ((F 16) (Int32.toNatClampNeg x1))) (congrArg Value.int (congrFun ((hx287.2.2.1 16 (by decide)).trans ((hx172.2.2.1 16 (by decide)).trans (hx1.2.2.1 16 (by decide)))) _)) ?_
          refine gz_iconst (v := 2) dX12_tells_90 (by decide) ?_
          refine gz_icmp_ge (tgt := 100) dX12_tells_91 (by decide) (fun c_91 => ?_) (fun c_91 => ?_)
          ·
            try simp only [mIn_0, lgc_lt, lgc_gt, lgc_le, lgc_ge, lgc_eq] at c_91
            try simp only [fl_lt, fl_le, fl_eq, fL_w, fL_lt, fL_le, tm1, tm10k, tm9, tm99, Int32.reduceToInt, Int64.reduceToInt, Int.not_lt, Int.not_le] at c_91
            refine gz_aload_n dX12_tells_100 rfl rfl ?_
            refine mg_47 hS_287 dX12_tells_101 ?_
            refine gz_iload_n dX12_tells_104 rfl rfl ?_
            refine m_iald 16 hS_287 rfl (N := 880) rfl ((by exact vin_T (rfl : (x1).toInt = (x1).toInt) (by omega) (by omega))) dX12_tells_105 ?_
            refine gz_ev (w := .int ((F 16) (Int32.toNatClampNeg x1))) (congrArg Value.int (congrFun ((hx287.2.2.1 16 (by decide)).trans ((hx172.2.2.1 16 (by decide)).trans (hx1.2.2.1 16 (by decide)))) _)) ?_
            refine gz_iconst (v := 2) dX12_tells_106 (by decide) ?_
            refine gz_icmp_le (tgt := 116) dX12_tells_107 (by decide) (fun c_107 => ?_) (fun c_107 => ?_)
            ·
              try simp only [mIn_0, lgc_lt, lgc_gt, lgc_le, lgc_ge, lgc_eq] at c_107
              try simp only [fl_lt, fl_le, fl_eq, fL_w, fL_lt, fL_le, tm1, tm10k, tm9, tm99, Int32.reduceToInt, Int64.reduceToInt, Int.not_lt, Int.not_le] at c_107
              refine gz_aload_n dX12_tells_116 rfl rfl ?_
              refine mg_47 hS_287 dX12_tells_117 ?_
              refine gz_iload_n dX12_tells_120 rfl rfl ?_
              refine m_iald 16 hS_287 rfl (N := 880) rfl ((by exact vin_T (rfl : (x1).toInt = (x1).toInt) (by omega) (by omega))) dX12_tells_121 ?_
              refine gz_ev (w := .int ((F 16) (Int32.toNatClampNeg x1))) (congrArg Value.int (congrFun ((hx287.2.2.1 16 (by decide)).trans ((hx172.2.2.1 16 (by decide)).trans (hx1.2.2.1 16 (by decide)))) _)) ?_
              refine gz_if_le (tgt := 141) dX12_tells_122 (by decide) (fun c_122 => ?_) (fun c_122 => ?_)
              ·
                try simp only [mIn_0, lgc_lt, lgc_gt, lgc_le, lgc_ge, lgc_eq] at c_122
                try simp only [fl_lt, fl_le, fl_eq, fL_w, fL_lt, fL_le, tm1, tm10k, tm9, tm99, Int32.reduceToInt, Int64.reduceToInt, Int.not_lt, Int.not_le] at c_122
                refine gz_aload_n dX12_tells_141 rfl rfl ?_
                refine gz_iload_n dX12_tells_142 rfl rfl ?_
                refine gz_aload_n dX12_tells_143 rfl rfl ?_
                refine mg_41 hS_287 dX12_tells_144 ?_
                refine gz_iload_n dX12_tells_147 rfl rfl ?_
                refine m_iald 14 hS_287 rfl (N := 880) rfl ((by exact vin_T (rfl : (x1).toInt = (x1).toInt) (by omega) (by omega))) dX12_tells_148 ?_
                refine gz_ev (w := .int ((F 14) (Int32.toNatClampNeg x1))) (congrArg Value.int (congrFun ((hx287.2.2.1 14 (by decide)).trans ((hx172.2.2.1 14 (by decide)).trans (hx1.2.2.1 14 (by decide)))) _)) ?_
                refine gz_aload_n dX12_tells_149 rfl rfl ?_
                refine mg_44 hS_287 dX12_tells_150 ?_
                refine gz_iload_n dX12_tells_153 rfl rfl ?_
                refine m_iald 15 hS_287 rfl (N := 880) rfl ((by exact vin_T (rfl : (x1).toInt = (x1).toInt) (by omega) (by omega))) dX12_tells_154 ?_
                refine gz_ev (w := .int ((F 15) (Int32.toNatClampNeg x1))) (congrArg Value.int (congrFun ((hx287.2.2.1 15 (by decide)).trans ((hx172.2.2.1 15 (by decide)).trans (hx1.2.2.1 15 (by decide)))) _)) ?_
                have hxx155 : fx [88, 89] [] [87] [] n z F G n_287 z_287 F_287 G_287 := (fx_tr (fx_tr (fx_tr fx_rf hx1 (by decide)) hx172 (by decide)) hx287 (by decide))
                refine scX12_558 (k_X12_sums (x1 := x1) (x2 := ((F 14) (Int32.toNatClampNeg x1))) (x3 := ((F 15) (Int32.toNatClampNeg x1))) hS_287 (rAll_w (fun k hk => hxx155.2.2.1 k ((by decide : ∀ k : Nat, k ∈ wK → k ∉ ([87] : List Nat)) k hk)) bA) (by omega) (by omega) (by (try rw [(show n_287 88 = (n_287 88) from rfl)]); omega)) hS_287.1 ⟨(Nat.le_of_ble_eq_true rfl), (Nat.le_of_ble_eq_true rfl)⟩ ⟨(Nat.le_of_ble_eq_true rfl), (Nat.le_of_ble_eq_true rfl)⟩ rfl rfl (Nat.le_of_ble_eq_true rfl) dX12_tells_155 ?_
                rintro f_288 ⟨n_288, z_288, F_288, G_288, hS_288, hx288, h8a_288, h8b_288⟩
                refine gz_aload_n dX12_tells_158 rfl rfl ?_
                refine gz_bipush (v := 58) dX12_tells_159 (by decide) ?_
                refine scX12_547 (k_X12_signs (x1 := 58) hS_288 (by (try rw [(show n_288 88 = (n_288 88) from rfl)]); omega)) hS_288.1 ⟨(Nat.le_of_ble_eq_true rfl), (Nat.le_of_ble_eq_true rfl)⟩ ⟨(Nat.le_of_ble_eq_true rfl), (Nat.le_of_ble_eq_true rfl)⟩ rfl rfl (Nat.le_of_ble_eq_true rfl) dX12_tells_161 ?_
                rintro f_289 ⟨n_289, z_289, F_289, G_289, hS_289, hx289, h8_289⟩
                refine gz_aload_n dX12_tells_164 rfl rfl ?_
                refine mg_20 hS_289 dX12_tells_165 ?_
                refine gz_iload_n dX12_tells_168 rfl rfl ?_
                refine m_iald 7 hS_289 rfl (N := 880) rfl ((by exact vin_T (rfl : (x1).toInt = (x1).toInt) (by omega) (by omega))) dX12_tells_169 ?_
                refine gz_ev (w := .int ((F 7) (Int32.toNatClampNeg x1))) (congrArg Value.int (congrFun ((hx289.2.2.1 7 (by decide)).trans ((hx288.2.2.1 7 (by decide)).trans ((hx287.2.2.1 7 (by decide)).trans ((hx172.2.2.1 7 (by decide)).trans (hx1.2.2.1 7 (by decide)))))) _)) ?_
                refine gz_bipush (v := 9) dX12_tells_170 (by decide) ?_
                refine gz_icmp_ne (tgt := 198) dX12_tells_172 (by decide) (fun c_172 => ?_) (fun c_172 => ?_)
                ·
                  try simp only [mIn_0, lgc_lt, lgc_gt, lgc_le, lgc_ge, lgc_eq] at c_172
                  try simp only [fl_lt, fl_le, fl_eq, fL_w, fL_lt, fL_le, tm1, tm10k, tm9, tm99, Int32.reduceToInt, Int64.reduceToInt, Int.not_lt, Int.not_le] at c_172
                  exact gz_vret rfl dX12_tells_198 (Nat.le_of_ble_eq_true rfl) (Nat.le_of_ble_eq_true rfl) (⟨rfl, _, _, _, _, hS_289, (fx_tr (fx_tr (fx_tr (fx_tr (fx_tr fx_rf hx1 (by decide)) hx172 (by decide)) hx287 (by decide)) hx288 (by decide)) hx289 (by decide)), (by (try rw [(show n_289 88 = (n_289 88) from rfl)]); omega), (by (try rw [(show n_289 88 = (n_289 88) from rfl)]); omega), (by (try rw [(show n_289 88 = (n_289 88) from rfl)]); omega)⟩)
                ·
                  try simp only [mIn_0, lgc_lt, lgc_gt, lgc_le, lgc_ge, lgc_eq] at c_172
                  try simp only [fl_lt, fl_le, fl_eq, fL_w, fL_lt, fL_le, tm1, tm10k, tm9, tm99, Int32.reduceToInt, Int64.reduceToInt, Int.not_lt, Int.not_le] at c_172
                  refine gz_aload_n dX12_tells_175 rfl rfl ?_
                  refine gz_iload_n dX12_tells_176 rfl rfl ?_
                  refine gz_aload_n dX12_tells_177 rfl rfl ?_
                  refine mg_38 hS_289 dX12_tells_178 ?_
                  refine gz_iload_n dX12_tells_181 rfl rfl ?_
                  refine m_iald 13 hS_289 rfl (N := 880) rfl ((by exact vin_T (rfl : (x1).toInt = (x1).toInt) (by omega) (by omega))) dX12_tells_182 ?_
                  refine gz_ev (w := .int ((F 13) (Int32.toNatClampNeg x1))) (congrArg Value.int (congrFun ((hx289.2.2.1 13 (by decide)).trans ((hx288.2.2.1 13 (by decide)).trans ((hx287.2.2.1 13 (by decide)).trans ((hx172.2.2.1 13 (by decide)).trans (hx1.2.2.1 13 (by decide)))))) _)) ?_
                  refine gz_aload_n dX12_tells_183 rfl rfl ?_
                  refine mg_41 hS_289 dX12_tells_184 ?_
                  refine gz_iload_n dX12_tells_187 rfl rfl ?_
                  refine m_iald 14 hS_289 rfl (N := 880) rfl ((by exact vin_T (rfl : (x1).toInt = (x1).toInt) (by omega) (by omega))) dX12_tells_188 ?_
                  refine gz_ev (w := .int ((F 14) (Int32.toNatClampNeg x1))) (congrArg Value.int (congrFun ((hx289.2.2.1 14 (by decide)).trans ((hx288.2.2.1 14 (by decide)).trans ((hx287.2.2.1 14 (by decide)).trans ((hx172.2.2.1 14 (by decide)).trans (hx1.2.2.1 14 (by decide)))))) _)) ?_
                  have hxx189 : fx [88, 89] [] [87] [] n z F G n_289 z_289 F_289 G_289 := (fx_tr (fx_tr (fx_tr (fx_tr (fx_tr fx_rf hx1 (by decide)) hx172 (by decide)) hx287 (by decide)) hx288 (by decide)) hx289 (by decide))
                  refine scX12_558 (k_X12_sums (x1 := x1) (x2 := ((F 13) (Int32.toNatClampNeg x1))) (x3 := ((F 14) (Int32.toNatClampNeg x1))) hS_289 (rAll_w (fun k hk => hxx189.2.2.1 k ((by decide : ∀ k : Nat, k ∈ wK → k ∉ ([87] : List Nat)) k hk)) bA) (by omega) (by omega) (by (try rw [(show n_289 88 = (n_289 88) from rfl)]); omega)) hS_289.1 ⟨(Nat.le_of_ble_eq_true rfl), (Nat.le_of_ble_eq_true rfl)⟩ ⟨(Nat.le_of_ble_eq_true rfl), (Nat.le_of_ble_eq_true rfl)⟩ rfl rfl (Nat.le_of_ble_eq_true rfl) dX12_tells_189 ?_
                  rintro f_290 ⟨n_290, z_290, F_290, G_290, hS_290, hx290, h8a_290, h8b_290⟩
                  refine gz_aload_n dX12_tells_192 rfl rfl ?_
                  refine gz_bipush (v := 58) dX12_tells_193 (by decide) ?_
                  refine scX12_547 (k_X12_signs (x1 := 58) hS_290 (by (try rw [(show n_290 88 = (n_290 88) from rfl)]); omega)) hS_290.1 ⟨(Nat.le_of_ble_eq_true rfl), (Nat.le_of_ble_eq_true rfl)⟩ ⟨(Nat.le_of_ble_eq_true rfl), (Nat.le_of_ble_eq_true rfl)⟩ rfl rfl (Nat.le_of_ble_eq_true rfl) dX12_tells_195 ?_
                  rintro f_291 ⟨n_291, z_291, F_291, G_291, hS_291, hx291, h8_291⟩
                  exact gz_vret rfl dX12_tells_198 (Nat.le_of_ble_eq_true rfl) (Nat.le_of_ble_eq_true rfl) (⟨rfl, _, _, _, _, hS_291, (fx_tr (fx_tr (fx_tr (fx_tr (fx_tr (fx_tr (fx_tr fx_rf hx1 (by decide)) hx172 (by decide)) hx287 (by decide)) hx288 (by decide)) hx289 (by decide)) hx290 (by decide)) hx291 (by decide)), (by (try rw [(show n_291 88 = (n_291 88) from rfl)]); omega), (by (try rw [(show n_291 88 = (n_291 88) from rfl)]); omega), (by (try rw [(show n_291 88 = (n_291 88) from rfl)]); omega)⟩)
              ·
                try simp only [mIn_0, lgc_lt, lgc_gt, lgc_le, lgc_ge, lgc_eq] at c_122
                try simp only [fl_lt, fl_le, fl_eq, fL_w, fL_lt, fL_le, tm1, tm10k, tm9, tm99, Int32.reduceToInt, Int64.reduceToInt, Int.not_lt, Int.not_le] at c_122
                refine gz_aload_n dX12_tells_125 rfl rfl ?_
                refine mg_47 hS_287 dX12_tells_126 ?_
                refine gz_iload_n dX12_tells_129 rfl rfl ?_
                refine m_iald 16 hS_287 rfl (N := 880) rfl ((by exact vin_T (rfl : (x1).toInt = (x1).toInt) (by omega) (by omega))) dX12_tells_130 ?_
                refine gz_ev (w := .int ((F 16) (Int32.toNatClampNeg x1))) (congrArg Value.int (congrFun ((hx287.2.2.1 16 (by decide)).trans ((hx172.2.2.1 16 (by decide)).trans (hx1.2.2.1 16 (by decide)))) _)) ?_
                refine gz_iconst (v := 4) dX12_tells_131 (by decide) ?_
                refine gz_icmp_ge (tgt := 141) dX12_tells_132 (by decide) (fun c_132 => ?_) (fun c_132 => ?_)
                ·
                  try simp only [mIn_0, lgc_lt, lgc_gt, lgc_le, lgc_ge, lgc_eq] at c_132
                  try simp only [fl_lt, fl_le, fl_eq, fL_w, fL_lt, fL_le, tm1, tm10k, tm9, tm99, Int32.reduceToInt, Int64.reduceToInt, Int.not_lt, Int.not_le] at c_132
                  refine gz_aload_n dX12_tells_141 rfl rfl ?_
                  refine gz_iload_n dX12_tells_142 rfl rfl ?_
                  refine gz_aload_n dX12_tells_143 rfl rfl ?_
                  refine mg_41 hS_287 dX12_tells_144 ?_
                  refine gz_iload_n dX12_tells_147 rfl rfl ?_
                  refine m_iald 14 hS_287 rfl (N := 880) rfl ((by exact vin_T (rfl : (x1).toInt = (x1).toInt) (by omega) (by omega))) dX12_tells_148 ?_
                  refine gz_ev (w := .int ((F 14) (Int32.toNatClampNeg x1))) (congrArg Value.int (congrFun ((hx287.2.2.1 14 (by decide)).trans ((hx172.2.2.1 14 (by decide)).trans (hx1.2.2.1 14 (by decide)))) _)) ?_
                  refine gz_aload_n dX12_tells_149 rfl rfl ?_
                  refine mg_44 hS_287 dX12_tells_150 ?_
                  refine gz_iload_n dX12_tells_153 rfl rfl ?_
                  refine m_iald 15 hS_287 rfl (N := 880) rfl ((by exact vin_T (rfl : (x1).toInt = (x1).toInt) (by omega) (by omega))) dX12_tells_154 ?_
                  refine gz_ev (w := .int ((F 15) (Int32.toNatClampNeg x1))) (congrArg Value.int (congrFun ((hx287.2.2.1 15 (by decide)).trans ((hx172.2.2.1 15 (by decide)).trans (hx1.2.2.1 15 (by decide)))) _)) ?_
                  have hxx155 : fx [88, 89] [] [87] [] n z F G n_287 z_287 F_287 G_287 := (fx_tr (fx_tr (fx_tr fx_rf hx1 (by decide)) hx172 (by decide)) hx287 (by decide))
                  refine scX12_558 (k_X12_sums (x1 := x1) (x2 := ((F 14) (Int32.toNatClampNeg x1))) (x3 := ((F 15) (Int32.toNatClampNeg x1))) hS_287 (rAll_w (fun k hk => hxx155.2.2.1 k ((by decide : ∀ k : Nat, k ∈ wK → k ∉ ([87] : List Nat)) k hk)) bA) (by omega) (by omega) (by (try rw [(show n_287 88 = (n_287 88) from rfl)]); omega)) hS_287.1 ⟨(Nat.le_of_ble_eq_true rfl), (Nat.le_of_ble_eq_true rfl)⟩ ⟨(Nat.le_of_ble_eq_true rfl), (Nat.le_of_ble_eq_true rfl)⟩ rfl rfl (Nat.le_of_ble_eq_true rfl) dX12_tells_155 ?_
                  rintro f_292 ⟨n_292, z_292, F_292, G_292, hS_292, hx292, h8a_292, h8b_292⟩
                  refine gz_aload_n dX12_tells_158 rfl rfl ?_
                  refine gz_bipush (v := 58) dX12_tells_159 (by decide) ?_
                  refine scX12_547 (k_X12_signs (x1 := 58) hS_292 (by (try rw [(show n_292 88 = (n_292 88) from rfl)]); omega)) hS_292.1 ⟨(Nat.le_of_ble_eq_true rfl), (Nat.le_of_ble_eq_true rfl)⟩ ⟨(Nat.le_of_ble_eq_true rfl), (Nat.le_of_ble_eq_true rfl)⟩ rfl rfl (Nat.le_of_ble_eq_true rfl) dX12_tells_161 ?_
                  rintro f_293 ⟨n_293, z_293, F_293, G_293, hS_293, hx293, h8_293⟩
                  refine gz_aload_n dX12_tells_164 rfl rfl ?_
                  refine mg_20 hS_293 dX12_tells_165 ?_
                  refine gz_iload_n dX12_tells_168 rfl rfl ?_
                  refine m_iald 7 hS_293 rfl (N := 880) rfl ((by exact vin_T (rfl : (x1).toInt = (x1).toInt) (by omega) (by omega))) dX12_tells_169 ?_
                  refine gz_ev (w := .int ((F 7) (Int32.toNatClampNeg x1))) (congrArg Value.int (congrFun ((hx293.2.2.1 7 (by decide)).trans ((hx292.2.2.1 7 (by decide)).trans ((hx287.2.2.1 7 (by decide)).trans ((hx172.2.2.1 7 (by decide)).trans (hx1.2.2.1 7 (by decide)))))) _)) ?_
                  refine gz_bipush (v := 9) dX12_tells_170 (by decide) ?_
                  refine gz_icmp_ne (tgt := 198) dX12_tells_172 (by decide) (fun c_172 => ?_) (fun c_172 => ?_)
                  ·
                    try simp only [mIn_0, lgc_lt, lgc_gt, lgc_le, lgc_ge, lgc_eq] at c_172
                    try simp only [fl_lt, fl_le, fl_eq, fL_w, fL_lt, fL_le, tm1, tm10k, tm9, tm99, Int32.reduceToInt, Int64.reduceToInt, Int.not_lt, Int.not_le] at c_172
                    exact gz_vret rfl dX12_tells_198 (Nat.le_of_ble_eq_true rfl) (Nat.le_of_ble_eq_true rfl) (⟨rfl, _, _, _, _, hS_293, (fx_tr (fx_tr (fx_tr (fx_tr (fx_tr fx_rf hx1 (by decide)) hx172 (by decide)) hx287 (by decide)) hx292 (by decide)) hx293 (by decide)), (by (try rw [(show n_293 88 = (n_293 88) from rfl)]); omega), (by (try rw [(show n_293 88 = (n_293 88) from rfl)]); omega), (by (try rw [(show n_293 88 = (n_293 88) from rfl)]); omega)⟩)
                  ·
                    try simp only [mIn_0, lgc_lt, lgc_gt, lgc_le, lgc_ge, lgc_eq] at c_172
                    try simp only [fl_lt, fl_le, fl_eq, fL_w, fL_lt, fL_le, tm1, tm10k, tm9, tm99, Int32.reduceToInt, Int64.reduceToInt, Int.not_lt, Int.not_le] at c_172
                    refine gz_aload_n dX12_tells_175 rfl rfl ?_
                    refine gz_iload_n dX12_tells_176 rfl rfl ?_
                    refine gz_aload_n dX12_tells_177 rfl rfl ?_
                    refine mg_38 hS_293 dX12_tells_178 ?_
                    refine gz_iload_n dX12_tells_181 rfl rfl ?_
                    refine m_iald 13 hS_293 rfl (N := 880) rfl ((by exact vin_T (rfl : (x1).toInt = (x1).toInt) (by omega) (by omega))) dX12_tells_182 ?_
                    refine gz_ev (w := .int ((F 13) (Int32.toNatClampNeg x1))) (congrArg Value.int (congrFun ((hx293.2.2.1 13 (by decide)).trans ((hx292.2.2.1 13 (by decide)).trans ((hx287.2.2.1 13 (by decide)).trans ((hx172.2.2.1 13 (by decide)).trans (hx1.2.2.1 13 (by decide)))))) _)) ?_
                    refine gz_aload_n dX12_tells_183 rfl rfl ?_
                    refine mg_41 hS_293 dX12_tells_184 ?_
                    refine gz_iload_n dX12_tells_187 rfl rfl ?_
                    refine m_iald 14 hS_293 rfl (N := 880) rfl ((by exact vin_T (rfl : (x1).toInt = (x1).toInt) (by omega) (by omega))) dX12_tells_188 ?_
                    refine gz_ev (w := .int ((F 14) (Int32.toNatClampNeg x1))) (congrArg Value.int (congrFun ((hx293.2.2.1 14 (by decide)).trans ((hx292.2.2.1 14 (by decide)).trans ((hx287.2.2.1 14 (by decide)).trans ((hx172.2.2.1 14 (by decide)).trans (hx1.2.2.1 14 (by decide)))))) _)) ?_
                    have hxx189 : fx [88, 89] [] [87] [] n z F G n_293 z_293 F_293 G_293 := (fx_tr (fx_tr (fx_tr (fx_tr (fx_tr fx_rf hx1 (by decide)) hx172 (by decide)) hx287 (by decide)) hx292 (by decide)) hx293 (by decide))
                    refine scX12_558 (k_X12_sums (x1 := x1) (x2 := ((F 13) (Int32.toNatClampNeg x1))) (x3 := ((F 14) (Int32.toNatClampNeg x1))) hS_293 (rAll_w (fun k hk => hxx189.2.2.1 k ((by decide : ∀ k : Nat, k ∈ wK → k ∉ ([87] : List Nat)) k hk)) bA) (by omega) (by omega) (by (try rw [(show n_293 88 = (n_293 88) from rfl)]); omega)) hS_293.1 ⟨(Nat.le_of_ble_eq_true rfl), (Nat.le_of_ble_eq_true rfl)⟩ ⟨(Nat.le_of_ble_eq_true rfl), (Nat.le_of_ble_eq_true rfl)⟩ rfl rfl (Nat.le_of_ble_eq_true rfl) dX12_tells_189 ?_
                    rintro f_294 ⟨n_294, z_294, F_294, G_294, hS_294, hx294, h8a_294, h8b_294⟩
                    refine gz_aload_n dX12_tells_192 rfl rfl ?_
                    refine gz_bipush (v := 58) dX12_tells_193 (by decide) ?_
                    refine scX12_547 (k_X12_signs (x1 := 58) hS_294 (by (try rw [(show n_294 88 = (n_294 88) from rfl)]); omega)) hS_294.1 ⟨(Nat.le_of_ble_eq_true rfl), (Nat.le_of_ble_eq_true rfl)⟩ ⟨(Nat.le_of_ble_eq_true rfl), (Nat.le_of_ble_eq_true rfl)⟩ rfl rfl (Nat.le_of_ble_eq_true rfl) dX12_tells_195 ?_
                    rintro f_295 ⟨n_295, z_295, F_295, G_295, hS_295, hx295, h8_295⟩
                    exact gz_vret rfl dX12_tells_198 (Nat.le_of_ble_eq_true rfl) (Nat.le_of_ble_eq_true rfl) (⟨rfl, _, _, _, _, hS_295, (fx_tr (fx_tr (fx_tr (fx_tr (fx_tr (fx_tr (fx_tr fx_rf hx1 (by decide)) hx172 (by decide)) hx287 (by decide)) hx292 (by decide)) hx293 (by decide)) hx294 (by decide)) hx295 (by decide)), (by (try rw [(show n_295 88 = (n_295 88) from rfl)]); omega), (by (try rw [(show n_295 88 = (n_295 88) from rfl)]); omega), (by (try rw [(show n_295 88 = (n_295 88) from rfl)]); omega)⟩)
                ·
                  try simp only [mIn_0, lgc_lt, lgc_gt, lgc_le, lgc_ge, lgc_eq] at c_132
                  try simp only [fl_lt, fl_le, fl_eq, fL_w, fL_lt, fL_le, tm1, tm10k, tm9, tm99, Int32.reduceToInt, Int64.reduceToInt, Int.not_lt, Int.not_le] at c_132
                  refine gz_aload_n dX12_tells_135 rfl rfl ?_
                  refine gz_bipush (v := 61) dX12_tells_136 (by decide) ?_
                  refine scX12_547 (k_X12_signs (x1 := 61) hS_287 (by (try rw [(show n_287 88 = (n_287 88) from rfl)]); omega)) hS_287.1 ⟨(Nat.le_of_ble_eq_true rfl), (Nat.le_of_ble_eq_true rfl)⟩ ⟨(Nat.le_of_ble_eq_true rfl), (Nat.le_of_ble_eq_true rfl)⟩ rfl rfl (Nat.le_of_ble_eq_true rfl) dX12_tells_138 ?_
                  rintro f_296 ⟨n_296, z_296, F_296, G_296, hS_296, hx296, h8_296⟩
                  refine gz_aload_n dX12_tells_141 rfl rfl ?_
                  refine gz_iload_n dX12_tells_142 rfl rfl ?_
                  refine gz_aload_n dX12_tells_143 rfl rfl ?_
                  refine mg_41 hS_296 dX12_tells_144 ?_
                  refine gz_iload_n dX12_tells_147 rfl rfl ?_
                  refine m_iald 14 hS_296 rfl (N := 880) rfl ((by exact vin_T (rfl : (x1).toInt = (x1).toInt) (by omega) (by omega))) dX12_tells_148 ?_
                  refine gz_ev (w := .int ((F 14) (Int32.toNatClampNeg x1))) (congrArg Value.int (congrFun ((hx296.2.2.1 14 (by decide)).trans ((hx287.2.2.1 14 (by decide)).trans ((hx172.2.2.1 14 (by decide)).trans (hx1.2.2.1 14 (by decide))))) _)) ?_
                  refine gz_aload_n dX12_tells_149 rfl rfl ?_
                  refine mg_44 hS_296 dX12_tells_150 ?_
                  refine gz_iload_n dX12_tells_153 rfl rfl ?_
                  refine m_iald 15 hS_296 rfl (N := 880) rfl ((by exact vin_T (rfl : (x1).toInt = (x1).toInt) (by omega) (by omega))) dX12_tells_154 ?_
                  refine gz_ev (w := .int ((F 15) (Int32.toNatClampNeg x1))) (congrArg Value.int (congrFun ((hx296.2.2.1 15 (by decide)).trans ((hx287.2.2.1 15 (by decide)).trans ((hx172.2.2.1 15 (by decide)).trans (hx1.2.2.1 15 (by decide))))) _)) ?_
                  have hxx155 : fx [88, 89] [] [87] [] n z F G n_296 z_296 F_296 G_296 := (fx_tr (fx_tr (fx_tr (fx_tr fx_rf hx1 (by decide)) hx172 (by decide)) hx287 (by decide)) hx296 (by decide))
                  refine scX12_558 (k_X12_sums (x1 := x1) (x2 := ((F 14) (Int32.toNatClampNeg x1))) (x3 := ((F 15) (Int32.toNatClampNeg x1))) hS_296 (rAll_w (fun k hk => hxx155.2.2.1 k ((by decide : ∀ k : Nat, k ∈ wK → k ∉ ([87] : List Nat)) k hk)) bA) (by omega) (by omega) (by (try rw [(show n_296 88 = (n_296 88) from rfl)]); omega)) hS_296.1 ⟨(Nat.le_of_ble_eq_true rfl), (Nat.le_of_ble_eq_true rfl)⟩ ⟨(Nat.le_of_ble_eq_true rfl), (Nat.le_of_ble_eq_true rfl)⟩ rfl rfl (Nat.le_of_ble_eq_true rfl) dX12_tells_155 ?_
                  rintro f_297 ⟨n_297, z_297, F_297, G_297, hS_297, hx297, h8a_297, h8b_297⟩
                  refine gz_aload_n dX12_tells_158 rfl rfl ?_
                  refine gz_bipush (v := 58) dX12_tells_159 (by decide) ?_
                  refine scX12_547 (k_X12_signs (x1 := 58) hS_297 (by (try rw [(show n_297 88 = (n_297 88) from rfl)]); omega)) hS_297.1 ⟨(Nat.le_of_ble_eq_true rfl), (Nat.le_of_ble_eq_true rfl)⟩ ⟨(Nat.le_of_ble_eq_true rfl), (Nat.le_of_ble_eq_true rfl)⟩ rfl rfl (Nat.le_of_ble_eq_true rfl) dX12_tells_161 ?_
                  rintro f_298 ⟨n_298, z_298, F_298, G_298, hS_298, hx298, h8_298⟩
                  refine gz_aload_n dX12_tells_164 rfl rfl ?_
                  refine mg_20 hS_298 dX12_tells_165 ?_
                  refine gz_iload_n dX12_tells_168 rfl rfl ?_
                  refine m_iald 7 hS_298 rfl (N := 880) rfl ((by exact vin_T (rfl : (x1).toInt = (x1).toInt) (by omega) (by omega))) dX12_tells_169 ?_
                  refine gz_ev (w := .int ((F 7) (Int32.toNatClampNeg x1))) (congrArg Value.int (congrFun ((hx298.2.2.1 7 (by decide)).trans ((hx297.2.2.1 7 (by decide)).trans ((hx296.2.2.1 7 (by decide)).trans ((hx287.2.2.1 7 (by decide)).trans ((hx172.2.2.1 7 (by decide)).trans (hx1.2.2.1 7 (by decide))))))) _)) ?_
                  refine gz_bipush (v := 9) dX12_tells_170 (by decide) ?_
                  refine gz_icmp_ne (tgt := 198) dX12_tells_172 (by decide) (fun c_172 => ?_) (fun c_172 => ?_)
                  ·
                    try simp only [mIn_0, lgc_lt, lgc_gt, lgc_le, lgc_ge, lgc_eq] at c_172
                    try simp only [fl_lt, fl_le, fl_eq, fL_w, fL_lt, fL_le, tm1, tm10k, tm9, tm99, Int32.reduceToInt, Int64.reduceToInt, Int.not_lt, Int.not_le] at c_172
                    exact gz_vret rfl dX12_tells_198 (Nat.le_of_ble_eq_true rfl) (Nat.le_of_ble_eq_true rfl) (⟨rfl, _, _, _, _, hS_298, (fx_tr (fx_tr (fx_tr (fx_tr (fx_tr (fx_tr fx_rf hx1 (by decide)) hx172 (by decide)) hx287 (by decide)) hx296 (by decide)) hx297 (by decide)) hx298 (by decide)), (by (try rw [(show n_298 88 = (n_298 88) from rfl)]); omega), (by (try rw [(show n_298 88 = (n_298 88) from rfl)]); omega), (by (try rw [(show n_298 88 = (n_298 88) from rfl)]); omega)⟩)
                  ·
                    try simp only [mIn_0, lgc_lt, lgc_gt, lgc_le, lgc_ge, lgc_eq] at c_172
                    try simp only [fl_lt, fl_le, fl_eq, fL_w, fL_lt, fL_le, tm1, tm10k, tm9, tm99, Int32.reduceToInt, Int64.reduceToInt, Int.not_lt, Int.not_le] at c_172
                    refine gz_aload_n dX12_tells_175 rfl rfl ?_
                    refine gz_iload_n dX12_tells_176 rfl rfl ?_
                    refine gz_aload_n dX12_tells_177 rfl rfl ?_
                    refine mg_38 hS_298 dX12_tells_178 ?_
                    refine gz_iload_n dX12_tells_181 rfl rfl ?_
                    refine m_iald 13 hS_298 rfl (N := 880) rfl ((by exact vin_T (rfl : (x1).toInt = (x1).toInt) (by omega) (by omega))) dX12_tells_182 ?_
                    refine gz_ev (w := .int ((F 13) (Int32.toNatClampNeg x1))) (congrArg Value.int (congrFun ((hx298.2.2.1 13 (by decide)).trans ((hx297.2.2.1 13 (by decide)).trans ((hx296.2.2.1 13 (by decide)).trans ((hx287.2.2.1 13 (by decide)).trans ((hx172.2.2.1 13 (by decide)).trans (hx1.2.2.1 13 (by decide))))))) _)) ?_
                    refine gz_aload_n dX12_tells_183 rfl rfl ?_
                    refine mg_41 hS_298 dX12_tells_184 ?_
                    refine gz_iload_n dX12_tells_187 rfl rfl ?_
                    refine m_iald 14 hS_298 rfl (N := 880) rfl ((by exact vin_T (rfl : (x1).toInt = (x1).toInt) (by omega) (by omega))) dX12_tells_188 ?_
                    refine gz_ev (w := .int ((F 14) (Int32.toNatClampNeg x1))) (congrArg Value.int (congrFun ((hx298.2.2.1 14 (by decide)).trans ((hx297.2.2.1 14 (by decide)).trans ((hx296.2.2.1 14 (by decide)).trans ((hx287.2.2.1 14 (by decide)).trans ((hx172.2.2.1 14 (by decide)).trans (hx1.2.2.1 14 (by decide))))))) _)) ?_
                    have hxx189 : fx [88, 89] [] [87] [] n z F G n_298 z_298 F_298 G_298 := (fx_tr (fx_tr (fx_tr (fx_tr (fx_tr (fx_tr fx_rf hx1 (by decide)) hx172 (by decide)) hx287 (by decide)) hx296 (by decide)) hx297 (by decide)) hx298 (by decide))
                    refine scX12_558 (k_X12_sums (x1 := x1) (x2 := ((F 13) (Int32.toNatClampNeg x1))) (x3 := ((F 14) (Int32.toNatClampNeg x1))) hS_298 (rAll_w (fun k hk => hxx189.2.2.1 k ((by decide : ∀ k : Nat, k ∈ wK → k ∉ ([87] : List Nat)) k hk)) bA) (by omega) (by omega) (by (try rw [(show n_298 88 = (n_298 88) from rfl)]); omega)) hS_298.1 ⟨(Nat.le_of_ble_eq_true rfl), (Nat.le_of_ble_eq_true rfl)⟩ ⟨(Nat.le_of_ble_eq_true rfl), (Nat.le_of_ble_eq_true rfl)⟩ rfl rfl (Nat.le_of_ble_eq_true rfl) dX12_tells_189 ?_
                    rintro f_299 ⟨n_299, z_299, F_299, G_299, hS_299, hx299, h8a_299, h8b_299⟩
                    refine gz_aload_n dX12_tells_192 rfl rfl ?_
                    refine gz_bipush (v := 58) dX12_tells_193 (by decide) ?_
                    refine scX12_547 (k_X12_signs (x1 := 58) hS_299 (by (try rw [(show n_299 88 = (n_299 88) from rfl)]); omega)) hS_299.1 ⟨(Nat.le_of_ble_eq_true rfl), (Nat.le_of_ble_eq_true rfl)⟩ ⟨(Nat.le_of_ble_eq_true rfl), (Nat.le_of_ble_eq_true rfl)⟩ rfl rfl (Nat.le_of_ble_eq_true rfl) dX12_tells_195 ?_
                    rintro f_300 ⟨n_300, z_300, F_300, G_300, hS_300, hx300, h8_300⟩
                    exact gz_vret rfl dX12_tells_198 (Nat.le_of_ble_eq_true rfl) (Nat.le_of_ble_eq_true rfl) (⟨rfl, _, _, _, _, hS_300, (fx_tr (fx_tr (fx_tr (fx_tr (fx_tr (fx_tr (fx_tr (fx_tr fx_rf hx1 (by decide)) hx172 (by decide)) hx287 (by decide)) hx296 (by decide)) hx297 (by decide)) hx298 (by decide)) hx299 (by decide)) hx300 (by decide)), (by (try rw [(show n_300 88 = (n_300 88) from rfl)]); omega), (by (try rw [(show n_300 88 = (n_300 88) from rfl)]); omega), (by (try rw [(show n_300 88 = (n_300 88) from rfl)]); omega)⟩)
            ·
              try simp only [mIn_0, lgc_lt, lgc_gt, lgc_le, lgc_ge, lgc_eq] at c_107
              try simp only [fl_lt, fl_le, fl_eq, fL_w, fL_lt, fL_le, tm1, tm10k, tm9, tm99, Int32.reduceToInt, Int64.reduceToInt, Int.not_lt, Int.not_le] at c_107
              refine gz_aload_n dX12_tells_110 rfl rfl ?_
              refine gz_bipush (v := 62) dX12_tells_111 (by decide) ?_
              refine scX12_547 (k_X12_signs (x1 := 62) hS_287 (by (try rw [(show n_287 88 = (n_287 88) from rfl)]); omega)) hS_287.1 ⟨(Nat.le_of_ble_eq_true rfl), (Nat.le_of_ble_eq_true rfl)⟩ ⟨(Nat.le_of_ble_eq_true rfl), (Nat.le_of_ble_eq_true rfl)⟩ rfl rfl (Nat.le_of_ble_eq_true rfl) dX12_tells_113 ?_
              rintro f_301 ⟨n_301, z_301, F_301, G_301, hS_301, hx301, h8_301⟩
              refine gz_aload_n dX12_tells_116 rfl rfl ?_
              refine mg_47 hS_301 dX12_tells_117 ?_
              refine gz_iload_n dX12_tells_120 rfl rfl ?_
              refine m_iald 16 hS_301 rfl (N := 880) rfl ((by exact vin_T (rfl : (x1).toInt = (x1).toInt) (by omega) (by omega))) dX12_tells_121 ?_
              refine gz_ev (w := .int ((F 16) (Int32.toNatClampNeg x1))) (congrArg Value.int (congrFun ((hx301.2.2.1 16 (by decide)).trans ((hx287.2.2.1 16 (by decide)).trans ((hx172.2.2.1 16 (by decide)).trans (hx1.2.2.1 16 (by decide))))) _)) ?_
              refine gz_if_le (tgt := 141) dX12_tells_122 (by decide) (fun c_122 => ?_) (fun c_122 => ?_)
              ·
                try simp only [mIn_0, lgc_lt, lgc_gt, lgc_le, lgc_ge, lgc_eq] at c_122
                try simp only [fl_lt, fl_le, fl_eq, fL_w, fL_lt, fL_le, tm1, tm10k, tm9, tm99, Int32.reduceToInt, Int64.reduceToInt, Int.not_lt, Int.not_le] at c_122
                refine gz_aload_n dX12_tells_141 rfl rfl ?_
                refine gz_iload_n dX12_tells_142 rfl rfl ?_
                refine gz_aload_n dX12_tells_143 rfl rfl ?_
                refine mg_41 hS_301 dX12_tells_144 ?_
                refine gz_iload_n dX12_tells_147 rfl rfl ?_
                refine m_iald 14 hS_301 rfl (N := 880) rfl ((by exact vin_T (rfl : (x1).toInt = (x1).toInt) (by omega) (by omega))) dX12_tells_148 ?_
                refine gz_ev (w := .int ((F 14) (Int32.toNatClampNeg x1))) (congrArg Value.int (congrFun ((hx301.2.2.1 14 (by decide)).trans ((hx287.2.2.1 14 (by decide)).trans ((hx172.2.2.1 14 (by decide)).trans (hx1.2.2.1 14 (by decide))))) _)) ?_
                refine gz_aload_n dX12_tells_149 rfl rfl ?_
                refine mg_44 hS_301 dX12_tells_150 ?_
                refine gz_iload_n dX12_tells_153 rfl rfl ?_
                refine m_iald 15 hS_301 rfl (N := 880) rfl ((by exact vin_T (rfl : (x1).toInt = (x1).toInt) (by omega) (by omega))) dX12_tells_154 ?_
                refine gz_ev (w := .int ((F 15) (Int32.toNatClampNeg x1))) (congrArg Value.int (congrFun ((hx301.2.2.1 15 (by decide)).trans ((hx287.2.2.1 15 (by decide)).trans ((hx172.2.2.1 15 (by decide)).trans (hx1.2.2.1 15 (by decide))))) _)) ?_
                have hxx155 : fx [88, 89] [] [87] [] n z F G n_301 z_301 F_301 G_301 := (fx_tr (fx_tr (fx_tr (fx_tr fx_rf hx1 (by decide)) hx172 (by decide)) hx287 (by decide)) hx301 (by decide))
                refine scX12_558 (k_X12_sums (x1 := x1) (x2 := ((F 14) (Int32.toNatClampNeg x1))) (x3 := ((F 15) (Int32.toNatClampNeg x1))) hS_301 (rAll_w (fun k hk => hxx155.2.2.1 k ((by decide : ∀ k : Nat, k ∈ wK → k ∉ ([87] : List Nat)) k hk)) bA) (by omega) (by omega) (by (try rw [(show n_301 88 = (n_301 88) from rfl)]); omega)) hS_301.1 ⟨(Nat.le_of_ble_eq_true rfl), (Nat.le_of_ble_eq_true rfl)⟩ ⟨(Nat.le_of_ble_eq_true rfl), (Nat.le_of_ble_eq_true rfl)⟩ rfl rfl (Nat.le_of_ble_eq_true rfl) dX12_tells_155 ?_
                rintro f_302 ⟨n_302, z_302, F_302, G_302, hS_302, hx302, h8a_302, h8b_302⟩
                refine gz_aload_n dX12_tells_158 rfl rfl ?_
                refine gz_bipush (v := 58) dX12_tells_159 (by decide) ?_
                refine scX12_547 (k_X12_signs (x1 := 58) hS_302 (by (try rw [(show n_302 88 = (n_302 88) from rfl)]); omega)) hS_302.1 ⟨(Nat.le_of_ble_eq_true rfl), (Nat.le_of_ble_eq_true rfl)⟩ ⟨(Nat.le_of_ble_eq_true rfl), (Nat.le_of_ble_eq_true rfl)⟩ rfl rfl (Nat.le_of_ble_eq_true rfl) dX12_tells_161 ?_
                rintro f_303 ⟨n_303, z_303, F_303, G_303, hS_303, hx303, h8_303⟩
                refine gz_aload_n dX12_tells_164 rfl rfl ?_
                refine mg_20 hS_303 dX12_tells_165 ?_
                refine gz_iload_n dX12_tells_168 rfl rfl ?_
                refine m_iald 7 hS_303 rfl (N := 880) rfl ((by exact vin_T (rfl : (x1).toInt = (x1).toInt) (by omega) (by omega))) dX12_tells_169 ?_
                refine gz_ev (w := .int ((F 7) (Int32.toNatClampNeg x1))) (congrArg Value.int (congrFun ((hx303.2.2.1 7 (by decide)).trans ((hx302.2.2.1 7 (by decide)).trans ((hx301.2.2.1 7 (by decide)).trans ((hx287.2.2.1 7 (by decide)).trans ((hx172.2.2.1 7 (by decide)).trans (hx1.2.2.1 7 (by decide))))))) _)) ?_
                refine gz_bipush (v := 9) dX12_tells_170 (by decide) ?_
                refine gz_icmp_ne (tgt := 198) dX12_tells_172 (by decide) (fun c_172 => ?_) (fun c_172 => ?_)
                ·
                  try simp only [mIn_0, lgc_lt, lgc_gt, lgc_le, lgc_ge, lgc_eq] at c_172
                  try simp only [fl_lt, fl_le, fl_eq, fL_w, fL_lt, fL_le, tm1, tm10k, tm9, tm99, Int32.reduceToInt, Int64.reduceToInt, Int.not_lt, Int.not_le] at c_172
                  exact gz_vret rfl dX12_tells_198 (Nat.le_of_ble_eq_true rfl) (Nat.le_of_ble_eq_true rfl) (⟨rfl, _, _, _, _, hS_303, (fx_tr (fx_tr (fx_tr (fx_tr (fx_tr (fx_tr fx_rf hx1 (by decide)) hx172 (by decide)) hx287 (by decide)) hx301 (by decide)) hx302 (by decide)) hx303 (by decide)), (by (try rw [(show n_303 88 = (n_303 88) from rfl)]); omega), (by (try rw [(show n_303 88 = (n_303 88) from rfl)]); omega), (by (try rw [(show n_303 88 = (n_303 88) from rfl)]); omega)⟩)
                ·
                  try simp only [mIn_0, lgc_lt, lgc_gt, lgc_le, lgc_ge, lgc_eq] at c_172
                  try simp only [fl_lt, fl_le, fl_eq, fL_w, fL_lt, fL_le, tm1, tm10k, tm9, tm99, Int32.reduceToInt, Int64.reduceToInt, Int.not_lt, Int.not_le] at c_172
                  refine gz_aload_n dX12_tells_175 rfl rfl ?_
                  refine gz_iload_n dX12_tells_176 rfl rfl ?_
                  refine gz_aload_n dX12_tells_177 rfl rfl ?_
                  refine mg_38 hS_303 dX12_tells_178 ?_
                  refine gz_iload_n dX12_tells_181 rfl rfl ?_
                  refine m_iald 13 hS_303 rfl (N := 880) rfl ((by exact vin_T (rfl : (x1).toInt = (x1).toInt) (by omega) (by omega))) dX12_tells_182 ?_
                  refine gz_ev (w := .int ((F 13) (Int32.toNatClampNeg x1))) (congrArg Value.int (congrFun ((hx303.2.2.1 13 (by decide)).trans ((hx302.2.2.1 13 (by decide)).trans ((hx301.2.2.1 13 (by decide)).trans ((hx287.2.2.1 13 (by decide)).trans ((hx172.2.2.1 13 (by decide)).trans (hx1.2.2.1 13 (by decide))))))) _)) ?_
                  refine gz_aload_n dX12_tells_183 rfl rfl ?_
                  refine mg_41 hS_303 dX12_tells_184 ?_
                  refine gz_iload_n dX12_tells_187 rfl rfl ?_
                  refine m_iald 14 hS_303 rfl (N := 880) rfl ((by exact vin_T (rfl : (x1).toInt = (x1).toInt) (by omega) (by omega))) dX12_tells_188 ?_
                  refine gz_ev (w := .int ((F 14) (Int32.toNatClampNeg x1))) (congrArg Value.int (congrFun ((hx303.2.2.1 14 (by decide)).trans ((hx302.2.2.1 14 (by decide)).trans ((hx301.2.2.1 14 (by decide)).trans ((hx287.2.2.1 14 (by decide)).trans ((hx172.2.2.1 14 (by decide)).trans (hx1.2.2.1 14 (by decide))))))) _)) ?_
                  have hxx189 : fx [88, 89] [] [87] [] n z F G n_303 z_303 F_303 G_303 := (fx_tr (fx_tr (fx_tr (fx_tr (fx_tr (fx_tr fx_rf hx1 (by decide)) hx172 (by decide)) hx287 (by decide)) hx301 (by decide)) hx302 (by decide)) hx303 (by decide))
                  refine scX12_558 (k_X12_sums (x1 := x1) (x2 := ((F 13) (Int32.toNatClampNeg x1))) (x3 := ((F 14) (Int32.toNatClampNeg x1))) hS_303 (rAll_w (fun k hk => hxx189.2.2.1 k ((by decide : ∀ k : Nat, k ∈ wK → k ∉ ([87] : List Nat)) k hk)) bA) (by omega) (by omega) (by (try rw [(show n_303 88 = (n_303 88) from rfl)]); omega)) hS_303.1 ⟨(Nat.le_of_ble_eq_true rfl), (Nat.le_of_ble_eq_true rfl)⟩ ⟨(Nat.le_of_ble_eq_true rfl), (Nat.le_of_ble_eq_true rfl)⟩ rfl rfl (Nat.le_of_ble_eq_true rfl) dX12_tells_189 ?_
                  rintro f_304 ⟨n_304, z_304, F_304, G_304, hS_304, hx304, h8a_304, h8b_304⟩
                  refine gz_aload_n dX12_tells_192 rfl rfl ?_
                  refine gz_bipush (v := 58) dX12_tells_193 (by decide) ?_
                  refine scX12_547 (k_X12_signs (x1 := 58) hS_304 (by (try rw [(show n_304 88 = (n_304 88) from rfl)]); omega)) hS_304.1 ⟨(Nat.le_of_ble_eq_true rfl), (Nat.le_of_ble_eq_true rfl)⟩ ⟨(Nat.le_of_ble_eq_true rfl), (Nat.le_of_ble_eq_true rfl)⟩ rfl rfl (Nat.le_of_ble_eq_true rfl) dX12_tells_195 ?_
                  rintro f_305 ⟨n_305, z_305, F_305, G_305, hS_305, hx305, h8_305⟩
                  exact gz_vret rfl dX12_tells_198 (Nat.le_of_ble_eq_true rfl) (Nat.le_of_ble_eq_true rfl) (⟨rfl, _, _, _, _, hS_305, (fx_tr (fx_tr (fx_tr (fx_tr (fx_tr (fx_tr (fx_tr (fx_tr fx_rf hx1 (by decide)) hx172 (by decide)) hx287 (by decide)) hx301 (by decide)) hx302 (by decide)) hx303 (by decide)) hx304 (by decide)) hx305 (by decide)), (by (try rw [(show n_305 88 = (n_305 88) from rfl)]); omega), (by (try rw [(show n_305 88 = (n_305 88) from rfl)]); omega), (by (try rw [(show n_305 88 = (n_305 88) from rfl)]); omega)⟩)
              ·
                try simp only [mIn_0, lgc_lt, lgc_gt, lgc_le, lgc_ge, lgc_eq] at c_122
                try simp only [fl_lt, fl_le, fl_eq, fL_w, fL_lt, fL_le, tm1, tm10k, tm9, tm99, Int32.reduceToInt, Int64.reduceToInt, Int.not_lt, Int.not_le] at c_122
                refine gz_aload_n dX12_tells_125 rfl rfl ?_
                refine mg_47 hS_301 dX12_tells_126 ?_
                refine gz_iload_n dX12_tells_129 rfl rfl ?_
                refine m_iald 16 hS_301 rfl (N := 880) rfl ((by exact vin_T (rfl : (x1).toInt = (x1).toInt) (by omega) (by omega))) dX12_tells_130 ?_
                refine gz_ev (w := .int ((F 16) (Int32.toNatClampNeg x1))) (congrArg Value.int (congrFun ((hx301.2.2.1 16 (by decide)).trans ((hx287.2.2.1 16 (by decide)).trans ((hx172.2.2.1 16 (by decide)).trans (hx1.2.2.1 16 (by decide))))) _)) ?_
                refine gz_iconst (v := 4) dX12_tells_131 (by decide) ?_
                refine gz_icmp_ge (tgt := 141) dX12_tells_132 (by decide) (fun c_132 => ?_) (fun c_132 => ?_)
                ·
                  try simp only [mIn_0, lgc_lt, lgc_gt, lgc_le, lgc_ge, lgc_eq] at c_132
                  try simp only [fl_lt, fl_le, fl_eq, fL_w, fL_lt, fL_le, tm1, tm10k, tm9, tm99, Int32.reduceToInt, Int64.reduceToInt, Int.not_lt, Int.not_le] at c_132
                  refine gz_aload_n dX12_tells_141 rfl rfl ?_
                  refine gz_iload_n dX12_tells_142 rfl rfl ?_
                  refine gz_aload_n dX12_tells_143 rfl rfl ?_
                  refine mg_41 hS_301 dX12_tells_144 ?_
                  refine gz_iload_n dX12_tells_147 rfl rfl ?_
                  refine m_iald 14 hS_301 rfl (N := 880) rfl ((by exact vin_T (rfl : (x1).toInt = (x1).toInt) (by omega) (by omega))) dX12_tells_148 ?_
                  refine gz_ev (w := .int ((F 14) (Int32.toNatClampNeg x1))) (congrArg Value.int (congrFun ((hx301.2.2.1 14 (by decide)).trans ((hx287.2.2.1 14 (by decide)).trans ((hx172.2.2.1 14 (by decide)).trans (hx1.2.2.1 14 (by decide))))) _)) ?_
                  refine gz_aload_n dX12_tells_149 rfl rfl ?_
                  refine mg_44 hS_301 dX12_tells_150 ?_
                  refine gz_iload_n dX12_tells_153 rfl rfl ?_
                  refine m_iald 15 hS_301 rfl (N := 880) rfl ((by exact vin_T (rfl : (x1).toInt = (x1).toInt) (by omega) (by omega))) dX12_tells_154 ?_
                  refine gz_ev (w := .int ((F 15) (Int32.toNatClampNeg x1))) (congrArg Value.int (congrFun ((hx301.2.2.1 15 (by decide)).trans ((hx287.2.2.1 15 (by decide)).trans ((hx172.2.2.1 15 (by decide)).trans (hx1.2.2.1 15 (by decide))))) _)) ?_
                  have hxx155 : fx [88, 89] [] [87] [] n z F G n_301 z_301 F_301 G_301 := (fx_tr (fx_tr (fx_tr (fx_tr fx_rf hx1 (by decide)) hx172 (by decide)) hx287 (by decide)) hx301 (by decide))
                  refine scX12_558 (k_X12_sums (x1 := x1) (x2 := ((F 14) (Int32.toNatClampNeg x1))) (x3 := ((F 15) (Int32.toNatClampNeg x1))) hS_301 (rAll_w (fun k hk => hxx155.2.2.1 k ((by decide : ∀ k : Nat, k ∈ wK → k ∉ ([87] : List Nat)) k hk)) bA) (by omega) (by omega) (by (try rw [(show n_301 88 = (n_301 88) from rfl)]); omega)) hS_301.1 ⟨(Nat.le_of_ble_eq_true rfl), (Nat.le_of_ble_eq_true rfl)⟩ ⟨(Nat.le_of_ble_eq_true rfl), (Nat.le_of_ble_eq_true rfl)⟩ rfl rfl (Nat.le_of_ble_eq_true rfl) dX12_tells_155 ?_
                  rintro f_306 ⟨n_306, z_306, F_306, G_306, hS_306, hx306, h8a_306, h8b_306⟩
                  refine gz_aload_n dX12_tells_158 rfl rfl ?_
                  refine gz_bipush (v := 58) dX12_tells_159 (by decide) ?_
                  refine scX12_547 (k_X12_signs (x1 := 58) hS_306 (by (try rw [(show n_306 88 = (n_306 88) from rfl)]); omega)) hS_306.1 ⟨(Nat.le_of_ble_eq_true rfl), (Nat.le_of_ble_eq_true rfl)⟩ ⟨(Nat.le_of_ble_eq_true rfl), (Nat.le_of_ble_eq_true rfl)⟩ rfl rfl (Nat.le_of_ble_eq_true rfl) dX12_tells_161 ?_
                  rintro f_307 ⟨n_307, z_307, F_307, G_307, hS_307, hx307, h8_307⟩
                  refine gz_aload_n dX12_tells_164 rfl rfl ?_
                  refine mg_20 hS_307 dX12_tells_165 ?_
                  refine gz_iload_n dX12_tells_168 rfl rfl ?_
                  refine m_iald 7 hS_307 rfl (N := 880) rfl ((by exact vin_T (rfl : (x1).toInt = (x1).toInt) (by omega) (by omega))) dX12_tells_169 ?_
                  refine gz_ev (w := .int ((F 7) (Int32.toNatClampNeg x1))) (congrArg Value.int (congrFun ((hx307.2.2.1 7 (by decide)).trans ((hx306.2.2.1 7 (by decide)).trans ((hx301.2.2.1 7 (by decide)).trans ((hx287.2.2.1 7 (by decide)).trans ((hx172.2.2.1 7 (by decide)).trans (hx1.2.2.1 7 (by decide))))))) _)) ?_
                  refine gz_bipush (v := 9) dX12_tells_170 (by decide) ?_
                  refine gz_icmp_ne (tgt := 198) dX12_tells_172 (by decide) (fun c_172 => ?_) (fun c_172 => ?_)
                  ·
                    try simp only [mIn_0, lgc_lt, lgc_gt, lgc_le, lgc_ge, lgc_eq] at c_172
                    try simp only [fl_lt, fl_le, fl_eq, fL_w, fL_lt, fL_le, tm1, tm10k, tm9, tm99, Int32.reduceToInt, Int64.reduceToInt, Int.not_lt, Int.not_le] at c_172
                    exact gz_vret rfl dX12_tells_198 (Nat.le_of_ble_eq_true rfl) (Nat.le_of_ble_eq_true rfl) (⟨rfl, _, _, _, _, hS_307, (fx_tr (fx_tr (fx_tr (fx_tr (fx_tr (fx_tr fx_rf hx1 (by decide)) hx172 (by decide)) hx287 (by decide)) hx301 (by decide)) hx306 (by decide)) hx307 (by decide)), (by (try rw [(show n_307 88 = (n_307 88) from rfl)]); omega), (by (try rw [(show n_307 88 = (n_307 88) from rfl)]); omega), (by (try rw [(show n_307 88 = (n_307 88) from rfl)]); omega)⟩)
                  ·
                    try simp only [mIn_0, lgc_lt, lgc_gt, lgc_le, lgc_ge, lgc_eq] at c_172
                    try simp only [fl_lt, fl_le, fl_eq, fL_w, fL_lt, fL_le, tm1, tm10k, tm9, tm99, Int32.reduceToInt, Int64.reduceToInt, Int.not_lt, Int.not_le] at c_172
                    refine gz_aload_n dX12_tells_175 rfl rfl ?_
                    refine gz_iload_n dX12_tells_176 rfl rfl ?_
                    refine gz_aload_n dX12_tells_177 rfl rfl ?_
                    refine mg_38 hS_307 dX12_tells_178 ?_
                    refine gz_iload_n dX12_tells_181 rfl rfl ?_
                    refine m_iald 13 hS_307 rfl (N := 880) rfl ((by exact vin_T (rfl : (x1).toInt = (x1).toInt) (by omega) (by omega))) dX12_tells_182 ?_
                    refine gz_ev (w := .int ((F 13) (Int32.toNatClampNeg x1))) (congrArg Value.int (congrFun ((hx307.2.2.1 13 (by decide)).trans ((hx306.2.2.1 13 (by decide)).trans ((hx301.2.2.1 13 (by decide)).trans ((hx287.2.2.1 13 (by decide)).trans ((hx172.2.2.1 13 (by decide)).trans (hx1.2.2.1 13 (by decide))))))) _)) ?_
                    refine gz_aload_n dX12_tells_183 rfl rfl ?_
                    refine mg_41 hS_307 dX12_tells_184 ?_
                    refine gz_iload_n dX12_tells_187 rfl rfl ?_
                    refine m_iald 14 hS_307 rfl (N := 880) rfl ((by exact vin_T (rfl : (x1).toInt = (x1).toInt) (by omega) (by omega))) dX12_tells_188 ?_
                    refine gz_ev (w := .int ((F 14) (Int32.toNatClampNeg x1))) (congrArg Value.int (congrFun ((hx307.2.2.1 14 (by decide)).trans ((hx306.2.2.1 14 (by decide)).trans ((hx301.2.2.1 14 (by decide)).trans ((hx287.2.2.1 14 (by decide)).trans ((hx172.2.2.1 14 (by decide)).trans (hx1.2.2.1 14 (by decide))))))) _)) ?_
                    have hxx189 : fx [88, 89] [] [87] [] n z F G n_307 z_307 F_307 G_307 := (fx_tr (fx_tr (fx_tr (fx_tr (fx_tr (fx_tr fx_rf hx1 (by decide)) hx172 (by decide)) hx287 (by decide)) hx301 (by decide)) hx306 (by decide)) hx307 (by decide))
                    refine scX12_558 (k_X12_sums (x1 := x1) (x2 := ((F 13) (Int32.toNatClampNeg x1))) (x3 := ((F 14) (Int32.toNatClampNeg x1))) hS_307 (rAll_w (fun k hk => hxx189.2.2.1 k ((by decide : ∀ k : Nat, k ∈ wK → k ∉ ([87] : List Nat)) k hk)) bA) (by omega) (by omega) (by (try rw [(show n_307 88 = (n_307 88) from rfl)]); omega)) hS_307.1 ⟨(Nat.le_of_ble_eq_true rfl), (Nat.le_of_ble_eq_true rfl)⟩ ⟨(Nat.le_of_ble_eq_true rfl), (Nat.le_of_ble_eq_true rfl)⟩ rfl rfl (Nat.le_of_ble_eq_true rfl) dX12_tells_189 ?_
                    rintro f_308 ⟨n_308, z_308, F_308, G_308, hS_308, hx308, h8a_308, h8b_308⟩
                    refine gz_aload_n dX12_tells_192 rfl rfl ?_
                    refine gz_bipush (v := 58) dX12_tells_193 (by decide) ?_
                    refine scX12_547 (k_X12_signs (x1 := 58) hS_308 (by (try rw [(show n_308 88 = (n_308 88) from rfl)]); omega)) hS_308.1 ⟨(Nat.le_of_ble_eq_true rfl), (Nat.le_of_ble_eq_true rfl)⟩ ⟨(Nat.le_of_ble_eq_true rfl), (Nat.le_of_ble_eq_true rfl)⟩ rfl rfl (Nat.le_of_ble_eq_true rfl) dX12_tells_195 ?_
                    rintro f_309 ⟨n_309, z_309, F_309, G_309, hS_309, hx309, h8_309⟩
                    exact gz_vret rfl dX12_tells_198 (Nat.le_of_ble_eq_true rfl) (Nat.le_of_ble_eq_true rfl) (⟨rfl, _, _, _, _, hS_309, (fx_tr (fx_tr (fx_tr (fx_tr (fx_tr (fx_tr (fx_tr (fx_tr fx_rf hx1 (by decide)) hx172 (by decide)) hx287 (by decide)) hx301 (by decide)) hx306 (by decide)) hx307 (by decide)) hx308 (by decide)) hx309 (by decide)), (by (try rw [(show n_309 88 = (n_309 88) from rfl)]); omega), (by (try rw [(show n_309 88 = (n_309 88) from rfl)]); omega), (by (try rw [(show n_309 88 = (n_309 88) from rfl)]); omega)⟩)
                ·
                  try simp only [mIn_0, lgc_lt, lgc_gt, lgc_le, lgc_ge, lgc_eq] at c_132
                  try simp only [fl_lt, fl_le, fl_eq, fL_w, fL_lt, fL_le, tm1, tm10k, tm9, tm99, Int32.reduceToInt, Int64.reduceToInt, Int.not_lt, Int.not_le] at c_132
                  refine gz_aload_n dX12_tells_135 rfl rfl ?_
                  refine gz_bipush (v := 61) dX12_tells_136 (by decide) ?_
                  refine scX12_547 (k_X12_signs (x1 := 61) hS_301 (by (try rw [(show n_301 88 = (n_301 88) from rfl)]); omega)) hS_301.1 ⟨(Nat.le_of_ble_eq_true rfl), (Nat.le_of_ble_eq_true rfl)⟩ ⟨(Nat.le_of_ble_eq_true rfl), (Nat.le_of_ble_eq_true rfl)⟩ rfl rfl (Nat.le_of_ble_eq_true rfl) dX12_tells_138 ?_
                  rintro f_310 ⟨n_310, z_310, F_310, G_310, hS_310, hx310, h8_310⟩
                  refine gz_aload_n dX12_tells_141 rfl rfl ?_
                  refine gz_iload_n dX12_tells_142 rfl rfl ?_
                  refine gz_aload_n dX12_tells_143 rfl rfl ?_
                  refine mg_41 hS_310 dX12_tells_144 ?_
                  refine gz_iload_n dX12_tells_147 rfl rfl ?_
                  refine m_iald 14 hS_310 rfl (N := 880) rfl ((by exact vin_T (rfl : (x1).toInt = (x1).toInt) (by omega) (by omega))) dX12_tells_148 ?_
                  refine gz_ev (w := .int ((F 14) (Int32.toNatClampNeg x1))) (congrArg Value.int (congrFun ((hx310.2.2.1 14 (by decide)).trans ((hx301.2.2.1 14 (by decide)).trans ((hx287.2.2.1 14 (by decide)).trans ((hx172.2.2.1 14 (by decide)).trans (hx1.2.2.1 14 (by decide)))))) _)) ?_
                  refine gz_aload_n dX12_tells_149 rfl rfl ?_
                  refine mg_44 hS_310 dX12_tells_150 ?_
                  refine gz_iload_n dX12_tells_153 rfl rfl ?_
                  refine m_iald 15 hS_310 rfl (N := 880) rfl ((by exact vin_T (rfl : (x1).toInt = (x1).toInt) (by omega) (by omega))) dX12_tells_154 ?_
                  refine gz_ev (w := .int ((F 15) (Int32.toNatClampNeg x1))) (congrArg Value.int (congrFun ((hx310.2.2.1 15 (by decide)).trans ((hx301.2.2.1 15 (by decide)).trans ((hx287.2.2.1 15 (by decide)).trans ((hx172.2.2.1 15 (by decide)).trans (hx1.2.2.1 15 (by decide)))))) _)) ?_
                  have hxx155 : fx [88, 89] [] [87] [] n z F G n_310 z_310 F_310 G_310 := (fx_tr (fx_tr (fx_tr (fx_tr (fx_tr fx_rf hx1 (by decide)) hx172 (by decide)) hx287 (by decide)) hx301 (by decide)) hx310 (by decide))
                  refine scX12_558 (k_X12_sums (x1 := x1) (x2 := ((F 14) (Int32.toNatClampNeg x1))) (x3 := ((F 15) (Int32.toNatClampNeg x1))) hS_310 (rAll_w (fun k hk => hxx155.2.2.1 k ((by decide : ∀ k : Nat, k ∈ wK → k ∉ ([87] : List Nat)) k hk)) bA) (by omega) (by omega) (by (try rw [(show n_310 88 = (n_310 88) from rfl)]); omega)) hS_310.1 ⟨(Nat.le_of_ble_eq_true rfl), (Nat.le_of_ble_eq_true rfl)⟩ ⟨(Nat.le_of_ble_eq_true rfl), (Nat.le_of_ble_eq_true rfl)⟩ rfl rfl (Nat.le_of_ble_eq_true rfl) dX12_tells_155 ?_
                  rintro f_311 ⟨n_311, z_311, F_311, G_311, hS_311, hx311, h8a_311, h8b_311⟩
                  refine gz_aload_n dX12_tells_158 rfl rfl ?_
                  refine gz_bipush (v := 58) dX12_tells_159 (by decide) ?_
                  refine scX12_547 (k_X12_signs (x1 := 58) hS_311 (by (try rw [(show n_311 88 = (n_311 88) from rfl)]); omega)) hS_311.1 ⟨(Nat.le_of_ble_eq_true rfl), (Nat.le_of_ble_eq_true rfl)⟩ ⟨(Nat.le_of_ble_eq_true rfl), (Nat.le_of_ble_eq_true rfl)⟩ rfl rfl (Nat.le_of_ble_eq_true rfl) dX12_tells_161 ?_
                  rintro f_312 ⟨n_312, z_312, F_312, G_312, hS_312, hx312, h8_312⟩
                  refine gz_aload_n dX12_tells_164 rfl rfl ?_
                  refine mg_20 hS_312 dX12_tells_165 ?_
                  refine gz_iload_n dX12_tells_168 rfl rfl ?_
                  refine m_iald 7 hS_312 rfl (N := 880) rfl ((by exact vin_T (rfl : (x1).toInt = (x1).toInt) (by omega) (by omega))) dX12_tells_169 ?_
                  refine gz_ev (w := .int ((F 7) (Int32.toNatClampNeg x1))) (congrArg Value.int (congrFun ((hx312.2.2.1 7 (by decide)).trans ((hx311.2.2.1 7 (by decide)).trans ((hx310.2.2.1 7 (by decide)).trans ((hx301.2.2.1 7 (by decide)).trans ((hx287.2.2.1 7 (by decide)).trans ((hx172.2.2.1 7 (by decide)).trans (hx1.2.2.1 7 (by decide)))))))) _)) ?_
                  refine gz_bipush (v := 9) dX12_tells_170 (by decide) ?_
                  refine gz_icmp_ne (tgt := 198) dX12_tells_172 (by decide) (fun c_172 => ?_) (fun c_172 => ?_)
                  ·
                    try simp only [mIn_0, lgc_lt, lgc_gt, lgc_le, lgc_ge, lgc_eq] at c_172
                    try simp only [fl_lt, fl_le, fl_eq, fL_w, fL_lt, fL_le, tm1, tm10k, tm9, tm99, Int32.reduceToInt, Int64.reduceToInt, Int.not_lt, Int.not_le] at c_172
                    exact gz_vret rfl dX12_tells_198 (Nat.le_of_ble_eq_true rfl) (Nat.le_of_ble_eq_true rfl) (⟨rfl, _, _, _, _, hS_312, (fx_tr (fx_tr (fx_tr (fx_tr (fx_tr (fx_tr (fx_tr fx_rf hx1 (by decide)) hx172 (by decide)) hx287 (by decide)) hx301 (by decide)) hx310 (by decide)) hx311 (by decide)) hx312 (by decide)), (by (try rw [(show n_312 88 = (n_312 88) from rfl)]); omega), (by (try rw [(show n_312 88 = (n_312 88) from rfl)]); omega), (by (try rw [(show n_312 88 = (n_312 88) from rfl)]); omega)⟩)
                  ·
                    try simp only [mIn_0, lgc_lt, lgc_gt, lgc_le, lgc_ge, lgc_eq] at c_172
                    try simp only [fl_lt, fl_le, fl_eq, fL_w, fL_lt, fL_le, tm1, tm10k, tm9, tm99, Int32.reduceToInt, Int64.reduceToInt, Int.not_lt, Int.not_le] at c_172
                    refine gz_aload_n dX12_tells_175 rfl rfl ?_
                    refine gz_iload_n dX12_tells_176 rfl rfl ?_
                    refine gz_aload_n dX12_tells_177 rfl rfl ?_
                    refine mg_38 hS_312 dX12_tells_178 ?_
                    refine gz_iload_n dX12_tells_181 rfl rfl ?_
                    refine m_iald 13 hS_312 rfl (N := 880) rfl ((by exact vin_T (rfl : (x1).toInt = (x1).toInt) (by omega) (by omega))) dX12_tells_182 ?_
                    refine gz_ev (w := .int ((F 13) (Int32.toNatClampNeg x1))) (congrArg Value.int (congrFun ((hx312.2.2.1 13 (by decide)).trans ((hx311.2.2.1 13 (by decide)).trans ((hx310.2.2.1 13 (by decide)).trans ((hx301.2.2.1 13 (by decide)).trans ((hx287.2.2.1 13 (by decide)).trans ((hx172.2.2.1 13 (by decide)).trans (hx1.2.2.1 13 (by decide)))))))) _)) ?_
                    refine gz_aload_n dX12_tells_183 rfl rfl ?_
                    refine mg_41 hS_312 dX12_tells_184 ?_
                    refine gz_iload_n dX12_tells_187 rfl rfl ?_
                    refine m_iald 14 hS_312 rfl (N := 880) rfl ((by exact vin_T (rfl : (x1).toInt = (x1).toInt) (by omega) (by omega))) dX12_tells_188 ?_
                    refine gz_ev (w := .int ((F 14) (Int32.toNatClampNeg x1))) (congrArg Value.int (congrFun ((hx312.2.2.1 14 (by decide)).trans ((hx311.2.2.1 14 (by decide)).trans ((hx310.2.2.1 14 (by decide)).trans ((hx301.2.2.1 14 (by decide)).trans ((hx287.2.2.1 14 (by decide)).trans ((hx172.2.2.1 14 (by decide)).trans (hx1.2.2.1 14 (by decide)))))))) _)) ?_
                    have hxx189 : fx [88, 89] [] [87] [] n z F G n_312 z_312 F_312 G_312 := (fx_tr (fx_tr (fx_tr (fx_tr (fx_tr (fx_tr (fx_tr fx_rf hx1 (by decide)) hx172 (by decide)) hx287 (by decide)) hx301 (by decide)) hx310 (by decide)) hx311 (by decide)) hx312 (by decide))
                    refine scX12_558 (k_X12_sums (x1 := x1) (x2 := ((F 13) (Int32.toNatClampNeg x1))) (x3 := ((F 14) (Int32.toNatClampNeg x1))) hS_312 (rAll_w (fun k hk => hxx189.2.2.1 k ((by decide : ∀ k : Nat, k ∈ wK → k ∉ ([87] : List Nat)) k hk)) bA) (by omega) (by omega) (by (try rw [(show n_312 88 = (n_312 88) from rfl)]); omega)) hS_312.1 ⟨(Nat.le_of_ble_eq_true rfl), (Nat.le_of_ble_eq_true rfl)⟩ ⟨(Nat.le_of_ble_eq_true rfl), (Nat.le_of_ble_eq_true rfl)⟩ rfl rfl (Nat.le_of_ble_eq_true rfl) dX12_tells_189 ?_
                    rintro f_313 ⟨n_313, z_313, F_313, G_313, hS_313, hx313, h8a_313, h8b_313⟩
                    refine gz_aload_n dX12_tells_192 rfl rfl ?_
                    refine gz_bipush (v := 58) dX12_tells_193 (by decide) ?_
                    refine scX12_547 (k_X12_signs (x1 := 58) hS_313 (by (try rw [(show n_313 88 = (n_313 88) from rfl)]); omega)) hS_313.1 ⟨(Nat.le_of_ble_eq_true rfl), (Nat.le_of_ble_eq_true rfl)⟩ ⟨(Nat.le_of_ble_eq_true rfl), (Nat.le_of_ble_eq_true rfl)⟩ rfl rfl (Nat.le_of_ble_eq_true rfl) dX12_tells_195 ?_
                    rintro f_314 ⟨n_314, z_314, F_314, G_314, hS_314, hx314, h8_314⟩
                    exact gz_vret rfl dX12_tells_198 (Nat.le_of_ble_eq_true rfl) (Nat.le_of_ble_eq_true rfl) (⟨rfl, _, _, _, _, hS_314, (fx_tr (fx_tr (fx_tr (fx_tr (fx_tr (fx_tr (fx_tr (fx_tr (fx_tr fx_rf hx1 (by decide)) hx172 (by decide)) hx287 (by decide)) hx301 (by decide)) hx310 (by decide)) hx311 (by decide)) hx312 (by decide)) hx313 (by decide)) hx314 (by decide)), (by (try rw [(show n_314 88 = (n_314 88) from rfl)]); omega), (by (try rw [(show n_314 88 = (n_314 88) from rfl)]); omega), (by (try rw [(show n_314 88 = (n_314 88) from rfl)]); omega)⟩)
          ·
            try simp only [mIn_0, lgc_lt, lgc_gt, lgc_le, lgc_ge, lgc_eq] at c_91
            try simp only [fl_lt, fl_le, fl_eq, fL_w, fL_lt, fL_le, tm1, tm10k, tm9, tm99, Int32.reduceToInt, Int64.reduceToInt, Int.not_lt, Int.not_le] at c_91
            refine gz_aload_n dX12_tells_94 rfl rfl ?_
            refine gz_bipush (v := 60) dX12_tells_95 (by decide) ?_
            refine scX12_547 (k_X12_signs (x1 := 60) hS_287 (by (try rw [(show n_287 88 = (n_287 88) from rfl)]); omega)) hS_287.1 ⟨(Nat.le_of_ble_eq_true rfl), (Nat.le_of_ble_eq_true rfl)⟩ ⟨(Nat.le_of_ble_eq_true rfl), (Nat.le_of_ble_eq_true rfl)⟩ rfl rfl (Nat.le_of_ble_eq_true rfl) dX12_tells_97 ?_
            rintro f_315 ⟨n_315, z_315, F_315, G_315, hS_315, hx315, h8_315⟩
            refine gz_aload_n dX12_tells_100 rfl rfl ?_
            refine mg_47 hS_315 dX12_tells_101 ?_
            refine gz_iload_n dX12_tells_104 rfl rfl ?_
            refine m_iald 16 hS_315 rfl (N := 880) rfl ((by exact vin_T (rfl : (x1).toInt = (x1).toInt) (by omega) (by omega))) dX12_tells_105 ?_
            refine gz_ev (w := .int ((F 16) (Int32.toNatClampNeg x1))) (congrArg Value.int (congrFun ((hx315.2.2.1 16 (by decide)).trans ((hx287.2.2.1 16 (by decide)).trans ((hx172.2.2.1 16 (by decide)).trans (hx1.2.2.1 16 (by decide))))) _)) ?_
            refine gz_iconst (v := 2) dX12_tells_106 (by decide) ?_
            refine gz_icmp_le (tgt := 116) dX12_tells_107 (by decide) (fun c_107 => ?_) (fun c_107 => ?_)
            ·
              try simp only [mIn_0, lgc_lt, lgc_gt, lgc_le, lgc_ge, lgc_eq] at c_107
              try simp only [fl_lt, fl_le, fl_eq, fL_w, fL_lt, fL_le, tm1, tm10k, tm9, tm99, Int32.reduceToInt, Int64.reduceToInt, Int.not_lt, Int.not_le] at c_107
              refine gz_aload_n dX12_tells_116 rfl rfl ?_
              refine mg_47 hS_315 dX12_tells_117 ?_
              refine gz_iload_n dX12_tells_120 rfl rfl ?_
              refine m_iald 16 hS_315 rfl (N := 880) rfl ((by exact vin_T (rfl : (x1).toInt = (x1).toInt) (by omega) (by omega))) dX12_tells_121 ?_
              refine gz_ev (w := .int ((F 16) (Int32.toNatClampNeg x1))) (congrArg Value.int (congrFun ((hx315.2.2.1 16 (by decide)).trans ((hx287.2.2.1 16 (by decide)).trans ((hx172.2.2.1 16 (by decide)).trans (hx1.2.2.1 16 (by decide))))) _)) ?_
              refine gz_if_le (tgt := 141) dX12_tells_122 (by decide) (fun c_122 => ?_) (fun c_122 => ?_)
              ·
                try simp only [mIn_0, lgc_lt, lgc_gt, lgc_le, lgc_ge, lgc_eq] at c_122
                try simp only [fl_lt, fl_le, fl_eq, fL_w, fL_lt, fL_le, tm1, tm10k, tm9, tm99, Int32.reduceToInt, Int64.reduceToInt, Int.not_lt, Int.not_le] at c_122
                refine gz_aload_n dX12_tells_141 rfl rfl ?_
                refine gz_iload_n dX12_tells_142 rfl rfl ?_
                refine gz_aload_n dX12_tells_143 rfl rfl ?_
                refine mg_41 hS_315 dX12_tells_144 ?_
                refine gz_iload_n dX12_tells_147 rfl rfl ?_
                refine m_iald 14 hS_315 rfl (N := 880) rfl ((by exact vin_T (rfl : (x1).toInt = (x1).toInt) (by omega) (by omega))) dX12_tells_148 ?_
                refine gz_ev (w := .int ((F 14) (Int32.toNatClampNeg x1))) (congrArg Value.int (congrFun ((hx315.2.2.1 14 (by decide)).trans ((hx287.2.2.1 14 (by decide)).trans ((hx172.2.2.1 14 (by decide)).trans (hx1.2.2.1 14 (by decide))))) _)) ?_
                refine gz_aload_n dX12_tells_149 rfl rfl ?_
                refine mg_44 hS_315 dX12_tells_150 ?_
                refine gz_iload_n dX12_tells_153 rfl rfl ?_
                refine m_iald 15 hS_315 rfl (N := 880) rfl ((by exact vin_T (rfl : (x1).toInt = (x1).toInt) (by omega) (by omega))) dX12_tells_154 ?_
                refine gz_ev (w := .int ((F 15) (Int32.toNatClampNeg x1))) (congrArg Value.int (congrFun ((hx315.2.2.1 15 (by decide)).trans ((hx287.2.2.1 15 (by decide)).trans ((hx172.2.2.1 15 (by decide)).trans (hx1.2.2.1 15 (by decide))))) _)) ?_
                have hxx155 : fx [88, 89] [] [87] [] n z F G n_315 z_315 F_315 G_315 := (fx_tr (fx_tr (fx_tr (fx_tr fx_rf hx1 (by decide)) hx172 (by decide)) hx287 (by decide)) hx315 (by decide))
                refine scX12_558 (k_X12_sums (x1 := x1) (x2 := ((F 14) (Int32.toNatClampNeg x1))) (x3 := ((F 15) (Int32.toNatClampNeg x1))) hS_315 (rAll_w (fun k hk => hxx155.2.2.1 k ((by decide : ∀ k : Nat, k ∈ wK → k ∉ ([87] : List Nat)) k hk)) bA) (by omega) (by omega) (by (try rw [(show n_315 88 = (n_315 88) from rfl)]); omega)) hS_315.1 ⟨(Nat.le_of_ble_eq_true rfl), (Nat.le_of_ble_eq_true rfl)⟩ ⟨(Nat.le_of_ble_eq_true rfl), (Nat.le_of_ble_eq_true rfl)⟩ rfl rfl (Nat.le_of_ble_eq_true rfl) dX12_tells_155 ?_
                rintro f_316 ⟨n_316, z_316, F_316, G_316, hS_316, hx316, h8a_316, h8b_316⟩
                refine gz_aload_n dX12_tells_158 rfl rfl ?_
                refine gz_bipush (v := 58) dX12_tells_159 (by decide) ?_
                refine scX12_547 (k_X12_signs (x1 := 58) hS_316 (by (try rw [(show n_316 88 = (n_316 88) from rfl)]); omega)) hS_316.1 ⟨(Nat.le_of_ble_eq_true rfl), (Nat.le_of_ble_eq_true rfl)⟩ ⟨(Nat.le_of_ble_eq_true rfl), (Nat.le_of_ble_eq_true rfl)⟩ rfl rfl (Nat.le_of_ble_eq_true rfl) dX12_tells_161 ?_
                rintro f_317 ⟨n_317, z_317, F_317, G_317, hS_317, hx317, h8_317⟩
                refine gz_aload_n dX12_tells_164 rfl rfl ?_
                refine mg_20 hS_317 dX12_tells_165 ?_
                refine gz_iload_n dX12_tells_168 rfl rfl ?_
                refine m_iald 7 hS_317 rfl (N := 880) rfl ((by exact vin_T (rfl : (x1).toInt = (x1).toInt) (by omega) (by omega))) dX12_tells_169 ?_
                refine gz_ev (w := .int ((F 7) (Int32.toNatClampNeg x1))) (congrArg Value.int (congrFun ((hx317.2.2.1 7 (by decide)).trans ((hx316.2.2.1 7 (by decide)).trans ((hx315.2.2.1 7 (by decide)).trans ((hx287.2.2.1 7 (by decide)).trans ((hx172.2.2.1 7 (by decide)).trans (hx1.2.2.1 7 (by decide))))))) _)) ?_
                refine gz_bipush (v := 9) dX12_tells_170 (by decide) ?_
                refine gz_icmp_ne (tgt := 198) dX12_tells_172 (by decide) (fun c_172 => ?_) (fun c_172 => ?_)
                ·
                  try simp only [mIn_0, lgc_lt, lgc_gt, lgc_le, lgc_ge, lgc_eq] at c_172
                  try simp only [fl_lt, fl_le, fl_eq, fL_w, fL_lt, fL_le, tm1, tm10k, tm9, tm99, Int32.reduceToInt, Int64.reduceToInt, Int.not_lt, Int.not_le] at c_172
                  exact gz_vret rfl dX12_tells_198 (Nat.le_of_ble_eq_true rfl) (Nat.le_of_ble_eq_true rfl) (⟨rfl, _, _, _, _, hS_317, (fx_tr (fx_tr (fx_tr (fx_tr (fx_tr (fx_tr fx_rf hx1 (by decide)) hx172 (by decide)) hx287 (by decide)) hx315 (by decide)) hx316 (by decide)) hx317 (by decide)), (by (try rw [(show n_317 88 = (n_317 88) from rfl)]); omega), (by (try rw [(show n_317 88 = (n_317 88) from rfl)]); omega), (by (try rw [(show n_317 88 = (n_317 88) from rfl)]); omega)⟩)
                ·
                  try simp only [mIn_0, lgc_lt, lgc_gt, lgc_le, lgc_ge, lgc_eq] at c_172
                  try simp only [fl_lt, fl_le, fl_eq, fL_w, fL_lt, fL_le, tm1, tm10k, tm9, tm99, Int32.reduceToInt, Int64.reduceToInt, Int.not_lt, Int.not_le] at c_172
                  refine gz_aload_n dX12_tells_175 rfl rfl ?_
                  refine gz_iload_n dX12_tells_176 rfl rfl ?_
                  refine gz_aload_n dX12_tells_177 rfl rfl ?_
                  refine mg_38 hS_317 dX12_tells_178 ?_
                  refine gz_iload_n dX12_tells_181 rfl rfl ?_
                  refine m_iald 13 hS_317 rfl (N := 880) rfl ((by exact vin_T (rfl : (x1).toInt = (x1).toInt) (by omega) (by omega))) dX12_tells_182 ?_
                  refine gz_ev (w := .int ((F 13) (Int32.toNatClampNeg x1))) (congrArg Value.int (congrFun ((hx317.2.2.1 13 (by decide)).trans ((hx316.2.2.1 13 (by decide)).trans ((hx315.2.2.1 13 (by decide)).trans ((hx287.2.2.1 13 (by decide)).trans ((hx172.2.2.1 13 (by decide)).trans (hx1.2.2.1 13 (by decide))))))) _)) ?_
                  refine gz_aload_n dX12_tells_183 rfl rfl ?_
                  refine mg_41 hS_317 dX12_tells_184 ?_
                  refine gz_iload_n dX12_tells_187 rfl rfl ?_
                  refine m_iald 14 hS_317 rfl (N := 880) rfl ((by exact vin_T (rfl : (x1).toInt = (x1).toInt) (by omega) (by omega))) dX12_tells_188 ?_
                  refine gz_ev (w := .int ((F 14) (Int32.toNatClampNeg x1))) (congrArg Value.int (congrFun ((hx317.2.2.1 14 (by decide)).trans ((hx316.2.2.1 14 (by decide)).trans ((hx315.2.2.1 14 (by decide)).trans ((hx287.2.2.1 14 (by decide)).trans ((hx172.2.2.1 14 (by decide)).trans (hx1.2.2.1 14 (by decide))))))) _)) ?_
                  have hxx189 : fx [88, 89] [] [87] [] n z F G n_317 z_317 F_317 G_317 := (fx_tr (fx_tr (fx_tr (fx_tr (fx_tr (fx_tr fx_rf hx1 (by decide)) hx172 (by decide)) hx287 (by decide)) hx315 (by decide)) hx316 (by decide)) hx317 (by decide))
                  refine scX12_558 (k_X12_sums (x1 := x1) (x2 := ((F 13) (Int32.toNatClampNeg x1))) (x3 := ((F 14) (Int32.toNatClampNeg x1))) hS_317 (rAll_w (fun k hk => hxx189.2.2.1 k ((by decide : ∀ k : Nat, k ∈ wK → k ∉ ([87] : List Nat)) k hk)) bA) (by omega) (by omega) (by (try rw [(show n_317 88 = (n_317 88) from rfl)]); omega)) hS_317.1 ⟨(Nat.le_of_ble_eq_true rfl), (Nat.le_of_ble_eq_true rfl)⟩ ⟨(Nat.le_of_ble_eq_true rfl), (Nat.le_of_ble_eq_true rfl)⟩ rfl rfl (Nat.le_of_ble_eq_true rfl) dX12_tells_189 ?_
                  rintro f_318 ⟨n_318, z_318, F_318, G_318, hS_318, hx318, h8a_318, h8b_318⟩
                  refine gz_aload_n dX12_tells_192 rfl rfl ?_
                  refine gz_bipush (v := 58) dX12_tells_193 (by decide) ?_
                  refine scX12_547 (k_X12_signs (x1 := 58) hS_318 (by (try rw [(show n_318 88 = (n_318 88) from rfl)]); omega)) hS_318.1 ⟨(Nat.le_of_ble_eq_true rfl), (Nat.le_of_ble_eq_true rfl)⟩ ⟨(Nat.le_of_ble_eq_true rfl), (Nat.le_of_ble_eq_true rfl)⟩ rfl rfl (Nat.le_of_ble_eq_true rfl) dX12_tells_195 ?_
                  rintro f_319 ⟨n_319, z_319, F_319, G_319, hS_319, hx319, h8_319⟩
                  exact gz_vret rfl dX12_tells_198 (Nat.le_of_ble_eq_true rfl) (Nat.le_of_ble_eq_true rfl) (⟨rfl, _, _, _, _, hS_319, (fx_tr (fx_tr (fx_tr (fx_tr (fx_tr (fx_tr (fx_tr (fx_tr fx_rf hx1 (by decide)) hx172 (by decide)) hx287 (by decide)) hx315 (by decide)) hx316 (by decide)) hx317 (by decide)) hx318 (by decide)) hx319 (by decide)), (by (try rw [(show n_319 88 = (n_319 88) from rfl)]); omega), (by (try rw [(show n_319 88 = (n_319 88) from rfl)]); omega), (by (try rw [(show n_319 88 = (n_319 88) from rfl)]); omega)⟩)
              ·
                try simp only [mIn_0, lgc_lt, lgc_gt, lgc_le, lgc_ge, lgc_eq] at c_122
                try simp only [fl_lt, fl_le, fl_eq, fL_w, fL_lt, fL_le, tm1, tm10k, tm9, tm99, Int32.reduceToInt, Int64.reduceToInt, Int.not_lt, Int.not_le] at c_122
                refine gz_aload_n dX12_tells_125 rfl rfl ?_
                refine mg_47 hS_315 dX12_tells_126 ?_
                refine gz_iload_n dX12_tells_129 rfl rfl ?_
                refine m_iald 16 hS_315 rfl (N := 880) rfl ((by exact vin_T (rfl : (x1).toInt = (x1).toInt) (by omega) (by omega))) dX12_tells_130 ?_
                refine gz_ev (w := .int ((F 16) (Int32.toNatClampNeg x1))) (congrArg Value.int (congrFun ((hx315.2.2.1 16 (by decide)).trans ((hx287.2.2.1 16 (by decide)).trans ((hx172.2.2.1 16 (by decide)).trans (hx1.2.2.1 16 (by decide))))) _)) ?_
                refine gz_iconst (v := 4) dX12_tells_131 (by decide) ?_
                refine gz_icmp_ge (tgt := 141) dX12_tells_132 (by decide) (fun c_132 => ?_) (fun c_132 => ?_)
                ·
                  try simp only [mIn_0, lgc_lt, lgc_gt, lgc_le, lgc_ge, lgc_eq] at c_132
                  try simp only [fl_lt, fl_le, fl_eq, fL_w, fL_lt, fL_le, tm1, tm10k, tm9, tm99, Int32.reduceToInt, Int64.reduceToInt, Int.not_lt, Int.not_le] at c_132
                  refine gz_aload_n dX12_tells_141 rfl rfl ?_
                  refine gz_iload_n dX12_tells_142 rfl rfl ?_
                  refine gz_aload_n dX12_tells_143 rfl rfl ?_
                  refine mg_41 hS_315 dX12_tells_144 ?_
                  refine gz_iload_n dX12_tells_147 rfl rfl ?_
                  refine m_iald 14 hS_315 rfl (N := 880) rfl ((by exact vin_T (rfl : (x1).toInt = (x1).toInt) (by omega) (by omega))) dX12_tells_148 ?_
                  refine gz_ev (w := .int ((F 14) (Int32.toNatClampNeg x1))) (congrArg Value.int (congrFun ((hx315.2.2.1 14 (by decide)).trans ((hx287.2.2.1 14 (by decide)).trans ((hx172.2.2.1 14 (by decide)).trans (hx1.2.2.1 14 (by decide))))) _)) ?_
                  refine gz_aload_n dX12_tells_149 rfl rfl ?_
                  refine mg_44 hS_315 dX12_tells_150 ?_
                  refine gz_iload_n dX12_tells_153 rfl rfl ?_
                  refine m_iald 15 hS_315 rfl (N := 880) rfl ((by exact vin_T (rfl : (x1).toInt = (x1).toInt) (by omega) (by omega))) dX12_tells_154 ?_
                  refine gz_ev (w := .int ((F 15) (Int32.toNatClampNeg x1))) (congrArg Value.int (congrFun ((hx315.2.2.1 15 (by decide)).trans ((hx287.2.2.1 15 (by decide)).trans ((hx172.2.2.1 15 (by decide)).trans (hx1.2.2.1 15 (by decide))))) _)) ?_
                  have hxx155 : fx [88, 89] [] [87] [] n z F G n_315 z_315 F_315 G_315 := (fx_tr (fx_tr (fx_tr (fx_tr fx_rf hx1 (by decide)) hx172 (by decide)) hx287 (by decide)) hx315 (by decide))
                  refine scX12_558 (k_X12_sums (x1 := x1) (x2 := ((F 14) (Int32.toNatClampNeg x1))) (x3 := ((F 15) (Int32.toNatClampNeg x1))) hS_315 (rAll_w (fun k hk => hxx155.2.2.1 k ((by decide : ∀ k : Nat, k ∈ wK → k ∉ ([87] : List Nat)) k hk)) bA) (by omega) (by omega) (by (try rw [(show n_315 88 = (n_315 88) from rfl)]); omega)) hS_315.1 ⟨(Nat.le_of_ble_eq_true rfl), (Nat.le_of_ble_eq_true rfl)⟩ ⟨(Nat.le_of_ble_eq_true rfl), (Nat.le_of_ble_eq_true rfl)⟩ rfl rfl (Nat.le_of_ble_eq_true rfl) dX12_tells_155 ?_
                  rintro f_320 ⟨n_320, z_320, F_320, G_320, hS_320, hx320, h8a_320, h8b_320⟩
                  refine gz_aload_n dX12_tells_158 rfl rfl ?_
                  refine gz_bipush (v := 58) dX12_tells_159 (by decide) ?_
                  refine scX12_547 (k_X12_signs (x1 := 58) hS_320 (by (try rw [(show n_320 88 = (n_320 88) from rfl)]); omega)) hS_320.1 ⟨(Nat.le_of_ble_eq_true rfl), (Nat.le_of_ble_eq_true rfl)⟩ ⟨(Nat.le_of_ble_eq_true rfl), (Nat.le_of_ble_eq_true rfl)⟩ rfl rfl (Nat.le_of_ble_eq_true rfl) dX12_tells_161 ?_
                  rintro f_321 ⟨n_321, z_321, F_321, G_321, hS_321, hx321, h8_321⟩
                  refine gz_aload_n dX12_tells_164 rfl rfl ?_
                  refine mg_20 hS_321 dX12_tells_165 ?_
                  refine gz_iload_n dX12_tells_168 rfl rfl ?_
                  refine m_iald 7 hS_321 rfl (N := 880) rfl ((by exact vin_T (rfl : (x1).toInt = (x1).toInt) (by omega) (by omega))) dX12_tells_169 ?_
                  refine gz_ev (w := .int ((F 7) (Int32.toNatClampNeg x1))) (congrArg Value.int (congrFun ((hx321.2.2.1 7 (by decide)).trans ((hx320.2.2.1 7 (by decide)).trans ((hx315.2.2.1 7 (by decide)).trans ((hx287.2.2.1 7 (by decide)).trans ((hx172.2.2.1 7 (by decide)).trans (hx1.2.2.1 7 (by decide))))))) _)) ?_
                  refine gz_bipush (v := 9) dX12_tells_170 (by decide) ?_
                  refine gz_icmp_ne (tgt := 198) dX12_tells_172 (by decide) (fun c_172 => ?_) (fun c_172 => ?_)
                  ·
                    try simp only [mIn_0, lgc_lt, lgc_gt, lgc_le, lgc_ge, lgc_eq] at c_172
                    try simp only [fl_lt, fl_le, fl_eq, fL_w, fL_lt, fL_le, tm1, tm10k, tm9, tm99, Int32.reduceToInt, Int64.reduceToInt, Int.not_lt, Int.not_le] at c_172
                    exact gz_vret rfl dX12_tells_198 (Nat.le_of_ble_eq_true rfl) (Nat.le_of_ble_eq_true rfl) (⟨rfl, _, _, _, _, hS_321, (fx_tr (fx_tr (fx_tr (fx_tr (fx_tr (fx_tr fx_rf hx1 (by decide)) hx172 (by decide)) hx287 (by decide)) hx315 (by decide)) hx320 (by decide)) hx321 (by decide)), (by (try rw [(show n_321 88 = (n_321 88) from rfl)]); omega), (by (try rw [(show n_321 88 = (n_321 88) from rfl)]); omega), (by (try rw [(show n_321 88 = (n_321 88) from rfl)]); omega)⟩)
                  ·
                    try simp only [mIn_0, lgc_lt, lgc_gt, lgc_le, lgc_ge, lgc_eq] at c_172
                    try simp only [fl_lt, fl_le, fl_eq, fL_w, fL_lt, fL_le, tm1, tm10k, tm9, tm99, Int32.reduceToInt, Int64.reduceToInt, Int.not_lt, Int.not_le] at c_172
                    refine gz_aload_n dX12_tells_175 rfl rfl ?_
                    refine gz_iload_n dX12_tells_176 rfl rfl ?_
                    refine gz_aload_n dX12_tells_177 rfl rfl ?_
                    refine mg_38 hS_321 dX12_tells_178 ?_
                    refine gz_iload_n dX12_tells_181 rfl rfl ?_
                    refine m_iald 13 hS_321 rfl (N := 880) rfl ((by exact vin_T (rfl : (x1).toInt = (x1).toInt) (by omega) (by omega))) dX12_tells_182 ?_
                    refine gz_ev (w := .int ((F 13) (Int32.toNatClampNeg x1))) (congrArg Value.int (congrFun ((hx321.2.2.1 13 (by decide)).trans ((hx320.2.2.1 13 (by decide)).trans ((hx315.2.2.1 13 (by decide)).trans ((hx287.2.2.1 13 (by decide)).trans ((hx172.2.2.1 13 (by decide)).trans (hx1.2.2.1 13 (by decide))))))) _)) ?_
                    refine gz_aload_n dX12_tells_183 rfl rfl ?_
                    refine mg_41 hS_321 dX12_tells_184 ?_
                    refine gz_iload_n dX12_tells_187 rfl rfl ?_
                    refine m_iald 14 hS_321 rfl (N := 880) rfl ((by exact vin_T (rfl : (x1).toInt = (x1).toInt) (by omega) (by omega))) dX12_tells_188 ?_
                    refine gz_ev (w := .int ((F 14) (Int32.toNatClampNeg x1))) (congrArg Value.int (congrFun ((hx321.2.2.1 14 (by decide)).trans ((hx320.2.2.1 14 (by decide)).trans ((hx315.2.2.1 14 (by decide)).trans ((hx287.2.2.1 14 (by decide)).trans ((hx172.2.2.1 14 (by decide)).trans (hx1.2.2.1 14 (by decide))))))) _)) ?_
                    have hxx189 : fx [88, 89] [] [87] [] n z F G n_321 z_321 F_321 G_321 := (fx_tr (fx_tr (fx_tr (fx_tr (fx_tr (fx_tr fx_rf hx1 (by decide)) hx172 (by decide)) hx287 (by decide)) hx315 (by decide)) hx320 (by decide)) hx321 (by decide))
                    refine scX12_558 (k_X12_sums (x1 := x1) (x2 := ((F 13) (Int32.toNatClampNeg x1))) (x3 := ((F 14) (Int32.toNatClampNeg x1))) hS_321 (rAll_w (fun k hk => hxx189.2.2.1 k ((by decide : ∀ k : Nat, k ∈ wK → k ∉ ([87] : List Nat)) k hk)) bA) (by omega) (by omega) (by (try rw [(show n_321 88 = (n_321 88) from rfl)]); omega)) hS_321.1 ⟨(Nat.le_of_ble_eq_true rfl), (Nat.le_of_ble_eq_true rfl)⟩ ⟨(Nat.le_of_ble_eq_true rfl), (Nat.le_of_ble_eq_true rfl)⟩ rfl rfl (Nat.le_of_ble_eq_true rfl) dX12_tells_189 ?_
                    rintro f_322 ⟨n_322, z_322, F_322, G_322, hS_322, hx322, h8a_322, h8b_322⟩
                    refine gz_aload_n dX12_tells_192 rfl rfl ?_
                    refine gz_bipush (v := 58) dX12_tells_193 (by decide) ?_
                    refine scX12_547 (k_X12_signs (x1 := 58) hS_322 (by (try rw [(show n_322 88 = (n_322 88) from rfl)]); omega)) hS_322.1 ⟨(Nat.le_of_ble_eq_true rfl), (Nat.le_of_ble_eq_true rfl)⟩ ⟨(Nat.le_of_ble_eq_true rfl), (Nat.le_of_ble_eq_true rfl)⟩ rfl rfl (Nat.le_of_ble_eq_true rfl) dX12_tells_195 ?_
                    rintro f_323 ⟨n_323, z_323, F_323, G_323, hS_323, hx323, h8_323⟩
                    exact gz_vret rfl dX12_tells_198 (Nat.le_of_ble_eq_true rfl) (Nat.le_of_ble_eq_true rfl) (⟨rfl, _, _, _, _, hS_323, (fx_tr (fx_tr (fx_tr (fx_tr (fx_tr (fx_tr (fx_tr (fx_tr fx_rf hx1 (by decide)) hx172 (by decide)) hx287 (by decide)) hx315 (by decide)) hx320 (by decide)) hx321 (by decide)) hx322 (by decide)) hx323 (by decide)), (by (try rw [(show n_323 88 = (n_323 88) from rfl)]); omega), (by (try rw [(show n_323 88 = (n_323 88) from rfl)]); omega), (by (try rw [(show n_323 88 = (n_323 88) from rfl)]); omega)⟩)
                ·
                  try simp only [mIn_0, lgc_lt, lgc_gt, lgc_le, lgc_ge, lgc_eq] at c_132
                  try simp only [fl_lt, fl_le, fl_eq, fL_w, fL_lt, fL_le, tm1, tm10k, tm9, tm99, Int32.reduceToInt, Int64.reduceToInt, Int.not_lt, Int.not_le] at c_132
                  refine gz_aload_n dX12_tells_135 rfl rfl ?_
                  refine gz_bipush (v := 61) dX12_tells_136 (by decide) ?_
                  refine scX12_547 (k_X12_signs (x1 := 61) hS_315 (by (try rw [(show n_315 88 = (n_315 88) from rfl)]); omega)) hS_315.1 ⟨(Nat.le_of_ble_eq_true rfl), (Nat.le_of_ble_eq_true rfl)⟩ ⟨(Nat.le_of_ble_eq_true rfl), (Nat.le_of_ble_eq_true rfl)⟩ rfl rfl (Nat.le_of_ble_eq_true rfl) dX12_tells_138 ?_
                  rintro f_324 ⟨n_324, z_324, F_324, G_324, hS_324, hx324, h8_324⟩
                  refine gz_aload_n dX12_tells_141 rfl rfl ?_
                  refine gz_iload_n dX12_tells_142 rfl rfl ?_
                  refine gz_aload_n dX12_tells_143 rfl rfl ?_
                  refine mg_41 hS_324 dX12_tells_144 ?_
                  refine gz_iload_n dX12_tells_147 rfl rfl ?_
                  refine m_iald 14 hS_324 rfl (N := 880) rfl ((by exact vin_T (rfl : (x1).toInt = (x1).toInt) (by omega) (by omega))) dX12_tells_148 ?_
                  refine gz_ev (w := .int ((F 14) (Int32.toNatClampNeg x1))) (congrArg Value.int (congrFun ((hx324.2.2.1 14 (by decide)).trans ((hx315.2.2.1 14 (by decide)).trans ((hx287.2.2.1 14 (by decide)).trans ((hx172.2.2.1 14 (by decide)).trans (hx1.2.2.1 14 (by decide)))))) _)) ?_
                  refine gz_aload_n dX12_tells_149 rfl rfl ?_
                  refine mg_44 hS_324 dX12_tells_150 ?_
                  refine gz_iload_n dX12_tells_153 rfl rfl ?_
                  refine m_iald 15 hS_324 rfl (N := 880) rfl ((by exact vin_T (rfl : (x1).toInt = (x1).toInt) (by omega) (by omega))) dX12_tells_154 ?_
                  refine gz_ev (w := .int ((F 15) (Int32.toNatClampNeg x1))) (congrArg Value.int (congrFun ((hx324.2.2.1 15 (by decide)).trans ((hx315.2.2.1 15 (by decide)).trans ((hx287.2.2.1 15 (by decide)).trans ((hx172.2.2.1 15 (by decide)).trans (hx1.2.2.1 15 (by decide)))))) _)) ?_
                  have hxx155 : fx [88, 89] [] [87] [] n z F G n_324 z_324 F_324 G_324 := (fx_tr (fx_tr (fx_tr (fx_tr (fx_tr fx_rf hx1 (by decide)) hx172 (by decide)) hx287 (by decide)) hx315 (by decide)) hx324 (by decide))
                  refine scX12_558 (k_X12_sums (x1 := x1) (x2 := ((F 14) (Int32.toNatClampNeg x1))) (x3 := ((F 15) (Int32.toNatClampNeg x1))) hS_324 (rAll_w (fun k hk => hxx155.2.2.1 k ((by decide : ∀ k : Nat, k ∈ wK → k ∉ ([87] : List Nat)) k hk)) bA) (by omega) (by omega) (by (try rw [(show n_324 88 = (n_324 88) from rfl)]); omega)) hS_324.1 ⟨(Nat.le_of_ble_eq_true rfl), (Nat.le_of_ble_eq_true rfl)⟩ ⟨(Nat.le_of_ble_eq_true rfl), (Nat.le_of_ble_eq_true rfl)⟩ rfl rfl (Nat.le_of_ble_eq_true rfl) dX12_tells_155 ?_
                  rintro f_325 ⟨n_325, z_325, F_325, G_325, hS_325, hx325, h8a_325, h8b_325⟩
                  refine gz_aload_n dX12_tells_158 rfl rfl ?_
                  refine gz_bipush (v := 58) dX12_tells_159 (by decide) ?_
                  refine scX12_547 (k_X12_signs (x1 := 58) hS_325 (by (try rw [(show n_325 88 = (n_325 88) from rfl)]); omega)) hS_325.1 ⟨(Nat.le_of_ble_eq_true rfl), (Nat.le_of_ble_eq_true rfl)⟩ ⟨(Nat.le_of_ble_eq_true rfl), (Nat.le_of_ble_eq_true rfl)⟩ rfl rfl (Nat.le_of_ble_eq_true rfl) dX12_tells_161 ?_
                  rintro f_326 ⟨n_326, z_326, F_326, G_326, hS_326, hx326, h8_326⟩
                  refine gz_aload_n dX12_tells_164 rfl rfl ?_
                  refine mg_20 hS_326 dX12_tells_165 ?_
                  refine gz_iload_n dX12_tells_168 rfl rfl ?_
                  refine m_iald 7 hS_326 rfl (N := 880) rfl ((by exact vin_T (rfl : (x1).toInt = (x1).toInt) (by omega) (by omega))) dX12_tells_169 ?_
                  refine gz_ev (w := .int ((F 7) (Int32.toNatClampNeg x1))) (congrArg Value.int (congrFun ((hx326.2.2.1 7 (by decide)).trans ((hx325.2.2.1 7 (by decide)).trans ((hx324.2.2.1 7 (by decide)).trans ((hx315.2.2.1 7 (by decide)).trans ((hx287.2.2.1 7 (by decide)).trans ((hx172.2.2.1 7 (by decide)).trans (hx1.2.2.1 7 (by decide)))))))) _)) ?_
                  refine gz_bipush (v := 9) dX12_tells_170 (by decide) ?_
                  refine gz_icmp_ne (tgt := 198) dX12_tells_172 (by decide) (fun c_172 => ?_) (fun c_172 => ?_)
                  ·
                    try simp only [mIn_0, lgc_lt, lgc_gt, lgc_le, lgc_ge, lgc_eq] at c_172
                    try simp only [fl_lt, fl_le, fl_eq, fL_w, fL_lt, fL_le, tm1, tm10k, tm9, tm99, Int32.reduceToInt, Int64.reduceToInt, Int.not_lt, Int.not_le] at c_172
                    exact gz_vret rfl dX12_tells_198 (Nat.le_of_ble_eq_true rfl) (Nat.le_of_ble_eq_true rfl) (⟨rfl, _, _, _, _, hS_326, (fx_tr (fx_tr (fx_tr (fx_tr (fx_tr (fx_tr (fx_tr fx_rf hx1 (by decide)) hx172 (by decide)) hx287 (by decide)) hx315 (by decide)) hx324 (by decide)) hx325 (by decide)) hx326 (by decide)), (by (try rw [(show n_326 88 = (n_326 88) from rfl)]); omega), (by (try rw [(show n_326 88 = (n_326 88) from rfl)]); omega), (by (try rw [(show n_326 88 = (n_326 88) from rfl)]); omega)⟩)
                  ·
                    try simp only [mIn_0, lgc_lt, lgc_gt, lgc_le, lgc_ge, lgc_eq] at c_172
                    try simp only [fl_lt, fl_le, fl_eq, fL_w, fL_lt, fL_le, tm1, tm10k, tm9, tm99, Int32.reduceToInt, Int64.reduceToInt, Int.not_lt, Int.not_le] at c_172
                    refine gz_aload_n dX12_tells_175 rfl rfl ?_
                    refine gz_iload_n dX12_tells_176 rfl rfl ?_
                    refine gz_aload_n dX12_tells_177 rfl rfl ?_
                    refine mg_38 hS_326 dX12_tells_178 ?_
                    refine gz_iload_n dX12_tells_181 rfl rfl ?_
                    refine m_iald 13 hS_326 rfl (N := 880) rfl ((by exact vin_T (rfl : (x1).toInt = (x1).toInt) (by omega) (by omega))) dX12_tells_182 ?_
                    refine gz_ev (w := .int ((F 13) (Int32.toNatClampNeg x1))) (congrArg Value.int (congrFun ((hx326.2.2.1 13 (by decide)).trans ((hx325.2.2.1 13 (by decide)).trans ((hx324.2.2.1 13 (by decide)).trans ((hx315.2.2.1 13 (by decide)).trans ((hx287.2.2.1 13 (by decide)).trans ((hx172.2.2.1 13 (by decide)).trans (hx1.2.2.1 13 (by decide)))))))) _)) ?_
                    refine gz_aload_n dX12_tells_183 rfl rfl ?_
                    refine mg_41 hS_326 dX12_tells_184 ?_
                    refine gz_iload_n dX12_tells_187 rfl rfl ?_
                    refine m_iald 14 hS_326 rfl (N := 880) rfl ((by exact vin_T (rfl : (x1).toInt = (x1).toInt) (by omega) (by omega))) dX12_tells_188 ?_
                    refine gz_ev (w := .int ((F 14) (Int32.toNatClampNeg x1))) (congrArg Value.int (congrFun ((hx326.2.2.1 14 (by decide)).trans ((hx325.2.2.1 14 (by decide)).trans ((hx324.2.2.1 14 (by decide)).trans ((hx315.2.2.1 14 (by decide)).trans ((hx287.2.2.1 14 (by decide)).trans ((hx172.2.2.1 14 (by decide)).trans (hx1.2.2.1 14 (by decide)))))))) _)) ?_
                    have hxx189 : fx [88, 89] [] [87] [] n z F G n_326 z_326 F_326 G_326 := (fx_tr (fx_tr (fx_tr (fx_tr (fx_tr (fx_tr (fx_tr fx_rf hx1 (by decide)) hx172 (by decide)) hx287 (by decide)) hx315 (by decide)) hx324 (by decide)) hx325 (by decide)) hx326 (by decide))
                    refine scX12_558 (k_X12_sums (x1 := x1) (x2 := ((F 13) (Int32.toNatClampNeg x1))) (x3 := ((F 14) (Int32.toNatClampNeg x1))) hS_326 (rAll_w (fun k hk => hxx189.2.2.1 k ((by decide : ∀ k : Nat, k ∈ wK → k ∉ ([87] : List Nat)) k hk)) bA) (by omega) (by omega) (by (try rw [(show n_326 88 = (n_326 88) from rfl)]); omega)) hS_326.1 ⟨(Nat.le_of_ble_eq_true rfl), (Nat.le_of_ble_eq_true rfl)⟩ ⟨(Nat.le_of_ble_eq_true rfl), (Nat.le_of_ble_eq_true rfl)⟩ rfl rfl (Nat.le_of_ble_eq_true rfl) dX12_tells_189 ?_
                    rintro f_327 ⟨n_327, z_327, F_327, G_327, hS_327, hx327, h8a_327, h8b_327⟩
                    refine gz_aload_n dX12_tells_192 rfl rfl ?_
                    refine gz_bipush (v := 58) dX12_tells_193 (by decide) ?_
                    refine scX12_547 (k_X12_signs (x1 := 58) hS_327 (by (try rw [(show n_327 88 = (n_327 88) from rfl)]); omega)) hS_327.1 ⟨(Nat.le_of_ble_eq_true rfl), (Nat.le_of_ble_eq_true rfl)⟩ ⟨(Nat.le_of_ble_eq_true rfl), (Nat.le_of_ble_eq_true rfl)⟩ rfl rfl (Nat.le_of_ble_eq_true rfl) dX12_tells_195 ?_
                    rintro f_328 ⟨n_328, z_328, F_328, G_328, hS_328, hx328, h8_328⟩
                    exact gz_vret rfl dX12_tells_198 (Nat.le_of_ble_eq_true rfl) (Nat.le_of_ble_eq_true rfl) (⟨rfl, _, _, _, _, hS_328, (fx_tr (fx_tr (fx_tr (fx_tr (fx_tr (fx_tr (fx_tr (fx_tr (fx_tr fx_rf hx1 (by decide)) hx172 (by decide)) hx287 (by decide)) hx315 (by decide)) hx324 (by decide)) hx325 (by decide)) hx326 (by decide)) hx327 (by decide)) hx328 (by decide)), (by (try rw [(show n_328 88 = (n_328 88) from rfl)]); omega), (by (try rw [(show n_328 88 = (n_328 88) from rfl)]); omega), (by (try rw [(show n_328 88 = (n_328 88) from rfl)]); omega)⟩)
            ·
              try simp only [mIn_0, lgc_lt, lgc_gt, lgc_le, lgc_ge, lgc_eq] at c_107
              try simp only [fl_lt, fl_le, fl_eq, fL_w, fL_lt, fL_le, tm1, tm10k, tm9, tm99, Int32.reduceToInt, Int64.reduceToInt, Int.not_lt, Int.not_le] at c_107
              refine gz_aload_n dX12_tells_110 rfl rfl ?_
              refine gz_bipush (v := 62) dX12_tells_111 (by decide) ?_
              refine scX12_547 (k_X12_signs (x1 := 62) hS_315 (by (try rw [(show n_315 88 = (n_315 88) from rfl)]); omega)) hS_315.1 ⟨(Nat.le_of_ble_eq_true rfl), (Nat.le_of_ble_eq_true rfl)⟩ ⟨(Nat.le_of_ble_eq_true rfl), (Nat.le_of_ble_eq_true rfl)⟩ rfl rfl (Nat.le_of_ble_eq_true rfl) dX12_tells_113 ?_
              rintro f_329 ⟨n_329, z_329, F_329, G_329, hS_329, hx329, h8_329⟩
              refine gz_aload_n dX12_tells_116 rfl rfl ?_
              refine mg_47 hS_329 dX12_tells_117 ?_
              refine gz_iload_n dX12_tells_120 rfl rfl ?_
              refine m_iald 16 hS_329 rfl (N := 880) rfl ((by exact vin_T (rfl : (x1).toInt = (x1).toInt) (by omega) (by omega))) dX12_tells_121 ?_
              refine gz_ev (w := .int ((F 16) (Int32.toNatClampNeg x1))) (congrArg Value.int (congrFun ((hx329.2.2.1 16 (by decide)).trans ((hx315.2.2.1 16 (by decide)).trans ((hx287.2.2.1 16 (by decide)).trans ((hx172.2.2.1 16 (by decide)).trans (hx1.2.2.1 16 (by decide)))))) _)) ?_
              refine gz_if_le (tgt := 141) dX12_tells_122 (by decide) (fun c_122 => ?_) (fun c_122 => ?_)
              ·
                try simp only [mIn_0, lgc_lt, lgc_gt, lgc_le, lgc_ge, lgc_eq] at c_122
                try simp only [fl_lt, fl_le, fl_eq, fL_w, fL_lt, fL_le, tm1, tm10k, tm9, tm99, Int32.reduceToInt, Int64.reduceToInt, Int.not_lt, Int.not_le] at c_122
                refine gz_aload_n dX12_tells_141 rfl rfl ?_
                refine gz_iload_n dX12_tells_142 rfl rfl ?_
                refine gz_aload_n dX12_tells_143 rfl rfl ?_
                refine mg_41 hS_329 dX12_tells_144 ?_
                refine gz_iload_n dX12_tells_147 rfl rfl ?_
                refine m_iald 14 hS_329 rfl (N := 880) rfl ((by exact vin_T (rfl : (x1).toInt = (x1).toInt) (by omega) (by omega))) dX12_tells_148 ?_
                refine gz_ev (w := .int ((F 14) (Int32.toNatClampNeg x1))) (congrArg Value.int (congrFun ((hx329.2.2.1 14 (by decide)).trans ((hx315.2.2.1 14 (by decide)).trans ((hx287.2.2.1 14 (by decide)).trans ((hx172.2.2.1 14 (by decide)).trans (hx1.2.2.1 14 (by decide)))))) _)) ?_
                refine gz_aload_n dX12_tells_149 rfl rfl ?_
                refine mg_44 hS_329 dX12_tells_150 ?_
                refine gz_iload_n dX12_tells_153 rfl rfl ?_
                refine m_iald 15 hS_329 rfl (N := 880) rfl ((by exact vin_T (rfl : (x1).toInt = (x1).toInt) (by omega) (by omega))) dX12_tells_154 ?_
                refine gz_ev (w := .int ((F 15) (Int32.toNatClampNeg x1))) (congrArg Value.int (congrFun ((hx329.2.2.1 15 (by decide)).trans ((hx315.2.2.1 15 (by decide)).trans ((hx287.2.2.1 15 (by decide)).trans ((hx172.2.2.1 15 (by decide)).trans (hx1.2.2.1 15 (by decide)))))) _)) ?_
                have hxx155 : fx [88, 89] [] [87] [] n z F G n_329 z_329 F_329 G_329 := (fx_tr (fx_tr (fx_tr (fx_tr (fx_tr fx_rf hx1 (by decide)) hx172 (by decide)) hx287 (by decide)) hx315 (by decide)) hx329 (by decide))
                refine scX12_558 (k_X12_sums (x1 := x1) (x2 := ((F 14) (Int32.toNatClampNeg x1))) (x3 := ((F 15) (Int32.toNatClampNeg x1))) hS_329 (rAll_w (fun k hk => hxx155.2.2.1 k ((by decide : ∀ k : Nat, k ∈ wK → k ∉ ([87] : List Nat)) k hk)) bA) (by omega) (by omega) (by (try rw [(show n_329 88 = (n_329 88) from rfl)]); omega)) hS_329.1 ⟨(Nat.le_of_ble_eq_true rfl), (Nat.le_of_ble_eq_true rfl)⟩ ⟨(Nat.le_of_ble_eq_true rfl), (Nat.le_of_ble_eq_true rfl)⟩ rfl rfl (Nat.le_of_ble_eq_true rfl) dX12_tells_155 ?_
                rintro f_330 ⟨n_330, z_330, F_330, G_330, hS_330, hx330, h8a_330, h8b_330⟩
                refine gz_aload_n dX12_tells_158 rfl rfl ?_
                refine gz_bipush (v := 58) dX12_tells_159 (by decide) ?_
                refine scX12_547 (k_X12_signs (x1 := 58) hS_330 (by (try rw [(show n_330 88 = (n_330 88) from rfl)]); omega)) hS_330.1 ⟨(Nat.le_of_ble_eq_true rfl), (Nat.le_of_ble_eq_true rfl)⟩ ⟨(Nat.le_of_ble_eq_true rfl), (Nat.le_of_ble_eq_true rfl)⟩ rfl rfl (Nat.le_of_ble_eq_true rfl) dX12_tells_161 ?_
                rintro f_331 ⟨n_331, z_331, F_331, G_331, hS_331, hx331, h8_331⟩
                refine gz_aload_n dX12_tells_164 rfl rfl ?_
                refine mg_20 hS_331 dX12_tells_165 ?_
                refine gz_iload_n dX12_tells_168 rfl rfl ?_
                refine m_iald 7 hS_331 rfl (N := 880) rfl ((by exact vin_T (rfl : (x1).toInt = (x1).toInt) (by omega) (by omega))) dX12_tells_169 ?_
                refine gz_ev (w := .int ((F 7) (Int32.toNatClampNeg x1))) (congrArg Value.int (congrFun ((hx331.2.2.1 7 (by decide)).trans ((hx330.2.2.1 7 (by decide)).trans ((hx329.2.2.1 7 (by decide)).trans ((hx315.2.2.1 7 (by decide)).trans ((hx287.2.2.1 7 (by decide)).trans ((hx172.2.2.1 7 (by decide)).trans (hx1.2.2.1 7 (by decide)))))))) _)) ?_
                refine gz_bipush (v := 9) dX12_tells_170 (by decide) ?_
                refine gz_icmp_ne (tgt := 198) dX12_tells_172 (by decide) (fun c_172 => ?_) (fun c_172 => ?_)
                ·
                  try simp only [mIn_0, lgc_lt, lgc_gt, lgc_le, lgc_ge, lgc_eq] at c_172
                  try simp only [fl_lt, fl_le, fl_eq, fL_w, fL_lt, fL_le, tm1, tm10k, tm9, tm99, Int32.reduceToInt, Int64.reduceToInt, Int.not_lt, Int.not_le] at c_172
                  exact gz_vret rfl dX12_tells_198 (Nat.le_of_ble_eq_true rfl) (Nat.le_of_ble_eq_true rfl) (⟨rfl, _, _, _, _, hS_331, (fx_tr (fx_tr (fx_tr (fx_tr (fx_tr (fx_tr (fx_tr fx_rf hx1 (by decide)) hx172 (by decide)) hx287 (by decide)) hx315 (by decide)) hx329 (by decide)) hx330 (by decide)) hx331 (by decide)), (by (try rw [(show n_331 88 = (n_331 88) from rfl)]); omega), (by (try rw [(show n_331 88 = (n_331 88) from rfl)]); omega), (by (try rw [(show n_331 88 = (n_331 88) from rfl)]); omega)⟩)
                ·
                  try simp only [mIn_0, lgc_lt, lgc_gt, lgc_le, lgc_ge, lgc_eq] at c_172
                  try simp only [fl_lt, fl_le, fl_eq, fL_w, fL_lt, fL_le, tm1, tm10k, tm9, tm99, Int32.reduceToInt, Int64.reduceToInt, Int.not_lt, Int.not_le] at c_172
                  refine gz_aload_n dX12_tells_175 rfl rfl ?_
                  refine gz_iload_n dX12_tells_176 rfl rfl ?_
                  refine gz_aload_n dX12_tells_177 rfl rfl ?_
                  refine mg_38 hS_331 dX12_tells_178 ?_
                  refine gz_iload_n dX12_tells_181 rfl rfl ?_
                  refine m_iald 13 hS_331 rfl (N := 880) rfl ((by exact vin_T (rfl : (x1).toInt = (x1).toInt) (by omega) (by omega))) dX12_tells_182 ?_
                  refine gz_ev (w := .int ((F 13) (Int32.toNatClampNeg x1))) (congrArg Value.int (congrFun ((hx331.2.2.1 13 (by decide)).trans ((hx330.2.2.1 13 (by decide)).trans ((hx329.2.2.1 13 (by decide)).trans ((hx315.2.2.1 13 (by decide)).trans ((hx287.2.2.1 13 (by decide)).trans ((hx172.2.2.1 13 (by decide)).trans (hx1.2.2.1 13 (by decide)))))))) _)) ?_
                  refine gz_aload_n dX12_tells_183 rfl rfl ?_
                  refine mg_41 hS_331 dX12_tells_184 ?_
                  refine gz_iload_n dX12_tells_187 rfl rfl ?_
                  refine m_iald 14 hS_331 rfl (N := 880) rfl ((by exact vin_T (rfl : (x1).toInt = (x1).toInt) (by omega) (by omega))) dX12_tells_188 ?_
                  refine gz_ev (w := .int ((F 14) (Int32.toNatClampNeg x1))) (congrArg Value.int (congrFun ((hx331.2.2.1 14 (by decide)).trans ((hx330.2.2.1 14 (by decide)).trans ((hx329.2.2.1 14 (by decide)).trans ((hx315.2.2.1 14 (by decide)).trans ((hx287.2.2.1 14 (by decide)).trans ((hx172.2.2.1 14 (by decide)).trans (hx1.2.2.1 14 (by decide)))))))) _)) ?_
                  have hxx189 : fx [88, 89] [] [87] [] n z F G n_331 z_331 F_331 G_331 := (fx_tr (fx_tr (fx_tr (fx_tr (fx_tr (fx_tr (fx_tr fx_rf hx1 (by decide)) hx172 (by decide)) hx287 (by decide)) hx315 (by decide)) hx329 (by decide)) hx330 (by decide)) hx331 (by decide))
                  refine scX12_558 (k_X12_sums (x1 := x1) (x2 := ((F 13) (Int32.toNatClampNeg x1))) (x3 := ((F 14) (Int32.toNatClampNeg x1))) hS_331 (rAll_w (fun k hk => hxx189.2.2.1 k ((by decide : ∀ k : Nat, k ∈ wK → k ∉ ([87] : List Nat)) k hk)) bA) (by omega) (by omega) (by (try rw [(show n_331 88 = (n_331 88) from rfl)]); omega)) hS_331.1 ⟨(Nat.le_of_ble_eq_true rfl), (Nat.le_of_ble_eq_true rfl)⟩ ⟨(Nat.le_of_ble_eq_true rfl), (Nat.le_of_ble_eq_true rfl)⟩ rfl rfl (Nat.le_of_ble_eq_true rfl) dX12_tells_189 ?_
                  rintro f_332 ⟨n_332, z_332, F_332, G_332, hS_332, hx332, h8a_332, h8b_332⟩
                  refine gz_aload_n dX12_tells_192 rfl rfl ?_
                  refine gz_bipush (v := 58) dX12_tells_193 (by decide) ?_
                  refine scX12_547 (k_X12_signs (x1 := 58) hS_332 (by (try rw [(show n_332 88 = (n_332 88) from rfl)]); omega)) hS_332.1 ⟨(Nat.le_of_ble_eq_true rfl), (Nat.le_of_ble_eq_true rfl)⟩ ⟨(Nat.le_of_ble_eq_true rfl), (Nat.le_of_ble_eq_true rfl)⟩ rfl rfl (Nat.le_of_ble_eq_true rfl) dX12_tells_195 ?_
                  rintro f_333 ⟨n_333, z_333, F_333, G_333, hS_333, hx333, h8_333⟩
                  exact gz_vret rfl dX12_tells_198 (Nat.le_of_ble_eq_true rfl) (Nat.le_of_ble_eq_true rfl) (⟨rfl, _, _, _, _, hS_333, (fx_tr (fx_tr (fx_tr (fx_tr (fx_tr (fx_tr (fx_tr (fx_tr (fx_tr fx_rf hx1 (by decide)) hx172 (by decide)) hx287 (by decide)) hx315 (by decide)) hx329 (by decide)) hx330 (by decide)) hx331 (by decide)) hx332 (by decide)) hx333 (by decide)), (by (try rw [(show n_333 88 = (n_333 88) from rfl)]); omega), (by (try rw [(show n_333 88 = (n_333 88) from rfl)]); omega), (by (try rw [(show n_333 88 = (n_333 88) from rfl)]); omega)⟩)
              ·
                try simp only [mIn_0, lgc_lt, lgc_gt, lgc_le, lgc_ge, lgc_eq] at c_122
                try simp only [fl_lt, fl_le, fl_eq, fL_w, fL_lt, fL_le, tm1, tm10k, tm9, tm99, Int32.reduceToInt, Int64.reduceToInt, Int.not_lt, Int.not_le] at c_122
                refine gz_aload_n dX12_tells_125 rfl rfl ?_
                refine mg_47 hS_329 dX12_tells_126 ?_
                refine gz_iload_n dX12_tells_129 rfl rfl ?_
                refine m_iald 16 hS_329 rfl (N := 880) rfl ((by exact vin_T (rfl : (x1).toInt = (x1).toInt) (by omega) (by omega))) dX12_tells_130 ?_
                refine gz_ev (w := .int ((F 16) (Int32.toNatClampNeg x1))) (congrArg Value.int (congrFun ((hx329.2.2.1 16 (by decide)).trans ((hx315.2.2.1 16 (by decide)).trans ((hx287.2.2.1 16 (by decide)).trans ((hx172.2.2.1 16 (by decide)).trans (hx1.2.2.1 16 (by decide)))))) _)) ?_
                refine gz_iconst (v := 4) dX12_tells_131 (by decide) ?_
                refine gz_icmp_ge (tgt := 141) dX12_tells_132 (by decide) (fun c_132 => ?_) (fun c_132 => ?_)
                ·
                  try simp only [mIn_0, lgc_lt, lgc_gt, lgc_le, lgc_ge, lgc_eq] at c_132
                  try simp only [fl_lt, fl_le, fl_eq, fL_w, fL_lt, fL_le, tm1, tm10k, tm9, tm99, Int32.reduceToInt, Int64.reduceToInt, Int.not_lt, Int.not_le] at c_132
                  refine gz_aload_n dX12_tells_141 rfl rfl ?_
                  refine gz_iload_n dX12_tells_142 rfl rfl ?_
                  refine gz_aload_n dX12_tells_143 rfl rfl ?_
                  refine mg_41 hS_329 dX12_tells_144 ?_
                  refine gz_iload_n dX12_tells_147 rfl rfl ?_
                  refine m_iald 14 hS_329 rfl (N := 880) rfl ((by exact vin_T (rfl : (x1).toInt = (x1).toInt) (by omega) (by omega))) dX12_tells_148 ?_
                  refine gz_ev (w := .int ((F 14) (Int32.toNatClampNeg x1))) (congrArg Value.int (congrFun ((hx329.2.2.1 14 (by decide)).trans ((hx315.2.2.1 14 (by decide)).trans ((hx287.2.2.1 14 (by decide)).trans ((hx172.2.2.1 14 (by decide)).trans (hx1.2.2.1 14 (by decide)))))) _)) ?_
                  refine gz_aload_n dX12_tells_149 rfl rfl ?_
                  refine mg_44 hS_329 dX12_tells_150 ?_
                  refine gz_iload_n dX12_tells_153 rfl rfl ?_
                  refine m_iald 15 hS_329 rfl (N := 880) rfl ((by exact vin_T (rfl : (x1).toInt = (x1).toInt) (by omega) (by omega))) dX12_tells_154 ?_
                  refine gz_ev (w := .int ((F 15) (Int32.toNatClampNeg x1))) (congrArg Value.int (congrFun ((hx329.2.2.1 15 (by decide)).trans ((hx315.2.2.1 15 (by decide)).trans ((hx287.2.2.1 15 (by decide)).trans ((hx172.2.2.1 15 (by decide)).trans (hx1.2.2.1 15 (by decide)))))) _)) ?_
                  have hxx155 : fx [88, 89] [] [87] [] n z F G n_329 z_329 F_329 G_329 := (fx_tr (fx_tr (fx_tr (fx_tr (fx_tr fx_rf hx1 (by decide)) hx172 (by decide)) hx287 (by decide)) hx315 (by decide)) hx329 (by decide))
                  refine scX12_558 (k_X12_sums (x1 := x1) (x2 := ((F 14) (Int32.toNatClampNeg x1))) (x3 := ((F 15) (Int32.toNatClampNeg x1))) hS_329 (rAll_w (fun k hk => hxx155.2.2.1 k ((by decide : ∀ k : Nat, k ∈ wK → k ∉ ([87] : List Nat)) k hk)) bA) (by omega) (by omega) (by (try rw [(show n_329 88 = (n_329 88) from rfl)]); omega)) hS_329.1 ⟨(Nat.le_of_ble_eq_true rfl), (Nat.le_of_ble_eq_true rfl)⟩ ⟨(Nat.le_of_ble_eq_true rfl), (Nat.le_of_ble_eq_true rfl)⟩ rfl rfl (Nat.le_of_ble_eq_true rfl) dX12_tells_155 ?_
                  rintro f_334 ⟨n_334, z_334, F_334, G_334, hS_334, hx334, h8a_334, h8b_334⟩
                  refine gz_aload_n dX12_tells_158 rfl rfl ?_
                  refine gz_bipush (v := 58) dX12_tells_159 (by decide) ?_
                  refine scX12_547 (k_X12_signs (x1 := 58) hS_334 (by (try rw [(show n_334 88 = (n_334 88) from rfl)]); omega)) hS_334.1 ⟨(Nat.le_of_ble_eq_true rfl), (Nat.le_of_ble_eq_true rfl)⟩ ⟨(Nat.le_of_ble_eq_true rfl), (Nat.le_of_ble_eq_true rfl)⟩ rfl rfl (Nat.le_of_ble_eq_true rfl) dX12_tells_161 ?_
                  rintro f_335 ⟨n_335, z_335, F_335, G_335, hS_335, hx335, h8_335⟩
                  refine gz_aload_n dX12_tells_164 rfl rfl ?_
                  refine mg_20 hS_335 dX12_tells_165 ?_
                  refine gz_iload_n dX12_tells_168 rfl rfl ?_
                  refine m_iald 7 hS_335 rfl (N := 880) rfl ((by exact vin_T (rfl : (x1).toInt = (x1).toInt) (by omega) (by omega))) dX12_tells_169 ?_
                  refine gz_ev (w := .int ((F 7) (Int32.toNatClampNeg x1))) (congrArg Value.int (congrFun ((hx335.2.2.1 7 (by decide)).trans ((hx334.2.2.1 7 (by decide)).trans ((hx329.2.2.1 7 (by decide)).trans ((hx315.2.2.1 7 (by decide)).trans ((hx287.2.2.1 7 (by decide)).trans ((hx172.2.2.1 7 (by decide)).trans (hx1.2.2.1 7 (by decide)))))))) _)) ?_
                  refine gz_bipush (v := 9) dX12_tells_170 (by decide) ?_
                  refine gz_icmp_ne (tgt := 198) dX12_tells_172 (by decide) (fun c_172 => ?_) (fun c_172 => ?_)
                  ·
                    try simp only [mIn_0, lgc_lt, lgc_gt, lgc_le, lgc_ge, lgc_eq] at c_172
                    try simp only [fl_lt, fl_le, fl_eq, fL_w, fL_lt, fL_le, tm1, tm10k, tm9, tm99, Int32.reduceToInt, Int64.reduceToInt, Int.not_lt, Int.not_le] at c_172
                    exact gz_vret rfl dX12_tells_198 (Nat.le_of_ble_eq_true rfl) (Nat.le_of_ble_eq_true rfl) (⟨rfl, _, _, _, _, hS_335, (fx_tr (fx_tr (fx_tr (fx_tr (fx_tr (fx_tr (fx_tr fx_rf hx1 (by decide)) hx172 (by decide)) hx287 (by decide)) hx315 (by decide)) hx329 (by decide)) hx334 (by decide)) hx335 (by decide)), (by (try rw [(show n_335 88 = (n_335 88) from rfl)]); omega), (by (try rw [(show n_335 88 = (n_335 88) from rfl)]); omega), (by (try rw [(show n_335 88 = (n_335 88) from rfl)]); omega)⟩)
                  ·
                    try simp only [mIn_0, lgc_lt, lgc_gt, lgc_le, lgc_ge, lgc_eq] at c_172
                    try simp only [fl_lt, fl_le, fl_eq, fL_w, fL_lt, fL_le, tm1, tm10k, tm9, tm99, Int32.reduceToInt, Int64.reduceToInt, Int.not_lt, Int.not_le] at c_172
                    refine gz_aload_n dX12_tells_175 rfl rfl ?_
                    refine gz_iload_n dX12_tells_176 rfl rfl ?_
                    refine gz_aload_n dX12_tells_177 rfl rfl ?_
                    refine mg_38 hS_335 dX12_tells_178 ?_
                    refine gz_iload_n dX12_tells_181 rfl rfl ?_
                    refine m_iald 13 hS_335 rfl (N := 880) rfl ((by exact vin_T (rfl : (x1).toInt = (x1).toInt) (by omega) (by omega))) dX12_tells_182 ?_
                    refine gz_ev (w := .int ((F 13) (Int32.toNatClampNeg x1))) (congrArg Value.int (congrFun ((hx335.2.2.1 13 (by decide)).trans ((hx334.2.2.1 13 (by decide)).trans ((hx329.2.2.1 13 (by decide)).trans ((hx315.2.2.1 13 (by decide)).trans ((hx287.2.2.1 13 (by decide)).trans ((hx172.2.2.1 13 (by decide)).trans (hx1.2.2.1 13 (by decide)))))))) _)) ?_
                    refine gz_aload_n dX12_tells_183 rfl rfl ?_
                    refine mg_41 hS_335 dX12_tells_184 ?_
                    refine gz_iload_n dX12_tells_187 rfl rfl ?_
                    refine m_iald 14 hS_335 rfl (N := 880) rfl ((by exact vin_T (rfl : (x1).toInt = (x1).toInt) (by omega) (by omega))) dX12_tells_188 ?_
                    refine gz_ev (w := .int ((F 14) (Int32.toNatClampNeg x1))) (congrArg Value.int (congrFun ((hx335.2.2.1 14 (by decide)).trans ((hx334.2.2.1 14 (by decide)).trans ((hx329.2.2.1 14 (by decide)).trans ((hx315.2.2.1 14 (by decide)).trans ((hx287.2.2.1 14 (by decide)).trans ((hx172.2.2.1 14 (by decide)).trans (hx1.2.2.1 14 (by decide)))))))) _)) ?_
                    have hxx189 : fx [88, 89] [] [87] [] n z F G n_335 z_335 F_335 G_335 := (fx_tr (fx_tr (fx_tr (fx_tr (fx_tr (fx_tr (fx_tr fx_rf hx1 (by decide)) hx172 (by decide)) hx287 (by decide)) hx315 (by decide)) hx329 (by decide)) hx334 (by decide)) hx335 (by decide))
                    refine scX12_558 (k_X12_sums (x1 := x1) (x2 := ((F 13) (Int32.toNatClampNeg x1))) (x3 := ((F 14) (Int32.toNatClampNeg x1))) hS_335 (rAll_w (fun k hk => hxx189.2.2.1 k ((by decide : ∀ k : Nat, k ∈ wK → k ∉ ([87] : List Nat)) k hk)) bA) (by omega) (by omega) (by (try rw [(show n_335 88 = (n_335 88) from rfl)]); omega)) hS_335.1 ⟨(Nat.le_of_ble_eq_true rfl), (Nat.le_of_ble_eq_true rfl)⟩ ⟨(Nat.le_of_ble_eq_true rfl), (Nat.le_of_ble_eq_true rfl)⟩ rfl rfl (Nat.le_of_ble_eq_true rfl) dX12_tells_189 ?_
                    rintro f_336 ⟨n_336, z_336, F_336, G_336, hS_336, hx336, h8a_336, h8b_336⟩
                    refine gz_aload_n dX12_tells_192 rfl rfl ?_
                    refine gz_bipush (v := 58) dX12_tells_193 (by decide) ?_
                    refine scX12_547 (k_X12_signs (x1 := 58) hS_336 (by (try rw [(show n_336 88 = (n_336 88) from rfl)]); omega)) hS_336.1 ⟨(Nat.le_of_ble_eq_true rfl), (Nat.le_of_ble_eq_true rfl)⟩ ⟨(Nat.le_of_ble_eq_true rfl), (Nat.le_of_ble_eq_true rfl)⟩ rfl rfl (Nat.le_of_ble_eq_true rfl) dX12_tells_195 ?_
                    rintro f_337 ⟨n_337, z_337, F_337, G_337, hS_337, hx337, h8_337⟩
                    exact gz_vret rfl dX12_tells_198 (Nat.le_of_ble_eq_true rfl) (Nat.le_of_ble_eq_true rfl) (⟨rfl, _, _, _, _, hS_337, (fx_tr (fx_tr (fx_tr (fx_tr (fx_tr (fx_tr (fx_tr (fx_tr (fx_tr fx_rf hx1 (by decide)) hx172 (by decide)) hx287 (by decide)) hx315 (by decide)) hx329 (by decide)) hx334 (by decide)) hx335 (by decide)) hx336 (by decide)) hx337 (by decide)), (by (try rw [(show n_337 88 = (n_337 88) from rfl)]); omega), (by (try rw [(show n_337 88 = (n_337 88) from rfl)]); omega), (by (try rw [(show n_337 88 = (n_337 88) from rfl)]); omega)⟩)
                ·
                  try simp only [mIn_0, lgc_lt, lgc_gt, lgc_le, lgc_ge, lgc_eq] at c_132
                  try simp only [fl_lt, fl_le, fl_eq, fL_w, fL_lt, fL_le, tm1, tm10k, tm9, tm99, Int32.reduceToInt, Int64.reduceToInt, Int.not_lt, Int.not_le] at c_132
                  refine gz_aload_n dX12_tells_135 rfl rfl ?_
                  refine gz_bipush (v := 61) dX12_tells_136 (by decide) ?_
                  refine scX12_547 (k_X12_signs (x1 := 61) hS_329 (by (try rw [(show n_329 88 = (n_329 88) from rfl)]); omega)) hS_329.1 ⟨(Nat.le_of_ble_eq_true rfl), (Nat.le_of_ble_eq_true rfl)⟩ ⟨(Nat.le_of_ble_eq_true rfl), (Nat.le_of_ble_eq_true rfl)⟩ rfl rfl (Nat.le_of_ble_eq_true rfl) dX12_tells_138 ?_
                  rintro f_338 ⟨n_338, z_338, F_338, G_338, hS_338, hx338, h8_338⟩
                  refine gz_aload_n dX12_tells_141 rfl rfl ?_
                  refine gz_iload_n dX12_tells_142 rfl rfl ?_
                  refine gz_aload_n dX12_tells_143 rfl rfl ?_
                  refine mg_41 hS_338 dX12_tells_144 ?_
                  refine gz_iload_n dX12_tells_147 rfl rfl ?_
                  refine m_iald 14 hS_338 rfl (N := 880) rfl ((by exact vin_T (rfl : (x1).toInt = (x1).toInt) (by omega) (by omega))) dX12_tells_148 ?_
                  refine gz_ev (w := .int ((F 14) (Int32.toNatClampNeg x1))) (congrArg Value.int (congrFun ((hx338.2.2.1 14 (by decide)).trans ((hx329.2.2.1 14 (by decide)).trans ((hx315.2.2.1 14 (by decide)).trans ((hx287.2.2.1 14 (by decide)).trans ((hx172.2.2.1 14 (by decide)).trans (hx1.2.2.1 14 (by decide))))))) _)) ?_
                  refine gz_aload_n dX12_tells_149 rfl rfl ?_
                  refine mg_44 hS_338 dX12_tells_150 ?_
                  refine gz_iload_n dX12_tells_153 rfl rfl ?_
                  refine m_iald 15 hS_338 rfl (N := 880) rfl ((by exact vin_T (rfl : (x1).toInt = (x1).toInt) (by omega) (by omega))) dX12_tells_154 ?_
                  refine gz_ev (w := .int ((F 15) (Int32.toNatClampNeg x1))) (congrArg Value.int (congrFun ((hx338.2.2.1 15 (by decide)).trans ((hx329.2.2.1 15 (by decide)).trans ((hx315.2.2.1 15 (by decide)).trans ((hx287.2.2.1 15 (by decide)).trans ((hx172.2.2.1 15 (by decide)).trans (hx1.2.2.1 15 (by decide))))))) _)) ?_
                  have hxx155 : fx [88, 89] [] [87] [] n z F G n_338 z_338 F_338 G_338 := (fx_tr (fx_tr (fx_tr (fx_tr (fx_tr (fx_tr fx_rf hx1 (by decide)) hx172 (by decide)) hx287 (by decide)) hx315 (by decide)) hx329 (by decide)) hx338 (by decide))
                  refine scX12_558 (k_X12_sums (x1 := x1) (x2 := ((F 14) (Int32.toNatClampNeg x1))) (x3 := ((F 15) (Int32.toNatClampNeg x1))) hS_338 (rAll_w (fun k hk => hxx155.2.2.1 k ((by decide : ∀ k : Nat, k ∈ wK → k ∉ ([87] : List Nat)) k hk)) bA) (by omega) (by omega) (by (try rw [(show n_338 88 = (n_338 88) from rfl)]); omega)) hS_338.1 ⟨(Nat.le_of_ble_eq_true rfl), (Nat.le_of_ble_eq_true rfl)⟩ ⟨(Nat.le_of_ble_eq_true rfl), (Nat.le_of_ble_eq_true rfl)⟩ rfl rfl (Nat.le_of_ble_eq_true rfl) dX12_tells_155 ?_
                  rintro f_339 ⟨n_339, z_339, F_339, G_339, hS_339, hx339, h8a_339, h8b_339⟩
                  refine gz_aload_n dX12_tells_158 rfl rfl ?_
                  refine gz_bipush (v := 58) dX12_tells_159 (by decide) ?_
                  refine scX12_547 (k_X12_signs (x1 := 58) hS_339 (by (try rw [(show n_339 88 = (n_339 88) from rfl)]); omega)) hS_339.1 ⟨(Nat.le_of_ble_eq_true rfl), (Nat.le_of_ble_eq_true rfl)⟩ ⟨(Nat.le_of_ble_eq_true rfl), (Nat.le_of_ble_eq_true rfl)⟩ rfl rfl (Nat.le_of_ble_eq_true rfl) dX12_tells_161 ?_
                  rintro f_340 ⟨n_340, z_340, F_340, G_340, hS_340, hx340, h8_340⟩
                  refine gz_aload_n dX12_tells_164 rfl rfl ?_
                  refine mg_20 hS_340 dX12_tells_165 ?_
                  refine gz_iload_n dX12_tells_168 rfl rfl ?_
                  refine m_iald 7 hS_340 rfl (N := 880) rfl ((by exact vin_T (rfl : (x1).toInt = (x1).toInt) (by omega) (by omega))) dX12_tells_169 ?_
                  refine gz_ev (w := .int ((F 7) (Int32.toNatClampNeg x1))) (congrArg Value.int (congrFun ((hx340.2.2.1 7 (by decide)).trans ((hx339.2.2.1 7 (by decide)).trans ((hx338.2.2.1 7 (by decide)).trans ((hx329.2.2.1 7 (by decide)).trans ((hx315.2.2.1 7 (by decide)).trans ((hx287.2.2.1 7 (by decide)).trans ((hx172.2.2.1 7 (by decide)).trans (hx1.2.2.1 7 (by decide))))))))) _)) ?_
                  refine gz_bipush (v := 9) dX12_tells_170 (by decide) ?_
                  refine gz_icmp_ne (tgt := 198) dX12_tells_172 (by decide) (fun c_172 => ?_) (fun c_172 => ?_)
                  ·
                    try simp only [mIn_0, lgc_lt, lgc_gt, lgc_le, lgc_ge, lgc_eq] at c_172
                    try simp only [fl_lt, fl_le, fl_eq, fL_w, fL_lt, fL_le, tm1, tm10k, tm9, tm99, Int32.reduceToInt, Int64.reduceToInt, Int.not_lt, Int.not_le] at c_172
                    exact gz_vret rfl dX12_tells_198 (Nat.le_of_ble_eq_true rfl) (Nat.le_of_ble_eq_true rfl) (⟨rfl, _, _, _, _, hS_340, (fx_tr (fx_tr (fx_tr (fx_tr (fx_tr (fx_tr (fx_tr (fx_tr fx_rf hx1 (by decide)) hx172 (by decide)) hx287 (by decide)) hx315 (by decide)) hx329 (by decide)) hx338 (by decide)) hx339 (by decide)) hx340 (by decide)), (by (try rw [(show n_340 88 = (n_340 88) from rfl)]); omega), (by (try rw [(show n_340 88 = (n_340 88) from rfl)]); omega), (by (try rw [(show n_340 88 = (n_340 88) from rfl)]); omega)⟩)
                  ·
                    try simp only [mIn_0, lgc_lt, lgc_gt, lgc_le, lgc_ge, lgc_eq] at c_172
                    try simp only [fl_lt, fl_le, fl_eq, fL_w, fL_lt, fL_le, tm1, tm10k, tm9, tm99, Int32.reduceToInt, Int64.reduceToInt, Int.not_lt, Int.not_le] at c_172
                    refine gz_aload_n dX12_tells_175 rfl rfl ?_
                    refine gz_iload_n dX12_tells_176 rfl rfl ?_
                    refine gz_aload_n dX12_tells_177 rfl rfl ?_
                    refine mg_38 hS_340 dX12_tells_178 ?_
                    refine gz_iload_n dX12_tells_181 rfl rfl ?_
                    refine m_iald 13 hS_340 rfl (N := 880) rfl ((by exact vin_T (rfl : (x1).toInt = (x1).toInt) (by omega) (by omega))) dX12_tells_182 ?_
                    refine gz_ev (w := .int ((F 13) (Int32.toNatClampNeg x1))) (congrArg Value.int (congrFun ((hx340.2.2.1 13 (by decide)).trans ((hx339.2.2.1 13 (by decide)).trans ((hx338.2.2.1 13 (by decide)).trans ((hx329.2.2.1 13 (by decide)).trans ((hx315.2.2.1 13 (by decide)).trans ((hx287.2.2.1 13 (by decide)).trans ((hx172.2.2.1 13 (by decide)).trans (hx1.2.2.1 13 (by decide))))))))) _)) ?_
                    refine gz_aload_n dX12_tells_183 rfl rfl ?_
                    refine mg_41 hS_340 dX12_tells_184 ?_
                    refine gz_iload_n dX12_tells_187 rfl rfl ?_
                    refine m_iald 14 hS_340 rfl (N := 880) rfl ((by exact vin_T (rfl : (x1).toInt = (x1).toInt) (by omega) (by omega))) dX12_tells_188 ?_
                    refine gz_ev (w := .int ((F 14) (Int32.toNatClampNeg x1))) (congrArg Value.int (congrFun ((hx340.2.2.1 14 (by decide)).trans ((hx339.2.2.1 14 (by decide)).trans ((hx338.2.2.1 14 (by decide)).trans ((hx329.2.2.1 14 (by decide)).trans ((hx315.2.2.1 14 (by decide)).trans ((hx287.2.2.1 14 (by decide)).trans ((hx172.2.2.1 14 (by decide)).trans (hx1.2.2.1 14 (by decide))))))))) _)) ?_
                    have hxx189 : fx [88, 89] [] [87] [] n z F G n_340 z_340 F_340 G_340 := (fx_tr (fx_tr (fx_tr (fx_tr (fx_tr (fx_tr (fx_tr (fx_tr fx_rf hx1 (by decide)) hx172 (by decide)) hx287 (by decide)) hx315 (by decide)) hx329 (by decide)) hx338 (by decide)) hx339 (by decide)) hx340 (by decide))
                    refine scX12_558 (k_X12_sums (x1 := x1) (x2 := ((F 13) (Int32.toNatClampNeg x1))) (x3 := ((F 14) (Int32.toNatClampNeg x1))) hS_340 (rAll_w (fun k hk => hxx189.2.2.1 k ((by decide : ∀ k : Nat, k ∈ wK → k ∉ ([87] : List Nat)) k hk)) bA) (by omega) (by omega) (by (try rw [(show n_340 88 = (n_340 88) from rfl)]); omega)) hS_340.1 ⟨(Nat.le_of_ble_eq_true rfl), (Nat.le_of_ble_eq_true rfl)⟩ ⟨(Nat.le_of_ble_eq_true rfl), (Nat.le_of_ble_eq_true rfl)⟩ rfl rfl (Nat.le_of_ble_eq_true rfl) dX12_tells_189 ?_
                    rintro f_341 ⟨n_341, z_341, F_341, G_341, hS_341, hx341, h8a_341, h8b_341⟩
                    refine gz_aload_n dX12_tells_192 rfl rfl ?_
                    refine gz_bipush (v := 58) dX12_tells_193 (by decide) ?_
                    refine scX12_547 (k_X12_signs (x1 := 58) hS_341 (by (try rw [(show n_341 88 = (n_341 88) from rfl)]); omega)) hS_341.1 ⟨(Nat.le_of_ble_eq_true rfl), (Nat.le_of_ble_eq_true rfl)⟩ ⟨(Nat.le_of_ble_eq_true rfl), (Nat.le_of_ble_eq_true rfl)⟩ rfl rfl (Nat.le_of_ble_eq_true rfl) dX12_tells_195 ?_
                    rintro f_342 ⟨n_342, z_342, F_342, G_342, hS_342, hx342, h8_342⟩
                    exact gz_vret rfl dX12_tells_198 (Nat.le_of_ble_eq_true rfl) (Nat.le_of_ble_eq_true rfl) (⟨rfl, _, _, _, _, hS_342, (fx_tr (fx_tr (fx_tr (fx_tr (fx_tr (fx_tr (fx_tr (fx_tr (fx_tr (fx_tr fx_rf hx1 (by decide)) hx172 (by decide)) hx287 (by decide)) hx315 (by decide)) hx329 (by decide)) hx338 (by decide)) hx339 (by decide)) hx340 (by decide)) hx341 (by decide)) hx342 (by decide)), (by (try rw [(show n_342 88 = (n_342 88) from rfl)]); omega), (by (try rw [(show n_342 88 = (n_342 88) from rfl)]); omega), (by (try rw [(show n_342 88 = (n_342 88) from rfl)]); omega)⟩)

set_option maxHeartbeats 4000000 in
set_option maxRecDepth 100000 in
theorem k_X12_lays {l : Launch} {D : va_G} {cy : Nat → ClassId} {b : Nat} {f : gMem} {m : Nat} {a : Nat → Nat} {f0 : gMem} {n : Nat → Int32} {z : Nat → Int64} {F : Nat → Nat → Int32} {G : Nat → Nat → Int64}  {x1 x2 x3 : Int32} (hS : mS cy m a f0 n z F G f) (h83 : 0 ≤ (n 83).toInt ∧ (n 83).toInt < 120) : gC l D cy b yX12_lays cX12_lays 4 none 0 0 0 [.ref m, .int x1, .int x2, .int x3] f (pV fun f2 => ∃ (n2 : Nat → Int32) (z2 : Nat → Int64) (F2 : Nat → Nat → Int32) (G2 : Nat → Nat → Int64), mS cy m a f0 n2 z2 F2 G2 f2 ∧ fx [83] [] [84, 85, 86] [] n z F G n2 z2 F2 G2 ∧ n2 83 = n 83 + 1 ∧ F2 84 = upd (F 84) (Int32.toNatClampNeg (n 83)) x1 ∧ F2 85 = upd (F 85) (Int32.toNatClampNeg (n 83)) x2) := by
  refine gC_of (by decide) (Nat.le_of_ble_eq_true rfl) ?_
  show gG l _ _ _ D cy b cX12_lays 4 _ RX12 "lays" 0 0 f 0 [(0, .ref m), (1, .int x1), (2, .int x2), (3, .int x3)] []
  refine gz_aload_n dX12_lays_0 rfl rfl ?_
  refine mg_231 hS dX12_lays_1 ?_
  refine gz_aload_n dX12_lays_4 rfl rfl ?_
  refine mg_524 hS dX12_lays_5 ?_
  refine gz_iload_n dX12_lays_8 rfl rfl ?_
  refine m_iast 84 hS rfl (N := 120) rfl ((by exact vin_T (rfl : ((n 83)).toInt = ((n 83)).toInt) (by omega) (by omega))) dX12_lays_9 (fun f_1 hS_1q => ?_)
  have hS_1 : mS cy m a f0 n z (va_up F 84 (upd (F 84) (Int32.toNatClampNeg (n 83)) x1)) G f_1 := hS_1q
  refine gz_aload_n dX12_lays_10 rfl rfl ?_
  refine mg_234 hS_1 dX12_lays_11 ?_
  refine gz_aload_n dX12_lays_14 rfl rfl ?_
  refine mg_524 hS_1 dX12_lays_15 ?_
  refine gz_ev (w := .int (n 83)) rfl ?_
  refine gz_iload_n dX12_lays_18 rfl rfl ?_
  refine m_iast 85 hS_1 rfl (N := 120) rfl ((by exact vin_T (rfl : ((n 83)).toInt = ((n 83)).toInt) (by omega) (by omega))) dX12_lays_19 (fun f_2 hS_2q => ?_)
  have hS_2 : mS cy m a f0 n z (va_up (va_up F 84 (upd (F 84) (Int32.toNatClampNeg (n 83)) x1)) 85 (upd (F 85) (Int32.toNatClampNeg (n 83)) x2)) G f_2 := hS_2q
  refine gz_aload_n dX12_lays_20 rfl rfl ?_
  refine mg_237 hS_2 dX12_lays_21 ?_
  refine gz_aload_n dX12_lays_24 rfl rfl ?_
  refine mg_524 hS_2 dX12_lays_25 ?_
  refine gz_ev (w := .int (n 83)) rfl ?_
  refine gz_iload_n dX12_lays_28 rfl rfl ?_
  refine m_zast 86 hS_2 rfl (N := 120) rfl ((by exact vin_T (rfl : ((n 83)).toInt = ((n 83)).toInt) (by omega) (by omega))) dX12_lays_29 (fun f_3 hS_3q => ?_)
  have hS_3 : mS cy m a f0 n z (va_up (va_up (va_up F 84 (upd (F 84) (Int32.toNatClampNeg (n 83)) x1)) 85 (upd (F 85) (Int32.toNatClampNeg (n 83)) x2)) 86 (upd (F 86) (Int32.toNatClampNeg (n 83)) (vp_nar .boolean x3))) G f_3 := hS_3q
  refine gz_aload_n dX12_lays_30 rfl rfl ?_
  refine gz_dup dX12_lays_31 rfl ?_
  refine mg_524 hS_3 dX12_lays_32 ?_
  refine gz_ev (w := .int (n 83)) rfl ?_
  refine gz_iconst (v := 1) dX12_lays_35 (by decide) ?_
  refine gz_iadd dX12_lays_36 ?_
  refine mp_524 hS_3 dX12_lays_37 (fun f_4 hS_4 => ?_)
  exact gz_vret rfl dX12_lays_40 (Nat.le_of_ble_eq_true rfl) (Nat.le_of_ble_eq_true rfl) (⟨rfl, _, _, _, _, hS_4, (fx_n (fx_F (fx_F (fx_F fx_rf (by decide)) (by decide)) (by decide)) (by decide)), rfl, rfl, rfl⟩)
