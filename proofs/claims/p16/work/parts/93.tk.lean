/-! the reference: choices -/
theorem set_gt {α : Type} {d : α} : ∀ {L : List α} {k : Nat}, k < L.length → L.set k (L.getD k d) = L := by
  intro L
  induction L with
  | nil => intro k h; exact absurd h (Nat.not_lt_zero _)
  | cons a L ih =>
    intro k h
    cases k with
    | zero => rfl
    | succ k => rw [List.getD_cons_succ, List.set_cons_succ, ih (Nat.lt_of_succ_lt_succ h)]
theorem puW_id {W : Lw} {l : Nat} (h : l < W.2.2.length) : puW W l (lsW W l) = W := by
  show (W.1, W.2.1, W.2.2.set l (W.2.2.getD l lf0)) = W
  rw [set_gt h]
def chW (Tf : Nat → List Hd) (S : Sn) (kd l k hs wh : Int) (W : Lw) : Lw := if (0 ≤ l ∧ l < (W.2.2.length : Int)) ∧ (0 ≤ wh ∧ wh ≤ 1) then puW W l.toNat (dcZ (Tf (W.2.2.getD l.toNat lf0).1) S l (W.2.2.getD l.toNat lf0).2.1 (W.2.2.getD l.toNat lf0).2.2.1 kd k hs wh (lsW W l.toNat)) else W
def chR (Tf : Nat → List Hd) (S : Sn) (kd l k hs wh : Int) (W : Lw) : Int := if (0 ≤ l ∧ l < (W.2.2.length : Int)) ∧ (0 ≤ wh ∧ wh ≤ 1) then dcR (Tf (W.2.2.getD l.toNat lf0).1) S l (W.2.2.getD l.toNat lf0).2.1 (W.2.2.getD l.toNat lf0).2.2.1 kd k hs wh (lsW W l.toNat) else -1
theorem ch_n {Tf : Nat → List Hd} {S : Sn} {kd l k hs wh : Int} {W : Lw} (h : ¬ ((0 ≤ l ∧ l < (W.2.2.length : Int)) ∧ (0 ≤ wh ∧ wh ≤ 1) ∧ chB (Tf (W.2.2.getD l.toNat lf0).1) S (W.2.2.getD l.toNat lf0).2.1 (W.2.2.getD l.toNat lf0).2.2.1 kd k hs (W.2.2.getD l.toNat lf0).2.2.2.1 = true)) : chW Tf S kd l k hs wh W = W ∧ chR Tf S kd l k hs wh W = -1 := by
  unfold chW chR
  by_cases c : (0 ≤ l ∧ l < (W.2.2.length : Int)) ∧ (0 ≤ wh ∧ wh ≤ 1)
  · rw [if_pos c, if_pos c]
    obtain ⟨q1, q2⟩ := dc_n (T := Tf (W.2.2.getD l.toNat lf0).1) (S := S) (l := l) (a := (W.2.2.getD l.toNat lf0).2.1) (b := (W.2.2.getD l.toNat lf0).2.2.1) (kd := kd) (k := k) (hs := hs) (wh := wh) (Z := lsW W l.toNat) (fun z => h ⟨c.1, c.2, z⟩)
    rw [q1, q2]
    exact ⟨puW_id (by omega), rfl⟩
  · rw [if_neg c, if_neg c]
    exact ⟨rfl, rfl⟩
theorem ch_y {Tf : Nat → List Hd} {S : Sn} {kd l k hs wh : Int} {W : Lw} (h1 : 0 ≤ l ∧ l < (W.2.2.length : Int)) (h2 : 0 ≤ wh ∧ wh ≤ 1) (h3 : chB (Tf (W.2.2.getD l.toNat lf0).1) S (W.2.2.getD l.toNat lf0).2.1 (W.2.2.getD l.toNat lf0).2.2.1 kd k hs (W.2.2.getD l.toNat lf0).2.2.2.1 = true) {Z : Ls} (hZ : dpE (Tf (W.2.2.getD l.toNat lf0).1) S l (W.2.2.getD l.toNat lf0).2.1 (W.2.2.getD l.toNat lf0).2.2.1 k.toNat (chC (Tf (W.2.2.getD l.toNat lf0).1) ((W.2.2.getD l.toNat lf0).2.2.2.1.getD k.toNat (0, 0)).1 wh) (lsW W l.toNat) = Z) : chW Tf S kd l k hs wh W = puW W l.toNat Z ∧ chR Tf S kd l k hs wh W = (Z.1.length : Int) - (W.1.length : Int) := by
  unfold chW chR
  rw [if_pos ⟨h1, h2⟩, if_pos ⟨h1, h2⟩]
  obtain ⟨q1, q2⟩ := dc_y (T := Tf (W.2.2.getD l.toNat lf0).1) (S := S) (l := l) (a := (W.2.2.getD l.toNat lf0).2.1) (b := (W.2.2.getD l.toNat lf0).2.2.1) (kd := kd) (k := k) (hs := hs) (wh := wh) (Z := lsW W l.toNat) h3
  rw [q1, q2]
  subst hZ
  exact ⟨rfl, rfl⟩
theorem housF_w {x : Int32} : housF x = 0 ↔ ¬ (0 ≤ x.toInt ∧ x.toInt ≤ 7) := by
  have e0 : (0 : Int32).toInt = 0 := rfl
  have e8 : (8 : Int32).toInt = 8 := rfl
  unfold housF
  by_cases c1 : x < 0
  · rw [if_pos c1]
    rw [fl_lt, e0] at c1
    exact ⟨fun _ => by omega, fun _ => rfl⟩
  · rw [if_neg c1]
    rw [fl_lt, e0] at c1
    by_cases c2 : 8 ≤ x
    · rw [if_pos c2]
      rw [fl_le, e8] at c2
      exact ⟨fun _ => by omega, fun _ => rfl⟩
    · rw [if_neg c2]
      rw [fl_le, e8] at c2
      exact ⟨fun h => absurd h (by decide), fun h => absurd (by omega) h⟩
/-- as standing tells it -/
def stR (T : List Hd) (S : Sn) (a b k wh : Int) (Q : List Sd) : Int := if 0 ≤ k ∧ k < (Q.length : Int) then (if wh = 0 then ((Q.getD k.toNat (0, 0)).1 : Int) else if wh = 1 then (grH T (Q.getD k.toNat (0, 0)).1).1 else if wh = 2 then chT T a b (Q.getD k.toNat (0, 0)).1 else if wh = 3 then (Q.getD k.toNat (0, 0)).2 else if wh = 4 then cqT T (Q.getD k.toNat (0, 0)).1 else if wh = 5 then unT T (Q.getD k.toNat (0, 0)).1 else if wh = 6 then (if (grH T (Q.getD k.toNat (0, 0)).1).1 = 4 ∨ hlB S (grH T (Q.getD k.toNat (0, 0)).1) = true then 1 else 0) else -1) else -1
def stW (Tf : Nat → List Hd) (S : Sn) (l k wh : Int) (W : Lw) : Int := if 0 ≤ l ∧ l < (W.2.2.length : Int) then stR (Tf (W.2.2.getD l.toNat lf0).1) S (W.2.2.getD l.toNat lf0).2.1 (W.2.2.getD l.toNat lf0).2.2.1 k wh (W.2.2.getD l.toNat lf0).2.2.2.1 else -1
/-- one more LIFE -/
theorem RLs_new {n n2 : Nat → Int32} {F F2 : Nat → Nat → Int32} {G G2 : Nat → Nat → Int64} {W : Lw} {x y u : Int32} (h : RLs n F G W) (h40 : W.2.2.length < 40) (n1 : n2 1 = n 1) (n38 : n2 38 = n 38) (n30 : (n2 30).toInt = (n 30).toInt + 1) (hF : ∀ r, r ∈ [35, 36, 39, 40, 41, 42] → F2 r = F r) (hG : ∀ r, r ∈ [34, 37] → G2 r = G r) (e31 : F2 31 = upd (F 31) W.2.2.length x) (e32 : F2 32 = upd (F 32) W.2.2.length y) (e33 : F2 33 = upd (F 33) W.2.2.length u) (hx : 0 ≤ x.toInt) : RLs n2 F2 G2 (W.1, W.2.1, W.2.2 ++ [(x.toInt.toNat, y.toInt, u.toInt, [], 0)]) := by
  obtain ⟨⟨⟨a1, a2⟩, a3, a4⟩, ⟨l1, l2⟩, h3, h4⟩ := h
  obtain ⟨f1, f2⟩ := h4 W.2.2.length (Nat.le_refl _) h40
  refine ⟨⟨⟨by rw [n38]; exact a1, a2⟩, by rw [n1]; exact a3, fun i hi => ?_⟩, ⟨?_, ?_⟩, fun i hi => ?_, fun i hi hi2 => ?_⟩
  · unfold pmR
    rw [hF 39 (by decide), hF 40 (by decide), hF 41 (by decide), hF 42 (by decide)]
    exact a4 i hi
  · show (n2 30).toInt = ((W.2.2 ++ [_]).length : Int)
    rw [List.length_append, List.length_cons, List.length_nil]
    omega
  · show (W.2.2 ++ [_]).length ≤ 40
    rw [List.length_append, List.length_cons, List.length_nil]
    omega
  · have hi : i < (W.2.2 ++ [(x.toInt.toNat, y.toInt, u.toInt, ([] : List Sd), (0 : Int))]).length := hi
    rw [List.length_append, List.length_cons, List.length_nil] at hi
    show RLr F2 G2 i ((W.2.2 ++ [(x.toInt.toNat, y.toInt, u.toInt, ([] : List Sd), (0 : Int))]).getD i lf0)
    by_cases c : i = W.2.2.length
    · rw [c, gtD1]
      unfold RLr
      rw [e31, e32, e33, updE, updE, updE, if_pos rfl, if_pos rfl, if_pos rfl]
      refine ⟨⟨by show x.toInt = ((x.toInt.toNat : Nat) : Int); omega, rfl, rfl⟩, ⟨by rw [hF 35 (by decide)]; exact f1, Nat.zero_le _⟩, by rw [hG 34 (by decide)]; exact f2, fun j hj => absurd hj (Nat.not_lt_zero _)⟩
    · rw [gtD2 (by omega)]
      obtain ⟨q1, ⟨b1, b2⟩, b3, b4⟩ := h3 i (by omega)
      unfold RLr
      rw [e31, e32, e33, updE, updE, updE, if_neg c, if_neg c, if_neg c]
      refine ⟨q1, ⟨by rw [hF 35 (by decide)]; exact b1, b2⟩, by rw [hG 34 (by decide)]; exact b3, fun j hj => ?_⟩
      rw [hF 36 (by decide), hG 37 (by decide)]
      exact b4 j hj
  · have hi : (W.2.2 ++ [(x.toInt.toNat, y.toInt, u.toInt, ([] : List Sd), (0 : Int))]).length ≤ i := hi
    rw [List.length_append, List.length_cons, List.length_nil] at hi
    rw [hF 35 (by decide), hG 34 (by decide)]
    exact h4 i (by omega) hi2
def adW (Tf : Nat → List Hd) (S : Sn) (f : Nat) (a b : Int) (W : Lw) : Lw := puW (W.1, W.2.1, W.2.2 ++ [(f, a, b, [], 0)]) W.2.2.length (apS (W.2.2.length : Int) S.1 a b (ev (Tf f) S 0 1) (W.1, W.2.1, [], 0))

set_option maxHeartbeats 4000000 in
set_option maxRecDepth 100000 in
theorem k_X12_isLifeE {l : Launch} {D : va_G} {cy : Nat → ClassId} {b : Nat} {f : gMem} {m : Nat} {a : Nat → Nat} {f0 : gMem} {n : Nat → Int32} {z : Nat → Int64} {F : Nat → Nat → Int32} {G : Nat → Nat → Int64}  {x1 : Int32} (hS : mS cy m a f0 n z F G f)  : gC l D cy b yX12_isLife cX12_isLife 2 (some .boolean) 0 0 0 [.ref m, .int x1] f (pI fun r f2 => ((r = 1 ∧ (0 ≤ x1.toInt ∧ x1.toInt < (n 30).toInt)) ∨ (r = 0 ∧ ¬ (0 ≤ x1.toInt ∧ x1.toInt < (n 30).toInt))) ∧ f2 = f) := by
  refine gC_of (by decide) (Nat.le_of_ble_eq_true rfl) ?_
  show gG l _ _ _ D cy b cX12_isLife 2 _ RX12 "isLife" 0 0 f 0 [(0, .ref m), (1, .int x1)] []
  refine gz_iload_n dX12_isLife_0 rfl rfl ?_
  refine gz_if_lt (tgt := 16) dX12_isLife_1 (by decide) (fun c_1 => ?_) (fun c_1 => ?_)
  ·
    try simp only [mIn_0, lgc_lt, lgc_gt, lgc_le, lgc_ge, lgc_eq] at c_1
    try simp only [fl_lt, fl_le, fl_eq, fL_w, fL_lt, fL_le, tm1, tm10k, tm9, tm99, Int32.reduceToInt, Int64.reduceToInt, Int.not_lt, Int.not_le] at c_1
    refine gz_iconst (v := 0) dX12_isLife_16 (by decide) ?_
    exact gz_zret rfl (by first | decide | exact nrb (by assumption) | exact nrb (Or.inl rfl) | exact nrb (Or.inr rfl)) dX12_isLife_17 (Nat.le_of_ble_eq_true rfl) (Nat.le_of_ble_eq_true rfl) (⟨_, rfl, (by first | exact Or.inl ⟨rfl, by omega⟩ | exact Or.inr ⟨rfl, by omega⟩), rfl⟩)
  ·
    try simp only [mIn_0, lgc_lt, lgc_gt, lgc_le, lgc_ge, lgc_eq] at c_1
    try simp only [fl_lt, fl_le, fl_eq, fL_w, fL_lt, fL_le, tm1, tm10k, tm9, tm99, Int32.reduceToInt, Int64.reduceToInt, Int.not_lt, Int.not_le] at c_1
    refine gz_iload_n dX12_isLife_4 rfl rfl ?_
    refine gz_aload_n dX12_isLife_5 rfl rfl ?_
    refine mg_394 hS dX12_isLife_6 ?_
    refine gz_icmp_ge (tgt := 16) dX12_isLife_9 (by decide) (fun c_9 => ?_) (fun c_9 => ?_)
    ·
      try simp only [mIn_0, lgc_lt, lgc_gt, lgc_le, lgc_ge, lgc_eq] at c_9
      try simp only [fl_lt, fl_le, fl_eq, fL_w, fL_lt, fL_le, tm1, tm10k, tm9, tm99, Int32.reduceToInt, Int64.reduceToInt, Int.not_lt, Int.not_le] at c_9
      refine gz_iconst (v := 0) dX12_isLife_16 (by decide) ?_
      exact gz_zret rfl (by first | decide | exact nrb (by assumption) | exact nrb (Or.inl rfl) | exact nrb (Or.inr rfl)) dX12_isLife_17 (Nat.le_of_ble_eq_true rfl) (Nat.le_of_ble_eq_true rfl) (⟨_, rfl, (by first | exact Or.inl ⟨rfl, by omega⟩ | exact Or.inr ⟨rfl, by omega⟩), rfl⟩)
    ·
      try simp only [mIn_0, lgc_lt, lgc_gt, lgc_le, lgc_ge, lgc_eq] at c_9
      try simp only [fl_lt, fl_le, fl_eq, fL_w, fL_lt, fL_le, tm1, tm10k, tm9, tm99, Int32.reduceToInt, Int64.reduceToInt, Int.not_lt, Int.not_le] at c_9
      refine gz_iconst (v := 1) dX12_isLife_12 (by decide) ?_
      refine gz_goto (tgt := 17) dX12_isLife_13 (by decide) ?_
      exact gz_zret rfl (by first | decide | exact nrb (by assumption) | exact nrb (Or.inl rfl) | exact nrb (Or.inr rfl)) dX12_isLife_17 (Nat.le_of_ble_eq_true rfl) (Nat.le_of_ble_eq_true rfl) (⟨_, rfl, (by first | exact Or.inl ⟨rfl, by omega⟩ | exact Or.inr ⟨rfl, by omega⟩), rfl⟩)

set_option maxHeartbeats 4000000 in
set_option maxRecDepth 100000 in
theorem k_X12_isStandingE {l : Launch} {D : va_G} {cy : Nat → ClassId} {b : Nat} {f : gMem} {m : Nat} {a : Nat → Nat} {f0 : gMem} {n : Nat → Int32} {z : Nat → Int64} {F : Nat → Nat → Int32} {G : Nat → Nat → Int64}  {x1 x2 : Int32} (hS : mS cy m a f0 n z F G f) (a30 : (n 30).toInt ≤ 40) (bL : rL F (n 5).toInt (n 30).toInt) : gC l D cy b yX12_isStanding cX12_isStanding 3 (some .boolean) 1 0 0 [.ref m, .int x1, .int x2] f (pI fun r f2 => ((r = 1 ∧ (0 ≤ x1.toInt ∧ x1.toInt < (n 30).toInt ∧ 0 ≤ x2.toInt ∧ x2.toInt < (F 35 (Int32.toNatClampNeg x1)).toInt)) ∨ (r = 0 ∧ ¬ (0 ≤ x1.toInt ∧ x1.toInt < (n 30).toInt ∧ 0 ≤ x2.toInt ∧ x2.toInt < (F 35 (Int32.toNatClampNeg x1)).toInt))) ∧ f2 = f) := by
  refine gC_of (by decide) (Nat.le_of_ble_eq_true rfl) ?_
  show gG l _ _ _ D cy b cX12_isStanding 3 _ RX12 "isStanding" 0 0 f 0 [(0, .ref m), (1, .int x1), (2, .int x2)] []
  refine gz_aload_n dX12_isStanding_0 rfl rfl ?_
  refine gz_iload_n dX12_isStanding_1 rfl rfl ?_
  refine scX12_410 (k_X12_isLifeE (x1 := x1) hS) hS.1 ⟨(Nat.le_of_ble_eq_true rfl), (Nat.le_of_ble_eq_true rfl)⟩ ⟨(Nat.le_of_ble_eq_true rfl), (Nat.le_of_ble_eq_true rfl)⟩ rfl rfl (Nat.le_of_ble_eq_true rfl) dX12_isStanding_2 ?_
  rintro r_1 f9 ⟨hb_1, y9⟩; rw [y9]
  rcases hb_1 with ⟨hr1, hlf⟩ | ⟨hr1, hlf⟩
  ·
    refine gz_ev (w := .int 1) (congrArg Value.int hr1) ?_
    refine gz_if_eq (tgt := 30) dX12_isStanding_5 (by decide) (fun c_5 => ?_) (fun c_5 => ?_)
    · exact absurd c_5 (by decide)
    ·
      try simp only [mIn_0, lgc_lt, lgc_gt, lgc_le, lgc_ge, lgc_eq] at c_5
      try simp only [fl_lt, fl_le, fl_eq, fL_w, fL_lt, fL_le, tm1, tm10k, tm9, tm99, Int32.reduceToInt, Int64.reduceToInt, Int.not_lt, Int.not_le] at c_5
      refine gz_iload_n dX12_isStanding_8 rfl rfl ?_
      refine gz_i2l dX12_isStanding_9 ?_
      refine gz_lconst (v := 0) dX12_isStanding_10 (by decide) ?_
      refine gz_aload_n dX12_isStanding_11 rfl rfl ?_
      refine mg_109 hS dX12_isStanding_12 ?_
      refine gz_iload_n dX12_isStanding_15 rfl rfl ?_
      refine m_iald 35 hS rfl (N := 40) rfl ((by exact vin_T (rfl : (x1).toInt = (x1).toInt) (by omega) (by omega))) dX12_isStanding_16 ?_
      refine gz_iconst (v := 1) dX12_isStanding_17 (by decide) ?_
      refine gz_isub dX12_isStanding_18 ?_
      refine gz_i2l dX12_isStanding_19 ?_
      have qL := bL (Int32.toNatClampNeg x1) (by have := clI (i := x1) (by omega); omega)
      have qs : ((F 35 (Int32.toNatClampNeg x1)) - 1).toInt = (F 35 (Int32.toNatClampNeg x1)).toInt - 1 := T_sub rfl (show (1 : Int32).toInt = 1 from rfl) (by omega)
      refine scX12_245 (k_X12_in (x := x2.toInt64) (y := 0) (w := (((F 35) (Int32.toNatClampNeg x1)) - 1).toInt64)) ⟨(Nat.le_of_ble_eq_true rfl), (Nat.le_of_ble_eq_true rfl)⟩ ⟨(Nat.le_of_ble_eq_true rfl), (Nat.le_of_ble_eq_true rfl)⟩ rfl rfl (Nat.le_of_ble_eq_true rfl) dX12_isStanding_20 ?_
      intro v9 f9 z9; rw [z9.1, z9.2]
      refine gz_if_eq (tgt := 30) dX12_isStanding_23 (by decide) (fun c_23 => ?_) (fun c_23 => ?_)
      ·
        try simp only [mIn_0, lgc_lt, lgc_gt, lgc_le, lgc_ge, lgc_eq] at c_23
        try simp only [fl_lt, fl_le, fl_eq, fL_w, fL_lt, fL_le, tm1, tm10k, tm9, tm99, Int32.reduceToInt, Int64.reduceToInt, Int.not_lt, Int.not_le] at c_23
        refine gz_iconst (v := 0) dX12_isStanding_30 (by decide) ?_
        exact gz_zret rfl (by first | decide | exact nrb (by assumption) | exact nrb (Or.inl rfl) | exact nrb (Or.inr rfl)) dX12_isStanding_31 (Nat.le_of_ble_eq_true rfl) (Nat.le_of_ble_eq_true rfl) (⟨_, rfl, (by first | exact Or.inl ⟨rfl, by omega⟩ | exact Or.inr ⟨rfl, by omega⟩), rfl⟩)
      ·
        try simp only [mIn_0, lgc_lt, lgc_gt, lgc_le, lgc_ge, lgc_eq] at c_23
        try simp only [fl_lt, fl_le, fl_eq, fL_w, fL_lt, fL_le, tm1, tm10k, tm9, tm99, Int32.reduceToInt, Int64.reduceToInt, Int.not_lt, Int.not_le] at c_23
        refine gz_iconst (v := 1) dX12_isStanding_26 (by decide) ?_
        refine gz_goto (tgt := 31) dX12_isStanding_27 (by decide) ?_
        exact gz_zret rfl (by first | decide | exact nrb (by assumption) | exact nrb (Or.inl rfl) | exact nrb (Or.inr rfl)) dX12_isStanding_31 (Nat.le_of_ble_eq_true rfl) (Nat.le_of_ble_eq_true rfl) (⟨_, rfl, (by first | exact Or.inl ⟨rfl, by omega⟩ | exact Or.inr ⟨rfl, by omega⟩), rfl⟩)
  ·
    refine gz_ev (w := .int 0) (congrArg Value.int hr1) ?_
    refine gz_if_eq (tgt := 30) dX12_isStanding_5 (by decide) (fun c_5 => ?_) (fun c_5 => ?_)
    ·
      try simp only [mIn_0, lgc_lt, lgc_gt, lgc_le, lgc_ge, lgc_eq] at c_5
      try simp only [fl_lt, fl_le, fl_eq, fL_w, fL_lt, fL_le, tm1, tm10k, tm9, tm99, Int32.reduceToInt, Int64.reduceToInt, Int.not_lt, Int.not_le] at c_5
      refine gz_iconst (v := 0) dX12_isStanding_30 (by decide) ?_
      exact gz_zret rfl (by first | decide | exact nrb (by assumption) | exact nrb (Or.inl rfl) | exact nrb (Or.inr rfl)) dX12_isStanding_31 (Nat.le_of_ble_eq_true rfl) (Nat.le_of_ble_eq_true rfl) (⟨_, rfl, (by first | exact Or.inl ⟨rfl, by omega⟩ | exact Or.inr ⟨rfl, by omega⟩), rfl⟩)
    · exact absurd c_5 (by decide)

set_option maxHeartbeats 4000000 in
set_option maxRecDepth 100000 in
theorem k_X12_standsE {l : Launch} {D : va_G} {cy : Nat → ClassId} {b : Nat} {f : gMem} {m : Nat} {a : Nat → Nat} {f0 : gMem} {n : Nat → Int32} {z : Nat → Int64} {F : Nat → Nat → Int32} {G : Nat → Nat → Int64}  {x1 : Int32} {W : Lw} (hS : mS cy m a f0 n z F G f) (hs : RLs n F G W) : gC l D cy b yX12_stands cX12_stands 2 (some .int) 1 0 0 [.ref m, .int x1] f (pI fun r f2 => r.toInt = (if 0 ≤ x1.toInt ∧ x1.toInt < (W.2.2.length : Int) then ((W.2.2.getD x1.toInt.toNat lf0).2.2.2.1.length : Int) else -1) ∧ f2 = f) := by
  have z30 := hs.2.1
  refine gC_of (by decide) (Nat.le_of_ble_eq_true rfl) ?_
  show gG l _ _ _ D cy b cX12_stands 2 _ RX12 "stands" 0 0 f 0 [(0, .ref m), (1, .int x1)] []
  refine gz_aload_n dX12_stands_0 rfl rfl ?_
  refine gz_iload_n dX12_stands_1 rfl rfl ?_
  refine scX12_410 (k_X12_isLifeE (x1 := x1) hS) hS.1 ⟨(Nat.le_of_ble_eq_true rfl), (Nat.le_of_ble_eq_true rfl)⟩ ⟨(Nat.le_of_ble_eq_true rfl), (Nat.le_of_ble_eq_true rfl)⟩ rfl rfl (Nat.le_of_ble_eq_true rfl) dX12_stands_2 ?_
  rintro r_1 f9 ⟨hb_1, y9⟩; rw [y9]
  rcases hb_1 with ⟨hr1, hlf⟩ | ⟨hr1, hlf⟩
  ·
    refine gz_ev (w := .int 1) (congrArg Value.int hr1) ?_
    refine gz_if_eq (tgt := 17) dX12_stands_5 (by decide) (fun c_5 => ?_) (fun c_5 => ?_)
    · exact absurd c_5 (by decide)
    ·
      try simp only [mIn_0, lgc_lt, lgc_gt, lgc_le, lgc_ge, lgc_eq] at c_5
      try simp only [fl_lt, fl_le, fl_eq, fL_w, fL_lt, fL_le, tm1, tm10k, tm9, tm99, Int32.reduceToInt, Int64.reduceToInt, Int.not_lt, Int.not_le] at c_5
      refine gz_aload_n dX12_stands_8 rfl rfl ?_
      refine mg_109 hS dX12_stands_9 ?_
      refine gz_iload_n dX12_stands_12 rfl rfl ?_
      refine m_iald 35 hS rfl (N := 40) rfl ((by exact vin_T (rfl : x1.toInt = x1.toInt) (by omega) (by omega))) dX12_stands_13 ?_
      refine gz_goto (tgt := 18) dX12_stands_14 (by decide) ?_
      have z8 := hs.2.1
      exact gz_iret rfl dX12_stands_18 (Nat.le_of_ble_eq_true rfl) (Nat.le_of_ble_eq_true rfl) (⟨_, rfl, (by rw [if_pos (by omega)]; have z9 := (hs.2.2.1 x1.toInt.toNat (by omega)).2.1.1; exact z9), rfl⟩)
  ·
    refine gz_ev (w := .int 0) (congrArg Value.int hr1) ?_
    refine gz_if_eq (tgt := 17) dX12_stands_5 (by decide) (fun c_5 => ?_) (fun c_5 => ?_)
    ·
      try simp only [mIn_0, lgc_lt, lgc_gt, lgc_le, lgc_ge, lgc_eq] at c_5
      try simp only [fl_lt, fl_le, fl_eq, fL_w, fL_lt, fL_le, tm1, tm10k, tm9, tm99, Int32.reduceToInt, Int64.reduceToInt, Int.not_lt, Int.not_le] at c_5
      refine gz_iconst (v := (-1)) dX12_stands_17 (by decide) ?_
      have z8 := hs.2.1
      exact gz_iret rfl dX12_stands_18 (Nat.le_of_ble_eq_true rfl) (Nat.le_of_ble_eq_true rfl) (⟨_, rfl, (by rw [if_neg (by omega)]; rfl), rfl⟩)
    · exact absurd c_5 (by decide)

set_option maxHeartbeats 4000000 in
set_option maxRecDepth 100000 in
theorem k_X12_gotE {l : Launch} {D : va_G} {cy : Nat → ClassId} {b : Nat} {f : gMem} {m : Nat} {a : Nat → Nat} {f0 : gMem} {n : Nat → Int32} {z : Nat → Int64} {F : Nat → Nat → Int32} {G : Nat → Nat → Int64}  {x1 : Int32} {W : Lw} (hS : mS cy m a f0 n z F G f) (hs : RLs n F G W) : gC l D cy b yX12_got cX12_got 2 (some .long) 1 0 0 [.ref m, .int x1] f (pL fun r f2 => r = Int64.ofInt (if 0 ≤ x1.toInt ∧ x1.toInt < (W.2.2.length : Int) then (W.2.2.getD x1.toInt.toNat lf0).2.2.2.2 else 0) ∧ f2 = f) := by
  have z30 := hs.2.1
  refine gC_of (by decide) (Nat.le_of_ble_eq_true rfl) ?_
  show gG l _ _ _ D cy b cX12_got 2 _ RX12 "got" 0 0 f 0 [(0, .ref m), (1, .int x1)] []
  refine gz_aload_n dX12_got_0 rfl rfl ?_
  refine gz_iload_n dX12_got_1 rfl rfl ?_
  refine scX12_410 (k_X12_isLifeE (x1 := x1) hS) hS.1 ⟨(Nat.le_of_ble_eq_true rfl), (Nat.le_of_ble_eq_true rfl)⟩ ⟨(Nat.le_of_ble_eq_true rfl), (Nat.le_of_ble_eq_true rfl)⟩ rfl rfl (Nat.le_of_ble_eq_true rfl) dX12_got_2 ?_
  rintro r_1 f9 ⟨hb_1, y9⟩; rw [y9]
  rcases hb_1 with ⟨hr1, hlf⟩ | ⟨hr1, hlf⟩
  ·
    refine gz_ev (w := .int 1) (congrArg Value.int hr1) ?_
    refine gz_if_eq (tgt := 17) dX12_got_5 (by decide) (fun c_5 => ?_) (fun c_5 => ?_)
    · exact absurd c_5 (by decide)
    ·
      try simp only [mIn_0, lgc_lt, lgc_gt, lgc_le, lgc_ge, lgc_eq] at c_5
      try simp only [fl_lt, fl_le, fl_eq, fL_w, fL_lt, fL_le, tm1, tm10k, tm9, tm99, Int32.reduceToInt, Int64.reduceToInt, Int.not_lt, Int.not_le] at c_5
      refine gz_aload_n dX12_got_8 rfl rfl ?_
      refine mg_106 hS dX12_got_9 ?_
      refine gz_iload_n dX12_got_12 rfl rfl ?_
      refine m_lald 34 hS rfl (N := 40) rfl ((by exact vin_T (rfl : x1.toInt = x1.toInt) (by omega) (by omega))) dX12_got_13 ?_
      refine gz_goto (tgt := 18) dX12_got_14 (by decide) ?_
      have z8 := hs.2.1
      exact gz_lret rfl dX12_got_18 (Nat.le_of_ble_eq_true rfl) (Nat.le_of_ble_eq_true rfl) (⟨_, rfl, (by rw [if_pos (by omega)]; have z9 := (hs.2.2.1 x1.toInt.toNat (by omega)).2.2.1; exact z9), rfl⟩)
  ·
    refine gz_ev (w := .int 0) (congrArg Value.int hr1) ?_
    refine gz_if_eq (tgt := 17) dX12_got_5 (by decide) (fun c_5 => ?_) (fun c_5 => ?_)
    ·
      try simp only [mIn_0, lgc_lt, lgc_gt, lgc_le, lgc_ge, lgc_eq] at c_5
      try simp only [fl_lt, fl_le, fl_eq, fL_w, fL_lt, fL_le, tm1, tm10k, tm9, tm99, Int32.reduceToInt, Int64.reduceToInt, Int.not_lt, Int.not_le] at c_5
      refine gz_lconst (v := 0) dX12_got_17 (by decide) ?_
      have z8 := hs.2.1
      exact gz_lret rfl dX12_got_18 (Nat.le_of_ble_eq_true rfl) (Nat.le_of_ble_eq_true rfl) (⟨_, rfl, (by rw [if_neg (by omega)]; rfl), rfl⟩)
    · exact absurd c_5 (by decide)

set_option maxHeartbeats 4000000 in
set_option maxRecDepth 100000 in
theorem k_X12_paymentE {l : Launch} {D : va_G} {cy : Nat → ClassId} {b : Nat} {f : gMem} {m : Nat} {a : Nat → Nat} {f0 : gMem} {n : Nat → Int32} {z : Nat → Int64} {F : Nat → Nat → Int32} {G : Nat → Nat → Int64}  {x1 x2 : Int32} {W : Lw} (hS : mS cy m a f0 n z F G f) (hs : RLs n F G W) : gC l D cy b yX12_payment cX12_payment 3 (some .int) 1 0 0 [.ref m, .int x1, .int x2] f (pI fun r f2 => r.toInt = (if 0 ≤ x1.toInt ∧ x1.toInt < (W.1.length : Int) then (if x2.toInt = 0 then (W.1.getD x1.toInt.toNat pm0).1 else if x2.toInt = 1 then (W.1.getD x1.toInt.toNat pm0).2.1 else if x2.toInt = 2 then (W.1.getD x1.toInt.toNat pm0).2.2.1 else if x2.toInt = 3 then (W.1.getD x1.toInt.toNat pm0).2.2.2.1 else -10000000) else -10000000) ∧ f2 = f) := by
  refine gC_of (by decide) (Nat.le_of_ble_eq_true rfl) ?_
  show gG l _ _ _ D cy b cX12_payment 3 _ RX12 "payment" 0 0 f 0 [(0, .ref m), (1, .int x1), (2, .int x2)] []
  refine gz_iload_n dX12_payment_0 rfl rfl ?_
  refine gz_i2l dX12_payment_1 ?_
  refine gz_lconst (v := 0) dX12_payment_2 (by decide) ?_
  refine gz_aload_n dX12_payment_3 rfl rfl ?_
  refine mg_364 hS dX12_payment_4 ?_
  refine gz_iconst (v := 1) dX12_payment_7 (by decide) ?_
  refine gz_isub dX12_payment_8 ?_
  refine gz_i2l dX12_payment_9 ?_
  have qs : ((n 38) - 1).toInt = (n 38).toInt - 1 := T_sub rfl (show (1 : Int32).toInt = 1 from rfl) (by have z9 := hs.1.1; omega)
  refine scX12_245 (k_X12_in (x := x1.toInt64) (y := 0) (w := ((n 38) - 1).toInt64)) ⟨(Nat.le_of_ble_eq_true rfl), (Nat.le_of_ble_eq_true rfl)⟩ ⟨(Nat.le_of_ble_eq_true rfl), (Nat.le_of_ble_eq_true rfl)⟩ rfl rfl (Nat.le_of_ble_eq_true rfl) dX12_payment_10 ?_
  intro v9 f9 z9; rw [z9.1, z9.2]
  refine gz_if_ne (tgt := 20) dX12_payment_13 (by decide) (fun c_13 => ?_) (fun c_13 => ?_)
  ·
    try simp only [mIn_0, lgc_lt, lgc_gt, lgc_le, lgc_ge, lgc_eq] at c_13
    try simp only [fl_lt, fl_le, fl_eq, fL_w, fL_lt, fL_le, tm1, tm10k, tm9, tm99, Int32.reduceToInt, Int64.reduceToInt, Int.not_lt, Int.not_le] at c_13
    refine gz_iload_n dX12_payment_20 rfl rfl ?_
    by_cases hw_21_0 : x2 = 0
    ·
      refine gz_ev (w := .int 0) (congrArg Value.int hw_21_0) ?_
      refine gz_tableIn (off := 31) (tgt := 52) dX12_payment_21 (by decide) (by decide) rfl (by decide) ?_
      refine gz_aload_n dX12_payment_52 rfl rfl ?_
      refine mg_118 hS dX12_payment_53 ?_
      refine gz_iload_n dX12_payment_56 rfl rfl ?_
      refine m_iald 39 hS rfl (N := 2000) rfl ((by exact vin_T (rfl : x1.toInt = x1.toInt) (by have z9 := hs.1.1; omega) (by have z9 := hs.1.1; omega))) dX12_payment_57 ?_
      have z38 := hs.1.1
      have zs0 : x2.toInt = 0 := by rw [hw_21_0]; rfl
      exact gz_iret rfl dX12_payment_58 (Nat.le_of_ble_eq_true rfl) (Nat.le_of_ble_eq_true rfl) (⟨_, rfl, (by rw [if_pos (by omega), if_pos (by omega)]; exact (hs.1.2.2 x1.toInt.toNat (by omega)).1), rfl⟩)
    ·
      by_cases hw_21_1 : x2 = 1
      ·
        refine gz_ev (w := .int 1) (congrArg Value.int hw_21_1) ?_
        refine gz_tableIn (off := 38) (tgt := 59) dX12_payment_21 (by decide) (by decide) rfl (by decide) ?_
        refine gz_aload_n dX12_payment_59 rfl rfl ?_
        refine mg_121 hS dX12_payment_60 ?_
        refine gz_iload_n dX12_payment_63 rfl rfl ?_
        refine m_iald 40 hS rfl (N := 2000) rfl ((by exact vin_T (rfl : x1.toInt = x1.toInt) (by have z9 := hs.1.1; omega) (by have z9 := hs.1.1; omega))) dX12_payment_64 ?_
        have z38 := hs.1.1
        have zs0 : x2.toInt ≠ 0 := fun e => hw_21_0 (Int32.toInt_inj.mp (e.trans rfl))
        have zs1 : x2.toInt = 1 := by rw [hw_21_1]; rfl
        exact gz_iret rfl dX12_payment_65 (Nat.le_of_ble_eq_true rfl) (Nat.le_of_ble_eq_true rfl) (⟨_, rfl, (by rw [if_pos (by omega), if_neg (by omega), if_pos (by omega)]; exact (hs.1.2.2 x1.toInt.toNat (by omega)).2.1), rfl⟩)
      ·
        by_cases hw_21_2 : x2 = 2
        ·
          refine gz_ev (w := .int 2) (congrArg Value.int hw_21_2) ?_
          refine gz_tableIn (off := 45) (tgt := 66) dX12_payment_21 (by decide) (by decide) rfl (by decide) ?_
          refine gz_aload_n dX12_payment_66 rfl rfl ?_
          refine mg_124 hS dX12_payment_67 ?_
          refine gz_iload_n dX12_payment_70 rfl rfl ?_
          refine m_iald 41 hS rfl (N := 2000) rfl ((by exact vin_T (rfl : x1.toInt = x1.toInt) (by have z9 := hs.1.1; omega) (by have z9 := hs.1.1; omega))) dX12_payment_71 ?_
          have z38 := hs.1.1
          have zs0 : x2.toInt ≠ 0 := fun e => hw_21_0 (Int32.toInt_inj.mp (e.trans rfl))
          have zs1 : x2.toInt ≠ 1 := fun e => hw_21_1 (Int32.toInt_inj.mp (e.trans rfl))
          have zs2 : x2.toInt = 2 := by rw [hw_21_2]; rfl
          exact gz_iret rfl dX12_payment_72 (Nat.le_of_ble_eq_true rfl) (Nat.le_of_ble_eq_true rfl) (⟨_, rfl, (by rw [if_pos (by omega), if_neg (by omega), if_neg (by omega), if_pos (by omega)]; exact (hs.1.2.2 x1.toInt.toNat (by omega)).2.2.1), rfl⟩)
        ·
          by_cases hw_21_3 : x2 = 3
          ·
            refine gz_ev (w := .int 3) (congrArg Value.int hw_21_3) ?_
            refine gz_tableIn (off := 52) (tgt := 73) dX12_payment_21 (by decide) (by decide) rfl (by decide) ?_
            refine gz_aload_n dX12_payment_73 rfl rfl ?_
            refine mg_127 hS dX12_payment_74 ?_
            refine gz_iload_n dX12_payment_77 rfl rfl ?_
            refine m_iald 42 hS rfl (N := 2000) rfl ((by exact vin_T (rfl : x1.toInt = x1.toInt) (by have z9 := hs.1.1; omega) (by have z9 := hs.1.1; omega))) dX12_payment_78 ?_
            have z38 := hs.1.1
            have zs0 : x2.toInt ≠ 0 := fun e => hw_21_0 (Int32.toInt_inj.mp (e.trans rfl))
            have zs1 : x2.toInt ≠ 1 := fun e => hw_21_1 (Int32.toInt_inj.mp (e.trans rfl))
            have zs2 : x2.toInt ≠ 2 := fun e => hw_21_2 (Int32.toInt_inj.mp (e.trans rfl))
            have zs3 : x2.toInt = 3 := by rw [hw_21_3]; rfl
            exact gz_iret rfl dX12_payment_79 (Nat.le_of_ble_eq_true rfl) (Nat.le_of_ble_eq_true rfl) (⟨_, rfl, (by rw [if_pos (by omega), if_neg (by omega), if_neg (by omega), if_neg (by omega), if_pos (by omega)]; exact (hs.1.2.2 x1.toInt.toNat (by omega)).2.2.2), rfl⟩)
          ·
            refine gz_tableOut (tgt := 80) dX12_payment_21 (by have g0 : x2.toInt ≠ 0 := fun e => hw_21_0 (Int32.toInt_inj.mp (e.trans rfl)); have g1 : x2.toInt ≠ 1 := fun e => hw_21_1 (Int32.toInt_inj.mp (e.trans rfl)); have g2 : x2.toInt ≠ 2 := fun e => hw_21_2 (Int32.toInt_inj.mp (e.trans rfl)); have g3 : x2.toInt ≠ 3 := fun e => hw_21_3 (Int32.toInt_inj.mp (e.trans rfl)); omega) (by decide) ?_
            refine gz_ldcw (v := (-10000000)) wd_949 dX12_payment_80 ?_
            have z38 := hs.1.1
            have zs0 : x2.toInt ≠ 0 := fun e => hw_21_0 (Int32.toInt_inj.mp (e.trans rfl))
            have zs1 : x2.toInt ≠ 1 := fun e => hw_21_1 (Int32.toInt_inj.mp (e.trans rfl))
            have zs2 : x2.toInt ≠ 2 := fun e => hw_21_2 (Int32.toInt_inj.mp (e.trans rfl))
            have zs3 : x2.toInt ≠ 3 := fun e => hw_21_3 (Int32.toInt_inj.mp (e.trans rfl))
            exact gz_iret rfl dX12_payment_83 (Nat.le_of_ble_eq_true rfl) (Nat.le_of_ble_eq_true rfl) (⟨_, rfl, (by rw [if_pos (by omega), if_neg (by omega), if_neg (by omega), if_neg (by omega), if_neg (by omega)]; rfl), rfl⟩)
  ·
    try simp only [mIn_0, lgc_lt, lgc_gt, lgc_le, lgc_ge, lgc_eq] at c_13
    try simp only [fl_lt, fl_le, fl_eq, fL_w, fL_lt, fL_le, tm1, tm10k, tm9, tm99, Int32.reduceToInt, Int64.reduceToInt, Int.not_lt, Int.not_le] at c_13
    refine gz_ldcw (v := (-10000000)) wd_949 dX12_payment_16 ?_
    have z38 := hs.1.1
    exact gz_iret rfl dX12_payment_19 (Nat.le_of_ble_eq_true rfl) (Nat.le_of_ble_eq_true rfl) (⟨_, rfl, (by rw [if_neg (by omega)]; rfl), rfl⟩)

set_option maxHeartbeats 4000000 in
set_option maxRecDepth 100000 in
theorem k_X12_takeE {l : Launch} {D : va_G} {cy : Nat → ClassId} {b : Nat} {f : gMem} {m : Nat} {a : Nat → Nat} {f0 : gMem} {n : Nat → Int32} {z : Nat → Int64} {F : Nat → Nat → Int32} {G : Nat → Nat → Int64}  {x1 x2 x3 : Int32} {Tf : Nat → List Hd} {W : Lw} (hS : mS cy m a f0 n z F G f) (hR : RI n F) (hs : RLs n F G W) (hok : okW (n 5).toInt Tf W) (hLX : ∀ f : Nat, (f : Int) < (n 5).toInt → LX F f (Tf f)) : gC l D cy b yX12_take cX12_take 8 (some .int) 4 0 0 [.ref m, .int x1, .int x2, .int x3] f (pI fun r f2 => ∃ (n2 : Nat → Int32) (z2 : Nat → Int64) (F2 : Nat → Nat → Int32) (G2 : Nat → Nat → Int64), mS cy m a f0 n2 z2 F2 G2 f2 ∧ fx [1, 38, 43] [29] [35, 36, 39, 40, 41, 42, 44] [28, 34, 37, 45] n z F G n2 z2 F2 G2 ∧ RI n2 F2 ∧ RLs n2 F2 G2 (chW Tf (sNow (n 0) (F 2)) 7 x1.toInt x2.toInt x3.toInt 0 W) ∧ r.toInt = chR Tf (sNow (n 0) (F 2)) 7 x1.toInt x2.toInt x3.toInt 0 W) := by
  obtain ⟨a0, a4, a5, bA, bW, a30, bL, a38, bP, a53, a47, a88⟩ := id hR
  refine gC_of (by decide) (Nat.le_of_ble_eq_true rfl) ?_
  show gG l _ _ _ D cy b cX12_take 8 _ RX12 "take" 0 0 f 0 [(0, .ref m), (1, .int x1), (2, .int x2), (3, .int x3)] []
  refine gz_aload_n dX12_take_0 rfl rfl ?_
  refine gz_iload_n dX12_take_1 rfl rfl ?_
  refine gz_iload_n dX12_take_2 rfl rfl ?_
  refine scX12_416 (k_X12_isStandingE (x1 := x1) (x2 := x2) hS a30.2 bL) hS.1 ⟨(Nat.le_of_ble_eq_true rfl), (Nat.le_of_ble_eq_true rfl)⟩ ⟨(Nat.le_of_ble_eq_true rfl), (Nat.le_of_ble_eq_true rfl)⟩ rfl rfl (Nat.le_of_ble_eq_true rfl) dX12_take_3 ?_
  rintro r_1 f9 ⟨hb_1, y9⟩; rw [y9]
  rcases hb_1 with ⟨hr1, hst⟩ | ⟨hr1, hst⟩
  ·
    refine gz_ev (w := .int 1) (congrArg Value.int hr1) ?_
    refine gz_if_ne (tgt := 11) dX12_take_6 (by decide) (fun c_6 => ?_) (fun c_6 => ?_)
    ·
      try simp only [mIn_0, lgc_lt, lgc_gt, lgc_le, lgc_ge, lgc_eq] at c_6
      try simp only [fl_lt, fl_le, fl_eq, fL_w, fL_lt, fL_le, tm1, tm10k, tm9, tm99, Int32.reduceToInt, Int64.reduceToInt, Int.not_lt, Int.not_le] at c_6
      refine gz_aload_n dX12_take_11 rfl rfl ?_
      refine mg_112 hS dX12_take_12 ?_
      refine gz_bipush (v := 40) dX12_take_15 (by decide) ?_
      refine gz_iload_n dX12_take_17 rfl rfl ?_
      refine gz_imul dX12_take_18 ?_
      refine gz_iload_n dX12_take_19 rfl rfl ?_
      refine gz_iadd dX12_take_20 ?_
      refine m_iald 36 hS rfl (N := 1600) rfl ((by have z9 := hs.2.1; have qL9 := bL (Int32.toNatClampNeg x1) (by have := clI (i := x1) (by omega); omega); have q9 := (T_add (T_mul (show (40 : Int32).toInt = 40 from rfl) (rfl : (x1).toInt = (x1).toInt) (by omega)) (rfl : (x2).toInt = (x2).toInt) (by omega)); exact vin_T q9 (by omega) (by omega))) dX12_take_21 ?_
      have qst : 0 ≤ x1.toInt ∧ x1.toInt < (n 30).toInt ∧ 0 ≤ x2.toInt ∧ x2.toInt < (F 35 (Int32.toNatClampNeg x1)).toInt := hst
      have ecl : (Int32.toNatClampNeg x1) = x1.toInt.toNat := rfl
      have hl40 : x1.toInt < 40 := by have z9 := hs.2.1; omega
      have hlW : x1.toInt.toNat < W.2.2.length := by have z9 := hs.2.1.1; omega
      obtain ⟨hfc, hQ⟩ := hok x1.toInt.toNat hlW
      have hX := hLX (W.2.2.getD x1.toInt.toNat lf0).1 hfc
      have hfo : (W.2.2.getD x1.toInt.toNat lf0).1 < 20 := by omega
      have hSt := RLs_get hs hlW
      have hkl : x2.toInt.toNat < (W.2.2.getD x1.toInt.toNat lf0).2.2.2.1.length := by have z9 : (F 35 (Int32.toNatClampNeg x1)).toInt = ((W.2.2.getD x1.toInt.toNat lf0).2.2.2.1.length : Int) := hSt.2.1.1; omega
      have he_ := hSt.2.2.2 x2.toInt.toNat hkl
      have he1 : (F 36 (40 * x1.toInt.toNat + x2.toInt.toNat)).toInt = 40 * ((W.2.2.getD x1.toInt.toNat lf0).1 : Int) + (((W.2.2.getD x1.toInt.toNat lf0).2.2.2.1.getD x2.toInt.toNat (0, 0)).1 : Int) := he_.1
      have he2 : (G 37 (40 * x1.toInt.toNat + x2.toInt.toNat)).toInt = ((W.2.2.getD x1.toInt.toNat lf0).2.2.2.1.getD x2.toInt.toNat (0, 0)).2 := he_.2
      have hsd := hQ.2 _ (gtD_mem (d := (0, 0)) hkl)
      have qc1 := clI (i := x1) (by omega)
      have qL := bL (Int32.toNatClampNeg x1) (by omega)
      have qc2 := clI (i := x2) (by omega)
      have qi : (40 * x1 + x2).toInt = 40 * x1.toInt + x2.toInt := T_add (T_mul (show (40 : Int32).toInt = 40 from rfl) rfl (by omega)) rfl (by omega)
      have ecq : Int32.toNatClampNeg (40 * x1 + x2) = 40 * x1.toInt.toNat + x2.toInt.toNat := by have := clI (i := 40 * x1 + x2) (by omega); omega
      obtain ⟨wv, hwv⟩ : ∃ wv, wv = ((F 36) (Int32.toNatClampNeg ((40 * x1) + x2))) := ⟨_, rfl⟩
      refine gz_ev (w := .int wv) (congrArg Value.int hwv.symm) ?_
      have hv : vS F (n 5).toInt wv := by rw [hwv, show Int32.toNatClampNeg (40 * x1 + x2) = 40 * (Int32.toNatClampNeg x1) + Int32.toNatClampNeg x2 by have := clI (i := 40 * x1 + x2) (by omega); omega]; exact rL_S bL (by omega) (by omega)
      have qv := vW_lt bW a5 hv.1
      have qk : (F 7 (Int32.toNatClampNeg wv)).toInt = 4 ∨ (F 7 (Int32.toNatClampNeg wv)).toInt = 6 ∨ (F 7 (Int32.toNatClampNeg wv)).toInt = 7 := hv.2
      have hwx : wv.toInt = 40 * ((W.2.2.getD x1.toInt.toNat lf0).1 : Int) + (((W.2.2.getD x1.toInt.toNat lf0).2.2.2.1.getD x2.toInt.toNat (0, 0)).1 : Int) ∧ ((W.2.2.getD x1.toInt.toNat lf0).2.2.2.1.getD x2.toInt.toNat (0, 0)).1 < (Tf (W.2.2.getD x1.toInt.toNat lf0).1).length := ⟨by rw [hwv, ecq]; exact he1, hsd.1⟩
      have hT4 := hX.1.2.2.2.1
      have hokT := hX.1.1
      have hvT_ := hX.1.2.1
      obtain ⟨xd, xv, xo1, xo2, _⟩ := LX_at bA hfo hX hwx.2
      have ecw : Int32.toNatClampNeg wv = 40 * (W.2.2.getD x1.toInt.toNat lf0).1 + ((W.2.2.getD x1.toInt.toNat lf0).2.2.2.1.getD x2.toInt.toNat (0, 0)).1 := by rw [clN]; omega
      rw [← ecw] at xd xo1 xo2
      have qkd := xd.1
      have hak := arH_k xv
      have hch := st_ch hokT hvT_ hsd
      have hfw : RLr F G x1.toInt.toNat (W.2.2.getD x1.toInt.toNat lf0) := hs.2.2.1 x1.toInt.toNat hlW
      refine gz_istore (lv' := [(4, .int wv), (0, .ref m), (1, .int x1), (2, .int x2), (3, .int x3)]) dX12_take_22 (by decide) rfl ?_
      refine gz_aload_n dX12_take_24 rfl rfl ?_
      refine mg_115 hS dX12_take_25 ?_
      refine gz_bipush (v := 40) dX12_take_28 (by decide) ?_
      refine gz_iload_n dX12_take_30 rfl rfl ?_
      refine gz_imul dX12_take_31 ?_
      refine gz_iload_n dX12_take_32 rfl rfl ?_
      refine gz_iadd dX12_take_33 ?_
      refine m_lald 37 hS rfl (N := 1600) rfl ((by have z9 := hs.2.1; have qL9 := bL (Int32.toNatClampNeg x1) (by have := clI (i := x1) (by omega); omega); have q9 := (T_add (T_mul (show (40 : Int32).toInt = 40 from rfl) (rfl : (x1).toInt = (x1).toInt) (by omega)) (rfl : (x2).toInt = (x2).toInt) (by omega)); exact vin_T q9 (by omega) (by omega))) dX12_take_34 ?_
      obtain ⟨fv, hfv⟩ : ∃ fv, fv = ((G 37) (Int32.toNatClampNeg ((40 * x1) + x2))) := ⟨_, rfl⟩
      refine gz_ev (w := .long fv) (congrArg Value.long hfv.symm) ?_
      have hfy : fv.toInt = ((W.2.2.getD x1.toInt.toNat lf0).2.2.2.1.getD x2.toInt.toNat (0, 0)).2 := by rw [hfv, ecq]; exact he2
      refine gz_lstore (lv' := [(5, .long fv), (4, .int wv), (0, .ref m), (1, .int x1), (2, .int x2), (3, .int x3)]) dX12_take_35 (by decide) rfl ?_
      refine gz_aload_n dX12_take_37 rfl rfl ?_
      refine scX12_400 (k_X12_asNowE hS a0) hS.1 ⟨(Nat.le_of_ble_eq_true rfl), (Nat.le_of_ble_eq_true rfl)⟩ ⟨(Nat.le_of_ble_eq_true rfl), (Nat.le_of_ble_eq_true rfl)⟩ rfl rfl (Nat.le_of_ble_eq_true rfl) dX12_take_38 ?_
      rintro f_2 ⟨n_2, z_2, F_2, G_2, hS_2, hx2, hsc_2⟩
      have hxa := hx2
      have hsR := hsc_2
      have hXa := (LX_cg (fun r h1 h2 => hxa.2.2.1 r (fun h => by simp only [List.mem_cons, List.not_mem_nil, or_false] at h <;> omega)) hX)
      have bAa := rAll_w (fun k hk => hxa.2.2.1 k ((by decide : ∀ k : Nat, k ∈ wK → k ∉ ([] : List Nat)) k hk)) bA
      refine gz_aload_n dX12_take_41 rfl rfl ?_
      refine mg_20 hS_2 dX12_take_42 ?_
      refine gz_iload dX12_take_45 rfl ?_
      refine m_iald 7 hS_2 rfl (N := 880) rfl ((by exact vin_T (rfl : (wv).toInt = (wv).toInt) (by omega) (by omega))) dX12_take_47 ?_
      refine gz_ev (w := .int ((F 7) (Int32.toNatClampNeg wv))) (congrArg Value.int (congrFun (hx2.2.2.1 7 (by decide)) _)) ?_
      refine gz_bipush (v := 7) dX12_take_48 (by decide) ?_
      refine gz_icmp_ne (tgt := 82) dX12_take_50 (by decide) (fun c_50 => ?_) (fun c_50 => ?_)
      ·
        try simp only [mIn_0, lgc_lt, lgc_gt, lgc_le, lgc_ge, lgc_eq] at c_50
        try simp only [fl_lt, fl_le, fl_eq, fL_w, fL_lt, fL_le, tm1, tm10k, tm9, tm99, Int32.reduceToInt, Int64.reduceToInt, Int.not_lt, Int.not_le] at c_50
        refine gz_iconst (v := (-1)) dX12_take_82 (by decide) ?_
        have hxx : fx [1, 38, 43] [29] [35, 36, 39, 40, 41, 42, 44] [28, 34, 37, 45] n z F G n_2 z_2 F_2 G_2 := (fx_tr fx_rf hx2 (by decide))
        have hno : ¬ ((0 ≤ x1.toInt ∧ x1.toInt < (W.2.2.length : Int)) ∧ (0 ≤ (0 : Int) ∧ (0 : Int) ≤ 1) ∧ chB (Tf (W.2.2.getD x1.toInt.toNat lf0).1) (sNow (n 0) (F 2)) (W.2.2.getD x1.toInt.toNat lf0).2.1 (W.2.2.getD x1.toInt.toNat lf0).2.2.1 7 x2.toInt x3.toInt (W.2.2.getD x1.toInt.toNat lf0).2.2.2.1 = true) := fun ⟨z1, z2, z3⟩ => by
          have h9 := chB_st.mp z3
          have h93 := h9.2.2.1
          have h94 := h9.2.2.2.1
          omega
        obtain ⟨cn1, cn2⟩ := ch_n (Tf := Tf) (S := (sNow (n 0) (F 2))) hno
        exact gz_iret rfl dX12_take_83 (Nat.le_of_ble_eq_true rfl) (Nat.le_of_ble_eq_true rfl) (⟨_, rfl, _, _, _, _, hS_2, hxx, (RI_fx hR hxa (by decide) (by decide)), (by rw [cn1]; exact (RLs_cg hs (fun k hk => hxa.1 k (by revert hk; revert k; decide)) (fun r hr => hxa.2.2.1 r (by revert hr; revert r; decide)) (fun r hr => hxa.2.2.2 r (by revert hr; revert r; decide)))), (by rw [cn2]; rfl)⟩)
      ·
        try simp only [mIn_0, lgc_lt, lgc_gt, lgc_le, lgc_ge, lgc_eq] at c_50
        try simp only [fl_lt, fl_le, fl_eq, fL_w, fL_lt, fL_le, tm1, tm10k, tm9, tm99, Int32.reduceToInt, Int64.reduceToInt, Int.not_lt, Int.not_le] at c_50
        refine gz_iload_n dX12_take_53 rfl rfl ?_
        refine gz_aload_n dX12_take_54 rfl rfl ?_
        refine gz_iload_n dX12_take_55 rfl rfl ?_
        refine gz_iload dX12_take_56 rfl ?_
        refine scX12_419 (k_X12_choosingE (x1 := x1) (x2 := wv) (fo := (W.2.2.getD x1.toInt.toNat lf0).1) (wN := ((W.2.2.getD x1.toInt.toNat lf0).2.2.2.1.getD x2.toInt.toNat (0, 0)).1) (T := (Tf (W.2.2.getD x1.toInt.toNat lf0).1)) hS_2 (by omega) bAa hXa hfo hwx) hS_2.1 ⟨(Nat.le_of_ble_eq_true rfl), (Nat.le_of_ble_eq_true rfl)⟩ ⟨(Nat.le_of_ble_eq_true rfl), (Nat.le_of_ble_eq_true rfl)⟩ rfl rfl (Nat.le_of_ble_eq_true rfl) dX12_take_58 ?_
        rintro r_3 f9 ⟨hcho, y9⟩; rw [y9]
        have hct : r_3.toInt = chT (Tf (W.2.2.getD x1.toInt.toNat lf0).1) (W.2.2.getD x1.toInt.toNat lf0).2.1 (W.2.2.getD x1.toInt.toNat lf0).2.2.1 ((W.2.2.getD x1.toInt.toNat lf0).2.2.2.1.getD x2.toInt.toNat (0, 0)).1 := by
          rw [hcho]
          unfold chT
          by_cases c9 : sdT (Tf (W.2.2.getD x1.toInt.toNat lf0).1) ((W.2.2.getD x1.toInt.toNat lf0).2.2.2.1.getD x2.toInt.toNat (0, 0)).1 = 0
          · rw [if_pos c9, if_pos c9, hxa.2.2.1 32 (by decide)]; exact hfw.1.2.1
          · rw [if_neg c9, if_neg c9, hxa.2.2.1 33 (by decide)]; exact hfw.1.2.2
        refine gz_icmp_ne (tgt := 82) dX12_take_61 (by decide) (fun c_61 => ?_) (fun c_61 => ?_)
        ·
          try simp only [mIn_0, lgc_lt, lgc_gt, lgc_le, lgc_ge, lgc_eq] at c_61
          try simp only [fl_lt, fl_le, fl_eq, fL_w, fL_lt, fL_le, tm1, tm10k, tm9, tm99, Int32.reduceToInt, Int64.reduceToInt, Int.not_lt, Int.not_le] at c_61
          refine gz_iconst (v := (-1)) dX12_take_82 (by decide) ?_
          have hxx : fx [1, 38, 43] [29] [35, 36, 39, 40, 41, 42, 44] [28, 34, 37, 45] n z F G n_2 z_2 F_2 G_2 := (fx_tr fx_rf hx2 (by decide))
          have hno : ¬ ((0 ≤ x1.toInt ∧ x1.toInt < (W.2.2.length : Int)) ∧ (0 ≤ (0 : Int) ∧ (0 : Int) ≤ 1) ∧ chB (Tf (W.2.2.getD x1.toInt.toNat lf0).1) (sNow (n 0) (F 2)) (W.2.2.getD x1.toInt.toNat lf0).2.1 (W.2.2.getD x1.toInt.toNat lf0).2.2.1 7 x2.toInt x3.toInt (W.2.2.getD x1.toInt.toNat lf0).2.2.2.1 = true) := fun ⟨z1, z2, z3⟩ => by
            have h9 := chB_st.mp z3
            have h93 := h9.2.2.1
            have h94 := h9.2.2.2.1
            omega
          obtain ⟨cn1, cn2⟩ := ch_n (Tf := Tf) (S := (sNow (n 0) (F 2))) hno
          exact gz_iret rfl dX12_take_83 (Nat.le_of_ble_eq_true rfl) (Nat.le_of_ble_eq_true rfl) (⟨_, rfl, _, _, _, _, hS_2, hxx, (RI_fx hR hxa (by decide) (by decide)), (by rw [cn1]; exact (RLs_cg hs (fun k hk => hxa.1 k (by revert hk; revert k; decide)) (fun r hr => hxa.2.2.1 r (by revert hr; revert r; decide)) (fun r hr => hxa.2.2.2 r (by revert hr; revert r; decide)))), (by rw [cn2]; rfl)⟩)
        ·
          try simp only [mIn_0, lgc_lt, lgc_gt, lgc_le, lgc_ge, lgc_eq] at c_61
          try simp only [fl_lt, fl_le, fl_eq, fL_w, fL_lt, fL_le, tm1, tm10k, tm9, tm99, Int32.reduceToInt, Int64.reduceToInt, Int.not_lt, Int.not_le] at c_61
          refine gz_aload_n dX12_take_64 rfl rfl ?_
          refine gz_iload dX12_take_65 rfl ?_
          refine scX12_374 (k_X12_isLapsedE (x1 := wv) (fo := (W.2.2.getD x1.toInt.toNat lf0).1) (wN := ((W.2.2.getD x1.toInt.toNat lf0).2.2.2.1.getD x2.toInt.toNat (0, 0)).1) (T := (Tf (W.2.2.getD x1.toInt.toNat lf0).1)) (S := (sNow (n 0) (F 2))) hS_2 bAa hXa hsR hfo hwx) hS_2.1 ⟨(Nat.le_of_ble_eq_true rfl), (Nat.le_of_ble_eq_true rfl)⟩ ⟨(Nat.le_of_ble_eq_true rfl), (Nat.le_of_ble_eq_true rfl)⟩ rfl rfl (Nat.le_of_ble_eq_true rfl) dX12_take_67 ?_
          rintro r_4 f9 ⟨hb_4, y9⟩; rw [y9]
          rcases hb_4 with ⟨hr4, hlp⟩ | ⟨hr4, hlp⟩
          ·
            refine gz_ev (w := .int 1) (congrArg Value.int hr4) ?_
            refine gz_if_ne (tgt := 82) dX12_take_70 (by decide) (fun c_70 => ?_) (fun c_70 => ?_)
            ·
              try simp only [mIn_0, lgc_lt, lgc_gt, lgc_le, lgc_ge, lgc_eq] at c_70
              try simp only [fl_lt, fl_le, fl_eq, fL_w, fL_lt, fL_le, tm1, tm10k, tm9, tm99, Int32.reduceToInt, Int64.reduceToInt, Int.not_lt, Int.not_le] at c_70
              refine gz_iconst (v := (-1)) dX12_take_82 (by decide) ?_
              have hxx : fx [1, 38, 43] [29] [35, 36, 39, 40, 41, 42, 44] [28, 34, 37, 45] n z F G n_2 z_2 F_2 G_2 := (fx_tr fx_rf hx2 (by decide))
              have hno : ¬ ((0 ≤ x1.toInt ∧ x1.toInt < (W.2.2.length : Int)) ∧ (0 ≤ (0 : Int) ∧ (0 : Int) ≤ 1) ∧ chB (Tf (W.2.2.getD x1.toInt.toNat lf0).1) (sNow (n 0) (F 2)) (W.2.2.getD x1.toInt.toNat lf0).2.1 (W.2.2.getD x1.toInt.toNat lf0).2.2.1 7 x2.toInt x3.toInt (W.2.2.getD x1.toInt.toNat lf0).2.2.2.1 = true) := fun ⟨z1, z2, z3⟩ => by
                have h9 := chB_st.mp z3
                rw [hlp] at h9; exact absurd h9.2.2.2.2.1 (by decide)
              obtain ⟨cn1, cn2⟩ := ch_n (Tf := Tf) (S := (sNow (n 0) (F 2))) hno
              exact gz_iret rfl dX12_take_83 (Nat.le_of_ble_eq_true rfl) (Nat.le_of_ble_eq_true rfl) (⟨_, rfl, _, _, _, _, hS_2, hxx, (RI_fx hR hxa (by decide) (by decide)), (by rw [cn1]; exact (RLs_cg hs (fun k hk => hxa.1 k (by revert hk; revert k; decide)) (fun r hr => hxa.2.2.1 r (by revert hr; revert r; decide)) (fun r hr => hxa.2.2.2 r (by revert hr; revert r; decide)))), (by rw [cn2]; rfl)⟩)
            · exact absurd c_70 (by decide)
          ·
            refine gz_ev (w := .int 0) (congrArg Value.int hr4) ?_
            refine gz_if_ne (tgt := 82) dX12_take_70 (by decide) (fun c_70 => ?_) (fun c_70 => ?_)
            · exact absurd c_70 (by decide)
            ·
              try simp only [mIn_0, lgc_lt, lgc_gt, lgc_le, lgc_ge, lgc_eq] at c_70
              try simp only [fl_lt, fl_le, fl_eq, fL_w, fL_lt, fL_le, tm1, tm10k, tm9, tm99, Int32.reduceToInt, Int64.reduceToInt, Int.not_lt, Int.not_le] at c_70
              refine gz_aload_n dX12_take_73 rfl rfl ?_
              refine gz_iload dX12_take_74 rfl ?_
              refine scX12_348 (k_X12_holdsE (x1 := wv) (S := (sNow (n 0) (F 2))) hS_2 bAa hsR (by omega) (hdM_cg (fun r hr => hxa.2.2.1 r (by revert hr; revert r; decide)) xd) xv (by omega)) hS_2.1 ⟨(Nat.le_of_ble_eq_true rfl), (Nat.le_of_ble_eq_true rfl)⟩ ⟨(Nat.le_of_ble_eq_true rfl), (Nat.le_of_ble_eq_true rfl)⟩ rfl rfl (Nat.le_of_ble_eq_true rfl) dX12_take_76 ?_
              rintro r_5 f9 ⟨hb_5, y9⟩; rw [y9]
              rcases hb_5 with ⟨hr5, hbt⟩ | ⟨hr5, hbt⟩
              ·
                refine gz_ev (w := .int 1) (congrArg Value.int hr5) ?_
                refine gz_if_ne (tgt := 84) dX12_take_79 (by decide) (fun c_79 => ?_) (fun c_79 => ?_)
                ·
                  try simp only [mIn_0, lgc_lt, lgc_gt, lgc_le, lgc_ge, lgc_eq] at c_79
                  try simp only [fl_lt, fl_le, fl_eq, fL_w, fL_lt, fL_le, tm1, tm10k, tm9, tm99, Int32.reduceToInt, Int64.reduceToInt, Int.not_lt, Int.not_le] at c_79
                  refine gz_aload_n dX12_take_84 rfl rfl ?_
                  refine mg_364 hS_2 dX12_take_85 ?_
                  refine gz_ev (w := .int (n 38)) (congrArg Value.int (hx2.1 38 (by decide))) ?_
                  refine gz_istore (lv' := [(7, .int (n 38)), (5, .long fv), (4, .int wv), (0, .ref m), (1, .int x1), (2, .int x2), (3, .int x3)]) dX12_take_88 (by decide) rfl ?_
                  refine gz_aload_n dX12_take_90 rfl rfl ?_
                  refine gz_iload_n dX12_take_91 rfl rfl ?_
                  refine gz_iload_n dX12_take_92 rfl rfl ?_
                  refine scX12_406 (k_X12_leavesE (x1 := x1) (x2 := x2) (lN := x1.toInt.toNat) (kN := x2.toInt.toNat) (fo := (W.2.2.getD x1.toInt.toNat lf0).1) (Z := (lsW W x1.toInt.toNat)) hS_2 (RI_fx hR hxa (by decide) (by decide)) (by rw [(show n_2 30 = (n 30) from (hx2.1 30 (by decide)))]; omega) (by rw [hxa.2.2.1 35 (by decide)]; omega) ⟨by omega, by omega⟩ ⟨by omega, hkl⟩ (RSt_cg hSt (hxa.1 1 (by decide)) (hxa.1 38 (by decide)) (fun r hr => hxa.2.2.1 r (by revert hr; revert r; decide)) (fun r hr => hxa.2.2.2 r (by revert hr; revert r; decide)))) hS_2.1 ⟨(Nat.le_of_ble_eq_true rfl), (Nat.le_of_ble_eq_true rfl)⟩ ⟨(Nat.le_of_ble_eq_true rfl), (Nat.le_of_ble_eq_true rfl)⟩ rfl rfl (Nat.le_of_ble_eq_true rfl) dX12_take_93 ?_
                  rintro f_6 ⟨n_6, z_6, F_6, G_6, hS_6, hx6, hR_6, h35_6, hs_6, hol_6⟩
                  have hxb : fx [] [29] [35, 36] [28, 37] n z F G n_6 z_6 F_6 G_6 := (fx_tr (fx_tr fx_rf hx2 (by decide)) hx6 (by decide))
                  refine gz_aload_n dX12_take_96 rfl rfl ?_
                  refine gz_iload_n dX12_take_97 rfl rfl ?_
                  refine gz_aload_n dX12_take_98 rfl rfl ?_
                  refine mg_32 hS_6 dX12_take_99 ?_
                  refine gz_iload dX12_take_102 rfl ?_
                  refine m_iald 11 hS_6 rfl (N := 880) rfl ((by exact vin_T (rfl : (wv).toInt = (wv).toInt) (by omega) (by omega))) dX12_take_104 ?_
                  refine gz_ev (w := .int ((F 11) (Int32.toNatClampNeg wv))) (congrArg Value.int (congrFun ((hx6.2.2.1 11 (by decide)).trans (hx2.2.2.1 11 (by decide))) _)) ?_
                  refine gz_lload dX12_take_105 rfl ?_
                  refine scX12_403 (k_X12_acquiresE (x1 := x1) (x2 := ((F 11) (Int32.toNatClampNeg wv))) (lN := x1.toInt.toNat) (fo := (W.2.2.getD x1.toInt.toNat lf0).1) (T := (Tf (W.2.2.getD x1.toInt.toNat lf0).1)) (S := (sNow (n 0) (F 2))) (aN := (W.2.2.getD x1.toInt.toNat lf0).2.1) (bN := (W.2.2.getD x1.toInt.toNat lf0).2.2.1) (wN := (((W.2.2.getD x1.toInt.toNat lf0).2.2.2.1.getD x2.toInt.toNat (0, 0)).1 + 1)) (fN := ((W.2.2.getD x1.toInt.toNat lf0).2.2.2.1.getD x2.toInt.toNat (0, 0)).2) hS_6 hR_6 (by rw [(show n_6 30 = (n 30) from ((hx6.1 30 (by decide)).trans (hx2.1 30 (by decide))))]; omega) (by rw [(show n_6 5 = (n 5) from ((hx6.1 5 (by decide)).trans (hx2.1 5 (by decide))))]; exact vW_cg (hxb.2.2.1 6 (by decide)) (show vW F (n 5).toInt ((F 11) (Int32.toNatClampNeg wv)).toInt from (one_ok bW hv.1 (show 2 ≤ (F 7 (Int32.toNatClampNeg wv)).toInt by omega)).1)) ⟨by omega, by omega⟩ hfo sNow_b (LX_cg (fun r h1 h2 => hxb.2.2.1 r (fun h => by simp only [List.mem_cons, List.not_mem_nil, or_false] at h <;> omega)) hX) (sRn_cg hsR (hx6.2.1 29 (by decide)) (hx6.2.2.2 28 (by decide))) (congrArg Int32.toInt (show n_6 0 = (n 0) from ((hx6.1 0 (by decide)).trans (hx2.1 0 (by decide))))) hs_6 ⟨by have q9 := xo1 (by omega); omega, hch.1⟩ ⟨hfy, hsd.2.2⟩) hS_6.1 ⟨(Nat.le_of_ble_eq_true rfl), (Nat.le_of_ble_eq_true rfl)⟩ ⟨(Nat.le_of_ble_eq_true rfl), (Nat.le_of_ble_eq_true rfl)⟩ rfl rfl (Nat.le_of_ble_eq_true rfl) dX12_take_107 ?_
                  rintro f_7 ⟨n_7, z_7, F_7, G_7, hS_7, hx7, hR_7, hm_7, hs_7, hol_7⟩
                  try simp only [(show n_6 1 = (n 1) from ((hx6.1 1 (by decide)).trans (hx2.1 1 (by decide))))] at hR_7 hm_7 hs_7 hol_7
                  try simp only [(show n_6 38 = (n 38) from ((hx6.1 38 (by decide)).trans (hx2.1 38 (by decide))))] at hR_7 hm_7 hs_7 hol_7
                  try simp only [(show n_6 43 = (n 43) from ((hx6.1 43 (by decide)).trans (hx2.1 43 (by decide))))] at hR_7 hm_7 hs_7 hol_7
                  refine gz_aload_n dX12_take_110 rfl rfl ?_
                  refine mg_364 hS_7 dX12_take_111 ?_
                  refine gz_ev (w := .int (n_7 38)) rfl ?_
                  refine gz_iload dX12_take_114 rfl ?_
                  refine gz_isub dX12_take_116 ?_
                  have hxx : fx [1, 38, 43] [29] [35, 36, 39, 40, 41, 42, 44] [28, 34, 37, 45] n z F G n_7 z_7 F_7 G_7 := (fx_tr (fx_tr (fx_tr fx_rf hx2 (by decide)) hx6 (by decide)) hx7 (by decide))
                  have elN : ((x1.toInt.toNat : Nat) : Int) = x1.toInt := by omega
                  have hz9 := hs_7
                  rw [elN] at hz9
                  have hcc : chC (Tf (W.2.2.getD x1.toInt.toNat lf0).1) ((W.2.2.getD x1.toInt.toNat lf0).2.2.2.1.getD x2.toInt.toNat (0, 0)).1 0 = (((W.2.2.getD x1.toInt.toNat lf0).2.2.2.1.getD x2.toInt.toNat (0, 0)).1 + 1) := by unfold chC; rw [if_pos rfl]
                  have hst9 : RSt n_7 F_7 G_7 x1.toInt.toNat (W.2.2.getD x1.toInt.toNat lf0).1 (dpE (Tf (W.2.2.getD x1.toInt.toNat lf0).1) (sNow (n 0) (F 2)) x1.toInt (W.2.2.getD x1.toInt.toNat lf0).2.1 (W.2.2.getD x1.toInt.toNat lf0).2.2.1 x2.toInt.toNat (chC (Tf (W.2.2.getD x1.toInt.toNat lf0).1) ((W.2.2.getD x1.toInt.toNat lf0).2.2.2.1.getD x2.toInt.toNat (0, 0)).1 (0 : Int)) (lsW W x1.toInt.toNat)) := by rw [hcc]; exact hz9
                  have hcB : chB (Tf (W.2.2.getD x1.toInt.toNat lf0).1) (sNow (n 0) (F 2)) (W.2.2.getD x1.toInt.toNat lf0).2.1 (W.2.2.getD x1.toInt.toNat lf0).2.2.1 7 x2.toInt x3.toInt (W.2.2.getD x1.toInt.toNat lf0).2.2.2.1 = true := chB_st.mpr ⟨by omega, by omega, by omega, by omega, hlp, Or.inr hbt⟩
                  obtain ⟨cy1, cy2⟩ := ch_y (Tf := Tf) (S := (sNow (n 0) (F 2))) (kd := 7) (l := x1.toInt) (k := x2.toInt) (hs := x3.toInt) (wh := (0 : Int)) (W := W) ⟨by omega, by omega⟩ ⟨by decide, by decide⟩ hcB rfl
                  have hr9 : RLs n_7 F_7 G_7 (chW Tf (sNow (n 0) (F 2)) 7 x1.toInt x2.toInt x3.toInt (0 : Int) W) := by rw [cy1]; exact RLs_put hs hlW hst9 (oL_tr (oL_eq (fun r hr => hxa.2.2.1 r (by revert hr; revert r; decide)) (fun r hr => hxa.2.2.2 r (by revert hr; revert r; decide))) (oL_tr hol_6 hol_7)) (hxx.1 30 (by decide)) (fun r hr => hxx.2.2.1 r (by revert hr; revert r; decide))
                  exact gz_iret rfl dX12_take_117 (Nat.le_of_ble_eq_true rfl) (Nat.le_of_ble_eq_true rfl) (⟨_, rfl, _, _, _, _, hS_7, hxx, hR_7, hr9, (by rw [cy2, T_sub hst9.1.1.1 hs.1.1.1 (by have a9 := hst9.1.1.2; have b9 := hs.1.1.2; omega)])⟩)
                · exact absurd c_79 (by decide)
              ·
                refine gz_ev (w := .int 0) (congrArg Value.int hr5) ?_
                refine gz_if_ne (tgt := 84) dX12_take_79 (by decide) (fun c_79 => ?_) (fun c_79 => ?_)
                · exact absurd c_79 (by decide)
                ·
                  try simp only [mIn_0, lgc_lt, lgc_gt, lgc_le, lgc_ge, lgc_eq] at c_79
                  try simp only [fl_lt, fl_le, fl_eq, fL_w, fL_lt, fL_le, tm1, tm10k, tm9, tm99, Int32.reduceToInt, Int64.reduceToInt, Int.not_lt, Int.not_le] at c_79
                  refine gz_iconst (v := (-1)) dX12_take_82 (by decide) ?_
                  have hxx : fx [1, 38, 43] [29] [35, 36, 39, 40, 41, 42, 44] [28, 34, 37, 45] n z F G n_2 z_2 F_2 G_2 := (fx_tr fx_rf hx2 (by decide))
                  have hno : ¬ ((0 ≤ x1.toInt ∧ x1.toInt < (W.2.2.length : Int)) ∧ (0 ≤ (0 : Int) ∧ (0 : Int) ≤ 1) ∧ chB (Tf (W.2.2.getD x1.toInt.toNat lf0).1) (sNow (n 0) (F 2)) (W.2.2.getD x1.toInt.toNat lf0).2.1 (W.2.2.getD x1.toInt.toNat lf0).2.2.1 7 x2.toInt x3.toInt (W.2.2.getD x1.toInt.toNat lf0).2.2.2.1 = true) := fun ⟨z1, z2, z3⟩ => by
                    have h9 := chB_st.mp z3
                    rw [hbt] at h9; rcases h9.2.2.2.2.2 with y9 | y9
                    · exact y9 rfl
                    · exact absurd y9 (by decide)
                  obtain ⟨cn1, cn2⟩ := ch_n (Tf := Tf) (S := (sNow (n 0) (F 2))) hno
                  exact gz_iret rfl dX12_take_83 (Nat.le_of_ble_eq_true rfl) (Nat.le_of_ble_eq_true rfl) (⟨_, rfl, _, _, _, _, hS_2, hxx, (RI_fx hR hxa (by decide) (by decide)), (by rw [cn1]; exact (RLs_cg hs (fun k hk => hxa.1 k (by revert hk; revert k; decide)) (fun r hr => hxa.2.2.1 r (by revert hr; revert r; decide)) (fun r hr => hxa.2.2.2 r (by revert hr; revert r; decide)))), (by rw [cn2]; rfl)⟩)
    · exact absurd c_6 (by decide)
  ·
    refine gz_ev (w := .int 0) (congrArg Value.int hr1) ?_
    refine gz_if_ne (tgt := 11) dX12_take_6 (by decide) (fun c_6 => ?_) (fun c_6 => ?_)
    · exact absurd c_6 (by decide)
    ·
      try simp only [mIn_0, lgc_lt, lgc_gt, lgc_le, lgc_ge, lgc_eq] at c_6
      try simp only [fl_lt, fl_le, fl_eq, fL_w, fL_lt, fL_le, tm1, tm10k, tm9, tm99, Int32.reduceToInt, Int64.reduceToInt, Int.not_lt, Int.not_le] at c_6
      refine gz_iconst (v := (-1)) dX12_take_9 (by decide) ?_
      have hxx : fx [1, 38, 43] [29] [35, 36, 39, 40, 41, 42, 44] [28, 34, 37, 45] n z F G n z F G := fx_rf
      have hno : ¬ ((0 ≤ x1.toInt ∧ x1.toInt < (W.2.2.length : Int)) ∧ (0 ≤ (0 : Int) ∧ (0 : Int) ≤ 1) ∧ chB (Tf (W.2.2.getD x1.toInt.toNat lf0).1) (sNow (n 0) (F 2)) (W.2.2.getD x1.toInt.toNat lf0).2.1 (W.2.2.getD x1.toInt.toNat lf0).2.2.1 7 x2.toInt x3.toInt (W.2.2.getD x1.toInt.toNat lf0).2.2.2.1 = true) := fun ⟨z1, z2, z3⟩ => by
        have z9 : (F 35 (Int32.toNatClampNeg x1)).toInt = ((W.2.2.getD x1.toInt.toNat lf0).2.2.2.1.length : Int) := (hs.2.2.1 x1.toInt.toNat (by omega)).2.1.1
        have z8 := hs.2.1
        have h9 := chB_st.mp z3
        exact hst ⟨by omega, by omega, by omega, by omega⟩
      obtain ⟨cn1, cn2⟩ := ch_n (Tf := Tf) (S := (sNow (n 0) (F 2))) hno
      exact gz_iret rfl dX12_take_10 (Nat.le_of_ble_eq_true rfl) (Nat.le_of_ble_eq_true rfl) (⟨_, rfl, _, _, _, _, hS, hxx, hR, (by rw [cn1]; exact hs), (by rw [cn2]; rfl)⟩)

set_option maxHeartbeats 4000000 in
set_option maxRecDepth 100000 in
theorem k_X12_chooseE {l : Launch} {D : va_G} {cy : Nat → ClassId} {b : Nat} {f : gMem} {m : Nat} {a : Nat → Nat} {f0 : gMem} {n : Nat → Int32} {z : Nat → Int64} {F : Nat → Nat → Int32} {G : Nat → Nat → Int64}  {x1 x2 x3 x4 : Int32} {Tf : Nat → List Hd} {W : Lw} (hS : mS cy m a f0 n z F G f) (hR : RI n F) (hs : RLs n F G W) (hok : okW (n 5).toInt Tf W) (hLX : ∀ f : Nat, (f : Int) < (n 5).toInt → LX F f (Tf f)) : gC l D cy b yX12_choose cX12_choose 9 (some .int) 4 0 0 [.ref m, .int x1, .int x2, .int x3, .int x4] f (pI fun r f2 => ∃ (n2 : Nat → Int32) (z2 : Nat → Int64) (F2 : Nat → Nat → Int32) (G2 : Nat → Nat → Int64), mS cy m a f0 n2 z2 F2 G2 f2 ∧ fx [1, 38, 43] [29] [35, 36, 39, 40, 41, 42, 44] [28, 34, 37, 45] n z F G n2 z2 F2 G2 ∧ RI n2 F2 ∧ RLs n2 F2 G2 (chW Tf (sNow (n 0) (F 2)) 4 x1.toInt x2.toInt x3.toInt x4.toInt W) ∧ r.toInt = chR Tf (sNow (n 0) (F 2)) 4 x1.toInt x2.toInt x3.toInt x4.toInt W) := by
  obtain ⟨a0, a4, a5, bA, bW, a30, bL, a38, bP, a53, a47, a88⟩ := id hR
  refine gC_of (by decide) (Nat.le_of_ble_eq_true rfl) ?_
  show gG l _ _ _ D cy b cX12_choose 9 _ RX12 "choose" 0 0 f 0 [(0, .ref m), (1, .int x1), (2, .int x2), (3, .int x3), (4, .int x4)] []
  refine gz_aload_n dX12_choose_0 rfl rfl ?_
  refine gz_iload_n dX12_choose_1 rfl rfl ?_
  refine gz_iload_n dX12_choose_2 rfl rfl ?_
  refine scX12_416 (k_X12_isStandingE (x1 := x1) (x2 := x2) hS a30.2 bL) hS.1 ⟨(Nat.le_of_ble_eq_true rfl), (Nat.le_of_ble_eq_true rfl)⟩ ⟨(Nat.le_of_ble_eq_true rfl), (Nat.le_of_ble_eq_true rfl)⟩ rfl rfl (Nat.le_of_ble_eq_true rfl) dX12_choose_3 ?_
  rintro r_1 f9 ⟨hb_1, y9⟩; rw [y9]
  rcases hb_1 with ⟨hr1, hst⟩ | ⟨hr1, hst⟩
  ·
    refine gz_ev (w := .int 1) (congrArg Value.int hr1) ?_
    refine gz_if_eq (tgt := 20) dX12_choose_6 (by decide) (fun c_6 => ?_) (fun c_6 => ?_)
    · exact absurd c_6 (by decide)
    ·
      try simp only [mIn_0, lgc_lt, lgc_gt, lgc_le, lgc_ge, lgc_eq] at c_6
      try simp only [fl_lt, fl_le, fl_eq, fL_w, fL_lt, fL_le, tm1, tm10k, tm9, tm99, Int32.reduceToInt, Int64.reduceToInt, Int.not_lt, Int.not_le] at c_6
      refine gz_iload dX12_choose_9 rfl ?_
      refine gz_i2l dX12_choose_11 ?_
      refine gz_lconst (v := 0) dX12_choose_12 (by decide) ?_
      refine gz_lconst (v := 1) dX12_choose_13 (by decide) ?_
      refine scX12_245 (k_X12_in (x := x4.toInt64) (y := 0) (w := 1)) ⟨(Nat.le_of_ble_eq_true rfl), (Nat.le_of_ble_eq_true rfl)⟩ ⟨(Nat.le_of_ble_eq_true rfl), (Nat.le_of_ble_eq_true rfl)⟩ rfl rfl (Nat.le_of_ble_eq_true rfl) dX12_choose_14 ?_
      intro v9 f9 z9; rw [z9.1, z9.2]
      refine gz_if_ne (tgt := 22) dX12_choose_17 (by decide) (fun c_17 => ?_) (fun c_17 => ?_)
      ·
        try simp only [mIn_0, lgc_lt, lgc_gt, lgc_le, lgc_ge, lgc_eq] at c_17
        try simp only [fl_lt, fl_le, fl_eq, fL_w, fL_lt, fL_le, tm1, tm10k, tm9, tm99, Int32.reduceToInt, Int64.reduceToInt, Int.not_lt, Int.not_le] at c_17
        refine gz_aload_n dX12_choose_22 rfl rfl ?_
        refine mg_112 hS dX12_choose_23 ?_
        refine gz_bipush (v := 40) dX12_choose_26 (by decide) ?_
        refine gz_iload_n dX12_choose_28 rfl rfl ?_
        refine gz_imul dX12_choose_29 ?_
        refine gz_iload_n dX12_choose_30 rfl rfl ?_
        refine gz_iadd dX12_choose_31 ?_
        refine m_iald 36 hS rfl (N := 1600) rfl ((by have z9 := hs.2.1; have qL9 := bL (Int32.toNatClampNeg x1) (by have := clI (i := x1) (by omega); omega); have q9 := (T_add (T_mul (show (40 : Int32).toInt = 40 from rfl) (rfl : (x1).toInt = (x1).toInt) (by omega)) (rfl : (x2).toInt = (x2).toInt) (by omega)); exact vin_T q9 (by omega) (by omega))) dX12_choose_32 ?_
        have qst : 0 ≤ x1.toInt ∧ x1.toInt < (n 30).toInt ∧ 0 ≤ x2.toInt ∧ x2.toInt < (F 35 (Int32.toNatClampNeg x1)).toInt := hst
        have ecl : (Int32.toNatClampNeg x1) = x1.toInt.toNat := rfl
        have hl40 : x1.toInt < 40 := by have z9 := hs.2.1; omega
        have hlW : x1.toInt.toNat < W.2.2.length := by have z9 := hs.2.1.1; omega
        obtain ⟨hfc, hQ⟩ := hok x1.toInt.toNat hlW
        have hX := hLX (W.2.2.getD x1.toInt.toNat lf0).1 hfc
        have hfo : (W.2.2.getD x1.toInt.toNat lf0).1 < 20 := by omega
        have hSt := RLs_get hs hlW
        have hkl : x2.toInt.toNat < (W.2.2.getD x1.toInt.toNat lf0).2.2.2.1.length := by have z9 : (F 35 (Int32.toNatClampNeg x1)).toInt = ((W.2.2.getD x1.toInt.toNat lf0).2.2.2.1.length : Int) := hSt.2.1.1; omega
        have he_ := hSt.2.2.2 x2.toInt.toNat hkl
        have he1 : (F 36 (40 * x1.toInt.toNat + x2.toInt.toNat)).toInt = 40 * ((W.2.2.getD x1.toInt.toNat lf0).1 : Int) + (((W.2.2.getD x1.toInt.toNat lf0).2.2.2.1.getD x2.toInt.toNat (0, 0)).1 : Int) := he_.1
        have he2 : (G 37 (40 * x1.toInt.toNat + x2.toInt.toNat)).toInt = ((W.2.2.getD x1.toInt.toNat lf0).2.2.2.1.getD x2.toInt.toNat (0, 0)).2 := he_.2
        have hsd := hQ.2 _ (gtD_mem (d := (0, 0)) hkl)
        have qc1 := clI (i := x1) (by omega)
        have qL := bL (Int32.toNatClampNeg x1) (by omega)
        have qc2 := clI (i := x2) (by omega)
        have qi : (40 * x1 + x2).toInt = 40 * x1.toInt + x2.toInt := T_add (T_mul (show (40 : Int32).toInt = 40 from rfl) rfl (by omega)) rfl (by omega)
        have ecq : Int32.toNatClampNeg (40 * x1 + x2) = 40 * x1.toInt.toNat + x2.toInt.toNat := by have := clI (i := 40 * x1 + x2) (by omega); omega
        obtain ⟨wv, hwv⟩ : ∃ wv, wv = ((F 36) (Int32.toNatClampNeg ((40 * x1) + x2))) := ⟨_, rfl⟩
        refine gz_ev (w := .int wv) (congrArg Value.int hwv.symm) ?_
        have hv : vS F (n 5).toInt wv := by rw [hwv, show Int32.toNatClampNeg (40 * x1 + x2) = 40 * (Int32.toNatClampNeg x1) + Int32.toNatClampNeg x2 by have := clI (i := 40 * x1 + x2) (by omega); omega]; exact rL_S bL (by omega) (by omega)
        have qv := vW_lt bW a5 hv.1
        have qk : (F 7 (Int32.toNatClampNeg wv)).toInt = 4 ∨ (F 7 (Int32.toNatClampNeg wv)).toInt = 6 ∨ (F 7 (Int32.toNatClampNeg wv)).toInt = 7 := hv.2
        have hwx : wv.toInt = 40 * ((W.2.2.getD x1.toInt.toNat lf0).1 : Int) + (((W.2.2.getD x1.toInt.toNat lf0).2.2.2.1.getD x2.toInt.toNat (0, 0)).1 : Int) ∧ ((W.2.2.getD x1.toInt.toNat lf0).2.2.2.1.getD x2.toInt.toNat (0, 0)).1 < (Tf (W.2.2.getD x1.toInt.toNat lf0).1).length := ⟨by rw [hwv, ecq]; exact he1, hsd.1⟩
        have hT4 := hX.1.2.2.2.1
        have hokT := hX.1.1
        have hvT_ := hX.1.2.1
        obtain ⟨xd, xv, xo1, xo2, _⟩ := LX_at bA hfo hX hwx.2
        have ecw : Int32.toNatClampNeg wv = 40 * (W.2.2.getD x1.toInt.toNat lf0).1 + ((W.2.2.getD x1.toInt.toNat lf0).2.2.2.1.getD x2.toInt.toNat (0, 0)).1 := by rw [clN]; omega
        rw [← ecw] at xd xo1 xo2
        have qkd := xd.1
        have hak := arH_k xv
        have hch := st_ch hokT hvT_ hsd
        have hfw : RLr F G x1.toInt.toNat (W.2.2.getD x1.toInt.toNat lf0) := hs.2.2.1 x1.toInt.toNat hlW
        refine gz_istore (lv' := [(5, .int wv), (0, .ref m), (1, .int x1), (2, .int x2), (3, .int x3), (4, .int x4)]) dX12_choose_33 (by decide) rfl ?_
        refine gz_aload_n dX12_choose_35 rfl rfl ?_
        refine mg_115 hS dX12_choose_36 ?_
        refine gz_bipush (v := 40) dX12_choose_39 (by decide) ?_
        refine gz_iload_n dX12_choose_41 rfl rfl ?_
        refine gz_imul dX12_choose_42 ?_
        refine gz_iload_n dX12_choose_43 rfl rfl ?_
        refine gz_iadd dX12_choose_44 ?_
        refine m_lald 37 hS rfl (N := 1600) rfl ((by have z9 := hs.2.1; have qL9 := bL (Int32.toNatClampNeg x1) (by have := clI (i := x1) (by omega); omega); have q9 := (T_add (T_mul (show (40 : Int32).toInt = 40 from rfl) (rfl : (x1).toInt = (x1).toInt) (by omega)) (rfl : (x2).toInt = (x2).toInt) (by omega)); exact vin_T q9 (by omega) (by omega))) dX12_choose_45 ?_
        obtain ⟨fv, hfv⟩ : ∃ fv, fv = ((G 37) (Int32.toNatClampNeg ((40 * x1) + x2))) := ⟨_, rfl⟩
        refine gz_ev (w := .long fv) (congrArg Value.long hfv.symm) ?_
        have hfy : fv.toInt = ((W.2.2.getD x1.toInt.toNat lf0).2.2.2.1.getD x2.toInt.toNat (0, 0)).2 := by rw [hfv, ecq]; exact he2
        refine gz_lstore (lv' := [(6, .long fv), (5, .int wv), (0, .ref m), (1, .int x1), (2, .int x2), (3, .int x3), (4, .int x4)]) dX12_choose_46 (by decide) rfl ?_
        refine gz_aload_n dX12_choose_48 rfl rfl ?_
        refine scX12_400 (k_X12_asNowE hS a0) hS.1 ⟨(Nat.le_of_ble_eq_true rfl), (Nat.le_of_ble_eq_true rfl)⟩ ⟨(Nat.le_of_ble_eq_true rfl), (Nat.le_of_ble_eq_true rfl)⟩ rfl rfl (Nat.le_of_ble_eq_true rfl) dX12_choose_49 ?_
        rintro f_2 ⟨n_2, z_2, F_2, G_2, hS_2, hx2, hsc_2⟩
        have hxa := hx2
        have hsR := hsc_2
        have hXa := (LX_cg (fun r h1 h2 => hxa.2.2.1 r (fun h => by simp only [List.mem_cons, List.not_mem_nil, or_false] at h <;> omega)) hX)
        have bAa := rAll_w (fun k hk => hxa.2.2.1 k ((by decide : ∀ k : Nat, k ∈ wK → k ∉ ([] : List Nat)) k hk)) bA
        refine gz_aload_n dX12_choose_52 rfl rfl ?_
        refine mg_20 hS_2 dX12_choose_53 ?_
        refine gz_iload dX12_choose_56 rfl ?_
        refine m_iald 7 hS_2 rfl (N := 880) rfl ((by exact vin_T (rfl : (wv).toInt = (wv).toInt) (by omega) (by omega))) dX12_choose_58 ?_
        refine gz_ev (w := .int ((F 7) (Int32.toNatClampNeg wv))) (congrArg Value.int (congrFun (hx2.2.2.1 7 (by decide)) _)) ?_
        refine gz_iconst (v := 4) dX12_choose_59 (by decide) ?_
        refine gz_icmp_ne (tgt := 83) dX12_choose_60 (by decide) (fun c_60 => ?_) (fun c_60 => ?_)
        ·
          try simp only [mIn_0, lgc_lt, lgc_gt, lgc_le, lgc_ge, lgc_eq] at c_60
          try simp only [fl_lt, fl_le, fl_eq, fL_w, fL_lt, fL_le, tm1, tm10k, tm9, tm99, Int32.reduceToInt, Int64.reduceToInt, Int.not_lt, Int.not_le] at c_60
          refine gz_iconst (v := (-1)) dX12_choose_83 (by decide) ?_
          have hxx : fx [1, 38, 43] [29] [35, 36, 39, 40, 41, 42, 44] [28, 34, 37, 45] n z F G n_2 z_2 F_2 G_2 := (fx_tr fx_rf hx2 (by decide))
          have hno : ¬ ((0 ≤ x1.toInt ∧ x1.toInt < (W.2.2.length : Int)) ∧ (0 ≤ x4.toInt ∧ x4.toInt ≤ 1) ∧ chB (Tf (W.2.2.getD x1.toInt.toNat lf0).1) (sNow (n 0) (F 2)) (W.2.2.getD x1.toInt.toNat lf0).2.1 (W.2.2.getD x1.toInt.toNat lf0).2.2.1 4 x2.toInt x3.toInt (W.2.2.getD x1.toInt.toNat lf0).2.2.2.1 = true) := fun ⟨z1, z2, z3⟩ => by
            have h9 := chB_st.mp z3
            have h93 := h9.2.2.1
            have h94 := h9.2.2.2.1
            omega
          obtain ⟨cn1, cn2⟩ := ch_n (Tf := Tf) (S := (sNow (n 0) (F 2))) hno
          exact gz_iret rfl dX12_choose_84 (Nat.le_of_ble_eq_true rfl) (Nat.le_of_ble_eq_true rfl) (⟨_, rfl, _, _, _, _, hS_2, hxx, (RI_fx hR hxa (by decide) (by decide)), (by rw [cn1]; exact (RLs_cg hs (fun k hk => hxa.1 k (by revert hk; revert k; decide)) (fun r hr => hxa.2.2.1 r (by revert hr; revert r; decide)) (fun r hr => hxa.2.2.2 r (by revert hr; revert r; decide)))), (by rw [cn2]; rfl)⟩)
        ·
          try simp only [mIn_0, lgc_lt, lgc_gt, lgc_le, lgc_ge, lgc_eq] at c_60
          try simp only [fl_lt, fl_le, fl_eq, fL_w, fL_lt, fL_le, tm1, tm10k, tm9, tm99, Int32.reduceToInt, Int64.reduceToInt, Int.not_lt, Int.not_le] at c_60
          refine gz_iload_n dX12_choose_63 rfl rfl ?_
          refine gz_aload_n dX12_choose_64 rfl rfl ?_
          refine gz_iload_n dX12_choose_65 rfl rfl ?_
          refine gz_iload dX12_choose_66 rfl ?_
          refine scX12_419 (k_X12_choosingE (x1 := x1) (x2 := wv) (fo := (W.2.2.getD x1.toInt.toNat lf0).1) (wN := ((W.2.2.getD x1.toInt.toNat lf0).2.2.2.1.getD x2.toInt.toNat (0, 0)).1) (T := (Tf (W.2.2.getD x1.toInt.toNat lf0).1)) hS_2 (by omega) bAa hXa hfo hwx) hS_2.1 ⟨(Nat.le_of_ble_eq_true rfl), (Nat.le_of_ble_eq_true rfl)⟩ ⟨(Nat.le_of_ble_eq_true rfl), (Nat.le_of_ble_eq_true rfl)⟩ rfl rfl (Nat.le_of_ble_eq_true rfl) dX12_choose_68 ?_
          rintro r_3 f9 ⟨hcho, y9⟩; rw [y9]
          have hct : r_3.toInt = chT (Tf (W.2.2.getD x1.toInt.toNat lf0).1) (W.2.2.getD x1.toInt.toNat lf0).2.1 (W.2.2.getD x1.toInt.toNat lf0).2.2.1 ((W.2.2.getD x1.toInt.toNat lf0).2.2.2.1.getD x2.toInt.toNat (0, 0)).1 := by
            rw [hcho]
            unfold chT
            by_cases c9 : sdT (Tf (W.2.2.getD x1.toInt.toNat lf0).1) ((W.2.2.getD x1.toInt.toNat lf0).2.2.2.1.getD x2.toInt.toNat (0, 0)).1 = 0
            · rw [if_pos c9, if_pos c9, hxa.2.2.1 32 (by decide)]; exact hfw.1.2.1
            · rw [if_neg c9, if_neg c9, hxa.2.2.1 33 (by decide)]; exact hfw.1.2.2
          refine gz_icmp_ne (tgt := 83) dX12_choose_71 (by decide) (fun c_71 => ?_) (fun c_71 => ?_)
          ·
            try simp only [mIn_0, lgc_lt, lgc_gt, lgc_le, lgc_ge, lgc_eq] at c_71
            try simp only [fl_lt, fl_le, fl_eq, fL_w, fL_lt, fL_le, tm1, tm10k, tm9, tm99, Int32.reduceToInt, Int64.reduceToInt, Int.not_lt, Int.not_le] at c_71
            refine gz_iconst (v := (-1)) dX12_choose_83 (by decide) ?_
            have hxx : fx [1, 38, 43] [29] [35, 36, 39, 40, 41, 42, 44] [28, 34, 37, 45] n z F G n_2 z_2 F_2 G_2 := (fx_tr fx_rf hx2 (by decide))
            have hno : ¬ ((0 ≤ x1.toInt ∧ x1.toInt < (W.2.2.length : Int)) ∧ (0 ≤ x4.toInt ∧ x4.toInt ≤ 1) ∧ chB (Tf (W.2.2.getD x1.toInt.toNat lf0).1) (sNow (n 0) (F 2)) (W.2.2.getD x1.toInt.toNat lf0).2.1 (W.2.2.getD x1.toInt.toNat lf0).2.2.1 4 x2.toInt x3.toInt (W.2.2.getD x1.toInt.toNat lf0).2.2.2.1 = true) := fun ⟨z1, z2, z3⟩ => by
              have h9 := chB_st.mp z3
              have h93 := h9.2.2.1
              have h94 := h9.2.2.2.1
              omega
            obtain ⟨cn1, cn2⟩ := ch_n (Tf := Tf) (S := (sNow (n 0) (F 2))) hno
            exact gz_iret rfl dX12_choose_84 (Nat.le_of_ble_eq_true rfl) (Nat.le_of_ble_eq_true rfl) (⟨_, rfl, _, _, _, _, hS_2, hxx, (RI_fx hR hxa (by decide) (by decide)), (by rw [cn1]; exact (RLs_cg hs (fun k hk => hxa.1 k (by revert hk; revert k; decide)) (fun r hr => hxa.2.2.1 r (by revert hr; revert r; decide)) (fun r hr => hxa.2.2.2 r (by revert hr; revert r; decide)))), (by rw [cn2]; rfl)⟩)
          ·
            try simp only [mIn_0, lgc_lt, lgc_gt, lgc_le, lgc_ge, lgc_eq] at c_71
            try simp only [fl_lt, fl_le, fl_eq, fL_w, fL_lt, fL_le, tm1, tm10k, tm9, tm99, Int32.reduceToInt, Int64.reduceToInt, Int.not_lt, Int.not_le] at c_71
            refine gz_aload_n dX12_choose_74 rfl rfl ?_
            refine gz_iload dX12_choose_75 rfl ?_
            refine scX12_374 (k_X12_isLapsedE (x1 := wv) (fo := (W.2.2.getD x1.toInt.toNat lf0).1) (wN := ((W.2.2.getD x1.toInt.toNat lf0).2.2.2.1.getD x2.toInt.toNat (0, 0)).1) (T := (Tf (W.2.2.getD x1.toInt.toNat lf0).1)) (S := (sNow (n 0) (F 2))) hS_2 bAa hXa hsR hfo hwx) hS_2.1 ⟨(Nat.le_of_ble_eq_true rfl), (Nat.le_of_ble_eq_true rfl)⟩ ⟨(Nat.le_of_ble_eq_true rfl), (Nat.le_of_ble_eq_true rfl)⟩ rfl rfl (Nat.le_of_ble_eq_true rfl) dX12_choose_77 ?_
            rintro r_4 f9 ⟨hb_4, y9⟩; rw [y9]
            rcases hb_4 with ⟨hr4, hlp⟩ | ⟨hr4, hlp⟩
            ·
              refine gz_ev (w := .int 1) (congrArg Value.int hr4) ?_
              refine gz_if_eq (tgt := 85) dX12_choose_80 (by decide) (fun c_80 => ?_) (fun c_80 => ?_)
              · exact absurd c_80 (by decide)
              ·
                try simp only [mIn_0, lgc_lt, lgc_gt, lgc_le, lgc_ge, lgc_eq] at c_80
                try simp only [fl_lt, fl_le, fl_eq, fL_w, fL_lt, fL_le, tm1, tm10k, tm9, tm99, Int32.reduceToInt, Int64.reduceToInt, Int.not_lt, Int.not_le] at c_80
                refine gz_iconst (v := (-1)) dX12_choose_83 (by decide) ?_
                have hxx : fx [1, 38, 43] [29] [35, 36, 39, 40, 41, 42, 44] [28, 34, 37, 45] n z F G n_2 z_2 F_2 G_2 := (fx_tr fx_rf hx2 (by decide))
                have hno : ¬ ((0 ≤ x1.toInt ∧ x1.toInt < (W.2.2.length : Int)) ∧ (0 ≤ x4.toInt ∧ x4.toInt ≤ 1) ∧ chB (Tf (W.2.2.getD x1.toInt.toNat lf0).1) (sNow (n 0) (F 2)) (W.2.2.getD x1.toInt.toNat lf0).2.1 (W.2.2.getD x1.toInt.toNat lf0).2.2.1 4 x2.toInt x3.toInt (W.2.2.getD x1.toInt.toNat lf0).2.2.2.1 = true) := fun ⟨z1, z2, z3⟩ => by
                  have h9 := chB_st.mp z3
                  rw [hlp] at h9; exact absurd h9.2.2.2.2.1 (by decide)
                obtain ⟨cn1, cn2⟩ := ch_n (Tf := Tf) (S := (sNow (n 0) (F 2))) hno
                exact gz_iret rfl dX12_choose_84 (Nat.le_of_ble_eq_true rfl) (Nat.le_of_ble_eq_true rfl) (⟨_, rfl, _, _, _, _, hS_2, hxx, (RI_fx hR hxa (by decide) (by decide)), (by rw [cn1]; exact (RLs_cg hs (fun k hk => hxa.1 k (by revert hk; revert k; decide)) (fun r hr => hxa.2.2.1 r (by revert hr; revert r; decide)) (fun r hr => hxa.2.2.2 r (by revert hr; revert r; decide)))), (by rw [cn2]; rfl)⟩)
            ·
              refine gz_ev (w := .int 0) (congrArg Value.int hr4) ?_
              refine gz_if_eq (tgt := 85) dX12_choose_80 (by decide) (fun c_80 => ?_) (fun c_80 => ?_)
              ·
                try simp only [mIn_0, lgc_lt, lgc_gt, lgc_le, lgc_ge, lgc_eq] at c_80
                try simp only [fl_lt, fl_le, fl_eq, fL_w, fL_lt, fL_le, tm1, tm10k, tm9, tm99, Int32.reduceToInt, Int64.reduceToInt, Int.not_lt, Int.not_le] at c_80
                refine gz_aload_n dX12_choose_85 rfl rfl ?_
                refine mg_364 hS_2 dX12_choose_86 ?_
                refine gz_ev (w := .int (n 38)) (congrArg Value.int (hx2.1 38 (by decide))) ?_
                refine gz_istore (lv' := [(8, .int (n 38)), (6, .long fv), (5, .int wv), (0, .ref m), (1, .int x1), (2, .int x2), (3, .int x3), (4, .int x4)]) dX12_choose_89 (by decide) rfl ?_
                refine gz_aload_n dX12_choose_91 rfl rfl ?_
                refine gz_iload_n dX12_choose_92 rfl rfl ?_
                refine gz_iload_n dX12_choose_93 rfl rfl ?_
                refine scX12_406 (k_X12_leavesE (x1 := x1) (x2 := x2) (lN := x1.toInt.toNat) (kN := x2.toInt.toNat) (fo := (W.2.2.getD x1.toInt.toNat lf0).1) (Z := (lsW W x1.toInt.toNat)) hS_2 (RI_fx hR hxa (by decide) (by decide)) (by rw [(show n_2 30 = (n 30) from (hx2.1 30 (by decide)))]; omega) (by rw [hxa.2.2.1 35 (by decide)]; omega) ⟨by omega, by omega⟩ ⟨by omega, hkl⟩ (RSt_cg hSt (hxa.1 1 (by decide)) (hxa.1 38 (by decide)) (fun r hr => hxa.2.2.1 r (by revert hr; revert r; decide)) (fun r hr => hxa.2.2.2 r (by revert hr; revert r; decide)))) hS_2.1 ⟨(Nat.le_of_ble_eq_true rfl), (Nat.le_of_ble_eq_true rfl)⟩ ⟨(Nat.le_of_ble_eq_true rfl), (Nat.le_of_ble_eq_true rfl)⟩ rfl rfl (Nat.le_of_ble_eq_true rfl) dX12_choose_94 ?_
                rintro f_5 ⟨n_5, z_5, F_5, G_5, hS_5, hx5, hR_5, h35_5, hs_5, hol_5⟩
                have hxb : fx [] [29] [35, 36] [28, 37] n z F G n_5 z_5 F_5 G_5 := (fx_tr (fx_tr fx_rf hx2 (by decide)) hx5 (by decide))
                refine gz_aload_n dX12_choose_97 rfl rfl ?_
                refine gz_iload_n dX12_choose_98 rfl rfl ?_
                refine gz_iload dX12_choose_99 rfl ?_
                refine gz_if_ne (tgt := 114) dX12_choose_101 (by decide) (fun c_101 => ?_) (fun c_101 => ?_)
                ·
                  try simp only [mIn_0, lgc_lt, lgc_gt, lgc_le, lgc_ge, lgc_eq] at c_101
                  try simp only [fl_lt, fl_le, fl_eq, fL_w, fL_lt, fL_le, tm1, tm10k, tm9, tm99, Int32.reduceToInt, Int64.reduceToInt, Int.not_lt, Int.not_le] at c_101
                  refine gz_aload_n dX12_choose_114 rfl rfl ?_
                  refine mg_35 hS_5 dX12_choose_115 ?_
                  refine gz_iload dX12_choose_118 rfl ?_
                  refine m_iald 12 hS_5 rfl (N := 880) rfl ((by exact vin_T (rfl : (wv).toInt = (wv).toInt) (by omega) (by omega))) dX12_choose_120 ?_
                  refine gz_ev (w := .int ((F 12) (Int32.toNatClampNeg wv))) (congrArg Value.int (congrFun ((hx5.2.2.1 12 (by decide)).trans (hx2.2.2.1 12 (by decide))) _)) ?_
                  refine gz_lload dX12_choose_121 rfl ?_
                  refine scX12_403 (k_X12_acquiresE (x1 := x1) (x2 := ((F 12) (Int32.toNatClampNeg wv))) (lN := x1.toInt.toNat) (fo := (W.2.2.getD x1.toInt.toNat lf0).1) (T := (Tf (W.2.2.getD x1.toInt.toNat lf0).1)) (S := (sNow (n 0) (F 2))) (aN := (W.2.2.getD x1.toInt.toNat lf0).2.1) (bN := (W.2.2.getD x1.toInt.toNat lf0).2.2.1) (wN := (grS (Tf (W.2.2.getD x1.toInt.toNat lf0).1) ((W.2.2.getD x1.toInt.toNat lf0).2.2.2.1.getD x2.toInt.toNat (0, 0)).1)) (fN := ((W.2.2.getD x1.toInt.toNat lf0).2.2.2.1.getD x2.toInt.toNat (0, 0)).2) hS_5 hR_5 (by rw [(show n_5 30 = (n 30) from ((hx5.1 30 (by decide)).trans (hx2.1 30 (by decide))))]; omega) (by rw [(show n_5 5 = (n 5) from ((hx5.1 5 (by decide)).trans (hx2.1 5 (by decide))))]; exact vW_cg (hxb.2.2.1 6 (by decide)) (show vW F (n 5).toInt ((F 12) (Int32.toNatClampNeg wv)).toInt from (two_ok bW hv.1 (show 3 ≤ (F 7 (Int32.toNatClampNeg wv)).toInt ∧ (F 7 (Int32.toNatClampNeg wv)).toInt ≤ 5 by omega)).1)) ⟨by omega, by omega⟩ hfo sNow_b (LX_cg (fun r h1 h2 => hxb.2.2.1 r (fun h => by simp only [List.mem_cons, List.not_mem_nil, or_false] at h <;> omega)) hX) (sRn_cg hsR (hx5.2.1 29 (by decide)) (hx5.2.2.2 28 (by decide))) (congrArg Int32.toInt (show n_5 0 = (n 0) from ((hx5.1 0 (by decide)).trans (hx2.1 0 (by decide))))) hs_5 ⟨xo2 (by omega), hch.2 (by omega)⟩ ⟨hfy, hsd.2.2⟩) hS_5.1 ⟨(Nat.le_of_ble_eq_true rfl), (Nat.le_of_ble_eq_true rfl)⟩ ⟨(Nat.le_of_ble_eq_true rfl), (Nat.le_of_ble_eq_true rfl)⟩ rfl rfl (Nat.le_of_ble_eq_true rfl) dX12_choose_123 ?_
                  rintro f_6 ⟨n_6, z_6, F_6, G_6, hS_6, hx6, hR_6, hm_6, hs_6, hol_6⟩
                  try simp only [(show n_5 1 = (n 1) from ((hx5.1 1 (by decide)).trans (hx2.1 1 (by decide))))] at hR_6 hm_6 hs_6 hol_6
                  try simp only [(show n_5 38 = (n 38) from ((hx5.1 38 (by decide)).trans (hx2.1 38 (by decide))))] at hR_6 hm_6 hs_6 hol_6
                  try simp only [(show n_5 43 = (n 43) from ((hx5.1 43 (by decide)).trans (hx2.1 43 (by decide))))] at hR_6 hm_6 hs_6 hol_6
                  refine gz_aload_n dX12_choose_126 rfl rfl ?_
                  refine mg_364 hS_6 dX12_choose_127 ?_
                  refine gz_ev (w := .int (n_6 38)) rfl ?_
                  refine gz_iload dX12_choose_130 rfl ?_
                  refine gz_isub dX12_choose_132 ?_
                  have hxx : fx [1, 38, 43] [29] [35, 36, 39, 40, 41, 42, 44] [28, 34, 37, 45] n z F G n_6 z_6 F_6 G_6 := (fx_tr (fx_tr (fx_tr fx_rf hx2 (by decide)) hx5 (by decide)) hx6 (by decide))
                  have elN : ((x1.toInt.toNat : Nat) : Int) = x1.toInt := by omega
                  have hz9 := hs_6
                  rw [elN] at hz9
                  have hcc : chC (Tf (W.2.2.getD x1.toInt.toNat lf0).1) ((W.2.2.getD x1.toInt.toNat lf0).2.2.2.1.getD x2.toInt.toNat (0, 0)).1 x4.toInt = (grS (Tf (W.2.2.getD x1.toInt.toNat lf0).1) ((W.2.2.getD x1.toInt.toNat lf0).2.2.2.1.getD x2.toInt.toNat (0, 0)).1) := by unfold chC; rw [if_neg (by omega)]
                  have hst9 : RSt n_6 F_6 G_6 x1.toInt.toNat (W.2.2.getD x1.toInt.toNat lf0).1 (dpE (Tf (W.2.2.getD x1.toInt.toNat lf0).1) (sNow (n 0) (F 2)) x1.toInt (W.2.2.getD x1.toInt.toNat lf0).2.1 (W.2.2.getD x1.toInt.toNat lf0).2.2.1 x2.toInt.toNat (chC (Tf (W.2.2.getD x1.toInt.toNat lf0).1) ((W.2.2.getD x1.toInt.toNat lf0).2.2.2.1.getD x2.toInt.toNat (0, 0)).1 x4.toInt) (lsW W x1.toInt.toNat)) := by rw [hcc]; exact hz9
                  have hcB : chB (Tf (W.2.2.getD x1.toInt.toNat lf0).1) (sNow (n 0) (F 2)) (W.2.2.getD x1.toInt.toNat lf0).2.1 (W.2.2.getD x1.toInt.toNat lf0).2.2.1 4 x2.toInt x3.toInt (W.2.2.getD x1.toInt.toNat lf0).2.2.2.1 = true := chB_st.mpr ⟨by omega, by omega, by omega, by omega, hlp, Or.inl (by decide)⟩
                  obtain ⟨cy1, cy2⟩ := ch_y (Tf := Tf) (S := (sNow (n 0) (F 2))) (kd := 4) (l := x1.toInt) (k := x2.toInt) (hs := x3.toInt) (wh := x4.toInt) (W := W) ⟨by omega, by omega⟩ ⟨by omega, by omega⟩ hcB rfl
                  have hr9 : RLs n_6 F_6 G_6 (chW Tf (sNow (n 0) (F 2)) 4 x1.toInt x2.toInt x3.toInt x4.toInt W) := by rw [cy1]; exact RLs_put hs hlW hst9 (oL_tr (oL_eq (fun r hr => hxa.2.2.1 r (by revert hr; revert r; decide)) (fun r hr => hxa.2.2.2 r (by revert hr; revert r; decide))) (oL_tr hol_5 hol_6)) (hxx.1 30 (by decide)) (fun r hr => hxx.2.2.1 r (by revert hr; revert r; decide))
                  exact gz_iret rfl dX12_choose_133 (Nat.le_of_ble_eq_true rfl) (Nat.le_of_ble_eq_true rfl) (⟨_, rfl, _, _, _, _, hS_6, hxx, hR_6, hr9, (by rw [cy2, T_sub hst9.1.1.1 hs.1.1.1 (by have a9 := hst9.1.1.2; have b9 := hs.1.1.2; omega)])⟩)
                ·
                  try simp only [mIn_0, lgc_lt, lgc_gt, lgc_le, lgc_ge, lgc_eq] at c_101
                  try simp only [fl_lt, fl_le, fl_eq, fL_w, fL_lt, fL_le, tm1, tm10k, tm9, tm99, Int32.reduceToInt, Int64.reduceToInt, Int.not_lt, Int.not_le] at c_101
                  refine gz_aload_n dX12_choose_104 rfl rfl ?_
                  refine mg_32 hS_5 dX12_choose_105 ?_
                  refine gz_iload dX12_choose_108 rfl ?_
                  refine m_iald 11 hS_5 rfl (N := 880) rfl ((by exact vin_T (rfl : (wv).toInt = (wv).toInt) (by omega) (by omega))) dX12_choose_110 ?_
                  refine gz_ev (w := .int ((F 11) (Int32.toNatClampNeg wv))) (congrArg Value.int (congrFun ((hx5.2.2.1 11 (by decide)).trans (hx2.2.2.1 11 (by decide))) _)) ?_
                  refine gz_goto (tgt := 121) dX12_choose_111 (by decide) ?_
                  refine gz_lload dX12_choose_121 rfl ?_
                  refine scX12_403 (k_X12_acquiresE (x1 := x1) (x2 := ((F 11) (Int32.toNatClampNeg wv))) (lN := x1.toInt.toNat) (fo := (W.2.2.getD x1.toInt.toNat lf0).1) (T := (Tf (W.2.2.getD x1.toInt.toNat lf0).1)) (S := (sNow (n 0) (F 2))) (aN := (W.2.2.getD x1.toInt.toNat lf0).2.1) (bN := (W.2.2.getD x1.toInt.toNat lf0).2.2.1) (wN := (((W.2.2.getD x1.toInt.toNat lf0).2.2.2.1.getD x2.toInt.toNat (0, 0)).1 + 1)) (fN := ((W.2.2.getD x1.toInt.toNat lf0).2.2.2.1.getD x2.toInt.toNat (0, 0)).2) hS_5 hR_5 (by rw [(show n_5 30 = (n 30) from ((hx5.1 30 (by decide)).trans (hx2.1 30 (by decide))))]; omega) (by rw [(show n_5 5 = (n 5) from ((hx5.1 5 (by decide)).trans (hx2.1 5 (by decide))))]; exact vW_cg (hxb.2.2.1 6 (by decide)) (show vW F (n 5).toInt ((F 11) (Int32.toNatClampNeg wv)).toInt from (one_ok bW hv.1 (show 2 ≤ (F 7 (Int32.toNatClampNeg wv)).toInt by omega)).1)) ⟨by omega, by omega⟩ hfo sNow_b (LX_cg (fun r h1 h2 => hxb.2.2.1 r (fun h => by simp only [List.mem_cons, List.not_mem_nil, or_false] at h <;> omega)) hX) (sRn_cg hsR (hx5.2.1 29 (by decide)) (hx5.2.2.2 28 (by decide))) (congrArg Int32.toInt (show n_5 0 = (n 0) from ((hx5.1 0 (by decide)).trans (hx2.1 0 (by decide))))) hs_5 ⟨by have q9 := xo1 (by omega); omega, hch.1⟩ ⟨hfy, hsd.2.2⟩) hS_5.1 ⟨(Nat.le_of_ble_eq_true rfl), (Nat.le_of_ble_eq_true rfl)⟩ ⟨(Nat.le_of_ble_eq_true rfl), (Nat.le_of_ble_eq_true rfl)⟩ rfl rfl (Nat.le_of_ble_eq_true rfl) dX12_choose_123 ?_
                  rintro f_7 ⟨n_7, z_7, F_7, G_7, hS_7, hx7, hR_7, hm_7, hs_7, hol_7⟩
                  try simp only [(show n_5 1 = (n 1) from ((hx5.1 1 (by decide)).trans (hx2.1 1 (by decide))))] at hR_7 hm_7 hs_7 hol_7
                  try simp only [(show n_5 38 = (n 38) from ((hx5.1 38 (by decide)).trans (hx2.1 38 (by decide))))] at hR_7 hm_7 hs_7 hol_7
                  try simp only [(show n_5 43 = (n 43) from ((hx5.1 43 (by decide)).trans (hx2.1 43 (by decide))))] at hR_7 hm_7 hs_7 hol_7
                  refine gz_aload_n dX12_choose_126 rfl rfl ?_
                  refine mg_364 hS_7 dX12_choose_127 ?_
                  refine gz_ev (w := .int (n_7 38)) rfl ?_
                  refine gz_iload dX12_choose_130 rfl ?_
                  refine gz_isub dX12_choose_132 ?_
                  have hxx : fx [1, 38, 43] [29] [35, 36, 39, 40, 41, 42, 44] [28, 34, 37, 45] n z F G n_7 z_7 F_7 G_7 := (fx_tr (fx_tr (fx_tr fx_rf hx2 (by decide)) hx5 (by decide)) hx7 (by decide))
                  have elN : ((x1.toInt.toNat : Nat) : Int) = x1.toInt := by omega
                  have hz9 := hs_7
                  rw [elN] at hz9
                  have hcc : chC (Tf (W.2.2.getD x1.toInt.toNat lf0).1) ((W.2.2.getD x1.toInt.toNat lf0).2.2.2.1.getD x2.toInt.toNat (0, 0)).1 x4.toInt = (((W.2.2.getD x1.toInt.toNat lf0).2.2.2.1.getD x2.toInt.toNat (0, 0)).1 + 1) := by unfold chC; rw [if_pos (by omega)]
                  have hst9 : RSt n_7 F_7 G_7 x1.toInt.toNat (W.2.2.getD x1.toInt.toNat lf0).1 (dpE (Tf (W.2.2.getD x1.toInt.toNat lf0).1) (sNow (n 0) (F 2)) x1.toInt (W.2.2.getD x1.toInt.toNat lf0).2.1 (W.2.2.getD x1.toInt.toNat lf0).2.2.1 x2.toInt.toNat (chC (Tf (W.2.2.getD x1.toInt.toNat lf0).1) ((W.2.2.getD x1.toInt.toNat lf0).2.2.2.1.getD x2.toInt.toNat (0, 0)).1 x4.toInt) (lsW W x1.toInt.toNat)) := by rw [hcc]; exact hz9
                  have hcB : chB (Tf (W.2.2.getD x1.toInt.toNat lf0).1) (sNow (n 0) (F 2)) (W.2.2.getD x1.toInt.toNat lf0).2.1 (W.2.2.getD x1.toInt.toNat lf0).2.2.1 4 x2.toInt x3.toInt (W.2.2.getD x1.toInt.toNat lf0).2.2.2.1 = true := chB_st.mpr ⟨by omega, by omega, by omega, by omega, hlp, Or.inl (by decide)⟩
                  obtain ⟨cy1, cy2⟩ := ch_y (Tf := Tf) (S := (sNow (n 0) (F 2))) (kd := 4) (l := x1.toInt) (k := x2.toInt) (hs := x3.toInt) (wh := x4.toInt) (W := W) ⟨by omega, by omega⟩ ⟨by omega, by omega⟩ hcB rfl
                  have hr9 : RLs n_7 F_7 G_7 (chW Tf (sNow (n 0) (F 2)) 4 x1.toInt x2.toInt x3.toInt x4.toInt W) := by rw [cy1]; exact RLs_put hs hlW hst9 (oL_tr (oL_eq (fun r hr => hxa.2.2.1 r (by revert hr; revert r; decide)) (fun r hr => hxa.2.2.2 r (by revert hr; revert r; decide))) (oL_tr hol_5 hol_7)) (hxx.1 30 (by decide)) (fun r hr => hxx.2.2.1 r (by revert hr; revert r; decide))
                  exact gz_iret rfl dX12_choose_133 (Nat.le_of_ble_eq_true rfl) (Nat.le_of_ble_eq_true rfl) (⟨_, rfl, _, _, _, _, hS_7, hxx, hR_7, hr9, (by rw [cy2, T_sub hst9.1.1.1 hs.1.1.1 (by have a9 := hst9.1.1.2; have b9 := hs.1.1.2; omega)])⟩)
              · exact absurd c_80 (by decide)
      ·
        try simp only [mIn_0, lgc_lt, lgc_gt, lgc_le, lgc_ge, lgc_eq] at c_17
        try simp only [fl_lt, fl_le, fl_eq, fL_w, fL_lt, fL_le, tm1, tm10k, tm9, tm99, Int32.reduceToInt, Int64.reduceToInt, Int.not_lt, Int.not_le] at c_17
        refine gz_iconst (v := (-1)) dX12_choose_20 (by decide) ?_
        have hxx : fx [1, 38, 43] [29] [35, 36, 39, 40, 41, 42, 44] [28, 34, 37, 45] n z F G n z F G := fx_rf
        have hno : ¬ ((0 ≤ x1.toInt ∧ x1.toInt < (W.2.2.length : Int)) ∧ (0 ≤ x4.toInt ∧ x4.toInt ≤ 1) ∧ chB (Tf (W.2.2.getD x1.toInt.toNat lf0).1) (sNow (n 0) (F 2)) (W.2.2.getD x1.toInt.toNat lf0).2.1 (W.2.2.getD x1.toInt.toNat lf0).2.2.1 4 x2.toInt x3.toInt (W.2.2.getD x1.toInt.toNat lf0).2.2.2.1 = true) := fun ⟨z1, z2, z3⟩ => by
          omega
        obtain ⟨cn1, cn2⟩ := ch_n (Tf := Tf) (S := (sNow (n 0) (F 2))) hno
        exact gz_iret rfl dX12_choose_21 (Nat.le_of_ble_eq_true rfl) (Nat.le_of_ble_eq_true rfl) (⟨_, rfl, _, _, _, _, hS, hxx, hR, (by rw [cn1]; exact hs), (by rw [cn2]; rfl)⟩)
  ·
    refine gz_ev (w := .int 0) (congrArg Value.int hr1) ?_
    refine gz_if_eq (tgt := 20) dX12_choose_6 (by decide) (fun c_6 => ?_) (fun c_6 => ?_)
    ·
      try simp only [mIn_0, lgc_lt, lgc_gt, lgc_le, lgc_ge, lgc_eq] at c_6
      try simp only [fl_lt, fl_le, fl_eq, fL_w, fL_lt, fL_le, tm1, tm10k, tm9, tm99, Int32.reduceToInt, Int64.reduceToInt, Int.not_lt, Int.not_le] at c_6
      refine gz_iconst (v := (-1)) dX12_choose_20 (by decide) ?_
      have hxx : fx [1, 38, 43] [29] [35, 36, 39, 40, 41, 42, 44] [28, 34, 37, 45] n z F G n z F G := fx_rf
      have hno : ¬ ((0 ≤ x1.toInt ∧ x1.toInt < (W.2.2.length : Int)) ∧ (0 ≤ x4.toInt ∧ x4.toInt ≤ 1) ∧ chB (Tf (W.2.2.getD x1.toInt.toNat lf0).1) (sNow (n 0) (F 2)) (W.2.2.getD x1.toInt.toNat lf0).2.1 (W.2.2.getD x1.toInt.toNat lf0).2.2.1 4 x2.toInt x3.toInt (W.2.2.getD x1.toInt.toNat lf0).2.2.2.1 = true) := fun ⟨z1, z2, z3⟩ => by
        have z9 : (F 35 (Int32.toNatClampNeg x1)).toInt = ((W.2.2.getD x1.toInt.toNat lf0).2.2.2.1.length : Int) := (hs.2.2.1 x1.toInt.toNat (by omega)).2.1.1
        have z8 := hs.2.1
        have h9 := chB_st.mp z3
        exact hst ⟨by omega, by omega, by omega, by omega⟩
      obtain ⟨cn1, cn2⟩ := ch_n (Tf := Tf) (S := (sNow (n 0) (F 2))) hno
      exact gz_iret rfl dX12_choose_21 (Nat.le_of_ble_eq_true rfl) (Nat.le_of_ble_eq_true rfl) (⟨_, rfl, _, _, _, _, hS, hxx, hR, (by rw [cn1]; exact hs), (by rw [cn2]; rfl)⟩)
    · exact absurd c_6 (by decide)

set_option maxHeartbeats 4000000 in
set_option maxRecDepth 100000 in
theorem k_X12_standingE {l : Launch} {D : va_G} {cy : Nat → ClassId} {b : Nat} {f : gMem} {m : Nat} {a : Nat → Nat} {f0 : gMem} {n : Nat → Int32} {z : Nat → Int64} {F : Nat → Nat → Int32} {G : Nat → Nat → Int64}  {x1 x2 x3 : Int32} {Tf : Nat → List Hd} {W : Lw} (hS : mS cy m a f0 n z F G f) (hR : RI n F) (hs : RLs n F G W) (hok : okW (n 5).toInt Tf W) (hLX : ∀ f : Nat, (f : Int) < (n 5).toInt → LX F f (Tf f)) : gC l D cy b yX12_standing cX12_standing 5 (some .int) 3 0 0 [.ref m, .int x1, .int x2, .int x3] f (pI fun r f2 => ∃ (n2 : Nat → Int32) (z2 : Nat → Int64) (F2 : Nat → Nat → Int32) (G2 : Nat → Nat → Int64), mS cy m a f0 n2 z2 F2 G2 f2 ∧ fx [] [29] [] [28] n z F G n2 z2 F2 G2 ∧ RI n2 F2 ∧ r.toInt = stW Tf (sNow (n 0) (F 2)) x1.toInt x2.toInt x3.toInt W) := by
  obtain ⟨a0, a4, a5, bA, bW, a30, bL, a38, bP, a53, a47, a88⟩ := id hR
  refine gC_of (by decide) (Nat.le_of_ble_eq_true rfl) ?_
  show gG l _ _ _ D cy b cX12_standing 5 _ RX12 "standing" 0 0 f 0 [(0, .ref m), (1, .int x1), (2, .int x2), (3, .int x3)] []
  refine gz_aload_n dX12_standing_0 rfl rfl ?_
  refine gz_iload_n dX12_standing_1 rfl rfl ?_
  refine gz_iload_n dX12_standing_2 rfl rfl ?_
  refine scX12_416 (k_X12_isStandingE (x1 := x1) (x2 := x2) hS a30.2 bL) hS.1 ⟨(Nat.le_of_ble_eq_true rfl), (Nat.le_of_ble_eq_true rfl)⟩ ⟨(Nat.le_of_ble_eq_true rfl), (Nat.le_of_ble_eq_true rfl)⟩ rfl rfl (Nat.le_of_ble_eq_true rfl) dX12_standing_3 ?_
  rintro r_1 f9 ⟨hb_1, y9⟩; rw [y9]
  rcases hb_1 with ⟨hr1, hst⟩ | ⟨hr1, hst⟩
  ·
    refine gz_ev (w := .int 1) (congrArg Value.int hr1) ?_
    refine gz_if_ne (tgt := 11) dX12_standing_6 (by decide) (fun c_6 => ?_) (fun c_6 => ?_)
    ·
      try simp only [mIn_0, lgc_lt, lgc_gt, lgc_le, lgc_ge, lgc_eq] at c_6
      try simp only [fl_lt, fl_le, fl_eq, fL_w, fL_lt, fL_le, tm1, tm10k, tm9, tm99, Int32.reduceToInt, Int64.reduceToInt, Int.not_lt, Int.not_le] at c_6
      refine gz_aload_n dX12_standing_11 rfl rfl ?_
      refine mg_112 hS dX12_standing_12 ?_
      refine gz_bipush (v := 40) dX12_standing_15 (by decide) ?_
      refine gz_iload_n dX12_standing_17 rfl rfl ?_
      refine gz_imul dX12_standing_18 ?_
      refine gz_iload_n dX12_standing_19 rfl rfl ?_
      refine gz_iadd dX12_standing_20 ?_
      refine m_iald 36 hS rfl (N := 1600) rfl ((by have z9 := hs.2.1; have qL9 := bL (Int32.toNatClampNeg x1) (by have := clI (i := x1) (by omega); omega); have q9 := (T_add (T_mul (show (40 : Int32).toInt = 40 from rfl) (rfl : (x1).toInt = (x1).toInt) (by omega)) (rfl : (x2).toInt = (x2).toInt) (by omega)); exact vin_T q9 (by omega) (by omega))) dX12_standing_21 ?_
      have qst : 0 ≤ x1.toInt ∧ x1.toInt < (n 30).toInt ∧ 0 ≤ x2.toInt ∧ x2.toInt < (F 35 (Int32.toNatClampNeg x1)).toInt := hst
      have ecl : (Int32.toNatClampNeg x1) = x1.toInt.toNat := rfl
      have hl40 : x1.toInt < 40 := by have z9 := hs.2.1; omega
      have hlW : x1.toInt.toNat < W.2.2.length := by have z9 := hs.2.1.1; omega
      obtain ⟨hfc, hQ⟩ := hok x1.toInt.toNat hlW
      have hX := hLX (W.2.2.getD x1.toInt.toNat lf0).1 hfc
      have hfo : (W.2.2.getD x1.toInt.toNat lf0).1 < 20 := by omega
      have hSt := RLs_get hs hlW
      have hkl : x2.toInt.toNat < (W.2.2.getD x1.toInt.toNat lf0).2.2.2.1.length := by have z9 : (F 35 (Int32.toNatClampNeg x1)).toInt = ((W.2.2.getD x1.toInt.toNat lf0).2.2.2.1.length : Int) := hSt.2.1.1; omega
      have he_ := hSt.2.2.2 x2.toInt.toNat hkl
      have he1 : (F 36 (40 * x1.toInt.toNat + x2.toInt.toNat)).toInt = 40 * ((W.2.2.getD x1.toInt.toNat lf0).1 : Int) + (((W.2.2.getD x1.toInt.toNat lf0).2.2.2.1.getD x2.toInt.toNat (0, 0)).1 : Int) := he_.1
      have he2 : (G 37 (40 * x1.toInt.toNat + x2.toInt.toNat)).toInt = ((W.2.2.getD x1.toInt.toNat lf0).2.2.2.1.getD x2.toInt.toNat (0, 0)).2 := he_.2
      have hsd := hQ.2 _ (gtD_mem (d := (0, 0)) hkl)
      have qc1 := clI (i := x1) (by omega)
      have qL := bL (Int32.toNatClampNeg x1) (by omega)
      have qc2 := clI (i := x2) (by omega)
      have qi : (40 * x1 + x2).toInt = 40 * x1.toInt + x2.toInt := T_add (T_mul (show (40 : Int32).toInt = 40 from rfl) rfl (by omega)) rfl (by omega)
      have ecq : Int32.toNatClampNeg (40 * x1 + x2) = 40 * x1.toInt.toNat + x2.toInt.toNat := by have := clI (i := 40 * x1 + x2) (by omega); omega
      obtain ⟨wv, hwv⟩ : ∃ wv, wv = ((F 36) (Int32.toNatClampNeg ((40 * x1) + x2))) := ⟨_, rfl⟩
      refine gz_ev (w := .int wv) (congrArg Value.int hwv.symm) ?_
      have hv : vS F (n 5).toInt wv := by rw [hwv, show Int32.toNatClampNeg (40 * x1 + x2) = 40 * (Int32.toNatClampNeg x1) + Int32.toNatClampNeg x2 by have := clI (i := 40 * x1 + x2) (by omega); omega]; exact rL_S bL (by omega) (by omega)
      have qv := vW_lt bW a5 hv.1
      have qk : (F 7 (Int32.toNatClampNeg wv)).toInt = 4 ∨ (F 7 (Int32.toNatClampNeg wv)).toInt = 6 ∨ (F 7 (Int32.toNatClampNeg wv)).toInt = 7 := hv.2
      have hwx : wv.toInt = 40 * ((W.2.2.getD x1.toInt.toNat lf0).1 : Int) + (((W.2.2.getD x1.toInt.toNat lf0).2.2.2.1.getD x2.toInt.toNat (0, 0)).1 : Int) ∧ ((W.2.2.getD x1.toInt.toNat lf0).2.2.2.1.getD x2.toInt.toNat (0, 0)).1 < (Tf (W.2.2.getD x1.toInt.toNat lf0).1).length := ⟨by rw [hwv, ecq]; exact he1, hsd.1⟩
      have hT4 := hX.1.2.2.2.1
      have hokT := hX.1.1
      have hvT_ := hX.1.2.1
      obtain ⟨xd, xv, xo1, xo2, _⟩ := LX_at bA hfo hX hwx.2
      have ecw : Int32.toNatClampNeg wv = 40 * (W.2.2.getD x1.toInt.toNat lf0).1 + ((W.2.2.getD x1.toInt.toNat lf0).2.2.2.1.getD x2.toInt.toNat (0, 0)).1 := by rw [clN]; omega
      rw [← ecw] at xd xo1 xo2
      have qkd := xd.1
      have hak := arH_k xv
      have hch := st_ch hokT hvT_ hsd
      have hfw : RLr F G x1.toInt.toNat (W.2.2.getD x1.toInt.toNat lf0) := hs.2.2.1 x1.toInt.toNat hlW
      refine gz_istore (lv' := [(4, .int wv), (0, .ref m), (1, .int x1), (2, .int x2), (3, .int x3)]) dX12_standing_22 (by decide) rfl ?_
      refine gz_aload_n dX12_standing_24 rfl rfl ?_
      refine scX12_400 (k_X12_asNowE hS a0) hS.1 ⟨(Nat.le_of_ble_eq_true rfl), (Nat.le_of_ble_eq_true rfl)⟩ ⟨(Nat.le_of_ble_eq_true rfl), (Nat.le_of_ble_eq_true rfl)⟩ rfl rfl (Nat.le_of_ble_eq_true rfl) dX12_standing_25 ?_
      rintro f_2 ⟨n_2, z_2, F_2, G_2, hS_2, hx2, hsc_2⟩
      have hxa := hx2
      have hsR := hsc_2
      have hXa := (LX_cg (fun r h1 h2 => hxa.2.2.1 r (fun h => by simp only [List.mem_cons, List.not_mem_nil, or_false] at h <;> omega)) hX)
      have bAa := rAll_w (fun k hk => hxa.2.2.1 k ((by decide : ∀ k : Nat, k ∈ wK → k ∉ ([] : List Nat)) k hk)) bA
      refine gz_iload_n dX12_standing_28 rfl rfl ?_
      by_cases hw_29_0 : x3 = 0
      ·
        refine gz_ev (w := .int 0) (congrArg Value.int hw_29_0) ?_
        refine gz_tableIn (off := 43) (tgt := 72) dX12_standing_29 (by decide) (by decide) rfl (by decide) ?_
        refine gz_iload dX12_standing_72 rfl ?_
        refine gz_bipush (v := 40) dX12_standing_74 (by decide) ?_
        refine gz_irem dX12_standing_76 (by decide) ?_
        have hxx : fx [] [29] [] [28] n z F G n_2 z_2 F_2 G_2 := (fx_tr fx_rf hx2 (by decide))
        have hun : stW Tf (sNow (n 0) (F 2)) x1.toInt x2.toInt x3.toInt W = (if x3.toInt = 0 then (((W.2.2.getD x1.toInt.toNat lf0).2.2.2.1.getD x2.toInt.toNat (0, 0)).1 : Int) else if x3.toInt = 1 then (grH (Tf (W.2.2.getD x1.toInt.toNat lf0).1) ((W.2.2.getD x1.toInt.toNat lf0).2.2.2.1.getD x2.toInt.toNat (0, 0)).1).1 else if x3.toInt = 2 then chT (Tf (W.2.2.getD x1.toInt.toNat lf0).1) (W.2.2.getD x1.toInt.toNat lf0).2.1 (W.2.2.getD x1.toInt.toNat lf0).2.2.1 ((W.2.2.getD x1.toInt.toNat lf0).2.2.2.1.getD x2.toInt.toNat (0, 0)).1 else if x3.toInt = 3 then ((W.2.2.getD x1.toInt.toNat lf0).2.2.2.1.getD x2.toInt.toNat (0, 0)).2 else if x3.toInt = 4 then cqT (Tf (W.2.2.getD x1.toInt.toNat lf0).1) ((W.2.2.getD x1.toInt.toNat lf0).2.2.2.1.getD x2.toInt.toNat (0, 0)).1 else if x3.toInt = 5 then unT (Tf (W.2.2.getD x1.toInt.toNat lf0).1) ((W.2.2.getD x1.toInt.toNat lf0).2.2.2.1.getD x2.toInt.toNat (0, 0)).1 else if x3.toInt = 6 then (if (grH (Tf (W.2.2.getD x1.toInt.toNat lf0).1) ((W.2.2.getD x1.toInt.toNat lf0).2.2.2.1.getD x2.toInt.toNat (0, 0)).1).1 = 4 ∨ hlB (sNow (n 0) (F 2)) (grH (Tf (W.2.2.getD x1.toInt.toNat lf0).1) ((W.2.2.getD x1.toInt.toNat lf0).2.2.2.1.getD x2.toInt.toNat (0, 0)).1) = true then 1 else 0) else -1) := by
          unfold stW
          rw [if_pos ⟨by omega, by omega⟩]
          unfold stR
          rw [if_pos ⟨by omega, by omega⟩]
        have zs0 : x3.toInt = 0 := by rw [hw_29_0]; rfl
        exact gz_iret rfl dX12_standing_77 (Nat.le_of_ble_eq_true rfl) (Nat.le_of_ble_eq_true rfl) (⟨_, rfl, _, _, _, _, hS_2, hxx, RI_fx hR hxx (by decide) (by decide), (by rw [hun, if_pos (by omega)]; exact rem40 hwx.1 (by omega) hfo)⟩)
      ·
        by_cases hw_29_1 : x3 = 1
        ·
          refine gz_ev (w := .int 1) (congrArg Value.int hw_29_1) ?_
          refine gz_tableIn (off := 49) (tgt := 78) dX12_standing_29 (by decide) (by decide) rfl (by decide) ?_
          refine gz_aload_n dX12_standing_78 rfl rfl ?_
          refine mg_20 hS_2 dX12_standing_79 ?_
          refine gz_iload dX12_standing_82 rfl ?_
          refine m_iald 7 hS_2 rfl (N := 880) rfl ((by exact vin_T (rfl : (wv).toInt = (wv).toInt) (by omega) (by omega))) dX12_standing_84 ?_
          refine gz_ev (w := .int ((F 7) (Int32.toNatClampNeg wv))) (congrArg Value.int (congrFun (hx2.2.2.1 7 (by decide)) _)) ?_
          have hxx : fx [] [29] [] [28] n z F G n_2 z_2 F_2 G_2 := (fx_tr fx_rf hx2 (by decide))
          have hun : stW Tf (sNow (n 0) (F 2)) x1.toInt x2.toInt x3.toInt W = (if x3.toInt = 0 then (((W.2.2.getD x1.toInt.toNat lf0).2.2.2.1.getD x2.toInt.toNat (0, 0)).1 : Int) else if x3.toInt = 1 then (grH (Tf (W.2.2.getD x1.toInt.toNat lf0).1) ((W.2.2.getD x1.toInt.toNat lf0).2.2.2.1.getD x2.toInt.toNat (0, 0)).1).1 else if x3.toInt = 2 then chT (Tf (W.2.2.getD x1.toInt.toNat lf0).1) (W.2.2.getD x1.toInt.toNat lf0).2.1 (W.2.2.getD x1.toInt.toNat lf0).2.2.1 ((W.2.2.getD x1.toInt.toNat lf0).2.2.2.1.getD x2.toInt.toNat (0, 0)).1 else if x3.toInt = 3 then ((W.2.2.getD x1.toInt.toNat lf0).2.2.2.1.getD x2.toInt.toNat (0, 0)).2 else if x3.toInt = 4 then cqT (Tf (W.2.2.getD x1.toInt.toNat lf0).1) ((W.2.2.getD x1.toInt.toNat lf0).2.2.2.1.getD x2.toInt.toNat (0, 0)).1 else if x3.toInt = 5 then unT (Tf (W.2.2.getD x1.toInt.toNat lf0).1) ((W.2.2.getD x1.toInt.toNat lf0).2.2.2.1.getD x2.toInt.toNat (0, 0)).1 else if x3.toInt = 6 then (if (grH (Tf (W.2.2.getD x1.toInt.toNat lf0).1) ((W.2.2.getD x1.toInt.toNat lf0).2.2.2.1.getD x2.toInt.toNat (0, 0)).1).1 = 4 ∨ hlB (sNow (n 0) (F 2)) (grH (Tf (W.2.2.getD x1.toInt.toNat lf0).1) ((W.2.2.getD x1.toInt.toNat lf0).2.2.2.1.getD x2.toInt.toNat (0, 0)).1) = true then 1 else 0) else -1) := by
            unfold stW
            rw [if_pos ⟨by omega, by omega⟩]
            unfold stR
            rw [if_pos ⟨by omega, by omega⟩]
          have zs0 : x3.toInt ≠ 0 := fun e => hw_29_0 (Int32.toInt_inj.mp (e.trans rfl))
          have zs1 : x3.toInt = 1 := by rw [hw_29_1]; rfl
          exact gz_iret rfl dX12_standing_85 (Nat.le_of_ble_eq_true rfl) (Nat.le_of_ble_eq_true rfl) (⟨_, rfl, _, _, _, _, hS_2, hxx, RI_fx hR hxx (by decide) (by decide), (by rw [hun, if_neg (by omega), if_pos (by omega)]; omega)⟩)
        ·
          by_cases hw_29_2 : x3 = 2
          ·
            refine gz_ev (w := .int 2) (congrArg Value.int hw_29_2) ?_
            refine gz_tableIn (off := 57) (tgt := 86) dX12_standing_29 (by decide) (by decide) rfl (by decide) ?_
            refine gz_aload_n dX12_standing_86 rfl rfl ?_
            refine gz_iload_n dX12_standing_87 rfl rfl ?_
            refine gz_iload dX12_standing_88 rfl ?_
            refine scX12_419 (k_X12_choosingE (x1 := x1) (x2 := wv) (fo := (W.2.2.getD x1.toInt.toNat lf0).1) (wN := ((W.2.2.getD x1.toInt.toNat lf0).2.2.2.1.getD x2.toInt.toNat (0, 0)).1) (T := (Tf (W.2.2.getD x1.toInt.toNat lf0).1)) hS_2 (by omega) bAa hXa hfo hwx) hS_2.1 ⟨(Nat.le_of_ble_eq_true rfl), (Nat.le_of_ble_eq_true rfl)⟩ ⟨(Nat.le_of_ble_eq_true rfl), (Nat.le_of_ble_eq_true rfl)⟩ rfl rfl (Nat.le_of_ble_eq_true rfl) dX12_standing_90 ?_
            rintro r_3 f9 ⟨hcho, y9⟩; rw [y9]
            have hct : r_3.toInt = chT (Tf (W.2.2.getD x1.toInt.toNat lf0).1) (W.2.2.getD x1.toInt.toNat lf0).2.1 (W.2.2.getD x1.toInt.toNat lf0).2.2.1 ((W.2.2.getD x1.toInt.toNat lf0).2.2.2.1.getD x2.toInt.toNat (0, 0)).1 := by
              rw [hcho]
              unfold chT
              by_cases c9 : sdT (Tf (W.2.2.getD x1.toInt.toNat lf0).1) ((W.2.2.getD x1.toInt.toNat lf0).2.2.2.1.getD x2.toInt.toNat (0, 0)).1 = 0
              · rw [if_pos c9, if_pos c9, hxa.2.2.1 32 (by decide)]; exact hfw.1.2.1
              · rw [if_neg c9, if_neg c9, hxa.2.2.1 33 (by decide)]; exact hfw.1.2.2
            have hxx : fx [] [29] [] [28] n z F G n_2 z_2 F_2 G_2 := (fx_tr fx_rf hx2 (by decide))
            have hun : stW Tf (sNow (n 0) (F 2)) x1.toInt x2.toInt x3.toInt W = (if x3.toInt = 0 then (((W.2.2.getD x1.toInt.toNat lf0).2.2.2.1.getD x2.toInt.toNat (0, 0)).1 : Int) else if x3.toInt = 1 then (grH (Tf (W.2.2.getD x1.toInt.toNat lf0).1) ((W.2.2.getD x1.toInt.toNat lf0).2.2.2.1.getD x2.toInt.toNat (0, 0)).1).1 else if x3.toInt = 2 then chT (Tf (W.2.2.getD x1.toInt.toNat lf0).1) (W.2.2.getD x1.toInt.toNat lf0).2.1 (W.2.2.getD x1.toInt.toNat lf0).2.2.1 ((W.2.2.getD x1.toInt.toNat lf0).2.2.2.1.getD x2.toInt.toNat (0, 0)).1 else if x3.toInt = 3 then ((W.2.2.getD x1.toInt.toNat lf0).2.2.2.1.getD x2.toInt.toNat (0, 0)).2 else if x3.toInt = 4 then cqT (Tf (W.2.2.getD x1.toInt.toNat lf0).1) ((W.2.2.getD x1.toInt.toNat lf0).2.2.2.1.getD x2.toInt.toNat (0, 0)).1 else if x3.toInt = 5 then unT (Tf (W.2.2.getD x1.toInt.toNat lf0).1) ((W.2.2.getD x1.toInt.toNat lf0).2.2.2.1.getD x2.toInt.toNat (0, 0)).1 else if x3.toInt = 6 then (if (grH (Tf (W.2.2.getD x1.toInt.toNat lf0).1) ((W.2.2.getD x1.toInt.toNat lf0).2.2.2.1.getD x2.toInt.toNat (0, 0)).1).1 = 4 ∨ hlB (sNow (n 0) (F 2)) (grH (Tf (W.2.2.getD x1.toInt.toNat lf0).1) ((W.2.2.getD x1.toInt.toNat lf0).2.2.2.1.getD x2.toInt.toNat (0, 0)).1) = true then 1 else 0) else -1) := by
              unfold stW
              rw [if_pos ⟨by omega, by omega⟩]
              unfold stR
              rw [if_pos ⟨by omega, by omega⟩]
            have zs0 : x3.toInt ≠ 0 := fun e => hw_29_0 (Int32.toInt_inj.mp (e.trans rfl))
            have zs1 : x3.toInt ≠ 1 := fun e => hw_29_1 (Int32.toInt_inj.mp (e.trans rfl))
            have zs2 : x3.toInt = 2 := by rw [hw_29_2]; rfl
            exact gz_iret rfl dX12_standing_93 (Nat.le_of_ble_eq_true rfl) (Nat.le_of_ble_eq_true rfl) (⟨_, rfl, _, _, _, _, hS_2, hxx, RI_fx hR hxx (by decide) (by decide), (by rw [hun, if_neg (by omega), if_neg (by omega), if_pos (by omega)]; exact hct)⟩)
          ·
            by_cases hw_29_3 : x3 = 3
            ·
              refine gz_ev (w := .int 3) (congrArg Value.int hw_29_3) ?_
              refine gz_tableIn (off := 65) (tgt := 94) dX12_standing_29 (by decide) (by decide) rfl (by decide) ?_
              refine gz_aload_n dX12_standing_94 rfl rfl ?_
              refine mg_115 hS_2 dX12_standing_95 ?_
              refine gz_bipush (v := 40) dX12_standing_98 (by decide) ?_
              refine gz_iload_n dX12_standing_100 rfl rfl ?_
              refine gz_imul dX12_standing_101 ?_
              refine gz_iload_n dX12_standing_102 rfl rfl ?_
              refine gz_iadd dX12_standing_103 ?_
              refine m_lald 37 hS_2 rfl (N := 1600) rfl ((by have z9 := hs.2.1; have qL9 := bL (Int32.toNatClampNeg x1) (by have := clI (i := x1) (by omega); omega); have q9 := (T_add (T_mul (show (40 : Int32).toInt = 40 from rfl) (rfl : (x1).toInt = (x1).toInt) (by omega)) (rfl : (x2).toInt = (x2).toInt) (by omega)); exact vin_T q9 (by omega) (by omega))) dX12_standing_104 ?_
              refine gz_ev (w := .long ((G 37) (Int32.toNatClampNeg ((40 * x1) + x2)))) (congrArg Value.long (congrFun (hx2.2.2.2 37 (by decide)) _)) ?_
              refine gz_l2i dX12_standing_105 ?_
              have hxx : fx [] [29] [] [28] n z F G n_2 z_2 F_2 G_2 := (fx_tr fx_rf hx2 (by decide))
              have hun : stW Tf (sNow (n 0) (F 2)) x1.toInt x2.toInt x3.toInt W = (if x3.toInt = 0 then (((W.2.2.getD x1.toInt.toNat lf0).2.2.2.1.getD x2.toInt.toNat (0, 0)).1 : Int) else if x3.toInt = 1 then (grH (Tf (W.2.2.getD x1.toInt.toNat lf0).1) ((W.2.2.getD x1.toInt.toNat lf0).2.2.2.1.getD x2.toInt.toNat (0, 0)).1).1 else if x3.toInt = 2 then chT (Tf (W.2.2.getD x1.toInt.toNat lf0).1) (W.2.2.getD x1.toInt.toNat lf0).2.1 (W.2.2.getD x1.toInt.toNat lf0).2.2.1 ((W.2.2.getD x1.toInt.toNat lf0).2.2.2.1.getD x2.toInt.toNat (0, 0)).1 else if x3.toInt = 3 then ((W.2.2.getD x1.toInt.toNat lf0).2.2.2.1.getD x2.toInt.toNat (0, 0)).2 else if x3.toInt = 4 then cqT (Tf (W.2.2.getD x1.toInt.toNat lf0).1) ((W.2.2.getD x1.toInt.toNat lf0).2.2.2.1.getD x2.toInt.toNat (0, 0)).1 else if x3.toInt = 5 then unT (Tf (W.2.2.getD x1.toInt.toNat lf0).1) ((W.2.2.getD x1.toInt.toNat lf0).2.2.2.1.getD x2.toInt.toNat (0, 0)).1 else if x3.toInt = 6 then (if (grH (Tf (W.2.2.getD x1.toInt.toNat lf0).1) ((W.2.2.getD x1.toInt.toNat lf0).2.2.2.1.getD x2.toInt.toNat (0, 0)).1).1 = 4 ∨ hlB (sNow (n 0) (F 2)) (grH (Tf (W.2.2.getD x1.toInt.toNat lf0).1) ((W.2.2.getD x1.toInt.toNat lf0).2.2.2.1.getD x2.toInt.toNat (0, 0)).1) = true then 1 else 0) else -1) := by
                unfold stW
                rw [if_pos ⟨by omega, by omega⟩]
                unfold stR
                rw [if_pos ⟨by omega, by omega⟩]
              have zs0 : x3.toInt ≠ 0 := fun e => hw_29_0 (Int32.toInt_inj.mp (e.trans rfl))
              have zs1 : x3.toInt ≠ 1 := fun e => hw_29_1 (Int32.toInt_inj.mp (e.trans rfl))
              have zs2 : x3.toInt ≠ 2 := fun e => hw_29_2 (Int32.toInt_inj.mp (e.trans rfl))
              have zs3 : x3.toInt = 3 := by rw [hw_29_3]; rfl
              exact gz_iret rfl dX12_standing_106 (Nat.le_of_ble_eq_true rfl) (Nat.le_of_ble_eq_true rfl) (⟨_, rfl, _, _, _, _, hS_2, hxx, RI_fx hR hxx (by decide) (by decide), (by rw [hun, if_neg (by omega), if_neg (by omega), if_neg (by omega), if_pos (by omega)]; (show (G 37 (Int32.toNatClampNeg (40 * x1 + x2))).toInt32.toInt = _; rw [Int64.toInt_toInt32, ecq, he2]; have hb9 := hsd.2.2; exact Int.bmod_eq_of_le (by omega) (by omega)))⟩)
            ·
              by_cases hw_29_4 : x3 = 4
              ·
                refine gz_ev (w := .int 4) (congrArg Value.int hw_29_4) ?_
                refine gz_tableIn (off := 78) (tgt := 107) dX12_standing_29 (by decide) (by decide) rfl (by decide) ?_
                refine gz_aload_n dX12_standing_107 rfl rfl ?_
                refine gz_iload dX12_standing_108 rfl ?_
                refine scX12_351 (k_X12_capOfE (x1 := wv) (fo := (W.2.2.getD x1.toInt.toNat lf0).1) (wN := ((W.2.2.getD x1.toInt.toNat lf0).2.2.2.1.getD x2.toInt.toNat (0, 0)).1) (T := (Tf (W.2.2.getD x1.toInt.toNat lf0).1)) hS_2 bAa hXa hfo hwx) hS_2.1 ⟨(Nat.le_of_ble_eq_true rfl), (Nat.le_of_ble_eq_true rfl)⟩ ⟨(Nat.le_of_ble_eq_true rfl), (Nat.le_of_ble_eq_true rfl)⟩ rfl rfl (Nat.le_of_ble_eq_true rfl) dX12_standing_110 ?_
                rintro r_4 f9 ⟨hcp, y9⟩; rw [y9]
                have hxx : fx [] [29] [] [28] n z F G n_2 z_2 F_2 G_2 := (fx_tr fx_rf hx2 (by decide))
                have hun : stW Tf (sNow (n 0) (F 2)) x1.toInt x2.toInt x3.toInt W = (if x3.toInt = 0 then (((W.2.2.getD x1.toInt.toNat lf0).2.2.2.1.getD x2.toInt.toNat (0, 0)).1 : Int) else if x3.toInt = 1 then (grH (Tf (W.2.2.getD x1.toInt.toNat lf0).1) ((W.2.2.getD x1.toInt.toNat lf0).2.2.2.1.getD x2.toInt.toNat (0, 0)).1).1 else if x3.toInt = 2 then chT (Tf (W.2.2.getD x1.toInt.toNat lf0).1) (W.2.2.getD x1.toInt.toNat lf0).2.1 (W.2.2.getD x1.toInt.toNat lf0).2.2.1 ((W.2.2.getD x1.toInt.toNat lf0).2.2.2.1.getD x2.toInt.toNat (0, 0)).1 else if x3.toInt = 3 then ((W.2.2.getD x1.toInt.toNat lf0).2.2.2.1.getD x2.toInt.toNat (0, 0)).2 else if x3.toInt = 4 then cqT (Tf (W.2.2.getD x1.toInt.toNat lf0).1) ((W.2.2.getD x1.toInt.toNat lf0).2.2.2.1.getD x2.toInt.toNat (0, 0)).1 else if x3.toInt = 5 then unT (Tf (W.2.2.getD x1.toInt.toNat lf0).1) ((W.2.2.getD x1.toInt.toNat lf0).2.2.2.1.getD x2.toInt.toNat (0, 0)).1 else if x3.toInt = 6 then (if (grH (Tf (W.2.2.getD x1.toInt.toNat lf0).1) ((W.2.2.getD x1.toInt.toNat lf0).2.2.2.1.getD x2.toInt.toNat (0, 0)).1).1 = 4 ∨ hlB (sNow (n 0) (F 2)) (grH (Tf (W.2.2.getD x1.toInt.toNat lf0).1) ((W.2.2.getD x1.toInt.toNat lf0).2.2.2.1.getD x2.toInt.toNat (0, 0)).1) = true then 1 else 0) else -1) := by
                  unfold stW
                  rw [if_pos ⟨by omega, by omega⟩]
                  unfold stR
                  rw [if_pos ⟨by omega, by omega⟩]
                have zs0 : x3.toInt ≠ 0 := fun e => hw_29_0 (Int32.toInt_inj.mp (e.trans rfl))
                have zs1 : x3.toInt ≠ 1 := fun e => hw_29_1 (Int32.toInt_inj.mp (e.trans rfl))
                have zs2 : x3.toInt ≠ 2 := fun e => hw_29_2 (Int32.toInt_inj.mp (e.trans rfl))
                have zs3 : x3.toInt ≠ 3 := fun e => hw_29_3 (Int32.toInt_inj.mp (e.trans rfl))
                have zs4 : x3.toInt = 4 := by rw [hw_29_4]; rfl
                exact gz_iret rfl dX12_standing_113 (Nat.le_of_ble_eq_true rfl) (Nat.le_of_ble_eq_true rfl) (⟨_, rfl, _, _, _, _, hS_2, hxx, RI_fx hR hxx (by decide) (by decide), (by rw [hun, if_neg (by omega), if_neg (by omega), if_neg (by omega), if_neg (by omega), if_pos (by omega)]; exact hcp)⟩)
              ·
                by_cases hw_29_5 : x3 = 5
                ·
                  refine gz_ev (w := .int 5) (congrArg Value.int hw_29_5) ?_
                  refine gz_tableIn (off := 85) (tgt := 114) dX12_standing_29 (by decide) (by decide) rfl (by decide) ?_
                  refine gz_aload_n dX12_standing_114 rfl rfl ?_
                  refine gz_iload dX12_standing_115 rfl ?_
                  refine scX12_422 (k_X12_untilsE (x1 := wv) (fo := (W.2.2.getD x1.toInt.toNat lf0).1) (wN := ((W.2.2.getD x1.toInt.toNat lf0).2.2.2.1.getD x2.toInt.toNat (0, 0)).1) (T := (Tf (W.2.2.getD x1.toInt.toNat lf0).1)) hS_2 bAa hXa hfo hwx) hS_2.1 ⟨(Nat.le_of_ble_eq_true rfl), (Nat.le_of_ble_eq_true rfl)⟩ ⟨(Nat.le_of_ble_eq_true rfl), (Nat.le_of_ble_eq_true rfl)⟩ rfl rfl (Nat.le_of_ble_eq_true rfl) dX12_standing_117 ?_
                  rintro r_5 f9 ⟨hun9, y9⟩; rw [y9]
                  have hxx : fx [] [29] [] [28] n z F G n_2 z_2 F_2 G_2 := (fx_tr fx_rf hx2 (by decide))
                  have hun : stW Tf (sNow (n 0) (F 2)) x1.toInt x2.toInt x3.toInt W = (if x3.toInt = 0 then (((W.2.2.getD x1.toInt.toNat lf0).2.2.2.1.getD x2.toInt.toNat (0, 0)).1 : Int) else if x3.toInt = 1 then (grH (Tf (W.2.2.getD x1.toInt.toNat lf0).1) ((W.2.2.getD x1.toInt.toNat lf0).2.2.2.1.getD x2.toInt.toNat (0, 0)).1).1 else if x3.toInt = 2 then chT (Tf (W.2.2.getD x1.toInt.toNat lf0).1) (W.2.2.getD x1.toInt.toNat lf0).2.1 (W.2.2.getD x1.toInt.toNat lf0).2.2.1 ((W.2.2.getD x1.toInt.toNat lf0).2.2.2.1.getD x2.toInt.toNat (0, 0)).1 else if x3.toInt = 3 then ((W.2.2.getD x1.toInt.toNat lf0).2.2.2.1.getD x2.toInt.toNat (0, 0)).2 else if x3.toInt = 4 then cqT (Tf (W.2.2.getD x1.toInt.toNat lf0).1) ((W.2.2.getD x1.toInt.toNat lf0).2.2.2.1.getD x2.toInt.toNat (0, 0)).1 else if x3.toInt = 5 then unT (Tf (W.2.2.getD x1.toInt.toNat lf0).1) ((W.2.2.getD x1.toInt.toNat lf0).2.2.2.1.getD x2.toInt.toNat (0, 0)).1 else if x3.toInt = 6 then (if (grH (Tf (W.2.2.getD x1.toInt.toNat lf0).1) ((W.2.2.getD x1.toInt.toNat lf0).2.2.2.1.getD x2.toInt.toNat (0, 0)).1).1 = 4 ∨ hlB (sNow (n 0) (F 2)) (grH (Tf (W.2.2.getD x1.toInt.toNat lf0).1) ((W.2.2.getD x1.toInt.toNat lf0).2.2.2.1.getD x2.toInt.toNat (0, 0)).1) = true then 1 else 0) else -1) := by
                    unfold stW
                    rw [if_pos ⟨by omega, by omega⟩]
                    unfold stR
                    rw [if_pos ⟨by omega, by omega⟩]
                  have zs0 : x3.toInt ≠ 0 := fun e => hw_29_0 (Int32.toInt_inj.mp (e.trans rfl))
                  have zs1 : x3.toInt ≠ 1 := fun e => hw_29_1 (Int32.toInt_inj.mp (e.trans rfl))
                  have zs2 : x3.toInt ≠ 2 := fun e => hw_29_2 (Int32.toInt_inj.mp (e.trans rfl))
                  have zs3 : x3.toInt ≠ 3 := fun e => hw_29_3 (Int32.toInt_inj.mp (e.trans rfl))
                  have zs4 : x3.toInt ≠ 4 := fun e => hw_29_4 (Int32.toInt_inj.mp (e.trans rfl))
                  have zs5 : x3.toInt = 5 := by rw [hw_29_5]; rfl
                  exact gz_iret rfl dX12_standing_120 (Nat.le_of_ble_eq_true rfl) (Nat.le_of_ble_eq_true rfl) (⟨_, rfl, _, _, _, _, hS_2, hxx, RI_fx hR hxx (by decide) (by decide), (by rw [hun, if_neg (by omega), if_neg (by omega), if_neg (by omega), if_neg (by omega), if_neg (by omega), if_pos (by omega)]; exact hun9)⟩)
                ·
                  by_cases hw_29_6 : x3 = 6
                  ·
                    refine gz_ev (w := .int 6) (congrArg Value.int hw_29_6) ?_
                    refine gz_tableIn (off := 92) (tgt := 121) dX12_standing_29 (by decide) (by decide) rfl (by decide) ?_
                    refine gz_aload_n dX12_standing_121 rfl rfl ?_
                    refine mg_20 hS_2 dX12_standing_122 ?_
                    refine gz_iload dX12_standing_125 rfl ?_
                    refine m_iald 7 hS_2 rfl (N := 880) rfl ((by exact vin_T (rfl : (wv).toInt = (wv).toInt) (by omega) (by omega))) dX12_standing_127 ?_
                    refine gz_ev (w := .int ((F 7) (Int32.toNatClampNeg wv))) (congrArg Value.int (congrFun (hx2.2.2.1 7 (by decide)) _)) ?_
                    refine gz_iconst (v := 4) dX12_standing_128 (by decide) ?_
                    refine gz_icmp_eq (tgt := 141) dX12_standing_129 (by decide) (fun c_129 => ?_) (fun c_129 => ?_)
                    ·
                      try simp only [mIn_0, lgc_lt, lgc_gt, lgc_le, lgc_ge, lgc_eq] at c_129
                      try simp only [fl_lt, fl_le, fl_eq, fL_w, fL_lt, fL_le, tm1, tm10k, tm9, tm99, Int32.reduceToInt, Int64.reduceToInt, Int.not_lt, Int.not_le] at c_129
                      refine gz_iconst (v := 1) dX12_standing_141 (by decide) ?_
                      refine gz_goto (tgt := 146) dX12_standing_142 (by decide) ?_
                      have hxx : fx [] [29] [] [28] n z F G n_2 z_2 F_2 G_2 := (fx_tr fx_rf hx2 (by decide))
                      have hun : stW Tf (sNow (n 0) (F 2)) x1.toInt x2.toInt x3.toInt W = (if x3.toInt = 0 then (((W.2.2.getD x1.toInt.toNat lf0).2.2.2.1.getD x2.toInt.toNat (0, 0)).1 : Int) else if x3.toInt = 1 then (grH (Tf (W.2.2.getD x1.toInt.toNat lf0).1) ((W.2.2.getD x1.toInt.toNat lf0).2.2.2.1.getD x2.toInt.toNat (0, 0)).1).1 else if x3.toInt = 2 then chT (Tf (W.2.2.getD x1.toInt.toNat lf0).1) (W.2.2.getD x1.toInt.toNat lf0).2.1 (W.2.2.getD x1.toInt.toNat lf0).2.2.1 ((W.2.2.getD x1.toInt.toNat lf0).2.2.2.1.getD x2.toInt.toNat (0, 0)).1 else if x3.toInt = 3 then ((W.2.2.getD x1.toInt.toNat lf0).2.2.2.1.getD x2.toInt.toNat (0, 0)).2 else if x3.toInt = 4 then cqT (Tf (W.2.2.getD x1.toInt.toNat lf0).1) ((W.2.2.getD x1.toInt.toNat lf0).2.2.2.1.getD x2.toInt.toNat (0, 0)).1 else if x3.toInt = 5 then unT (Tf (W.2.2.getD x1.toInt.toNat lf0).1) ((W.2.2.getD x1.toInt.toNat lf0).2.2.2.1.getD x2.toInt.toNat (0, 0)).1 else if x3.toInt = 6 then (if (grH (Tf (W.2.2.getD x1.toInt.toNat lf0).1) ((W.2.2.getD x1.toInt.toNat lf0).2.2.2.1.getD x2.toInt.toNat (0, 0)).1).1 = 4 ∨ hlB (sNow (n 0) (F 2)) (grH (Tf (W.2.2.getD x1.toInt.toNat lf0).1) ((W.2.2.getD x1.toInt.toNat lf0).2.2.2.1.getD x2.toInt.toNat (0, 0)).1) = true then 1 else 0) else -1) := by
                        unfold stW
                        rw [if_pos ⟨by omega, by omega⟩]
                        unfold stR
                        rw [if_pos ⟨by omega, by omega⟩]
                      have zs0 : x3.toInt ≠ 0 := fun e => hw_29_0 (Int32.toInt_inj.mp (e.trans rfl))
                      have zs1 : x3.toInt ≠ 1 := fun e => hw_29_1 (Int32.toInt_inj.mp (e.trans rfl))
                      have zs2 : x3.toInt ≠ 2 := fun e => hw_29_2 (Int32.toInt_inj.mp (e.trans rfl))
                      have zs3 : x3.toInt ≠ 3 := fun e => hw_29_3 (Int32.toInt_inj.mp (e.trans rfl))
                      have zs4 : x3.toInt ≠ 4 := fun e => hw_29_4 (Int32.toInt_inj.mp (e.trans rfl))
                      have zs5 : x3.toInt ≠ 5 := fun e => hw_29_5 (Int32.toInt_inj.mp (e.trans rfl))
                      have zs6 : x3.toInt = 6 := by rw [hw_29_6]; rfl
                      exact gz_iret rfl dX12_standing_146 (Nat.le_of_ble_eq_true rfl) (Nat.le_of_ble_eq_true rfl) (⟨_, rfl, _, _, _, _, hS_2, hxx, RI_fx hR hxx (by decide) (by decide), (by rw [hun, if_neg (by omega), if_neg (by omega), if_neg (by omega), if_neg (by omega), if_neg (by omega), if_neg (by omega), if_pos (by omega)]; rw [if_pos (by exact Or.inl (by omega))]; rfl)⟩)
                    ·
                      try simp only [mIn_0, lgc_lt, lgc_gt, lgc_le, lgc_ge, lgc_eq] at c_129
                      try simp only [fl_lt, fl_le, fl_eq, fL_w, fL_lt, fL_le, tm1, tm10k, tm9, tm99, Int32.reduceToInt, Int64.reduceToInt, Int.not_lt, Int.not_le] at c_129
                      refine gz_aload_n dX12_standing_132 rfl rfl ?_
                      refine gz_iload dX12_standing_133 rfl ?_
                      refine scX12_348 (k_X12_holdsE (x1 := wv) (S := (sNow (n 0) (F 2))) hS_2 bAa hsR (by omega) (hdM_cg (fun r hr => hxa.2.2.1 r (by revert hr; revert r; decide)) xd) xv (by omega)) hS_2.1 ⟨(Nat.le_of_ble_eq_true rfl), (Nat.le_of_ble_eq_true rfl)⟩ ⟨(Nat.le_of_ble_eq_true rfl), (Nat.le_of_ble_eq_true rfl)⟩ rfl rfl (Nat.le_of_ble_eq_true rfl) dX12_standing_135 ?_
                      rintro r_6 f9 ⟨hb_6, y9⟩; rw [y9]
                      rcases hb_6 with ⟨hr6, hbt⟩ | ⟨hr6, hbt⟩
                      ·
                        refine gz_ev (w := .int 1) (congrArg Value.int hr6) ?_
                        refine gz_if_eq (tgt := 145) dX12_standing_138 (by decide) (fun c_138 => ?_) (fun c_138 => ?_)
                        · exact absurd c_138 (by decide)
                        ·
                          try simp only [mIn_0, lgc_lt, lgc_gt, lgc_le, lgc_ge, lgc_eq] at c_138
                          try simp only [fl_lt, fl_le, fl_eq, fL_w, fL_lt, fL_le, tm1, tm10k, tm9, tm99, Int32.reduceToInt, Int64.reduceToInt, Int.not_lt, Int.not_le] at c_138
                          refine gz_iconst (v := 1) dX12_standing_141 (by decide) ?_
                          refine gz_goto (tgt := 146) dX12_standing_142 (by decide) ?_
                          have hxx : fx [] [29] [] [28] n z F G n_2 z_2 F_2 G_2 := (fx_tr fx_rf hx2 (by decide))
                          have hun : stW Tf (sNow (n 0) (F 2)) x1.toInt x2.toInt x3.toInt W = (if x3.toInt = 0 then (((W.2.2.getD x1.toInt.toNat lf0).2.2.2.1.getD x2.toInt.toNat (0, 0)).1 : Int) else if x3.toInt = 1 then (grH (Tf (W.2.2.getD x1.toInt.toNat lf0).1) ((W.2.2.getD x1.toInt.toNat lf0).2.2.2.1.getD x2.toInt.toNat (0, 0)).1).1 else if x3.toInt = 2 then chT (Tf (W.2.2.getD x1.toInt.toNat lf0).1) (W.2.2.getD x1.toInt.toNat lf0).2.1 (W.2.2.getD x1.toInt.toNat lf0).2.2.1 ((W.2.2.getD x1.toInt.toNat lf0).2.2.2.1.getD x2.toInt.toNat (0, 0)).1 else if x3.toInt = 3 then ((W.2.2.getD x1.toInt.toNat lf0).2.2.2.1.getD x2.toInt.toNat (0, 0)).2 else if x3.toInt = 4 then cqT (Tf (W.2.2.getD x1.toInt.toNat lf0).1) ((W.2.2.getD x1.toInt.toNat lf0).2.2.2.1.getD x2.toInt.toNat (0, 0)).1 else if x3.toInt = 5 then unT (Tf (W.2.2.getD x1.toInt.toNat lf0).1) ((W.2.2.getD x1.toInt.toNat lf0).2.2.2.1.getD x2.toInt.toNat (0, 0)).1 else if x3.toInt = 6 then (if (grH (Tf (W.2.2.getD x1.toInt.toNat lf0).1) ((W.2.2.getD x1.toInt.toNat lf0).2.2.2.1.getD x2.toInt.toNat (0, 0)).1).1 = 4 ∨ hlB (sNow (n 0) (F 2)) (grH (Tf (W.2.2.getD x1.toInt.toNat lf0).1) ((W.2.2.getD x1.toInt.toNat lf0).2.2.2.1.getD x2.toInt.toNat (0, 0)).1) = true then 1 else 0) else -1) := by
                            unfold stW
                            rw [if_pos ⟨by omega, by omega⟩]
                            unfold stR
                            rw [if_pos ⟨by omega, by omega⟩]
                          have zs0 : x3.toInt ≠ 0 := fun e => hw_29_0 (Int32.toInt_inj.mp (e.trans rfl))
                          have zs1 : x3.toInt ≠ 1 := fun e => hw_29_1 (Int32.toInt_inj.mp (e.trans rfl))
                          have zs2 : x3.toInt ≠ 2 := fun e => hw_29_2 (Int32.toInt_inj.mp (e.trans rfl))
                          have zs3 : x3.toInt ≠ 3 := fun e => hw_29_3 (Int32.toInt_inj.mp (e.trans rfl))
                          have zs4 : x3.toInt ≠ 4 := fun e => hw_29_4 (Int32.toInt_inj.mp (e.trans rfl))
                          have zs5 : x3.toInt ≠ 5 := fun e => hw_29_5 (Int32.toInt_inj.mp (e.trans rfl))
                          have zs6 : x3.toInt = 6 := by rw [hw_29_6]; rfl
                          exact gz_iret rfl dX12_standing_146 (Nat.le_of_ble_eq_true rfl) (Nat.le_of_ble_eq_true rfl) (⟨_, rfl, _, _, _, _, hS_2, hxx, RI_fx hR hxx (by decide) (by decide), (by rw [hun, if_neg (by omega), if_neg (by omega), if_neg (by omega), if_neg (by omega), if_neg (by omega), if_neg (by omega), if_pos (by omega)]; rw [if_pos (by exact Or.inr hbt)]; rfl)⟩)
                      ·
                        refine gz_ev (w := .int 0) (congrArg Value.int hr6) ?_
                        refine gz_if_eq (tgt := 145) dX12_standing_138 (by decide) (fun c_138 => ?_) (fun c_138 => ?_)
                        ·
                          try simp only [mIn_0, lgc_lt, lgc_gt, lgc_le, lgc_ge, lgc_eq] at c_138
                          try simp only [fl_lt, fl_le, fl_eq, fL_w, fL_lt, fL_le, tm1, tm10k, tm9, tm99, Int32.reduceToInt, Int64.reduceToInt, Int.not_lt, Int.not_le] at c_138
                          refine gz_iconst (v := 0) dX12_standing_145 (by decide) ?_
                          have hxx : fx [] [29] [] [28] n z F G n_2 z_2 F_2 G_2 := (fx_tr fx_rf hx2 (by decide))
                          have hun : stW Tf (sNow (n 0) (F 2)) x1.toInt x2.toInt x3.toInt W = (if x3.toInt = 0 then (((W.2.2.getD x1.toInt.toNat lf0).2.2.2.1.getD x2.toInt.toNat (0, 0)).1 : Int) else if x3.toInt = 1 then (grH (Tf (W.2.2.getD x1.toInt.toNat lf0).1) ((W.2.2.getD x1.toInt.toNat lf0).2.2.2.1.getD x2.toInt.toNat (0, 0)).1).1 else if x3.toInt = 2 then chT (Tf (W.2.2.getD x1.toInt.toNat lf0).1) (W.2.2.getD x1.toInt.toNat lf0).2.1 (W.2.2.getD x1.toInt.toNat lf0).2.2.1 ((W.2.2.getD x1.toInt.toNat lf0).2.2.2.1.getD x2.toInt.toNat (0, 0)).1 else if x3.toInt = 3 then ((W.2.2.getD x1.toInt.toNat lf0).2.2.2.1.getD x2.toInt.toNat (0, 0)).2 else if x3.toInt = 4 then cqT (Tf (W.2.2.getD x1.toInt.toNat lf0).1) ((W.2.2.getD x1.toInt.toNat lf0).2.2.2.1.getD x2.toInt.toNat (0, 0)).1 else if x3.toInt = 5 then unT (Tf (W.2.2.getD x1.toInt.toNat lf0).1) ((W.2.2.getD x1.toInt.toNat lf0).2.2.2.1.getD x2.toInt.toNat (0, 0)).1 else if x3.toInt = 6 then (if (grH (Tf (W.2.2.getD x1.toInt.toNat lf0).1) ((W.2.2.getD x1.toInt.toNat lf0).2.2.2.1.getD x2.toInt.toNat (0, 0)).1).1 = 4 ∨ hlB (sNow (n 0) (F 2)) (grH (Tf (W.2.2.getD x1.toInt.toNat lf0).1) ((W.2.2.getD x1.toInt.toNat lf0).2.2.2.1.getD x2.toInt.toNat (0, 0)).1) = true then 1 else 0) else -1) := by
                            unfold stW
                            rw [if_pos ⟨by omega, by omega⟩]
                            unfold stR
                            rw [if_pos ⟨by omega, by omega⟩]
                          have zs0 : x3.toInt ≠ 0 := fun e => hw_29_0 (Int32.toInt_inj.mp (e.trans rfl))
                          have zs1 : x3.toInt ≠ 1 := fun e => hw_29_1 (Int32.toInt_inj.mp (e.trans rfl))
                          have zs2 : x3.toInt ≠ 2 := fun e => hw_29_2 (Int32.toInt_inj.mp (e.trans rfl))
                          have zs3 : x3.toInt ≠ 3 := fun e => hw_29_3 (Int32.toInt_inj.mp (e.trans rfl))
                          have zs4 : x3.toInt ≠ 4 := fun e => hw_29_4 (Int32.toInt_inj.mp (e.trans rfl))
                          have zs5 : x3.toInt ≠ 5 := fun e => hw_29_5 (Int32.toInt_inj.mp (e.trans rfl))
                          have zs6 : x3.toInt = 6 := by rw [hw_29_6]; rfl
                          exact gz_iret rfl dX12_standing_146 (Nat.le_of_ble_eq_true rfl) (Nat.le_of_ble_eq_true rfl) (⟨_, rfl, _, _, _, _, hS_2, hxx, RI_fx hR hxx (by decide) (by decide), (by rw [hun, if_neg (by omega), if_neg (by omega), if_neg (by omega), if_neg (by omega), if_neg (by omega), if_neg (by omega), if_pos (by omega)]; rw [if_neg (fun z9 => by rcases z9 with q9 | q9; (omega); (rw [hbt] at q9; exact absurd q9 (by decide)))]; rfl)⟩)
                        · exact absurd c_138 (by decide)
                  ·
                    refine gz_tableOut (tgt := 147) dX12_standing_29 (by have g0 : x3.toInt ≠ 0 := fun e => hw_29_0 (Int32.toInt_inj.mp (e.trans rfl)); have g1 : x3.toInt ≠ 1 := fun e => hw_29_1 (Int32.toInt_inj.mp (e.trans rfl)); have g2 : x3.toInt ≠ 2 := fun e => hw_29_2 (Int32.toInt_inj.mp (e.trans rfl)); have g3 : x3.toInt ≠ 3 := fun e => hw_29_3 (Int32.toInt_inj.mp (e.trans rfl)); have g4 : x3.toInt ≠ 4 := fun e => hw_29_4 (Int32.toInt_inj.mp (e.trans rfl)); have g5 : x3.toInt ≠ 5 := fun e => hw_29_5 (Int32.toInt_inj.mp (e.trans rfl)); have g6 : x3.toInt ≠ 6 := fun e => hw_29_6 (Int32.toInt_inj.mp (e.trans rfl)); omega) (by decide) ?_
                    refine gz_iconst (v := (-1)) dX12_standing_147 (by decide) ?_
                    have hxx : fx [] [29] [] [28] n z F G n_2 z_2 F_2 G_2 := (fx_tr fx_rf hx2 (by decide))
                    have hun : stW Tf (sNow (n 0) (F 2)) x1.toInt x2.toInt x3.toInt W = (if x3.toInt = 0 then (((W.2.2.getD x1.toInt.toNat lf0).2.2.2.1.getD x2.toInt.toNat (0, 0)).1 : Int) else if x3.toInt = 1 then (grH (Tf (W.2.2.getD x1.toInt.toNat lf0).1) ((W.2.2.getD x1.toInt.toNat lf0).2.2.2.1.getD x2.toInt.toNat (0, 0)).1).1 else if x3.toInt = 2 then chT (Tf (W.2.2.getD x1.toInt.toNat lf0).1) (W.2.2.getD x1.toInt.toNat lf0).2.1 (W.2.2.getD x1.toInt.toNat lf0).2.2.1 ((W.2.2.getD x1.toInt.toNat lf0).2.2.2.1.getD x2.toInt.toNat (0, 0)).1 else if x3.toInt = 3 then ((W.2.2.getD x1.toInt.toNat lf0).2.2.2.1.getD x2.toInt.toNat (0, 0)).2 else if x3.toInt = 4 then cqT (Tf (W.2.2.getD x1.toInt.toNat lf0).1) ((W.2.2.getD x1.toInt.toNat lf0).2.2.2.1.getD x2.toInt.toNat (0, 0)).1 else if x3.toInt = 5 then unT (Tf (W.2.2.getD x1.toInt.toNat lf0).1) ((W.2.2.getD x1.toInt.toNat lf0).2.2.2.1.getD x2.toInt.toNat (0, 0)).1 else if x3.toInt = 6 then (if (grH (Tf (W.2.2.getD x1.toInt.toNat lf0).1) ((W.2.2.getD x1.toInt.toNat lf0).2.2.2.1.getD x2.toInt.toNat (0, 0)).1).1 = 4 ∨ hlB (sNow (n 0) (F 2)) (grH (Tf (W.2.2.getD x1.toInt.toNat lf0).1) ((W.2.2.getD x1.toInt.toNat lf0).2.2.2.1.getD x2.toInt.toNat (0, 0)).1) = true then 1 else 0) else -1) := by
                      unfold stW
                      rw [if_pos ⟨by omega, by omega⟩]
                      unfold stR
                      rw [if_pos ⟨by omega, by omega⟩]
                    have zs0 : x3.toInt ≠ 0 := fun e => hw_29_0 (Int32.toInt_inj.mp (e.trans rfl))
                    have zs1 : x3.toInt ≠ 1 := fun e => hw_29_1 (Int32.toInt_inj.mp (e.trans rfl))
                    have zs2 : x3.toInt ≠ 2 := fun e => hw_29_2 (Int32.toInt_inj.mp (e.trans rfl))
                    have zs3 : x3.toInt ≠ 3 := fun e => hw_29_3 (Int32.toInt_inj.mp (e.trans rfl))
                    have zs4 : x3.toInt ≠ 4 := fun e => hw_29_4 (Int32.toInt_inj.mp (e.trans rfl))
                    have zs5 : x3.toInt ≠ 5 := fun e => hw_29_5 (Int32.toInt_inj.mp (e.trans rfl))
                    have zs6 : x3.toInt ≠ 6 := fun e => hw_29_6 (Int32.toInt_inj.mp (e.trans rfl))
                    exact gz_iret rfl dX12_standing_148 (Nat.le_of_ble_eq_true rfl) (Nat.le_of_ble_eq_true rfl) (⟨_, rfl, _, _, _, _, hS_2, hxx, RI_fx hR hxx (by decide) (by decide), (by rw [hun, if_neg (by omega), if_neg (by omega), if_neg (by omega), if_neg (by omega), if_neg (by omega), if_neg (by omega), if_neg (by omega)]; rfl)⟩)
    · exact absurd c_6 (by decide)
  ·
    refine gz_ev (w := .int 0) (congrArg Value.int hr1) ?_
    refine gz_if_ne (tgt := 11) dX12_standing_6 (by decide) (fun c_6 => ?_) (fun c_6 => ?_)
    · exact absurd c_6 (by decide)
    ·
      try simp only [mIn_0, lgc_lt, lgc_gt, lgc_le, lgc_ge, lgc_eq] at c_6
      try simp only [fl_lt, fl_le, fl_eq, fL_w, fL_lt, fL_le, tm1, tm10k, tm9, tm99, Int32.reduceToInt, Int64.reduceToInt, Int.not_lt, Int.not_le] at c_6
      refine gz_iconst (v := (-1)) dX12_standing_9 (by decide) ?_
      have hxx : fx [] [29] [] [28] n z F G n z F G := fx_rf
      have hrr : stW Tf (sNow (n 0) (F 2)) x1.toInt x2.toInt x3.toInt W = -1 := by
        unfold stW
        by_cases c8 : 0 ≤ x1.toInt ∧ x1.toInt < (W.2.2.length : Int)
        · rw [if_pos c8]
          unfold stR
          have z9 : (F 35 (Int32.toNatClampNeg x1)).toInt = ((W.2.2.getD x1.toInt.toNat lf0).2.2.2.1.length : Int) := (hs.2.2.1 x1.toInt.toNat (by omega)).2.1.1
          have z8 := hs.2.1
          rw [if_neg (fun c7 => hst ⟨by omega, by omega, by omega, by omega⟩)]
        · rw [if_neg c8]
      exact gz_iret rfl dX12_standing_10 (Nat.le_of_ble_eq_true rfl) (Nat.le_of_ble_eq_true rfl) (⟨_, rfl, _, _, _, _, hS, hxx, hR, hrr.symm⟩)

set_option maxHeartbeats 4000000 in
set_option maxRecDepth 100000 in
theorem k_X12_isHouseQ {l : Launch} {D : va_G} {cy : Nat → ClassId} {b : Nat} {f : gMem} {m : Nat} {a : Nat → Nat} {f0 : gMem} {n : Nat → Int32} {z : Nat → Int64} {F : Nat → Nat → Int32} {G : Nat → Nat → Int64}  {x1 : Int32} (hS : mS cy m a f0 n z F G f)  : gC l D cy b yX12_isHouse cX12_isHouse 2 (some .boolean) 0 0 0 [.ref m, .int x1] f (pI fun r f2 => ((r = 1 ∧ (0 ≤ x1.toInt ∧ x1.toInt ≤ 7)) ∨ (r = 0 ∧ ¬ (0 ≤ x1.toInt ∧ x1.toInt ≤ 7))) ∧ f2 = f) := by
  refine gC_of (by decide) (Nat.le_of_ble_eq_true rfl) ?_
  show gG l _ _ _ D cy b cX12_isHouse 2 _ RX12 "isHouse" 0 0 f 0 [(0, .ref m), (1, .int x1)] []
  refine gz_iload_n dX12_isHouse_0 rfl rfl ?_
  refine gz_if_lt (tgt := 14) dX12_isHouse_1 (by decide) (fun c_1 => ?_) (fun c_1 => ?_)
  ·
    try simp only [mIn_0, lgc_lt, lgc_gt, lgc_le, lgc_ge, lgc_eq] at c_1
    try simp only [fl_lt, fl_le, fl_eq, fL_w, fL_lt, fL_le, tm1, tm10k, tm9, tm99, Int32.reduceToInt, Int64.reduceToInt, Int.not_lt, Int.not_le] at c_1
    refine gz_iconst (v := 0) dX12_isHouse_14 (by decide) ?_
    exact gz_zret rfl (by first | decide | exact nrb (by assumption) | exact nrb (Or.inl rfl) | exact nrb (Or.inr rfl)) dX12_isHouse_15 (Nat.le_of_ble_eq_true rfl) (Nat.le_of_ble_eq_true rfl) (⟨_, rfl, (by first | exact Or.inl ⟨rfl, by omega⟩ | exact Or.inr ⟨rfl, by omega⟩), rfl⟩)
  ·
    try simp only [mIn_0, lgc_lt, lgc_gt, lgc_le, lgc_ge, lgc_eq] at c_1
    try simp only [fl_lt, fl_le, fl_eq, fL_w, fL_lt, fL_le, tm1, tm10k, tm9, tm99, Int32.reduceToInt, Int64.reduceToInt, Int.not_lt, Int.not_le] at c_1
    refine gz_iload_n dX12_isHouse_4 rfl rfl ?_
    refine gz_bipush (v := 8) dX12_isHouse_5 (by decide) ?_
    refine gz_icmp_ge (tgt := 14) dX12_isHouse_7 (by decide) (fun c_7 => ?_) (fun c_7 => ?_)
    ·
      try simp only [mIn_0, lgc_lt, lgc_gt, lgc_le, lgc_ge, lgc_eq] at c_7
      try simp only [fl_lt, fl_le, fl_eq, fL_w, fL_lt, fL_le, tm1, tm10k, tm9, tm99, Int32.reduceToInt, Int64.reduceToInt, Int.not_lt, Int.not_le] at c_7
      refine gz_iconst (v := 0) dX12_isHouse_14 (by decide) ?_
      exact gz_zret rfl (by first | decide | exact nrb (by assumption) | exact nrb (Or.inl rfl) | exact nrb (Or.inr rfl)) dX12_isHouse_15 (Nat.le_of_ble_eq_true rfl) (Nat.le_of_ble_eq_true rfl) (⟨_, rfl, (by first | exact Or.inl ⟨rfl, by omega⟩ | exact Or.inr ⟨rfl, by omega⟩), rfl⟩)
    ·
      try simp only [mIn_0, lgc_lt, lgc_gt, lgc_le, lgc_ge, lgc_eq] at c_7
      try simp only [fl_lt, fl_le, fl_eq, fL_w, fL_lt, fL_le, tm1, tm10k, tm9, tm99, Int32.reduceToInt, Int64.reduceToInt, Int.not_lt, Int.not_le] at c_7
      refine gz_iconst (v := 1) dX12_isHouse_10 (by decide) ?_
      refine gz_goto (tgt := 15) dX12_isHouse_11 (by decide) ?_
      exact gz_zret rfl (by first | decide | exact nrb (by assumption) | exact nrb (Or.inl rfl) | exact nrb (Or.inr rfl)) dX12_isHouse_15 (Nat.le_of_ble_eq_true rfl) (Nat.le_of_ble_eq_true rfl) (⟨_, rfl, (by first | exact Or.inl ⟨rfl, by omega⟩ | exact Or.inr ⟨rfl, by omega⟩), rfl⟩)

set_option maxHeartbeats 4000000 in
set_option maxRecDepth 100000 in
theorem k_X12_isFormQ {l : Launch} {D : va_G} {cy : Nat → ClassId} {b : Nat} {f : gMem} {m : Nat} {a : Nat → Nat} {f0 : gMem} {n : Nat → Int32} {z : Nat → Int64} {F : Nat → Nat → Int32} {G : Nat → Nat → Int64}  {x1 : Int32} (hS : mS cy m a f0 n z F G f)  : gC l D cy b yX12_isForm cX12_isForm 2 (some .boolean) 0 0 0 [.ref m, .int x1] f (pI fun r f2 => ((r = 1 ∧ (0 ≤ x1.toInt ∧ x1.toInt < (n 5).toInt)) ∨ (r = 0 ∧ ¬ (0 ≤ x1.toInt ∧ x1.toInt < (n 5).toInt))) ∧ f2 = f) := by
  refine gC_of (by decide) (Nat.le_of_ble_eq_true rfl) ?_
  show gG l _ _ _ D cy b cX12_isForm 2 _ RX12 "isForm" 0 0 f 0 [(0, .ref m), (1, .int x1)] []
  refine gz_iload_n dX12_isForm_0 rfl rfl ?_
  refine gz_if_lt (tgt := 16) dX12_isForm_1 (by decide) (fun c_1 => ?_) (fun c_1 => ?_)
  ·
    try simp only [mIn_0, lgc_lt, lgc_gt, lgc_le, lgc_ge, lgc_eq] at c_1
    try simp only [fl_lt, fl_le, fl_eq, fL_w, fL_lt, fL_le, tm1, tm10k, tm9, tm99, Int32.reduceToInt, Int64.reduceToInt, Int.not_lt, Int.not_le] at c_1
    refine gz_iconst (v := 0) dX12_isForm_16 (by decide) ?_
    exact gz_zret rfl (by first | decide | exact nrb (by assumption) | exact nrb (Or.inl rfl) | exact nrb (Or.inr rfl)) dX12_isForm_17 (Nat.le_of_ble_eq_true rfl) (Nat.le_of_ble_eq_true rfl) (⟨_, rfl, (by first | exact Or.inl ⟨rfl, by omega⟩ | exact Or.inr ⟨rfl, by omega⟩), rfl⟩)
  ·
    try simp only [mIn_0, lgc_lt, lgc_gt, lgc_le, lgc_ge, lgc_eq] at c_1
    try simp only [fl_lt, fl_le, fl_eq, fL_w, fL_lt, fL_le, tm1, tm10k, tm9, tm99, Int32.reduceToInt, Int64.reduceToInt, Int.not_lt, Int.not_le] at c_1
    refine gz_iload_n dX12_isForm_4 rfl rfl ?_
    refine gz_aload_n dX12_isForm_5 rfl rfl ?_
    refine mg_307 hS dX12_isForm_6 ?_
    refine gz_icmp_ge (tgt := 16) dX12_isForm_9 (by decide) (fun c_9 => ?_) (fun c_9 => ?_)
    ·
      try simp only [mIn_0, lgc_lt, lgc_gt, lgc_le, lgc_ge, lgc_eq] at c_9
      try simp only [fl_lt, fl_le, fl_eq, fL_w, fL_lt, fL_le, tm1, tm10k, tm9, tm99, Int32.reduceToInt, Int64.reduceToInt, Int.not_lt, Int.not_le] at c_9
      refine gz_iconst (v := 0) dX12_isForm_16 (by decide) ?_
      exact gz_zret rfl (by first | decide | exact nrb (by assumption) | exact nrb (Or.inl rfl) | exact nrb (Or.inr rfl)) dX12_isForm_17 (Nat.le_of_ble_eq_true rfl) (Nat.le_of_ble_eq_true rfl) (⟨_, rfl, (by first | exact Or.inl ⟨rfl, by omega⟩ | exact Or.inr ⟨rfl, by omega⟩), rfl⟩)
    ·
      try simp only [mIn_0, lgc_lt, lgc_gt, lgc_le, lgc_ge, lgc_eq] at c_9
      try simp only [fl_lt, fl_le, fl_eq, fL_w, fL_lt, fL_le, tm1, tm10k, tm9, tm99, Int32.reduceToInt, Int64.reduceToInt, Int.not_lt, Int.not_le] at c_9
      refine gz_iconst (v := 1) dX12_isForm_12 (by decide) ?_
      refine gz_goto (tgt := 17) dX12_isForm_13 (by decide) ?_
      exact gz_zret rfl (by first | decide | exact nrb (by assumption) | exact nrb (Or.inl rfl) | exact nrb (Or.inr rfl)) dX12_isForm_17 (Nat.le_of_ble_eq_true rfl) (Nat.le_of_ble_eq_true rfl) (⟨_, rfl, (by first | exact Or.inl ⟨rfl, by omega⟩ | exact Or.inr ⟨rfl, by omega⟩), rfl⟩)

set_option maxHeartbeats 4000000 in
set_option maxRecDepth 100000 in
theorem k_X12_beginE {l : Launch} {D : va_G} {cy : Nat → ClassId} {b : Nat} {f : gMem} {m : Nat} {a : Nat → Nat} {f0 : gMem} {n : Nat → Int32} {z : Nat → Int64} {F : Nat → Nat → Int32} {G : Nat → Nat → Int64}  {x1 x2 x3 : Int32} {Tf : Nat → List Hd} {W : Lw} (hS : mS cy m a f0 n z F G f) (hR : RI n F) (hs : RLs n F G W) (hok : okW (n 5).toInt Tf W) (hLX : ∀ f : Nat, (f : Int) < (n 5).toInt → LX F f (Tf f)) : gC l D cy b yX12_begin cX12_begin 4 (some .int) 4 0 0 [.ref m, .int x1, .int x2, .int x3] f (pI fun r f2 => ∃ (n2 : Nat → Int32) (z2 : Nat → Int64) (F2 : Nat → Nat → Int32) (G2 : Nat → Nat → Int64), mS cy m a f0 n2 z2 F2 G2 f2 ∧ fx [1, 30, 38, 43] [29] [31, 32, 33, 35, 36, 39, 40, 41, 42, 44] [28, 34, 37, 45] n z F G n2 z2 F2 G2 ∧ RI n2 F2 ∧ (((W.2.2.length < 40 ∧ (0 ≤ x1.toInt ∧ x1.toInt < (n 5).toInt) ∧ (0 ≤ x2.toInt ∧ x2.toInt ≤ 7) ∧ (0 ≤ x3.toInt ∧ x3.toInt ≤ 7) ∧ x2.toInt ≠ x3.toInt) ∧ RLs n2 F2 G2 (adW Tf (sNow (n 0) (F 2)) x1.toInt.toNat x2.toInt x3.toInt W) ∧ r.toInt = (W.2.2.length : Int)) ∨ (¬ (W.2.2.length < 40 ∧ (0 ≤ x1.toInt ∧ x1.toInt < (n 5).toInt) ∧ (0 ≤ x2.toInt ∧ x2.toInt ≤ 7) ∧ (0 ≤ x3.toInt ∧ x3.toInt ≤ 7) ∧ x2.toInt ≠ x3.toInt) ∧ RLs n2 F2 G2 W ∧ r.toInt = -1))) := by
  obtain ⟨a0, a4, a5, bA, bW, a30, bL, a38, bP, a53, a47, a88⟩ := id hR
  refine gC_of (by decide) (Nat.le_of_ble_eq_true rfl) ?_
  show gG l _ _ _ D cy b cX12_begin 4 _ RX12 "begin" 0 0 f 0 [(0, .ref m), (1, .int x1), (2, .int x2), (3, .int x3)] []
  refine gz_aload_n dX12_begin_0 rfl rfl ?_
  refine mg_394 hS dX12_begin_1 ?_
  refine gz_bipush (v := 40) dX12_begin_4 (by decide) ?_
  refine gz_icmp_eq (tgt := 38) dX12_begin_6 (by decide) (fun c_6 => ?_) (fun c_6 => ?_)
  ·
    try simp only [mIn_0, lgc_lt, lgc_gt, lgc_le, lgc_ge, lgc_eq] at c_6
    try simp only [fl_lt, fl_le, fl_eq, fL_w, fL_lt, fL_le, tm1, tm10k, tm9, tm99, Int32.reduceToInt, Int64.reduceToInt, Int.not_lt, Int.not_le] at c_6
    refine gz_iconst (v := (-1)) dX12_begin_38 (by decide) ?_
    have hxx : fx [1, 30, 38, 43] [29] [31, 32, 33, 35, 36, 39, 40, 41, 42, 44] [28, 34, 37, 45] n z F G n z F G := fx_rf
    exact gz_iret rfl dX12_begin_39 (Nat.le_of_ble_eq_true rfl) (Nat.le_of_ble_eq_true rfl) (⟨_, rfl, _, _, _, _, hS, hxx, hR, Or.inr ⟨(fun z9 => by have z30 := hs.2.1; omega), hs, rfl⟩⟩)
  ·
    try simp only [mIn_0, lgc_lt, lgc_gt, lgc_le, lgc_ge, lgc_eq] at c_6
    try simp only [fl_lt, fl_le, fl_eq, fL_w, fL_lt, fL_le, tm1, tm10k, tm9, tm99, Int32.reduceToInt, Int64.reduceToInt, Int.not_lt, Int.not_le] at c_6
    refine gz_aload_n dX12_begin_9 rfl rfl ?_
    refine gz_iload_n dX12_begin_10 rfl rfl ?_
    refine scX12_337 (k_X12_isFormQ (x1 := x1) hS) hS.1 ⟨(Nat.le_of_ble_eq_true rfl), (Nat.le_of_ble_eq_true rfl)⟩ ⟨(Nat.le_of_ble_eq_true rfl), (Nat.le_of_ble_eq_true rfl)⟩ rfl rfl (Nat.le_of_ble_eq_true rfl) dX12_begin_11 ?_
    rintro r_1 f9 ⟨hb_1, y9⟩; rw [y9]
    rcases hb_1 with ⟨hr1, hbf⟩ | ⟨hr1, hbf⟩
    ·
      refine gz_ev (w := .int 1) (congrArg Value.int hr1) ?_
      refine gz_if_eq (tgt := 38) dX12_begin_14 (by decide) (fun c_14 => ?_) (fun c_14 => ?_)
      · exact absurd c_14 (by decide)
      ·
        try simp only [mIn_0, lgc_lt, lgc_gt, lgc_le, lgc_ge, lgc_eq] at c_14
        try simp only [fl_lt, fl_le, fl_eq, fL_w, fL_lt, fL_le, tm1, tm10k, tm9, tm99, Int32.reduceToInt, Int64.reduceToInt, Int.not_lt, Int.not_le] at c_14
        refine gz_aload_n dX12_begin_17 rfl rfl ?_
        refine gz_iload_n dX12_begin_18 rfl rfl ?_
        refine scX12_397 (k_X12_isHouseQ (x1 := x2) hS) hS.1 ⟨(Nat.le_of_ble_eq_true rfl), (Nat.le_of_ble_eq_true rfl)⟩ ⟨(Nat.le_of_ble_eq_true rfl), (Nat.le_of_ble_eq_true rfl)⟩ rfl rfl (Nat.le_of_ble_eq_true rfl) dX12_begin_19 ?_
        rintro r_2 f9 ⟨hb_2, y9⟩; rw [y9]
        rcases hb_2 with ⟨hr2, hb2⟩ | ⟨hr2, hb2⟩
        ·
          refine gz_ev (w := .int 1) (congrArg Value.int hr2) ?_
          refine gz_if_eq (tgt := 38) dX12_begin_22 (by decide) (fun c_22 => ?_) (fun c_22 => ?_)
          · exact absurd c_22 (by decide)
          ·
            try simp only [mIn_0, lgc_lt, lgc_gt, lgc_le, lgc_ge, lgc_eq] at c_22
            try simp only [fl_lt, fl_le, fl_eq, fL_w, fL_lt, fL_le, tm1, tm10k, tm9, tm99, Int32.reduceToInt, Int64.reduceToInt, Int.not_lt, Int.not_le] at c_22
            refine gz_aload_n dX12_begin_25 rfl rfl ?_
            refine gz_iload_n dX12_begin_26 rfl rfl ?_
            refine scX12_397 (k_X12_isHouseQ (x1 := x3) hS) hS.1 ⟨(Nat.le_of_ble_eq_true rfl), (Nat.le_of_ble_eq_true rfl)⟩ ⟨(Nat.le_of_ble_eq_true rfl), (Nat.le_of_ble_eq_true rfl)⟩ rfl rfl (Nat.le_of_ble_eq_true rfl) dX12_begin_27 ?_
            rintro r_3 f9 ⟨hb_3, y9⟩; rw [y9]
            rcases hb_3 with ⟨hr3, hb3⟩ | ⟨hr3, hb3⟩
            ·
              refine gz_ev (w := .int 1) (congrArg Value.int hr3) ?_
              refine gz_if_eq (tgt := 38) dX12_begin_30 (by decide) (fun c_30 => ?_) (fun c_30 => ?_)
              · exact absurd c_30 (by decide)
              ·
                try simp only [mIn_0, lgc_lt, lgc_gt, lgc_le, lgc_ge, lgc_eq] at c_30
                try simp only [fl_lt, fl_le, fl_eq, fL_w, fL_lt, fL_le, tm1, tm10k, tm9, tm99, Int32.reduceToInt, Int64.reduceToInt, Int.not_lt, Int.not_le] at c_30
                refine gz_iload_n dX12_begin_33 rfl rfl ?_
                refine gz_iload_n dX12_begin_34 rfl rfl ?_
                refine gz_icmp_ne (tgt := 40) dX12_begin_35 (by decide) (fun c_35 => ?_) (fun c_35 => ?_)
                ·
                  try simp only [mIn_0, lgc_lt, lgc_gt, lgc_le, lgc_ge, lgc_eq] at c_35
                  try simp only [fl_lt, fl_le, fl_eq, fL_w, fL_lt, fL_le, tm1, tm10k, tm9, tm99, Int32.reduceToInt, Int64.reduceToInt, Int.not_lt, Int.not_le] at c_35
                  refine gz_aload_n dX12_begin_40 rfl rfl ?_
                  refine mg_97 hS dX12_begin_41 ?_
                  refine gz_aload_n dX12_begin_44 rfl rfl ?_
                  refine mg_394 hS dX12_begin_45 ?_
                  refine gz_iload_n dX12_begin_48 rfl rfl ?_
                  refine m_iast 31 hS rfl (N := 40) rfl ((by exact vin_T (rfl : ((n 30)).toInt = ((n 30)).toInt) (by omega) (by omega))) dX12_begin_49 (fun f_4 hS_4q => ?_)
                  have hS_4 : mS cy m a f0 n z (va_up F 31 (upd (F 31) (Int32.toNatClampNeg (n 30)) x1)) G f_4 := hS_4q
                  refine gz_aload_n dX12_begin_50 rfl rfl ?_
                  refine mg_100 hS_4 dX12_begin_51 ?_
                  refine gz_aload_n dX12_begin_54 rfl rfl ?_
                  refine mg_394 hS_4 dX12_begin_55 ?_
                  refine gz_ev (w := .int (n 30)) rfl ?_
                  refine gz_iload_n dX12_begin_58 rfl rfl ?_
                  refine m_iast 32 hS_4 rfl (N := 40) rfl ((by exact vin_T (rfl : ((n 30)).toInt = ((n 30)).toInt) (by omega) (by omega))) dX12_begin_59 (fun f_5 hS_5q => ?_)
                  have hS_5 : mS cy m a f0 n z (va_up (va_up F 31 (upd (F 31) (Int32.toNatClampNeg (n 30)) x1)) 32 (upd (F 32) (Int32.toNatClampNeg (n 30)) x2)) G f_5 := hS_5q
                  refine gz_aload_n dX12_begin_60 rfl rfl ?_
                  refine mg_103 hS_5 dX12_begin_61 ?_
                  refine gz_aload_n dX12_begin_64 rfl rfl ?_
                  refine mg_394 hS_5 dX12_begin_65 ?_
                  refine gz_ev (w := .int (n 30)) rfl ?_
                  refine gz_iload_n dX12_begin_68 rfl rfl ?_
                  refine m_iast 33 hS_5 rfl (N := 40) rfl ((by exact vin_T (rfl : ((n 30)).toInt = ((n 30)).toInt) (by omega) (by omega))) dX12_begin_69 (fun f_6 hS_6q => ?_)
                  have hS_6 : mS cy m a f0 n z (va_up (va_up (va_up F 31 (upd (F 31) (Int32.toNatClampNeg (n 30)) x1)) 32 (upd (F 32) (Int32.toNatClampNeg (n 30)) x2)) 33 (upd (F 33) (Int32.toNatClampNeg (n 30)) x3)) G f_6 := hS_6q
                  refine gz_aload_n dX12_begin_70 rfl rfl ?_
                  refine gz_dup dX12_begin_71 rfl ?_
                  refine mg_394 hS_6 dX12_begin_72 ?_
                  refine gz_ev (w := .int (n 30)) rfl ?_
                  refine gz_iconst (v := 1) dX12_begin_75 (by decide) ?_
                  refine gz_iadd dX12_begin_76 ?_
                  refine mp_394 hS_6 dX12_begin_77 (fun f_7 hS_7 => ?_)
                  refine gz_aload_n dX12_begin_80 rfl rfl ?_
                  have hx1_ : fx [30] [] [31, 32, 33] [] n z F G (va_up n 30 ((n 30) + 1)) z (va_up (va_up (va_up F 31 (upd (F 31) (Int32.toNatClampNeg (n 30)) x1)) 32 (upd (F 32) (Int32.toNatClampNeg (n 30)) x2)) 33 (upd (F 33) (Int32.toNatClampNeg (n 30)) x3)) G := (fx_n (fx_F (fx_F (fx_F fx_rf (by decide)) (by decide)) (by decide)) (by decide))
                  have e30 : ((va_up n 30 ((n 30) + 1)) 30).toInt = (n 30).toInt + 1 := (by (try rw [(show (va_up n 30 ((n 30) + 1)) 30 = ((n 30) + 1) from rfl)]); have q1_ := (T_add (rfl : ((n 30)).toInt = ((n 30)).toInt) (show (1 : Int32).toInt = 1 from rfl) (by omega)); omega)
                  have hR1 : RI (va_up n 30 ((n 30) + 1)) (va_up (va_up (va_up F 31 (upd (F 31) (Int32.toNatClampNeg (n 30)) x1)) 32 (upd (F 32) (Int32.toNatClampNeg (n 30)) x2)) 33 (upd (F 33) (Int32.toNatClampNeg (n 30)) x3)) := RI_w hR (fun k hk => hx1_.2.2.1 k ((by decide : ∀ k : Nat, k ∈ wK → k ∉ ([31, 32, 33] : List Nat)) k hk)) rfl a0 a4 (by rw [e30]; omega) (by rw [e30]; exact rL_new bL (fun k hk => hx1_.2.2.1 k ((by decide : ∀ k : Nat, k ∈ ([6, 7, 35, 36] : List Nat) → k ∉ ([31, 32, 33] : List Nat)) k hk)) rfl rfl (by omega) (by omega)) a38 (by rw [e30]; exact rPy_mo (rPy_cg2 bP rfl) (by omega)) a53 a47 a88
                  have z30 := hs.2.1
                  have ec30 : Int32.toNatClampNeg (n 30) = W.2.2.length := by rw [clN]; omega
                  have hok40 : W.2.2.length < 40 := by omega
                  have hs1 : RLs (va_up n 30 ((n 30) + 1)) (va_up (va_up (va_up F 31 (upd (F 31) (Int32.toNatClampNeg (n 30)) x1)) 32 (upd (F 32) (Int32.toNatClampNeg (n 30)) x2)) 33 (upd (F 33) (Int32.toNatClampNeg (n 30)) x3)) G (W.1, W.2.1, W.2.2 ++ [(x1.toInt.toNat, x2.toInt, x3.toInt, [], 0)]) := RLs_new hs hok40 rfl rfl e30 (fun r hr => hx1_.2.2.1 r (by revert hr; revert r; decide)) (fun _ _ => rfl) (by show upd (F 31) (Int32.toNatClampNeg (n 30)) x1 = _; rw [ec30]) (by show upd (F 32) (Int32.toNatClampNeg (n 30)) x2 = _; rw [ec30]) (by show upd (F 33) (Int32.toNatClampNeg (n 30)) x3 = _; rw [ec30]) (by omega)
                  refine scX12_400 (k_X12_asNowE hS_7 a0) hS_7.1 ⟨(Nat.le_of_ble_eq_true rfl), (Nat.le_of_ble_eq_true rfl)⟩ ⟨(Nat.le_of_ble_eq_true rfl), (Nat.le_of_ble_eq_true rfl)⟩ rfl rfl (Nat.le_of_ble_eq_true rfl) dX12_begin_81 ?_
                  rintro f_8 ⟨n_8, z_8, F_8, G_8, hS_8, hx8, hsc_8⟩
                  have hR2 := RI_fx hR1 hx8 (by decide) (by decide)
                  have hs2 : RLs n_8 F_8 G_8 (W.1, W.2.1, W.2.2 ++ [(x1.toInt.toNat, x2.toInt, x3.toInt, [], 0)]) := RLs_cg hs1 (fun k hk => hx8.1 k (by revert hk; revert k; decide)) (fun r hr => hx8.2.2.1 r (by revert hr; revert r; decide)) (fun r hr => hx8.2.2.2 r (by revert hr; revert r; decide))
                  have hxc : fx [1, 30, 38, 43] [29] [31, 32, 33, 35, 36, 39, 40, 41, 42, 44] [28, 34, 37, 45] n z F G n_8 z_8 F_8 G_8 := (fx_tr (fx_n (fx_F (fx_F (fx_F fx_rf (by decide)) (by decide)) (by decide)) (by decide)) hx8 (by decide))
                  refine gz_aload_n dX12_begin_84 rfl rfl ?_
                  refine gz_aload_n dX12_begin_85 rfl rfl ?_
                  refine mg_394 hS_8 dX12_begin_86 ?_
                  refine gz_ev (w := .int ((n 30) + 1)) (congrArg Value.int (hx8.1 30 (by decide))) ?_
                  refine gz_iconst (v := 1) dX12_begin_89 (by decide) ?_
                  refine gz_isub dX12_begin_90 ?_
                  refine gz_bipush (v := 40) dX12_begin_91 (by decide) ?_
                  refine gz_iload_n dX12_begin_93 rfl rfl ?_
                  refine gz_imul dX12_begin_94 ?_
                  refine gz_lconst (v := 1) dX12_begin_95 (by decide) ?_
                  have qx : (40 * x1).toInt = 40 * x1.toInt := T_mul (show (40 : Int32).toInt = 40 from rfl) rfl (by omega)
                  have qb := (bW (Int32.toNatClampNeg x1) (by have := clI (i := x1) (by omega); omega)).1
                  have hv0 : vW F (n 5).toInt (40 * x1).toInt := ⟨Int32.toNatClampNeg x1, 0, by have := clI (i := x1) (by omega); omega, by omega, by have := clI (i := x1) (by omega); omega⟩
                  have e30j : (n_8 30).toInt = (n 30).toInt + 1 := by rw [hx8.1 30 (by decide)]; exact e30
                  have hX := hLX x1.toInt.toNat (by omega)
                  have hT0 : 0 < (Tf x1.toInt.toNat).length := by obtain ⟨z9, B9, e9⟩ := okT_ne hX.1.1; rw [e9]; exact Nat.succ_pos _
                  have hlW : W.2.2.length < (W.1, W.2.1, W.2.2 ++ [(x1.toInt.toNat, x2.toInt, x3.toInt, [], 0)]).2.2.length := by show _ < (W.2.2 ++ [_]).length; rw [List.length_append, List.length_cons, List.length_nil]; omega
                  have hgD : (W.1, W.2.1, W.2.2 ++ [(x1.toInt.toNat, x2.toInt, x3.toInt, [], 0)]).2.2.getD W.2.2.length lf0 = (x1.toInt.toNat, x2.toInt, x3.toInt, [], 0) := gtD1
                  have hst1 : RSt n_8 F_8 G_8 W.2.2.length x1.toInt.toNat (W.1, W.2.1, [], 0) := by have q9 := RLs_get hs2 hlW; unfold lsW at q9; rw [hgD] at q9; exact q9
                  refine scX12_403 (k_X12_acquiresE (x1 := (((n 30) + 1) - 1)) (x2 := (40 * x1)) (lN := W.2.2.length) (fo := x1.toInt.toNat) (T := Tf x1.toInt.toNat) (S := (sNow (n 0) (F 2))) (aN := x2.toInt) (bN := x3.toInt) (wN := 0) (fN := 1) hS_8 hR2 (by have q9 := (T_sub (T_add (rfl : ((n 30)).toInt = ((n 30)).toInt) (show (1 : Int32).toInt = 1 from rfl) (by omega)) (show (1 : Int32).toInt = 1 from rfl) (by omega)); rw [e30j]; omega) (by rw [(show n_8 5 = (n 5) from (hx8.1 5 (by decide)))]; exact vW_cg ((hx8.2.2.1 6 (by decide)).trans rfl) hv0) ⟨by have q9 := (T_sub (T_add (rfl : ((n 30)).toInt = ((n 30)).toInt) (show (1 : Int32).toInt = 1 from rfl) (by omega)) (show (1 : Int32).toInt = 1 from rfl) (by omega)); omega, by omega⟩ (by omega) sNow_b (LX_cg (fun r h1 h2 => hxc.2.2.1 r (fun h => by simp only [List.mem_cons, List.not_mem_nil, or_false] at h <;> omega)) hX) hsc_8 (congrArg Int32.toInt (show n_8 0 = (n 0) from (hx8.1 0 (by decide)))) hst1 ⟨by omega, hT0⟩ ⟨rfl, by decide, by decide⟩) hS_8.1 ⟨(Nat.le_of_ble_eq_true rfl), (Nat.le_of_ble_eq_true rfl)⟩ ⟨(Nat.le_of_ble_eq_true rfl), (Nat.le_of_ble_eq_true rfl)⟩ rfl rfl (Nat.le_of_ble_eq_true rfl) dX12_begin_96 ?_
                  rintro f_9 ⟨n_9, z_9, F_9, G_9, hS_9, hx9, hR_9, hm_9, hs_9, hol_9⟩
                  try simp only [(show n_8 1 = (n 1) from (hx8.1 1 (by decide)))] at hR_9 hm_9 hs_9 hol_9
                  try simp only [(show n_8 38 = (n 38) from (hx8.1 38 (by decide)))] at hR_9 hm_9 hs_9 hol_9
                  try simp only [(show n_8 43 = (n 43) from (hx8.1 43 (by decide)))] at hR_9 hm_9 hs_9 hol_9
                  refine gz_aload_n dX12_begin_99 rfl rfl ?_
                  refine mg_394 hS_9 dX12_begin_100 ?_
                  refine gz_ev (w := .int ((n 30) + 1)) (congrArg Value.int ((hx9.1 30 (by decide)).trans (hx8.1 30 (by decide)))) ?_
                  refine gz_iconst (v := 1) dX12_begin_103 (by decide) ?_
                  refine gz_isub dX12_begin_104 ?_
                  have hxx : fx [1, 30, 38, 43] [29] [31, 32, 33, 35, 36, 39, 40, 41, 42, 44] [28, 34, 37, 45] n z F G n_9 z_9 F_9 G_9 := (fx_tr (fx_tr (fx_n (fx_F (fx_F (fx_F fx_rf (by decide)) (by decide)) (by decide)) (by decide)) hx8 (by decide)) hx9 (by decide))
                  have hs9 : RLs n_9 F_9 G_9 (adW Tf (sNow (n 0) (F 2)) x1.toInt.toNat x2.toInt x3.toInt W) := by
                    have q9 := RLs_put (Z := apS (W.2.2.length : Int) (sNow (n 0) (F 2)).1 x2.toInt x3.toInt (ev (Tf x1.toInt.toNat) (sNow (n 0) (F 2)) 0 1) (W.1, W.2.1, [], 0)) hs2 hlW (by rw [hgD]; exact hs_9) hol_9 (hx9.1 30 (by decide)) (fun r hr => hx9.2.2.1 r (by revert hr; revert r; decide))
                    exact q9
                  exact gz_iret rfl dX12_begin_105 (Nat.le_of_ble_eq_true rfl) (Nat.le_of_ble_eq_true rfl) (⟨_, rfl, _, _, _, _, hS_9, hxx, hR_9, Or.inl ⟨⟨hok40, hbf, hb2, hb3, by omega⟩, hs9, (by have q9 := (T_sub (T_add (rfl : ((n 30)).toInt = ((n 30)).toInt) (show (1 : Int32).toInt = 1 from rfl) (by omega)) (show (1 : Int32).toInt = 1 from rfl) (by omega)); omega)⟩⟩)
                ·
                  try simp only [mIn_0, lgc_lt, lgc_gt, lgc_le, lgc_ge, lgc_eq] at c_35
                  try simp only [fl_lt, fl_le, fl_eq, fL_w, fL_lt, fL_le, tm1, tm10k, tm9, tm99, Int32.reduceToInt, Int64.reduceToInt, Int.not_lt, Int.not_le] at c_35
                  refine gz_iconst (v := (-1)) dX12_begin_38 (by decide) ?_
                  have hxx : fx [1, 30, 38, 43] [29] [31, 32, 33, 35, 36, 39, 40, 41, 42, 44] [28, 34, 37, 45] n z F G n z F G := fx_rf
                  exact gz_iret rfl dX12_begin_39 (Nat.le_of_ble_eq_true rfl) (Nat.le_of_ble_eq_true rfl) (⟨_, rfl, _, _, _, _, hS, hxx, hR, Or.inr ⟨(fun z9 => by have z30 := hs.2.1; omega), hs, rfl⟩⟩)
            ·
              refine gz_ev (w := .int 0) (congrArg Value.int hr3) ?_
              refine gz_if_eq (tgt := 38) dX12_begin_30 (by decide) (fun c_30 => ?_) (fun c_30 => ?_)
              ·
                try simp only [mIn_0, lgc_lt, lgc_gt, lgc_le, lgc_ge, lgc_eq] at c_30
                try simp only [fl_lt, fl_le, fl_eq, fL_w, fL_lt, fL_le, tm1, tm10k, tm9, tm99, Int32.reduceToInt, Int64.reduceToInt, Int.not_lt, Int.not_le] at c_30
                refine gz_iconst (v := (-1)) dX12_begin_38 (by decide) ?_
                have hxx : fx [1, 30, 38, 43] [29] [31, 32, 33, 35, 36, 39, 40, 41, 42, 44] [28, 34, 37, 45] n z F G n z F G := fx_rf
                exact gz_iret rfl dX12_begin_39 (Nat.le_of_ble_eq_true rfl) (Nat.le_of_ble_eq_true rfl) (⟨_, rfl, _, _, _, _, hS, hxx, hR, Or.inr ⟨(fun z9 => by have z30 := hs.2.1; omega), hs, rfl⟩⟩)
              · exact absurd c_30 (by decide)
        ·
          refine gz_ev (w := .int 0) (congrArg Value.int hr2) ?_
          refine gz_if_eq (tgt := 38) dX12_begin_22 (by decide) (fun c_22 => ?_) (fun c_22 => ?_)
          ·
            try simp only [mIn_0, lgc_lt, lgc_gt, lgc_le, lgc_ge, lgc_eq] at c_22
            try simp only [fl_lt, fl_le, fl_eq, fL_w, fL_lt, fL_le, tm1, tm10k, tm9, tm99, Int32.reduceToInt, Int64.reduceToInt, Int.not_lt, Int.not_le] at c_22
            refine gz_iconst (v := (-1)) dX12_begin_38 (by decide) ?_
            have hxx : fx [1, 30, 38, 43] [29] [31, 32, 33, 35, 36, 39, 40, 41, 42, 44] [28, 34, 37, 45] n z F G n z F G := fx_rf
            exact gz_iret rfl dX12_begin_39 (Nat.le_of_ble_eq_true rfl) (Nat.le_of_ble_eq_true rfl) (⟨_, rfl, _, _, _, _, hS, hxx, hR, Or.inr ⟨(fun z9 => by have z30 := hs.2.1; omega), hs, rfl⟩⟩)
          · exact absurd c_22 (by decide)
    ·
      refine gz_ev (w := .int 0) (congrArg Value.int hr1) ?_
      refine gz_if_eq (tgt := 38) dX12_begin_14 (by decide) (fun c_14 => ?_) (fun c_14 => ?_)
      ·
        try simp only [mIn_0, lgc_lt, lgc_gt, lgc_le, lgc_ge, lgc_eq] at c_14
        try simp only [fl_lt, fl_le, fl_eq, fL_w, fL_lt, fL_le, tm1, tm10k, tm9, tm99, Int32.reduceToInt, Int64.reduceToInt, Int.not_lt, Int.not_le] at c_14
        refine gz_iconst (v := (-1)) dX12_begin_38 (by decide) ?_
        have hxx : fx [1, 30, 38, 43] [29] [31, 32, 33, 35, 36, 39, 40, 41, 42, 44] [28, 34, 37, 45] n z F G n z F G := fx_rf
        exact gz_iret rfl dX12_begin_39 (Nat.le_of_ble_eq_true rfl) (Nat.le_of_ble_eq_true rfl) (⟨_, rfl, _, _, _, _, hS, hxx, hR, Or.inr ⟨(fun z9 => by have z30 := hs.2.1; omega), hs, rfl⟩⟩)
      · exact absurd c_14 (by decide)
