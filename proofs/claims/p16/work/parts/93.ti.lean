/-! the reference: DAY, what STANDS left, all LIVES -/
def sNow (d : Int32) (g : Nat → Int32) : Sn := (d.toInt, fun i => (thN g i (d.toInt + 1).toNat).toInt)
theorem sNow_b {d : Int32} {g : Nat → Int32} : -9000000000000000000 ≤ (sNow d g).1 ∧ (sNow d g).1 ≤ 9000000000000000000 := by
  have h1 := i32_lo d
  have h2 := i32_hi d
  exact ⟨by show _ ≤ d.toInt; omega, by show d.toInt ≤ _; omega⟩
theorem leaves_R {n : Nat → Int32} {F F2 : Nat → Nat → Int32} {G G2 : Nat → Nat → Int64} {l fo k : Nat} {Z : Ls} (hZ : RSt n F G l fo Z) (hk : k < Z.2.2.1.length) (hF : ∀ r, r ∈ [39, 40, 41, 42] → F2 r = F r) (e34 : G2 34 = G 34) (e35 : F2 35 = upd (F 35) l (F 35 l - 1)) (e36 : ∀ j : Nat, F2 36 j = (if 40 * l + k ≤ j ∧ (j : Int) < 40 * (l : Int) + (F 35 l).toInt - 1 then F 36 (j + 1) else F 36 j) ∧ G2 37 j = (if 40 * l + k ≤ j ∧ (j : Int) < 40 * (l : Int) + (F 35 l).toInt - 1 then G 37 (j + 1) else G 37 j)) : RSt n F2 G2 l fo (Z.1, Z.2.1, delL Z.2.2.1 k, Z.2.2.2) ∧ oL F G F2 G2 l := by
  obtain ⟨⟨⟨a1, a2⟩, a3, a4⟩, ⟨b1, b2⟩, b3, b4⟩ := hZ
  have hd := delL_ln hk
  have q := T_sub b1 (show (1 : Int32).toInt = 1 from rfl) (by omega)
  refine ⟨⟨⟨⟨a1, a2⟩, a3, fun i hi => ?_⟩, ⟨?_, ?_⟩, ?_, fun i hi => ?_⟩, fun l2 hl2 => ⟨?_, by rw [e34], fun i hi => ?_⟩⟩
  · unfold pmR
    rw [hF 39 (by decide), hF 40 (by decide), hF 41 (by decide), hF 42 (by decide)]
    exact a4 i hi
  · show (F2 35 l).toInt = ((delL Z.2.2.1 k).length : Int)
    rw [e35, updE, if_pos rfl, q]
    omega
  · show (delL Z.2.2.1 k).length ≤ 40
    omega
  · show G2 34 l = Int64.ofInt Z.2.2.2
    rw [e34]; exact b3
  · have hi : i < (delL Z.2.2.1 k).length := hi
    show (F2 36 (40 * l + i)).toInt = 40 * (fo : Int) + (((delL Z.2.2.1 k).getD i (0, 0)).1 : Int) ∧ (G2 37 (40 * l + i)).toInt = ((delL Z.2.2.1 k).getD i (0, 0)).2
    obtain ⟨p1, p2⟩ := e36 (40 * l + i)
    rw [p1, p2]
    by_cases c : i < k
    · rw [if_neg (by omega), if_neg (by omega), delL_lt c]
      exact b4 i (by omega)
    · rw [if_pos (by omega), if_pos (by omega), delL_ge (by omega)]
      exact b4 (i + 1) (by omega)
  · rw [e35, updE, if_neg hl2]
  · obtain ⟨p1, p2⟩ := e36 (40 * l2 + i)
    rw [p1, p2, if_neg (by omega), if_neg (by omega)]
    exact ⟨rfl, rfl⟩
/-! all LIVES: FORM, both HOUSES, what STANDS, coins so far -/
abbrev Lf := Nat × Int × Int × List Sd × Int
abbrev Lw := List Pm × Int × List Lf
def lf0 : Lf := (0, 0, 0, [], 0)
def RLr (F : Nat → Nat → Int32) (G : Nat → Nat → Int64) (l : Nat) (r : Lf) : Prop := ((F 31 l).toInt = (r.1 : Int) ∧ (F 32 l).toInt = r.2.1 ∧ (F 33 l).toInt = r.2.2.1) ∧ RLf F G l r.1 r.2.2.2.1 r.2.2.2.2
def RLs (n : Nat → Int32) (F : Nat → Nat → Int32) (G : Nat → Nat → Int64) (W : Lw) : Prop := RLg n F W.1 W.2.1 ∧ ((n 30).toInt = (W.2.2.length : Int) ∧ W.2.2.length ≤ 40) ∧ (∀ l, l < W.2.2.length → RLr F G l (W.2.2.getD l lf0)) ∧ ∀ l, W.2.2.length ≤ l → l < 40 → (F 35 l).toInt = 0 ∧ G 34 l = 0
def okW (c : Int) (Tf : Nat → List Hd) (W : Lw) : Prop := ∀ l, l < W.2.2.length → ((W.2.2.getD l lf0).1 : Int) < c ∧ okQ (Tf (W.2.2.getD l lf0).1) (W.2.2.getD l lf0).2.2.2.1
theorem RLf_oL {F F2 : Nat → Nat → Int32} {G G2 : Nat → Nat → Int64} {l l2 fo : Nat} {Q : List Sd} {g : Int} (h : RLf F G l2 fo Q g) (ho : oL F G F2 G2 l) (hl : l2 ≠ l) : RLf F2 G2 l2 fo Q g := by
  obtain ⟨⟨b1, b2⟩, b3, b4⟩ := h
  obtain ⟨o1, o2, o3⟩ := ho l2 hl
  exact ⟨⟨by rw [o1]; exact b1, b2⟩, by rw [o2]; exact b3, fun i hi => by rw [(o3 i (by omega)).1, (o3 i (by omega)).2]; exact b4 i hi⟩
theorem gt_set {α : Type} {d x : α} : ∀ {L : List α} {k i : Nat}, k < L.length → (L.set k x).getD i d = if i = k then x else L.getD i d := by
  intro L
  induction L with
  | nil => intro k i h; exact absurd h (Nat.not_lt_zero _)
  | cons a L ih =>
    intro k i h
    cases k with
    | zero =>
      cases i with
      | zero => rfl
      | succ i => rfl
    | succ k =>
      cases i with
      | zero => rfl
      | succ i =>
        rw [List.set_cons_succ, List.getD_cons_succ, List.getD_cons_succ, ih (Nat.lt_of_succ_lt_succ h)]
        by_cases c : i = k
        · rw [if_pos c, if_pos (by omega)]
        · rw [if_neg c, if_neg (by omega)]
/-- a LIFE's part of it all -/
def lsW (W : Lw) (l : Nat) : Ls := (W.1, W.2.1, (W.2.2.getD l lf0).2.2.2)
def puW (W : Lw) (l : Nat) (Z : Ls) : Lw := (Z.1, Z.2.1, W.2.2.set l ((W.2.2.getD l lf0).1, (W.2.2.getD l lf0).2.1, (W.2.2.getD l lf0).2.2.1, Z.2.2))
theorem RLs_get {n : Nat → Int32} {F : Nat → Nat → Int32} {G : Nat → Nat → Int64} {W : Lw} {l : Nat} (h : RLs n F G W) (hl : l < W.2.2.length) : RSt n F G l (W.2.2.getD l lf0).1 (lsW W l) := ⟨h.1, (h.2.2.1 l hl).2⟩
theorem RLs_put {n n2 : Nat → Int32} {F F2 : Nat → Nat → Int32} {G G2 : Nat → Nat → Int64} {W : Lw} {l : Nat} {Z : Ls} (h : RLs n F G W) (hl : l < W.2.2.length) (hZ : RSt n2 F2 G2 l (W.2.2.getD l lf0).1 Z) (ho : oL F G F2 G2 l) (h30 : n2 30 = n 30) (hF : ∀ r, r ∈ [31, 32, 33] → F2 r = F r) : RLs n2 F2 G2 (puW W l Z) := by
  obtain ⟨_, ⟨l1, l2⟩, h3, h4⟩ := h
  refine ⟨hZ.1, ⟨?_, ?_⟩, fun i hi => ?_, fun i hi hi2 => ?_⟩
  · show (n2 30).toInt = ((W.2.2.set l _).length : Int)
    rw [List.length_set, h30]; exact l1
  · show (W.2.2.set l _).length ≤ 40
    rw [List.length_set]; exact l2
  · have hi : i < (W.2.2.set l ((W.2.2.getD l lf0).1, (W.2.2.getD l lf0).2.1, (W.2.2.getD l lf0).2.2.1, Z.2.2)).length := hi
    rw [List.length_set] at hi
    show RLr F2 G2 i ((W.2.2.set l ((W.2.2.getD l lf0).1, (W.2.2.getD l lf0).2.1, (W.2.2.getD l lf0).2.2.1, Z.2.2)).getD i lf0)
    rw [gt_set hl]
    obtain ⟨q1, q2⟩ := h3 i hi
    by_cases c : i = l
    · rw [if_pos c]
      subst c
      exact ⟨by rw [hF 31 (by decide), hF 32 (by decide), hF 33 (by decide)]; exact q1, hZ.2⟩
    · rw [if_neg c]
      exact ⟨by rw [hF 31 (by decide), hF 32 (by decide), hF 33 (by decide)]; exact q1, RLf_oL q2 ho c⟩
  · have hi : (W.2.2.set l ((W.2.2.getD l lf0).1, (W.2.2.getD l lf0).2.1, (W.2.2.getD l lf0).2.2.1, Z.2.2)).length ≤ i := hi
    rw [List.length_set] at hi
    obtain ⟨o1, o2, _⟩ := ho i (by omega)
    rw [o1, o2]
    exact h4 i hi hi2
theorem okW_put {c : Int} {Tf : Nat → List Hd} {W : Lw} {l : Nat} {Z : Ls} (h : okW c Tf W) (hl : l < W.2.2.length) (hQ : okQ (Tf (W.2.2.getD l lf0).1) Z.2.2.1) : okW c Tf (puW W l Z) := fun i hi => by
  have hi : i < (W.2.2.set l ((W.2.2.getD l lf0).1, (W.2.2.getD l lf0).2.1, (W.2.2.getD l lf0).2.2.1, Z.2.2)).length := hi
  rw [List.length_set] at hi
  show (((W.2.2.set l ((W.2.2.getD l lf0).1, (W.2.2.getD l lf0).2.1, (W.2.2.getD l lf0).2.2.1, Z.2.2)).getD i lf0).1 : Int) < c ∧ okQ (Tf ((W.2.2.set l ((W.2.2.getD l lf0).1, (W.2.2.getD l lf0).2.1, (W.2.2.getD l lf0).2.2.1, Z.2.2)).getD i lf0).1) ((W.2.2.set l ((W.2.2.getD l lf0).1, (W.2.2.getD l lf0).2.1, (W.2.2.getD l lf0).2.2.1, Z.2.2)).getD i lf0).2.2.2.1
  rw [gt_set hl]
  by_cases e : i = l
  · rw [if_pos e]
    exact ⟨(h l hl).1, hQ⟩
  · rw [if_neg e]
    exact h i hi
/-- a DAY begins for a LIFE, for all LIVES -/
def lfT (Tf : Nat → List Hd) (S : Sn) (l : Nat) (W : Lw) : Lw := puW W l (wkT (Tf (W.2.2.getD l lf0).1) S (l : Int) (W.2.2.getD l lf0).2.1 (W.2.2.getD l lf0).2.2.1 (W.2.2.getD l lf0).2.2.2.1.length 0 (lsW W l))
def dyT (Tf : Nat → List Hd) (S : Sn) : Nat → Nat → Lw → Lw
  | 0, _, W => W
  | m + 1, l, W => dyT Tf S m (l + 1) (lfT Tf S l W)
theorem lfT_ln {Tf : Nat → List Hd} {S : Sn} {l : Nat} {W : Lw} : (lfT Tf S l W).2.2.length = W.2.2.length := List.length_set
theorem wkT_ok {T : List Hd} {S : Sn} {l a b : Int} (hok : okT T 1) (hv : hvT T) : ∀ {m k : Nat} {σ : Ls}, okQ T σ.2.2.1 → k + m ≤ σ.2.2.1.length → okQ T (wkT T S l a b m k σ).2.2.1 ∧ σ.1.length ≤ (wkT T S l a b m k σ).1.length ∧ (σ.1.length ≤ 2000 → (wkT T S l a b m k σ).1.length ≤ 2000) := by
  intro m
  induction m with
  | zero => intro k σ h _; exact ⟨h, Nat.le_refl _, fun z => z⟩
  | succ m ih =>
    intro k σ h hk
    cases hg : goB T S (σ.2.2.1.getD k (0, 0)).1 with
    | false => rw [wkT_n hg]; exact ih h (by omega)
    | true =>
      rw [wkT_y hg]
      have hs := st_ch hok hv (h.2 _ (gtD_mem (d := (0, 0)) (show k < σ.2.2.1.length by omega)))
      obtain ⟨p1, p2, p3, p4⟩ := dpE_ok (S := S) (l := l) (a := a) (b := b) hok hv h (show k < σ.2.2.1.length by omega) hs.1
      obtain ⟨q1, q2, q3⟩ := ih p1 (k := k) (by omega)
      exact ⟨q1, Nat.le_trans p3 q2, fun z => q3 (p4 z)⟩
theorem lfT_ok {c : Int} {Tf : Nat → List Hd} {S : Sn} {l : Nat} {W : Lw} (hT : ∀ f : Nat, (f : Int) < c → okT (Tf f) 1 ∧ hvT (Tf f)) (h : okW c Tf W) (hl : l < W.2.2.length) : okW c Tf (lfT Tf S l W) ∧ W.1.length ≤ (lfT Tf S l W).1.length := by
  obtain ⟨h1, h2⟩ := h l hl
  obtain ⟨t1, t2⟩ := hT _ h1
  obtain ⟨q1, q2, q3⟩ := wkT_ok (S := S) (l := (l : Int)) (a := (W.2.2.getD l lf0).2.1) (b := (W.2.2.getD l lf0).2.2.1) t1 t2 (m := (W.2.2.getD l lf0).2.2.2.1.length) (k := 0) (σ := lsW W l) h2 (by show 0 + _ ≤ (W.2.2.getD l lf0).2.2.2.1.length; omega)
  exact ⟨okW_put h hl q1, q2⟩
theorem dyT_ok {c : Int} {Tf : Nat → List Hd} {S : Sn} (hT : ∀ f : Nat, (f : Int) < c → okT (Tf f) 1 ∧ hvT (Tf f)) : ∀ {m l : Nat} {W : Lw}, okW c Tf W → l + m ≤ W.2.2.length → okW c Tf (dyT Tf S m l W) ∧ W.1.length ≤ (dyT Tf S m l W).1.length ∧ (dyT Tf S m l W).2.2.length = W.2.2.length := by
  intro m
  induction m with
  | zero => intro l W h _; exact ⟨h, Nat.le_refl _, rfl⟩
  | succ m ih =>
    intro l W h hl
    obtain ⟨p1, p2⟩ := lfT_ok (S := S) hT h (show l < W.2.2.length by omega)
    obtain ⟨q1, q2, q3⟩ := ih p1 (l := l + 1) (by rw [lfT_ln]; omega)
    exact ⟨q1, Nat.le_trans p2 q2, q3.trans lfT_ln⟩
theorem dpE_n {T : List Hd} {S : Sn} {l a b : Int} {k c : Nat} {σ : Ls} (h : ev T S c (σ.2.2.1.getD k (0, 0)).2 = []) : dpE T S l a b k c σ = (σ.1, σ.2.1, delL σ.2.2.1 k, σ.2.2.2) := by unfold dpE; rw [h]; rfl

set_option maxHeartbeats 4000000 in
set_option maxRecDepth 100000 in
theorem k_X12_asNowE {l : Launch} {D : va_G} {cy : Nat → ClassId} {b : Nat} {f : gMem} {m : Nat} {a : Nat → Nat} {f0 : gMem} {n : Nat → Int32} {z : Nat → Int64} {F : Nat → Nat → Int32} {G : Nat → Nat → Int64}   (hS : mS cy m a f0 n z F G f) (a0 : 0 ≤ (n 0).toInt ∧ (n 0).toInt ≤ 399) : gC l D cy b yX12_asNow cX12_asNow 2 none 1 0 0 [.ref m] f (pV fun f2 => ∃ (n2 : Nat → Int32) (z2 : Nat → Int64) (F2 : Nat → Nat → Int32) (G2 : Nat → Nat → Int64), mS cy m a f0 n2 z2 F2 G2 f2 ∧ fx [] [29] [] [28] n z F G n2 z2 F2 G2 ∧ sRn (sNow (n 0) (F 2)) z2 G2) := by
  refine gC_of (by decide) (Nat.le_of_ble_eq_true rfl) ?_
  show gG l _ _ _ D cy b cX12_asNow 2 _ RX12 "asNow" 0 0 f 0 [(0, .ref m)] []
  refine gz_aload_n dX12_asNow_0 rfl rfl ?_
  refine gz_aload_n dX12_asNow_1 rfl rfl ?_
  refine mg_249 hS dX12_asNow_2 ?_
  refine gz_i2l dX12_asNow_5 ?_
  refine mp_340 hS dX12_asNow_6 (fun f_1 hS_1 => ?_)
  refine gz_iconst (v := 0) dX12_asNow_9 (by decide) ?_
  refine gz_istore_n (lv' := [(1, .int 0), (0, .ref m)]) dX12_asNow_10 rfl (by decide) rfl ?_
  refine gz_iload_n dX12_asNow_11 rfl rfl ?_
  refine gz_bipush (v := 6) dX12_asNow_12 (by decide) ?_
  refine gz_icmp_ge (tgt := 39) dX12_asNow_14 (by decide) (fun c_14 => ?_) (fun c_14 => ?_)
  · exact absurd c_14 (by decide)
  ·
    try simp only [mIn_0, lgc_lt, lgc_gt, lgc_le, lgc_ge, lgc_eq] at c_14
    try simp only [fl_lt, fl_le, fl_eq, fL_w, fL_lt, fL_le, tm1, tm10k, tm9, tm99, Int32.reduceToInt, Int64.reduceToInt, Int.not_lt, Int.not_le] at c_14
    refine gz_aload_n dX12_asNow_17 rfl rfl ?_
    refine mg_94 hS_1 dX12_asNow_18 ?_
    refine gz_iload_n dX12_asNow_21 rfl rfl ?_
    refine gz_aload_n dX12_asNow_22 rfl rfl ?_
    refine gz_iload_n dX12_asNow_23 rfl rfl ?_
    refine gz_aload_n dX12_asNow_24 rfl rfl ?_
    refine mg_249 hS_1 dX12_asNow_25 ?_
    refine gz_ev (w := .int (n 0)) rfl ?_
    refine scX12_258 (k_X12_thingOnT (x := 0) (y := (n 0)) hS_1 (by decide) (by omega)) hS_1.1 ⟨(Nat.le_of_ble_eq_true rfl), (Nat.le_of_ble_eq_true rfl)⟩ ⟨(Nat.le_of_ble_eq_true rfl), (Nat.le_of_ble_eq_true rfl)⟩ rfl rfl (Nat.le_of_ble_eq_true rfl) dX12_asNow_28 ?_
    rintro r_2 f9 ⟨hb_2, y9⟩; rw [y9]
    refine gz_i2l dX12_asNow_31 ?_
    refine m_last 28 hS_1 rfl (N := 6) rfl (vin_T (v := 0) rfl (by decide) (by decide)) dX12_asNow_32 (fun f_3 hS_3q => ?_)
    have hS_3 : mS cy m a f0 n (va_up z 29 ((n 0).toInt64)) F (va_up G 28 (vp_updL (G 28) (Int32.toNatClampNeg 0) r_2.toInt64)) f_3 := hS_3q
    refine gz_iinc (v := 1) (lv' := [(1, .int 1), (0, .ref m)]) dX12_asNow_33 rfl (by decide) (by decide) rfl ?_
    refine gz_goto (tgt := 11) dX12_asNow_36 (by decide) ?_
    refine gz_iload_n dX12_asNow_11 rfl rfl ?_
    refine gz_bipush (v := 6) dX12_asNow_12 (by decide) ?_
    refine gz_icmp_ge (tgt := 39) dX12_asNow_14 (by decide) (fun c_14_1 => ?_) (fun c_14_1 => ?_)
    · exact absurd c_14_1 (by decide)
    ·
      try simp only [mIn_0, lgc_lt, lgc_gt, lgc_le, lgc_ge, lgc_eq] at c_14_1
      try simp only [fl_lt, fl_le, fl_eq, fL_w, fL_lt, fL_le, tm1, tm10k, tm9, tm99, Int32.reduceToInt, Int64.reduceToInt, Int.not_lt, Int.not_le] at c_14_1
      refine gz_aload_n dX12_asNow_17 rfl rfl ?_
      refine mg_94 hS_3 dX12_asNow_18 ?_
      refine gz_iload_n dX12_asNow_21 rfl rfl ?_
      refine gz_aload_n dX12_asNow_22 rfl rfl ?_
      refine gz_iload_n dX12_asNow_23 rfl rfl ?_
      refine gz_aload_n dX12_asNow_24 rfl rfl ?_
      refine mg_249 hS_3 dX12_asNow_25 ?_
      refine gz_ev (w := .int (n 0)) rfl ?_
      refine scX12_258 (k_X12_thingOnT (x := 1) (y := (n 0)) hS_3 (by decide) (by omega)) hS_3.1 ⟨(Nat.le_of_ble_eq_true rfl), (Nat.le_of_ble_eq_true rfl)⟩ ⟨(Nat.le_of_ble_eq_true rfl), (Nat.le_of_ble_eq_true rfl)⟩ rfl rfl (Nat.le_of_ble_eq_true rfl) dX12_asNow_28 ?_
      rintro r_4 f9 ⟨hb_4, y9⟩; rw [y9]
      refine gz_i2l dX12_asNow_31 ?_
      refine m_last 28 hS_3 rfl (N := 6) rfl (vin_T (v := 1) rfl (by decide) (by decide)) dX12_asNow_32 (fun f_5 hS_5q => ?_)
      have hS_5 : mS cy m a f0 n (va_up z 29 ((n 0).toInt64)) F (va_up (va_up G 28 (vp_updL (G 28) (Int32.toNatClampNeg 0) r_2.toInt64)) 28 (vp_updL (vp_updL (G 28) (Int32.toNatClampNeg 0) r_2.toInt64) (Int32.toNatClampNeg 1) r_4.toInt64)) f_5 := hS_5q
      refine gz_iinc (v := 2) (lv' := [(1, .int 2), (0, .ref m)]) dX12_asNow_33 rfl (by decide) (by decide) rfl ?_
      refine gz_goto (tgt := 11) dX12_asNow_36 (by decide) ?_
      refine gz_iload_n dX12_asNow_11 rfl rfl ?_
      refine gz_bipush (v := 6) dX12_asNow_12 (by decide) ?_
      refine gz_icmp_ge (tgt := 39) dX12_asNow_14 (by decide) (fun c_14_2 => ?_) (fun c_14_2 => ?_)
      · exact absurd c_14_2 (by decide)
      ·
        try simp only [mIn_0, lgc_lt, lgc_gt, lgc_le, lgc_ge, lgc_eq] at c_14_2
        try simp only [fl_lt, fl_le, fl_eq, fL_w, fL_lt, fL_le, tm1, tm10k, tm9, tm99, Int32.reduceToInt, Int64.reduceToInt, Int.not_lt, Int.not_le] at c_14_2
        refine gz_aload_n dX12_asNow_17 rfl rfl ?_
        refine mg_94 hS_5 dX12_asNow_18 ?_
        refine gz_iload_n dX12_asNow_21 rfl rfl ?_
        refine gz_aload_n dX12_asNow_22 rfl rfl ?_
        refine gz_iload_n dX12_asNow_23 rfl rfl ?_
        refine gz_aload_n dX12_asNow_24 rfl rfl ?_
        refine mg_249 hS_5 dX12_asNow_25 ?_
        refine gz_ev (w := .int (n 0)) rfl ?_
        refine scX12_258 (k_X12_thingOnT (x := 2) (y := (n 0)) hS_5 (by decide) (by omega)) hS_5.1 ⟨(Nat.le_of_ble_eq_true rfl), (Nat.le_of_ble_eq_true rfl)⟩ ⟨(Nat.le_of_ble_eq_true rfl), (Nat.le_of_ble_eq_true rfl)⟩ rfl rfl (Nat.le_of_ble_eq_true rfl) dX12_asNow_28 ?_
        rintro r_6 f9 ⟨hb_6, y9⟩; rw [y9]
        refine gz_i2l dX12_asNow_31 ?_
        refine m_last 28 hS_5 rfl (N := 6) rfl (vin_T (v := 2) rfl (by decide) (by decide)) dX12_asNow_32 (fun f_7 hS_7q => ?_)
        have hS_7 : mS cy m a f0 n (va_up z 29 ((n 0).toInt64)) F (va_up (va_up (va_up G 28 (vp_updL (G 28) (Int32.toNatClampNeg 0) r_2.toInt64)) 28 (vp_updL (vp_updL (G 28) (Int32.toNatClampNeg 0) r_2.toInt64) (Int32.toNatClampNeg 1) r_4.toInt64)) 28 (vp_updL (vp_updL (vp_updL (G 28) (Int32.toNatClampNeg 0) r_2.toInt64) (Int32.toNatClampNeg 1) r_4.toInt64) (Int32.toNatClampNeg 2) r_6.toInt64)) f_7 := hS_7q
        refine gz_iinc (v := 3) (lv' := [(1, .int 3), (0, .ref m)]) dX12_asNow_33 rfl (by decide) (by decide) rfl ?_
        refine gz_goto (tgt := 11) dX12_asNow_36 (by decide) ?_
        refine gz_iload_n dX12_asNow_11 rfl rfl ?_
        refine gz_bipush (v := 6) dX12_asNow_12 (by decide) ?_
        refine gz_icmp_ge (tgt := 39) dX12_asNow_14 (by decide) (fun c_14_3 => ?_) (fun c_14_3 => ?_)
        · exact absurd c_14_3 (by decide)
        ·
          try simp only [mIn_0, lgc_lt, lgc_gt, lgc_le, lgc_ge, lgc_eq] at c_14_3
          try simp only [fl_lt, fl_le, fl_eq, fL_w, fL_lt, fL_le, tm1, tm10k, tm9, tm99, Int32.reduceToInt, Int64.reduceToInt, Int.not_lt, Int.not_le] at c_14_3
          refine gz_aload_n dX12_asNow_17 rfl rfl ?_
          refine mg_94 hS_7 dX12_asNow_18 ?_
          refine gz_iload_n dX12_asNow_21 rfl rfl ?_
          refine gz_aload_n dX12_asNow_22 rfl rfl ?_
          refine gz_iload_n dX12_asNow_23 rfl rfl ?_
          refine gz_aload_n dX12_asNow_24 rfl rfl ?_
          refine mg_249 hS_7 dX12_asNow_25 ?_
          refine gz_ev (w := .int (n 0)) rfl ?_
          refine scX12_258 (k_X12_thingOnT (x := 3) (y := (n 0)) hS_7 (by decide) (by omega)) hS_7.1 ⟨(Nat.le_of_ble_eq_true rfl), (Nat.le_of_ble_eq_true rfl)⟩ ⟨(Nat.le_of_ble_eq_true rfl), (Nat.le_of_ble_eq_true rfl)⟩ rfl rfl (Nat.le_of_ble_eq_true rfl) dX12_asNow_28 ?_
          rintro r_8 f9 ⟨hb_8, y9⟩; rw [y9]
          refine gz_i2l dX12_asNow_31 ?_
          refine m_last 28 hS_7 rfl (N := 6) rfl (vin_T (v := 3) rfl (by decide) (by decide)) dX12_asNow_32 (fun f_9 hS_9q => ?_)
          have hS_9 : mS cy m a f0 n (va_up z 29 ((n 0).toInt64)) F (va_up (va_up (va_up (va_up G 28 (vp_updL (G 28) (Int32.toNatClampNeg 0) r_2.toInt64)) 28 (vp_updL (vp_updL (G 28) (Int32.toNatClampNeg 0) r_2.toInt64) (Int32.toNatClampNeg 1) r_4.toInt64)) 28 (vp_updL (vp_updL (vp_updL (G 28) (Int32.toNatClampNeg 0) r_2.toInt64) (Int32.toNatClampNeg 1) r_4.toInt64) (Int32.toNatClampNeg 2) r_6.toInt64)) 28 (vp_updL (vp_updL (vp_updL (vp_updL (G 28) (Int32.toNatClampNeg 0) r_2.toInt64) (Int32.toNatClampNeg 1) r_4.toInt64) (Int32.toNatClampNeg 2) r_6.toInt64) (Int32.toNatClampNeg 3) r_8.toInt64)) f_9 := hS_9q
          refine gz_iinc (v := 4) (lv' := [(1, .int 4), (0, .ref m)]) dX12_asNow_33 rfl (by decide) (by decide) rfl ?_
          refine gz_goto (tgt := 11) dX12_asNow_36 (by decide) ?_
          refine gz_iload_n dX12_asNow_11 rfl rfl ?_
          refine gz_bipush (v := 6) dX12_asNow_12 (by decide) ?_
          refine gz_icmp_ge (tgt := 39) dX12_asNow_14 (by decide) (fun c_14_4 => ?_) (fun c_14_4 => ?_)
          · exact absurd c_14_4 (by decide)
          ·
            try simp only [mIn_0, lgc_lt, lgc_gt, lgc_le, lgc_ge, lgc_eq] at c_14_4
            try simp only [fl_lt, fl_le, fl_eq, fL_w, fL_lt, fL_le, tm1, tm10k, tm9, tm99, Int32.reduceToInt, Int64.reduceToInt, Int.not_lt, Int.not_le] at c_14_4
            refine gz_aload_n dX12_asNow_17 rfl rfl ?_
            refine mg_94 hS_9 dX12_asNow_18 ?_
            refine gz_iload_n dX12_asNow_21 rfl rfl ?_
            refine gz_aload_n dX12_asNow_22 rfl rfl ?_
            refine gz_iload_n dX12_asNow_23 rfl rfl ?_
            refine gz_aload_n dX12_asNow_24 rfl rfl ?_
            refine mg_249 hS_9 dX12_asNow_25 ?_
            refine gz_ev (w := .int (n 0)) rfl ?_
            refine scX12_258 (k_X12_thingOnT (x := 4) (y := (n 0)) hS_9 (by decide) (by omega)) hS_9.1 ⟨(Nat.le_of_ble_eq_true rfl), (Nat.le_of_ble_eq_true rfl)⟩ ⟨(Nat.le_of_ble_eq_true rfl), (Nat.le_of_ble_eq_true rfl)⟩ rfl rfl (Nat.le_of_ble_eq_true rfl) dX12_asNow_28 ?_
            rintro r_10 f9 ⟨hb_10, y9⟩; rw [y9]
            refine gz_i2l dX12_asNow_31 ?_
            refine m_last 28 hS_9 rfl (N := 6) rfl (vin_T (v := 4) rfl (by decide) (by decide)) dX12_asNow_32 (fun f_11 hS_11q => ?_)
            have hS_11 : mS cy m a f0 n (va_up z 29 ((n 0).toInt64)) F (va_up (va_up (va_up (va_up (va_up G 28 (vp_updL (G 28) (Int32.toNatClampNeg 0) r_2.toInt64)) 28 (vp_updL (vp_updL (G 28) (Int32.toNatClampNeg 0) r_2.toInt64) (Int32.toNatClampNeg 1) r_4.toInt64)) 28 (vp_updL (vp_updL (vp_updL (G 28) (Int32.toNatClampNeg 0) r_2.toInt64) (Int32.toNatClampNeg 1) r_4.toInt64) (Int32.toNatClampNeg 2) r_6.toInt64)) 28 (vp_updL (vp_updL (vp_updL (vp_updL (G 28) (Int32.toNatClampNeg 0) r_2.toInt64) (Int32.toNatClampNeg 1) r_4.toInt64) (Int32.toNatClampNeg 2) r_6.toInt64) (Int32.toNatClampNeg 3) r_8.toInt64)) 28 (vp_updL (vp_updL (vp_updL (vp_updL (vp_updL (G 28) (Int32.toNatClampNeg 0) r_2.toInt64) (Int32.toNatClampNeg 1) r_4.toInt64) (Int32.toNatClampNeg 2) r_6.toInt64) (Int32.toNatClampNeg 3) r_8.toInt64) (Int32.toNatClampNeg 4) r_10.toInt64)) f_11 := hS_11q
            refine gz_iinc (v := 5) (lv' := [(1, .int 5), (0, .ref m)]) dX12_asNow_33 rfl (by decide) (by decide) rfl ?_
            refine gz_goto (tgt := 11) dX12_asNow_36 (by decide) ?_
            refine gz_iload_n dX12_asNow_11 rfl rfl ?_
            refine gz_bipush (v := 6) dX12_asNow_12 (by decide) ?_
            refine gz_icmp_ge (tgt := 39) dX12_asNow_14 (by decide) (fun c_14_5 => ?_) (fun c_14_5 => ?_)
            · exact absurd c_14_5 (by decide)
            ·
              try simp only [mIn_0, lgc_lt, lgc_gt, lgc_le, lgc_ge, lgc_eq] at c_14_5
              try simp only [fl_lt, fl_le, fl_eq, fL_w, fL_lt, fL_le, tm1, tm10k, tm9, tm99, Int32.reduceToInt, Int64.reduceToInt, Int.not_lt, Int.not_le] at c_14_5
              refine gz_aload_n dX12_asNow_17 rfl rfl ?_
              refine mg_94 hS_11 dX12_asNow_18 ?_
              refine gz_iload_n dX12_asNow_21 rfl rfl ?_
              refine gz_aload_n dX12_asNow_22 rfl rfl ?_
              refine gz_iload_n dX12_asNow_23 rfl rfl ?_
              refine gz_aload_n dX12_asNow_24 rfl rfl ?_
              refine mg_249 hS_11 dX12_asNow_25 ?_
              refine gz_ev (w := .int (n 0)) rfl ?_
              refine scX12_258 (k_X12_thingOnT (x := 5) (y := (n 0)) hS_11 (by decide) (by omega)) hS_11.1 ⟨(Nat.le_of_ble_eq_true rfl), (Nat.le_of_ble_eq_true rfl)⟩ ⟨(Nat.le_of_ble_eq_true rfl), (Nat.le_of_ble_eq_true rfl)⟩ rfl rfl (Nat.le_of_ble_eq_true rfl) dX12_asNow_28 ?_
              rintro r_12 f9 ⟨hb_12, y9⟩; rw [y9]
              refine gz_i2l dX12_asNow_31 ?_
              refine m_last 28 hS_11 rfl (N := 6) rfl (vin_T (v := 5) rfl (by decide) (by decide)) dX12_asNow_32 (fun f_13 hS_13q => ?_)
              have hS_13 : mS cy m a f0 n (va_up z 29 ((n 0).toInt64)) F (va_up (va_up (va_up (va_up (va_up (va_up G 28 (vp_updL (G 28) (Int32.toNatClampNeg 0) r_2.toInt64)) 28 (vp_updL (vp_updL (G 28) (Int32.toNatClampNeg 0) r_2.toInt64) (Int32.toNatClampNeg 1) r_4.toInt64)) 28 (vp_updL (vp_updL (vp_updL (G 28) (Int32.toNatClampNeg 0) r_2.toInt64) (Int32.toNatClampNeg 1) r_4.toInt64) (Int32.toNatClampNeg 2) r_6.toInt64)) 28 (vp_updL (vp_updL (vp_updL (vp_updL (G 28) (Int32.toNatClampNeg 0) r_2.toInt64) (Int32.toNatClampNeg 1) r_4.toInt64) (Int32.toNatClampNeg 2) r_6.toInt64) (Int32.toNatClampNeg 3) r_8.toInt64)) 28 (vp_updL (vp_updL (vp_updL (vp_updL (vp_updL (G 28) (Int32.toNatClampNeg 0) r_2.toInt64) (Int32.toNatClampNeg 1) r_4.toInt64) (Int32.toNatClampNeg 2) r_6.toInt64) (Int32.toNatClampNeg 3) r_8.toInt64) (Int32.toNatClampNeg 4) r_10.toInt64)) 28 (vp_updL (vp_updL (vp_updL (vp_updL (vp_updL (vp_updL (G 28) (Int32.toNatClampNeg 0) r_2.toInt64) (Int32.toNatClampNeg 1) r_4.toInt64) (Int32.toNatClampNeg 2) r_6.toInt64) (Int32.toNatClampNeg 3) r_8.toInt64) (Int32.toNatClampNeg 4) r_10.toInt64) (Int32.toNatClampNeg 5) r_12.toInt64)) f_13 := hS_13q
              refine gz_iinc (v := 6) (lv' := [(1, .int 6), (0, .ref m)]) dX12_asNow_33 rfl (by decide) (by decide) rfl ?_
              refine gz_goto (tgt := 11) dX12_asNow_36 (by decide) ?_
              refine gz_iload_n dX12_asNow_11 rfl rfl ?_
              refine gz_bipush (v := 6) dX12_asNow_12 (by decide) ?_
              refine gz_icmp_ge (tgt := 39) dX12_asNow_14 (by decide) (fun c_14_6 => ?_) (fun c_14_6 => ?_)
              ·
                try simp only [mIn_0, lgc_lt, lgc_gt, lgc_le, lgc_ge, lgc_eq] at c_14_6
                try simp only [fl_lt, fl_le, fl_eq, fL_w, fL_lt, fL_le, tm1, tm10k, tm9, tm99, Int32.reduceToInt, Int64.reduceToInt, Int.not_lt, Int.not_le] at c_14_6
                have hg : ∀ i, i < 6 → (vp_updL (vp_updL (vp_updL (vp_updL (vp_updL (vp_updL (G 28) (Int32.toNatClampNeg 0) r_2.toInt64) (Int32.toNatClampNeg 1) r_4.toInt64) (Int32.toNatClampNeg 2) r_6.toInt64) (Int32.toNatClampNeg 3) r_8.toInt64) (Int32.toNatClampNeg 4) r_10.toInt64) (Int32.toNatClampNeg 5) r_12.toInt64) i = Int64.ofInt (thN (F 2) i ((n 0).toInt + 1).toNat).toInt := by
                  intro i hi
                  have hc : i = 0 ∨ i = 1 ∨ i = 2 ∨ i = 3 ∨ i = 4 ∨ i = 5 := by omega
                  rcases hc with rfl | rfl | rfl | rfl | rfl | rfl
                  · rw [updLE, if_neg (by decide), updLE, if_neg (by decide), updLE, if_neg (by decide), updLE, if_neg (by decide), updLE, if_neg (by decide), updLE, if_pos (by decide), hb_2]; exact L_of rfl
                  · rw [updLE, if_neg (by decide), updLE, if_neg (by decide), updLE, if_neg (by decide), updLE, if_neg (by decide), updLE, if_pos (by decide), hb_4]; exact L_of rfl
                  · rw [updLE, if_neg (by decide), updLE, if_neg (by decide), updLE, if_neg (by decide), updLE, if_pos (by decide), hb_6]; exact L_of rfl
                  · rw [updLE, if_neg (by decide), updLE, if_neg (by decide), updLE, if_pos (by decide), hb_8]; exact L_of rfl
                  · rw [updLE, if_neg (by decide), updLE, if_pos (by decide), hb_10]; exact L_of rfl
                  · rw [updLE, if_pos (by decide), hb_12]; exact L_of rfl
                exact gz_vret rfl dX12_asNow_39 (Nat.le_of_ble_eq_true rfl) (Nat.le_of_ble_eq_true rfl) (⟨rfl, _, _, _, _, hS_13, (fx_G (fx_G (fx_G (fx_G (fx_G (fx_G (fx_z fx_rf (by decide)) (by decide)) (by decide)) (by decide)) (by decide)) (by decide)) (by decide)), ⟨L_of rfl, hg⟩⟩)
              · exact absurd c_14_6 (by decide)

set_option maxHeartbeats 4000000 in
set_option maxRecDepth 100000 in
theorem l_X12_leavesE {l : Launch} {D : va_G} {cy : Nat → ClassId} {b : Nat} {m : Nat} {a : Nat → Nat} {f0 : gMem} {n0 : Nat → Int32} {z0 : Nat → Int64} {F0 : Nat → Nat → Int32} {G0 : Nat → Nat → Int64}  {x1 x2 : Int32} {g35 : Nat → Int32} {lN fo kN : Nat} {Z : Ls} (hlN : x1.toInt = (lN : Int) ∧ lN < 40) (hSt0 : RSt n0 F0 G0 lN fo Z) (hkN : kN < Z.2.2.1.length) (hg35 : g35 = upd (F0 35) lN (F0 35 lN - 1)) : ∀ (k : Nat) (i : Int32) (n : Nat → Int32) (z : Nat → Int64) (F : Nat → Nat → Int32) (G : Nat → Nat → Int64) (fm : gMem), mS cy m a f0 n z F G fm → fx [] [] [35, 36] [37] n0 z0 F0 G0 n z F G → (RI n F) → (0 ≤ x1.toInt ∧ x1.toInt < (n 30).toInt) → (F 35 = g35) → (0 ≤ (g35 (Int32.toNatClampNeg x1)).toInt ∧ (g35 (Int32.toNatClampNeg x1)).toInt ≤ 39) → (∀ j : Nat, (j : Int) ≤ (g35 (Int32.toNatClampNeg x1)).toInt → vS F (n 5).toInt (F 36 (40 * (Int32.toNatClampNeg x1) + j))) → (40 * x1.toInt ≤ i.toInt ∧ i.toInt ≤ 40 * x1.toInt + (g35 (Int32.toNatClampNeg x1)).toInt) → (40 * x1.toInt + (g35 (Int32.toNatClampNeg x1)).toInt - i.toInt < (k : Int)) → (((40 * lN + kN : Nat) : Int) ≤ i.toInt) → (∀ j : Nat, F 36 j = (if 40 * lN + kN ≤ j ∧ (j : Int) < i.toInt then F0 36 (j + 1) else F0 36 j) ∧ G 37 j = (if 40 * lN + kN ≤ j ∧ (j : Int) < i.toInt then G0 37 (j + 1) else G0 37 j)) → gG l (gRm 0 0 0) (gQf D b (pV fun f2 => ∃ (n2 : Nat → Int32) (z2 : Nat → Int64) (F2 : Nat → Nat → Int32) (G2 : Nat → Nat → Int64), mS cy m a f0 n2 z2 F2 G2 f2 ∧ fx [] [] [35, 36] [37] n0 z0 F0 G0 n2 z2 F2 G2 ∧ RI n2 F2 ∧ F2 35 = g35 ∧ RSt n2 F2 G2 lN fo (Z.1, Z.2.1, delL Z.2.2.1 kN, Z.2.2.2) ∧ oL F0 G0 F2 G2 lN) 0 0) gTt D cy b cX12_leaves 4 none RX12 "leaves" 0 0 fm 17 [(3, .int i), (0, .ref m), (1, .int x1), (2, .int x2)] [] := by
  intro k
  induction k with
  | zero =>
    intro i n z F G fm hS hx hR hl h35 hg hV hi hk hik hP
    exfalso; omega
  | succ k ih =>
    intro i n z F G fm hS hx hR hl h35 hg hV hi hk hik hP
    obtain ⟨a0, a4, a5, bA, bW, a30, bL, a38, bP, a53, a47, a88⟩ := id hR
    have ecl : (Int32.toNatClampNeg x1) = lN := by rw [clN]; omega
    have qs0 : (F0 35 lN - 1).toInt = (F0 35 lN).toInt - 1 := T_sub rfl (show (1 : Int32).toInt = 1 from rfl) (by have z9 := hSt0.2.1; omega)
    have q40 : (40 * x1 + (g35 (Int32.toNatClampNeg x1))).toInt = 40 * x1.toInt + (g35 (Int32.toNatClampNeg x1)).toInt := T_add (T_mul (show (40 : Int32).toInt = 40 from rfl) rfl (by omega)) rfl (by omega)
    refine gz_iload_n dX12_leaves_17 rfl rfl ?_
    refine gz_bipush (v := 40) dX12_leaves_18 (by decide) ?_
    refine gz_iload_n dX12_leaves_20 rfl rfl ?_
    refine gz_imul dX12_leaves_21 ?_
    refine gz_aload_n dX12_leaves_22 rfl rfl ?_
    refine mg_109 hS dX12_leaves_23 ?_
    refine gz_iload_n dX12_leaves_26 rfl rfl ?_
    refine m_iald 35 hS rfl (N := 40) rfl ((by exact vin_T (rfl : (x1).toInt = (x1).toInt) (by omega) (by omega))) dX12_leaves_27 ?_
    refine gz_ev (w := .int (g35 (Int32.toNatClampNeg x1))) (congrArg Value.int (congrFun h35 _)) ?_
    refine gz_iadd dX12_leaves_28 ?_
    refine gz_icmp_ge (tgt := 66) dX12_leaves_29 (by decide) (fun c_29 => ?_) (fun c_29 => ?_)
    ·
      try simp only [mIn_0, lgc_lt, lgc_gt, lgc_le, lgc_ge, lgc_eq] at c_29
      try simp only [fl_lt, fl_le, fl_eq, fL_w, fL_lt, fL_le, tm1, tm10k, tm9, tm99, Int32.reduceToInt, Int64.reduceToInt, Int.not_lt, Int.not_le] at c_29
      try have u_29t0 := (T_add (T_mul (show (40 : Int32).toInt = 40 from rfl) (rfl : (x1).toInt = (x1).toInt) (by omega)) (rfl : ((g35 (Int32.toNatClampNeg x1))).toInt = ((g35 (Int32.toNatClampNeg x1))).toInt) (by omega))
      have hge : (g35 (Int32.toNatClampNeg x1)).toInt = (F0 35 lN).toInt - 1 := by rw [hg35, ecl, updE, if_pos rfl]; exact qs0
      have hii : i.toInt = 40 * (lN : Int) + (F0 35 lN).toInt - 1 := by omega
      have hlv := leaves_R (F2 := F) (G2 := G) hSt0 hkN (fun r hr => hx.2.2.1 r (by revert hr; revert r; decide)) (hx.2.2.2 34 (by decide)) (by rw [h35, hg35]) (fun j => by have q9 := hP j; rw [hii] at q9; exact q9)
      exact gz_vret rfl dX12_leaves_66 (Nat.le_of_ble_eq_true rfl) (Nat.le_of_ble_eq_true rfl) (⟨rfl, _, _, _, _, hS, hx, hR, h35, (RSt_cg (n := n0) hlv.1 (hx.1 1 (by decide)) (hx.1 38 (by decide)) (fun _ _ => rfl) (fun _ _ => rfl)), hlv.2⟩)
    ·
      try simp only [mIn_0, lgc_lt, lgc_gt, lgc_le, lgc_ge, lgc_eq] at c_29
      try simp only [fl_lt, fl_le, fl_eq, fL_w, fL_lt, fL_le, tm1, tm10k, tm9, tm99, Int32.reduceToInt, Int64.reduceToInt, Int.not_lt, Int.not_le] at c_29
      try have u_29t0 := (T_add (T_mul (show (40 : Int32).toInt = 40 from rfl) (rfl : (x1).toInt = (x1).toInt) (by omega)) (rfl : ((g35 (Int32.toNatClampNeg x1))).toInt = ((g35 (Int32.toNatClampNeg x1))).toInt) (by omega))
      refine gz_aload_n dX12_leaves_32 rfl rfl ?_
      refine mg_112 hS dX12_leaves_33 ?_
      refine gz_iload_n dX12_leaves_36 rfl rfl ?_
      refine gz_aload_n dX12_leaves_37 rfl rfl ?_
      refine mg_112 hS dX12_leaves_38 ?_
      refine gz_iload_n dX12_leaves_41 rfl rfl ?_
      refine gz_iconst (v := 1) dX12_leaves_42 (by decide) ?_
      refine gz_iadd dX12_leaves_43 ?_
      refine m_iald 36 hS rfl (N := 1600) rfl ((by have q9 := (T_add (rfl : (i).toInt = (i).toInt) (show (1 : Int32).toInt = 1 from rfl) (by omega)); exact vin_T q9 (by omega) (by omega))) dX12_leaves_44 ?_
      refine m_iast 36 hS rfl (N := 1600) rfl ((by exact vin_T (rfl : (i).toInt = (i).toInt) (by omega) (by omega))) dX12_leaves_45 (fun f_1 hS_1q => ?_)
      have hS_1 : mS cy m a f0 n z (va_up F 36 (upd (F 36) (Int32.toNatClampNeg i) ((F 36) (Int32.toNatClampNeg (i + 1))))) G f_1 := hS_1q
      refine gz_aload_n dX12_leaves_46 rfl rfl ?_
      refine mg_115 hS_1 dX12_leaves_47 ?_
      refine gz_iload_n dX12_leaves_50 rfl rfl ?_
      refine gz_aload_n dX12_leaves_51 rfl rfl ?_
      refine mg_115 hS_1 dX12_leaves_52 ?_
      refine gz_iload_n dX12_leaves_55 rfl rfl ?_
      refine gz_iconst (v := 1) dX12_leaves_56 (by decide) ?_
      refine gz_iadd dX12_leaves_57 ?_
      refine m_lald 37 hS_1 rfl (N := 1600) rfl ((by have q9 := (T_add (rfl : (i).toInt = (i).toInt) (show (1 : Int32).toInt = 1 from rfl) (by omega)); exact vin_T q9 (by omega) (by omega))) dX12_leaves_58 ?_
      refine gz_ev (w := .long ((G 37) (Int32.toNatClampNeg (i + 1)))) rfl ?_
      refine m_last 37 hS_1 rfl (N := 1600) rfl ((by exact vin_T (rfl : (i).toInt = (i).toInt) (by omega) (by omega))) dX12_leaves_59 (fun f_2 hS_2q => ?_)
      have hS_2 : mS cy m a f0 n z (va_up F 36 (upd (F 36) (Int32.toNatClampNeg i) ((F 36) (Int32.toNatClampNeg (i + 1))))) (va_up G 37 (vp_updL (G 37) (Int32.toNatClampNeg i) ((G 37) (Int32.toNatClampNeg (i + 1))))) f_2 := hS_2q
      refine gz_iinc (v := (i + 1)) (lv' := [(3, .int (i + 1)), (0, .ref m), (1, .int x1), (2, .int x2)]) dX12_leaves_60 rfl rfl (by decide) rfl ?_
      refine gz_goto (tgt := 17) dX12_leaves_63 (by decide) ?_
      refine gz_sub (lv' := [(3, .int (i + 1)), (0, .ref m), (1, .int x1), (2, .int x2)]) (by simp [List.lookup]) ?_
      have hxx : fx [] [] [35, 36] [37] n z F G n z (va_up F 36 (upd (F 36) (Int32.toNatClampNeg i) ((F 36) (Int32.toNatClampNeg (i + 1))))) (va_up G 37 (vp_updL (G 37) (Int32.toNatClampNeg i) ((G 37) (Int32.toNatClampNeg (i + 1))))) := (fx_G (fx_F fx_rf (by decide)) (by decide))
      have qi : (i + 1).toInt = i.toInt + 1 := T_add rfl (show (1 : Int32).toInt = 1 from rfl) (by omega)
      have qc := clI (i := x1) (by omega)
      have qe := clI (i := i) (by omega)
      have qe1 := clI (i := i + 1) (by omega)
      have hvs : vS F (n 5).toInt (F 36 (Int32.toNatClampNeg (i + 1))) := by rw [show Int32.toNatClampNeg (i + 1) = 40 * (Int32.toNatClampNeg x1) + (Int32.toNatClampNeg (i + 1) - 40 * (Int32.toNatClampNeg x1)) by omega]; exact hV _ (by omega)
      have hR9 : RI n (va_up F 36 (upd (F 36) (Int32.toNatClampNeg i) ((F 36) (Int32.toNatClampNeg (i + 1))))) := RI_l hR (fun k hk => hxx.2.2.1 k ((by decide : ∀ k : Nat, k ∈ wK → k ∉ ([35, 36] : List Nat)) k hk)) (fun _ _ => rfl) (rL_put bL (fun k hk => up_out (K := [36]) (fun _ _ => rfl) (by decide) k ((by decide : ∀ k : Nat, k ∈ ([6, 7, 32, 33, 35] : List Nat) → k ∉ ([36] : List Nat)) k hk)) rfl hvs) a38 (rPy_cg2 bP rfl)
      have hV9 : ∀ j : Nat, (j : Int) ≤ (g35 (Int32.toNatClampNeg x1)).toInt → vS (va_up F 36 (upd (F 36) (Int32.toNatClampNeg i) ((F 36) (Int32.toNatClampNeg (i + 1))))) (n 5).toInt ((va_up F 36 (upd (F 36) (Int32.toNatClampNeg i) ((F 36) (Int32.toNatClampNeg (i + 1))))) 36 (40 * (Int32.toNatClampNeg x1) + j)) := by
        intro j hj
        show vS _ _ (upd (F 36) (Int32.toNatClampNeg i) (F 36 (Int32.toNatClampNeg (i + 1))) (40 * (Int32.toNatClampNeg x1) + j))
        rw [updE]
        by_cases e : 40 * (Int32.toNatClampNeg x1) + j = Int32.toNatClampNeg i
        · rw [if_pos e]; exact vS_cg rfl rfl hvs
        · rw [if_neg e]; exact vS_cg rfl rfl (hV j hj)
      have ee1 : Int32.toNatClampNeg (i + 1) = Int32.toNatClampNeg i + 1 := by omega
      have hP9 : ∀ j : Nat, (va_up F 36 (upd (F 36) (Int32.toNatClampNeg i) ((F 36) (Int32.toNatClampNeg (i + 1))))) 36 j = (if 40 * lN + kN ≤ j ∧ (j : Int) < (i + 1).toInt then F0 36 (j + 1) else F0 36 j) ∧ (va_up G 37 (vp_updL (G 37) (Int32.toNatClampNeg i) ((G 37) (Int32.toNatClampNeg (i + 1))))) 37 j = (if 40 * lN + kN ≤ j ∧ (j : Int) < (i + 1).toInt then G0 37 (j + 1) else G0 37 j) := by
        intro j
        obtain ⟨p1, p2⟩ := hP j
        obtain ⟨p3, p4⟩ := hP (Int32.toNatClampNeg i + 1)
        show upd (F 36) (Int32.toNatClampNeg i) (F 36 (Int32.toNatClampNeg (i + 1))) j = _ ∧ vp_updL (G 37) (Int32.toNatClampNeg i) (G 37 (Int32.toNatClampNeg (i + 1))) j = _
        rw [updE, updLE, ee1]
        by_cases e : j = Int32.toNatClampNeg i
        · rw [if_pos e, if_pos e, if_pos (by omega), if_pos (by omega), p3, p4, if_neg (by omega), if_neg (by omega), e]
          exact ⟨rfl, rfl⟩
        · rw [if_neg e, if_neg e, p1, p2]
          by_cases c : 40 * lN + kN ≤ j ∧ (j : Int) < i.toInt
          · rw [if_pos c, if_pos c, if_pos (by omega), if_pos (by omega)]
            exact ⟨rfl, rfl⟩
          · rw [if_neg c, if_neg c, if_neg (by omega), if_neg (by omega)]
            exact ⟨rfl, rfl⟩
      exact ih (i + 1) _ _ _ _ _ hS_2 (fx_G (fx_F hx (by decide)) (by decide)) (hR9) (hl) (h35) (hg) (hV9) (by omega) (by omega) (by omega) (hP9)

set_option maxHeartbeats 4000000 in
set_option maxRecDepth 100000 in
theorem k_X12_leavesE {l : Launch} {D : va_G} {cy : Nat → ClassId} {b : Nat} {f : gMem} {m : Nat} {a : Nat → Nat} {f0 : gMem} {n : Nat → Int32} {z : Nat → Int64} {F : Nat → Nat → Int32} {G : Nat → Nat → Int64}  {x1 x2 : Int32} {lN fo kN : Nat} {Z : Ls} (hS : mS cy m a f0 n z F G f) (hR : RI n F) (hl : 0 ≤ x1.toInt ∧ x1.toInt < (n 30).toInt) (hk0 : 0 ≤ x2.toInt ∧ x2.toInt < (F 35 (Int32.toNatClampNeg x1)).toInt) (hlN : x1.toInt = (lN : Int) ∧ lN < 40) (hkN : x2.toInt = (kN : Int) ∧ kN < Z.2.2.1.length) (hSt : RSt n F G lN fo Z) : gC l D cy b yX12_leaves cX12_leaves 4 none 0 0 0 [.ref m, .int x1, .int x2] f (pV fun f2 => ∃ (n2 : Nat → Int32) (z2 : Nat → Int64) (F2 : Nat → Nat → Int32) (G2 : Nat → Nat → Int64), mS cy m a f0 n2 z2 F2 G2 f2 ∧ fx [] [] [35, 36] [37] n z F G n2 z2 F2 G2 ∧ RI n2 F2 ∧ F2 35 = (upd (F 35) (Int32.toNatClampNeg x1) ((F 35 (Int32.toNatClampNeg x1)) - 1)) ∧ RSt n2 F2 G2 lN fo (Z.1, Z.2.1, delL Z.2.2.1 kN, Z.2.2.2) ∧ oL F G F2 G2 lN) := by
  obtain ⟨a0, a4, a5, bA, bW, a30, bL, a38, bP, a53, a47, a88⟩ := id hR
  have qL := bL (Int32.toNatClampNeg x1) (by have := clI (i := x1) (by omega); omega)
  refine gC_of (by decide) (Nat.le_of_ble_eq_true rfl) ?_
  show gG l _ _ _ D cy b cX12_leaves 4 _ RX12 "leaves" 0 0 f 0 [(0, .ref m), (1, .int x1), (2, .int x2)] []
  refine gz_aload_n dX12_leaves_0 rfl rfl ?_
  refine mg_109 hS dX12_leaves_1 ?_
  refine gz_iload_n dX12_leaves_4 rfl rfl ?_
  refine gz_dup2 dX12_leaves_5 rfl rfl ?_
  refine m_iald 35 hS rfl (N := 40) rfl ((by exact vin_T (rfl : (x1).toInt = (x1).toInt) (by omega) (by omega))) dX12_leaves_6 ?_
  refine gz_iconst (v := 1) dX12_leaves_7 (by decide) ?_
  refine gz_isub dX12_leaves_8 ?_
  refine m_iast 35 hS rfl (N := 40) rfl ((by exact vin_T (rfl : (x1).toInt = (x1).toInt) (by omega) (by omega))) dX12_leaves_9 (fun f_1 hS_1q => ?_)
  have hS_1 : mS cy m a f0 n z (va_up F 35 (upd (F 35) (Int32.toNatClampNeg x1) (((F 35) (Int32.toNatClampNeg x1)) - 1))) G f_1 := hS_1q
  refine gz_bipush (v := 40) dX12_leaves_10 (by decide) ?_
  refine gz_iload_n dX12_leaves_12 rfl rfl ?_
  refine gz_imul dX12_leaves_13 ?_
  refine gz_iload_n dX12_leaves_14 rfl rfl ?_
  refine gz_iadd dX12_leaves_15 ?_
  refine gz_istore_n (lv' := [(3, .int ((40 * x1) + x2)), (0, .ref m), (1, .int x1), (2, .int x2)]) dX12_leaves_16 rfl (by decide) rfl ?_
  have hxx : fx [] [] [35, 36] [37] n z F G n z (va_up F 35 (upd (F 35) (Int32.toNatClampNeg x1) (((F 35) (Int32.toNatClampNeg x1)) - 1))) G := (fx_F fx_rf (by decide))
  have qc := clI (i := x1) (by omega)
  have qs : ((F 35 (Int32.toNatClampNeg x1)) - 1).toInt = (F 35 (Int32.toNatClampNeg x1)).toInt - 1 := T_sub rfl (show (1 : Int32).toInt = 1 from rfl) (by omega)
  have qg : ((upd (F 35) (Int32.toNatClampNeg x1) ((F 35 (Int32.toNatClampNeg x1)) - 1)) (Int32.toNatClampNeg x1)).toInt = (F 35 (Int32.toNatClampNeg x1)).toInt - 1 := by rw [updE, if_pos rfl]; exact qs
  have qi : (40 * x1 + x2).toInt = 40 * x1.toInt + x2.toInt := T_add (T_mul (show (40 : Int32).toInt = 40 from rfl) rfl (by omega)) rfl (by omega)
  have hR9 : RI n (va_up F 35 (upd (F 35) (Int32.toNatClampNeg x1) (((F 35) (Int32.toNatClampNeg x1)) - 1))) := RI_l hR (fun k hk => hxx.2.2.1 k ((by decide : ∀ k : Nat, k ∈ wK → k ∉ ([35, 36] : List Nat)) k hk)) (fun _ _ => rfl) (rL_cnt (l0 := (Int32.toNatClampNeg x1)) (s := (F 35 (Int32.toNatClampNeg x1)) - 1) bL (fun k hk => up_out (K := [35]) (fun _ _ => rfl) (by decide) k ((by decide : ∀ k : Nat, k ∈ ([6, 7, 32, 33, 36] : List Nat) → k ∉ ([35] : List Nat)) k hk)) rfl (by omega) (by omega) (fun k hk => rL_S bL (by omega) (by omega))) a38 (rPy_cg2 bP rfl)
  have ecl : (Int32.toNatClampNeg x1) = lN := by omega
  refine gz_sub (lv' := [(3, .int (40 * x1 + x2)), (0, .ref m), (1, .int x1), (2, .int x2)]) (by simp [List.lookup]) ?_
  exact l_X12_leavesE (g35 := (upd (F 35) (Int32.toNatClampNeg x1) ((F 35 (Int32.toNatClampNeg x1)) - 1))) (lN := lN) (kN := kN) (fo := fo) (Z := Z) hlN hSt hkN.2 (by rw [ecl]) 41 _ _ _ _ _ _ hS_1 hxx hR9 hl rfl (by rw [qg]; omega) (fun j hj => vS_cg rfl rfl (rL_S bL (by omega) (by rw [qg] at hj; omega))) (by rw [qg]; omega) (by rw [qg]; omega) (by omega) (fun j => ⟨(by rw [if_neg (by omega)]; try rfl), (by rw [if_neg (by omega)]; try rfl)⟩)
