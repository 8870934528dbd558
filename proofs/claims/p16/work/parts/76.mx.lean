set_option maxHeartbeats 4000000 in
set_option maxRecDepth 100000 in
theorem k_X12_laysT {l : Launch} {D : va_G} {cy : Nat → ClassId} {b : Nat} {f : gMem} {m : Nat} {a : Nat → Nat} {f0 : gMem} {n : Nat → Int32} {z : Nat → Int64} {F : Nat → Nat → Int32} {G : Nat → Nat → Int64}  {x1 x2 x3 : Int32} (hS : mS cy m a f0 n z F G f) (h83 : 0 ≤ (n 83).toInt ∧ (n 83).toInt < 120) : gC l D cy b yX12_lays cX12_lays 4 none 0 0 0 [.ref m, .int x1, .int x2, .int x3] f (pV fun f2 => ∃ (n2 : Nat → Int32) (z2 : Nat → Int64) (F2 : Nat → Nat → Int32) (G2 : Nat → Nat → Int64), mS cy m a f0 n2 z2 F2 G2 f2 ∧ fx [83] [] [84, 85, 86] [] n z F G n2 z2 F2 G2 ∧ n2 83 = n 83 + 1 ∧ F2 84 = upd (F 84) (Int32.toNatClampNeg (n 83)) x1 ∧ F2 85 = upd (F 85) (Int32.toNatClampNeg (n 83)) x2 ∧ F2 86 = upd (F 86) (Int32.toNatClampNeg (n 83)) (vp_nar .boolean x3)) := by
  refine gC_of (by decide) (Nat.le_of_ble_eq_true rfl) ?_
  show gG l _ _ _ D cy b cX12_lays 4 _ RX12 "lays" 0 0 f 0 [(0, .ref m), (1, .int x1), (2, .int x2), (3, .int x3)] []
  refine gz_aload_n dX12_lays_0 rfl rfl ?_
  refine mg_231 hS dX12_lays_1 ?_
  refine gz_aload_n dX12_lays_4 rfl rfl ?_
  refine mg_524 hS dX12_lays_5 ?_
  refine gz_iload_n dX12_lays_8 rfl rfl ?_
  refine m_iast 84 hS rfl (N := 120) rfl ((by exact vin_T (rfl : ((n 83)).toInt = ((n 83)).toInt) (by omega) (by omega))) dX12_lays_9 (fun f_1 hS_1q => ?_)
  have hS_1 : mS cy m a f0 n z (va_up F 84 (upd (F 84) (Int32.toNatClampNeg (n 83)) x1)) G f_1 := hS_1q
  refine gz_aload_n dX12_lays_10 rfl rfl ?_
  refine mg_234 hS_1 dX12_lays_11 ?_
  refine gz_aload_n dX12_lays_14 rfl rfl ?_
  refine mg_524 hS_1 dX12_lays_15 ?_
  refine gz_ev (w := .int (n 83)) rfl ?_
  refine gz_iload_n dX12_lays_18 rfl rfl ?_
  refine m_iast 85 hS_1 rfl (N := 120) rfl ((by exact vin_T (rfl : ((n 83)).toInt = ((n 83)).toInt) (by omega) (by omega))) dX12_lays_19 (fun f_2 hS_2q => ?_)
  have hS_2 : mS cy m a f0 n z (va_up (va_up F 84 (upd (F 84) (Int32.toNatClampNeg (n 83)) x1)) 85 (upd (F 85) (Int32.toNatClampNeg (n 83)) x2)) G f_2 := hS_2q
  refine gz_aload_n dX12_lays_20 rfl rfl ?_
  refine mg_237 hS_2 dX12_lays_21 ?_
  refine gz_aload_n dX12_lays_24 rfl rfl ?_
  refine mg_524 hS_2 dX12_lays_25 ?_
  refine gz_ev (w := .int (n 83)) rfl ?_
  refine gz_iload_n dX12_lays_28 rfl rfl ?_
  refine m_zast 86 hS_2 rfl (N := 120) rfl ((by exact vin_T (rfl : ((n 83)).toInt = ((n 83)).toInt) (by omega) (by omega))) dX12_lays_29 (fun f_3 hS_3q => ?_)
  have hS_3 : mS cy m a f0 n z (va_up (va_up (va_up F 84 (upd (F 84) (Int32.toNatClampNeg (n 83)) x1)) 85 (upd (F 85) (Int32.toNatClampNeg (n 83)) x2)) 86 (upd (F 86) (Int32.toNatClampNeg (n 83)) (vp_nar .boolean x3))) G f_3 := hS_3q
  refine gz_aload_n dX12_lays_30 rfl rfl ?_
  refine gz_dup dX12_lays_31 rfl ?_
  refine mg_524 hS_3 dX12_lays_32 ?_
  refine gz_ev (w := .int (n 83)) rfl ?_
  refine gz_iconst (v := 1) dX12_lays_35 (by decide) ?_
  refine gz_iadd dX12_lays_36 ?_
  refine mp_524 hS_3 dX12_lays_37 (fun f_4 hS_4 => ?_)
  exact gz_vret rfl dX12_lays_40 (Nat.le_of_ble_eq_true rfl) (Nat.le_of_ble_eq_true rfl) (⟨rfl, _, _, _, _, hS_4, (fx_n (fx_F (fx_F (fx_F fx_rf (by decide)) (by decide)) (by decide)) (by decide)), rfl, rfl, rfl, rfl⟩)

/-! nodes of a FORM that stays -/
theorem uN_lt {F : Nat → Nat → Int32} {f W bn k : Nat} {v : Int} (hk : k < W) (q : uN F f W bn k v) : v = bn + 40 ∨ ∃ j : Nat, v = bn + j ∧ j < W := by
  have g := (eN_gt (F := F) (f := f) hk).2
  rcases q with e | ⟨j, e, h1, h2⟩
  · exact Or.inl e
  · exact Or.inr ⟨j, e, by omega⟩
theorem rN_lt {F : Nat → Nat → Int32} {f W bn k : Nat} {v : Int} (hk : k < W) (q : rN F f W bn k v) : v = bn + 40 ∨ ∃ j : Nat, v = bn + j ∧ j < W := by
  have g := (eN_gt (F := F) (f := f) hk).2
  rcases q with e | ⟨j, e, h1, h2⟩
  · exact Or.inl e
  · exact Or.inr ⟨j, e, by omega⟩
theorem szN_ag {F F2 : Nat → Nat → Int32} {f W bn : Nat} {v : Int} (h : agF F F2 f) (hW : W ≤ 40) (hv : v = bn + 40 ∨ ∃ j : Nat, v = bn + j ∧ j < W) : szN F2 f W bn v = szN F f W bn v ∧ vsN F2 f W bn v = vsN F f W bn v := by
  rcases hv with e | ⟨j, e, hj⟩
  · subst e
    exact ⟨szN_0.1.trans szN_0.1.symm, szN_0.2.trans szN_0.2.symm⟩
  · subst e
    have g := (eN_gt (F := F) (f := f) hj).2
    have e1 := eN_ag h hW hj
    have e2 := vsF_ag h (eN F f W j - j) j (by omega)
    refine ⟨(szN_j (by omega)).trans (Eq.trans ?_ (szN_j (by omega)).symm), (vsN_j (by omega)).trans (Eq.trans ?_ (vsN_j (by omega)).symm)⟩
    · rw [e1]
    · rw [e1, e2]
theorem uN_ag {F F2 : Nat → Nat → Int32} {f W bn k : Nat} {v : Int} (h : agF F F2 f) (hW : W ≤ 40) (hk : k < W) (q : uN F f W bn k v) : uN F2 f W bn k v := by
  unfold uN at *; rw [eN_ag h hW hk]; exact q
theorem rN_ag {F F2 : Nat → Nat → Int32} {f W bn k : Nat} {v : Int} (h : agF F F2 f) (hW : W ≤ 40) (hk : k < W) (q : rN F f W bn k v) : rN F2 f W bn k v := by
  unfold rN at *; rw [eN_ag h hW hk]; exact q
theorem nOK_ag {F F2 : Nat → Nat → Int32} {f W bn k : Nat} (h : agF F F2 f) (hW : W ≤ 40) (hk : k < W) (h76 : F2 76 = F 76) (h78 : F2 78 = F 78) (h79 : F2 79 = F 79) (h80 : F2 80 = F 80) (q : nOK F f W bn k) : nOK F2 f W bn k := by
  obtain ⟨q1, q2, q3, q4, q5⟩ := q
  have g := (eN_gt (F := F) (f := f) hk).2
  have e7 := h.2 7 (by decide) k (by omega)
  have v1 := szN_ag h hW (uN_lt hk q3)
  have ev := vsF_ag h (eN F f W k - k) k (by omega)
  have eo : owK F2 f k = owK F f k := by unfold owK; rw [h.2 13 (by decide) k (by omega), h.2 15 (by decide) k (by omega)]
  unfold nOK
  rw [h76, h78, h79, h80, e7, eN_ag h hW hk, ev, eo, v1.1, v1.2]
  refine ⟨q1, q2, uN_ag h hW hk q3, q4, fun z => ?_⟩
  obtain ⟨a, b⟩ := q5 z
  have v2 := szN_ag h hW (uN_lt hk a)
  rw [v2.1, v2.2]; exact ⟨uN_ag h hW hk a, b⟩
theorem SHp_ag {F F2 : Nat → Nat → Int32} {f W bn : Nat} {kk : Int} (h : agF F F2 f) (hW : W ≤ 40) (hr : ∀ r, r ∈ [76, 78, 79, 80, 82] → F2 r = F r) (q : SHp F f W bn kk) : SHp F2 f W bn kk := by
  refine ⟨by rw [hr 76 (by decide)]; exact q.1, fun j h1 h2 => ?_⟩
  obtain ⟨a, b⟩ := q.2 j h1 h2
  refine ⟨nOK_ag h hW h2 (hr 76 (by decide)) (hr 78 (by decide)) (hr 79 (by decide)) (hr 80 (by decide)) a, ?_⟩
  rw [hr 82 (by decide)]; exact rN_ag h hW h2 b
/-- a sum over the tasks -/
def smK (g : Nat → Nat) : Nat → Nat
  | 0 => 0
  | T + 1 => smK g T + g T
theorem smK_cg {g g2 : Nat → Nat} : ∀ T, (∀ i, i < T → g2 i = g i) → smK g2 T = smK g T := by
  intro T
  induction T with
  | zero => intro _; rfl
  | succ T ih => intro h; unfold smK; rw [ih (fun i hi => h i (by omega)), h T (by omega)]
theorem smK_le {g : Nat → Nat} : ∀ T, (∀ i, i < T → 1 ≤ g i) → T ≤ smK g T := by
  intro T
  induction T with
  | zero => intro _; exact Nat.zero_le _
  | succ T ih => intro h; unfold smK; have := ih (fun i hi => h i (by omega)); have := h T (by omega); omega
/-- what the tasks still owe: WORD k's first DEED (false), its second (true) -/
def twB (F : Nat → Nat → Int32) (i : Nat) : Bool := decide ((F 86 i).toInt ≠ 0)
def pdT (F : Nat → Nat → Int32) (f T k : Nat) (b : Bool) : Prop := ∃ i, i < T ∧ (F 85 i).toInt = 40 * f + k ∧ twB F i = b
/-- a node of the FORM fo that may be laid with a standing around it -/
def ndA (F : Nat → Nat → Int32) (fo Wn : Nat) (v a : Int) : Prop := a ≤ 11 ∧ (v = 40 ∨ ∃ j : Nat, v = j ∧ j < Wn ∧ a ≤ arF F fo j)
def prK (F : Nat → Nat → Int32) (f k : Nat) : Prop := 3 ≤ (F 7 (40 * f + k)).toInt ∧ (F 7 (40 * f + k)).toInt ≤ 5
def tkOK (F : Nat → Nat → Int32) (f fo Wn W T i : Nat) : Prop := ∃ p : Nat, p < W ∧ (F 85 i).toInt = 40 * f + p ∧ 2 ≤ (F 7 (40 * f + p)).toInt ∧ inn F f p W
  ∧ (twB F i = true → prK F f p ∧ ((∃ t, oneA F f W p t) ∨ ∃ j, i < j ∧ j < T ∧ (F 85 j).toInt = 40 * f + p ∧ twB F j = false))
  ∧ (twB F i = false → prK F f p → ∃ j, j < i ∧ (F 85 j).toInt = 40 * f + p ∧ twB F j = true)
  ∧ ndA F fo Wn (F 84 i).toInt (arF F f p + 1)
  ∧ ∀ j q : Nat, j ≤ i → (F 85 j).toInt = 40 * f + q → arF F f q ≤ arF F f p
/-- the top task's WORD is laid: the others' DEEDS are there or pending as before -/
theorem lay_wP {F F2 : Nat → Nat → Int32} {pd2 : Nat → Bool → Prop} {f fo Wn W T p : Nat} (hT : tkOK F f fo Wn W (T + 1) T) (hp : p < W) (ep : (F 85 T).toInt = 40 * f + p)
    (h : ∀ j, j < W → arF F2 f j = arF F f j) (hw : arF F2 f W = arF F2 f p + 1)
    (ho : ∀ r, r ∈ [7, 10, 13, 14, 15] → ∀ k, k < W → F2 r (40 * f + k) = F r (40 * f + k))
    (h11 : ∀ k, k < W → if k = p ∧ twB F T = false then (F2 11 (40 * f + k)).toInt = 40 * f + W else F2 11 (40 * f + k) = F 11 (40 * f + k))
    (h12 : ∀ k, k < W → if k = p ∧ twB F T = true then (F2 12 (40 * f + k)).toInt = 40 * f + W else F2 12 (40 * f + k) = F 12 (40 * f + k))
    (hpd : ∀ k c, pdT F f T k c → pd2 k c) (q : ∀ k, k < W → wP F (pdT F f (T + 1)) f W k) : ∀ k, k < W → wP F2 pd2 f (W + 1) k := by
  intro k hk
  obtain ⟨p', c1, c2, c3, c4, c5, c6, c7, c8⟩ := hT
  have e : p' = p := by omega
  subst e
  refine wP_up (p := p') (b := twB F T) hk h c1 hw c4 (fun r hr => ho r hr k hk) ?_ ?_ ?_ ?_ ?_ ?_ ?_ ?_ (q k hk)
  · have z := h11 k hk
    split at z
    · rename_i y; exact Or.inr ⟨y.1, y.2, z⟩
    · exact Or.inl z
  · have z := h12 k hk
    split at z
    · rename_i y; exact Or.inr ⟨y.1, y.2, z⟩
    · exact Or.inl z
  · intro y1 y2
    have z := h11 k hk
    rw [if_pos ⟨y1, y2⟩] at z; exact z
  · intro y1 y2
    have z := h12 k hk
    rw [if_pos ⟨y1, y2⟩] at z; exact z
  · intro y
    have z := h11 k hk
    rw [if_neg (fun x => by rw [y] at x; exact absurd x.2 (by decide))] at z; exact z
  · intro y
    rcases (c5 y).2 with z | ⟨j, z1, z2, _, _⟩
    · exact z
    · omega
  · intro y1 y2
    by_cases z : prK F f p'
    · obtain ⟨j, j1, j2, j3⟩ := c6 y2 z
      subst y1
      exact Or.inl ⟨j, by omega, j2, j3⟩
    · subst y1
      exact Or.inr z
  · intro k c y
    obtain ⟨i, i1, i2, i3⟩ := y
    by_cases z : i = T
    · subst z
      exact Or.inr ⟨by omega, i3.symm⟩
    · exact Or.inl (hpd k c ⟨i, by omega, i2, i3⟩)