/-! the reference's WORDS -/
/-- WORD w of the reference's FORM f holds what c says -/
def LRo (F : Nat → Nat → Int32) (f : Nat) (c : Cn) (w : Nat) : Prop := (F 7 (40 * f + w)).toInt = c 0 w ∧ (F 8 (40 * f + w)).toInt = c 2 w ∧ (F 9 (40 * f + w)).toInt = c 1 w ∧ (F 10 (40 * f + w)).toInt = (if c 9 w = -1 then -1 else 40 * (f : Int) + c 9 w)
  ∧ (c 3 w ≠ -1 → (F 11 (40 * f + w)).toInt = 40 * (f : Int) + c 3 w) ∧ (c 4 w ≠ -1 → (F 12 (40 * f + w)).toInt = 40 * (f : Int) + c 4 w)
  ∧ (6 ≤ c 0 w ∧ c 0 w ≤ 9 → (F 13 (40 * f + w)).toInt = c 5 w ∧ (F 14 (40 * f + w)).toInt = c 6 w ∧ (F 15 (40 * f + w)).toInt = c 7 w) ∧ (6 ≤ c 0 w ∧ c 0 w ≤ 8 → (F 16 (40 * f + w)).toInt = c 8 w)
def LRw (F : Nat → Nat → Int32) (f : Nat) (c : Cn) (W : Nat) : Prop := ∀ w, w < W → LRo F f c w
def LR (F : Nat → Nat → Int32) (f : Nat) (c : Cn) (W V : Nat) : Prop := LRw F f c W ∧ LRv F f c V
/-- what stands open, its top first: how, which WORD -/
def skW (F : Nat → Nat → Int32) (f : Nat) : Nat → List (Nat × Nat)
  | 0 => []
  | O + 1 => ((F 26 O).toInt.toNat, ((F 25 O).toInt - 40 * (f : Int)).toNat) :: skW F f O
theorem skW_fs {F : Nat → Nat → Int32} {f : Nat} : ∀ O, fsC (skW F f O) = skF F O
  | 0 => rfl
  | O + 1 => by show (F 26 O).toInt.toNat :: fsC (skW F f O) = (F 26 O).toInt.toNat :: skF F O; rw [skW_fs O]
theorem skW_ln {F : Nat → Nat → Int32} {f : Nat} : ∀ O, (skW F f O).length = O
  | 0 => rfl
  | O + 1 => by show (skW F f O).length + 1 = O + 1; rw [skW_ln O]
theorem skW_cg {F F2 : Nat → Nat → Int32} {f : Nat} : ∀ O, (∀ ii : Nat, ii < O → F2 26 ii = F 26 ii ∧ F2 25 ii = F 25 ii) → skW F2 f O = skW F f O
  | 0, _ => rfl
  | O + 1, h => by show (_, _) :: skW F2 f O = (_, _) :: skW F f O; rw [(h O (by omega)).1, (h O (by omega)).2, skW_cg O (fun ii hi => h ii (by omega))]
/-- the head of WORD W is read: BG what is held then (V VALUES ahead, V1 behind it) -/
def hdF (F0 F : Nat → Nat → Int32) (f W K V V1 : Nat) (BG : Cn → Cn) : Prop := (∀ co, LRv F0 f co V → LRv F f (BG co) V1) ∧ (∀ co, (F 8 (40 * f + W)).toInt = BG co 2 W ∧ (6 ≤ K ∧ K ≤ 9 → (F 13 (40 * f + W)).toInt = BG co 5 W ∧ (F 14 (40 * f + W)).toInt = BG co 6 W ∧ (F 15 (40 * f + W)).toInt = BG co 7 W) ∧ (6 ≤ K ∧ K ≤ 8 → (F 16 (40 * f + W)).toInt = BG co 8 W))
/-- nothing of it is read yet: from place Q on -/
def hdS (T : Nat → Int) (F0 F : Nat → Nat → Int32) (f W K Q V : Nat) (BG : Cn → Cn) : Prop := (F 18 = F0 18 ∧ F 19 = F0 19 ∧ F 20 = F0 20) ∧ (F 8 (40 * f + W)).toInt = -1 ∧ ∃ NW : Cn → Cn, (∀ co, BG co = hdC T K Q V W (NW co)) ∧ (∀ co a i, 10 ≤ a → NW co a i = co a i) ∧ ∀ co, NW co 2 W = -1
theorem hdF_cg {F0 F F2 : Nat → Nat → Int32} {f W K V V1 : Nat} {BG : Cn → Cn} (h : hdF F0 F f W K V V1 BG) (e : ∀ r, r ∈ [8, 13, 14, 15, 16] → F2 r (40 * f + W) = F r (40 * f + W)) (e3 : F2 18 = F 18 ∧ F2 19 = F 19 ∧ F2 20 = F 20) : hdF F0 F2 f W K V V1 BG := by
  refine ⟨fun co hc => LRv_rw e3.1 e3.2.1 e3.2.2 (h.1 co hc), fun co => ?_⟩
  rw [e 8 (by decide), e 13 (by decide), e 14 (by decide), e 15 (by decide), e 16 (by decide)]
  exact h.2 co
theorem hdS_cg {T : Nat → Int} {F0 F F2 : Nat → Nat → Int32} {f W K Q V : Nat} {BG : Cn → Cn} (h : hdS T F0 F f W K Q V BG) (e : F2 8 (40 * f + W) = F 8 (40 * f + W)) (e3 : F2 18 = F 18 ∧ F2 19 = F 19 ∧ F2 20 = F 20) : hdS T F0 F2 f W K Q V BG := by
  obtain ⟨⟨h1, h2, h3⟩, h4, h5⟩ := h
  exact ⟨⟨e3.1.trans h1, e3.2.1.trans h2, e3.2.2.trans h3⟩, by rw [e]; exact h4, h5⟩
theorem hdS_no {T : Nat → Int} {F0 F : Nat → Nat → Int32} {f W K Q V : Nat} {BG : Cn → Cn} (h : hdS T F0 F f W K Q V BG) (h1 : ¬ (K = 5 ∨ K = 10)) (h2 : ¬ (6 ≤ K ∧ K ≤ 9)) : hdF F0 F f W K V V BG := by
  obtain ⟨⟨a1, a2, a3⟩, h4, NW, b1, b2, b3⟩ := h
  have e : ∀ co, BG co = NW co := fun co => by rw [b1]; unfold hdC; rw [if_neg h1, if_neg (by omega), if_neg (by omega)]
  exact ⟨fun co hc => by rw [e]; exact LRv_rw a1 a2 a3 (LRv_cg (fun a i ha => b2 co a i ha) hc), fun co => by rw [e, b3]; exact ⟨h4, fun z => absurd z h2, fun z => absurd z (by omega)⟩⟩
theorem hdS_nu {T : Nat → Int} {F0 F F2 : Nat → Nat → Int32} {f W K Q V : Nat} {BG : Cn → Cn} (h : hdS T F0 F f W K Q V BG) (hk : K = 5 ∨ K = 10) (e8 : (F2 8 (40 * f + W)).toInt = nuV T (skR T Q)) (e3 : F2 18 = F 18 ∧ F2 19 = F 19 ∧ F2 20 = F 20) : hdF F0 F2 f W K V V BG := by
  obtain ⟨⟨a1, a2, a3⟩, h4, NW, b1, b2, b3⟩ := h
  have e : ∀ co, BG co = cU (NW co) 2 W (nuV T (skR T Q)) := fun co => by rw [b1]; unfold hdC; rw [if_pos hk]
  refine ⟨fun co hc => ?_, fun co => ?_⟩
  · rw [e]
    exact LRv_rw (e3.1.trans a1) (e3.2.1.trans a2) (e3.2.2.trans a3) (LRv_cg (fun a i ha => by rw [cU_at, if_neg (by omega)]; exact b2 co a i ha) hc)
  · rw [e, cU_at, if_pos ⟨rfl, rfl⟩]
    exact ⟨e8, fun z => by omega, fun z => by omega⟩
theorem hdS_su {T : Nat → Int} {F0 F F2 : Nat → Nat → Int32} {f W K Q V q V2 : Nat} {BG : Cn → Cn} (h : hdS T F0 F f W K Q V BG) (hk : K = 9) (hs : suR T 41 Q V = .inr (q, V2)) (hl : ∀ c, LRv F f c V → LRv F2 f (suC T 41 Q V 0 c) V2) (e8 : F2 8 (40 * f + W) = F 8 (40 * f + W)) (e13 : (F2 13 (40 * f + W)).toInt = V) (e14 : (F2 14 (40 * f + W)).toInt = V2) (e15 : (F2 15 (40 * f + W)).toInt = V2) : hdF F0 F2 f W K V V2 BG := by
  obtain ⟨⟨a1, a2, a3⟩, h4, NW, b1, b2, b3⟩ := h
  have e : ∀ co, BG co = suC T 41 Q V 0 (cU (cU (cU (NW co) 5 W V) 6 W V2) 7 W V2) := fun co => by
    rw [b1]; unfold hdC; rw [if_neg (by omega), if_neg (by omega), if_pos hk, hs]
  refine ⟨fun co hc => ?_, fun co => ?_⟩
  · rw [e]
    exact hl _ (LRv_rw a1 a2 a3 (LRv_cg (fun a i ha => by rw [cU_at, if_neg (by omega), cU_at, if_neg (by omega), cU_at, if_neg (by omega)]; exact b2 co a i ha) hc))
  · rw [e, suC_w _ _ _ _ _ _ _ (by decide), suC_w _ _ _ _ _ _ _ (by decide), suC_w _ _ _ _ _ _ _ (by decide), suC_w _ _ _ _ _ _ _ (by decide), e8]
    refine ⟨?_, fun _ => ⟨?_, ?_, ?_⟩, fun z => by omega⟩
    · rw [cU_at, if_neg (by omega), cU_at, if_neg (by omega), cU_at, if_neg (by omega), b3]; exact h4
    · rw [cU_at, if_neg (by omega), cU_at, if_neg (by omega), cU_at, if_pos ⟨rfl, rfl⟩]; exact e13
    · rw [cU_at, if_neg (by omega), cU_at, if_pos ⟨rfl, rfl⟩]; exact e14
    · rw [cU_at, if_pos ⟨rfl, rfl⟩]; exact e15
theorem hdS_te {T : Nat → Int} {F0 F F2 : Nat → Nat → Int32} {f W K Q V q V3 : Nat} {BG : Cn → Cn} (h : hdS T F0 F f W K Q V BG) (hk : K = 6 ∨ K = 7 ∨ K = 8) (hs : tsR T Q V = .inr (q, V3)) (hl : ∀ c, LRv F f c V → LRv F2 f (tsC T Q V c) V3) (e8 : F2 8 (40 * f + W) = F 8 (40 * f + W)) (e13 : (F2 13 (40 * f + W)).toInt = V) (e14 : (F2 14 (40 * f + W)).toInt = tsM T Q V) (e15 : (F2 15 (40 * f + W)).toInt = V3) (e16 : (F2 16 (40 * f + W)).toInt = tsS T Q V) : hdF F0 F2 f W K V V3 BG := by
  obtain ⟨⟨a1, a2, a3⟩, h4, NW, b1, b2, b3⟩ := h
  unfold tsR at hs
  unfold tsM at e14
  unfold tsS at e16
  unfold tsC at hl
  cases h1 : suR T 41 Q V with
  | inl d => rw [h1] at hs; cases hs
  | inr r =>
    obtain ⟨q1, V2⟩ := r
    rw [h1] at hs e14 e16 hl
    dsimp only at hs e14 e16 hl
    cases h2 : reR T q1 with
    | inl d => rw [h2] at hs; cases hs
    | inr q2 =>
      rw [h2] at hs hl
      dsimp only at hs hl
      have e : ∀ co, BG co = suC T 41 q2 V2 0 (suC T 41 Q V 0 (cU (cU (cU (cU (NW co) 5 W V) 6 W V2) 8 W (reV T q1)) 7 W V3)) := fun co => by
        rw [b1]; unfold hdC; rw [if_neg (by omega), if_pos hk, h1]; dsimp only; rw [h2]; dsimp only; rw [hs]
      refine ⟨fun co hc => ?_, fun co => ?_⟩
      · rw [e]
        exact hl _ (LRv_rw a1 a2 a3 (LRv_cg (fun a i ha => by rw [cU_at, if_neg (by omega), cU_at, if_neg (by omega), cU_at, if_neg (by omega), cU_at, if_neg (by omega)]; exact b2 co a i ha) hc))
      · have w9 : ∀ a, a ≤ 9 → BG co a W = (cU (cU (cU (cU (NW co) 5 W V) 6 W V2) 8 W (reV T q1)) 7 W V3) a W := fun a ha => by rw [e, suC_w _ _ _ _ _ _ _ ha, suC_w _ _ _ _ _ _ _ ha]
        rw [w9 2 (by omega), w9 5 (by omega), w9 6 (by omega), w9 7 (by omega), w9 8 (by omega), e8]
        refine ⟨?_, fun _ => ⟨?_, ?_, ?_⟩, fun _ => ?_⟩
        · rw [cU_at, if_neg (by omega), cU_at, if_neg (by omega), cU_at, if_neg (by omega), cU_at, if_neg (by omega), b3]; exact h4
        · rw [cU_at, if_neg (by omega), cU_at, if_neg (by omega), cU_at, if_neg (by omega), cU_at, if_pos ⟨rfl, rfl⟩]; exact e13
        · rw [cU_at, if_neg (by omega), cU_at, if_neg (by omega), cU_at, if_pos ⟨rfl, rfl⟩]; exact e14
        · rw [cU_at, if_pos ⟨rfl, rfl⟩]; exact e15
        · rw [cU_at, if_neg (by omega), cU_at, if_pos ⟨rfl, rfl⟩]; exact e16
theorem nwC_v {kd dp par : Int} {W : Nat} {sec : Bool} {c : Cn} {a i : Nat} (h : 10 ≤ a) : nwC kd W par sec dp c a i = c a i := by
  unfold nwC
  rw [if_neg (by omega), if_neg (fun z => by have y := z.2; cases sec <;> simp at y <;> omega)]
theorem RD_st {F : Nat → Nat → Int32} {f W O : Nat} (h : RDp F f W O true) : (O = 0 ∧ W = 0) ∨ ∃ i0 p : Nat, O = i0 + 1 ∧ p < W ∧ (F 25 i0).toInt = 40 * (f : Int) + p ∧ 0 ≤ (F 26 i0).toInt := by
  rcases Nat.eq_zero_or_pos O with z | z
  · exact Or.inl ⟨z, h.2.2 rfl z⟩
  · obtain ⟨i0, hi0⟩ : ∃ i0, O = i0 + 1 := ⟨O - 1, by omega⟩
    obtain ⟨p, c1, c2, c3, c4, c5, c6, -⟩ := h.2.1 i0 (by omega)
    exact Or.inr ⟨i0, p, hi0, c1, c2, c6.1⟩
/-- WORD W has begun: the rows hold it, and those ahead of it as before -/
theorem LRw_begin {F0 F : Nat → Nat → Int32} {f W O K V V1 : Nat} {T : Nat → Int} {co : Cn} {BG : Cn → Cn} (b : RDb F0 F f W O) (hst : (O = 0 ∧ W = 0) ∨ ∃ i0 p : Nat, O = i0 + 1 ∧ p < W ∧ (F0 25 i0).toInt = 40 * (f : Int) + p ∧ 0 ≤ (F0 26 i0).toInt) (h7 : (F 7 (40 * f + W)).toInt = K) (h8 : ∀ i, i ≠ 40 * f + W → F 8 i = F0 8 i) (h16 : ∀ i, i ≠ 40 * f + W → F 16 i = F0 16 i)
    (hBG : ∃ q9, ∀ co, BG co = hdC T K q9 V W (nwC K W (upC (skW F0 f O)).1 (upC (skW F0 f O)).2 O co)) (hF : hdF F0 F f W K V V1 BG) (hL : LR F0 f co W V) : LR F f (BG co) (W + 1) V1 := by
  refine ⟨?_, hF.1 co hL.2⟩
  obtain ⟨q9, e⟩ := hBG
  obtain ⟨b1, b2, b3, b4, b5, b6, b7⟩ := b
  have hx := hF.2 co
  rw [e] at hx ⊢
  have par : (O = 0 ∧ W = 0 ∧ upC (skW F0 f O) = (-1, false)) ∨ ∃ i0 p : Nat, O = i0 + 1 ∧ p < W ∧ (F0 25 i0).toInt = 40 * (f : Int) + p ∧ upC (skW F0 f O) = ((p : Int), asB F0 i0) := by
    rcases hst with ⟨z1, z2⟩ | ⟨i0, p, z1, z2, z3, z4⟩
    · left; rw [z1]; exact ⟨rfl, z2, rfl⟩
    · right
      refine ⟨i0, p, z1, z2, z3, ?_⟩
      rw [z1]
      show (((((F0 25 i0).toInt - 40 * (f : Int)).toNat : Nat) : Int), decide ((F0 26 i0).toInt.toNat = 2)) = _
      rw [show (F0 25 i0).toInt - 40 * (f : Int) = p by omega]
      unfold asB
      have e2 : decide ((F0 26 i0).toInt.toNat = 2) = decide ((F0 26 i0).toInt = 2) := decide_eq_decide.mpr ⟨fun y => by omega, fun y => by omega⟩
      rw [e2]
      rfl
  intro w hw
  by_cases ew : w = W
  · rw [ew]
    have n : ∀ a, a = 0 ∨ a = 1 ∨ a = 3 ∨ a = 4 ∨ a = 9 → hdC T K q9 V W (nwC K W (upC (skW F0 f O)).1 (upC (skW F0 f O)).2 O co) a W = (if a = 0 then (K : Int) else if a = 1 then (O : Int) else if a = 9 then (upC (skW F0 f O)).1 else -1) := fun a ha => by
      rw [hdC_w (by omega)]; unfold nwC; rw [if_pos ⟨rfl, by omega⟩]
    have n0 := n 0 (by omega)
    have n1 := n 1 (by omega)
    have n3 := n 3 (by omega)
    have n4 := n 4 (by omega)
    have n9 := n 9 (by omega)
    rw [if_pos rfl] at n0
    rw [if_neg (by omega), if_pos rfl] at n1
    rw [if_neg (by omega), if_neg (by omega), if_neg (by omega)] at n3 n4
    rw [if_neg (by omega), if_neg (by omega), if_pos rfl] at n9
    refine ⟨by rw [n0]; exact h7, hx.1, by rw [n1]; exact b6, ?_, fun z => absurd n3 z, fun z => absurd n4 z, fun z => hx.2.1 (by rw [n0] at z; omega), fun z => hx.2.2 (by rw [n0] at z; omega)⟩
    rw [n9]
    rcases par with ⟨z1, z2, z3⟩ | ⟨i0, p, z1, z2, z3, z4⟩
    · rw [z3, if_pos rfl]; exact b5 z1
    · rw [z4, if_neg (by show ¬ (p : Int) = -1; omega)]; exact (b4 i0 p z1 z2 z3).2.2
  · have hLw := hL.1 w (by omega)
    obtain ⟨l1, l2, l3, l4, l5, l6, l7, l8⟩ := hLw
    have hwW : w < W := by omega
    rcases par with ⟨z1, z2, z3⟩ | ⟨i0, p, z1, z2, z3, z4⟩
    · omega
    · obtain ⟨o1, o2, o3⟩ := b4 i0 p z1 z2 z3
      have n : ∀ a, a ≤ 9 → hdC T K q9 V W (nwC K W (upC (skW F0 f O)).1 (upC (skW F0 f O)).2 O co) a w = (if w = p ∧ a = (if asB F0 i0 then 4 else 3) then (W : Int) else co a w) := fun a ha => by
        rw [hdC_w (by omega)]; unfold nwC; rw [if_neg (fun y => ew y.1), z4]
        by_cases y : w = p ∧ a = (if asB F0 i0 then 4 else 3)
        · rw [if_pos y, if_pos ⟨by show (w : Int) = (p : Int); omega, y.2⟩]
        · rw [if_neg y, if_neg (fun u => y ⟨by have v : (w : Int) = (p : Int) := u.1; omega, u.2⟩)]
      have sl : (if asB F0 i0 then 4 else 3) = 3 ∨ (if asB F0 i0 then 4 else 3) = 4 := by cases asB F0 i0 <;> simp
      have m : ∀ a, a ≤ 9 → a ≠ 3 → a ≠ 4 → hdC T K q9 V W (nwC K W (upC (skW F0 f O)).1 (upC (skW F0 f O)).2 O co) a w = co a w := fun a h1 h2 h3 => by rw [n a h1, if_neg (fun y => by omega)]
      refine ⟨?_, ?_, ?_, ?_, fun z => ?_, fun z => ?_, ?_, ?_⟩
      · rw [m 0 (by omega) (by omega) (by omega), b3 7 (by decide) w hwW]; exact l1
      · rw [m 2 (by omega) (by omega) (by omega), h8 _ (by omega)]; exact l2
      · rw [m 1 (by omega) (by omega) (by omega), b3 9 (by decide) w hwW]; exact l3
      · rw [m 9 (by omega) (by omega) (by omega), b3 10 (by decide) w hwW]; exact l4
      · have o := o1 w hwW
        rw [n 3 (by omega)] at z ⊢
        cases hb : asB F0 i0 with
        | false =>
          rw [hb] at o z
          by_cases y : w = p
          · rw [if_pos ⟨y, rfl⟩] at o; rw [if_pos ⟨y, by decide⟩]; exact o
          · rw [if_neg (fun u => y u.1)] at o z; rw [if_neg (fun u => y u.1), o]; exact l5 z
        | true =>
          rw [hb] at o z
          rw [if_neg (fun u => absurd u.2 (by decide))] at o z
          rw [if_neg (fun u => absurd u.2 (by decide)), o]; exact l5 z
      · have o := o2 w hwW
        rw [n 4 (by omega)] at z ⊢
        cases hb : asB F0 i0 with
        | true =>
          rw [hb] at o z
          by_cases y : w = p
          · rw [if_pos ⟨y, rfl⟩] at o; rw [if_pos ⟨y, by decide⟩]; exact o
          · rw [if_neg (fun u => y u.1)] at o z; rw [if_neg (fun u => y u.1), o]; exact l6 z
        | false =>
          rw [hb] at o z
          rw [if_neg (fun u => absurd u.2 (by decide))] at o z
          rw [if_neg (fun u => absurd u.2 (by decide)), o]; exact l6 z
      · rw [m 0 (by omega) (by omega) (by omega), m 5 (by omega) (by omega) (by omega), m 6 (by omega) (by omega) (by omega), m 7 (by omega) (by omega) (by omega), b3 13 (by decide) w hwW, b3 14 (by decide) w hwW, b3 15 (by decide) w hwW]; exact l7
      · rw [m 0 (by omega) (by omega) (by omega), m 8 (by omega) (by omega) (by omega), h16 _ (by omega)]; exact l8