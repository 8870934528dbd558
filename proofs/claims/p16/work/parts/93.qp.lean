/-! laid by tasks -/
theorem vdM_lo {F F2 : Nat → Nat → Int32} {B : Nat} (h : ∀ r, r ∈ [18, 19, 20] → ∀ i, i < B → F2 r i = F r i) : ∀ {L : List Vl} {V : Nat}, V + L.length ≤ B → vdM F V L → vdM F2 V L := by
  intro L
  induction L with
  | nil => intro V _ _; trivial
  | cons x L ih =>
    intro V hV k
    rw [List.length_cons] at hV
    exact ⟨by rw [h 18 (by decide) _ (by omega)]; exact k.1, by rw [h 19 (by decide) _ (by omega)]; exact k.2.1, by rw [h 20 (by decide) _ (by omega)]; exact k.2.2.1, ih (by omega) k.2.2.2⟩
theorem hdM_lo {F F2 : Nat → Nat → Int32} {w f : Nat} {x : Hd} (h : ∀ r, r ∈ [7, 8, 13, 14, 15, 16, 18, 19, 20] → ∀ i, i < 40 * f → F2 r i = F r i) (hw : w < 40 * f) (k : hdM F w x) : hdM F2 w x := by
  obtain ⟨k7, k8, k16, V, k13, k14, k15, k40, kv⟩ := k
  refine ⟨by rw [h 7 (by decide) _ hw]; exact k7, by rw [h 8 (by decide) _ hw]; exact k8, fun z => by rw [h 16 (by decide) _ hw]; exact k16 z, V, by rw [h 13 (by decide) _ hw]; exact k13, by rw [h 14 (by decide) _ hw]; exact k14, by rw [h 15 (by decide) _ hw]; exact k15, k40, vdM_lo (B := 40 * f) (fun r hr i hi => h r ?_ i hi) ?_ kv⟩
  · simp only [List.mem_cons, List.not_mem_nil, or_false] at hr ⊢
    omega
  · rw [vsH_ln]
    omega
theorem nD_lo {F F2 : Nat → Nat → Int32} {fo f x : Nat} {h : Hd} (hl : ∀ r, r ∈ [7, 8, 13, 14, 15, 16, 18, 19, 20] → ∀ i, i < 40 * f → F2 r i = F r i) (hf : fo < f) (e76 : F2 76 x = F 76 x) (e77 : F2 77 x = F 77 x) (e80 : F2 80 x = F 80 x) (k : nD F fo x h) : nD F2 fo x h := by
  obtain ⟨k1, k2, k3, kk, y, l, k4, k5, k6⟩ := k
  exact ⟨k1, by rw [e76]; exact k2, by rw [e77]; exact k3, kk, y, l, by rw [e80]; exact k4, hdM_lo hl (by omega) k5, k6⟩
theorem shE_lo {F F2 : Nat → Nat → Int32} {fo f bn p : Nat} {T : List Hd} {H : Nat → Hd} {fi se : Nat → Nat} (hl : ∀ r, r ∈ [7, 8, 13, 14, 15, 16, 18, 19, 20] → ∀ i, i < 40 * f → F2 r i = F r i) (hf : fo < f) (hn : ∀ r, r ∈ [76, 77, 78, 79, 80, 81, 82] → F2 r = F r) (q : shE F fo bn T H fi se p) : shE F2 fo bn T H fi se p := by
  have e76 := hn 76 (by decide)
  have e77 := hn 77 (by decide)
  have e78 := hn 78 (by decide)
  have e79 := hn 79 (by decide)
  have e80 := hn 80 (by decide)
  have e81 := hn 81 (by decide)
  have e82 := hn 82 (by decide)
  have fx : ∀ x, fxN F2 x ↔ fxN F x := fun x => by unfold fxN; rw [e82]
  have gn : ∀ j y, gnN F bn T.length j y → gnN F2 bn T.length j y := fun j y hy => by
    rcases hy with z | ⟨z1, z2, z3⟩
    · exact Or.inl z
    · exact Or.inr ⟨z1, z2, (fx y).mpr z3⟩
  have dn : ∀ x, dnN F2 bn T.length p x → dnN F bn T.length p x := fun x hx => by
    rcases hx with z | ⟨z1, z2, z3⟩
    · exact Or.inl z
    · exact Or.inr ⟨z1, z2, (fx x).mp z3⟩
  obtain ⟨q0, qA, qB, qC, qD, qE⟩ := q
  refine ⟨by rw [e76, e77, e81, e82]; exact q0, fun j h1 h2 => ?_, fun j h1 h2 h3 => ?_, fun x y hx hy => ?_, fun x hx => ?_, qE⟩
  · obtain ⟨R, r1, r2, r3⟩ := qA j h1 h2
    refine ⟨R, by rw [e82]; exact r1, ?_, r3⟩
    rcases r2 with z | ⟨z1, z2, z3⟩
    · exact Or.inl z
    · exact Or.inr ⟨z1, z2, (fx R).mpr z3⟩
  · obtain ⟨b1, b2, b3, b4⟩ := qB j h1 h2 ((fx _).mp h3)
    refine ⟨nD_lo hl hf (by rw [e76]) (by rw [e77]) (by rw [e80]) b1, fun z => ?_, fun z => ?_, b4⟩
    · obtain ⟨c1, c2, c3⟩ := b2 z
      exact ⟨by rw [e78]; exact c1, gn j _ c2, c3⟩
    · obtain ⟨c1, c2⟩ := b3 z
      exact ⟨by rw [e79]; exact c1, gn j _ c2⟩
  · rw [e81]
    exact qC x y (dn x hx) (dn y hy)
  · rw [e81]
    exact qD x (dn x hx)
/-- the WORDS behind one WORD more -/
theorem LRw_pt {Fs F : Nat → Nat → Int32} {f W V d : Nat} {par : Int} {s : Bool} {h : Hd} {CC : Cn} (hp : par < W) (hL : LRw Fs f CC W) (same : ∀ r, r ∈ [7, 8, 9, 10, 13, 14, 15, 16] → ∀ k, k < W → F r (40 * f + k) = Fs r (40 * f + k))
    (e11 : ∀ k : Nat, k < W → if (k : Int) = par ∧ s = false then (F 11 (40 * f + k)).toInt = 40 * (f : Int) + W else F 11 (40 * f + k) = Fs 11 (40 * f + k)) (e12 : ∀ k : Nat, k < W → if (k : Int) = par ∧ s = true then (F 12 (40 * f + k)).toInt = 40 * (f : Int) + W else F 12 (40 * f + k) = Fs 12 (40 * f + k))
    (e7 : (F 7 (40 * f + W)).toInt = h.1) (e8 : (F 8 (40 * f + W)).toInt = h.2.1) (e9 : (F 9 (40 * f + W)).toInt = d) (e10 : (F 10 (40 * f + W)).toInt = (if par = -1 then -1 else 40 * (f : Int) + par))
    (e13 : 6 ≤ h.1 ∧ h.1 ≤ 9 → (F 13 (40 * f + W)).toInt = (V : Int) ∧ (F 14 (40 * f + W)).toInt = (V : Int) + (h.2.2.2.1.length : Int) ∧ (F 15 (40 * f + W)).toInt = (V : Int) + (nvH h : Int)) (e16 : 6 ≤ h.1 ∧ h.1 ≤ 8 → (F 16 (40 * f + W)).toInt = h.2.2.1) : LRw F f (ptH h W V par s d CC) (W + 1) := by
  obtain ⟨⟨o0, o2, o5, o6, o7, o8, _⟩, o3, o4, o1, o9⟩ := ptH_o (h := h) (V := V) (s := s) (d := d) (c := CC) hp
  intro k hk
  by_cases e : k = W
  · subst e
    refine ⟨by rw [o0]; exact e7, by rw [o2]; exact e8, by rw [o1]; exact e9, by rw [o9]; exact e10, fun z => absurd o3 z, fun z => absurd o4 z, fun z => ?_, fun z => ?_⟩
    · rw [o0] at z
      obtain ⟨a, b, c⟩ := e13 z
      rw [o5, o6, o7, if_pos z, if_pos z, if_pos z]
      exact ⟨a, b, c⟩
    · rw [o0] at z
      rw [o8]
      exact e16 z
  · have hkW : k < W := by omega
    obtain ⟨l7, l8, l9, l10, l11, l12, l13, l16⟩ := hL k hkW
    have hls := @lkS_le s
    have fr : ∀ a, a ≤ 9 → a ≠ 3 → a ≠ 4 → ptH h W V par s d CC a k = CC a k := fun a ha h3 h4 => ptH_fr ha e (fun z => by omega)
    have q11 := e11 k hkW
    have q12 := e12 k hkW
    unfold LRo
    rw [fr 0 (by decide) (by decide) (by decide), fr 1 (by decide) (by decide) (by decide), fr 2 (by decide) (by decide) (by decide), fr 5 (by decide) (by decide) (by decide), fr 6 (by decide) (by decide) (by decide), fr 7 (by decide) (by decide) (by decide), fr 8 (by decide) (by decide) (by decide), fr 9 (by decide) (by decide) (by decide)]
    rw [same 7 (by decide) k hkW, same 8 (by decide) k hkW, same 9 (by decide) k hkW, same 10 (by decide) k hkW, same 13 (by decide) k hkW, same 14 (by decide) k hkW, same 15 (by decide) k hkW, same 16 (by decide) k hkW]
    refine ⟨l7, l8, l9, l10, fun z => ?_, fun z => ?_, l13, l16⟩
    · by_cases c : (k : Int) = par ∧ s = false
      · rw [if_pos c] at q11
        have e3 : ptH h W V par s d CC 3 k = W := by
          have q := ptH_lk (h := h) (V := V) (p := k) (s := s) (d := d) (c := CC) hkW
          rw [c.2, c.1] at q
          rw [c.2]
          exact q
        rw [e3]; exact q11
      · rw [if_neg c] at q11
        have e3 : ptH h W V par s d CC 3 k = CC 3 k := ptH_fr (by decide) e (fun y => c ⟨y.1, by cases s with | false => rfl | true => exact absurd y.2 (by decide)⟩)
        rw [e3] at z ⊢
        rw [q11]; exact l11 z
    · by_cases c : (k : Int) = par ∧ s = true
      · rw [if_pos c] at q12
        have e3 : ptH h W V par s d CC 4 k = W := by
          have q := ptH_lk (h := h) (V := V) (p := k) (s := s) (d := d) (c := CC) hkW
          rw [c.2, c.1] at q
          rw [c.2]
          exact q
        rw [e3]; exact q12
      · rw [if_neg c] at q12
        have e3 : ptH h W V par s d CC 4 k = CC 4 k := ptH_fr (by decide) e (fun y => c ⟨y.1, by cases s with | true => rfl | false => exact absurd y.2 (by decide)⟩)
        rw [e3] at z ⊢
        rw [q12]; exact l12 z
/-- the tasks: where a DEED is wanted, which -/
def upS (F : Nat → Nat → Int32) (f i : Nat) : Int := if (F 85 i).toInt = -1 then -1 else (F 85 i).toInt - 40 * (f : Int)
def dpS (F : Nat → Nat → Int32) (f i : Nat) (c : Cn) : Nat := if (F 85 i).toInt = -1 then 0 else (c 1 (upS F f i).toNat).toNat + 1
def slT (F : Nat → Nat → Int32) (f : Nat) (c : Cn) : Nat → List Sl
  | 0 => []
  | T + 1 => (upS F f T, twB F T, dpS F f T c) :: slT F f c T
def rmT (F : Nat → Nat → Int32) (H : Nat → Hd) (fi se : Nat → Nat) : Nat → List Hd
  | 0 => []
  | T + 1 => trG H fi se 41 (F 84 T).toInt.toNat ++ rmT F H fi se T
theorem slT_cg {F F2 : Nat → Nat → Int32} {f : Nat} {c c2 : Cn} : ∀ T, (∀ i, i < T → F2 85 i = F 85 i ∧ F2 86 i = F 86 i) → (∀ i, i < T → dpS F f i c2 = dpS F f i c) → slT F2 f c2 T = slT F f c T := by
  intro T
  induction T with
  | zero => intro _ _; rfl
  | succ T ih =>
    intro h1 h2
    have e := h1 T (by omega)
    have e2 : dpS F2 f T c2 = dpS F f T c := by
      rw [← h2 T (by omega)]
      unfold dpS upS
      rw [e.1]
    show (upS F2 f T, twB F2 T, dpS F2 f T c2) :: slT F2 f c2 T = _
    rw [ih (fun i hi => h1 i (by omega)) (fun i hi => h2 i (by omega)), e2]
    unfold upS twB
    rw [e.1, e.2]
    rfl
theorem rmT_cg {F F2 : Nat → Nat → Int32} {H : Nat → Hd} {fi se : Nat → Nat} : ∀ T, (∀ i, i < T → F2 84 i = F 84 i) → rmT F2 H fi se T = rmT F H fi se T := by
  intro T
  induction T with
  | zero => intro _; rfl
  | succ T ih =>
    intro h
    show trG H fi se 41 (F2 84 T).toInt.toNat ++ rmT F2 H fi se T = _
    rw [h T (by omega), ih (fun i hi => h i (by omega))]
    rfl
/-- the loop's state: what is laid, what is to be laid -/
def LZ (F : Nat → Nat → Int32) (f Wn : Nat) (H : Nat → Hd) (fi se : Nat → Nat) (FIN : Cn) (NW NV W T : Nat) : Prop := ∃ (CC : Cn) (V : Nat), LR F f CC W V ∧ (F 17 f).toInt = (V : Int) ∧ (∀ k, k < W → ¬ (6 ≤ (F 7 (40 * f + k)).toInt ∧ (F 7 (40 * f + k)).toInt ≤ 9) → F 14 (40 * f + k) = F 13 (40 * f + k) ∧ F 15 (40 * f + k) = F 13 (40 * f + k))
  ∧ LY (rmT F H fi se T) W V (slT F f CC T) CC = FIN ∧ W + (rmT F H fi se T).length = NW ∧ V + nvT (rmT F H fi se T) = NV
  ∧ ∀ i, i < T → dnN F 0 Wn 0 (F 84 i).toInt.toNat ∧ 0 ≤ (F 84 i).toInt ∧ ((F 85 i).toInt = -1 ∨ ∃ P : Nat, P < W ∧ (F 85 i).toInt = 40 * (f : Int) + P ∧ 0 ≤ CC 1 P)

theorem ptH_v {h : Hd} {W V d : Nat} {par : Int} {s : Bool} {c : Cn} {a i : Nat} (ha : 10 ≤ a) : ptH h W V par s d c a i = putV (vsH h) V c a i := by
  have hl := @lkS_le s
  unfold ptH
  rw [putV_at, vsH_ln, if_neg (by omega), if_neg (by omega)]
/-- one task done: WORD W laid, its DEEDS wanted -/
theorem LZ_st {Fs F : Nat → Nat → Int32} {f Wn : Nat} {H : Nat → Hd} {fi se : Nat → Nat} {FIN : Cn} {NW NV W T T2 x : Nat} {h : Hd} (hZ : LZ Fs f Wn H fi se FIN NW NV W (T + 1)) (ex : x = (Fs 84 T).toInt.toNat) (eh : h = H x) (hv : hvH h)
    (tr0 : arH h = 0 → trG H fi se 41 x = [h]) (tr1 : arH h = 1 → trG H fi se 41 x = h :: trG H fi se 41 (fi x)) (tr2 : arH h = 2 → trG H fi se 41 x = h :: (trG H fi se 41 (fi x) ++ trG H fi se 41 (se x)))
    (g1 : 1 ≤ arH h → dnN Fs 0 Wn 0 (fi x)) (g2 : arH h = 2 → dnN Fs 0 Wn 0 (se x)) (h82 : F 82 = Fs 82)
    (ht : ∀ i, i < T → F 84 i = Fs 84 i ∧ F 85 i = Fs 85 i ∧ F 86 i = Fs 86 i)
    (t0 : arH h = 0 → T2 = T) (t1 : arH h = 1 → T2 = T + 1 ∧ (F 84 T).toInt = (fi x : Int) ∧ (F 85 T).toInt = 40 * (f : Int) + W ∧ twB F T = false)
    (t2 : arH h = 2 → T2 = T + 2 ∧ ((F 84 T).toInt = (se x : Int) ∧ (F 85 T).toInt = 40 * (f : Int) + W ∧ twB F T = true) ∧ (F 84 (T + 1)).toInt = (fi x : Int) ∧ (F 85 (T + 1)).toInt = 40 * (f : Int) + W ∧ twB F (T + 1) = false)
    (hw : ∀ CC V, LR Fs f CC W V → upS Fs f T < (W : Int) → (Fs 17 f).toInt = (V : Int) → (∀ P : Nat, upS Fs f T = (P : Int) → 0 ≤ CC 1 P) → LRw F f (ptH h W V (upS Fs f T) (twB Fs T) (dpS Fs f T CC) CC) (W + 1) ∧ (∀ c, LRv Fs f c V → LRv F f (putV (vsH h) V c) (V + nvH h)) ∧ (F 17 f).toInt = ((V + nvH h : Nat) : Int))
    (hz : ∀ k, k < W → F 7 (40 * f + k) = Fs 7 (40 * f + k) ∧ F 13 (40 * f + k) = Fs 13 (40 * f + k) ∧ F 14 (40 * f + k) = Fs 14 (40 * f + k) ∧ F 15 (40 * f + k) = Fs 15 (40 * f + k)) (hzW : ¬ (6 ≤ (F 7 (40 * f + W)).toInt ∧ (F 7 (40 * f + W)).toInt ≤ 9) → F 14 (40 * f + W) = F 13 (40 * f + W) ∧ F 15 (40 * f + W) = F 13 (40 * f + W)) :
    LZ F f Wn H fi se FIN NW NV (W + 1) T2 := by
  obtain ⟨CC, V, hL, h17, hzo, hLY, hNW, hNV, htk⟩ := hZ
  obtain ⟨k1, k2, k3⟩ := htk T (by omega)
  have hup : upS Fs f T < (W : Int) ∧ (∀ P : Nat, upS Fs f T = (P : Int) → P < W ∧ 0 ≤ CC 1 P) := by
    rcases k3 with z | ⟨P, z1, z2, z3⟩
    · unfold upS
      rw [if_pos z]
      exact ⟨by omega, fun P e => by omega⟩
    · unfold upS
      rw [if_neg (by omega), z2]
      exact ⟨by omega, fun Q e => by have : Q = P := by omega
                                     rw [this]; exact ⟨z1, z3⟩⟩
  obtain ⟨r1, r2, r3⟩ := hw CC V hL hup.1 h17 (fun P e => (hup.2 P e).2)
  obtain ⟨_, p3, p4, p1, p9⟩ := ptH_o (h := h) (V := V) (s := twB Fs T) (d := dpS Fs f T CC) (c := CC) hup.1
  have hl := arH_le (h := h)
  -- the tasks below
  have fr1 : ∀ P : Nat, P < W → ptH h W V (upS Fs f T) (twB Fs T) (dpS Fs f T CC) CC 1 P = CC 1 P := fun P hP => ptH_fr (by decide) (by omega) (fun z => by have hls := @lkS_le (twB Fs T); omega)
  have dp : ∀ i, i < T → dpS Fs f i (ptH h W V (upS Fs f T) (twB Fs T) (dpS Fs f T CC) CC) = dpS Fs f i CC := fun i hi => by
    obtain ⟨_, _, q3⟩ := htk i (by omega)
    generalize ptH h W V (upS Fs f T) (twB Fs T) (dpS Fs f T CC) CC = PT at fr1 ⊢
    unfold dpS upS
    rcases q3 with z | ⟨P, z1, z2, z3⟩
    · rw [if_pos z, if_pos z]
    · rw [if_neg (by omega), if_neg (by omega), if_neg (by omega), z2, show (40 * (f : Int) + P - 40 * (f : Int)).toNat = P by omega, fr1 P z1]
  have esl := slT_cg (F := Fs) (F2 := F) (f := f) T (fun i hi => ⟨(ht i hi).2.1, (ht i hi).2.2⟩) dp
  have erm := rmT_cg (F := Fs) (F2 := F) (H := H) (fi := fi) (se := se) T (fun i hi => (ht i hi).1)
  have hLYs : LY (trG H fi se 41 x ++ rmT Fs H fi se T) W V ((upS Fs f T, twB Fs T, dpS Fs f T CC) :: slT Fs f CC T) CC = FIN := by rw [ex]; exact hLY
  have hNWs : W + (trG H fi se 41 x ++ rmT Fs H fi se T).length = NW := by rw [ex]; exact hNW
  have hNVs : V + nvT (trG H fi se 41 x ++ rmT Fs H fi se T) = NV := by rw [ex]; exact hNV
  rw [List.length_append] at hNWs
  rw [nvT_app] at hNVs
  have eu : ∀ i, (F 85 i).toInt = 40 * (f : Int) + W → upS F f i = (W : Int) ∧ dpS F f i (ptH h W V (upS Fs f T) (twB Fs T) (dpS Fs f T CC) CC) = dpS Fs f T CC + 1 := fun i e => by
    have e1 : upS F f i = (W : Int) := by
      unfold upS
      rw [if_neg (by omega), e]
      omega
    refine ⟨e1, ?_⟩
    have e2 : dpS F f i (ptH h W V (upS Fs f T) (twB Fs T) (dpS Fs f T CC) CC) = (if (F 85 i).toInt = -1 then 0 else (ptH h W V (upS Fs f T) (twB Fs T) (dpS Fs f T CC) CC 1 (upS F f i).toNat).toNat + 1) := rfl
    rw [e2, if_neg (by omega), e1, Int.toNat_natCast, p1, Int.toNat_natCast]
  have dnF : ∀ y, dnN Fs 0 Wn 0 y → dnN F 0 Wn 0 y := fun y hy => by
    rcases hy with z | ⟨z1, z2, z3⟩
    · exact Or.inl z
    · exact Or.inr ⟨z1, z2, by unfold fxN at z3 ⊢; rw [h82]; exact z3⟩
  have old : ∀ i, i < T → dnN F 0 Wn 0 (F 84 i).toInt.toNat ∧ 0 ≤ (F 84 i).toInt ∧ ((F 85 i).toInt = -1 ∨ ∃ P : Nat, P < W + 1 ∧ (F 85 i).toInt = 40 * (f : Int) + P ∧ 0 ≤ ptH h W V (upS Fs f T) (twB Fs T) (dpS Fs f T CC) CC 1 P) := fun i hi => by
    obtain ⟨q1, q2, q3⟩ := htk i (by omega)
    obtain ⟨e1, e2, _⟩ := ht i hi
    rw [e1, e2]
    refine ⟨dnF _ q1, q2, ?_⟩
    rcases q3 with z | ⟨P, z1, z2, z3⟩
    · exact Or.inl z
    · exact Or.inr ⟨P, by omega, z2, by rw [fr1 P z1]; exact z3⟩
  have new : ∀ i y, (F 84 i).toInt = (y : Nat) → dnN Fs 0 Wn 0 y → (F 85 i).toInt = 40 * (f : Int) + W → dnN F 0 Wn 0 (F 84 i).toInt.toNat ∧ 0 ≤ (F 84 i).toInt ∧ ((F 85 i).toInt = -1 ∨ ∃ P : Nat, P < W + 1 ∧ (F 85 i).toInt = 40 * (f : Int) + P ∧ 0 ≤ ptH h W V (upS Fs f T) (twB Fs T) (dpS Fs f T CC) CC 1 P) := fun i y e1 e2 e3 => by
    rw [e1, Int.toNat_natCast]
    exact ⟨dnF _ e2, by omega, Or.inr ⟨W, by omega, e3, by rw [p1]; omega⟩⟩
  refine ⟨ptH h W V (upS Fs f T) (twB Fs T) (dpS Fs f T CC) CC, V + nvH h, ⟨r1, LRv_cg (fun a i ha => (ptH_v ha)) (r2 CC hL.2)⟩, r3, fun k hk => ?_, ?_⟩
  · by_cases e : k = W
    · rw [e]; exact hzW
    · obtain ⟨z1, z2, z3, z4⟩ := hz k (by omega)
      rw [z1, z2, z3, z4]
      exact hzo k (by omega)
  · by_cases a0 : arH h = 0
    · rw [tr0 a0] at hLYs hNWs hNVs
      rw [t0 a0, esl, erm]
      refine ⟨?_, by rw [List.length_cons, List.length_nil] at hNWs; omega, by have z : V + (nvH h + 0 + nvT (rmT Fs H fi se T)) = NV := hNVs; omega, old⟩
      have q : LY (rmT Fs H fi se T) (W + 1) (V + nvH h) (psS h W (dpS Fs f T CC) (slT Fs f CC T)) (ptH h W V (upS Fs f T) (twB Fs T) (dpS Fs f T CC) CC) = FIN := hLYs
      unfold psS at q
      rw [if_neg (by omega), if_neg (by omega)] at q
      exact q
    · by_cases a2 : arH h = 2
      · obtain ⟨eT, ⟨u1, u2, u3⟩, u4, u5, u6⟩ := t2 a2
        rw [tr2 a2] at hLYs hNWs hNVs
        obtain ⟨e1, e2⟩ := eu T u2
        obtain ⟨e3, e4⟩ := eu (T + 1) u5
        have er : rmT F H fi se (T + 2) = trG H fi se 41 (fi x) ++ (trG H fi se 41 (se x) ++ rmT Fs H fi se T) := by
          show trG H fi se 41 (F 84 (T + 1)).toInt.toNat ++ (trG H fi se 41 (F 84 T).toInt.toNat ++ rmT F H fi se T) = _
          rw [u1, u4, Int.toNat_natCast, Int.toNat_natCast, erm]
        have es : slT F f (ptH h W V (upS Fs f T) (twB Fs T) (dpS Fs f T CC) CC) (T + 2) = ((W : Int), false, dpS Fs f T CC + 1) :: ((W : Int), true, dpS Fs f T CC + 1) :: slT Fs f CC T := by
          show (upS F f (T + 1), twB F (T + 1), _) :: (upS F f T, twB F T, _) :: slT F f _ T = _
          rw [e1, e2, e3, e4, u3, u6, esl]
        rw [eT, er, es]
        have q : LY ((trG H fi se 41 (fi x) ++ trG H fi se 41 (se x)) ++ rmT Fs H fi se T) (W + 1) (V + nvH h) (psS h W (dpS Fs f T CC) (slT Fs f CC T)) (ptH h W V (upS Fs f T) (twB Fs T) (dpS Fs f T CC) CC) = FIN := hLYs
        unfold psS at q
        rw [if_pos a2, List.append_assoc] at q
        rw [List.length_cons, List.length_append] at hNWs
        have q2 : V + (nvH h + nvT (trG H fi se 41 (fi x) ++ trG H fi se 41 (se x)) + nvT (rmT Fs H fi se T)) = NV := by rw [← hNVs]; rfl
        rw [nvT_app] at q2
        refine ⟨q, by rw [List.length_append, List.length_append]; omega, by rw [nvT_app, nvT_app]; omega, fun i hi => ?_⟩
        by_cases i1 : i < T
        · exact old i i1
        · by_cases i2 : i = T
          · rw [i2]; exact new T (se x) u1 (g2 a2) u2
          · rw [show i = T + 1 by omega]; exact new (T + 1) (fi x) u4 (g1 (by omega)) u5
      · have a1 : arH h = 1 := by omega
        obtain ⟨eT, u1, u2, u3⟩ := t1 a1
        rw [tr1 a1] at hLYs hNWs hNVs
        obtain ⟨e1, e2⟩ := eu T u2
        have er : rmT F H fi se (T + 1) = trG H fi se 41 (fi x) ++ rmT Fs H fi se T := by
          show trG H fi se 41 (F 84 T).toInt.toNat ++ rmT F H fi se T = _
          rw [u1, Int.toNat_natCast, erm]
        have es : slT F f (ptH h W V (upS Fs f T) (twB Fs T) (dpS Fs f T CC) CC) (T + 1) = ((W : Int), false, dpS Fs f T CC + 1) :: slT Fs f CC T := by
          show (upS F f T, twB F T, _) :: slT F f _ T = _
          rw [e1, e2, u3, esl]
        rw [eT, er, es]
        have q : LY (trG H fi se 41 (fi x) ++ rmT Fs H fi se T) (W + 1) (V + nvH h) (psS h W (dpS Fs f T CC) (slT Fs f CC T)) (ptH h W V (upS Fs f T) (twB Fs T) (dpS Fs f T CC) CC) = FIN := hLYs
        unfold psS at q
        rw [if_neg a2, if_pos a1] at q
        rw [List.length_cons] at hNWs
        have q2 : V + (nvH h + nvT (trG H fi se 41 (fi x)) + nvT (rmT Fs H fi se T)) = NV := by rw [← hNVs]; rfl
        refine ⟨q, by rw [List.length_append]; omega, by rw [nvT_app]; omega, fun i hi => ?_⟩
        by_cases i1 : i < T
        · exact old i i1
        · rw [show i = T by omega]; exact new T (fi x) u1 (g1 (by omega)) u2
/-- the end, the begin -/
theorem LZ_end {F : Nat → Nat → Int32} {f Wn : Nat} {H : Nat → Hd} {fi se : Nat → Nat} {FIN : Cn} {NW NV W : Nat} (hZ : LZ F f Wn H fi se FIN NW NV W 0) : W = NW ∧ LR F f FIN NW NV ∧ (F 17 f).toInt = (NV : Int) ∧ ∀ k, k < NW → ¬ (6 ≤ (F 7 (40 * f + k)).toInt ∧ (F 7 (40 * f + k)).toInt ≤ 9) → F 14 (40 * f + k) = F 13 (40 * f + k) ∧ F 15 (40 * f + k) = F 13 (40 * f + k) := by
  obtain ⟨CC, V, hL, h17, hzo, hLY, hNW, hNV, _⟩ := hZ
  have e1 : CC = FIN := hLY
  have e2 : W + 0 = NW := hNW
  have e3 : V + 0 = NV := hNV
  rw [Nat.add_zero] at e2 e3
  subst e1 e2 e3
  exact ⟨rfl, hL, h17, hzo⟩
theorem LZ_beg {F : Nat → Nat → Int32} {f Wn x : Nat} {H : Nat → Hd} {fi se : Nat → Nat} (h84 : (F 84 0).toInt = (x : Int)) (hx : dnN F 0 Wn 0 x) (h85 : (F 85 0).toInt = -1) (h86 : twB F 0 = false) (h17 : (F 17 f).toInt = 0) : LZ F f Wn H fi se (tcC (trG H fi se 41 x)) (trG H fi se 41 x).length (nvT (trG H fi se 41 x)) 0 1 := by
  have er : rmT F H fi se 1 = trG H fi se 41 x := by
    show trG H fi se 41 (F 84 0).toInt.toNat ++ [] = _
    rw [h84, Int.toNat_natCast, List.append_nil]
  refine ⟨blC, 0, ⟨fun w hw => absurd hw (by omega), fun i hi => absurd hi (by omega)⟩, h17, fun k hk => absurd hk (by omega), ?_, by rw [er]; omega, by rw [er]; omega, fun i hi => ?_⟩
  · have es : slT F f blC 1 = [(-1, false, 0)] := by
      show (upS F f 0, twB F 0, dpS F f 0 blC) :: [] = _
      unfold dpS upS
      rw [if_pos h85, if_pos h85, h86]
    rw [er, es]
    rfl
  · rw [show i = 0 by omega, h84, Int.toNat_natCast]
    exact ⟨hx, by omega, Or.inl h85⟩
