/-! laysOut: what a turn lays, purely -/
def lowR (F0 F : Nat → Nat → Int32) (f : Nat) : Prop := (∀ r, r ∈ [7, 8, 13, 14, 15, 16, 18, 19, 20] → ∀ i, i < 40 * f → F r i = F0 r i) ∧ ∀ j, j ≠ f → F 17 j = F0 17 j
theorem lay_pt {Fs F F2 : Nat → Nat → Int32} {f W T V : Nat} {a : Int} {h : Hd} {CC : Cn} (hb : LYb Fs F f W T a) (hU : upA Fs f W T a) (hL : LR Fs f CC W V) (h0 : ∀ P : Nat, upS Fs f T = (P : Int) → 0 ≤ CC 1 P)
    (s1 : ∀ r, r ∈ [7, 9, 10, 11, 12, 13] → F2 r = F r) (off : ∀ r, r ∈ [14, 15] → ∀ i, i ≠ 40 * f + W → F2 r i = F r i) (o8 : ∀ i, i ≠ 40 * f + W → F2 8 i = Fs 8 i) (o16 : ∀ i, i ≠ 40 * f + W → F2 16 i = Fs 16 i)
    (e7 : (F2 7 (40 * f + W)).toInt = h.1) (e8 : (F2 8 (40 * f + W)).toInt = h.2.1) (e13 : 6 ≤ h.1 ∧ h.1 ≤ 9 → (F2 13 (40 * f + W)).toInt = (V : Int) ∧ (F2 14 (40 * f + W)).toInt = (V : Int) + (h.2.2.2.1.length : Int) ∧ (F2 15 (40 * f + W)).toInt = (V : Int) + (nvH h : Int)) (e16 : 6 ≤ h.1 ∧ h.1 ≤ 8 → (F2 16 (40 * f + W)).toInt = h.2.2.1) : LRw F2 f (ptH h W V (upS Fs f T) (twB Fs T) (dpS Fs f T CC) CC) (W + 1) := by
  obtain ⟨b1, b2, b3, b4, b5, b6, b7⟩ := hb
  have hu : (upS Fs f T = -1 ∧ (Fs 85 T).toInt = -1 ∧ W = 0 ∧ a = 0 ∧ dpS Fs f T CC = 0) ∨ (∃ p : Nat, p < W ∧ upS Fs f T = (p : Int) ∧ (Fs 85 T).toInt = 40 * (f : Int) + p ∧ a = CC 1 p + 1 ∧ 0 ≤ CC 1 p ∧ dpS Fs f T CC = (CC 1 p).toNat + 1) := by
    rcases hU with ⟨z1, z2, z3, z4⟩ | ⟨p, z1, z2, z3, z4, z5⟩
    · left
      refine ⟨?_, z1, z2, z4, ?_⟩
      · unfold upS
        rw [if_pos z1]
      · unfold dpS
        rw [if_pos z1]
    · right
      have e1 : upS Fs f T = (p : Int) := by
        unfold upS
        rw [if_neg (by omega), z2]
        omega
      have e2 : (Fs 9 (40 * f + p)).toInt = CC 1 p := (hL.1 p z1).2.2.1
      have e3 : arF Fs f p = (Fs 9 (40 * f + p)).toInt := rfl
      refine ⟨p, z1, e1, z2, by omega, h0 p e1, ?_⟩
      unfold dpS
      rw [if_neg (by omega), e1, Int.toNat_natCast]
  have hp : upS Fs f T < (W : Int) := by
    rcases hu with ⟨z, _⟩ | ⟨p, z1, z2, _⟩
    · omega
    · omega
  refine LRw_pt hp hL.1 (fun r hr k hk => ?_) (fun k hk => ?_) (fun k hk => ?_) e7 e8 ?_ ?_ e13 e16
  · have hne : 40 * f + k ≠ 40 * f + W := by omega
    simp only [List.mem_cons, List.not_mem_nil, or_false] at hr
    rcases hr with rfl | rfl | rfl | rfl | rfl | rfl | rfl | rfl
    · rw [s1 7 (by decide)]; exact b5 7 (by decide) k hk
    · exact o8 _ hne
    · rw [s1 9 (by decide)]; exact b5 9 (by decide) k hk
    · rw [s1 10 (by decide)]; exact b5 10 (by decide) k hk
    · rw [s1 13 (by decide)]; exact b5 13 (by decide) k hk
    · rw [off 14 (by decide) _ hne]; exact b5 14 (by decide) k hk
    · rw [off 15 (by decide) _ hne]; exact b5 15 (by decide) k hk
    · exact o16 _ hne
  · rcases hu with ⟨_, _, z, _⟩ | ⟨p, z1, z2, z3, _⟩
    · omega
    · obtain ⟨o1, _⟩ := b4 p z1 z3
      have q := o1 k hk
      rw [s1 11 (by decide), z2]
      by_cases c : k = p ∧ twB Fs T = false
      · rw [if_pos c] at q
        rw [if_pos ⟨(by rw [c.1]), c.2⟩]
        exact q
      · rw [if_neg c] at q
        rw [if_neg (fun y => c ⟨(by have y1 := y.1; omega), y.2⟩)]
        exact q
  · rcases hu with ⟨_, _, z, _⟩ | ⟨p, z1, z2, z3, _⟩
    · omega
    · obtain ⟨_, o1⟩ := b4 p z1 z3
      have q := o1 k hk
      rw [s1 12 (by decide), z2]
      by_cases c : k = p ∧ twB Fs T = true
      · rw [if_pos c] at q
        rw [if_pos ⟨(by rw [c.1]), c.2⟩]
        exact q
      · rw [if_neg c] at q
        rw [if_neg (fun y => c ⟨(by have y1 := y.1; omega), y.2⟩)]
        exact q
  · rw [s1 9 (by decide)]
    have e : (F 9 (40 * f + W)).toInt = a := b7
    rw [e]
    rcases hu with ⟨_, _, _, z4, z5⟩ | ⟨p, _, _, _, z4, z5, z6⟩
    · rw [z4, z5]; rfl
    · rw [z4, z6]; omega
  · rw [s1 10 (by decide), b6]
    rcases hu with ⟨z1, z2, _⟩ | ⟨p, z1, z2, z3, _⟩
    · rw [z2, if_pos z1]
    · rw [z3, if_neg (by omega), z2]
/-- a node that may be wanted: what it is -/
theorem lay_nd {F : Nat → Nat → Int32} {fo Wn x : Nat} {TL : List Hd} {H : Nat → Hd} {fi se : Nat → Nat} (hE : shE F fo 0 TL H fi se 0) (hW : TL.length ≤ 40 ∧ Wn = TL.length) (hx : dnN F 0 Wn 0 x) : (hvH (H x) ∧ (F 76 x).toInt = (H x).1 ∧ (F 77 x).toInt = (H x).2.1) ∧ (arH (H x) = 0 → trG H fi se 41 x = [H x]) ∧ (arH (H x) = 1 → trG H fi se 41 x = H x :: trG H fi se 41 (fi x)) ∧ (arH (H x) = 2 → trG H fi se 41 x = H x :: (trG H fi se 41 (fi x) ++ trG H fi se 41 (se x)))
    ∧ (1 ≤ arH (H x) → dnN F 0 Wn 0 (fi x) ∧ (F 78 x).toInt = (fi x : Int) ∧ nD F fo x (H x)) ∧ (arH (H x) = 2 → dnN F 0 Wn 0 (se x) ∧ (F 79 x).toInt = (se x : Int)) := by
  obtain ⟨hW, rfl⟩ := hW
  obtain ⟨⟨q76, q77, q81, q82, qn⟩, qA, qB, qC, qD, qE⟩ := hE
  have hx41 : x < 0 + 41 := by rcases hx with z | ⟨_, z, _⟩ <;> omega
  have up : ∀ j y, gnN F 0 TL.length j y → dnN F 0 TL.length 0 y := fun j y hy => by
    rcases hy with z | ⟨z1, z2, z3⟩
    · exact Or.inl z
    · exact Or.inr ⟨by omega, z2, z3⟩
  have t0 : arH (H x) = 0 → trG H fi se 41 x = [H x] := fun a => by rw [trG_at, if_neg (by omega), if_neg (by omega)]
  have t1 : arH (H x) = 1 → trG H fi se 41 x = H x :: trG H fi se 41 (fi x) := fun a => tn_1 (bn := 0) (lo := 0 + 0) qE (by omega) (by omega) hx41 a
  have t2 : arH (H x) = 2 → trG H fi se 41 x = H x :: (trG H fi se 41 (fi x) ++ trG H fi se 41 (se x)) := fun a => tn_2 (bn := 0) (lo := 0 + 0) qE (by omega) (by omega) hx41 a
  rcases hx with z | ⟨z1, z2, z3⟩
  · have ex : x = 40 := by omega
    subst ex
    have e : H 40 = noH := qn
    have a0 : arH (H 40) = 0 := by rw [e]; rfl
    refine ⟨⟨by rw [e]; exact noH_hv, by rw [e]; exact q76, by rw [e]; exact q77⟩, t0, t1, t2, fun y => by omega, fun y => by omega⟩
  · obtain ⟨b1, b2, b3, _⟩ := qB x (by omega) (by omega) (by rw [Nat.zero_add]; exact z3)
    rw [Nat.zero_add] at b1 b2 b3
    have b0 := b1
    obtain ⟨k1, k2, k3, _⟩ := b0
    refine ⟨⟨k1, k2, k3⟩, t0, t1, t2, fun y => ?_, fun y => ?_⟩
    · obtain ⟨c1, c2, _⟩ := b2 y
      exact ⟨up x _ c2, c1, b1⟩
    · obtain ⟨c1, c2⟩ := b3 y
      exact ⟨up x _ c2, c1⟩
theorem LZ_dn {F : Nat → Nat → Int32} {f Wn W T NW NV : Nat} {H : Nat → Hd} {fi se : Nat → Nat} {FIN : Cn} (hZ : LZ F f Wn H fi se FIN NW NV W (T + 1)) : dnN F 0 Wn 0 (F 84 T).toInt.toNat ∧ ∃ V : Nat, (F 17 f).toInt = (V : Int) := by
  obtain ⟨CC, V, _, h17, _, _, _, _, htk⟩ := hZ
  exact ⟨(htk T (by omega)).1, V, h17⟩
theorem nv_0 {h : Hd} (v : hvH h) (z : ¬ (6 ≤ h.1 ∧ h.1 ≤ 9)) : h.2.2.2.1 = [] ∧ h.2.2.2.2 = [] ∧ nvH h = 0 ∧ vsH h = [] := by
  obtain ⟨_, _, _, _, v5, _, v7⟩ := v
  have e1 := v7 z
  have e2 := (v5 (by omega)).2
  refine ⟨e1, e2, ?_, ?_⟩
  · unfold nvH
    rw [e1, e2]
    rfl
  · unfold vsH
    rw [e1, e2]
    rfl
theorem LZ_leaf {F0 Fs F : Nat → Nat → Int32} {f fo Wn W T : Nat} {a : Int} {nd : Int32} {TL : List Hd} {H : Nat → Hd} {fi se : Nat → Nat} {FIN : Cn} {NW NV : Nat} (hZ : LZ Fs f Wn H fi se FIN NW NV W (T + 1)) (hE : shE Fs fo 0 TL H fi se 0) (hW : TL.length ≤ 40 ∧ Wn = TL.length) (e84 : Fs 84 T = nd) (hb : LYb Fs F f W T a) (hU : upA Fs f W T a) (o8 : ∀ i, i ≠ 40 * f + W → F 8 i = Fs 8 i) (e7 : F 7 (40 * f + W) = Fs 76 nd.toInt.toNat) (e8 : F 8 (40 * f + W) = Fs 77 nd.toInt.toNat) (h01 : (Fs 76 nd.toInt.toNat).toInt ≤ 1) (ev : F 13 (40 * f + W) = F 14 (40 * f + W) ∧ F 14 (40 * f + W) = F 15 (40 * f + W)) : LZ F f Wn H fi se FIN NW NV (W + 1) T := by
  have hx := (LZ_dn hZ).1
  rw [e84] at hx
  obtain ⟨⟨v, k76, k77⟩, t0, t1, t2, g1, g2⟩ := lay_nd hE hW hx
  have a0 : arH (H nd.toInt.toNat) = 0 := by have := arH_k v; omega
  have b1 := hb.1
  have b5 := hb.2.2.2.2.1
  have n0 := nv_0 v (by omega)
  refine LZ_st (F := F) (T2 := T) (x := nd.toInt.toNat) hZ (by rw [e84]) rfl v t0 t1 t2 (fun z => (g1 z).1) (fun z => (g2 z).1) (b1 82 (by decide)) (fun i _ => ⟨congrFun (b1 84 (by decide)) i, congrFun (b1 85 (by decide)) i, congrFun (b1 86 (by decide)) i⟩) (fun _ => rfl) (fun z => absurd z (by omega)) (fun z => absurd z (by omega)) (fun CC V hL hup h17 h0 => ⟨lay_pt hb hU hL h0 (fun _ _ => rfl) (fun _ _ _ _ => rfl) o8 (fun i _ => congrFun (b1 16 (by decide)) i) (by rw [e7]; exact k76) (by rw [e8]; exact k77) (fun z => absurd z (by omega)) (fun z => absurd z (by omega)), fun c hc => ?_, ?_⟩) (fun k hk => ⟨b5 7 (by decide) k hk, b5 13 (by decide) k hk, b5 14 (by decide) k hk, b5 15 (by decide) k hk⟩) (fun _ => ⟨ev.1.symm, (ev.1.trans ev.2).symm⟩)
  · rw [n0.2.2.1, n0.2.2.2, putV_nil]
    exact LRv_rw (b1 18 (by decide)) (b1 19 (by decide)) (b1 20 (by decide)) hc
  · rw [b1 17 (by decide), n0.2.2.1]
    exact h17
theorem LZ_deep {F0 Fs F : Nat → Nat → Int32} {f fo Wn W T : Nat} {a : Int} {nd : Int32} {TL : List Hd} {H : Nat → Hd} {fi se : Nat → Nat} {FIN : Cn} {NW NV : Nat} {F2 : Nat → Nat → Int32} {T2 V0 j : Nat} (hZ : LZ Fs f Wn H fi se FIN NW NV W (T + 1)) (hE : shE Fs fo 0 TL H fi se 0) (hW : TL.length ≤ 40 ∧ Wn = TL.length) (e84 : Fs 84 T = nd) (hb : LYb Fs F f W T a) (hU : upA Fs f W T a)
    (same : ∀ r, r ∈ [6, 7, 9, 10, 11, 12, 13, 76, 78, 79, 80, 82] → F2 r = F r) (off : ∀ r, r ∈ [14, 15] → ∀ i, i ≠ 40 * f + W → F2 r i = F r i) (h84 : ∀ r, r ∈ [84, 85, 86] → ∀ q, q < T → F2 r q = F r q) (o8 : ∀ i, i ≠ 40 * f + W → F2 8 i = Fs 8 i) (o16 : ∀ i, i ≠ 40 * f + W → F2 16 i = Fs 16 i)
    (e7 : F 7 (40 * f + W) = Fs 76 nd.toInt.toNat) (e8 : F2 8 (40 * f + W) = Fs 77 nd.toInt.toNat) (hk2 : 2 ≤ (Fs 76 nd.toInt.toNat).toInt) (hV0 : (Fs 17 f).toInt = (V0 : Int)) (e13 : (F2 13 (40 * f + W)).toInt = (V0 : Int)) (e14 : (F2 14 (40 * f + W)).toInt = (V0 : Int) + ((H nd.toInt.toNat).2.2.2.1.length : Int)) (e15 : (F2 15 (40 * f + W)).toInt = (V0 : Int) + (nvH (H nd.toInt.toNat) : Int))
    (e16 : F2 16 (40 * f + W) = Fs 16 (40 * fo + j)) (n1 : (Fs 80 nd.toInt.toNat).toInt = 40 * (fo : Int) + j) (hv : ∀ c, LRv Fs f c V0 → LRv F2 f (putV (vsH (H nd.toInt.toNat)) V0 c) (V0 + nvH (H nd.toInt.toNat))) (h17 : (F2 17 f).toInt = (V0 : Int) + (nvH (H nd.toInt.toNat) : Int)) (ht : tkN Fs F2 f W T T2 nd.toInt.toNat) : LZ F2 f Wn H fi se FIN NW NV (W + 1) T2 := by
  have hx := (LZ_dn hZ).1
  rw [e84] at hx
  obtain ⟨⟨v, k76, k77⟩, t0, t1, t2, g1, g2⟩ := lay_nd hE hW hx
  have ak := arH_k v
  have b1 := hb.1
  have b5 := hb.2.2.2.2.1
  have K7 : (F2 7 (40 * f + W)).toInt = (H nd.toInt.toNat).1 := by rw [same 7 (by decide), e7]; exact k76
  have pr : prK F2 f W ↔ 3 ≤ (H nd.toInt.toNat).1 ∧ (H nd.toInt.toNat).1 ≤ 5 := by unfold prK; rw [K7]
  have s16 : 6 ≤ (H nd.toInt.toNat).1 ∧ (H nd.toInt.toNat).1 ≤ 8 → (F2 16 (40 * f + W)).toInt = (H nd.toInt.toNat).2.2.1 := fun z => by
    obtain ⟨_, _, _, kk, yy, hkk, n80, hdm, hvy, y1, y2⟩ := (g1 (by omega)).2.2
    have ekk : kk = j := by omega
    rw [ekk] at hdm
    rw [e16, ← y2]
    exact hdm.2.2.1 (by rw [y1]; exact z)
  refine LZ_st (F := F2) (T2 := T2) (x := nd.toInt.toNat) hZ (by rw [e84]) rfl v t0 t1 t2 (fun z => (g1 z).1) (fun z => (g2 z).1) ((same 82 (by decide)).trans (b1 82 (by decide))) (fun i hi => ⟨(h84 84 (by decide) i hi).trans (congrFun (b1 84 (by decide)) i), (h84 85 (by decide) i hi).trans (congrFun (b1 85 (by decide)) i), ?_⟩) (fun z => absurd z (by omega)) (fun z => ?_) (fun z => ?_) (fun CC V hL hup h17s h0 => ?_) (fun k hk => ?_) (fun z => ?_)
  · exact (h84 86 (by decide) i hi).trans (congrFun (b1 86 (by decide)) i)
  · rcases ht with ⟨hpr, _⟩ | ⟨_, u1, u2, u3, u4⟩
    · have := pr.mp hpr
      omega
    · exact ⟨u4, by rw [u1]; exact (g1 (by omega)).2.1, u2, u3⟩
  · rcases ht with ⟨_, u1, u2, u3, u4, u5, u6, u7⟩ | ⟨hnp, _⟩
    · exact ⟨u7, ⟨by rw [u1]; exact (g2 z).2, u3, u4⟩, by rw [u2]; exact (g1 (by omega)).2.1, u5, u6⟩
    · exact absurd (pr.mpr (by omega)) hnp
  · have eV : V = V0 := by omega
    subst eV
    exact ⟨lay_pt hb hU hL h0 (fun r hr => same r (by simp only [List.mem_cons, List.not_mem_nil, or_false] at hr ⊢; omega)) off o8 o16 K7 (by rw [e8]; exact k77) (fun _ => ⟨e13, e14, e15⟩) s16, hv, by rw [h17]; omega⟩
  · have hne : 40 * f + k ≠ 40 * f + W := by omega
    exact ⟨by rw [same 7 (by decide)]; exact b5 7 (by decide) k hk, by rw [same 13 (by decide)]; exact b5 13 (by decide) k hk, by rw [off 14 (by decide) _ hne]; exact b5 14 (by decide) k hk, by rw [off 15 (by decide) _ hne]; exact b5 15 (by decide) k hk⟩
  · rw [K7] at z
    obtain ⟨n1_, n2_, n3_, _⟩ := nv_0 v z
    rw [n1_, List.length_nil] at e14
    rw [n3_] at e15
    exact ⟨Int32.toInt_inj.mp (by omega), Int32.toInt_inj.mp (by omega)⟩
theorem low_B {F0 Fs F F2 : Nat → Nat → Int32} {f W T : Nat} (hlw : lowR F0 Fs f) (la : LYa Fs F f W T) (same : ∀ r, r ∉ [7, 8, 9, 10, 13, 14, 15] → F2 r = F r) (off : ∀ r, r ∈ [7, 9, 10, 13, 14, 15] → ∀ i, i ≠ 40 * f + W → F2 r i = F r i) (o8 : ∀ i, i ≠ 40 * f + W → F2 8 i = Fs 8 i) : lowR F0 F2 f := by
  refine ⟨fun r hr i hi => ?_, fun j hj => ((congrFun (same 17 (by decide)) j).trans (congrFun (la.1 17 (by decide)) j)).trans (hlw.2 j hj)⟩
  have hne : i ≠ 40 * f + W := by omega
  have q := hlw.1 r hr i hi
  simp only [List.mem_cons, List.not_mem_nil, or_false] at hr
  rcases hr with rfl | rfl | rfl | rfl | rfl | rfl | rfl | rfl | rfl <;> first | exact (o8 i hne).trans q | exact ((off _ (by decide) i hne).trans (congrFun (la.1 _ (by decide)) i)).trans q | exact ((congrFun (same _ (by decide)) i).trans (congrFun (la.1 _ (by decide)) i)).trans q
theorem low_C {F0 F F2 : Nat → Nat → Int32} {f W : Nat} (hlw : lowR F0 F f) (same : ∀ r, r ∈ [6, 7, 9, 10, 11, 12, 13, 76, 78, 79, 80, 82] → F2 r = F r) (off : ∀ r, r ∈ [14, 15] → ∀ i, i ≠ 40 * f + W → F2 r i = F r i) (s8 : F2 8 = F 8) (o16 : ∀ i, i ≠ 40 * f + W → F2 16 i = F 16 i) (o17 : ∀ j, j ≠ f → F2 17 j = F 17 j) (lo : lo3 F F2 f) : lowR F0 F2 f := by
  refine ⟨fun r hr i hi => ?_, fun j hj => (o17 j hj).trans (hlw.2 j hj)⟩
  have hne : i ≠ 40 * f + W := by omega
  have q := hlw.1 r hr i hi
  have l := lo i hi
  simp only [List.mem_cons, List.not_mem_nil, or_false] at hr
  rcases hr with rfl | rfl | rfl | rfl | rfl | rfl | rfl | rfl | rfl
  · exact (congrFun (same 7 (by decide)) i).trans q
  · rw [s8]; exact q
  · exact (congrFun (same 13 (by decide)) i).trans q
  · exact (off 14 (by decide) i hne).trans q
  · exact (off 15 (by decide) i hne).trans q
  · exact (o16 i hne).trans q
  · exact l.1.trans q
  · exact l.2.1.trans q
  · exact l.2.2.trans q
/-- what a FORM holds stays where its rows stay -/
theorem LX_lo2 {F F2 : Nat → Nat → Int32} {f g : Nat} {T : List Hd} (hgf : g < f) (ha : agF F F2 g) (h8 : ∀ i, i < 40 * f → F2 8 i = F 8 i ∧ F2 16 i = F 16 i) (h3 : lo3 F F2 f) (h : LX F g T) : LX F2 g T := by
  obtain ⟨hT, h6, hL, hz⟩ := h
  have row : ∀ r, r ∈ [7, 8, 9, 10, 11, 12, 13, 14, 15, 16] → ∀ k, k < 40 → F2 r (40 * g + k) = F r (40 * g + k) := fun r hr k hk => by
    simp only [List.mem_cons, List.not_mem_nil, or_false] at hr
    rcases hr with rfl | rfl | rfl | rfl | rfl | rfl | rfl | rfl | rfl | rfl <;> first | exact ha.2 _ (by decide) k hk | exact (h8 _ (by omega)).1 | exact (h8 _ (by omega)).2
  refine ⟨hT, by rw [ha.1]; exact h6, ⟨fun w hw => ?_, fun i hi => ?_⟩, fun k hk hn => ?_⟩
  · have q := hL.1 w hw
    unfold LRo at q ⊢
    rw [row 7 (by decide) w (by omega), row 8 (by decide) w (by omega), row 9 (by decide) w (by omega), row 10 (by decide) w (by omega), row 11 (by decide) w (by omega), row 12 (by decide) w (by omega), row 13 (by decide) w (by omega), row 14 (by decide) w (by omega), row 15 (by decide) w (by omega), row 16 (by decide) w (by omega)]
    exact q
  · have l := h3 (40 * g + i) (by omega)
    rw [l.1, l.2.1, l.2.2]
    exact hL.2 i hi
  · rw [row 13 (by decide) k (by omega), row 14 (by decide) k (by omega), row 15 (by decide) k (by omega)]
    exact hz k hk hn
theorem LX_lo {F F2 : Nat → Nat → Int32} {f g : Nat} {T : List Hd} (hgf : g < f) (hlw : lowR F F2 f) (ha : agF F F2 g) (h : LX F g T) : LX F2 g T := LX_lo2 hgf ha (fun i hi => ⟨hlw.1 8 (by decide) i hi, hlw.1 16 (by decide) i hi⟩) (fun i hi => ⟨hlw.1 18 (by decide) i hi, hlw.1 19 (by decide) i hi, hlw.1 20 (by decide) i hi⟩) h
theorem LX_lay {F : Nat → Nat → Int32} {f : Nat} {S : List Hd} (hS : gdT S 40 40 0) (h6 : (F 6 f).toInt = (S.length : Int)) (hL : LR F f (tcC S) S.length (nvT S)) (hz : ∀ k, k < S.length → ¬ (6 ≤ (F 7 (40 * f + k)).toInt ∧ (F 7 (40 * f + k)).toInt ≤ 9) → F 14 (40 * f + k) = F 13 (40 * f + k) ∧ F 15 (40 * f + k) = F 13 (40 * f + k)) : LX F f S := by
  obtain ⟨g1, g2, g3, g4, g5⟩ := hS
  refine ⟨⟨g1, g2, g5, g3, g4⟩, h6, hL, fun k hk hn => hz k hk ?_⟩
  obtain ⟨T1, x, R, e, l, gx⟩ := spl_at hk
  have at_ := tcC_at (T1 := T1) (h := x) (R := R) (by rw [← e]; exact g1)
  rw [← e, l] at at_
  have c0 := at_.1.1
  rw [(hL.1 k hk).1, c0, ← gx]
  exact hn
/-- the VALUES counted -/
theorem vs_cnt {F : Nat → Nat → Int32} {f : Nat} : ∀ (T : List Hd) (i : Nat), (∀ k, k < T.length → nvH (grH T k) ≤ owK F f (i + k)) → nvT T ≤ vsF F f i T.length ∧ (vsF F f i T.length ≤ nvT T → ∀ k, k < T.length → owK F f (i + k) = nvH (grH T k)) := by
  intro T
  induction T with
  | nil => exact fun i _ => ⟨Nat.zero_le _, fun _ k hk => absurd hk (Nat.not_lt_zero _)⟩
  | cons h R ih =>
    intro i hh
    obtain ⟨a, b⟩ := ih (i + 1) (fun k hk => by
      have z := hh (k + 1) (by rw [List.length_cons]; omega)
      rw [show i + 1 + k = i + (k + 1) by omega]
      exact z)
    have h0 : nvH h ≤ owK F f (i + 0) := hh 0 (by rw [List.length_cons]; omega)
    rw [Nat.add_zero] at h0
    have e : vsF F f i (h :: R).length = owK F f i + vsF F f (i + 1) R.length := rfl
    have e2 : nvT (h :: R) = nvH h + nvT R := rfl
    refine ⟨by omega, fun z k hk => ?_⟩
    cases k with
    | zero =>
      show owK F f (i + 0) = nvH h
      rw [Nat.add_zero]
      omega
    | succ k =>
      have q := b (by omega) k (by rw [List.length_cons] at hk; omega)
      rw [show i + 1 + k = i + (k + 1) by omega] at q
      exact q
/-- a FORM read holds its list -/
theorem LX_mk {F : Nat → Nat → Int32} {f : Nat} {T : List Hd} (hg : okT T 1 ∧ hvT T ∧ dkT T [0]) (hf : fOK F f) (h6 : (F 6 f).toInt = (T.length : Int)) (hL : LR F f (tcC T) T.length (nvT T)) (hvs : vsF F f 0 T.length ≤ nvT T) : LX F f T := by
  obtain ⟨h1, h2, h3⟩ := hg
  obtain ⟨f1, f2, f3⟩ := hf
  have e6 : (F 6 f).toInt.toNat = T.length := by omega
  have at_ : ∀ k, k < T.length → hvH (grH T k) ∧ ∃ V : Nat, hdO (tcC T) (grH T k) k V := fun k hk => by
    obtain ⟨T1, x, R, e, l, gx⟩ := spl_at hk
    have hx := h2 x (by rw [e]; exact List.mem_append.mpr (Or.inr List.mem_cons_self))
    have q := tcC_at (T1 := T1) (h := x) (R := R) (by rw [← e]; exact h1)
    rw [← e, l] at q
    rw [gx]
    exact ⟨hx, _, q.1⟩
  have ow : ∀ k, k < T.length → nvH (grH T k) ≤ owK F f (0 + k) := fun k hk => by
    obtain ⟨hx, V, c0, c2, c5, c6, c7, c8⟩ := at_ k hk
    by_cases c : 6 ≤ (grH T k).1 ∧ (grH T k).1 ≤ 9
    · obtain ⟨l7, l8, l9, l10, l11, l12, l13, l16⟩ := hL.1 k hk
      rw [if_pos c] at c5 c7
      obtain ⟨y1, y2, y3⟩ := l13 (by rw [c0]; exact c)
      rw [c5] at y1
      rw [c7] at y3
      unfold owK
      rw [Nat.zero_add]
      omega
    · rw [(nv_0 hx c).2.2.1]
      exact Nat.zero_le _
  have h40 : nvT T ≤ 40 := by
    rw [e6] at f3
    exact Nat.le_trans (vs_cnt T 0 ow).1 f3
  refine ⟨⟨h1, h2, h3, by omega, h40⟩, h6, hL, fun k hk hn => ?_⟩
  have z := (vs_cnt T 0 ow).2 hvs k hk
  rw [(nv_0 (at_ k hk).1 hn).2.2.1, Nat.zero_add] at z
  unfold owK at z
  obtain ⟨w1, w2⟩ := (f2 k (by rw [e6]; exact hk)).2.2.2.2
  exact ⟨Int32.toInt_inj.mp (by omega), Int32.toInt_inj.mp (by omega)⟩

set_option maxHeartbeats 4000000 in
set_option maxRecDepth 100000 in
theorem l_X12_laysOutCE {l : Launch} {D : va_G} {cy : Nat → ClassId} {b : Nat} {m : Nat} {a : Nat → Nat} {f0 : gMem} {n0 : Nat → Int32} {z0 : Nat → Int64} {F0 : Nat → Nat → Int32} {G0 : Nat → Nat → Int64}  {x1 x2 : Int32} {f fo Wn : Nat} {W T : Nat} {a_ : Int} {nd up iw : Int32} {Fs : Nat → Nat → Int32} {TL : List Hd} {H : Nat → Hd} {fi se : Nat → Nat} {FIN : Cn} {NW NV : Nat} (hf : x2.toInt = (f : Int) ∧ f < 20 ∧ fo < f ∧ Wn ≤ 40) (hwi : iw.toInt = 40 * (f : Int) + W ∧ W ≤ 39 ∧ T ≤ 39) (hc : LYc F0 Fs f fo Wn W T a_ nd up) (hZ : LZ Fs f Wn H fi se FIN NW NV W (T + 1)) (hE : shE Fs fo 0 TL H fi se 0) (hTL : TL.length ≤ 40 ∧ Wn = TL.length) (hq_ : ∀ (T2 : Nat) (n : Nat → Int32) (z : Nat → Int64) (F : Nat → Nat → Int32) (G : Nat → Nat → Int64) (fm : gMem), mS cy m a f0 n z F G fm → fx [83] [] [6, 7, 8, 9, 10, 11, 12, 13, 14, 15, 16, 17, 18, 19, 20, 84, 85, 86] [] n0 z0 F0 G0 n z F G → (LYJ F0 n F f fo Wn (W + 1) T2) → (LZ F f Wn H fi se FIN NW NV (W + 1) T2) → (lowR F0 F f) → gG l (gRm 1 0 0) (gQf D b (pV fun f2 => ∃ (n2 : Nat → Int32) (z2 : Nat → Int64) (F2 : Nat → Nat → Int32) (G2 : Nat → Nat → Int64), mS cy m a f0 n2 z2 F2 G2 f2 ∧ fx [83] [] [6, 7, 8, 9, 10, 11, 12, 13, 14, 15, 16, 17, 18, 19, 20, 84, 85, 86] [] n0 z0 F0 G0 n2 z2 F2 G2 ∧ rAll F2 ∧ fOK F2 f ∧ (∀ g, g < f → agF F0 F2 g) ∧ (LR F2 f FIN NW NV ∧ (F2 6 f).toInt = (NW : Int) ∧ (F2 17 f).toInt = (NV : Int) ∧ (∀ k, k < NW → ¬ (6 ≤ (F2 7 (40 * f + k)).toInt ∧ (F2 7 (40 * f + k)).toInt ≤ 9) → F2 14 (40 * f + k) = F2 13 (40 * f + k) ∧ F2 15 (40 * f + k) = F2 13 (40 * f + k))) ∧ lowR F0 F2 f) 0 0) gTt D cy b cX12_laysOut 7 none RX12 "laysOut" 0 0 fm 26 [(0, .ref m), (1, .int x1), (2, .int x2)] []) : ∀ (k : Nat)  (n : Nat → Int32) (z : Nat → Int64) (F : Nat → Nat → Int32) (G : Nat → Nat → Int64) (fm : gMem), mS cy m a f0 n z F G fm → fx [83] [] [6, 7, 8, 9, 10, 11, 12, 13, 14, 15, 16, 17, 18, 19, 20, 84, 85, 86] [] n0 z0 F0 G0 n z F G → ((n 83).toInt = (T : Int)) → (rAll F) → (LYb Fs F f W T a_) → (F 7 (40 * f + W) = Fs 76 nd.toInt.toNat) → (2 ≤ (Fs 76 nd.toInt.toNat).toInt) → ((F 13 (40 * f + W)).toInt = (Fs 17 f).toInt) → (F 8 (40 * f + W) = Fs 77 nd.toInt.toNat) → (∀ i, i ≠ 40 * f + W → F 8 i = Fs 8 i) → (lowR F0 F f) → (0 < (k : Int)) → gG l (gRm 1 0 0) (gQf D b (pV fun f2 => ∃ (n2 : Nat → Int32) (z2 : Nat → Int64) (F2 : Nat → Nat → Int32) (G2 : Nat → Nat → Int64), mS cy m a f0 n2 z2 F2 G2 f2 ∧ fx [83] [] [6, 7, 8, 9, 10, 11, 12, 13, 14, 15, 16, 17, 18, 19, 20, 84, 85, 86] [] n0 z0 F0 G0 n2 z2 F2 G2 ∧ rAll F2 ∧ fOK F2 f ∧ (∀ g, g < f → agF F0 F2 g) ∧ (LR F2 f FIN NW NV ∧ (F2 6 f).toInt = (NW : Int) ∧ (F2 17 f).toInt = (NV : Int) ∧ (∀ k, k < NW → ¬ (6 ≤ (F2 7 (40 * f + k)).toInt ∧ (F2 7 (40 * f + k)).toInt ≤ 9) → F2 14 (40 * f + k) = F2 13 (40 * f + k) ∧ F2 15 (40 * f + k) = F2 13 (40 * f + k))) ∧ lowR F0 F2 f) 0 0) gTt D cy b cX12_laysOut 7 none RX12 "laysOut" 0 0 fm 253 [(0, .ref m), (1, .int x1), (2, .int x2), (3, .int nd), (4, .int up), (5, .int iw)] [] := by
  intro k
  induction k with
  | zero =>
    intro n z F G fm hS hx h83 hA hb h7 hk2 h13 h8 o8 hlB hk
    exfalso; omega
  | succ k ih =>
    intro n z F G fm hS hx h83 hA hb h7 hk2 h13 h8 o8 hlB hk
    obtain ⟨c1, c2, c3, c4, c5, c6, c7, c8, c9⟩ := id hc
    have eci : Int32.toNatClampNeg iw = 40 * f + W := by rw [clN]; omega
    have ecf : Int32.toNatClampNeg x2 = f := by rw [clN]; omega
    have qnd : 0 ≤ nd.toInt ∧ nd.toInt ≤ 40 := by rcases c4.2 with z | ⟨z, z1, z2, z3⟩ <;> omega
    obtain ⟨j, ej, hj, nn2, n1, ⟨d1, d2, d3⟩, -⟩ := lay_ch hf.2.2.2 c8 c7 c4 hk2
    have q7 : (F 7 (Int32.toNatClampNeg iw)).toInt = (Fs 76 nd.toInt.toNat).toInt := by rw [eci, h7]
    obtain ⟨hxd, V0, hV0⟩ := LZ_dn hZ
    rw [c3.1] at hxd
    obtain ⟨⟨vh, k76, k77⟩, -, -, -, g1, -⟩ := lay_nd hE hTL hxd
    obtain ⟨-, -, -, -, -, kk, yy, hkk, n80, hdm, hvy, y1, y2⟩ := g1 (by have := arH_k vh; omega)
    have ekk : kk = j := by omega
    rw [ekk] at hdm
    obtain ⟨Vw, ⟨w1, w2, w3, w4⟩, wl, wr⟩ := hdM_sp hdm
    rw [y2] at w2 w3 w4 wl wr
    refine gz_aload_n dX12_laysOut_253 rfl rfl ?_
    refine mg_222 hS dX12_laysOut_254 ?_
    refine gz_iload_n dX12_laysOut_257 rfl rfl ?_
    refine m_iald 80 hS rfl (N := 82) rfl ((by exact vin_T (rfl : nd.toInt = nd.toInt) (by omega) (by omega))) dX12_laysOut_258 ?_
    obtain ⟨wd, hwd⟩ : ∃ v_ : Int32, v_ = ((F 80) (Int32.toNatClampNeg nd)) := ⟨_, rfl⟩
    refine gz_ev (w := .int wd) (congrArg Value.int hwd.symm) ?_
    have qwd : wd.toInt = 40 * (fo : Int) + j := by rw [hwd, hb.1 80 (by decide)]; exact n1
    have ecd : Int32.toNatClampNeg wd = 40 * fo + j := by rw [clN]; omega
    have p13 : (F 13 (Int32.toNatClampNeg wd)).toInt = (Fs 13 (40 * fo + j)).toInt := by rw [ecd, (hb.2.2.1 fo (by omega)).2 13 (by decide) j (by omega)]
    have p14 : (F 14 (Int32.toNatClampNeg wd)).toInt = (Fs 14 (40 * fo + j)).toInt := by rw [ecd, (hb.2.2.1 fo (by omega)).2 14 (by decide) j (by omega)]
    have p15 : (F 15 (Int32.toNatClampNeg wd)).toInt = (Fs 15 (40 * fo + j)).toInt := by rw [ecd, (hb.2.2.1 fo (by omega)).2 15 (by decide) j (by omega)]
    have qv := (c8 j hj).2.2.2.2
    have qa := c6 (40 * fo + j) (by omega)
    have p17 : (F 17 (Int32.toNatClampNeg x2)).toInt = (Fs 17 f).toInt := by rw [ecf, hb.1 17 (by decide)]
    have qow : (owK Fs fo j : Int) = (Fs 15 (40 * fo + j)).toInt - (Fs 13 (40 * fo + j)).toInt := by unfold owK; omega
    have hne : Int32.toNatClampNeg wd ≠ Int32.toNatClampNeg iw := by rw [ecd, eci]; omega
    have ew40 : wd.toInt.toNat = 40 * fo + j := by omega
    have wl1 : vdM F (40 * (wd.toInt.toNat / 40) + (F 13 (Int32.toNatClampNeg wd)).toInt.toNat) (H nd.toInt.toNat).2.2.2.1 := by
      rw [p13, w1, Int.toNat_natCast, ew40]
      exact vdM_cg (fun r hr => hb.1 r (by simp only [List.mem_cons, List.not_mem_nil, or_false] at hr ⊢; omega)) wl
    have hgf : x2.toInt = (f : Int) ∧ 40 * (wd.toInt.toNat / 40) + 40 ≤ 40 * f := by rw [ew40]; omega
    refine gz_istore (lv' := [(6, .int wd), (0, .ref m), (1, .int x1), (2, .int x2), (3, .int nd), (4, .int up), (5, .int iw)]) dX12_laysOut_259 (by decide) rfl ?_
    refine gz_aload_n dX12_laysOut_261 rfl rfl ?_
    refine mg_41 hS dX12_laysOut_262 ?_
    refine gz_iload dX12_laysOut_265 rfl ?_
    refine gz_aload_n dX12_laysOut_267 rfl rfl ?_
    refine gz_iload dX12_laysOut_268 rfl ?_
    refine gz_aload_n dX12_laysOut_270 rfl rfl ?_
    refine mg_38 hS dX12_laysOut_271 ?_
    refine gz_iload dX12_laysOut_274 rfl ?_
    refine m_iald 13 hS rfl (N := 880) rfl ((by exact vin_T (rfl : wd.toInt = wd.toInt) (by omega) (by omega))) dX12_laysOut_276 ?_
    refine gz_aload_n dX12_laysOut_277 rfl rfl ?_
    refine mg_41 hS dX12_laysOut_278 ?_
    refine gz_iload dX12_laysOut_281 rfl ?_
    refine m_iald 14 hS rfl (N := 880) rfl ((by exact vin_T (rfl : wd.toInt = wd.toInt) (by omega) (by omega))) dX12_laysOut_283 ?_
    refine gz_iload_n dX12_laysOut_284 rfl rfl ?_
    refine scX12_531 (k_X12_copiesE (x1 := wd) (x2 := ((F 13) (Int32.toNatClampNeg wd))) (x3 := ((F 14) (Int32.toNatClampNeg wd))) (x4 := x2) (L := (H nd.toInt.toNat).2.2.2.1) (g := f) (V := V0) hS (by omega) hA (by omega) (by omega) hgf (by rw [p17]; exact hV0) wl1) hS.1 ⟨(Nat.le_of_ble_eq_true rfl), (Nat.le_of_ble_eq_true rfl)⟩ ⟨(Nat.le_of_ble_eq_true rfl), (Nat.le_of_ble_eq_true rfl)⟩ rfl rfl (Nat.le_of_ble_eq_true rfl) dX12_laysOut_285 ?_
    rintro r_1 f_1 ⟨n_1, z_1, F_1, G_1, hS_1, hx1, hA_1, hr_1, hq_1, ho_1, hvv_1, hlo_1⟩
    refine m_iast 14 hS_1 rfl (N := 880) rfl ((by exact vin_T (rfl : iw.toInt = iw.toInt) (by omega) (by omega))) dX12_laysOut_288 (fun f_2 hS_2q => ?_)
    have hS_2 : mS cy m a f0 n_1 z_1 (va_up F_1 14 (upd (F 14) (Int32.toNatClampNeg iw) r_1)) G_1 f_2 := (by have e9 := (show F_1 14 = (F 14) from (hx1.2.2.1 14 (by decide))); rw [e9] at hS_2q; exact hS_2q)
    refine gz_aload_n dX12_laysOut_289 rfl rfl ?_
    refine mg_44 hS_2 dX12_laysOut_290 ?_
    refine gz_iload dX12_laysOut_293 rfl ?_
    refine gz_aload_n dX12_laysOut_295 rfl rfl ?_
    refine gz_iload dX12_laysOut_296 rfl ?_
    refine gz_aload_n dX12_laysOut_298 rfl rfl ?_
    refine mg_41 hS_2 dX12_laysOut_299 ?_
    refine gz_iload dX12_laysOut_302 rfl ?_
    refine m_iald 14 hS_2 rfl (N := 880) rfl ((by exact vin_T (rfl : wd.toInt = wd.toInt) (by omega) (by omega))) dX12_laysOut_304 ?_
    refine gz_ev (w := .int ((upd (F 14) (Int32.toNatClampNeg iw) r_1) (Int32.toNatClampNeg wd))) rfl ?_
    refine gz_ev (w := .int (F 14 (Int32.toNatClampNeg wd))) (congrArg Value.int (by rw [updE, if_neg hne])) ?_
    refine gz_aload_n dX12_laysOut_305 rfl rfl ?_
    refine mg_44 hS_2 dX12_laysOut_306 ?_
    refine gz_iload dX12_laysOut_309 rfl ?_
    refine m_iald 15 hS_2 rfl (N := 880) rfl ((by exact vin_T (rfl : wd.toInt = wd.toInt) (by omega) (by omega))) dX12_laysOut_311 ?_
    refine gz_ev (w := .int ((F 15) (Int32.toNatClampNeg wd))) (congrArg Value.int (congrFun (hx1.2.2.1 15 (by decide)) _)) ?_
    refine gz_iload_n dX12_laysOut_312 rfl rfl ?_
    have hA5 : rAll (va_up F_1 14 (upd (F 14) (Int32.toNatClampNeg iw) r_1)) := by
      intro q hq
      obtain ⟨q1, q2, q3, q4⟩ := hA_1 q hq
      refine ⟨q1, ?_, q3, q4⟩
      rw [show (va_up F_1 14 (upd (F 14) (Int32.toNatClampNeg iw) r_1)) 14 = (upd (F 14) (Int32.toNatClampNeg iw) r_1) from rfl, updE]
      split
      · omega
      · have := (hA q hq).2.1; omega
    have e17 : ((va_up F_1 14 (upd (F 14) (Int32.toNatClampNeg iw) r_1)) 17 (Int32.toNatClampNeg x2)).toInt = r_1.toInt := by rw [hr_1]; rfl
    have u17_ : (va_up F_1 14 (upd (F 14) (Int32.toNatClampNeg iw) r_1)) 17 = (F_1 17) := rfl
    have u18_ : (va_up F_1 14 (upd (F 14) (Int32.toNatClampNeg iw) r_1)) 18 = (F_1 18) := rfl
    have u19_ : (va_up F_1 14 (upd (F 14) (Int32.toNatClampNeg iw) r_1)) 19 = (F_1 19) := rfl
    have u20_ : (va_up F_1 14 (upd (F 14) (Int32.toNatClampNeg iw) r_1)) 20 = (F_1 20) := rfl
    have wr1 : vdM (va_up F_1 14 (upd (F 14) (Int32.toNatClampNeg iw) r_1)) (40 * (wd.toInt.toNat / 40) + (F 14 (Int32.toNatClampNeg wd)).toInt.toNat) (H nd.toInt.toNat).2.2.2.2 := by
      rw [p14, w2, ew40, show ((Vw : Int) + ((H nd.toInt.toNat).2.2.2.1.length : Int)).toNat = Vw + (H nd.toInt.toNat).2.2.2.1.length by omega]
      refine vdM_lo (F := Fs) (B := 40 * f) (fun r hr i hi => ?_) (by omega) wr
      have lo_ := hlo_1 i hi
      simp only [List.mem_cons, List.not_mem_nil, or_false] at hr
      rcases hr with rfl | rfl | rfl
      · rw [u18_]; exact lo_.1.trans (congrFun (hb.1 18 (by decide)) i)
      · rw [u19_]; exact lo_.2.1.trans (congrFun (hb.1 19 (by decide)) i)
      · rw [u20_]; exact lo_.2.2.trans (congrFun (hb.1 20 (by decide)) i)
    have hV1 : ((va_up F_1 14 (upd (F 14) (Int32.toNatClampNeg iw) r_1)) 17 (Int32.toNatClampNeg x2)).toInt = ((V0 + (H nd.toInt.toNat).2.2.2.1.length : Nat) : Int) := by rw [e17]; omega
    refine scX12_531 (k_X12_copiesE (x1 := wd) (x2 := (F 14 (Int32.toNatClampNeg wd))) (x3 := ((F 15) (Int32.toNatClampNeg wd))) (x4 := x2) (L := (H nd.toInt.toNat).2.2.2.2) (g := f) (V := V0 + (H nd.toInt.toNat).2.2.2.1.length) hS_2 (by omega) hA5 (by omega) (by omega) hgf hV1 wr1) hS_2.1 ⟨(Nat.le_of_ble_eq_true rfl), (Nat.le_of_ble_eq_true rfl)⟩ ⟨(Nat.le_of_ble_eq_true rfl), (Nat.le_of_ble_eq_true rfl)⟩ rfl rfl (Nat.le_of_ble_eq_true rfl) dX12_laysOut_313 ?_
    rintro r_3 f_3 ⟨n_3, z_3, F_3, G_3, hS_3, hx3, hA_3, hr_3, hq_3, ho_3, hvv_3, hlo_3⟩
    refine m_iast 15 hS_3 rfl (N := 880) rfl ((by exact vin_T (rfl : iw.toInt = iw.toInt) (by omega) (by omega))) dX12_laysOut_316 (fun f_4 hS_4q => ?_)
    have hS_4 : mS cy m a f0 n_3 z_3 (va_up F_3 15 (upd (F 15) (Int32.toNatClampNeg iw) r_3)) G_3 f_4 := (by have e9 := (show F_3 15 = (F 15) from ((hx3.2.2.1 15 (by decide)).trans (hx1.2.2.1 15 (by decide)))); rw [e9] at hS_4q; exact hS_4q)
    refine gz_aload_n dX12_laysOut_317 rfl rfl ?_
    refine mg_47 hS_4 dX12_laysOut_318 ?_
    refine gz_iload dX12_laysOut_321 rfl ?_
    refine gz_aload_n dX12_laysOut_323 rfl rfl ?_
    refine mg_47 hS_4 dX12_laysOut_324 ?_
    refine gz_iload dX12_laysOut_327 rfl ?_
    refine m_iald 16 hS_4 rfl (N := 880) rfl ((by exact vin_T (rfl : wd.toInt = wd.toInt) (by omega) (by omega))) dX12_laysOut_329 ?_
    refine gz_ev (w := .int ((F 16) (Int32.toNatClampNeg wd))) (congrArg Value.int (congrFun ((hx3.2.2.1 16 (by decide)).trans (hx1.2.2.1 16 (by decide))) _)) ?_
    refine m_iast 16 hS_4 rfl (N := 880) rfl ((by exact vin_T (rfl : iw.toInt = iw.toInt) (by omega) (by omega))) dX12_laysOut_330 (fun f_5 hS_5q => ?_)
    have hS_5 : mS cy m a f0 n_3 z_3 (va_up (va_up F_3 15 (upd (F 15) (Int32.toNatClampNeg iw) r_3)) 16 (upd (F 16) (Int32.toNatClampNeg iw) ((F 16) (Int32.toNatClampNeg wd)))) G_3 f_5 := (by have e9 := (show (va_up F_3 15 (upd (F 15) (Int32.toNatClampNeg iw) r_3)) 16 = (F 16) from ((hx3.2.2.1 16 (by decide)).trans (hx1.2.2.1 16 (by decide)))); rw [e9] at hS_5q; exact hS_5q)
    refine gz_aload_n dX12_laysOut_331 rfl rfl ?_
    refine mg_20 hS_5 dX12_laysOut_332 ?_
    refine gz_iload dX12_laysOut_335 rfl ?_
    refine m_iald 7 hS_5 rfl (N := 880) rfl ((by exact vin_T (rfl : iw.toInt = iw.toInt) (by omega) (by omega))) dX12_laysOut_337 ?_
    refine gz_ev (w := .int ((F 7) (Int32.toNatClampNeg iw))) (congrArg Value.int (congrFun ((hx3.2.2.1 7 (by decide)).trans (hx1.2.2.1 7 (by decide))) _)) ?_
    refine gz_iconst (v := 3) dX12_laysOut_338 (by decide) ?_
    refine gz_icmp_eq (tgt := 364) dX12_laysOut_339 (by decide) (fun c_339 => ?_) (fun c_339 => ?_)
    ·
      try simp only [mIn_0, lgc_lt, lgc_gt, lgc_le, lgc_ge, lgc_eq] at c_339
      try simp only [fl_lt, fl_le, fl_eq, fL_w, fL_lt, fL_le, tm1, tm10k, tm9, tm99, Int32.reduceToInt, Int64.reduceToInt, Int.not_lt, Int.not_le] at c_339
      refine gz_aload_n dX12_laysOut_364 rfl rfl ?_
      refine gz_aload_n dX12_laysOut_365 rfl rfl ?_
      refine mg_219 hS_5 dX12_laysOut_366 ?_
      refine gz_iload_n dX12_laysOut_369 rfl rfl ?_
      refine m_iald 79 hS_5 rfl (N := 82) rfl ((by exact vin_T (rfl : nd.toInt = nd.toInt) (by omega) (by omega))) dX12_laysOut_370 ?_
      refine gz_ev (w := .int ((F 79) (Int32.toNatClampNeg nd))) (congrArg Value.int (congrFun ((hx3.2.2.1 79 (by decide)).trans (hx1.2.2.1 79 (by decide))) _)) ?_
      refine gz_iload dX12_laysOut_371 rfl ?_
      refine gz_iconst (v := 1) dX12_laysOut_373 (by decide) ?_
      refine scX12_527 (k_X12_laysT (x1 := ((F 79) (Int32.toNatClampNeg nd))) (x2 := iw) (x3 := 1) hS_5 (by rw [(show n_3 83 = (n 83) from ((hx3.1 83 (by decide)).trans (hx1.1 83 (by decide))))]; omega)) hS_5.1 ⟨(Nat.le_of_ble_eq_true rfl), (Nat.le_of_ble_eq_true rfl)⟩ ⟨(Nat.le_of_ble_eq_true rfl), (Nat.le_of_ble_eq_true rfl)⟩ rfl rfl (Nat.le_of_ble_eq_true rfl) dX12_laysOut_374 ?_
      rintro f_6 ⟨n_6, z_6, F_6, G_6, hS_6, hx6, h83_6, h84_6, h85_6, h86_6⟩
      try simp only [(show n_3 83 = (n 83) from ((hx3.1 83 (by decide)).trans (hx1.1 83 (by decide))))] at h83_6 h84_6 h85_6 h86_6
      try rw [show n_3 83 = (n 83) from ((hx3.1 83 (by decide)).trans (hx1.1 83 (by decide)))] at h83_6 h84_6 h85_6 h86_6
      try rw [show (va_up (va_up F_3 15 (upd (F 15) (Int32.toNatClampNeg iw) r_3)) 16 (upd (F 16) (Int32.toNatClampNeg iw) ((F 16) (Int32.toNatClampNeg wd)))) 84 = (F 84) from ((hx3.2.2.1 84 (by decide)).trans (hx1.2.2.1 84 (by decide)))] at h84_6
      try rw [show (va_up (va_up F_3 15 (upd (F 15) (Int32.toNatClampNeg iw) r_3)) 16 (upd (F 16) (Int32.toNatClampNeg iw) ((F 16) (Int32.toNatClampNeg wd)))) 85 = (F 85) from ((hx3.2.2.1 85 (by decide)).trans (hx1.2.2.1 85 (by decide)))] at h85_6
      try rw [show (va_up (va_up F_3 15 (upd (F 15) (Int32.toNatClampNeg iw) r_3)) 16 (upd (F 16) (Int32.toNatClampNeg iw) ((F 16) (Int32.toNatClampNeg wd)))) 86 = (F 86) from ((hx3.2.2.1 86 (by decide)).trans (hx1.2.2.1 86 (by decide)))] at h86_6
      refine gz_aload_n dX12_laysOut_377 rfl rfl ?_
      refine gz_aload_n dX12_laysOut_378 rfl rfl ?_
      refine mg_216 hS_6 dX12_laysOut_379 ?_
      refine gz_iload_n dX12_laysOut_382 rfl rfl ?_
      refine m_iald 78 hS_6 rfl (N := 82) rfl ((by exact vin_T (rfl : nd.toInt = nd.toInt) (by omega) (by omega))) dX12_laysOut_383 ?_
      refine gz_ev (w := .int ((F 78) (Int32.toNatClampNeg nd))) (congrArg Value.int (congrFun ((hx6.2.2.1 78 (by decide)).trans ((hx3.2.2.1 78 (by decide)).trans (hx1.2.2.1 78 (by decide)))) _)) ?_
      refine gz_iload dX12_laysOut_384 rfl ?_
      refine gz_iconst (v := 0) dX12_laysOut_386 (by decide) ?_
      refine scX12_527 (k_X12_laysT (x1 := ((F 78) (Int32.toNatClampNeg nd))) (x2 := iw) (x3 := 0) hS_6 (by rw [(show n_6 83 = ((n 83) + 1) from h83_6)]; have q83 := T_add (rfl : (n 83).toInt = (n 83).toInt) (show (1 : Int32).toInt = 1 from rfl) (by omega); omega)) hS_6.1 ⟨(Nat.le_of_ble_eq_true rfl), (Nat.le_of_ble_eq_true rfl)⟩ ⟨(Nat.le_of_ble_eq_true rfl), (Nat.le_of_ble_eq_true rfl)⟩ rfl rfl (Nat.le_of_ble_eq_true rfl) dX12_laysOut_387 ?_
      rintro f_7 ⟨n_7, z_7, F_7, G_7, hS_7, hx7, h83_7, h84_7, h85_7, h86_7⟩
      try simp only [(show n_6 83 = ((n 83) + 1) from h83_6)] at h83_7 h84_7 h85_7 h86_7
      try rw [show n_6 83 = ((n 83) + 1) from h83_6] at h83_7 h84_7 h85_7 h86_7
      try rw [show F_6 84 = (upd (F 84) (Int32.toNatClampNeg (n 83)) ((F 79) (Int32.toNatClampNeg nd))) from h84_6] at h84_7
      try rw [show F_6 85 = (upd (F 85) (Int32.toNatClampNeg (n 83)) iw) from h85_6] at h85_7
      try rw [show F_6 86 = (upd (F 86) (Int32.toNatClampNeg (n 83)) (vp_nar .boolean 1)) from h86_6] at h86_7
      refine gz_goto (tgt := 26) dX12_laysOut_390 (by decide) ?_
      have s6_ : F_7 6 = (F 6) := ((hx7.2.2.1 6 (by decide)).trans ((hx6.2.2.1 6 (by decide)).trans ((hx3.2.2.1 6 (by decide)).trans (hx1.2.2.1 6 (by decide)))))
      have s7_ : F_7 7 = (F 7) := ((hx7.2.2.1 7 (by decide)).trans ((hx6.2.2.1 7 (by decide)).trans ((hx3.2.2.1 7 (by decide)).trans (hx1.2.2.1 7 (by decide)))))
      have s8_ : F_7 8 = (F 8) := ((hx7.2.2.1 8 (by decide)).trans ((hx6.2.2.1 8 (by decide)).trans ((hx3.2.2.1 8 (by decide)).trans (hx1.2.2.1 8 (by decide)))))
      have s9_ : F_7 9 = (F 9) := ((hx7.2.2.1 9 (by decide)).trans ((hx6.2.2.1 9 (by decide)).trans ((hx3.2.2.1 9 (by decide)).trans (hx1.2.2.1 9 (by decide)))))
      have s10_ : F_7 10 = (F 10) := ((hx7.2.2.1 10 (by decide)).trans ((hx6.2.2.1 10 (by decide)).trans ((hx3.2.2.1 10 (by decide)).trans (hx1.2.2.1 10 (by decide)))))
      have s11_ : F_7 11 = (F 11) := ((hx7.2.2.1 11 (by decide)).trans ((hx6.2.2.1 11 (by decide)).trans ((hx3.2.2.1 11 (by decide)).trans (hx1.2.2.1 11 (by decide)))))
      have s12_ : F_7 12 = (F 12) := ((hx7.2.2.1 12 (by decide)).trans ((hx6.2.2.1 12 (by decide)).trans ((hx3.2.2.1 12 (by decide)).trans (hx1.2.2.1 12 (by decide)))))
      have s13_ : F_7 13 = (F 13) := ((hx7.2.2.1 13 (by decide)).trans ((hx6.2.2.1 13 (by decide)).trans ((hx3.2.2.1 13 (by decide)).trans (hx1.2.2.1 13 (by decide)))))
      have s14_ : F_7 14 = (upd (F 14) (Int32.toNatClampNeg iw) r_1) := ((hx7.2.2.1 14 (by decide)).trans ((hx6.2.2.1 14 (by decide)).trans (hx3.2.2.1 14 (by decide))))
      have s15_ : F_7 15 = (upd (F 15) (Int32.toNatClampNeg iw) r_3) := ((hx7.2.2.1 15 (by decide)).trans (hx6.2.2.1 15 (by decide)))
      have s16_ : F_7 16 = (upd (F 16) (Int32.toNatClampNeg iw) ((F 16) (Int32.toNatClampNeg wd))) := ((hx7.2.2.1 16 (by decide)).trans (hx6.2.2.1 16 (by decide)))
      have s17_ : F_7 17 = (F_3 17) := ((hx7.2.2.1 17 (by decide)).trans (hx6.2.2.1 17 (by decide)))
      have s18_ : F_7 18 = (F_3 18) := ((hx7.2.2.1 18 (by decide)).trans (hx6.2.2.1 18 (by decide)))
      have s19_ : F_7 19 = (F_3 19) := ((hx7.2.2.1 19 (by decide)).trans (hx6.2.2.1 19 (by decide)))
      have s20_ : F_7 20 = (F_3 20) := ((hx7.2.2.1 20 (by decide)).trans (hx6.2.2.1 20 (by decide)))
      have s76_ : F_7 76 = (F 76) := ((hx7.2.2.1 76 (by decide)).trans ((hx6.2.2.1 76 (by decide)).trans ((hx3.2.2.1 76 (by decide)).trans (hx1.2.2.1 76 (by decide)))))
      have s78_ : F_7 78 = (F 78) := ((hx7.2.2.1 78 (by decide)).trans ((hx6.2.2.1 78 (by decide)).trans ((hx3.2.2.1 78 (by decide)).trans (hx1.2.2.1 78 (by decide)))))
      have s79_ : F_7 79 = (F 79) := ((hx7.2.2.1 79 (by decide)).trans ((hx6.2.2.1 79 (by decide)).trans ((hx3.2.2.1 79 (by decide)).trans (hx1.2.2.1 79 (by decide)))))
      have s80_ : F_7 80 = (F 80) := ((hx7.2.2.1 80 (by decide)).trans ((hx6.2.2.1 80 (by decide)).trans ((hx3.2.2.1 80 (by decide)).trans (hx1.2.2.1 80 (by decide)))))
      have s82_ : F_7 82 = (F 82) := ((hx7.2.2.1 82 (by decide)).trans ((hx6.2.2.1 82 (by decide)).trans ((hx3.2.2.1 82 (by decide)).trans (hx1.2.2.1 82 (by decide)))))
      have s84_ : F_7 84 = (upd (upd (F 84) (Int32.toNatClampNeg (n 83)) ((F 79) (Int32.toNatClampNeg nd))) (Int32.toNatClampNeg ((n 83) + 1)) ((F 78) (Int32.toNatClampNeg nd))) := h84_7
      have s85_ : F_7 85 = (upd (upd (F 85) (Int32.toNatClampNeg (n 83)) iw) (Int32.toNatClampNeg ((n 83) + 1)) iw) := h85_7
      have s86_ : F_7 86 = (upd (upd (F 86) (Int32.toNatClampNeg (n 83)) (vp_nar .boolean 1)) (Int32.toNatClampNeg ((n 83) + 1)) (vp_nar .boolean 0)) := h86_7
      have qn83 : (n 83 + 1).toInt = (T : Int) + 1 := by have q := T_add (rfl : (n 83).toInt = (n 83).toInt) (show (1 : Int32).toInt = 1 from rfl) (by omega); omega
      have ec0 : Int32.toNatClampNeg (n 83) = T := by rw [clN]; omega
      have ec1 : Int32.toNatClampNeg (n 83 + 1) = T + 1 := by rw [clN]; omega
      have qn84 : (n 83 + 1 + 1).toInt = (T : Int) + 2 := by have q := T_add qn83 (show (1 : Int32).toInt = 1 from rfl) (by omega); omega
      have h83e : (n_7 83).toInt = ((T + 2 : Nat) : Int) := by rw [show n_7 83 = (((n 83) + 1) + 1) from h83_7]; omega
      have v15 : F_7 15 (40 * f + W) = r_3 := by rw [s15_, ← eci, updE, if_pos rfl]
      have v14 : F_7 14 (40 * f + W) = r_1 := by rw [s14_, ← eci, updE, if_pos rfl]
      have v13 : (F_7 13 (40 * f + W)).toInt = (Fs 17 f).toInt := by rw [s13_]; exact h13
      have v17 : (F_7 17 f).toInt = r_3.toInt := by rw [s17_, hr_3, ecf]
      have hA9 : rAll F_7 := by
        intro q hq
        obtain ⟨q1, q2, q3, q4⟩ := hA_3 q hq
        obtain ⟨y1, y2, y3, y4⟩ := hA5 q hq
        obtain ⟨x1_, x2_, x3_, x4_⟩ := hA q hq
        rw [s13_, s14_, s15_, s19_]
        refine ⟨x1_, ?_, ?_, q4⟩
        · rw [updE]; split
          · omega
          · exact x2_
        · rw [updE]; split
          · omega
          · exact x3_
      have same : ∀ r, r ∈ [6, 7, 9, 10, 11, 12, 13, 76, 78, 79, 80, 82] → F_7 r = F r := by
        intro r hr
        simp only [List.mem_cons, List.not_mem_nil, or_false] at hr
        rcases hr with rfl | rfl | rfl | rfl | rfl | rfl | rfl | rfl | rfl | rfl | rfl | rfl
        · exact s6_
        · exact s7_
        · exact s9_
        · exact s10_
        · exact s11_
        · exact s12_
        · exact s13_
        · exact s76_
        · exact s78_
        · exact s79_
        · exact s80_
        · exact s82_
      have off : ∀ r, r ∈ [14, 15] → ∀ i, i ≠ 40 * f + W → F_7 r i = F r i := by
        intro r hr i hi
        rw [← eci] at hi
        simp only [List.mem_cons, List.not_mem_nil, or_false] at hr
        rcases hr with rfl | rfl
        · rw [s14_, updE, if_neg hi]
        · rw [s15_, updE, if_neg hi]
      have h84e : ∀ r, r ∈ [84, 85, 86] → ∀ q, q < T → F_7 r q = F r q := by
        intro r hr q hq
        simp only [List.mem_cons, List.not_mem_nil, or_false] at hr
        rcases hr with rfl | rfl | rfl
        · rw [s84_, ec0, ec1, updE, if_neg (by omega), updE, if_neg (by omega)]
        · rw [s85_, ec0, ec1, updE, if_neg (by omega), updE, if_neg (by omega)]
        · rw [s86_, ec0, ec1, updE, if_neg (by omega), updE, if_neg (by omega)]
      have k7 : F_7 7 (40 * f + W) = Fs 76 nd.toInt.toNat := by rw [s7_]; exact h7
      have htk : tkN Fs F_7 f W T (T + 2) nd.toInt.toNat := Or.inl ⟨(by unfold prK; rw [k7, ← q7]; omega), (by rw [s84_, ec0, ec1, updE, if_neg (by omega), updE, if_pos rfl]; exact congrFun (hb.1 79 (by decide)) _), (by rw [s84_, ec0, ec1, updE, if_pos rfl]; exact congrFun (hb.1 78 (by decide)) _), (by rw [s85_, ec0, ec1, updE, if_neg (by omega), updE, if_pos rfl]; exact hwi.1), (by unfold twB; rw [s86_, ec0, ec1, updE, if_neg (by omega), updE, if_pos rfl]; first | decide | rfl), (by rw [s85_, ec0, ec1, updE, if_pos rfl]; exact hwi.1), (by unfold twB; rw [s86_, ec0, ec1, updE, if_pos rfl]; first | decide | rfl), rfl⟩
      have hJ : LYJ F0 n_7 F_7 f fo Wn (W + 1) (T + 2) := LYJ_deep hf.2.2.1 hf.2.2.2 hc hb same off h84e (by rw [v13, v14, v15]; omega) h83e hA9 h7 hk2 (fun j_ hj_ => by have ej_ : j_ = j := (by omega); subst ej_; rw [v15, v13]; omega) (by rw [v17, v15, v13]; omega) htk
      have o8_ : ∀ i, i ≠ 40 * f + W → F_7 8 i = Fs 8 i := fun i hi => by rw [s8_]; exact o8 i hi
      have o16F : ∀ i, i ≠ 40 * f + W → F_7 16 i = F 16 i := fun i hi => by rw [← eci] at hi; rw [s16_, updE, if_neg hi]
      have v16 : F_7 16 (40 * f + W) = Fs 16 (40 * fo + j) := by rw [s16_, ← eci, updE, if_pos rfl, ecd]; exact congrFun (hb.1 16 (by decide)) _
      have enV : V0 + nvH (H nd.toInt.toNat) = V0 + (H nd.toInt.toNat).2.2.2.1.length + (H nd.toInt.toNat).2.2.2.2.length := by unfold nvH; omega
      have hvE : ∀ c, LRv Fs f c V0 → LRv F_7 f (putV (vsH (H nd.toInt.toNat)) V0 c) (V0 + nvH (H nd.toInt.toNat)) := fun c hc0 => by
        have a1 := hvv_1 c (LRv_rw (hb.1 18 (by decide)) (hb.1 19 (by decide)) (hb.1 20 (by decide)) hc0)
        have a2 := hvv_3 _ (LRv_rw (F2 := (va_up F_1 14 (upd (F 14) (Int32.toNatClampNeg iw) r_1))) u18_ u19_ u20_ a1)
        rw [putV_app] at a2
        rw [enV]
        exact LRv_rw s18_ s19_ s20_ a2
      have loE : lo3 F F_7 f := fun i hi => by
        have l1 := hlo_1 i hi
        have l2 := hlo_3 i hi
        rw [u18_, u19_, u20_] at l2
        rw [s18_, s19_, s20_]
        exact ⟨l2.1.trans l1.1, l2.2.1.trans l1.2.1, l2.2.2.trans l1.2.2⟩
      have o17_ : ∀ q, q ≠ f → F_7 17 q = F 17 q := fun q hq => by rw [s17_]; exact (ho_3 q (by rw [ecf]; exact hq)).trans ((congrFun u17_ q).trans (ho_1 q (by rw [ecf]; exact hq)))
      have hlw2 : lowR F0 F_7 f := low_C hlB same off s8_ o16F o17_ loE
      have hZ2 : LZ F_7 f Wn H fi se FIN NW NV (W + 1) (T + 2) := LZ_deep (F0 := F) hZ hE hTL c3.1 hb c2 same off h84e o8_ (fun i hi => (o16F i hi).trans (congrFun (hb.1 16 (by decide)) i)) h7 (by rw [s8_]; exact h8) hk2 hV0 (by rw [v13]; exact hV0) (by rw [v14]; omega) (by rw [v15]; omega) v16 n1 hvE (by rw [v17]; omega) htk
      refine gz_sub (lv' := [(0, .ref m), (1, .int x1), (2, .int x2)]) (by simp [List.lookup]) ?_
      exact hq_ (T + 2) _ _ _ _ _ hS_7 (fx_tr (fx_tr (fx_F (fx_F (fx_tr (fx_F (fx_tr hx hx1 (by decide)) (by decide)) hx3 (by decide)) (by decide)) (by decide)) hx6 (by decide)) hx7 (by decide)) hJ hZ2 hlw2
    ·
      try simp only [mIn_0, lgc_lt, lgc_gt, lgc_le, lgc_ge, lgc_eq] at c_339
      try simp only [fl_lt, fl_le, fl_eq, fL_w, fL_lt, fL_le, tm1, tm10k, tm9, tm99, Int32.reduceToInt, Int64.reduceToInt, Int.not_lt, Int.not_le] at c_339
      refine gz_aload_n dX12_laysOut_342 rfl rfl ?_
      refine mg_20 hS_5 dX12_laysOut_343 ?_
      refine gz_iload dX12_laysOut_346 rfl ?_
      refine m_iald 7 hS_5 rfl (N := 880) rfl ((by exact vin_T (rfl : iw.toInt = iw.toInt) (by omega) (by omega))) dX12_laysOut_348 ?_
      refine gz_ev (w := .int ((F 7) (Int32.toNatClampNeg iw))) (congrArg Value.int (congrFun ((hx3.2.2.1 7 (by decide)).trans (hx1.2.2.1 7 (by decide))) _)) ?_
      refine gz_iconst (v := 4) dX12_laysOut_349 (by decide) ?_
      refine gz_icmp_eq (tgt := 364) dX12_laysOut_350 (by decide) (fun c_350 => ?_) (fun c_350 => ?_)
      ·
        try simp only [mIn_0, lgc_lt, lgc_gt, lgc_le, lgc_ge, lgc_eq] at c_350
        try simp only [fl_lt, fl_le, fl_eq, fL_w, fL_lt, fL_le, tm1, tm10k, tm9, tm99, Int32.reduceToInt, Int64.reduceToInt, Int.not_lt, Int.not_le] at c_350
        refine gz_aload_n dX12_laysOut_364 rfl rfl ?_
        refine gz_aload_n dX12_laysOut_365 rfl rfl ?_
        refine mg_219 hS_5 dX12_laysOut_366 ?_
        refine gz_iload_n dX12_laysOut_369 rfl rfl ?_
        refine m_iald 79 hS_5 rfl (N := 82) rfl ((by exact vin_T (rfl : nd.toInt = nd.toInt) (by omega) (by omega))) dX12_laysOut_370 ?_
        refine gz_ev (w := .int ((F 79) (Int32.toNatClampNeg nd))) (congrArg Value.int (congrFun ((hx3.2.2.1 79 (by decide)).trans (hx1.2.2.1 79 (by decide))) _)) ?_
        refine gz_iload dX12_laysOut_371 rfl ?_
        refine gz_iconst (v := 1) dX12_laysOut_373 (by decide) ?_
        refine scX12_527 (k_X12_laysT (x1 := ((F 79) (Int32.toNatClampNeg nd))) (x2 := iw) (x3 := 1) hS_5 (by rw [(show n_3 83 = (n 83) from ((hx3.1 83 (by decide)).trans (hx1.1 83 (by decide))))]; omega)) hS_5.1 ⟨(Nat.le_of_ble_eq_true rfl), (Nat.le_of_ble_eq_true rfl)⟩ ⟨(Nat.le_of_ble_eq_true rfl), (Nat.le_of_ble_eq_true rfl)⟩ rfl rfl (Nat.le_of_ble_eq_true rfl) dX12_laysOut_374 ?_
        rintro f_8 ⟨n_8, z_8, F_8, G_8, hS_8, hx8, h83_8, h84_8, h85_8, h86_8⟩
        try simp only [(show n_3 83 = (n 83) from ((hx3.1 83 (by decide)).trans (hx1.1 83 (by decide))))] at h83_8 h84_8 h85_8 h86_8
        try rw [show n_3 83 = (n 83) from ((hx3.1 83 (by decide)).trans (hx1.1 83 (by decide)))] at h83_8 h84_8 h85_8 h86_8
        try rw [show (va_up (va_up F_3 15 (upd (F 15) (Int32.toNatClampNeg iw) r_3)) 16 (upd (F 16) (Int32.toNatClampNeg iw) ((F 16) (Int32.toNatClampNeg wd)))) 84 = (F 84) from ((hx3.2.2.1 84 (by decide)).trans (hx1.2.2.1 84 (by decide)))] at h84_8
        try rw [show (va_up (va_up F_3 15 (upd (F 15) (Int32.toNatClampNeg iw) r_3)) 16 (upd (F 16) (Int32.toNatClampNeg iw) ((F 16) (Int32.toNatClampNeg wd)))) 85 = (F 85) from ((hx3.2.2.1 85 (by decide)).trans (hx1.2.2.1 85 (by decide)))] at h85_8
        try rw [show (va_up (va_up F_3 15 (upd (F 15) (Int32.toNatClampNeg iw) r_3)) 16 (upd (F 16) (Int32.toNatClampNeg iw) ((F 16) (Int32.toNatClampNeg wd)))) 86 = (F 86) from ((hx3.2.2.1 86 (by decide)).trans (hx1.2.2.1 86 (by decide)))] at h86_8
        refine gz_aload_n dX12_laysOut_377 rfl rfl ?_
        refine gz_aload_n dX12_laysOut_378 rfl rfl ?_
        refine mg_216 hS_8 dX12_laysOut_379 ?_
        refine gz_iload_n dX12_laysOut_382 rfl rfl ?_
        refine m_iald 78 hS_8 rfl (N := 82) rfl ((by exact vin_T (rfl : nd.toInt = nd.toInt) (by omega) (by omega))) dX12_laysOut_383 ?_
        refine gz_ev (w := .int ((F 78) (Int32.toNatClampNeg nd))) (congrArg Value.int (congrFun ((hx8.2.2.1 78 (by decide)).trans ((hx3.2.2.1 78 (by decide)).trans (hx1.2.2.1 78 (by decide)))) _)) ?_
        refine gz_iload dX12_laysOut_384 rfl ?_
        refine gz_iconst (v := 0) dX12_laysOut_386 (by decide) ?_
        refine scX12_527 (k_X12_laysT (x1 := ((F 78) (Int32.toNatClampNeg nd))) (x2 := iw) (x3 := 0) hS_8 (by rw [(show n_8 83 = ((n 83) + 1) from h83_8)]; have q83 := T_add (rfl : (n 83).toInt = (n 83).toInt) (show (1 : Int32).toInt = 1 from rfl) (by omega); omega)) hS_8.1 ⟨(Nat.le_of_ble_eq_true rfl), (Nat.le_of_ble_eq_true rfl)⟩ ⟨(Nat.le_of_ble_eq_true rfl), (Nat.le_of_ble_eq_true rfl)⟩ rfl rfl (Nat.le_of_ble_eq_true rfl) dX12_laysOut_387 ?_
        rintro f_9 ⟨n_9, z_9, F_9, G_9, hS_9, hx9, h83_9, h84_9, h85_9, h86_9⟩
        try simp only [(show n_8 83 = ((n 83) + 1) from h83_8)] at h83_9 h84_9 h85_9 h86_9
        try rw [show n_8 83 = ((n 83) + 1) from h83_8] at h83_9 h84_9 h85_9 h86_9
        try rw [show F_8 84 = (upd (F 84) (Int32.toNatClampNeg (n 83)) ((F 79) (Int32.toNatClampNeg nd))) from h84_8] at h84_9
        try rw [show F_8 85 = (upd (F 85) (Int32.toNatClampNeg (n 83)) iw) from h85_8] at h85_9
        try rw [show F_8 86 = (upd (F 86) (Int32.toNatClampNeg (n 83)) (vp_nar .boolean 1)) from h86_8] at h86_9
        refine gz_goto (tgt := 26) dX12_laysOut_390 (by decide) ?_
        have s6_ : F_9 6 = (F 6) := ((hx9.2.2.1 6 (by decide)).trans ((hx8.2.2.1 6 (by decide)).trans ((hx3.2.2.1 6 (by decide)).trans (hx1.2.2.1 6 (by decide)))))
        have s7_ : F_9 7 = (F 7) := ((hx9.2.2.1 7 (by decide)).trans ((hx8.2.2.1 7 (by decide)).trans ((hx3.2.2.1 7 (by decide)).trans (hx1.2.2.1 7 (by decide)))))
        have s8_ : F_9 8 = (F 8) := ((hx9.2.2.1 8 (by decide)).trans ((hx8.2.2.1 8 (by decide)).trans ((hx3.2.2.1 8 (by decide)).trans (hx1.2.2.1 8 (by decide)))))
        have s9_ : F_9 9 = (F 9) := ((hx9.2.2.1 9 (by decide)).trans ((hx8.2.2.1 9 (by decide)).trans ((hx3.2.2.1 9 (by decide)).trans (hx1.2.2.1 9 (by decide)))))
        have s10_ : F_9 10 = (F 10) := ((hx9.2.2.1 10 (by decide)).trans ((hx8.2.2.1 10 (by decide)).trans ((hx3.2.2.1 10 (by decide)).trans (hx1.2.2.1 10 (by decide)))))
        have s11_ : F_9 11 = (F 11) := ((hx9.2.2.1 11 (by decide)).trans ((hx8.2.2.1 11 (by decide)).trans ((hx3.2.2.1 11 (by decide)).trans (hx1.2.2.1 11 (by decide)))))
        have s12_ : F_9 12 = (F 12) := ((hx9.2.2.1 12 (by decide)).trans ((hx8.2.2.1 12 (by decide)).trans ((hx3.2.2.1 12 (by decide)).trans (hx1.2.2.1 12 (by decide)))))
        have s13_ : F_9 13 = (F 13) := ((hx9.2.2.1 13 (by decide)).trans ((hx8.2.2.1 13 (by decide)).trans ((hx3.2.2.1 13 (by decide)).trans (hx1.2.2.1 13 (by decide)))))
        have s14_ : F_9 14 = (upd (F 14) (Int32.toNatClampNeg iw) r_1) := ((hx9.2.2.1 14 (by decide)).trans ((hx8.2.2.1 14 (by decide)).trans (hx3.2.2.1 14 (by decide))))
        have s15_ : F_9 15 = (upd (F 15) (Int32.toNatClampNeg iw) r_3) := ((hx9.2.2.1 15 (by decide)).trans (hx8.2.2.1 15 (by decide)))
        have s16_ : F_9 16 = (upd (F 16) (Int32.toNatClampNeg iw) ((F 16) (Int32.toNatClampNeg wd))) := ((hx9.2.2.1 16 (by decide)).trans (hx8.2.2.1 16 (by decide)))
        have s17_ : F_9 17 = (F_3 17) := ((hx9.2.2.1 17 (by decide)).trans (hx8.2.2.1 17 (by decide)))
        have s18_ : F_9 18 = (F_3 18) := ((hx9.2.2.1 18 (by decide)).trans (hx8.2.2.1 18 (by decide)))
        have s19_ : F_9 19 = (F_3 19) := ((hx9.2.2.1 19 (by decide)).trans (hx8.2.2.1 19 (by decide)))
        have s20_ : F_9 20 = (F_3 20) := ((hx9.2.2.1 20 (by decide)).trans (hx8.2.2.1 20 (by decide)))
        have s76_ : F_9 76 = (F 76) := ((hx9.2.2.1 76 (by decide)).trans ((hx8.2.2.1 76 (by decide)).trans ((hx3.2.2.1 76 (by decide)).trans (hx1.2.2.1 76 (by decide)))))
        have s78_ : F_9 78 = (F 78) := ((hx9.2.2.1 78 (by decide)).trans ((hx8.2.2.1 78 (by decide)).trans ((hx3.2.2.1 78 (by decide)).trans (hx1.2.2.1 78 (by decide)))))
        have s79_ : F_9 79 = (F 79) := ((hx9.2.2.1 79 (by decide)).trans ((hx8.2.2.1 79 (by decide)).trans ((hx3.2.2.1 79 (by decide)).trans (hx1.2.2.1 79 (by decide)))))
        have s80_ : F_9 80 = (F 80) := ((hx9.2.2.1 80 (by decide)).trans ((hx8.2.2.1 80 (by decide)).trans ((hx3.2.2.1 80 (by decide)).trans (hx1.2.2.1 80 (by decide)))))
        have s82_ : F_9 82 = (F 82) := ((hx9.2.2.1 82 (by decide)).trans ((hx8.2.2.1 82 (by decide)).trans ((hx3.2.2.1 82 (by decide)).trans (hx1.2.2.1 82 (by decide)))))
        have s84_ : F_9 84 = (upd (upd (F 84) (Int32.toNatClampNeg (n 83)) ((F 79) (Int32.toNatClampNeg nd))) (Int32.toNatClampNeg ((n 83) + 1)) ((F 78) (Int32.toNatClampNeg nd))) := h84_9
        have s85_ : F_9 85 = (upd (upd (F 85) (Int32.toNatClampNeg (n 83)) iw) (Int32.toNatClampNeg ((n 83) + 1)) iw) := h85_9
        have s86_ : F_9 86 = (upd (upd (F 86) (Int32.toNatClampNeg (n 83)) (vp_nar .boolean 1)) (Int32.toNatClampNeg ((n 83) + 1)) (vp_nar .boolean 0)) := h86_9
        have qn83 : (n 83 + 1).toInt = (T : Int) + 1 := by have q := T_add (rfl : (n 83).toInt = (n 83).toInt) (show (1 : Int32).toInt = 1 from rfl) (by omega); omega
        have ec0 : Int32.toNatClampNeg (n 83) = T := by rw [clN]; omega
        have ec1 : Int32.toNatClampNeg (n 83 + 1) = T + 1 := by rw [clN]; omega
        have qn84 : (n 83 + 1 + 1).toInt = (T : Int) + 2 := by have q := T_add qn83 (show (1 : Int32).toInt = 1 from rfl) (by omega); omega
        have h83e : (n_9 83).toInt = ((T + 2 : Nat) : Int) := by rw [show n_9 83 = (((n 83) + 1) + 1) from h83_9]; omega
        have v15 : F_9 15 (40 * f + W) = r_3 := by rw [s15_, ← eci, updE, if_pos rfl]
        have v14 : F_9 14 (40 * f + W) = r_1 := by rw [s14_, ← eci, updE, if_pos rfl]
        have v13 : (F_9 13 (40 * f + W)).toInt = (Fs 17 f).toInt := by rw [s13_]; exact h13
        have v17 : (F_9 17 f).toInt = r_3.toInt := by rw [s17_, hr_3, ecf]
        have hA9 : rAll F_9 := by
          intro q hq
          obtain ⟨q1, q2, q3, q4⟩ := hA_3 q hq
          obtain ⟨y1, y2, y3, y4⟩ := hA5 q hq
          obtain ⟨x1_, x2_, x3_, x4_⟩ := hA q hq
          rw [s13_, s14_, s15_, s19_]
          refine ⟨x1_, ?_, ?_, q4⟩
          · rw [updE]; split
            · omega
            · exact x2_
          · rw [updE]; split
            · omega
            · exact x3_
        have same : ∀ r, r ∈ [6, 7, 9, 10, 11, 12, 13, 76, 78, 79, 80, 82] → F_9 r = F r := by
          intro r hr
          simp only [List.mem_cons, List.not_mem_nil, or_false] at hr
          rcases hr with rfl | rfl | rfl | rfl | rfl | rfl | rfl | rfl | rfl | rfl | rfl | rfl
          · exact s6_
          · exact s7_
          · exact s9_
          · exact s10_
          · exact s11_
          · exact s12_
          · exact s13_
          · exact s76_
          · exact s78_
          · exact s79_
          · exact s80_
          · exact s82_
        have off : ∀ r, r ∈ [14, 15] → ∀ i, i ≠ 40 * f + W → F_9 r i = F r i := by
          intro r hr i hi
          rw [← eci] at hi
          simp only [List.mem_cons, List.not_mem_nil, or_false] at hr
          rcases hr with rfl | rfl
          · rw [s14_, updE, if_neg hi]
          · rw [s15_, updE, if_neg hi]
        have h84e : ∀ r, r ∈ [84, 85, 86] → ∀ q, q < T → F_9 r q = F r q := by
          intro r hr q hq
          simp only [List.mem_cons, List.not_mem_nil, or_false] at hr
          rcases hr with rfl | rfl | rfl
          · rw [s84_, ec0, ec1, updE, if_neg (by omega), updE, if_neg (by omega)]
          · rw [s85_, ec0, ec1, updE, if_neg (by omega), updE, if_neg (by omega)]
          · rw [s86_, ec0, ec1, updE, if_neg (by omega), updE, if_neg (by omega)]
        have k7 : F_9 7 (40 * f + W) = Fs 76 nd.toInt.toNat := by rw [s7_]; exact h7
        have htk : tkN Fs F_9 f W T (T + 2) nd.toInt.toNat := Or.inl ⟨(by unfold prK; rw [k7, ← q7]; omega), (by rw [s84_, ec0, ec1, updE, if_neg (by omega), updE, if_pos rfl]; exact congrFun (hb.1 79 (by decide)) _), (by rw [s84_, ec0, ec1, updE, if_pos rfl]; exact congrFun (hb.1 78 (by decide)) _), (by rw [s85_, ec0, ec1, updE, if_neg (by omega), updE, if_pos rfl]; exact hwi.1), (by unfold twB; rw [s86_, ec0, ec1, updE, if_neg (by omega), updE, if_pos rfl]; first | decide | rfl), (by rw [s85_, ec0, ec1, updE, if_pos rfl]; exact hwi.1), (by unfold twB; rw [s86_, ec0, ec1, updE, if_pos rfl]; first | decide | rfl), rfl⟩
        have hJ : LYJ F0 n_9 F_9 f fo Wn (W + 1) (T + 2) := LYJ_deep hf.2.2.1 hf.2.2.2 hc hb same off h84e (by rw [v13, v14, v15]; omega) h83e hA9 h7 hk2 (fun j_ hj_ => by have ej_ : j_ = j := (by omega); subst ej_; rw [v15, v13]; omega) (by rw [v17, v15, v13]; omega) htk
        have o8_ : ∀ i, i ≠ 40 * f + W → F_9 8 i = Fs 8 i := fun i hi => by rw [s8_]; exact o8 i hi
        have o16F : ∀ i, i ≠ 40 * f + W → F_9 16 i = F 16 i := fun i hi => by rw [← eci] at hi; rw [s16_, updE, if_neg hi]
        have v16 : F_9 16 (40 * f + W) = Fs 16 (40 * fo + j) := by rw [s16_, ← eci, updE, if_pos rfl, ecd]; exact congrFun (hb.1 16 (by decide)) _
        have enV : V0 + nvH (H nd.toInt.toNat) = V0 + (H nd.toInt.toNat).2.2.2.1.length + (H nd.toInt.toNat).2.2.2.2.length := by unfold nvH; omega
        have hvE : ∀ c, LRv Fs f c V0 → LRv F_9 f (putV (vsH (H nd.toInt.toNat)) V0 c) (V0 + nvH (H nd.toInt.toNat)) := fun c hc0 => by
          have a1 := hvv_1 c (LRv_rw (hb.1 18 (by decide)) (hb.1 19 (by decide)) (hb.1 20 (by decide)) hc0)
          have a2 := hvv_3 _ (LRv_rw (F2 := (va_up F_1 14 (upd (F 14) (Int32.toNatClampNeg iw) r_1))) u18_ u19_ u20_ a1)
          rw [putV_app] at a2
          rw [enV]
          exact LRv_rw s18_ s19_ s20_ a2
        have loE : lo3 F F_9 f := fun i hi => by
          have l1 := hlo_1 i hi
          have l2 := hlo_3 i hi
          rw [u18_, u19_, u20_] at l2
          rw [s18_, s19_, s20_]
          exact ⟨l2.1.trans l1.1, l2.2.1.trans l1.2.1, l2.2.2.trans l1.2.2⟩
        have o17_ : ∀ q, q ≠ f → F_9 17 q = F 17 q := fun q hq => by rw [s17_]; exact (ho_3 q (by rw [ecf]; exact hq)).trans ((congrFun u17_ q).trans (ho_1 q (by rw [ecf]; exact hq)))
        have hlw2 : lowR F0 F_9 f := low_C hlB same off s8_ o16F o17_ loE
        have hZ2 : LZ F_9 f Wn H fi se FIN NW NV (W + 1) (T + 2) := LZ_deep (F0 := F) hZ hE hTL c3.1 hb c2 same off h84e o8_ (fun i hi => (o16F i hi).trans (congrFun (hb.1 16 (by decide)) i)) h7 (by rw [s8_]; exact h8) hk2 hV0 (by rw [v13]; exact hV0) (by rw [v14]; omega) (by rw [v15]; omega) v16 n1 hvE (by rw [v17]; omega) htk
        refine gz_sub (lv' := [(0, .ref m), (1, .int x1), (2, .int x2)]) (by simp [List.lookup]) ?_
        exact hq_ (T + 2) _ _ _ _ _ hS_9 (fx_tr (fx_tr (fx_F (fx_F (fx_tr (fx_F (fx_tr hx hx1 (by decide)) (by decide)) hx3 (by decide)) (by decide)) (by decide)) hx8 (by decide)) hx9 (by decide)) hJ hZ2 hlw2
      ·
        try simp only [mIn_0, lgc_lt, lgc_gt, lgc_le, lgc_ge, lgc_eq] at c_350
        try simp only [fl_lt, fl_le, fl_eq, fL_w, fL_lt, fL_le, tm1, tm10k, tm9, tm99, Int32.reduceToInt, Int64.reduceToInt, Int.not_lt, Int.not_le] at c_350
        refine gz_aload_n dX12_laysOut_353 rfl rfl ?_
        refine mg_20 hS_5 dX12_laysOut_354 ?_
        refine gz_iload dX12_laysOut_357 rfl ?_
        refine m_iald 7 hS_5 rfl (N := 880) rfl ((by exact vin_T (rfl : iw.toInt = iw.toInt) (by omega) (by omega))) dX12_laysOut_359 ?_
        refine gz_ev (w := .int ((F 7) (Int32.toNatClampNeg iw))) (congrArg Value.int (congrFun ((hx3.2.2.1 7 (by decide)).trans (hx1.2.2.1 7 (by decide))) _)) ?_
        refine gz_iconst (v := 5) dX12_laysOut_360 (by decide) ?_
        refine gz_icmp_ne (tgt := 377) dX12_laysOut_361 (by decide) (fun c_361 => ?_) (fun c_361 => ?_)
        ·
          try simp only [mIn_0, lgc_lt, lgc_gt, lgc_le, lgc_ge, lgc_eq] at c_361
          try simp only [fl_lt, fl_le, fl_eq, fL_w, fL_lt, fL_le, tm1, tm10k, tm9, tm99, Int32.reduceToInt, Int64.reduceToInt, Int.not_lt, Int.not_le] at c_361
          refine gz_aload_n dX12_laysOut_377 rfl rfl ?_
          refine gz_aload_n dX12_laysOut_378 rfl rfl ?_
          refine mg_216 hS_5 dX12_laysOut_379 ?_
          refine gz_iload_n dX12_laysOut_382 rfl rfl ?_
          refine m_iald 78 hS_5 rfl (N := 82) rfl ((by exact vin_T (rfl : nd.toInt = nd.toInt) (by omega) (by omega))) dX12_laysOut_383 ?_
          refine gz_ev (w := .int ((F 78) (Int32.toNatClampNeg nd))) (congrArg Value.int (congrFun ((hx3.2.2.1 78 (by decide)).trans (hx1.2.2.1 78 (by decide))) _)) ?_
          refine gz_iload dX12_laysOut_384 rfl ?_
          refine gz_iconst (v := 0) dX12_laysOut_386 (by decide) ?_
          refine scX12_527 (k_X12_laysT (x1 := ((F 78) (Int32.toNatClampNeg nd))) (x2 := iw) (x3 := 0) hS_5 (by rw [(show n_3 83 = (n 83) from ((hx3.1 83 (by decide)).trans (hx1.1 83 (by decide))))]; omega)) hS_5.1 ⟨(Nat.le_of_ble_eq_true rfl), (Nat.le_of_ble_eq_true rfl)⟩ ⟨(Nat.le_of_ble_eq_true rfl), (Nat.le_of_ble_eq_true rfl)⟩ rfl rfl (Nat.le_of_ble_eq_true rfl) dX12_laysOut_387 ?_
          rintro f_10 ⟨n_10, z_10, F_10, G_10, hS_10, hx10, h83_10, h84_10, h85_10, h86_10⟩
          try simp only [(show n_3 83 = (n 83) from ((hx3.1 83 (by decide)).trans (hx1.1 83 (by decide))))] at h83_10 h84_10 h85_10 h86_10
          try rw [show n_3 83 = (n 83) from ((hx3.1 83 (by decide)).trans (hx1.1 83 (by decide)))] at h83_10 h84_10 h85_10 h86_10
          try rw [show (va_up (va_up F_3 15 (upd (F 15) (Int32.toNatClampNeg iw) r_3)) 16 (upd (F 16) (Int32.toNatClampNeg iw) ((F 16) (Int32.toNatClampNeg wd)))) 84 = (F 84) from ((hx3.2.2.1 84 (by decide)).trans (hx1.2.2.1 84 (by decide)))] at h84_10
          try rw [show (va_up (va_up F_3 15 (upd (F 15) (Int32.toNatClampNeg iw) r_3)) 16 (upd (F 16) (Int32.toNatClampNeg iw) ((F 16) (Int32.toNatClampNeg wd)))) 85 = (F 85) from ((hx3.2.2.1 85 (by decide)).trans (hx1.2.2.1 85 (by decide)))] at h85_10
          try rw [show (va_up (va_up F_3 15 (upd (F 15) (Int32.toNatClampNeg iw) r_3)) 16 (upd (F 16) (Int32.toNatClampNeg iw) ((F 16) (Int32.toNatClampNeg wd)))) 86 = (F 86) from ((hx3.2.2.1 86 (by decide)).trans (hx1.2.2.1 86 (by decide)))] at h86_10
          refine gz_goto (tgt := 26) dX12_laysOut_390 (by decide) ?_
          have s6_ : F_10 6 = (F 6) := ((hx10.2.2.1 6 (by decide)).trans ((hx3.2.2.1 6 (by decide)).trans (hx1.2.2.1 6 (by decide))))
          have s7_ : F_10 7 = (F 7) := ((hx10.2.2.1 7 (by decide)).trans ((hx3.2.2.1 7 (by decide)).trans (hx1.2.2.1 7 (by decide))))
          have s8_ : F_10 8 = (F 8) := ((hx10.2.2.1 8 (by decide)).trans ((hx3.2.2.1 8 (by decide)).trans (hx1.2.2.1 8 (by decide))))
          have s9_ : F_10 9 = (F 9) := ((hx10.2.2.1 9 (by decide)).trans ((hx3.2.2.1 9 (by decide)).trans (hx1.2.2.1 9 (by decide))))
          have s10_ : F_10 10 = (F 10) := ((hx10.2.2.1 10 (by decide)).trans ((hx3.2.2.1 10 (by decide)).trans (hx1.2.2.1 10 (by decide))))
          have s11_ : F_10 11 = (F 11) := ((hx10.2.2.1 11 (by decide)).trans ((hx3.2.2.1 11 (by decide)).trans (hx1.2.2.1 11 (by decide))))
          have s12_ : F_10 12 = (F 12) := ((hx10.2.2.1 12 (by decide)).trans ((hx3.2.2.1 12 (by decide)).trans (hx1.2.2.1 12 (by decide))))
          have s13_ : F_10 13 = (F 13) := ((hx10.2.2.1 13 (by decide)).trans ((hx3.2.2.1 13 (by decide)).trans (hx1.2.2.1 13 (by decide))))
          have s14_ : F_10 14 = (upd (F 14) (Int32.toNatClampNeg iw) r_1) := ((hx10.2.2.1 14 (by decide)).trans (hx3.2.2.1 14 (by decide)))
          have s15_ : F_10 15 = (upd (F 15) (Int32.toNatClampNeg iw) r_3) := (hx10.2.2.1 15 (by decide))
          have s16_ : F_10 16 = (upd (F 16) (Int32.toNatClampNeg iw) ((F 16) (Int32.toNatClampNeg wd))) := (hx10.2.2.1 16 (by decide))
          have s17_ : F_10 17 = (F_3 17) := (hx10.2.2.1 17 (by decide))
          have s18_ : F_10 18 = (F_3 18) := (hx10.2.2.1 18 (by decide))
          have s19_ : F_10 19 = (F_3 19) := (hx10.2.2.1 19 (by decide))
          have s20_ : F_10 20 = (F_3 20) := (hx10.2.2.1 20 (by decide))
          have s76_ : F_10 76 = (F 76) := ((hx10.2.2.1 76 (by decide)).trans ((hx3.2.2.1 76 (by decide)).trans (hx1.2.2.1 76 (by decide))))
          have s78_ : F_10 78 = (F 78) := ((hx10.2.2.1 78 (by decide)).trans ((hx3.2.2.1 78 (by decide)).trans (hx1.2.2.1 78 (by decide))))
          have s79_ : F_10 79 = (F 79) := ((hx10.2.2.1 79 (by decide)).trans ((hx3.2.2.1 79 (by decide)).trans (hx1.2.2.1 79 (by decide))))
          have s80_ : F_10 80 = (F 80) := ((hx10.2.2.1 80 (by decide)).trans ((hx3.2.2.1 80 (by decide)).trans (hx1.2.2.1 80 (by decide))))
          have s82_ : F_10 82 = (F 82) := ((hx10.2.2.1 82 (by decide)).trans ((hx3.2.2.1 82 (by decide)).trans (hx1.2.2.1 82 (by decide))))
          have s84_ : F_10 84 = (upd (F 84) (Int32.toNatClampNeg (n 83)) ((F 78) (Int32.toNatClampNeg nd))) := h84_10
          have s85_ : F_10 85 = (upd (F 85) (Int32.toNatClampNeg (n 83)) iw) := h85_10
          have s86_ : F_10 86 = (upd (F 86) (Int32.toNatClampNeg (n 83)) (vp_nar .boolean 0)) := h86_10
          have qn83 : (n 83 + 1).toInt = (T : Int) + 1 := by have q := T_add (rfl : (n 83).toInt = (n 83).toInt) (show (1 : Int32).toInt = 1 from rfl) (by omega); omega
          have ec0 : Int32.toNatClampNeg (n 83) = T := by rw [clN]; omega
          have ec1 : Int32.toNatClampNeg (n 83 + 1) = T + 1 := by rw [clN]; omega
          have h83e : (n_10 83).toInt = ((T + 1 : Nat) : Int) := by rw [show n_10 83 = ((n 83) + 1) from h83_10]; omega
          have v15 : F_10 15 (40 * f + W) = r_3 := by rw [s15_, ← eci, updE, if_pos rfl]
          have v14 : F_10 14 (40 * f + W) = r_1 := by rw [s14_, ← eci, updE, if_pos rfl]
          have v13 : (F_10 13 (40 * f + W)).toInt = (Fs 17 f).toInt := by rw [s13_]; exact h13
          have v17 : (F_10 17 f).toInt = r_3.toInt := by rw [s17_, hr_3, ecf]
          have hA9 : rAll F_10 := by
            intro q hq
            obtain ⟨q1, q2, q3, q4⟩ := hA_3 q hq
            obtain ⟨y1, y2, y3, y4⟩ := hA5 q hq
            obtain ⟨x1_, x2_, x3_, x4_⟩ := hA q hq
            rw [s13_, s14_, s15_, s19_]
            refine ⟨x1_, ?_, ?_, q4⟩
            · rw [updE]; split
              · omega
              · exact x2_
            · rw [updE]; split
              · omega
              · exact x3_
          have same : ∀ r, r ∈ [6, 7, 9, 10, 11, 12, 13, 76, 78, 79, 80, 82] → F_10 r = F r := by
            intro r hr
            simp only [List.mem_cons, List.not_mem_nil, or_false] at hr
            rcases hr with rfl | rfl | rfl | rfl | rfl | rfl | rfl | rfl | rfl | rfl | rfl | rfl
            · exact s6_
            · exact s7_
            · exact s9_
            · exact s10_
            · exact s11_
            · exact s12_
            · exact s13_
            · exact s76_
            · exact s78_
            · exact s79_
            · exact s80_
            · exact s82_
          have off : ∀ r, r ∈ [14, 15] → ∀ i, i ≠ 40 * f + W → F_10 r i = F r i := by
            intro r hr i hi
            rw [← eci] at hi
            simp only [List.mem_cons, List.not_mem_nil, or_false] at hr
            rcases hr with rfl | rfl
            · rw [s14_, updE, if_neg hi]
            · rw [s15_, updE, if_neg hi]
          have h84e : ∀ r, r ∈ [84, 85, 86] → ∀ q, q < T → F_10 r q = F r q := by
            intro r hr q hq
            simp only [List.mem_cons, List.not_mem_nil, or_false] at hr
            rcases hr with rfl | rfl | rfl
            · rw [s84_, ec0, updE, if_neg (by omega)]
            · rw [s85_, ec0, updE, if_neg (by omega)]
            · rw [s86_, ec0, updE, if_neg (by omega)]
          have k7 : F_10 7 (40 * f + W) = Fs 76 nd.toInt.toNat := by rw [s7_]; exact h7
          have htk : tkN Fs F_10 f W T (T + 1) nd.toInt.toNat := Or.inr ⟨(by unfold prK; rw [k7, ← q7]; omega), (by rw [s84_, ec0, updE, if_pos rfl]; exact congrFun (hb.1 78 (by decide)) _), (by rw [s85_, ec0, updE, if_pos rfl]; exact hwi.1), (by unfold twB; rw [s86_, ec0, updE, if_pos rfl]; first | decide | rfl), rfl⟩
          have hJ : LYJ F0 n_10 F_10 f fo Wn (W + 1) (T + 1) := LYJ_deep hf.2.2.1 hf.2.2.2 hc hb same off h84e (by rw [v13, v14, v15]; omega) h83e hA9 h7 hk2 (fun j_ hj_ => by have ej_ : j_ = j := (by omega); subst ej_; rw [v15, v13]; omega) (by rw [v17, v15, v13]; omega) htk
          have o8_ : ∀ i, i ≠ 40 * f + W → F_10 8 i = Fs 8 i := fun i hi => by rw [s8_]; exact o8 i hi
          have o16F : ∀ i, i ≠ 40 * f + W → F_10 16 i = F 16 i := fun i hi => by rw [← eci] at hi; rw [s16_, updE, if_neg hi]
          have v16 : F_10 16 (40 * f + W) = Fs 16 (40 * fo + j) := by rw [s16_, ← eci, updE, if_pos rfl, ecd]; exact congrFun (hb.1 16 (by decide)) _
          have enV : V0 + nvH (H nd.toInt.toNat) = V0 + (H nd.toInt.toNat).2.2.2.1.length + (H nd.toInt.toNat).2.2.2.2.length := by unfold nvH; omega
          have hvE : ∀ c, LRv Fs f c V0 → LRv F_10 f (putV (vsH (H nd.toInt.toNat)) V0 c) (V0 + nvH (H nd.toInt.toNat)) := fun c hc0 => by
            have a1 := hvv_1 c (LRv_rw (hb.1 18 (by decide)) (hb.1 19 (by decide)) (hb.1 20 (by decide)) hc0)
            have a2 := hvv_3 _ (LRv_rw (F2 := (va_up F_1 14 (upd (F 14) (Int32.toNatClampNeg iw) r_1))) u18_ u19_ u20_ a1)
            rw [putV_app] at a2
            rw [enV]
            exact LRv_rw s18_ s19_ s20_ a2
          have loE : lo3 F F_10 f := fun i hi => by
            have l1 := hlo_1 i hi
            have l2 := hlo_3 i hi
            rw [u18_, u19_, u20_] at l2
            rw [s18_, s19_, s20_]
            exact ⟨l2.1.trans l1.1, l2.2.1.trans l1.2.1, l2.2.2.trans l1.2.2⟩
          have o17_ : ∀ q, q ≠ f → F_10 17 q = F 17 q := fun q hq => by rw [s17_]; exact (ho_3 q (by rw [ecf]; exact hq)).trans ((congrFun u17_ q).trans (ho_1 q (by rw [ecf]; exact hq)))
          have hlw2 : lowR F0 F_10 f := low_C hlB same off s8_ o16F o17_ loE
          have hZ2 : LZ F_10 f Wn H fi se FIN NW NV (W + 1) (T + 1) := LZ_deep (F0 := F) hZ hE hTL c3.1 hb c2 same off h84e o8_ (fun i hi => (o16F i hi).trans (congrFun (hb.1 16 (by decide)) i)) h7 (by rw [s8_]; exact h8) hk2 hV0 (by rw [v13]; exact hV0) (by rw [v14]; omega) (by rw [v15]; omega) v16 n1 hvE (by rw [v17]; omega) htk
          refine gz_sub (lv' := [(0, .ref m), (1, .int x1), (2, .int x2)]) (by simp [List.lookup]) ?_
          exact hq_ (T + 1) _ _ _ _ _ hS_10 (fx_tr (fx_F (fx_F (fx_tr (fx_F (fx_tr hx hx1 (by decide)) (by decide)) hx3 (by decide)) (by decide)) (by decide)) hx10 (by decide)) hJ hZ2 hlw2
        ·
          try simp only [mIn_0, lgc_lt, lgc_gt, lgc_le, lgc_ge, lgc_eq] at c_361
          try simp only [fl_lt, fl_le, fl_eq, fL_w, fL_lt, fL_le, tm1, tm10k, tm9, tm99, Int32.reduceToInt, Int64.reduceToInt, Int.not_lt, Int.not_le] at c_361
          refine gz_aload_n dX12_laysOut_364 rfl rfl ?_
          refine gz_aload_n dX12_laysOut_365 rfl rfl ?_
          refine mg_219 hS_5 dX12_laysOut_366 ?_
          refine gz_iload_n dX12_laysOut_369 rfl rfl ?_
          refine m_iald 79 hS_5 rfl (N := 82) rfl ((by exact vin_T (rfl : nd.toInt = nd.toInt) (by omega) (by omega))) dX12_laysOut_370 ?_
          refine gz_ev (w := .int ((F 79) (Int32.toNatClampNeg nd))) (congrArg Value.int (congrFun ((hx3.2.2.1 79 (by decide)).trans (hx1.2.2.1 79 (by decide))) _)) ?_
          refine gz_iload dX12_laysOut_371 rfl ?_
          refine gz_iconst (v := 1) dX12_laysOut_373 (by decide) ?_
          refine scX12_527 (k_X12_laysT (x1 := ((F 79) (Int32.toNatClampNeg nd))) (x2 := iw) (x3 := 1) hS_5 (by rw [(show n_3 83 = (n 83) from ((hx3.1 83 (by decide)).trans (hx1.1 83 (by decide))))]; omega)) hS_5.1 ⟨(Nat.le_of_ble_eq_true rfl), (Nat.le_of_ble_eq_true rfl)⟩ ⟨(Nat.le_of_ble_eq_true rfl), (Nat.le_of_ble_eq_true rfl)⟩ rfl rfl (Nat.le_of_ble_eq_true rfl) dX12_laysOut_374 ?_
          rintro f_11 ⟨n_11, z_11, F_11, G_11, hS_11, hx11, h83_11, h84_11, h85_11, h86_11⟩
          try simp only [(show n_3 83 = (n 83) from ((hx3.1 83 (by decide)).trans (hx1.1 83 (by decide))))] at h83_11 h84_11 h85_11 h86_11
          try rw [show n_3 83 = (n 83) from ((hx3.1 83 (by decide)).trans (hx1.1 83 (by decide)))] at h83_11 h84_11 h85_11 h86_11
          try rw [show (va_up (va_up F_3 15 (upd (F 15) (Int32.toNatClampNeg iw) r_3)) 16 (upd (F 16) (Int32.toNatClampNeg iw) ((F 16) (Int32.toNatClampNeg wd)))) 84 = (F 84) from ((hx3.2.2.1 84 (by decide)).trans (hx1.2.2.1 84 (by decide)))] at h84_11
          try rw [show (va_up (va_up F_3 15 (upd (F 15) (Int32.toNatClampNeg iw) r_3)) 16 (upd (F 16) (Int32.toNatClampNeg iw) ((F 16) (Int32.toNatClampNeg wd)))) 85 = (F 85) from ((hx3.2.2.1 85 (by decide)).trans (hx1.2.2.1 85 (by decide)))] at h85_11
          try rw [show (va_up (va_up F_3 15 (upd (F 15) (Int32.toNatClampNeg iw) r_3)) 16 (upd (F 16) (Int32.toNatClampNeg iw) ((F 16) (Int32.toNatClampNeg wd)))) 86 = (F 86) from ((hx3.2.2.1 86 (by decide)).trans (hx1.2.2.1 86 (by decide)))] at h86_11
          refine gz_aload_n dX12_laysOut_377 rfl rfl ?_
          refine gz_aload_n dX12_laysOut_378 rfl rfl ?_
          refine mg_216 hS_11 dX12_laysOut_379 ?_
          refine gz_iload_n dX12_laysOut_382 rfl rfl ?_
          refine m_iald 78 hS_11 rfl (N := 82) rfl ((by exact vin_T (rfl : nd.toInt = nd.toInt) (by omega) (by omega))) dX12_laysOut_383 ?_
          refine gz_ev (w := .int ((F 78) (Int32.toNatClampNeg nd))) (congrArg Value.int (congrFun ((hx11.2.2.1 78 (by decide)).trans ((hx3.2.2.1 78 (by decide)).trans (hx1.2.2.1 78 (by decide)))) _)) ?_
          refine gz_iload dX12_laysOut_384 rfl ?_
          refine gz_iconst (v := 0) dX12_laysOut_386 (by decide) ?_
          refine scX12_527 (k_X12_laysT (x1 := ((F 78) (Int32.toNatClampNeg nd))) (x2 := iw) (x3 := 0) hS_11 (by rw [(show n_11 83 = ((n 83) + 1) from h83_11)]; have q83 := T_add (rfl : (n 83).toInt = (n 83).toInt) (show (1 : Int32).toInt = 1 from rfl) (by omega); omega)) hS_11.1 ⟨(Nat.le_of_ble_eq_true rfl), (Nat.le_of_ble_eq_true rfl)⟩ ⟨(Nat.le_of_ble_eq_true rfl), (Nat.le_of_ble_eq_true rfl)⟩ rfl rfl (Nat.le_of_ble_eq_true rfl) dX12_laysOut_387 ?_
          rintro f_12 ⟨n_12, z_12, F_12, G_12, hS_12, hx12, h83_12, h84_12, h85_12, h86_12⟩
          try simp only [(show n_11 83 = ((n 83) + 1) from h83_11)] at h83_12 h84_12 h85_12 h86_12
          try rw [show n_11 83 = ((n 83) + 1) from h83_11] at h83_12 h84_12 h85_12 h86_12
          try rw [show F_11 84 = (upd (F 84) (Int32.toNatClampNeg (n 83)) ((F 79) (Int32.toNatClampNeg nd))) from h84_11] at h84_12
          try rw [show F_11 85 = (upd (F 85) (Int32.toNatClampNeg (n 83)) iw) from h85_11] at h85_12
          try rw [show F_11 86 = (upd (F 86) (Int32.toNatClampNeg (n 83)) (vp_nar .boolean 1)) from h86_11] at h86_12
          refine gz_goto (tgt := 26) dX12_laysOut_390 (by decide) ?_
          have s6_ : F_12 6 = (F 6) := ((hx12.2.2.1 6 (by decide)).trans ((hx11.2.2.1 6 (by decide)).trans ((hx3.2.2.1 6 (by decide)).trans (hx1.2.2.1 6 (by decide)))))
          have s7_ : F_12 7 = (F 7) := ((hx12.2.2.1 7 (by decide)).trans ((hx11.2.2.1 7 (by decide)).trans ((hx3.2.2.1 7 (by decide)).trans (hx1.2.2.1 7 (by decide)))))
          have s8_ : F_12 8 = (F 8) := ((hx12.2.2.1 8 (by decide)).trans ((hx11.2.2.1 8 (by decide)).trans ((hx3.2.2.1 8 (by decide)).trans (hx1.2.2.1 8 (by decide)))))
          have s9_ : F_12 9 = (F 9) := ((hx12.2.2.1 9 (by decide)).trans ((hx11.2.2.1 9 (by decide)).trans ((hx3.2.2.1 9 (by decide)).trans (hx1.2.2.1 9 (by decide)))))
          have s10_ : F_12 10 = (F 10) := ((hx12.2.2.1 10 (by decide)).trans ((hx11.2.2.1 10 (by decide)).trans ((hx3.2.2.1 10 (by decide)).trans (hx1.2.2.1 10 (by decide)))))
          have s11_ : F_12 11 = (F 11) := ((hx12.2.2.1 11 (by decide)).trans ((hx11.2.2.1 11 (by decide)).trans ((hx3.2.2.1 11 (by decide)).trans (hx1.2.2.1 11 (by decide)))))
          have s12_ : F_12 12 = (F 12) := ((hx12.2.2.1 12 (by decide)).trans ((hx11.2.2.1 12 (by decide)).trans ((hx3.2.2.1 12 (by decide)).trans (hx1.2.2.1 12 (by decide)))))
          have s13_ : F_12 13 = (F 13) := ((hx12.2.2.1 13 (by decide)).trans ((hx11.2.2.1 13 (by decide)).trans ((hx3.2.2.1 13 (by decide)).trans (hx1.2.2.1 13 (by decide)))))
          have s14_ : F_12 14 = (upd (F 14) (Int32.toNatClampNeg iw) r_1) := ((hx12.2.2.1 14 (by decide)).trans ((hx11.2.2.1 14 (by decide)).trans (hx3.2.2.1 14 (by decide))))
          have s15_ : F_12 15 = (upd (F 15) (Int32.toNatClampNeg iw) r_3) := ((hx12.2.2.1 15 (by decide)).trans (hx11.2.2.1 15 (by decide)))
          have s16_ : F_12 16 = (upd (F 16) (Int32.toNatClampNeg iw) ((F 16) (Int32.toNatClampNeg wd))) := ((hx12.2.2.1 16 (by decide)).trans (hx11.2.2.1 16 (by decide)))
          have s17_ : F_12 17 = (F_3 17) := ((hx12.2.2.1 17 (by decide)).trans (hx11.2.2.1 17 (by decide)))
          have s18_ : F_12 18 = (F_3 18) := ((hx12.2.2.1 18 (by decide)).trans (hx11.2.2.1 18 (by decide)))
          have s19_ : F_12 19 = (F_3 19) := ((hx12.2.2.1 19 (by decide)).trans (hx11.2.2.1 19 (by decide)))
          have s20_ : F_12 20 = (F_3 20) := ((hx12.2.2.1 20 (by decide)).trans (hx11.2.2.1 20 (by decide)))
          have s76_ : F_12 76 = (F 76) := ((hx12.2.2.1 76 (by decide)).trans ((hx11.2.2.1 76 (by decide)).trans ((hx3.2.2.1 76 (by decide)).trans (hx1.2.2.1 76 (by decide)))))
          have s78_ : F_12 78 = (F 78) := ((hx12.2.2.1 78 (by decide)).trans ((hx11.2.2.1 78 (by decide)).trans ((hx3.2.2.1 78 (by decide)).trans (hx1.2.2.1 78 (by decide)))))
          have s79_ : F_12 79 = (F 79) := ((hx12.2.2.1 79 (by decide)).trans ((hx11.2.2.1 79 (by decide)).trans ((hx3.2.2.1 79 (by decide)).trans (hx1.2.2.1 79 (by decide)))))
          have s80_ : F_12 80 = (F 80) := ((hx12.2.2.1 80 (by decide)).trans ((hx11.2.2.1 80 (by decide)).trans ((hx3.2.2.1 80 (by decide)).trans (hx1.2.2.1 80 (by decide)))))
          have s82_ : F_12 82 = (F 82) := ((hx12.2.2.1 82 (by decide)).trans ((hx11.2.2.1 82 (by decide)).trans ((hx3.2.2.1 82 (by decide)).trans (hx1.2.2.1 82 (by decide)))))
          have s84_ : F_12 84 = (upd (upd (F 84) (Int32.toNatClampNeg (n 83)) ((F 79) (Int32.toNatClampNeg nd))) (Int32.toNatClampNeg ((n 83) + 1)) ((F 78) (Int32.toNatClampNeg nd))) := h84_12
          have s85_ : F_12 85 = (upd (upd (F 85) (Int32.toNatClampNeg (n 83)) iw) (Int32.toNatClampNeg ((n 83) + 1)) iw) := h85_12
          have s86_ : F_12 86 = (upd (upd (F 86) (Int32.toNatClampNeg (n 83)) (vp_nar .boolean 1)) (Int32.toNatClampNeg ((n 83) + 1)) (vp_nar .boolean 0)) := h86_12
          have qn83 : (n 83 + 1).toInt = (T : Int) + 1 := by have q := T_add (rfl : (n 83).toInt = (n 83).toInt) (show (1 : Int32).toInt = 1 from rfl) (by omega); omega
          have ec0 : Int32.toNatClampNeg (n 83) = T := by rw [clN]; omega
          have ec1 : Int32.toNatClampNeg (n 83 + 1) = T + 1 := by rw [clN]; omega
          have qn84 : (n 83 + 1 + 1).toInt = (T : Int) + 2 := by have q := T_add qn83 (show (1 : Int32).toInt = 1 from rfl) (by omega); omega
          have h83e : (n_12 83).toInt = ((T + 2 : Nat) : Int) := by rw [show n_12 83 = (((n 83) + 1) + 1) from h83_12]; omega
          have v15 : F_12 15 (40 * f + W) = r_3 := by rw [s15_, ← eci, updE, if_pos rfl]
          have v14 : F_12 14 (40 * f + W) = r_1 := by rw [s14_, ← eci, updE, if_pos rfl]
          have v13 : (F_12 13 (40 * f + W)).toInt = (Fs 17 f).toInt := by rw [s13_]; exact h13
          have v17 : (F_12 17 f).toInt = r_3.toInt := by rw [s17_, hr_3, ecf]
          have hA9 : rAll F_12 := by
            intro q hq
            obtain ⟨q1, q2, q3, q4⟩ := hA_3 q hq
            obtain ⟨y1, y2, y3, y4⟩ := hA5 q hq
            obtain ⟨x1_, x2_, x3_, x4_⟩ := hA q hq
            rw [s13_, s14_, s15_, s19_]
            refine ⟨x1_, ?_, ?_, q4⟩
            · rw [updE]; split
              · omega
              · exact x2_
            · rw [updE]; split
              · omega
              · exact x3_
          have same : ∀ r, r ∈ [6, 7, 9, 10, 11, 12, 13, 76, 78, 79, 80, 82] → F_12 r = F r := by
            intro r hr
            simp only [List.mem_cons, List.not_mem_nil, or_false] at hr
            rcases hr with rfl | rfl | rfl | rfl | rfl | rfl | rfl | rfl | rfl | rfl | rfl | rfl
            · exact s6_
            · exact s7_
            · exact s9_
            · exact s10_
            · exact s11_
            · exact s12_
            · exact s13_
            · exact s76_
            · exact s78_
            · exact s79_
            · exact s80_
            · exact s82_
          have off : ∀ r, r ∈ [14, 15] → ∀ i, i ≠ 40 * f + W → F_12 r i = F r i := by
            intro r hr i hi
            rw [← eci] at hi
            simp only [List.mem_cons, List.not_mem_nil, or_false] at hr
            rcases hr with rfl | rfl
            · rw [s14_, updE, if_neg hi]
            · rw [s15_, updE, if_neg hi]
          have h84e : ∀ r, r ∈ [84, 85, 86] → ∀ q, q < T → F_12 r q = F r q := by
            intro r hr q hq
            simp only [List.mem_cons, List.not_mem_nil, or_false] at hr
            rcases hr with rfl | rfl | rfl
            · rw [s84_, ec0, ec1, updE, if_neg (by omega), updE, if_neg (by omega)]
            · rw [s85_, ec0, ec1, updE, if_neg (by omega), updE, if_neg (by omega)]
            · rw [s86_, ec0, ec1, updE, if_neg (by omega), updE, if_neg (by omega)]
          have k7 : F_12 7 (40 * f + W) = Fs 76 nd.toInt.toNat := by rw [s7_]; exact h7
          have htk : tkN Fs F_12 f W T (T + 2) nd.toInt.toNat := Or.inl ⟨(by unfold prK; rw [k7, ← q7]; omega), (by rw [s84_, ec0, ec1, updE, if_neg (by omega), updE, if_pos rfl]; exact congrFun (hb.1 79 (by decide)) _), (by rw [s84_, ec0, ec1, updE, if_pos rfl]; exact congrFun (hb.1 78 (by decide)) _), (by rw [s85_, ec0, ec1, updE, if_neg (by omega), updE, if_pos rfl]; exact hwi.1), (by unfold twB; rw [s86_, ec0, ec1, updE, if_neg (by omega), updE, if_pos rfl]; first | decide | rfl), (by rw [s85_, ec0, ec1, updE, if_pos rfl]; exact hwi.1), (by unfold twB; rw [s86_, ec0, ec1, updE, if_pos rfl]; first | decide | rfl), rfl⟩
          have hJ : LYJ F0 n_12 F_12 f fo Wn (W + 1) (T + 2) := LYJ_deep hf.2.2.1 hf.2.2.2 hc hb same off h84e (by rw [v13, v14, v15]; omega) h83e hA9 h7 hk2 (fun j_ hj_ => by have ej_ : j_ = j := (by omega); subst ej_; rw [v15, v13]; omega) (by rw [v17, v15, v13]; omega) htk
          have o8_ : ∀ i, i ≠ 40 * f + W → F_12 8 i = Fs 8 i := fun i hi => by rw [s8_]; exact o8 i hi
          have o16F : ∀ i, i ≠ 40 * f + W → F_12 16 i = F 16 i := fun i hi => by rw [← eci] at hi; rw [s16_, updE, if_neg hi]
          have v16 : F_12 16 (40 * f + W) = Fs 16 (40 * fo + j) := by rw [s16_, ← eci, updE, if_pos rfl, ecd]; exact congrFun (hb.1 16 (by decide)) _
          have enV : V0 + nvH (H nd.toInt.toNat) = V0 + (H nd.toInt.toNat).2.2.2.1.length + (H nd.toInt.toNat).2.2.2.2.length := by unfold nvH; omega
          have hvE : ∀ c, LRv Fs f c V0 → LRv F_12 f (putV (vsH (H nd.toInt.toNat)) V0 c) (V0 + nvH (H nd.toInt.toNat)) := fun c hc0 => by
            have a1 := hvv_1 c (LRv_rw (hb.1 18 (by decide)) (hb.1 19 (by decide)) (hb.1 20 (by decide)) hc0)
            have a2 := hvv_3 _ (LRv_rw (F2 := (va_up F_1 14 (upd (F 14) (Int32.toNatClampNeg iw) r_1))) u18_ u19_ u20_ a1)
            rw [putV_app] at a2
            rw [enV]
            exact LRv_rw s18_ s19_ s20_ a2
          have loE : lo3 F F_12 f := fun i hi => by
            have l1 := hlo_1 i hi
            have l2 := hlo_3 i hi
            rw [u18_, u19_, u20_] at l2
            rw [s18_, s19_, s20_]
            exact ⟨l2.1.trans l1.1, l2.2.1.trans l1.2.1, l2.2.2.trans l1.2.2⟩
          have o17_ : ∀ q, q ≠ f → F_12 17 q = F 17 q := fun q hq => by rw [s17_]; exact (ho_3 q (by rw [ecf]; exact hq)).trans ((congrFun u17_ q).trans (ho_1 q (by rw [ecf]; exact hq)))
          have hlw2 : lowR F0 F_12 f := low_C hlB same off s8_ o16F o17_ loE
          have hZ2 : LZ F_12 f Wn H fi se FIN NW NV (W + 1) (T + 2) := LZ_deep (F0 := F) hZ hE hTL c3.1 hb c2 same off h84e o8_ (fun i hi => (o16F i hi).trans (congrFun (hb.1 16 (by decide)) i)) h7 (by rw [s8_]; exact h8) hk2 hV0 (by rw [v13]; exact hV0) (by rw [v14]; omega) (by rw [v15]; omega) v16 n1 hvE (by rw [v17]; omega) htk
          refine gz_sub (lv' := [(0, .ref m), (1, .int x1), (2, .int x2)]) (by simp [List.lookup]) ?_
          exact hq_ (T + 2) _ _ _ _ _ hS_12 (fx_tr (fx_tr (fx_F (fx_F (fx_tr (fx_F (fx_tr hx hx1 (by decide)) (by decide)) hx3 (by decide)) (by decide)) (by decide)) hx11 (by decide)) hx12 (by decide)) hJ hZ2 hlw2

set_option maxHeartbeats 4000000 in
set_option maxRecDepth 100000 in
theorem l_X12_laysOutBE {l : Launch} {D : va_G} {cy : Nat → ClassId} {b : Nat} {m : Nat} {a : Nat → Nat} {f0 : gMem} {n0 : Nat → Int32} {z0 : Nat → Int64} {F0 : Nat → Nat → Int32} {G0 : Nat → Nat → Int64}  {x1 x2 : Int32} {f fo Wn : Nat} {W T : Nat} {a_ : Int} {nd up iw : Int32} {Fs : Nat → Nat → Int32} {TL : List Hd} {H : Nat → Hd} {fi se : Nat → Nat} {FIN : Cn} {NW NV : Nat} (hf : x2.toInt = (f : Int) ∧ f < 20 ∧ fo < f ∧ Wn ≤ 40) (hwi : iw.toInt = 40 * (f : Int) + W ∧ W ≤ 39 ∧ T ≤ 39) (hc : LYc F0 Fs f fo Wn W T a_ nd up) (hZ : LZ Fs f Wn H fi se FIN NW NV W (T + 1)) (hE : shE Fs fo 0 TL H fi se 0) (hTL : TL.length ≤ 40 ∧ Wn = TL.length) (hlw : lowR F0 Fs f) (hq_ : ∀ (T2 : Nat) (n : Nat → Int32) (z : Nat → Int64) (F : Nat → Nat → Int32) (G : Nat → Nat → Int64) (fm : gMem), mS cy m a f0 n z F G fm → fx [83] [] [6, 7, 8, 9, 10, 11, 12, 13, 14, 15, 16, 17, 18, 19, 20, 84, 85, 86] [] n0 z0 F0 G0 n z F G → (LYJ F0 n F f fo Wn (W + 1) T2) → (LZ F f Wn H fi se FIN NW NV (W + 1) T2) → (lowR F0 F f) → gG l (gRm 1 0 0) (gQf D b (pV fun f2 => ∃ (n2 : Nat → Int32) (z2 : Nat → Int64) (F2 : Nat → Nat → Int32) (G2 : Nat → Nat → Int64), mS cy m a f0 n2 z2 F2 G2 f2 ∧ fx [83] [] [6, 7, 8, 9, 10, 11, 12, 13, 14, 15, 16, 17, 18, 19, 20, 84, 85, 86] [] n0 z0 F0 G0 n2 z2 F2 G2 ∧ rAll F2 ∧ fOK F2 f ∧ (∀ g, g < f → agF F0 F2 g) ∧ (LR F2 f FIN NW NV ∧ (F2 6 f).toInt = (NW : Int) ∧ (F2 17 f).toInt = (NV : Int) ∧ (∀ k, k < NW → ¬ (6 ≤ (F2 7 (40 * f + k)).toInt ∧ (F2 7 (40 * f + k)).toInt ≤ 9) → F2 14 (40 * f + k) = F2 13 (40 * f + k) ∧ F2 15 (40 * f + k) = F2 13 (40 * f + k))) ∧ lowR F0 F2 f) 0 0) gTt D cy b cX12_laysOut 7 none RX12 "laysOut" 0 0 fm 26 [(0, .ref m), (1, .int x1), (2, .int x2)] []) : ∀ (k : Nat)  (n : Nat → Int32) (z : Nat → Int64) (F : Nat → Nat → Int32) (G : Nat → Nat → Int64) (fm : gMem), mS cy m a f0 n z F G fm → fx [83] [] [6, 7, 8, 9, 10, 11, 12, 13, 14, 15, 16, 17, 18, 19, 20, 84, 85, 86] [] n0 z0 F0 G0 n z F G → ((n 83).toInt = (T : Int)) → (rAll F) → (LYa Fs F f W T) → (0 < (k : Int)) → gG l (gRm 1 0 0) (gQf D b (pV fun f2 => ∃ (n2 : Nat → Int32) (z2 : Nat → Int64) (F2 : Nat → Nat → Int32) (G2 : Nat → Nat → Int64), mS cy m a f0 n2 z2 F2 G2 f2 ∧ fx [83] [] [6, 7, 8, 9, 10, 11, 12, 13, 14, 15, 16, 17, 18, 19, 20, 84, 85, 86] [] n0 z0 F0 G0 n2 z2 F2 G2 ∧ rAll F2 ∧ fOK F2 f ∧ (∀ g, g < f → agF F0 F2 g) ∧ (LR F2 f FIN NW NV ∧ (F2 6 f).toInt = (NW : Int) ∧ (F2 17 f).toInt = (NV : Int) ∧ (∀ k, k < NW → ¬ (6 ≤ (F2 7 (40 * f + k)).toInt ∧ (F2 7 (40 * f + k)).toInt ≤ 9) → F2 14 (40 * f + k) = F2 13 (40 * f + k) ∧ F2 15 (40 * f + k) = F2 13 (40 * f + k))) ∧ lowR F0 F2 f) 0 0) gTt D cy b cX12_laysOut 7 none RX12 "laysOut" 0 0 fm 130 [(0, .ref m), (1, .int x1), (2, .int x2), (3, .int nd), (4, .int up), (5, .int iw)] [] := by
  intro k
  induction k with
  | zero =>
    intro n z F G fm hS hx h83 hA ha hk
    exfalso; omega
  | succ k ih =>
    intro n z F G fm hS hx h83 hA ha hk
    obtain ⟨c1, c2, c3, c4, c5, c6, c7, c8, c9⟩ := id hc
    have eci : Int32.toNatClampNeg iw = 40 * f + W := by rw [clN]; omega
    have ecf : Int32.toNatClampNeg x2 = f := by rw [clN]; omega
    have qnd : 0 ≤ nd.toInt ∧ nd.toInt ≤ 40 := by rcases c4.2 with z | ⟨z, z1, z2, z3⟩ <;> omega
    have qk0 : 0 ≤ (Fs 76 nd.toInt.toNat).toInt := by rcases c4.2 with z | ⟨z, z1, z2, z3⟩; (rw [z, show (40 : Int).toNat = 0 + 40 from rfl, c7.1]; decide); (rw [show nd.toInt.toNat = 0 + z by omega, (c7.2 z (by omega) z2).1.2.1]; exact (c8 z z2).1.1)
    have qup : -1 ≤ up.toInt ∧ up.toInt < 880 := by rcases c2 with ⟨z1, z2, z3, z4⟩ | ⟨p, z1, z2, z3, z4, z5⟩; (rw [c3.2] at z1; omega); (rw [c3.2] at z2; omega)
    refine gz_aload_n dX12_laysOut_130 rfl rfl ?_
    refine mg_20 hS dX12_laysOut_131 ?_
    refine gz_iload dX12_laysOut_134 rfl ?_
    refine gz_aload_n dX12_laysOut_136 rfl rfl ?_
    refine mg_210 hS dX12_laysOut_137 ?_
    refine gz_iload_n dX12_laysOut_140 rfl rfl ?_
    refine m_iald 76 hS rfl (N := 82) rfl ((by exact vin_T (rfl : nd.toInt = nd.toInt) (by omega) (by omega))) dX12_laysOut_141 ?_
    obtain ⟨kd, hkd⟩ : ∃ v_ : Int32, v_ = ((F 76) (Int32.toNatClampNeg nd)) := ⟨_, rfl⟩
    refine gz_ev (w := .int kd) (congrArg Value.int hkd.symm) ?_
    have qkd : kd = Fs 76 nd.toInt.toNat := by rw [hkd]; exact congrFun (ha.1 76 (by decide)) _
    have qk1 : 0 ≤ kd.toInt := by rw [qkd]; exact qk0
    refine m_iast 7 hS rfl (N := 880) rfl ((by exact vin_T (rfl : iw.toInt = iw.toInt) (by omega) (by omega))) dX12_laysOut_142 (fun f_1 hS_1q => ?_)
    have hS_1 : mS cy m a f0 n z (va_up F 7 (upd (F 7) (Int32.toNatClampNeg iw) kd)) G f_1 := hS_1q
    refine gz_aload_n dX12_laysOut_143 rfl rfl ?_
    refine mg_23 hS_1 dX12_laysOut_144 ?_
    refine gz_iload dX12_laysOut_147 rfl ?_
    refine gz_aload_n dX12_laysOut_149 rfl rfl ?_
    refine mg_213 hS_1 dX12_laysOut_150 ?_
    refine gz_iload_n dX12_laysOut_153 rfl rfl ?_
    refine m_iald 77 hS_1 rfl (N := 82) rfl ((by exact vin_T (rfl : nd.toInt = nd.toInt) (by omega) (by omega))) dX12_laysOut_154 ?_
    refine gz_ev (w := .int ((F 77) (Int32.toNatClampNeg nd))) rfl ?_
    refine m_iast 8 hS_1 rfl (N := 880) rfl ((by exact vin_T (rfl : iw.toInt = iw.toInt) (by omega) (by omega))) dX12_laysOut_155 (fun f_2 hS_2q => ?_)
    have hS_2 : mS cy m a f0 n z (va_up (va_up F 7 (upd (F 7) (Int32.toNatClampNeg iw) kd)) 8 (upd (F 8) (Int32.toNatClampNeg iw) ((F 77) (Int32.toNatClampNeg nd)))) G f_2 := hS_2q
    refine gz_aload_n dX12_laysOut_156 rfl rfl ?_
    refine mg_29 hS_2 dX12_laysOut_157 ?_
    refine gz_iload dX12_laysOut_160 rfl ?_
    refine gz_iload dX12_laysOut_162 rfl ?_
    refine m_iast 10 hS_2 rfl (N := 880) rfl ((by exact vin_T (rfl : iw.toInt = iw.toInt) (by omega) (by omega))) dX12_laysOut_164 (fun f_3 hS_3q => ?_)
    have hS_3 : mS cy m a f0 n z (va_up (va_up (va_up F 7 (upd (F 7) (Int32.toNatClampNeg iw) kd)) 8 (upd (F 8) (Int32.toNatClampNeg iw) ((F 77) (Int32.toNatClampNeg nd)))) 10 (upd (F 10) (Int32.toNatClampNeg iw) up)) G f_3 := hS_3q
    refine gz_aload_n dX12_laysOut_165 rfl rfl ?_
    refine mg_26 hS_3 dX12_laysOut_166 ?_
    refine gz_iload dX12_laysOut_169 rfl ?_
    refine gz_iload dX12_laysOut_171 rfl ?_
    refine gz_if_ge (tgt := 180) dX12_laysOut_173 (by decide) (fun c_173 => ?_) (fun c_173 => ?_)
    ·
      try simp only [mIn_0, lgc_lt, lgc_gt, lgc_le, lgc_ge, lgc_eq] at c_173
      try simp only [fl_lt, fl_le, fl_eq, fL_w, fL_lt, fL_le, tm1, tm10k, tm9, tm99, Int32.reduceToInt, Int64.reduceToInt, Int.not_lt, Int.not_le] at c_173
      refine gz_aload_n dX12_laysOut_180 rfl rfl ?_
      refine mg_26 hS_3 dX12_laysOut_181 ?_
      refine gz_iload dX12_laysOut_184 rfl ?_
      refine m_iald 9 hS_3 rfl (N := 880) rfl ((by exact vin_T (rfl : up.toInt = up.toInt) (by omega) (by omega))) dX12_laysOut_186 ?_
      refine gz_ev (w := .int ((F 9) (Int32.toNatClampNeg up))) rfl ?_
      refine gz_iconst (v := 1) dX12_laysOut_187 (by decide) ?_
      refine gz_iadd dX12_laysOut_188 ?_
      obtain ⟨ar, har⟩ : ∃ v_ : Int32, v_ = (((F 9) (Int32.toNatClampNeg up)) + 1) := ⟨_, rfl⟩
      refine gz_ev (w := .int ar) (congrArg Value.int har.symm) ?_
      have qar : ar.toInt = a_ := by
        rcases c2 with ⟨z1, z2, z3, z4⟩ | ⟨p, z1, z2, z3, z4, z5⟩
        · rw [c3.2] at z1; exfalso; omega
        · rw [c3.2] at z2; have eu : Int32.toNatClampNeg up = 40 * f + p := by rw [clN]; omega
          have e9 : (F 9 (Int32.toNatClampNeg up)).toInt = arF Fs f p := by rw [eu, ha.1 9 (by decide)]; rfl
          rw [har]; have q := T_add (rfl : (F 9 (Int32.toNatClampNeg up)).toInt = (F 9 (Int32.toNatClampNeg up)).toInt) (show (1 : Int32).toInt = 1 from rfl) (by omega); omega
      refine m_iast 9 hS_3 rfl (N := 880) rfl ((by exact vin_T (rfl : iw.toInt = iw.toInt) (by omega) (by omega))) dX12_laysOut_189 (fun f_4 hS_4q => ?_)
      have hS_4 : mS cy m a f0 n z (va_up (va_up (va_up (va_up F 7 (upd (F 7) (Int32.toNatClampNeg iw) kd)) 8 (upd (F 8) (Int32.toNatClampNeg iw) ((F 77) (Int32.toNatClampNeg nd)))) 10 (upd (F 10) (Int32.toNatClampNeg iw) up)) 9 (upd (F 9) (Int32.toNatClampNeg iw) ar)) G f_4 := hS_4q
      refine gz_aload_n dX12_laysOut_190 rfl rfl ?_
      refine mg_38 hS_4 dX12_laysOut_191 ?_
      refine gz_iload dX12_laysOut_194 rfl ?_
      refine gz_aload_n dX12_laysOut_196 rfl rfl ?_
      refine mg_50 hS_4 dX12_laysOut_197 ?_
      refine gz_iload_n dX12_laysOut_200 rfl rfl ?_
      refine m_iald 17 hS_4 rfl (N := 22) rfl ((by exact vin_T (rfl : x2.toInt = x2.toInt) (by omega) (by omega))) dX12_laysOut_201 ?_
      refine gz_ev (w := .int ((F 17) (Int32.toNatClampNeg x2))) rfl ?_
      refine m_iast 13 hS_4 rfl (N := 880) rfl ((by exact vin_T (rfl : iw.toInt = iw.toInt) (by omega) (by omega))) dX12_laysOut_202 (fun f_5 hS_5q => ?_)
      have hS_5 : mS cy m a f0 n z (va_up (va_up (va_up (va_up (va_up F 7 (upd (F 7) (Int32.toNatClampNeg iw) kd)) 8 (upd (F 8) (Int32.toNatClampNeg iw) ((F 77) (Int32.toNatClampNeg nd)))) 10 (upd (F 10) (Int32.toNatClampNeg iw) up)) 9 (upd (F 9) (Int32.toNatClampNeg iw) ar)) 13 (upd (F 13) (Int32.toNatClampNeg iw) ((F 17) (Int32.toNatClampNeg x2)))) G f_5 := hS_5q
      refine gz_aload_n dX12_laysOut_203 rfl rfl ?_
      refine mg_41 hS_5 dX12_laysOut_204 ?_
      refine gz_iload dX12_laysOut_207 rfl ?_
      refine gz_aload_n dX12_laysOut_209 rfl rfl ?_
      refine mg_50 hS_5 dX12_laysOut_210 ?_
      refine gz_iload_n dX12_laysOut_213 rfl rfl ?_
      refine m_iald 17 hS_5 rfl (N := 22) rfl ((by exact vin_T (rfl : x2.toInt = x2.toInt) (by omega) (by omega))) dX12_laysOut_214 ?_
      refine gz_ev (w := .int ((F 17) (Int32.toNatClampNeg x2))) rfl ?_
      refine m_iast 14 hS_5 rfl (N := 880) rfl ((by exact vin_T (rfl : iw.toInt = iw.toInt) (by omega) (by omega))) dX12_laysOut_215 (fun f_6 hS_6q => ?_)
      have hS_6 : mS cy m a f0 n z (va_up (va_up (va_up (va_up (va_up (va_up F 7 (upd (F 7) (Int32.toNatClampNeg iw) kd)) 8 (upd (F 8) (Int32.toNatClampNeg iw) ((F 77) (Int32.toNatClampNeg nd)))) 10 (upd (F 10) (Int32.toNatClampNeg iw) up)) 9 (upd (F 9) (Int32.toNatClampNeg iw) ar)) 13 (upd (F 13) (Int32.toNatClampNeg iw) ((F 17) (Int32.toNatClampNeg x2)))) 14 (upd (F 14) (Int32.toNatClampNeg iw) ((F 17) (Int32.toNatClampNeg x2)))) G f_6 := hS_6q
      refine gz_aload_n dX12_laysOut_216 rfl rfl ?_
      refine mg_44 hS_6 dX12_laysOut_217 ?_
      refine gz_iload dX12_laysOut_220 rfl ?_
      refine gz_aload_n dX12_laysOut_222 rfl rfl ?_
      refine mg_50 hS_6 dX12_laysOut_223 ?_
      refine gz_iload_n dX12_laysOut_226 rfl rfl ?_
      refine m_iald 17 hS_6 rfl (N := 22) rfl ((by exact vin_T (rfl : x2.toInt = x2.toInt) (by omega) (by omega))) dX12_laysOut_227 ?_
      refine gz_ev (w := .int ((F 17) (Int32.toNatClampNeg x2))) rfl ?_
      refine m_iast 15 hS_6 rfl (N := 880) rfl ((by exact vin_T (rfl : iw.toInt = iw.toInt) (by omega) (by omega))) dX12_laysOut_228 (fun f_7 hS_7q => ?_)
      have hS_7 : mS cy m a f0 n z (va_up (va_up (va_up (va_up (va_up (va_up (va_up F 7 (upd (F 7) (Int32.toNatClampNeg iw) kd)) 8 (upd (F 8) (Int32.toNatClampNeg iw) ((F 77) (Int32.toNatClampNeg nd)))) 10 (upd (F 10) (Int32.toNatClampNeg iw) up)) 9 (upd (F 9) (Int32.toNatClampNeg iw) ar)) 13 (upd (F 13) (Int32.toNatClampNeg iw) ((F 17) (Int32.toNatClampNeg x2)))) 14 (upd (F 14) (Int32.toNatClampNeg iw) ((F 17) (Int32.toNatClampNeg x2)))) 15 (upd (F 15) (Int32.toNatClampNeg iw) ((F 17) (Int32.toNatClampNeg x2)))) G f_7 := hS_7q
      refine gz_aload_n dX12_laysOut_229 rfl rfl ?_
      refine mg_20 hS_7 dX12_laysOut_230 ?_
      refine gz_iload dX12_laysOut_233 rfl ?_
      refine m_iald 7 hS_7 rfl (N := 880) rfl ((by exact vin_T (rfl : iw.toInt = iw.toInt) (by omega) (by omega))) dX12_laysOut_235 ?_
      refine gz_ev (w := .int ((upd (F 7) (Int32.toNatClampNeg iw) kd) (Int32.toNatClampNeg iw))) rfl ?_
      refine gz_ev (w := .int kd) (congrArg Value.int (by rw [updE, if_pos rfl])) ?_
      refine gz_if_eq (tgt := 26) dX12_laysOut_236 (by decide) (fun c_236 => ?_) (fun c_236 => ?_)
      ·
        try simp only [mIn_0, lgc_lt, lgc_gt, lgc_le, lgc_ge, lgc_eq] at c_236
        try simp only [fl_lt, fl_le, fl_eq, fL_w, fL_lt, fL_le, tm1, tm10k, tm9, tm99, Int32.reduceToInt, Int64.reduceToInt, Int.not_lt, Int.not_le] at c_236
        have hxx : fx [] [] [7, 8, 9, 10, 13, 14, 15] [] n z F G n z (va_up (va_up (va_up (va_up (va_up (va_up (va_up F 7 (upd (F 7) (Int32.toNatClampNeg iw) kd)) 8 (upd (F 8) (Int32.toNatClampNeg iw) ((F 77) (Int32.toNatClampNeg nd)))) 10 (upd (F 10) (Int32.toNatClampNeg iw) up)) 9 (upd (F 9) (Int32.toNatClampNeg iw) ar)) 13 (upd (F 13) (Int32.toNatClampNeg iw) ((F 17) (Int32.toNatClampNeg x2)))) 14 (upd (F 14) (Int32.toNatClampNeg iw) ((F 17) (Int32.toNatClampNeg x2)))) 15 (upd (F 15) (Int32.toNatClampNeg iw) ((F 17) (Int32.toNatClampNeg x2)))) G := (fx_F (fx_F (fx_F (fx_F (fx_F (fx_F (fx_F fx_rf (by decide)) (by decide)) (by decide)) (by decide)) (by decide)) (by decide)) (by decide))
        have s7_ : (va_up (va_up (va_up (va_up (va_up (va_up (va_up F 7 (upd (F 7) (Int32.toNatClampNeg iw) kd)) 8 (upd (F 8) (Int32.toNatClampNeg iw) ((F 77) (Int32.toNatClampNeg nd)))) 10 (upd (F 10) (Int32.toNatClampNeg iw) up)) 9 (upd (F 9) (Int32.toNatClampNeg iw) ar)) 13 (upd (F 13) (Int32.toNatClampNeg iw) ((F 17) (Int32.toNatClampNeg x2)))) 14 (upd (F 14) (Int32.toNatClampNeg iw) ((F 17) (Int32.toNatClampNeg x2)))) 15 (upd (F 15) (Int32.toNatClampNeg iw) ((F 17) (Int32.toNatClampNeg x2)))) 7 = (upd (F 7) (Int32.toNatClampNeg iw) kd) := rfl
        have s8_ : (va_up (va_up (va_up (va_up (va_up (va_up (va_up F 7 (upd (F 7) (Int32.toNatClampNeg iw) kd)) 8 (upd (F 8) (Int32.toNatClampNeg iw) ((F 77) (Int32.toNatClampNeg nd)))) 10 (upd (F 10) (Int32.toNatClampNeg iw) up)) 9 (upd (F 9) (Int32.toNatClampNeg iw) ar)) 13 (upd (F 13) (Int32.toNatClampNeg iw) ((F 17) (Int32.toNatClampNeg x2)))) 14 (upd (F 14) (Int32.toNatClampNeg iw) ((F 17) (Int32.toNatClampNeg x2)))) 15 (upd (F 15) (Int32.toNatClampNeg iw) ((F 17) (Int32.toNatClampNeg x2)))) 8 = (upd (F 8) (Int32.toNatClampNeg iw) ((F 77) (Int32.toNatClampNeg nd))) := rfl
        have s9_ : (va_up (va_up (va_up (va_up (va_up (va_up (va_up F 7 (upd (F 7) (Int32.toNatClampNeg iw) kd)) 8 (upd (F 8) (Int32.toNatClampNeg iw) ((F 77) (Int32.toNatClampNeg nd)))) 10 (upd (F 10) (Int32.toNatClampNeg iw) up)) 9 (upd (F 9) (Int32.toNatClampNeg iw) ar)) 13 (upd (F 13) (Int32.toNatClampNeg iw) ((F 17) (Int32.toNatClampNeg x2)))) 14 (upd (F 14) (Int32.toNatClampNeg iw) ((F 17) (Int32.toNatClampNeg x2)))) 15 (upd (F 15) (Int32.toNatClampNeg iw) ((F 17) (Int32.toNatClampNeg x2)))) 9 = (upd (F 9) (Int32.toNatClampNeg iw) ar) := rfl
        have s10_ : (va_up (va_up (va_up (va_up (va_up (va_up (va_up F 7 (upd (F 7) (Int32.toNatClampNeg iw) kd)) 8 (upd (F 8) (Int32.toNatClampNeg iw) ((F 77) (Int32.toNatClampNeg nd)))) 10 (upd (F 10) (Int32.toNatClampNeg iw) up)) 9 (upd (F 9) (Int32.toNatClampNeg iw) ar)) 13 (upd (F 13) (Int32.toNatClampNeg iw) ((F 17) (Int32.toNatClampNeg x2)))) 14 (upd (F 14) (Int32.toNatClampNeg iw) ((F 17) (Int32.toNatClampNeg x2)))) 15 (upd (F 15) (Int32.toNatClampNeg iw) ((F 17) (Int32.toNatClampNeg x2)))) 10 = (upd (F 10) (Int32.toNatClampNeg iw) up) := rfl
        have s13_ : (va_up (va_up (va_up (va_up (va_up (va_up (va_up F 7 (upd (F 7) (Int32.toNatClampNeg iw) kd)) 8 (upd (F 8) (Int32.toNatClampNeg iw) ((F 77) (Int32.toNatClampNeg nd)))) 10 (upd (F 10) (Int32.toNatClampNeg iw) up)) 9 (upd (F 9) (Int32.toNatClampNeg iw) ar)) 13 (upd (F 13) (Int32.toNatClampNeg iw) ((F 17) (Int32.toNatClampNeg x2)))) 14 (upd (F 14) (Int32.toNatClampNeg iw) ((F 17) (Int32.toNatClampNeg x2)))) 15 (upd (F 15) (Int32.toNatClampNeg iw) ((F 17) (Int32.toNatClampNeg x2)))) 13 = (upd (F 13) (Int32.toNatClampNeg iw) ((F 17) (Int32.toNatClampNeg x2))) := rfl
        have s14_ : (va_up (va_up (va_up (va_up (va_up (va_up (va_up F 7 (upd (F 7) (Int32.toNatClampNeg iw) kd)) 8 (upd (F 8) (Int32.toNatClampNeg iw) ((F 77) (Int32.toNatClampNeg nd)))) 10 (upd (F 10) (Int32.toNatClampNeg iw) up)) 9 (upd (F 9) (Int32.toNatClampNeg iw) ar)) 13 (upd (F 13) (Int32.toNatClampNeg iw) ((F 17) (Int32.toNatClampNeg x2)))) 14 (upd (F 14) (Int32.toNatClampNeg iw) ((F 17) (Int32.toNatClampNeg x2)))) 15 (upd (F 15) (Int32.toNatClampNeg iw) ((F 17) (Int32.toNatClampNeg x2)))) 14 = (upd (F 14) (Int32.toNatClampNeg iw) ((F 17) (Int32.toNatClampNeg x2))) := rfl
        have s15_ : (va_up (va_up (va_up (va_up (va_up (va_up (va_up F 7 (upd (F 7) (Int32.toNatClampNeg iw) kd)) 8 (upd (F 8) (Int32.toNatClampNeg iw) ((F 77) (Int32.toNatClampNeg nd)))) 10 (upd (F 10) (Int32.toNatClampNeg iw) up)) 9 (upd (F 9) (Int32.toNatClampNeg iw) ar)) 13 (upd (F 13) (Int32.toNatClampNeg iw) ((F 17) (Int32.toNatClampNeg x2)))) 14 (upd (F 14) (Int32.toNatClampNeg iw) ((F 17) (Int32.toNatClampNeg x2)))) 15 (upd (F 15) (Int32.toNatClampNeg iw) ((F 17) (Int32.toNatClampNeg x2)))) 15 = (upd (F 15) (Int32.toNatClampNeg iw) ((F 17) (Int32.toNatClampNeg x2))) := rfl
        have s17_ : (va_up (va_up (va_up (va_up (va_up (va_up (va_up F 7 (upd (F 7) (Int32.toNatClampNeg iw) kd)) 8 (upd (F 8) (Int32.toNatClampNeg iw) ((F 77) (Int32.toNatClampNeg nd)))) 10 (upd (F 10) (Int32.toNatClampNeg iw) up)) 9 (upd (F 9) (Int32.toNatClampNeg iw) ar)) 13 (upd (F 13) (Int32.toNatClampNeg iw) ((F 17) (Int32.toNatClampNeg x2)))) 14 (upd (F 14) (Int32.toNatClampNeg iw) ((F 17) (Int32.toNatClampNeg x2)))) 15 (upd (F 15) (Int32.toNatClampNeg iw) ((F 17) (Int32.toNatClampNeg x2)))) 17 = (F 17) := rfl
        have s19_ : (va_up (va_up (va_up (va_up (va_up (va_up (va_up F 7 (upd (F 7) (Int32.toNatClampNeg iw) kd)) 8 (upd (F 8) (Int32.toNatClampNeg iw) ((F 77) (Int32.toNatClampNeg nd)))) 10 (upd (F 10) (Int32.toNatClampNeg iw) up)) 9 (upd (F 9) (Int32.toNatClampNeg iw) ar)) 13 (upd (F 13) (Int32.toNatClampNeg iw) ((F 17) (Int32.toNatClampNeg x2)))) 14 (upd (F 14) (Int32.toNatClampNeg iw) ((F 17) (Int32.toNatClampNeg x2)))) 15 (upd (F 15) (Int32.toNatClampNeg iw) ((F 17) (Int32.toNatClampNeg x2)))) 19 = (F 19) := rfl
        have off : ∀ r, r ∈ [7, 9, 10, 13, 14, 15] → ∀ i, i ≠ 40 * f + W → (va_up (va_up (va_up (va_up (va_up (va_up (va_up F 7 (upd (F 7) (Int32.toNatClampNeg iw) kd)) 8 (upd (F 8) (Int32.toNatClampNeg iw) ((F 77) (Int32.toNatClampNeg nd)))) 10 (upd (F 10) (Int32.toNatClampNeg iw) up)) 9 (upd (F 9) (Int32.toNatClampNeg iw) ar)) 13 (upd (F 13) (Int32.toNatClampNeg iw) ((F 17) (Int32.toNatClampNeg x2)))) 14 (upd (F 14) (Int32.toNatClampNeg iw) ((F 17) (Int32.toNatClampNeg x2)))) 15 (upd (F 15) (Int32.toNatClampNeg iw) ((F 17) (Int32.toNatClampNeg x2)))) r i = F r i := by
          intro r hr i hi
          rw [← eci] at hi
          simp only [List.mem_cons, List.not_mem_nil, or_false] at hr
          rcases hr with rfl | rfl | rfl | rfl | rfl | rfl
          · rw [s7_, updE, if_neg hi]
          · rw [s9_, updE, if_neg hi]
          · rw [s10_, updE, if_neg hi]
          · rw [s13_, updE, if_neg hi]
          · rw [s14_, updE, if_neg hi]
          · rw [s15_, updE, if_neg hi]
        have v7 : (va_up (va_up (va_up (va_up (va_up (va_up (va_up F 7 (upd (F 7) (Int32.toNatClampNeg iw) kd)) 8 (upd (F 8) (Int32.toNatClampNeg iw) ((F 77) (Int32.toNatClampNeg nd)))) 10 (upd (F 10) (Int32.toNatClampNeg iw) up)) 9 (upd (F 9) (Int32.toNatClampNeg iw) ar)) 13 (upd (F 13) (Int32.toNatClampNeg iw) ((F 17) (Int32.toNatClampNeg x2)))) 14 (upd (F 14) (Int32.toNatClampNeg iw) ((F 17) (Int32.toNatClampNeg x2)))) 15 (upd (F 15) (Int32.toNatClampNeg iw) ((F 17) (Int32.toNatClampNeg x2)))) 7 (40 * f + W) = kd := by rw [s7_, ← eci, updE, if_pos rfl]
        have v13 : (va_up (va_up (va_up (va_up (va_up (va_up (va_up F 7 (upd (F 7) (Int32.toNatClampNeg iw) kd)) 8 (upd (F 8) (Int32.toNatClampNeg iw) ((F 77) (Int32.toNatClampNeg nd)))) 10 (upd (F 10) (Int32.toNatClampNeg iw) up)) 9 (upd (F 9) (Int32.toNatClampNeg iw) ar)) 13 (upd (F 13) (Int32.toNatClampNeg iw) ((F 17) (Int32.toNatClampNeg x2)))) 14 (upd (F 14) (Int32.toNatClampNeg iw) ((F 17) (Int32.toNatClampNeg x2)))) 15 (upd (F 15) (Int32.toNatClampNeg iw) ((F 17) (Int32.toNatClampNeg x2)))) 13 (40 * f + W) = F 17 (Int32.toNatClampNeg x2) := by rw [s13_, ← eci, updE, if_pos rfl]
        have v14 : (va_up (va_up (va_up (va_up (va_up (va_up (va_up F 7 (upd (F 7) (Int32.toNatClampNeg iw) kd)) 8 (upd (F 8) (Int32.toNatClampNeg iw) ((F 77) (Int32.toNatClampNeg nd)))) 10 (upd (F 10) (Int32.toNatClampNeg iw) up)) 9 (upd (F 9) (Int32.toNatClampNeg iw) ar)) 13 (upd (F 13) (Int32.toNatClampNeg iw) ((F 17) (Int32.toNatClampNeg x2)))) 14 (upd (F 14) (Int32.toNatClampNeg iw) ((F 17) (Int32.toNatClampNeg x2)))) 15 (upd (F 15) (Int32.toNatClampNeg iw) ((F 17) (Int32.toNatClampNeg x2)))) 14 (40 * f + W) = F 17 (Int32.toNatClampNeg x2) := by rw [s14_, ← eci, updE, if_pos rfl]
        have v15 : (va_up (va_up (va_up (va_up (va_up (va_up (va_up F 7 (upd (F 7) (Int32.toNatClampNeg iw) kd)) 8 (upd (F 8) (Int32.toNatClampNeg iw) ((F 77) (Int32.toNatClampNeg nd)))) 10 (upd (F 10) (Int32.toNatClampNeg iw) up)) 9 (upd (F 9) (Int32.toNatClampNeg iw) ar)) 13 (upd (F 13) (Int32.toNatClampNeg iw) ((F 17) (Int32.toNatClampNeg x2)))) 14 (upd (F 14) (Int32.toNatClampNeg iw) ((F 17) (Int32.toNatClampNeg x2)))) 15 (upd (F 15) (Int32.toNatClampNeg iw) ((F 17) (Int32.toNatClampNeg x2)))) 15 (40 * f + W) = F 17 (Int32.toNatClampNeg x2) := by rw [s15_, ← eci, updE, if_pos rfl]
        have v17 : (F 17 (Int32.toNatClampNeg x2)).toInt = (Fs 17 f).toInt := by rw [ecf, ha.1 17 (by decide)]
        have hb : LYb Fs (va_up (va_up (va_up (va_up (va_up (va_up (va_up F 7 (upd (F 7) (Int32.toNatClampNeg iw) kd)) 8 (upd (F 8) (Int32.toNatClampNeg iw) ((F 77) (Int32.toNatClampNeg nd)))) 10 (upd (F 10) (Int32.toNatClampNeg iw) up)) 9 (upd (F 9) (Int32.toNatClampNeg iw) ar)) 13 (upd (F 13) (Int32.toNatClampNeg iw) ((F 17) (Int32.toNatClampNeg x2)))) 14 (upd (F 14) (Int32.toNatClampNeg iw) ((F 17) (Int32.toNatClampNeg x2)))) 15 (upd (F 15) (Int32.toNatClampNeg iw) ((F 17) (Int32.toNatClampNeg x2)))) f W T a_ := LYb_of ha (fun r hr => hxx.2.2.1 r hr) off (by rw [s10_, ← eci, updE, if_pos rfl, c3.2]) (by unfold arF; rw [s9_, ← eci, updE, if_pos rfl]; exact qar)
        have hA9 : rAll (va_up (va_up (va_up (va_up (va_up (va_up (va_up F 7 (upd (F 7) (Int32.toNatClampNeg iw) kd)) 8 (upd (F 8) (Int32.toNatClampNeg iw) ((F 77) (Int32.toNatClampNeg nd)))) 10 (upd (F 10) (Int32.toNatClampNeg iw) up)) 9 (upd (F 9) (Int32.toNatClampNeg iw) ar)) 13 (upd (F 13) (Int32.toNatClampNeg iw) ((F 17) (Int32.toNatClampNeg x2)))) 14 (upd (F 14) (Int32.toNatClampNeg iw) ((F 17) (Int32.toNatClampNeg x2)))) 15 (upd (F 15) (Int32.toNatClampNeg iw) ((F 17) (Int32.toNatClampNeg x2)))) := by
          intro q hq
          obtain ⟨q1, q2, q3, q4⟩ := hA q hq
          have q40 := c5
          rw [s13_, s14_, s15_, s19_]
          refine ⟨?_, ?_, ?_, q4⟩ <;> (rw [updE]; split <;> omega)
        have v8 : (va_up (va_up (va_up (va_up (va_up (va_up (va_up F 7 (upd (F 7) (Int32.toNatClampNeg iw) kd)) 8 (upd (F 8) (Int32.toNatClampNeg iw) ((F 77) (Int32.toNatClampNeg nd)))) 10 (upd (F 10) (Int32.toNatClampNeg iw) up)) 9 (upd (F 9) (Int32.toNatClampNeg iw) ar)) 13 (upd (F 13) (Int32.toNatClampNeg iw) ((F 17) (Int32.toNatClampNeg x2)))) 14 (upd (F 14) (Int32.toNatClampNeg iw) ((F 17) (Int32.toNatClampNeg x2)))) 15 (upd (F 15) (Int32.toNatClampNeg iw) ((F 17) (Int32.toNatClampNeg x2)))) 8 (40 * f + W) = Fs 77 nd.toInt.toNat := by rw [s8_, ← eci, updE, if_pos rfl]; exact congrFun (ha.1 77 (by decide)) _
        have o8 : ∀ i, i ≠ 40 * f + W → (va_up (va_up (va_up (va_up (va_up (va_up (va_up F 7 (upd (F 7) (Int32.toNatClampNeg iw) kd)) 8 (upd (F 8) (Int32.toNatClampNeg iw) ((F 77) (Int32.toNatClampNeg nd)))) 10 (upd (F 10) (Int32.toNatClampNeg iw) up)) 9 (upd (F 9) (Int32.toNatClampNeg iw) ar)) 13 (upd (F 13) (Int32.toNatClampNeg iw) ((F 17) (Int32.toNatClampNeg x2)))) 14 (upd (F 14) (Int32.toNatClampNeg iw) ((F 17) (Int32.toNatClampNeg x2)))) 15 (upd (F 15) (Int32.toNatClampNeg iw) ((F 17) (Int32.toNatClampNeg x2)))) 8 i = Fs 8 i := fun i hi => by rw [← eci] at hi; rw [s8_, updE, if_neg hi]; exact congrFun (ha.1 8 (by decide)) i
        have hlB : lowR F0 (va_up (va_up (va_up (va_up (va_up (va_up (va_up F 7 (upd (F 7) (Int32.toNatClampNeg iw) kd)) 8 (upd (F 8) (Int32.toNatClampNeg iw) ((F 77) (Int32.toNatClampNeg nd)))) 10 (upd (F 10) (Int32.toNatClampNeg iw) up)) 9 (upd (F 9) (Int32.toNatClampNeg iw) ar)) 13 (upd (F 13) (Int32.toNatClampNeg iw) ((F 17) (Int32.toNatClampNeg x2)))) 14 (upd (F 14) (Int32.toNatClampNeg iw) ((F 17) (Int32.toNatClampNeg x2)))) 15 (upd (F 15) (Int32.toNatClampNeg iw) ((F 17) (Int32.toNatClampNeg x2)))) f := low_B hlw ha (fun r hr => hxx.2.2.1 r hr) off o8
        have hJ : LYJ F0 n (va_up (va_up (va_up (va_up (va_up (va_up (va_up F 7 (upd (F 7) (Int32.toNatClampNeg iw) kd)) 8 (upd (F 8) (Int32.toNatClampNeg iw) ((F 77) (Int32.toNatClampNeg nd)))) 10 (upd (F 10) (Int32.toNatClampNeg iw) up)) 9 (upd (F 9) (Int32.toNatClampNeg iw) ar)) 13 (upd (F 13) (Int32.toNatClampNeg iw) ((F 17) (Int32.toNatClampNeg x2)))) 14 (upd (F 14) (Int32.toNatClampNeg iw) ((F 17) (Int32.toNatClampNeg x2)))) 15 (upd (F 15) (Int32.toNatClampNeg iw) ((F 17) (Int32.toNatClampNeg x2)))) f fo Wn (W + 1) T := LYJ_leaf hf.2.2.1 hf.2.2.2 hc hb h83 hA9 (by rw [v7]; omega) (by rw [v13, v14, v15]; exact ⟨rfl, rfl⟩)
        have hZ2 : LZ (va_up (va_up (va_up (va_up (va_up (va_up (va_up F 7 (upd (F 7) (Int32.toNatClampNeg iw) kd)) 8 (upd (F 8) (Int32.toNatClampNeg iw) ((F 77) (Int32.toNatClampNeg nd)))) 10 (upd (F 10) (Int32.toNatClampNeg iw) up)) 9 (upd (F 9) (Int32.toNatClampNeg iw) ar)) 13 (upd (F 13) (Int32.toNatClampNeg iw) ((F 17) (Int32.toNatClampNeg x2)))) 14 (upd (F 14) (Int32.toNatClampNeg iw) ((F 17) (Int32.toNatClampNeg x2)))) 15 (upd (F 15) (Int32.toNatClampNeg iw) ((F 17) (Int32.toNatClampNeg x2)))) f Wn H fi se FIN NW NV (W + 1) T := LZ_leaf (F0 := F) hZ hE hTL c3.1 hb c2 o8 (v7.trans qkd) v8 (by rw [← qkd]; omega) (by rw [v13, v14, v15]; exact ⟨rfl, rfl⟩)
        refine gz_sub (lv' := [(0, .ref m), (1, .int x1), (2, .int x2)]) (by simp [List.lookup]) ?_
        exact hq_ T _ _ _ _ _ hS_7 (fx_F (fx_F (fx_F (fx_F (fx_F (fx_F (fx_F hx (by decide)) (by decide)) (by decide)) (by decide)) (by decide)) (by decide)) (by decide)) hJ hZ2 hlB
      ·
        try simp only [mIn_0, lgc_lt, lgc_gt, lgc_le, lgc_ge, lgc_eq] at c_236
        try simp only [fl_lt, fl_le, fl_eq, fL_w, fL_lt, fL_le, tm1, tm10k, tm9, tm99, Int32.reduceToInt, Int64.reduceToInt, Int.not_lt, Int.not_le] at c_236
        refine gz_aload_n dX12_laysOut_239 rfl rfl ?_
        refine mg_20 hS_7 dX12_laysOut_240 ?_
        refine gz_iload dX12_laysOut_243 rfl ?_
        refine m_iald 7 hS_7 rfl (N := 880) rfl ((by exact vin_T (rfl : iw.toInt = iw.toInt) (by omega) (by omega))) dX12_laysOut_245 ?_
        refine gz_ev (w := .int ((upd (F 7) (Int32.toNatClampNeg iw) kd) (Int32.toNatClampNeg iw))) rfl ?_
        refine gz_ev (w := .int kd) (congrArg Value.int (by rw [updE, if_pos rfl])) ?_
        refine gz_iconst (v := 1) dX12_laysOut_246 (by decide) ?_
        refine gz_icmp_ne (tgt := 253) dX12_laysOut_247 (by decide) (fun c_247 => ?_) (fun c_247 => ?_)
        ·
          try simp only [mIn_0, lgc_lt, lgc_gt, lgc_le, lgc_ge, lgc_eq] at c_247
          try simp only [fl_lt, fl_le, fl_eq, fL_w, fL_lt, fL_le, tm1, tm10k, tm9, tm99, Int32.reduceToInt, Int64.reduceToInt, Int.not_lt, Int.not_le] at c_247
          have hxx : fx [] [] [7, 8, 9, 10, 13, 14, 15] [] n z F G n z (va_up (va_up (va_up (va_up (va_up (va_up (va_up F 7 (upd (F 7) (Int32.toNatClampNeg iw) kd)) 8 (upd (F 8) (Int32.toNatClampNeg iw) ((F 77) (Int32.toNatClampNeg nd)))) 10 (upd (F 10) (Int32.toNatClampNeg iw) up)) 9 (upd (F 9) (Int32.toNatClampNeg iw) ar)) 13 (upd (F 13) (Int32.toNatClampNeg iw) ((F 17) (Int32.toNatClampNeg x2)))) 14 (upd (F 14) (Int32.toNatClampNeg iw) ((F 17) (Int32.toNatClampNeg x2)))) 15 (upd (F 15) (Int32.toNatClampNeg iw) ((F 17) (Int32.toNatClampNeg x2)))) G := (fx_F (fx_F (fx_F (fx_F (fx_F (fx_F (fx_F fx_rf (by decide)) (by decide)) (by decide)) (by decide)) (by decide)) (by decide)) (by decide))
          have s7_ : (va_up (va_up (va_up (va_up (va_up (va_up (va_up F 7 (upd (F 7) (Int32.toNatClampNeg iw) kd)) 8 (upd (F 8) (Int32.toNatClampNeg iw) ((F 77) (Int32.toNatClampNeg nd)))) 10 (upd (F 10) (Int32.toNatClampNeg iw) up)) 9 (upd (F 9) (Int32.toNatClampNeg iw) ar)) 13 (upd (F 13) (Int32.toNatClampNeg iw) ((F 17) (Int32.toNatClampNeg x2)))) 14 (upd (F 14) (Int32.toNatClampNeg iw) ((F 17) (Int32.toNatClampNeg x2)))) 15 (upd (F 15) (Int32.toNatClampNeg iw) ((F 17) (Int32.toNatClampNeg x2)))) 7 = (upd (F 7) (Int32.toNatClampNeg iw) kd) := rfl
          have s8_ : (va_up (va_up (va_up (va_up (va_up (va_up (va_up F 7 (upd (F 7) (Int32.toNatClampNeg iw) kd)) 8 (upd (F 8) (Int32.toNatClampNeg iw) ((F 77) (Int32.toNatClampNeg nd)))) 10 (upd (F 10) (Int32.toNatClampNeg iw) up)) 9 (upd (F 9) (Int32.toNatClampNeg iw) ar)) 13 (upd (F 13) (Int32.toNatClampNeg iw) ((F 17) (Int32.toNatClampNeg x2)))) 14 (upd (F 14) (Int32.toNatClampNeg iw) ((F 17) (Int32.toNatClampNeg x2)))) 15 (upd (F 15) (Int32.toNatClampNeg iw) ((F 17) (Int32.toNatClampNeg x2)))) 8 = (upd (F 8) (Int32.toNatClampNeg iw) ((F 77) (Int32.toNatClampNeg nd))) := rfl
          have s9_ : (va_up (va_up (va_up (va_up (va_up (va_up (va_up F 7 (upd (F 7) (Int32.toNatClampNeg iw) kd)) 8 (upd (F 8) (Int32.toNatClampNeg iw) ((F 77) (Int32.toNatClampNeg nd)))) 10 (upd (F 10) (Int32.toNatClampNeg iw) up)) 9 (upd (F 9) (Int32.toNatClampNeg iw) ar)) 13 (upd (F 13) (Int32.toNatClampNeg iw) ((F 17) (Int32.toNatClampNeg x2)))) 14 (upd (F 14) (Int32.toNatClampNeg iw) ((F 17) (Int32.toNatClampNeg x2)))) 15 (upd (F 15) (Int32.toNatClampNeg iw) ((F 17) (Int32.toNatClampNeg x2)))) 9 = (upd (F 9) (Int32.toNatClampNeg iw) ar) := rfl
          have s10_ : (va_up (va_up (va_up (va_up (va_up (va_up (va_up F 7 (upd (F 7) (Int32.toNatClampNeg iw) kd)) 8 (upd (F 8) (Int32.toNatClampNeg iw) ((F 77) (Int32.toNatClampNeg nd)))) 10 (upd (F 10) (Int32.toNatClampNeg iw) up)) 9 (upd (F 9) (Int32.toNatClampNeg iw) ar)) 13 (upd (F 13) (Int32.toNatClampNeg iw) ((F 17) (Int32.toNatClampNeg x2)))) 14 (upd (F 14) (Int32.toNatClampNeg iw) ((F 17) (Int32.toNatClampNeg x2)))) 15 (upd (F 15) (Int32.toNatClampNeg iw) ((F 17) (Int32.toNatClampNeg x2)))) 10 = (upd (F 10) (Int32.toNatClampNeg iw) up) := rfl
          have s13_ : (va_up (va_up (va_up (va_up (va_up (va_up (va_up F 7 (upd (F 7) (Int32.toNatClampNeg iw) kd)) 8 (upd (F 8) (Int32.toNatClampNeg iw) ((F 77) (Int32.toNatClampNeg nd)))) 10 (upd (F 10) (Int32.toNatClampNeg iw) up)) 9 (upd (F 9) (Int32.toNatClampNeg iw) ar)) 13 (upd (F 13) (Int32.toNatClampNeg iw) ((F 17) (Int32.toNatClampNeg x2)))) 14 (upd (F 14) (Int32.toNatClampNeg iw) ((F 17) (Int32.toNatClampNeg x2)))) 15 (upd (F 15) (Int32.toNatClampNeg iw) ((F 17) (Int32.toNatClampNeg x2)))) 13 = (upd (F 13) (Int32.toNatClampNeg iw) ((F 17) (Int32.toNatClampNeg x2))) := rfl
          have s14_ : (va_up (va_up (va_up (va_up (va_up (va_up (va_up F 7 (upd (F 7) (Int32.toNatClampNeg iw) kd)) 8 (upd (F 8) (Int32.toNatClampNeg iw) ((F 77) (Int32.toNatClampNeg nd)))) 10 (upd (F 10) (Int32.toNatClampNeg iw) up)) 9 (upd (F 9) (Int32.toNatClampNeg iw) ar)) 13 (upd (F 13) (Int32.toNatClampNeg iw) ((F 17) (Int32.toNatClampNeg x2)))) 14 (upd (F 14) (Int32.toNatClampNeg iw) ((F 17) (Int32.toNatClampNeg x2)))) 15 (upd (F 15) (Int32.toNatClampNeg iw) ((F 17) (Int32.toNatClampNeg x2)))) 14 = (upd (F 14) (Int32.toNatClampNeg iw) ((F 17) (Int32.toNatClampNeg x2))) := rfl
          have s15_ : (va_up (va_up (va_up (va_up (va_up (va_up (va_up F 7 (upd (F 7) (Int32.toNatClampNeg iw) kd)) 8 (upd (F 8) (Int32.toNatClampNeg iw) ((F 77) (Int32.toNatClampNeg nd)))) 10 (upd (F 10) (Int32.toNatClampNeg iw) up)) 9 (upd (F 9) (Int32.toNatClampNeg iw) ar)) 13 (upd (F 13) (Int32.toNatClampNeg iw) ((F 17) (Int32.toNatClampNeg x2)))) 14 (upd (F 14) (Int32.toNatClampNeg iw) ((F 17) (Int32.toNatClampNeg x2)))) 15 (upd (F 15) (Int32.toNatClampNeg iw) ((F 17) (Int32.toNatClampNeg x2)))) 15 = (upd (F 15) (Int32.toNatClampNeg iw) ((F 17) (Int32.toNatClampNeg x2))) := rfl
          have s17_ : (va_up (va_up (va_up (va_up (va_up (va_up (va_up F 7 (upd (F 7) (Int32.toNatClampNeg iw) kd)) 8 (upd (F 8) (Int32.toNatClampNeg iw) ((F 77) (Int32.toNatClampNeg nd)))) 10 (upd (F 10) (Int32.toNatClampNeg iw) up)) 9 (upd (F 9) (Int32.toNatClampNeg iw) ar)) 13 (upd (F 13) (Int32.toNatClampNeg iw) ((F 17) (Int32.toNatClampNeg x2)))) 14 (upd (F 14) (Int32.toNatClampNeg iw) ((F 17) (Int32.toNatClampNeg x2)))) 15 (upd (F 15) (Int32.toNatClampNeg iw) ((F 17) (Int32.toNatClampNeg x2)))) 17 = (F 17) := rfl
          have s19_ : (va_up (va_up (va_up (va_up (va_up (va_up (va_up F 7 (upd (F 7) (Int32.toNatClampNeg iw) kd)) 8 (upd (F 8) (Int32.toNatClampNeg iw) ((F 77) (Int32.toNatClampNeg nd)))) 10 (upd (F 10) (Int32.toNatClampNeg iw) up)) 9 (upd (F 9) (Int32.toNatClampNeg iw) ar)) 13 (upd (F 13) (Int32.toNatClampNeg iw) ((F 17) (Int32.toNatClampNeg x2)))) 14 (upd (F 14) (Int32.toNatClampNeg iw) ((F 17) (Int32.toNatClampNeg x2)))) 15 (upd (F 15) (Int32.toNatClampNeg iw) ((F 17) (Int32.toNatClampNeg x2)))) 19 = (F 19) := rfl
          have off : ∀ r, r ∈ [7, 9, 10, 13, 14, 15] → ∀ i, i ≠ 40 * f + W → (va_up (va_up (va_up (va_up (va_up (va_up (va_up F 7 (upd (F 7) (Int32.toNatClampNeg iw) kd)) 8 (upd (F 8) (Int32.toNatClampNeg iw) ((F 77) (Int32.toNatClampNeg nd)))) 10 (upd (F 10) (Int32.toNatClampNeg iw) up)) 9 (upd (F 9) (Int32.toNatClampNeg iw) ar)) 13 (upd (F 13) (Int32.toNatClampNeg iw) ((F 17) (Int32.toNatClampNeg x2)))) 14 (upd (F 14) (Int32.toNatClampNeg iw) ((F 17) (Int32.toNatClampNeg x2)))) 15 (upd (F 15) (Int32.toNatClampNeg iw) ((F 17) (Int32.toNatClampNeg x2)))) r i = F r i := by
            intro r hr i hi
            rw [← eci] at hi
            simp only [List.mem_cons, List.not_mem_nil, or_false] at hr
            rcases hr with rfl | rfl | rfl | rfl | rfl | rfl
            · rw [s7_, updE, if_neg hi]
            · rw [s9_, updE, if_neg hi]
            · rw [s10_, updE, if_neg hi]
            · rw [s13_, updE, if_neg hi]
            · rw [s14_, updE, if_neg hi]
            · rw [s15_, updE, if_neg hi]
          have v7 : (va_up (va_up (va_up (va_up (va_up (va_up (va_up F 7 (upd (F 7) (Int32.toNatClampNeg iw) kd)) 8 (upd (F 8) (Int32.toNatClampNeg iw) ((F 77) (Int32.toNatClampNeg nd)))) 10 (upd (F 10) (Int32.toNatClampNeg iw) up)) 9 (upd (F 9) (Int32.toNatClampNeg iw) ar)) 13 (upd (F 13) (Int32.toNatClampNeg iw) ((F 17) (Int32.toNatClampNeg x2)))) 14 (upd (F 14) (Int32.toNatClampNeg iw) ((F 17) (Int32.toNatClampNeg x2)))) 15 (upd (F 15) (Int32.toNatClampNeg iw) ((F 17) (Int32.toNatClampNeg x2)))) 7 (40 * f + W) = kd := by rw [s7_, ← eci, updE, if_pos rfl]
          have v13 : (va_up (va_up (va_up (va_up (va_up (va_up (va_up F 7 (upd (F 7) (Int32.toNatClampNeg iw) kd)) 8 (upd (F 8) (Int32.toNatClampNeg iw) ((F 77) (Int32.toNatClampNeg nd)))) 10 (upd (F 10) (Int32.toNatClampNeg iw) up)) 9 (upd (F 9) (Int32.toNatClampNeg iw) ar)) 13 (upd (F 13) (Int32.toNatClampNeg iw) ((F 17) (Int32.toNatClampNeg x2)))) 14 (upd (F 14) (Int32.toNatClampNeg iw) ((F 17) (Int32.toNatClampNeg x2)))) 15 (upd (F 15) (Int32.toNatClampNeg iw) ((F 17) (Int32.toNatClampNeg x2)))) 13 (40 * f + W) = F 17 (Int32.toNatClampNeg x2) := by rw [s13_, ← eci, updE, if_pos rfl]
          have v14 : (va_up (va_up (va_up (va_up (va_up (va_up (va_up F 7 (upd (F 7) (Int32.toNatClampNeg iw) kd)) 8 (upd (F 8) (Int32.toNatClampNeg iw) ((F 77) (Int32.toNatClampNeg nd)))) 10 (upd (F 10) (Int32.toNatClampNeg iw) up)) 9 (upd (F 9) (Int32.toNatClampNeg iw) ar)) 13 (upd (F 13) (Int32.toNatClampNeg iw) ((F 17) (Int32.toNatClampNeg x2)))) 14 (upd (F 14) (Int32.toNatClampNeg iw) ((F 17) (Int32.toNatClampNeg x2)))) 15 (upd (F 15) (Int32.toNatClampNeg iw) ((F 17) (Int32.toNatClampNeg x2)))) 14 (40 * f + W) = F 17 (Int32.toNatClampNeg x2) := by rw [s14_, ← eci, updE, if_pos rfl]
          have v15 : (va_up (va_up (va_up (va_up (va_up (va_up (va_up F 7 (upd (F 7) (Int32.toNatClampNeg iw) kd)) 8 (upd (F 8) (Int32.toNatClampNeg iw) ((F 77) (Int32.toNatClampNeg nd)))) 10 (upd (F 10) (Int32.toNatClampNeg iw) up)) 9 (upd (F 9) (Int32.toNatClampNeg iw) ar)) 13 (upd (F 13) (Int32.toNatClampNeg iw) ((F 17) (Int32.toNatClampNeg x2)))) 14 (upd (F 14) (Int32.toNatClampNeg iw) ((F 17) (Int32.toNatClampNeg x2)))) 15 (upd (F 15) (Int32.toNatClampNeg iw) ((F 17) (Int32.toNatClampNeg x2)))) 15 (40 * f + W) = F 17 (Int32.toNatClampNeg x2) := by rw [s15_, ← eci, updE, if_pos rfl]
          have v17 : (F 17 (Int32.toNatClampNeg x2)).toInt = (Fs 17 f).toInt := by rw [ecf, ha.1 17 (by decide)]
          have hb : LYb Fs (va_up (va_up (va_up (va_up (va_up (va_up (va_up F 7 (upd (F 7) (Int32.toNatClampNeg iw) kd)) 8 (upd (F 8) (Int32.toNatClampNeg iw) ((F 77) (Int32.toNatClampNeg nd)))) 10 (upd (F 10) (Int32.toNatClampNeg iw) up)) 9 (upd (F 9) (Int32.toNatClampNeg iw) ar)) 13 (upd (F 13) (Int32.toNatClampNeg iw) ((F 17) (Int32.toNatClampNeg x2)))) 14 (upd (F 14) (Int32.toNatClampNeg iw) ((F 17) (Int32.toNatClampNeg x2)))) 15 (upd (F 15) (Int32.toNatClampNeg iw) ((F 17) (Int32.toNatClampNeg x2)))) f W T a_ := LYb_of ha (fun r hr => hxx.2.2.1 r hr) off (by rw [s10_, ← eci, updE, if_pos rfl, c3.2]) (by unfold arF; rw [s9_, ← eci, updE, if_pos rfl]; exact qar)
          have hA9 : rAll (va_up (va_up (va_up (va_up (va_up (va_up (va_up F 7 (upd (F 7) (Int32.toNatClampNeg iw) kd)) 8 (upd (F 8) (Int32.toNatClampNeg iw) ((F 77) (Int32.toNatClampNeg nd)))) 10 (upd (F 10) (Int32.toNatClampNeg iw) up)) 9 (upd (F 9) (Int32.toNatClampNeg iw) ar)) 13 (upd (F 13) (Int32.toNatClampNeg iw) ((F 17) (Int32.toNatClampNeg x2)))) 14 (upd (F 14) (Int32.toNatClampNeg iw) ((F 17) (Int32.toNatClampNeg x2)))) 15 (upd (F 15) (Int32.toNatClampNeg iw) ((F 17) (Int32.toNatClampNeg x2)))) := by
            intro q hq
            obtain ⟨q1, q2, q3, q4⟩ := hA q hq
            have q40 := c5
            rw [s13_, s14_, s15_, s19_]
            refine ⟨?_, ?_, ?_, q4⟩ <;> (rw [updE]; split <;> omega)
          have v8 : (va_up (va_up (va_up (va_up (va_up (va_up (va_up F 7 (upd (F 7) (Int32.toNatClampNeg iw) kd)) 8 (upd (F 8) (Int32.toNatClampNeg iw) ((F 77) (Int32.toNatClampNeg nd)))) 10 (upd (F 10) (Int32.toNatClampNeg iw) up)) 9 (upd (F 9) (Int32.toNatClampNeg iw) ar)) 13 (upd (F 13) (Int32.toNatClampNeg iw) ((F 17) (Int32.toNatClampNeg x2)))) 14 (upd (F 14) (Int32.toNatClampNeg iw) ((F 17) (Int32.toNatClampNeg x2)))) 15 (upd (F 15) (Int32.toNatClampNeg iw) ((F 17) (Int32.toNatClampNeg x2)))) 8 (40 * f + W) = Fs 77 nd.toInt.toNat := by rw [s8_, ← eci, updE, if_pos rfl]; exact congrFun (ha.1 77 (by decide)) _
          have o8 : ∀ i, i ≠ 40 * f + W → (va_up (va_up (va_up (va_up (va_up (va_up (va_up F 7 (upd (F 7) (Int32.toNatClampNeg iw) kd)) 8 (upd (F 8) (Int32.toNatClampNeg iw) ((F 77) (Int32.toNatClampNeg nd)))) 10 (upd (F 10) (Int32.toNatClampNeg iw) up)) 9 (upd (F 9) (Int32.toNatClampNeg iw) ar)) 13 (upd (F 13) (Int32.toNatClampNeg iw) ((F 17) (Int32.toNatClampNeg x2)))) 14 (upd (F 14) (Int32.toNatClampNeg iw) ((F 17) (Int32.toNatClampNeg x2)))) 15 (upd (F 15) (Int32.toNatClampNeg iw) ((F 17) (Int32.toNatClampNeg x2)))) 8 i = Fs 8 i := fun i hi => by rw [← eci] at hi; rw [s8_, updE, if_neg hi]; exact congrFun (ha.1 8 (by decide)) i
          have hlB : lowR F0 (va_up (va_up (va_up (va_up (va_up (va_up (va_up F 7 (upd (F 7) (Int32.toNatClampNeg iw) kd)) 8 (upd (F 8) (Int32.toNatClampNeg iw) ((F 77) (Int32.toNatClampNeg nd)))) 10 (upd (F 10) (Int32.toNatClampNeg iw) up)) 9 (upd (F 9) (Int32.toNatClampNeg iw) ar)) 13 (upd (F 13) (Int32.toNatClampNeg iw) ((F 17) (Int32.toNatClampNeg x2)))) 14 (upd (F 14) (Int32.toNatClampNeg iw) ((F 17) (Int32.toNatClampNeg x2)))) 15 (upd (F 15) (Int32.toNatClampNeg iw) ((F 17) (Int32.toNatClampNeg x2)))) f := low_B hlw ha (fun r hr => hxx.2.2.1 r hr) off o8
          refine gz_sub (lv' := [(0, .ref m), (1, .int x1), (2, .int x2), (3, .int nd), (4, .int up), (5, .int iw)]) (by simp [List.lookup]) ?_
          exact l_X12_laysOutCE hf hwi hc hZ hE hTL hq_ 1 _ _ _ _ _ hS_7 (fx_F (fx_F (fx_F (fx_F (fx_F (fx_F (fx_F hx (by decide)) (by decide)) (by decide)) (by decide)) (by decide)) (by decide)) (by decide)) h83 hA9 hb (v7.trans qkd) (by rw [← qkd]; omega) (by rw [v13]; exact v17) v8 o8 hlB (by decide)
        ·
          try simp only [mIn_0, lgc_lt, lgc_gt, lgc_le, lgc_ge, lgc_eq] at c_247
          try simp only [fl_lt, fl_le, fl_eq, fL_w, fL_lt, fL_le, tm1, tm10k, tm9, tm99, Int32.reduceToInt, Int64.reduceToInt, Int.not_lt, Int.not_le] at c_247
          refine gz_goto (tgt := 26) dX12_laysOut_250 (by decide) ?_
          have hxx : fx [] [] [7, 8, 9, 10, 13, 14, 15] [] n z F G n z (va_up (va_up (va_up (va_up (va_up (va_up (va_up F 7 (upd (F 7) (Int32.toNatClampNeg iw) kd)) 8 (upd (F 8) (Int32.toNatClampNeg iw) ((F 77) (Int32.toNatClampNeg nd)))) 10 (upd (F 10) (Int32.toNatClampNeg iw) up)) 9 (upd (F 9) (Int32.toNatClampNeg iw) ar)) 13 (upd (F 13) (Int32.toNatClampNeg iw) ((F 17) (Int32.toNatClampNeg x2)))) 14 (upd (F 14) (Int32.toNatClampNeg iw) ((F 17) (Int32.toNatClampNeg x2)))) 15 (upd (F 15) (Int32.toNatClampNeg iw) ((F 17) (Int32.toNatClampNeg x2)))) G := (fx_F (fx_F (fx_F (fx_F (fx_F (fx_F (fx_F fx_rf (by decide)) (by decide)) (by decide)) (by decide)) (by decide)) (by decide)) (by decide))
          have s7_ : (va_up (va_up (va_up (va_up (va_up (va_up (va_up F 7 (upd (F 7) (Int32.toNatClampNeg iw) kd)) 8 (upd (F 8) (Int32.toNatClampNeg iw) ((F 77) (Int32.toNatClampNeg nd)))) 10 (upd (F 10) (Int32.toNatClampNeg iw) up)) 9 (upd (F 9) (Int32.toNatClampNeg iw) ar)) 13 (upd (F 13) (Int32.toNatClampNeg iw) ((F 17) (Int32.toNatClampNeg x2)))) 14 (upd (F 14) (Int32.toNatClampNeg iw) ((F 17) (Int32.toNatClampNeg x2)))) 15 (upd (F 15) (Int32.toNatClampNeg iw) ((F 17) (Int32.toNatClampNeg x2)))) 7 = (upd (F 7) (Int32.toNatClampNeg iw) kd) := rfl
          have s8_ : (va_up (va_up (va_up (va_up (va_up (va_up (va_up F 7 (upd (F 7) (Int32.toNatClampNeg iw) kd)) 8 (upd (F 8) (Int32.toNatClampNeg iw) ((F 77) (Int32.toNatClampNeg nd)))) 10 (upd (F 10) (Int32.toNatClampNeg iw) up)) 9 (upd (F 9) (Int32.toNatClampNeg iw) ar)) 13 (upd (F 13) (Int32.toNatClampNeg iw) ((F 17) (Int32.toNatClampNeg x2)))) 14 (upd (F 14) (Int32.toNatClampNeg iw) ((F 17) (Int32.toNatClampNeg x2)))) 15 (upd (F 15) (Int32.toNatClampNeg iw) ((F 17) (Int32.toNatClampNeg x2)))) 8 = (upd (F 8) (Int32.toNatClampNeg iw) ((F 77) (Int32.toNatClampNeg nd))) := rfl
          have s9_ : (va_up (va_up (va_up (va_up (va_up (va_up (va_up F 7 (upd (F 7) (Int32.toNatClampNeg iw) kd)) 8 (upd (F 8) (Int32.toNatClampNeg iw) ((F 77) (Int32.toNatClampNeg nd)))) 10 (upd (F 10) (Int32.toNatClampNeg iw) up)) 9 (upd (F 9) (Int32.toNatClampNeg iw) ar)) 13 (upd (F 13) (Int32.toNatClampNeg iw) ((F 17) (Int32.toNatClampNeg x2)))) 14 (upd (F 14) (Int32.toNatClampNeg iw) ((F 17) (Int32.toNatClampNeg x2)))) 15 (upd (F 15) (Int32.toNatClampNeg iw) ((F 17) (Int32.toNatClampNeg x2)))) 9 = (upd (F 9) (Int32.toNatClampNeg iw) ar) := rfl
          have s10_ : (va_up (va_up (va_up (va_up (va_up (va_up (va_up F 7 (upd (F 7) (Int32.toNatClampNeg iw) kd)) 8 (upd (F 8) (Int32.toNatClampNeg iw) ((F 77) (Int32.toNatClampNeg nd)))) 10 (upd (F 10) (Int32.toNatClampNeg iw) up)) 9 (upd (F 9) (Int32.toNatClampNeg iw) ar)) 13 (upd (F 13) (Int32.toNatClampNeg iw) ((F 17) (Int32.toNatClampNeg x2)))) 14 (upd (F 14) (Int32.toNatClampNeg iw) ((F 17) (Int32.toNatClampNeg x2)))) 15 (upd (F 15) (Int32.toNatClampNeg iw) ((F 17) (Int32.toNatClampNeg x2)))) 10 = (upd (F 10) (Int32.toNatClampNeg iw) up) := rfl
          have s13_ : (va_up (va_up (va_up (va_up (va_up (va_up (va_up F 7 (upd (F 7) (Int32.toNatClampNeg iw) kd)) 8 (upd (F 8) (Int32.toNatClampNeg iw) ((F 77) (Int32.toNatClampNeg nd)))) 10 (upd (F 10) (Int32.toNatClampNeg iw) up)) 9 (upd (F 9) (Int32.toNatClampNeg iw) ar)) 13 (upd (F 13) (Int32.toNatClampNeg iw) ((F 17) (Int32.toNatClampNeg x2)))) 14 (upd (F 14) (Int32.toNatClampNeg iw) ((F 17) (Int32.toNatClampNeg x2)))) 15 (upd (F 15) (Int32.toNatClampNeg iw) ((F 17) (Int32.toNatClampNeg x2)))) 13 = (upd (F 13) (Int32.toNatClampNeg iw) ((F 17) (Int32.toNatClampNeg x2))) := rfl
          have s14_ : (va_up (va_up (va_up (va_up (va_up (va_up (va_up F 7 (upd (F 7) (Int32.toNatClampNeg iw) kd)) 8 (upd (F 8) (Int32.toNatClampNeg iw) ((F 77) (Int32.toNatClampNeg nd)))) 10 (upd (F 10) (Int32.toNatClampNeg iw) up)) 9 (upd (F 9) (Int32.toNatClampNeg iw) ar)) 13 (upd (F 13) (Int32.toNatClampNeg iw) ((F 17) (Int32.toNatClampNeg x2)))) 14 (upd (F 14) (Int32.toNatClampNeg iw) ((F 17) (Int32.toNatClampNeg x2)))) 15 (upd (F 15) (Int32.toNatClampNeg iw) ((F 17) (Int32.toNatClampNeg x2)))) 14 = (upd (F 14) (Int32.toNatClampNeg iw) ((F 17) (Int32.toNatClampNeg x2))) := rfl
          have s15_ : (va_up (va_up (va_up (va_up (va_up (va_up (va_up F 7 (upd (F 7) (Int32.toNatClampNeg iw) kd)) 8 (upd (F 8) (Int32.toNatClampNeg iw) ((F 77) (Int32.toNatClampNeg nd)))) 10 (upd (F 10) (Int32.toNatClampNeg iw) up)) 9 (upd (F 9) (Int32.toNatClampNeg iw) ar)) 13 (upd (F 13) (Int32.toNatClampNeg iw) ((F 17) (Int32.toNatClampNeg x2)))) 14 (upd (F 14) (Int32.toNatClampNeg iw) ((F 17) (Int32.toNatClampNeg x2)))) 15 (upd (F 15) (Int32.toNatClampNeg iw) ((F 17) (Int32.toNatClampNeg x2)))) 15 = (upd (F 15) (Int32.toNatClampNeg iw) ((F 17) (Int32.toNatClampNeg x2))) := rfl
          have s17_ : (va_up (va_up (va_up (va_up (va_up (va_up (va_up F 7 (upd (F 7) (Int32.toNatClampNeg iw) kd)) 8 (upd (F 8) (Int32.toNatClampNeg iw) ((F 77) (Int32.toNatClampNeg nd)))) 10 (upd (F 10) (Int32.toNatClampNeg iw) up)) 9 (upd (F 9) (Int32.toNatClampNeg iw) ar)) 13 (upd (F 13) (Int32.toNatClampNeg iw) ((F 17) (Int32.toNatClampNeg x2)))) 14 (upd (F 14) (Int32.toNatClampNeg iw) ((F 17) (Int32.toNatClampNeg x2)))) 15 (upd (F 15) (Int32.toNatClampNeg iw) ((F 17) (Int32.toNatClampNeg x2)))) 17 = (F 17) := rfl
          have s19_ : (va_up (va_up (va_up (va_up (va_up (va_up (va_up F 7 (upd (F 7) (Int32.toNatClampNeg iw) kd)) 8 (upd (F 8) (Int32.toNatClampNeg iw) ((F 77) (Int32.toNatClampNeg nd)))) 10 (upd (F 10) (Int32.toNatClampNeg iw) up)) 9 (upd (F 9) (Int32.toNatClampNeg iw) ar)) 13 (upd (F 13) (Int32.toNatClampNeg iw) ((F 17) (Int32.toNatClampNeg x2)))) 14 (upd (F 14) (Int32.toNatClampNeg iw) ((F 17) (Int32.toNatClampNeg x2)))) 15 (upd (F 15) (Int32.toNatClampNeg iw) ((F 17) (Int32.toNatClampNeg x2)))) 19 = (F 19) := rfl
          have off : ∀ r, r ∈ [7, 9, 10, 13, 14, 15] → ∀ i, i ≠ 40 * f + W → (va_up (va_up (va_up (va_up (va_up (va_up (va_up F 7 (upd (F 7) (Int32.toNatClampNeg iw) kd)) 8 (upd (F 8) (Int32.toNatClampNeg iw) ((F 77) (Int32.toNatClampNeg nd)))) 10 (upd (F 10) (Int32.toNatClampNeg iw) up)) 9 (upd (F 9) (Int32.toNatClampNeg iw) ar)) 13 (upd (F 13) (Int32.toNatClampNeg iw) ((F 17) (Int32.toNatClampNeg x2)))) 14 (upd (F 14) (Int32.toNatClampNeg iw) ((F 17) (Int32.toNatClampNeg x2)))) 15 (upd (F 15) (Int32.toNatClampNeg iw) ((F 17) (Int32.toNatClampNeg x2)))) r i = F r i := by
            intro r hr i hi
            rw [← eci] at hi
            simp only [List.mem_cons, List.not_mem_nil, or_false] at hr
            rcases hr with rfl | rfl | rfl | rfl | rfl | rfl
            · rw [s7_, updE, if_neg hi]
            · rw [s9_, updE, if_neg hi]
            · rw [s10_, updE, if_neg hi]
            · rw [s13_, updE, if_neg hi]
            · rw [s14_, updE, if_neg hi]
            · rw [s15_, updE, if_neg hi]
          have v7 : (va_up (va_up (va_up (va_up (va_up (va_up (va_up F 7 (upd (F 7) (Int32.toNatClampNeg iw) kd)) 8 (upd (F 8) (Int32.toNatClampNeg iw) ((F 77) (Int32.toNatClampNeg nd)))) 10 (upd (F 10) (Int32.toNatClampNeg iw) up)) 9 (upd (F 9) (Int32.toNatClampNeg iw) ar)) 13 (upd (F 13) (Int32.toNatClampNeg iw) ((F 17) (Int32.toNatClampNeg x2)))) 14 (upd (F 14) (Int32.toNatClampNeg iw) ((F 17) (Int32.toNatClampNeg x2)))) 15 (upd (F 15) (Int32.toNatClampNeg iw) ((F 17) (Int32.toNatClampNeg x2)))) 7 (40 * f + W) = kd := by rw [s7_, ← eci, updE, if_pos rfl]
          have v13 : (va_up (va_up (va_up (va_up (va_up (va_up (va_up F 7 (upd (F 7) (Int32.toNatClampNeg iw) kd)) 8 (upd (F 8) (Int32.toNatClampNeg iw) ((F 77) (Int32.toNatClampNeg nd)))) 10 (upd (F 10) (Int32.toNatClampNeg iw) up)) 9 (upd (F 9) (Int32.toNatClampNeg iw) ar)) 13 (upd (F 13) (Int32.toNatClampNeg iw) ((F 17) (Int32.toNatClampNeg x2)))) 14 (upd (F 14) (Int32.toNatClampNeg iw) ((F 17) (Int32.toNatClampNeg x2)))) 15 (upd (F 15) (Int32.toNatClampNeg iw) ((F 17) (Int32.toNatClampNeg x2)))) 13 (40 * f + W) = F 17 (Int32.toNatClampNeg x2) := by rw [s13_, ← eci, updE, if_pos rfl]
          have v14 : (va_up (va_up (va_up (va_up (va_up (va_up (va_up F 7 (upd (F 7) (Int32.toNatClampNeg iw) kd)) 8 (upd (F 8) (Int32.toNatClampNeg iw) ((F 77) (Int32.toNatClampNeg nd)))) 10 (upd (F 10) (Int32.toNatClampNeg iw) up)) 9 (upd (F 9) (Int32.toNatClampNeg iw) ar)) 13 (upd (F 13) (Int32.toNatClampNeg iw) ((F 17) (Int32.toNatClampNeg x2)))) 14 (upd (F 14) (Int32.toNatClampNeg iw) ((F 17) (Int32.toNatClampNeg x2)))) 15 (upd (F 15) (Int32.toNatClampNeg iw) ((F 17) (Int32.toNatClampNeg x2)))) 14 (40 * f + W) = F 17 (Int32.toNatClampNeg x2) := by rw [s14_, ← eci, updE, if_pos rfl]
          have v15 : (va_up (va_up (va_up (va_up (va_up (va_up (va_up F 7 (upd (F 7) (Int32.toNatClampNeg iw) kd)) 8 (upd (F 8) (Int32.toNatClampNeg iw) ((F 77) (Int32.toNatClampNeg nd)))) 10 (upd (F 10) (Int32.toNatClampNeg iw) up)) 9 (upd (F 9) (Int32.toNatClampNeg iw) ar)) 13 (upd (F 13) (Int32.toNatClampNeg iw) ((F 17) (Int32.toNatClampNeg x2)))) 14 (upd (F 14) (Int32.toNatClampNeg iw) ((F 17) (Int32.toNatClampNeg x2)))) 15 (upd (F 15) (Int32.toNatClampNeg iw) ((F 17) (Int32.toNatClampNeg x2)))) 15 (40 * f + W) = F 17 (Int32.toNatClampNeg x2) := by rw [s15_, ← eci, updE, if_pos rfl]
          have v17 : (F 17 (Int32.toNatClampNeg x2)).toInt = (Fs 17 f).toInt := by rw [ecf, ha.1 17 (by decide)]
          have hb : LYb Fs (va_up (va_up (va_up (va_up (va_up (va_up (va_up F 7 (upd (F 7) (Int32.toNatClampNeg iw) kd)) 8 (upd (F 8) (Int32.toNatClampNeg iw) ((F 77) (Int32.toNatClampNeg nd)))) 10 (upd (F 10) (Int32.toNatClampNeg iw) up)) 9 (upd (F 9) (Int32.toNatClampNeg iw) ar)) 13 (upd (F 13) (Int32.toNatClampNeg iw) ((F 17) (Int32.toNatClampNeg x2)))) 14 (upd (F 14) (Int32.toNatClampNeg iw) ((F 17) (Int32.toNatClampNeg x2)))) 15 (upd (F 15) (Int32.toNatClampNeg iw) ((F 17) (Int32.toNatClampNeg x2)))) f W T a_ := LYb_of ha (fun r hr => hxx.2.2.1 r hr) off (by rw [s10_, ← eci, updE, if_pos rfl, c3.2]) (by unfold arF; rw [s9_, ← eci, updE, if_pos rfl]; exact qar)
          have hA9 : rAll (va_up (va_up (va_up (va_up (va_up (va_up (va_up F 7 (upd (F 7) (Int32.toNatClampNeg iw) kd)) 8 (upd (F 8) (Int32.toNatClampNeg iw) ((F 77) (Int32.toNatClampNeg nd)))) 10 (upd (F 10) (Int32.toNatClampNeg iw) up)) 9 (upd (F 9) (Int32.toNatClampNeg iw) ar)) 13 (upd (F 13) (Int32.toNatClampNeg iw) ((F 17) (Int32.toNatClampNeg x2)))) 14 (upd (F 14) (Int32.toNatClampNeg iw) ((F 17) (Int32.toNatClampNeg x2)))) 15 (upd (F 15) (Int32.toNatClampNeg iw) ((F 17) (Int32.toNatClampNeg x2)))) := by
            intro q hq
            obtain ⟨q1, q2, q3, q4⟩ := hA q hq
            have q40 := c5
            rw [s13_, s14_, s15_, s19_]
            refine ⟨?_, ?_, ?_, q4⟩ <;> (rw [updE]; split <;> omega)
          have v8 : (va_up (va_up (va_up (va_up (va_up (va_up (va_up F 7 (upd (F 7) (Int32.toNatClampNeg iw) kd)) 8 (upd (F 8) (Int32.toNatClampNeg iw) ((F 77) (Int32.toNatClampNeg nd)))) 10 (upd (F 10) (Int32.toNatClampNeg iw) up)) 9 (upd (F 9) (Int32.toNatClampNeg iw) ar)) 13 (upd (F 13) (Int32.toNatClampNeg iw) ((F 17) (Int32.toNatClampNeg x2)))) 14 (upd (F 14) (Int32.toNatClampNeg iw) ((F 17) (Int32.toNatClampNeg x2)))) 15 (upd (F 15) (Int32.toNatClampNeg iw) ((F 17) (Int32.toNatClampNeg x2)))) 8 (40 * f + W) = Fs 77 nd.toInt.toNat := by rw [s8_, ← eci, updE, if_pos rfl]; exact congrFun (ha.1 77 (by decide)) _
          have o8 : ∀ i, i ≠ 40 * f + W → (va_up (va_up (va_up (va_up (va_up (va_up (va_up F 7 (upd (F 7) (Int32.toNatClampNeg iw) kd)) 8 (upd (F 8) (Int32.toNatClampNeg iw) ((F 77) (Int32.toNatClampNeg nd)))) 10 (upd (F 10) (Int32.toNatClampNeg iw) up)) 9 (upd (F 9) (Int32.toNatClampNeg iw) ar)) 13 (upd (F 13) (Int32.toNatClampNeg iw) ((F 17) (Int32.toNatClampNeg x2)))) 14 (upd (F 14) (Int32.toNatClampNeg iw) ((F 17) (Int32.toNatClampNeg x2)))) 15 (upd (F 15) (Int32.toNatClampNeg iw) ((F 17) (Int32.toNatClampNeg x2)))) 8 i = Fs 8 i := fun i hi => by rw [← eci] at hi; rw [s8_, updE, if_neg hi]; exact congrFun (ha.1 8 (by decide)) i
          have hlB : lowR F0 (va_up (va_up (va_up (va_up (va_up (va_up (va_up F 7 (upd (F 7) (Int32.toNatClampNeg iw) kd)) 8 (upd (F 8) (Int32.toNatClampNeg iw) ((F 77) (Int32.toNatClampNeg nd)))) 10 (upd (F 10) (Int32.toNatClampNeg iw) up)) 9 (upd (F 9) (Int32.toNatClampNeg iw) ar)) 13 (upd (F 13) (Int32.toNatClampNeg iw) ((F 17) (Int32.toNatClampNeg x2)))) 14 (upd (F 14) (Int32.toNatClampNeg iw) ((F 17) (Int32.toNatClampNeg x2)))) 15 (upd (F 15) (Int32.toNatClampNeg iw) ((F 17) (Int32.toNatClampNeg x2)))) f := low_B hlw ha (fun r hr => hxx.2.2.1 r hr) off o8
          have hJ : LYJ F0 n (va_up (va_up (va_up (va_up (va_up (va_up (va_up F 7 (upd (F 7) (Int32.toNatClampNeg iw) kd)) 8 (upd (F 8) (Int32.toNatClampNeg iw) ((F 77) (Int32.toNatClampNeg nd)))) 10 (upd (F 10) (Int32.toNatClampNeg iw) up)) 9 (upd (F 9) (Int32.toNatClampNeg iw) ar)) 13 (upd (F 13) (Int32.toNatClampNeg iw) ((F 17) (Int32.toNatClampNeg x2)))) 14 (upd (F 14) (Int32.toNatClampNeg iw) ((F 17) (Int32.toNatClampNeg x2)))) 15 (upd (F 15) (Int32.toNatClampNeg iw) ((F 17) (Int32.toNatClampNeg x2)))) f fo Wn (W + 1) T := LYJ_leaf hf.2.2.1 hf.2.2.2 hc hb h83 hA9 (by rw [v7]; omega) (by rw [v13, v14, v15]; exact ⟨rfl, rfl⟩)
          have hZ2 : LZ (va_up (va_up (va_up (va_up (va_up (va_up (va_up F 7 (upd (F 7) (Int32.toNatClampNeg iw) kd)) 8 (upd (F 8) (Int32.toNatClampNeg iw) ((F 77) (Int32.toNatClampNeg nd)))) 10 (upd (F 10) (Int32.toNatClampNeg iw) up)) 9 (upd (F 9) (Int32.toNatClampNeg iw) ar)) 13 (upd (F 13) (Int32.toNatClampNeg iw) ((F 17) (Int32.toNatClampNeg x2)))) 14 (upd (F 14) (Int32.toNatClampNeg iw) ((F 17) (Int32.toNatClampNeg x2)))) 15 (upd (F 15) (Int32.toNatClampNeg iw) ((F 17) (Int32.toNatClampNeg x2)))) f Wn H fi se FIN NW NV (W + 1) T := LZ_leaf (F0 := F) hZ hE hTL c3.1 hb c2 o8 (v7.trans qkd) v8 (by rw [← qkd]; omega) (by rw [v13, v14, v15]; exact ⟨rfl, rfl⟩)
          refine gz_sub (lv' := [(0, .ref m), (1, .int x1), (2, .int x2)]) (by simp [List.lookup]) ?_
          exact hq_ T _ _ _ _ _ hS_7 (fx_F (fx_F (fx_F (fx_F (fx_F (fx_F (fx_F hx (by decide)) (by decide)) (by decide)) (by decide)) (by decide)) (by decide)) (by decide)) hJ hZ2 hlB
    ·
      try simp only [mIn_0, lgc_lt, lgc_gt, lgc_le, lgc_ge, lgc_eq] at c_173
      try simp only [fl_lt, fl_le, fl_eq, fL_w, fL_lt, fL_le, tm1, tm10k, tm9, tm99, Int32.reduceToInt, Int64.reduceToInt, Int.not_lt, Int.not_le] at c_173
      refine gz_iconst (v := 0) dX12_laysOut_176 (by decide) ?_
      refine gz_goto (tgt := 189) dX12_laysOut_177 (by decide) ?_
      obtain ⟨ar, har⟩ : ∃ v_ : Int32, v_ = 0 := ⟨_, rfl⟩
      refine gz_ev (w := .int ar) (congrArg Value.int har.symm) ?_
      have qar : ar.toInt = a_ := by
        rcases c2 with ⟨z1, z2, z3, z4⟩ | ⟨p, z1, z2, z3, z4, z5⟩
        · rw [har, z4]; rfl
        · rw [c3.2] at z2; exfalso; omega
      refine m_iast 9 hS_3 rfl (N := 880) rfl ((by exact vin_T (rfl : iw.toInt = iw.toInt) (by omega) (by omega))) dX12_laysOut_189 (fun f_8 hS_8q => ?_)
      have hS_8 : mS cy m a f0 n z (va_up (va_up (va_up (va_up F 7 (upd (F 7) (Int32.toNatClampNeg iw) kd)) 8 (upd (F 8) (Int32.toNatClampNeg iw) ((F 77) (Int32.toNatClampNeg nd)))) 10 (upd (F 10) (Int32.toNatClampNeg iw) up)) 9 (upd (F 9) (Int32.toNatClampNeg iw) ar)) G f_8 := hS_8q
      refine gz_aload_n dX12_laysOut_190 rfl rfl ?_
      refine mg_38 hS_8 dX12_laysOut_191 ?_
      refine gz_iload dX12_laysOut_194 rfl ?_
      refine gz_aload_n dX12_laysOut_196 rfl rfl ?_
      refine mg_50 hS_8 dX12_laysOut_197 ?_
      refine gz_iload_n dX12_laysOut_200 rfl rfl ?_
      refine m_iald 17 hS_8 rfl (N := 22) rfl ((by exact vin_T (rfl : x2.toInt = x2.toInt) (by omega) (by omega))) dX12_laysOut_201 ?_
      refine gz_ev (w := .int ((F 17) (Int32.toNatClampNeg x2))) rfl ?_
      refine m_iast 13 hS_8 rfl (N := 880) rfl ((by exact vin_T (rfl : iw.toInt = iw.toInt) (by omega) (by omega))) dX12_laysOut_202 (fun f_9 hS_9q => ?_)
      have hS_9 : mS cy m a f0 n z (va_up (va_up (va_up (va_up (va_up F 7 (upd (F 7) (Int32.toNatClampNeg iw) kd)) 8 (upd (F 8) (Int32.toNatClampNeg iw) ((F 77) (Int32.toNatClampNeg nd)))) 10 (upd (F 10) (Int32.toNatClampNeg iw) up)) 9 (upd (F 9) (Int32.toNatClampNeg iw) ar)) 13 (upd (F 13) (Int32.toNatClampNeg iw) ((F 17) (Int32.toNatClampNeg x2)))) G f_9 := hS_9q
      refine gz_aload_n dX12_laysOut_203 rfl rfl ?_
      refine mg_41 hS_9 dX12_laysOut_204 ?_
      refine gz_iload dX12_laysOut_207 rfl ?_
      refine gz_aload_n dX12_laysOut_209 rfl rfl ?_
      refine mg_50 hS_9 dX12_laysOut_210 ?_
      refine gz_iload_n dX12_laysOut_213 rfl rfl ?_
      refine m_iald 17 hS_9 rfl (N := 22) rfl ((by exact vin_T (rfl : x2.toInt = x2.toInt) (by omega) (by omega))) dX12_laysOut_214 ?_
      refine gz_ev (w := .int ((F 17) (Int32.toNatClampNeg x2))) rfl ?_
      refine m_iast 14 hS_9 rfl (N := 880) rfl ((by exact vin_T (rfl : iw.toInt = iw.toInt) (by omega) (by omega))) dX12_laysOut_215 (fun f_10 hS_10q => ?_)
      have hS_10 : mS cy m a f0 n z (va_up (va_up (va_up (va_up (va_up (va_up F 7 (upd (F 7) (Int32.toNatClampNeg iw) kd)) 8 (upd (F 8) (Int32.toNatClampNeg iw) ((F 77) (Int32.toNatClampNeg nd)))) 10 (upd (F 10) (Int32.toNatClampNeg iw) up)) 9 (upd (F 9) (Int32.toNatClampNeg iw) ar)) 13 (upd (F 13) (Int32.toNatClampNeg iw) ((F 17) (Int32.toNatClampNeg x2)))) 14 (upd (F 14) (Int32.toNatClampNeg iw) ((F 17) (Int32.toNatClampNeg x2)))) G f_10 := hS_10q
      refine gz_aload_n dX12_laysOut_216 rfl rfl ?_
      refine mg_44 hS_10 dX12_laysOut_217 ?_
      refine gz_iload dX12_laysOut_220 rfl ?_
      refine gz_aload_n dX12_laysOut_222 rfl rfl ?_
      refine mg_50 hS_10 dX12_laysOut_223 ?_
      refine gz_iload_n dX12_laysOut_226 rfl rfl ?_
      refine m_iald 17 hS_10 rfl (N := 22) rfl ((by exact vin_T (rfl : x2.toInt = x2.toInt) (by omega) (by omega))) dX12_laysOut_227 ?_
      refine gz_ev (w := .int ((F 17) (Int32.toNatClampNeg x2))) rfl ?_
      refine m_iast 15 hS_10 rfl (N := 880) rfl ((by exact vin_T (rfl : iw.toInt = iw.toInt) (by omega) (by omega))) dX12_laysOut_228 (fun f_11 hS_11q => ?_)
      have hS_11 : mS cy m a f0 n z (va_up (va_up (va_up (va_up (va_up (va_up (va_up F 7 (upd (F 7) (Int32.toNatClampNeg iw) kd)) 8 (upd (F 8) (Int32.toNatClampNeg iw) ((F 77) (Int32.toNatClampNeg nd)))) 10 (upd (F 10) (Int32.toNatClampNeg iw) up)) 9 (upd (F 9) (Int32.toNatClampNeg iw) ar)) 13 (upd (F 13) (Int32.toNatClampNeg iw) ((F 17) (Int32.toNatClampNeg x2)))) 14 (upd (F 14) (Int32.toNatClampNeg iw) ((F 17) (Int32.toNatClampNeg x2)))) 15 (upd (F 15) (Int32.toNatClampNeg iw) ((F 17) (Int32.toNatClampNeg x2)))) G f_11 := hS_11q
      refine gz_aload_n dX12_laysOut_229 rfl rfl ?_
      refine mg_20 hS_11 dX12_laysOut_230 ?_
      refine gz_iload dX12_laysOut_233 rfl ?_
      refine m_iald 7 hS_11 rfl (N := 880) rfl ((by exact vin_T (rfl : iw.toInt = iw.toInt) (by omega) (by omega))) dX12_laysOut_235 ?_
      refine gz_ev (w := .int ((upd (F 7) (Int32.toNatClampNeg iw) kd) (Int32.toNatClampNeg iw))) rfl ?_
      refine gz_ev (w := .int kd) (congrArg Value.int (by rw [updE, if_pos rfl])) ?_
      refine gz_if_eq (tgt := 26) dX12_laysOut_236 (by decide) (fun c_236 => ?_) (fun c_236 => ?_)
      ·
        try simp only [mIn_0, lgc_lt, lgc_gt, lgc_le, lgc_ge, lgc_eq] at c_236
        try simp only [fl_lt, fl_le, fl_eq, fL_w, fL_lt, fL_le, tm1, tm10k, tm9, tm99, Int32.reduceToInt, Int64.reduceToInt, Int.not_lt, Int.not_le] at c_236
        have hxx : fx [] [] [7, 8, 9, 10, 13, 14, 15] [] n z F G n z (va_up (va_up (va_up (va_up (va_up (va_up (va_up F 7 (upd (F 7) (Int32.toNatClampNeg iw) kd)) 8 (upd (F 8) (Int32.toNatClampNeg iw) ((F 77) (Int32.toNatClampNeg nd)))) 10 (upd (F 10) (Int32.toNatClampNeg iw) up)) 9 (upd (F 9) (Int32.toNatClampNeg iw) ar)) 13 (upd (F 13) (Int32.toNatClampNeg iw) ((F 17) (Int32.toNatClampNeg x2)))) 14 (upd (F 14) (Int32.toNatClampNeg iw) ((F 17) (Int32.toNatClampNeg x2)))) 15 (upd (F 15) (Int32.toNatClampNeg iw) ((F 17) (Int32.toNatClampNeg x2)))) G := (fx_F (fx_F (fx_F (fx_F (fx_F (fx_F (fx_F fx_rf (by decide)) (by decide)) (by decide)) (by decide)) (by decide)) (by decide)) (by decide))
        have s7_ : (va_up (va_up (va_up (va_up (va_up (va_up (va_up F 7 (upd (F 7) (Int32.toNatClampNeg iw) kd)) 8 (upd (F 8) (Int32.toNatClampNeg iw) ((F 77) (Int32.toNatClampNeg nd)))) 10 (upd (F 10) (Int32.toNatClampNeg iw) up)) 9 (upd (F 9) (Int32.toNatClampNeg iw) ar)) 13 (upd (F 13) (Int32.toNatClampNeg iw) ((F 17) (Int32.toNatClampNeg x2)))) 14 (upd (F 14) (Int32.toNatClampNeg iw) ((F 17) (Int32.toNatClampNeg x2)))) 15 (upd (F 15) (Int32.toNatClampNeg iw) ((F 17) (Int32.toNatClampNeg x2)))) 7 = (upd (F 7) (Int32.toNatClampNeg iw) kd) := rfl
        have s8_ : (va_up (va_up (va_up (va_up (va_up (va_up (va_up F 7 (upd (F 7) (Int32.toNatClampNeg iw) kd)) 8 (upd (F 8) (Int32.toNatClampNeg iw) ((F 77) (Int32.toNatClampNeg nd)))) 10 (upd (F 10) (Int32.toNatClampNeg iw) up)) 9 (upd (F 9) (Int32.toNatClampNeg iw) ar)) 13 (upd (F 13) (Int32.toNatClampNeg iw) ((F 17) (Int32.toNatClampNeg x2)))) 14 (upd (F 14) (Int32.toNatClampNeg iw) ((F 17) (Int32.toNatClampNeg x2)))) 15 (upd (F 15) (Int32.toNatClampNeg iw) ((F 17) (Int32.toNatClampNeg x2)))) 8 = (upd (F 8) (Int32.toNatClampNeg iw) ((F 77) (Int32.toNatClampNeg nd))) := rfl
        have s9_ : (va_up (va_up (va_up (va_up (va_up (va_up (va_up F 7 (upd (F 7) (Int32.toNatClampNeg iw) kd)) 8 (upd (F 8) (Int32.toNatClampNeg iw) ((F 77) (Int32.toNatClampNeg nd)))) 10 (upd (F 10) (Int32.toNatClampNeg iw) up)) 9 (upd (F 9) (Int32.toNatClampNeg iw) ar)) 13 (upd (F 13) (Int32.toNatClampNeg iw) ((F 17) (Int32.toNatClampNeg x2)))) 14 (upd (F 14) (Int32.toNatClampNeg iw) ((F 17) (Int32.toNatClampNeg x2)))) 15 (upd (F 15) (Int32.toNatClampNeg iw) ((F 17) (Int32.toNatClampNeg x2)))) 9 = (upd (F 9) (Int32.toNatClampNeg iw) ar) := rfl
        have s10_ : (va_up (va_up (va_up (va_up (va_up (va_up (va_up F 7 (upd (F 7) (Int32.toNatClampNeg iw) kd)) 8 (upd (F 8) (Int32.toNatClampNeg iw) ((F 77) (Int32.toNatClampNeg nd)))) 10 (upd (F 10) (Int32.toNatClampNeg iw) up)) 9 (upd (F 9) (Int32.toNatClampNeg iw) ar)) 13 (upd (F 13) (Int32.toNatClampNeg iw) ((F 17) (Int32.toNatClampNeg x2)))) 14 (upd (F 14) (Int32.toNatClampNeg iw) ((F 17) (Int32.toNatClampNeg x2)))) 15 (upd (F 15) (Int32.toNatClampNeg iw) ((F 17) (Int32.toNatClampNeg x2)))) 10 = (upd (F 10) (Int32.toNatClampNeg iw) up) := rfl
        have s13_ : (va_up (va_up (va_up (va_up (va_up (va_up (va_up F 7 (upd (F 7) (Int32.toNatClampNeg iw) kd)) 8 (upd (F 8) (Int32.toNatClampNeg iw) ((F 77) (Int32.toNatClampNeg nd)))) 10 (upd (F 10) (Int32.toNatClampNeg iw) up)) 9 (upd (F 9) (Int32.toNatClampNeg iw) ar)) 13 (upd (F 13) (Int32.toNatClampNeg iw) ((F 17) (Int32.toNatClampNeg x2)))) 14 (upd (F 14) (Int32.toNatClampNeg iw) ((F 17) (Int32.toNatClampNeg x2)))) 15 (upd (F 15) (Int32.toNatClampNeg iw) ((F 17) (Int32.toNatClampNeg x2)))) 13 = (upd (F 13) (Int32.toNatClampNeg iw) ((F 17) (Int32.toNatClampNeg x2))) := rfl
        have s14_ : (va_up (va_up (va_up (va_up (va_up (va_up (va_up F 7 (upd (F 7) (Int32.toNatClampNeg iw) kd)) 8 (upd (F 8) (Int32.toNatClampNeg iw) ((F 77) (Int32.toNatClampNeg nd)))) 10 (upd (F 10) (Int32.toNatClampNeg iw) up)) 9 (upd (F 9) (Int32.toNatClampNeg iw) ar)) 13 (upd (F 13) (Int32.toNatClampNeg iw) ((F 17) (Int32.toNatClampNeg x2)))) 14 (upd (F 14) (Int32.toNatClampNeg iw) ((F 17) (Int32.toNatClampNeg x2)))) 15 (upd (F 15) (Int32.toNatClampNeg iw) ((F 17) (Int32.toNatClampNeg x2)))) 14 = (upd (F 14) (Int32.toNatClampNeg iw) ((F 17) (Int32.toNatClampNeg x2))) := rfl
        have s15_ : (va_up (va_up (va_up (va_up (va_up (va_up (va_up F 7 (upd (F 7) (Int32.toNatClampNeg iw) kd)) 8 (upd (F 8) (Int32.toNatClampNeg iw) ((F 77) (Int32.toNatClampNeg nd)))) 10 (upd (F 10) (Int32.toNatClampNeg iw) up)) 9 (upd (F 9) (Int32.toNatClampNeg iw) ar)) 13 (upd (F 13) (Int32.toNatClampNeg iw) ((F 17) (Int32.toNatClampNeg x2)))) 14 (upd (F 14) (Int32.toNatClampNeg iw) ((F 17) (Int32.toNatClampNeg x2)))) 15 (upd (F 15) (Int32.toNatClampNeg iw) ((F 17) (Int32.toNatClampNeg x2)))) 15 = (upd (F 15) (Int32.toNatClampNeg iw) ((F 17) (Int32.toNatClampNeg x2))) := rfl
        have s17_ : (va_up (va_up (va_up (va_up (va_up (va_up (va_up F 7 (upd (F 7) (Int32.toNatClampNeg iw) kd)) 8 (upd (F 8) (Int32.toNatClampNeg iw) ((F 77) (Int32.toNatClampNeg nd)))) 10 (upd (F 10) (Int32.toNatClampNeg iw) up)) 9 (upd (F 9) (Int32.toNatClampNeg iw) ar)) 13 (upd (F 13) (Int32.toNatClampNeg iw) ((F 17) (Int32.toNatClampNeg x2)))) 14 (upd (F 14) (Int32.toNatClampNeg iw) ((F 17) (Int32.toNatClampNeg x2)))) 15 (upd (F 15) (Int32.toNatClampNeg iw) ((F 17) (Int32.toNatClampNeg x2)))) 17 = (F 17) := rfl
        have s19_ : (va_up (va_up (va_up (va_up (va_up (va_up (va_up F 7 (upd (F 7) (Int32.toNatClampNeg iw) kd)) 8 (upd (F 8) (Int32.toNatClampNeg iw) ((F 77) (Int32.toNatClampNeg nd)))) 10 (upd (F 10) (Int32.toNatClampNeg iw) up)) 9 (upd (F 9) (Int32.toNatClampNeg iw) ar)) 13 (upd (F 13) (Int32.toNatClampNeg iw) ((F 17) (Int32.toNatClampNeg x2)))) 14 (upd (F 14) (Int32.toNatClampNeg iw) ((F 17) (Int32.toNatClampNeg x2)))) 15 (upd (F 15) (Int32.toNatClampNeg iw) ((F 17) (Int32.toNatClampNeg x2)))) 19 = (F 19) := rfl
        have off : ∀ r, r ∈ [7, 9, 10, 13, 14, 15] → ∀ i, i ≠ 40 * f + W → (va_up (va_up (va_up (va_up (va_up (va_up (va_up F 7 (upd (F 7) (Int32.toNatClampNeg iw) kd)) 8 (upd (F 8) (Int32.toNatClampNeg iw) ((F 77) (Int32.toNatClampNeg nd)))) 10 (upd (F 10) (Int32.toNatClampNeg iw) up)) 9 (upd (F 9) (Int32.toNatClampNeg iw) ar)) 13 (upd (F 13) (Int32.toNatClampNeg iw) ((F 17) (Int32.toNatClampNeg x2)))) 14 (upd (F 14) (Int32.toNatClampNeg iw) ((F 17) (Int32.toNatClampNeg x2)))) 15 (upd (F 15) (Int32.toNatClampNeg iw) ((F 17) (Int32.toNatClampNeg x2)))) r i = F r i := by
          intro r hr i hi
          rw [← eci] at hi
          simp only [List.mem_cons, List.not_mem_nil, or_false] at hr
          rcases hr with rfl | rfl | rfl | rfl | rfl | rfl
          · rw [s7_, updE, if_neg hi]
          · rw [s9_, updE, if_neg hi]
          · rw [s10_, updE, if_neg hi]
          · rw [s13_, updE, if_neg hi]
          · rw [s14_, updE, if_neg hi]
          · rw [s15_, updE, if_neg hi]
        have v7 : (va_up (va_up (va_up (va_up (va_up (va_up (va_up F 7 (upd (F 7) (Int32.toNatClampNeg iw) kd)) 8 (upd (F 8) (Int32.toNatClampNeg iw) ((F 77) (Int32.toNatClampNeg nd)))) 10 (upd (F 10) (Int32.toNatClampNeg iw) up)) 9 (upd (F 9) (Int32.toNatClampNeg iw) ar)) 13 (upd (F 13) (Int32.toNatClampNeg iw) ((F 17) (Int32.toNatClampNeg x2)))) 14 (upd (F 14) (Int32.toNatClampNeg iw) ((F 17) (Int32.toNatClampNeg x2)))) 15 (upd (F 15) (Int32.toNatClampNeg iw) ((F 17) (Int32.toNatClampNeg x2)))) 7 (40 * f + W) = kd := by rw [s7_, ← eci, updE, if_pos rfl]
        have v13 : (va_up (va_up (va_up (va_up (va_up (va_up (va_up F 7 (upd (F 7) (Int32.toNatClampNeg iw) kd)) 8 (upd (F 8) (Int32.toNatClampNeg iw) ((F 77) (Int32.toNatClampNeg nd)))) 10 (upd (F 10) (Int32.toNatClampNeg iw) up)) 9 (upd (F 9) (Int32.toNatClampNeg iw) ar)) 13 (upd (F 13) (Int32.toNatClampNeg iw) ((F 17) (Int32.toNatClampNeg x2)))) 14 (upd (F 14) (Int32.toNatClampNeg iw) ((F 17) (Int32.toNatClampNeg x2)))) 15 (upd (F 15) (Int32.toNatClampNeg iw) ((F 17) (Int32.toNatClampNeg x2)))) 13 (40 * f + W) = F 17 (Int32.toNatClampNeg x2) := by rw [s13_, ← eci, updE, if_pos rfl]
        have v14 : (va_up (va_up (va_up (va_up (va_up (va_up (va_up F 7 (upd (F 7) (Int32.toNatClampNeg iw) kd)) 8 (upd (F 8) (Int32.toNatClampNeg iw) ((F 77) (Int32.toNatClampNeg nd)))) 10 (upd (F 10) (Int32.toNatClampNeg iw) up)) 9 (upd (F 9) (Int32.toNatClampNeg iw) ar)) 13 (upd (F 13) (Int32.toNatClampNeg iw) ((F 17) (Int32.toNatClampNeg x2)))) 14 (upd (F 14) (Int32.toNatClampNeg iw) ((F 17) (Int32.toNatClampNeg x2)))) 15 (upd (F 15) (Int32.toNatClampNeg iw) ((F 17) (Int32.toNatClampNeg x2)))) 14 (40 * f + W) = F 17 (Int32.toNatClampNeg x2) := by rw [s14_, ← eci, updE, if_pos rfl]
        have v15 : (va_up (va_up (va_up (va_up (va_up (va_up (va_up F 7 (upd (F 7) (Int32.toNatClampNeg iw) kd)) 8 (upd (F 8) (Int32.toNatClampNeg iw) ((F 77) (Int32.toNatClampNeg nd)))) 10 (upd (F 10) (Int32.toNatClampNeg iw) up)) 9 (upd (F 9) (Int32.toNatClampNeg iw) ar)) 13 (upd (F 13) (Int32.toNatClampNeg iw) ((F 17) (Int32.toNatClampNeg x2)))) 14 (upd (F 14) (Int32.toNatClampNeg iw) ((F 17) (Int32.toNatClampNeg x2)))) 15 (upd (F 15) (Int32.toNatClampNeg iw) ((F 17) (Int32.toNatClampNeg x2)))) 15 (40 * f + W) = F 17 (Int32.toNatClampNeg x2) := by rw [s15_, ← eci, updE, if_pos rfl]
        have v17 : (F 17 (Int32.toNatClampNeg x2)).toInt = (Fs 17 f).toInt := by rw [ecf, ha.1 17 (by decide)]
        have hb : LYb Fs (va_up (va_up (va_up (va_up (va_up (va_up (va_up F 7 (upd (F 7) (Int32.toNatClampNeg iw) kd)) 8 (upd (F 8) (Int32.toNatClampNeg iw) ((F 77) (Int32.toNatClampNeg nd)))) 10 (upd (F 10) (Int32.toNatClampNeg iw) up)) 9 (upd (F 9) (Int32.toNatClampNeg iw) ar)) 13 (upd (F 13) (Int32.toNatClampNeg iw) ((F 17) (Int32.toNatClampNeg x2)))) 14 (upd (F 14) (Int32.toNatClampNeg iw) ((F 17) (Int32.toNatClampNeg x2)))) 15 (upd (F 15) (Int32.toNatClampNeg iw) ((F 17) (Int32.toNatClampNeg x2)))) f W T a_ := LYb_of ha (fun r hr => hxx.2.2.1 r hr) off (by rw [s10_, ← eci, updE, if_pos rfl, c3.2]) (by unfold arF; rw [s9_, ← eci, updE, if_pos rfl]; exact qar)
        have hA9 : rAll (va_up (va_up (va_up (va_up (va_up (va_up (va_up F 7 (upd (F 7) (Int32.toNatClampNeg iw) kd)) 8 (upd (F 8) (Int32.toNatClampNeg iw) ((F 77) (Int32.toNatClampNeg nd)))) 10 (upd (F 10) (Int32.toNatClampNeg iw) up)) 9 (upd (F 9) (Int32.toNatClampNeg iw) ar)) 13 (upd (F 13) (Int32.toNatClampNeg iw) ((F 17) (Int32.toNatClampNeg x2)))) 14 (upd (F 14) (Int32.toNatClampNeg iw) ((F 17) (Int32.toNatClampNeg x2)))) 15 (upd (F 15) (Int32.toNatClampNeg iw) ((F 17) (Int32.toNatClampNeg x2)))) := by
          intro q hq
          obtain ⟨q1, q2, q3, q4⟩ := hA q hq
          have q40 := c5
          rw [s13_, s14_, s15_, s19_]
          refine ⟨?_, ?_, ?_, q4⟩ <;> (rw [updE]; split <;> omega)
        have v8 : (va_up (va_up (va_up (va_up (va_up (va_up (va_up F 7 (upd (F 7) (Int32.toNatClampNeg iw) kd)) 8 (upd (F 8) (Int32.toNatClampNeg iw) ((F 77) (Int32.toNatClampNeg nd)))) 10 (upd (F 10) (Int32.toNatClampNeg iw) up)) 9 (upd (F 9) (Int32.toNatClampNeg iw) ar)) 13 (upd (F 13) (Int32.toNatClampNeg iw) ((F 17) (Int32.toNatClampNeg x2)))) 14 (upd (F 14) (Int32.toNatClampNeg iw) ((F 17) (Int32.toNatClampNeg x2)))) 15 (upd (F 15) (Int32.toNatClampNeg iw) ((F 17) (Int32.toNatClampNeg x2)))) 8 (40 * f + W) = Fs 77 nd.toInt.toNat := by rw [s8_, ← eci, updE, if_pos rfl]; exact congrFun (ha.1 77 (by decide)) _
        have o8 : ∀ i, i ≠ 40 * f + W → (va_up (va_up (va_up (va_up (va_up (va_up (va_up F 7 (upd (F 7) (Int32.toNatClampNeg iw) kd)) 8 (upd (F 8) (Int32.toNatClampNeg iw) ((F 77) (Int32.toNatClampNeg nd)))) 10 (upd (F 10) (Int32.toNatClampNeg iw) up)) 9 (upd (F 9) (Int32.toNatClampNeg iw) ar)) 13 (upd (F 13) (Int32.toNatClampNeg iw) ((F 17) (Int32.toNatClampNeg x2)))) 14 (upd (F 14) (Int32.toNatClampNeg iw) ((F 17) (Int32.toNatClampNeg x2)))) 15 (upd (F 15) (Int32.toNatClampNeg iw) ((F 17) (Int32.toNatClampNeg x2)))) 8 i = Fs 8 i := fun i hi => by rw [← eci] at hi; rw [s8_, updE, if_neg hi]; exact congrFun (ha.1 8 (by decide)) i
        have hlB : lowR F0 (va_up (va_up (va_up (va_up (va_up (va_up (va_up F 7 (upd (F 7) (Int32.toNatClampNeg iw) kd)) 8 (upd (F 8) (Int32.toNatClampNeg iw) ((F 77) (Int32.toNatClampNeg nd)))) 10 (upd (F 10) (Int32.toNatClampNeg iw) up)) 9 (upd (F 9) (Int32.toNatClampNeg iw) ar)) 13 (upd (F 13) (Int32.toNatClampNeg iw) ((F 17) (Int32.toNatClampNeg x2)))) 14 (upd (F 14) (Int32.toNatClampNeg iw) ((F 17) (Int32.toNatClampNeg x2)))) 15 (upd (F 15) (Int32.toNatClampNeg iw) ((F 17) (Int32.toNatClampNeg x2)))) f := low_B hlw ha (fun r hr => hxx.2.2.1 r hr) off o8
        have hJ : LYJ F0 n (va_up (va_up (va_up (va_up (va_up (va_up (va_up F 7 (upd (F 7) (Int32.toNatClampNeg iw) kd)) 8 (upd (F 8) (Int32.toNatClampNeg iw) ((F 77) (Int32.toNatClampNeg nd)))) 10 (upd (F 10) (Int32.toNatClampNeg iw) up)) 9 (upd (F 9) (Int32.toNatClampNeg iw) ar)) 13 (upd (F 13) (Int32.toNatClampNeg iw) ((F 17) (Int32.toNatClampNeg x2)))) 14 (upd (F 14) (Int32.toNatClampNeg iw) ((F 17) (Int32.toNatClampNeg x2)))) 15 (upd (F 15) (Int32.toNatClampNeg iw) ((F 17) (Int32.toNatClampNeg x2)))) f fo Wn (W + 1) T := LYJ_leaf hf.2.2.1 hf.2.2.2 hc hb h83 hA9 (by rw [v7]; omega) (by rw [v13, v14, v15]; exact ⟨rfl, rfl⟩)
        have hZ2 : LZ (va_up (va_up (va_up (va_up (va_up (va_up (va_up F 7 (upd (F 7) (Int32.toNatClampNeg iw) kd)) 8 (upd (F 8) (Int32.toNatClampNeg iw) ((F 77) (Int32.toNatClampNeg nd)))) 10 (upd (F 10) (Int32.toNatClampNeg iw) up)) 9 (upd (F 9) (Int32.toNatClampNeg iw) ar)) 13 (upd (F 13) (Int32.toNatClampNeg iw) ((F 17) (Int32.toNatClampNeg x2)))) 14 (upd (F 14) (Int32.toNatClampNeg iw) ((F 17) (Int32.toNatClampNeg x2)))) 15 (upd (F 15) (Int32.toNatClampNeg iw) ((F 17) (Int32.toNatClampNeg x2)))) f Wn H fi se FIN NW NV (W + 1) T := LZ_leaf (F0 := F) hZ hE hTL c3.1 hb c2 o8 (v7.trans qkd) v8 (by rw [← qkd]; omega) (by rw [v13, v14, v15]; exact ⟨rfl, rfl⟩)
        refine gz_sub (lv' := [(0, .ref m), (1, .int x1), (2, .int x2)]) (by simp [List.lookup]) ?_
        exact hq_ T _ _ _ _ _ hS_11 (fx_F (fx_F (fx_F (fx_F (fx_F (fx_F (fx_F hx (by decide)) (by decide)) (by decide)) (by decide)) (by decide)) (by decide)) (by decide)) hJ hZ2 hlB
      ·
        try simp only [mIn_0, lgc_lt, lgc_gt, lgc_le, lgc_ge, lgc_eq] at c_236
        try simp only [fl_lt, fl_le, fl_eq, fL_w, fL_lt, fL_le, tm1, tm10k, tm9, tm99, Int32.reduceToInt, Int64.reduceToInt, Int.not_lt, Int.not_le] at c_236
        refine gz_aload_n dX12_laysOut_239 rfl rfl ?_
        refine mg_20 hS_11 dX12_laysOut_240 ?_
        refine gz_iload dX12_laysOut_243 rfl ?_
        refine m_iald 7 hS_11 rfl (N := 880) rfl ((by exact vin_T (rfl : iw.toInt = iw.toInt) (by omega) (by omega))) dX12_laysOut_245 ?_
        refine gz_ev (w := .int ((upd (F 7) (Int32.toNatClampNeg iw) kd) (Int32.toNatClampNeg iw))) rfl ?_
        refine gz_ev (w := .int kd) (congrArg Value.int (by rw [updE, if_pos rfl])) ?_
        refine gz_iconst (v := 1) dX12_laysOut_246 (by decide) ?_
        refine gz_icmp_ne (tgt := 253) dX12_laysOut_247 (by decide) (fun c_247 => ?_) (fun c_247 => ?_)
        ·
          try simp only [mIn_0, lgc_lt, lgc_gt, lgc_le, lgc_ge, lgc_eq] at c_247
          try simp only [fl_lt, fl_le, fl_eq, fL_w, fL_lt, fL_le, tm1, tm10k, tm9, tm99, Int32.reduceToInt, Int64.reduceToInt, Int.not_lt, Int.not_le] at c_247
          have hxx : fx [] [] [7, 8, 9, 10, 13, 14, 15] [] n z F G n z (va_up (va_up (va_up (va_up (va_up (va_up (va_up F 7 (upd (F 7) (Int32.toNatClampNeg iw) kd)) 8 (upd (F 8) (Int32.toNatClampNeg iw) ((F 77) (Int32.toNatClampNeg nd)))) 10 (upd (F 10) (Int32.toNatClampNeg iw) up)) 9 (upd (F 9) (Int32.toNatClampNeg iw) ar)) 13 (upd (F 13) (Int32.toNatClampNeg iw) ((F 17) (Int32.toNatClampNeg x2)))) 14 (upd (F 14) (Int32.toNatClampNeg iw) ((F 17) (Int32.toNatClampNeg x2)))) 15 (upd (F 15) (Int32.toNatClampNeg iw) ((F 17) (Int32.toNatClampNeg x2)))) G := (fx_F (fx_F (fx_F (fx_F (fx_F (fx_F (fx_F fx_rf (by decide)) (by decide)) (by decide)) (by decide)) (by decide)) (by decide)) (by decide))
          have s7_ : (va_up (va_up (va_up (va_up (va_up (va_up (va_up F 7 (upd (F 7) (Int32.toNatClampNeg iw) kd)) 8 (upd (F 8) (Int32.toNatClampNeg iw) ((F 77) (Int32.toNatClampNeg nd)))) 10 (upd (F 10) (Int32.toNatClampNeg iw) up)) 9 (upd (F 9) (Int32.toNatClampNeg iw) ar)) 13 (upd (F 13) (Int32.toNatClampNeg iw) ((F 17) (Int32.toNatClampNeg x2)))) 14 (upd (F 14) (Int32.toNatClampNeg iw) ((F 17) (Int32.toNatClampNeg x2)))) 15 (upd (F 15) (Int32.toNatClampNeg iw) ((F 17) (Int32.toNatClampNeg x2)))) 7 = (upd (F 7) (Int32.toNatClampNeg iw) kd) := rfl
          have s8_ : (va_up (va_up (va_up (va_up (va_up (va_up (va_up F 7 (upd (F 7) (Int32.toNatClampNeg iw) kd)) 8 (upd (F 8) (Int32.toNatClampNeg iw) ((F 77) (Int32.toNatClampNeg nd)))) 10 (upd (F 10) (Int32.toNatClampNeg iw) up)) 9 (upd (F 9) (Int32.toNatClampNeg iw) ar)) 13 (upd (F 13) (Int32.toNatClampNeg iw) ((F 17) (Int32.toNatClampNeg x2)))) 14 (upd (F 14) (Int32.toNatClampNeg iw) ((F 17) (Int32.toNatClampNeg x2)))) 15 (upd (F 15) (Int32.toNatClampNeg iw) ((F 17) (Int32.toNatClampNeg x2)))) 8 = (upd (F 8) (Int32.toNatClampNeg iw) ((F 77) (Int32.toNatClampNeg nd))) := rfl
          have s9_ : (va_up (va_up (va_up (va_up (va_up (va_up (va_up F 7 (upd (F 7) (Int32.toNatClampNeg iw) kd)) 8 (upd (F 8) (Int32.toNatClampNeg iw) ((F 77) (Int32.toNatClampNeg nd)))) 10 (upd (F 10) (Int32.toNatClampNeg iw) up)) 9 (upd (F 9) (Int32.toNatClampNeg iw) ar)) 13 (upd (F 13) (Int32.toNatClampNeg iw) ((F 17) (Int32.toNatClampNeg x2)))) 14 (upd (F 14) (Int32.toNatClampNeg iw) ((F 17) (Int32.toNatClampNeg x2)))) 15 (upd (F 15) (Int32.toNatClampNeg iw) ((F 17) (Int32.toNatClampNeg x2)))) 9 = (upd (F 9) (Int32.toNatClampNeg iw) ar) := rfl
          have s10_ : (va_up (va_up (va_up (va_up (va_up (va_up (va_up F 7 (upd (F 7) (Int32.toNatClampNeg iw) kd)) 8 (upd (F 8) (Int32.toNatClampNeg iw) ((F 77) (Int32.toNatClampNeg nd)))) 10 (upd (F 10) (Int32.toNatClampNeg iw) up)) 9 (upd (F 9) (Int32.toNatClampNeg iw) ar)) 13 (upd (F 13) (Int32.toNatClampNeg iw) ((F 17) (Int32.toNatClampNeg x2)))) 14 (upd (F 14) (Int32.toNatClampNeg iw) ((F 17) (Int32.toNatClampNeg x2)))) 15 (upd (F 15) (Int32.toNatClampNeg iw) ((F 17) (Int32.toNatClampNeg x2)))) 10 = (upd (F 10) (Int32.toNatClampNeg iw) up) := rfl
          have s13_ : (va_up (va_up (va_up (va_up (va_up (va_up (va_up F 7 (upd (F 7) (Int32.toNatClampNeg iw) kd)) 8 (upd (F 8) (Int32.toNatClampNeg iw) ((F 77) (Int32.toNatClampNeg nd)))) 10 (upd (F 10) (Int32.toNatClampNeg iw) up)) 9 (upd (F 9) (Int32.toNatClampNeg iw) ar)) 13 (upd (F 13) (Int32.toNatClampNeg iw) ((F 17) (Int32.toNatClampNeg x2)))) 14 (upd (F 14) (Int32.toNatClampNeg iw) ((F 17) (Int32.toNatClampNeg x2)))) 15 (upd (F 15) (Int32.toNatClampNeg iw) ((F 17) (Int32.toNatClampNeg x2)))) 13 = (upd (F 13) (Int32.toNatClampNeg iw) ((F 17) (Int32.toNatClampNeg x2))) := rfl
          have s14_ : (va_up (va_up (va_up (va_up (va_up (va_up (va_up F 7 (upd (F 7) (Int32.toNatClampNeg iw) kd)) 8 (upd (F 8) (Int32.toNatClampNeg iw) ((F 77) (Int32.toNatClampNeg nd)))) 10 (upd (F 10) (Int32.toNatClampNeg iw) up)) 9 (upd (F 9) (Int32.toNatClampNeg iw) ar)) 13 (upd (F 13) (Int32.toNatClampNeg iw) ((F 17) (Int32.toNatClampNeg x2)))) 14 (upd (F 14) (Int32.toNatClampNeg iw) ((F 17) (Int32.toNatClampNeg x2)))) 15 (upd (F 15) (Int32.toNatClampNeg iw) ((F 17) (Int32.toNatClampNeg x2)))) 14 = (upd (F 14) (Int32.toNatClampNeg iw) ((F 17) (Int32.toNatClampNeg x2))) := rfl
          have s15_ : (va_up (va_up (va_up (va_up (va_up (va_up (va_up F 7 (upd (F 7) (Int32.toNatClampNeg iw) kd)) 8 (upd (F 8) (Int32.toNatClampNeg iw) ((F 77) (Int32.toNatClampNeg nd)))) 10 (upd (F 10) (Int32.toNatClampNeg iw) up)) 9 (upd (F 9) (Int32.toNatClampNeg iw) ar)) 13 (upd (F 13) (Int32.toNatClampNeg iw) ((F 17) (Int32.toNatClampNeg x2)))) 14 (upd (F 14) (Int32.toNatClampNeg iw) ((F 17) (Int32.toNatClampNeg x2)))) 15 (upd (F 15) (Int32.toNatClampNeg iw) ((F 17) (Int32.toNatClampNeg x2)))) 15 = (upd (F 15) (Int32.toNatClampNeg iw) ((F 17) (Int32.toNatClampNeg x2))) := rfl
          have s17_ : (va_up (va_up (va_up (va_up (va_up (va_up (va_up F 7 (upd (F 7) (Int32.toNatClampNeg iw) kd)) 8 (upd (F 8) (Int32.toNatClampNeg iw) ((F 77) (Int32.toNatClampNeg nd)))) 10 (upd (F 10) (Int32.toNatClampNeg iw) up)) 9 (upd (F 9) (Int32.toNatClampNeg iw) ar)) 13 (upd (F 13) (Int32.toNatClampNeg iw) ((F 17) (Int32.toNatClampNeg x2)))) 14 (upd (F 14) (Int32.toNatClampNeg iw) ((F 17) (Int32.toNatClampNeg x2)))) 15 (upd (F 15) (Int32.toNatClampNeg iw) ((F 17) (Int32.toNatClampNeg x2)))) 17 = (F 17) := rfl
          have s19_ : (va_up (va_up (va_up (va_up (va_up (va_up (va_up F 7 (upd (F 7) (Int32.toNatClampNeg iw) kd)) 8 (upd (F 8) (Int32.toNatClampNeg iw) ((F 77) (Int32.toNatClampNeg nd)))) 10 (upd (F 10) (Int32.toNatClampNeg iw) up)) 9 (upd (F 9) (Int32.toNatClampNeg iw) ar)) 13 (upd (F 13) (Int32.toNatClampNeg iw) ((F 17) (Int32.toNatClampNeg x2)))) 14 (upd (F 14) (Int32.toNatClampNeg iw) ((F 17) (Int32.toNatClampNeg x2)))) 15 (upd (F 15) (Int32.toNatClampNeg iw) ((F 17) (Int32.toNatClampNeg x2)))) 19 = (F 19) := rfl
          have off : ∀ r, r ∈ [7, 9, 10, 13, 14, 15] → ∀ i, i ≠ 40 * f + W → (va_up (va_up (va_up (va_up (va_up (va_up (va_up F 7 (upd (F 7) (Int32.toNatClampNeg iw) kd)) 8 (upd (F 8) (Int32.toNatClampNeg iw) ((F 77) (Int32.toNatClampNeg nd)))) 10 (upd (F 10) (Int32.toNatClampNeg iw) up)) 9 (upd (F 9) (Int32.toNatClampNeg iw) ar)) 13 (upd (F 13) (Int32.toNatClampNeg iw) ((F 17) (Int32.toNatClampNeg x2)))) 14 (upd (F 14) (Int32.toNatClampNeg iw) ((F 17) (Int32.toNatClampNeg x2)))) 15 (upd (F 15) (Int32.toNatClampNeg iw) ((F 17) (Int32.toNatClampNeg x2)))) r i = F r i := by
            intro r hr i hi
            rw [← eci] at hi
            simp only [List.mem_cons, List.not_mem_nil, or_false] at hr
            rcases hr with rfl | rfl | rfl | rfl | rfl | rfl
            · rw [s7_, updE, if_neg hi]
            · rw [s9_, updE, if_neg hi]
            · rw [s10_, updE, if_neg hi]
            · rw [s13_, updE, if_neg hi]
            · rw [s14_, updE, if_neg hi]
            · rw [s15_, updE, if_neg hi]
          have v7 : (va_up (va_up (va_up (va_up (va_up (va_up (va_up F 7 (upd (F 7) (Int32.toNatClampNeg iw) kd)) 8 (upd (F 8) (Int32.toNatClampNeg iw) ((F 77) (Int32.toNatClampNeg nd)))) 10 (upd (F 10) (Int32.toNatClampNeg iw) up)) 9 (upd (F 9) (Int32.toNatClampNeg iw) ar)) 13 (upd (F 13) (Int32.toNatClampNeg iw) ((F 17) (Int32.toNatClampNeg x2)))) 14 (upd (F 14) (Int32.toNatClampNeg iw) ((F 17) (Int32.toNatClampNeg x2)))) 15 (upd (F 15) (Int32.toNatClampNeg iw) ((F 17) (Int32.toNatClampNeg x2)))) 7 (40 * f + W) = kd := by rw [s7_, ← eci, updE, if_pos rfl]
          have v13 : (va_up (va_up (va_up (va_up (va_up (va_up (va_up F 7 (upd (F 7) (Int32.toNatClampNeg iw) kd)) 8 (upd (F 8) (Int32.toNatClampNeg iw) ((F 77) (Int32.toNatClampNeg nd)))) 10 (upd (F 10) (Int32.toNatClampNeg iw) up)) 9 (upd (F 9) (Int32.toNatClampNeg iw) ar)) 13 (upd (F 13) (Int32.toNatClampNeg iw) ((F 17) (Int32.toNatClampNeg x2)))) 14 (upd (F 14) (Int32.toNatClampNeg iw) ((F 17) (Int32.toNatClampNeg x2)))) 15 (upd (F 15) (Int32.toNatClampNeg iw) ((F 17) (Int32.toNatClampNeg x2)))) 13 (40 * f + W) = F 17 (Int32.toNatClampNeg x2) := by rw [s13_, ← eci, updE, if_pos rfl]
          have v14 : (va_up (va_up (va_up (va_up (va_up (va_up (va_up F 7 (upd (F 7) (Int32.toNatClampNeg iw) kd)) 8 (upd (F 8) (Int32.toNatClampNeg iw) ((F 77) (Int32.toNatClampNeg nd)))) 10 (upd (F 10) (Int32.toNatClampNeg iw) up)) 9 (upd (F 9) (Int32.toNatClampNeg iw) ar)) 13 (upd (F 13) (Int32.toNatClampNeg iw) ((F 17) (Int32.toNatClampNeg x2)))) 14 (upd (F 14) (Int32.toNatClampNeg iw) ((F 17) (Int32.toNatClampNeg x2)))) 15 (upd (F 15) (Int32.toNatClampNeg iw) ((F 17) (Int32.toNatClampNeg x2)))) 14 (40 * f + W) = F 17 (Int32.toNatClampNeg x2) := by rw [s14_, ← eci, updE, if_pos rfl]
          have v15 : (va_up (va_up (va_up (va_up (va_up (va_up (va_up F 7 (upd (F 7) (Int32.toNatClampNeg iw) kd)) 8 (upd (F 8) (Int32.toNatClampNeg iw) ((F 77) (Int32.toNatClampNeg nd)))) 10 (upd (F 10) (Int32.toNatClampNeg iw) up)) 9 (upd (F 9) (Int32.toNatClampNeg iw) ar)) 13 (upd (F 13) (Int32.toNatClampNeg iw) ((F 17) (Int32.toNatClampNeg x2)))) 14 (upd (F 14) (Int32.toNatClampNeg iw) ((F 17) (Int32.toNatClampNeg x2)))) 15 (upd (F 15) (Int32.toNatClampNeg iw) ((F 17) (Int32.toNatClampNeg x2)))) 15 (40 * f + W) = F 17 (Int32.toNatClampNeg x2) := by rw [s15_, ← eci, updE, if_pos rfl]
          have v17 : (F 17 (Int32.toNatClampNeg x2)).toInt = (Fs 17 f).toInt := by rw [ecf, ha.1 17 (by decide)]
          have hb : LYb Fs (va_up (va_up (va_up (va_up (va_up (va_up (va_up F 7 (upd (F 7) (Int32.toNatClampNeg iw) kd)) 8 (upd (F 8) (Int32.toNatClampNeg iw) ((F 77) (Int32.toNatClampNeg nd)))) 10 (upd (F 10) (Int32.toNatClampNeg iw) up)) 9 (upd (F 9) (Int32.toNatClampNeg iw) ar)) 13 (upd (F 13) (Int32.toNatClampNeg iw) ((F 17) (Int32.toNatClampNeg x2)))) 14 (upd (F 14) (Int32.toNatClampNeg iw) ((F 17) (Int32.toNatClampNeg x2)))) 15 (upd (F 15) (Int32.toNatClampNeg iw) ((F 17) (Int32.toNatClampNeg x2)))) f W T a_ := LYb_of ha (fun r hr => hxx.2.2.1 r hr) off (by rw [s10_, ← eci, updE, if_pos rfl, c3.2]) (by unfold arF; rw [s9_, ← eci, updE, if_pos rfl]; exact qar)
          have hA9 : rAll (va_up (va_up (va_up (va_up (va_up (va_up (va_up F 7 (upd (F 7) (Int32.toNatClampNeg iw) kd)) 8 (upd (F 8) (Int32.toNatClampNeg iw) ((F 77) (Int32.toNatClampNeg nd)))) 10 (upd (F 10) (Int32.toNatClampNeg iw) up)) 9 (upd (F 9) (Int32.toNatClampNeg iw) ar)) 13 (upd (F 13) (Int32.toNatClampNeg iw) ((F 17) (Int32.toNatClampNeg x2)))) 14 (upd (F 14) (Int32.toNatClampNeg iw) ((F 17) (Int32.toNatClampNeg x2)))) 15 (upd (F 15) (Int32.toNatClampNeg iw) ((F 17) (Int32.toNatClampNeg x2)))) := by
            intro q hq
            obtain ⟨q1, q2, q3, q4⟩ := hA q hq
            have q40 := c5
            rw [s13_, s14_, s15_, s19_]
            refine ⟨?_, ?_, ?_, q4⟩ <;> (rw [updE]; split <;> omega)
          have v8 : (va_up (va_up (va_up (va_up (va_up (va_up (va_up F 7 (upd (F 7) (Int32.toNatClampNeg iw) kd)) 8 (upd (F 8) (Int32.toNatClampNeg iw) ((F 77) (Int32.toNatClampNeg nd)))) 10 (upd (F 10) (Int32.toNatClampNeg iw) up)) 9 (upd (F 9) (Int32.toNatClampNeg iw) ar)) 13 (upd (F 13) (Int32.toNatClampNeg iw) ((F 17) (Int32.toNatClampNeg x2)))) 14 (upd (F 14) (Int32.toNatClampNeg iw) ((F 17) (Int32.toNatClampNeg x2)))) 15 (upd (F 15) (Int32.toNatClampNeg iw) ((F 17) (Int32.toNatClampNeg x2)))) 8 (40 * f + W) = Fs 77 nd.toInt.toNat := by rw [s8_, ← eci, updE, if_pos rfl]; exact congrFun (ha.1 77 (by decide)) _
          have o8 : ∀ i, i ≠ 40 * f + W → (va_up (va_up (va_up (va_up (va_up (va_up (va_up F 7 (upd (F 7) (Int32.toNatClampNeg iw) kd)) 8 (upd (F 8) (Int32.toNatClampNeg iw) ((F 77) (Int32.toNatClampNeg nd)))) 10 (upd (F 10) (Int32.toNatClampNeg iw) up)) 9 (upd (F 9) (Int32.toNatClampNeg iw) ar)) 13 (upd (F 13) (Int32.toNatClampNeg iw) ((F 17) (Int32.toNatClampNeg x2)))) 14 (upd (F 14) (Int32.toNatClampNeg iw) ((F 17) (Int32.toNatClampNeg x2)))) 15 (upd (F 15) (Int32.toNatClampNeg iw) ((F 17) (Int32.toNatClampNeg x2)))) 8 i = Fs 8 i := fun i hi => by rw [← eci] at hi; rw [s8_, updE, if_neg hi]; exact congrFun (ha.1 8 (by decide)) i
          have hlB : lowR F0 (va_up (va_up (va_up (va_up (va_up (va_up (va_up F 7 (upd (F 7) (Int32.toNatClampNeg iw) kd)) 8 (upd (F 8) (Int32.toNatClampNeg iw) ((F 77) (Int32.toNatClampNeg nd)))) 10 (upd (F 10) (Int32.toNatClampNeg iw) up)) 9 (upd (F 9) (Int32.toNatClampNeg iw) ar)) 13 (upd (F 13) (Int32.toNatClampNeg iw) ((F 17) (Int32.toNatClampNeg x2)))) 14 (upd (F 14) (Int32.toNatClampNeg iw) ((F 17) (Int32.toNatClampNeg x2)))) 15 (upd (F 15) (Int32.toNatClampNeg iw) ((F 17) (Int32.toNatClampNeg x2)))) f := low_B hlw ha (fun r hr => hxx.2.2.1 r hr) off o8
          refine gz_sub (lv' := [(0, .ref m), (1, .int x1), (2, .int x2), (3, .int nd), (4, .int up), (5, .int iw)]) (by simp [List.lookup]) ?_
          exact l_X12_laysOutCE hf hwi hc hZ hE hTL hq_ 1 _ _ _ _ _ hS_11 (fx_F (fx_F (fx_F (fx_F (fx_F (fx_F (fx_F hx (by decide)) (by decide)) (by decide)) (by decide)) (by decide)) (by decide)) (by decide)) h83 hA9 hb (v7.trans qkd) (by rw [← qkd]; omega) (by rw [v13]; exact v17) v8 o8 hlB (by decide)
        ·
          try simp only [mIn_0, lgc_lt, lgc_gt, lgc_le, lgc_ge, lgc_eq] at c_247
          try simp only [fl_lt, fl_le, fl_eq, fL_w, fL_lt, fL_le, tm1, tm10k, tm9, tm99, Int32.reduceToInt, Int64.reduceToInt, Int.not_lt, Int.not_le] at c_247
          refine gz_goto (tgt := 26) dX12_laysOut_250 (by decide) ?_
          have hxx : fx [] [] [7, 8, 9, 10, 13, 14, 15] [] n z F G n z (va_up (va_up (va_up (va_up (va_up (va_up (va_up F 7 (upd (F 7) (Int32.toNatClampNeg iw) kd)) 8 (upd (F 8) (Int32.toNatClampNeg iw) ((F 77) (Int32.toNatClampNeg nd)))) 10 (upd (F 10) (Int32.toNatClampNeg iw) up)) 9 (upd (F 9) (Int32.toNatClampNeg iw) ar)) 13 (upd (F 13) (Int32.toNatClampNeg iw) ((F 17) (Int32.toNatClampNeg x2)))) 14 (upd (F 14) (Int32.toNatClampNeg iw) ((F 17) (Int32.toNatClampNeg x2)))) 15 (upd (F 15) (Int32.toNatClampNeg iw) ((F 17) (Int32.toNatClampNeg x2)))) G := (fx_F (fx_F (fx_F (fx_F (fx_F (fx_F (fx_F fx_rf (by decide)) (by decide)) (by decide)) (by decide)) (by decide)) (by decide)) (by decide))
          have s7_ : (va_up (va_up (va_up (va_up (va_up (va_up (va_up F 7 (upd (F 7) (Int32.toNatClampNeg iw) kd)) 8 (upd (F 8) (Int32.toNatClampNeg iw) ((F 77) (Int32.toNatClampNeg nd)))) 10 (upd (F 10) (Int32.toNatClampNeg iw) up)) 9 (upd (F 9) (Int32.toNatClampNeg iw) ar)) 13 (upd (F 13) (Int32.toNatClampNeg iw) ((F 17) (Int32.toNatClampNeg x2)))) 14 (upd (F 14) (Int32.toNatClampNeg iw) ((F 17) (Int32.toNatClampNeg x2)))) 15 (upd (F 15) (Int32.toNatClampNeg iw) ((F 17) (Int32.toNatClampNeg x2)))) 7 = (upd (F 7) (Int32.toNatClampNeg iw) kd) := rfl
          have s8_ : (va_up (va_up (va_up (va_up (va_up (va_up (va_up F 7 (upd (F 7) (Int32.toNatClampNeg iw) kd)) 8 (upd (F 8) (Int32.toNatClampNeg iw) ((F 77) (Int32.toNatClampNeg nd)))) 10 (upd (F 10) (Int32.toNatClampNeg iw) up)) 9 (upd (F 9) (Int32.toNatClampNeg iw) ar)) 13 (upd (F 13) (Int32.toNatClampNeg iw) ((F 17) (Int32.toNatClampNeg x2)))) 14 (upd (F 14) (Int32.toNatClampNeg iw) ((F 17) (Int32.toNatClampNeg x2)))) 15 (upd (F 15) (Int32.toNatClampNeg iw) ((F 17) (Int32.toNatClampNeg x2)))) 8 = (upd (F 8) (Int32.toNatClampNeg iw) ((F 77) (Int32.toNatClampNeg nd))) := rfl
          have s9_ : (va_up (va_up (va_up (va_up (va_up (va_up (va_up F 7 (upd (F 7) (Int32.toNatClampNeg iw) kd)) 8 (upd (F 8) (Int32.toNatClampNeg iw) ((F 77) (Int32.toNatClampNeg nd)))) 10 (upd (F 10) (Int32.toNatClampNeg iw) up)) 9 (upd (F 9) (Int32.toNatClampNeg iw) ar)) 13 (upd (F 13) (Int32.toNatClampNeg iw) ((F 17) (Int32.toNatClampNeg x2)))) 14 (upd (F 14) (Int32.toNatClampNeg iw) ((F 17) (Int32.toNatClampNeg x2)))) 15 (upd (F 15) (Int32.toNatClampNeg iw) ((F 17) (Int32.toNatClampNeg x2)))) 9 = (upd (F 9) (Int32.toNatClampNeg iw) ar) := rfl
          have s10_ : (va_up (va_up (va_up (va_up (va_up (va_up (va_up F 7 (upd (F 7) (Int32.toNatClampNeg iw) kd)) 8 (upd (F 8) (Int32.toNatClampNeg iw) ((F 77) (Int32.toNatClampNeg nd)))) 10 (upd (F 10) (Int32.toNatClampNeg iw) up)) 9 (upd (F 9) (Int32.toNatClampNeg iw) ar)) 13 (upd (F 13) (Int32.toNatClampNeg iw) ((F 17) (Int32.toNatClampNeg x2)))) 14 (upd (F 14) (Int32.toNatClampNeg iw) ((F 17) (Int32.toNatClampNeg x2)))) 15 (upd (F 15) (Int32.toNatClampNeg iw) ((F 17) (Int32.toNatClampNeg x2)))) 10 = (upd (F 10) (Int32.toNatClampNeg iw) up) := rfl
          have s13_ : (va_up (va_up (va_up (va_up (va_up (va_up (va_up F 7 (upd (F 7) (Int32.toNatClampNeg iw) kd)) 8 (upd (F 8) (Int32.toNatClampNeg iw) ((F 77) (Int32.toNatClampNeg nd)))) 10 (upd (F 10) (Int32.toNatClampNeg iw) up)) 9 (upd (F 9) (Int32.toNatClampNeg iw) ar)) 13 (upd (F 13) (Int32.toNatClampNeg iw) ((F 17) (Int32.toNatClampNeg x2)))) 14 (upd (F 14) (Int32.toNatClampNeg iw) ((F 17) (Int32.toNatClampNeg x2)))) 15 (upd (F 15) (Int32.toNatClampNeg iw) ((F 17) (Int32.toNatClampNeg x2)))) 13 = (upd (F 13) (Int32.toNatClampNeg iw) ((F 17) (Int32.toNatClampNeg x2))) := rfl
          have s14_ : (va_up (va_up (va_up (va_up (va_up (va_up (va_up F 7 (upd (F 7) (Int32.toNatClampNeg iw) kd)) 8 (upd (F 8) (Int32.toNatClampNeg iw) ((F 77) (Int32.toNatClampNeg nd)))) 10 (upd (F 10) (Int32.toNatClampNeg iw) up)) 9 (upd (F 9) (Int32.toNatClampNeg iw) ar)) 13 (upd (F 13) (Int32.toNatClampNeg iw) ((F 17) (Int32.toNatClampNeg x2)))) 14 (upd (F 14) (Int32.toNatClampNeg iw) ((F 17) (Int32.toNatClampNeg x2)))) 15 (upd (F 15) (Int32.toNatClampNeg iw) ((F 17) (Int32.toNatClampNeg x2)))) 14 = (upd (F 14) (Int32.toNatClampNeg iw) ((F 17) (Int32.toNatClampNeg x2))) := rfl
          have s15_ : (va_up (va_up (va_up (va_up (va_up (va_up (va_up F 7 (upd (F 7) (Int32.toNatClampNeg iw) kd)) 8 (upd (F 8) (Int32.toNatClampNeg iw) ((F 77) (Int32.toNatClampNeg nd)))) 10 (upd (F 10) (Int32.toNatClampNeg iw) up)) 9 (upd (F 9) (Int32.toNatClampNeg iw) ar)) 13 (upd (F 13) (Int32.toNatClampNeg iw) ((F 17) (Int32.toNatClampNeg x2)))) 14 (upd (F 14) (Int32.toNatClampNeg iw) ((F 17) (Int32.toNatClampNeg x2)))) 15 (upd (F 15) (Int32.toNatClampNeg iw) ((F 17) (Int32.toNatClampNeg x2)))) 15 = (upd (F 15) (Int32.toNatClampNeg iw) ((F 17) (Int32.toNatClampNeg x2))) := rfl
          have s17_ : (va_up (va_up (va_up (va_up (va_up (va_up (va_up F 7 (upd (F 7) (Int32.toNatClampNeg iw) kd)) 8 (upd (F 8) (Int32.toNatClampNeg iw) ((F 77) (Int32.toNatClampNeg nd)))) 10 (upd (F 10) (Int32.toNatClampNeg iw) up)) 9 (upd (F 9) (Int32.toNatClampNeg iw) ar)) 13 (upd (F 13) (Int32.toNatClampNeg iw) ((F 17) (Int32.toNatClampNeg x2)))) 14 (upd (F 14) (Int32.toNatClampNeg iw) ((F 17) (Int32.toNatClampNeg x2)))) 15 (upd (F 15) (Int32.toNatClampNeg iw) ((F 17) (Int32.toNatClampNeg x2)))) 17 = (F 17) := rfl
          have s19_ : (va_up (va_up (va_up (va_up (va_up (va_up (va_up F 7 (upd (F 7) (Int32.toNatClampNeg iw) kd)) 8 (upd (F 8) (Int32.toNatClampNeg iw) ((F 77) (Int32.toNatClampNeg nd)))) 10 (upd (F 10) (Int32.toNatClampNeg iw) up)) 9 (upd (F 9) (Int32.toNatClampNeg iw) ar)) 13 (upd (F 13) (Int32.toNatClampNeg iw) ((F 17) (Int32.toNatClampNeg x2)))) 14 (upd (F 14) (Int32.toNatClampNeg iw) ((F 17) (Int32.toNatClampNeg x2)))) 15 (upd (F 15) (Int32.toNatClampNeg iw) ((F 17) (Int32.toNatClampNeg x2)))) 19 = (F 19) := rfl
          have off : ∀ r, r ∈ [7, 9, 10, 13, 14, 15] → ∀ i, i ≠ 40 * f + W → (va_up (va_up (va_up (va_up (va_up (va_up (va_up F 7 (upd (F 7) (Int32.toNatClampNeg iw) kd)) 8 (upd (F 8) (Int32.toNatClampNeg iw) ((F 77) (Int32.toNatClampNeg nd)))) 10 (upd (F 10) (Int32.toNatClampNeg iw) up)) 9 (upd (F 9) (Int32.toNatClampNeg iw) ar)) 13 (upd (F 13) (Int32.toNatClampNeg iw) ((F 17) (Int32.toNatClampNeg x2)))) 14 (upd (F 14) (Int32.toNatClampNeg iw) ((F 17) (Int32.toNatClampNeg x2)))) 15 (upd (F 15) (Int32.toNatClampNeg iw) ((F 17) (Int32.toNatClampNeg x2)))) r i = F r i := by
            intro r hr i hi
            rw [← eci] at hi
            simp only [List.mem_cons, List.not_mem_nil, or_false] at hr
            rcases hr with rfl | rfl | rfl | rfl | rfl | rfl
            · rw [s7_, updE, if_neg hi]
            · rw [s9_, updE, if_neg hi]
            · rw [s10_, updE, if_neg hi]
            · rw [s13_, updE, if_neg hi]
            · rw [s14_, updE, if_neg hi]
            · rw [s15_, updE, if_neg hi]
          have v7 : (va_up (va_up (va_up (va_up (va_up (va_up (va_up F 7 (upd (F 7) (Int32.toNatClampNeg iw) kd)) 8 (upd (F 8) (Int32.toNatClampNeg iw) ((F 77) (Int32.toNatClampNeg nd)))) 10 (upd (F 10) (Int32.toNatClampNeg iw) up)) 9 (upd (F 9) (Int32.toNatClampNeg iw) ar)) 13 (upd (F 13) (Int32.toNatClampNeg iw) ((F 17) (Int32.toNatClampNeg x2)))) 14 (upd (F 14) (Int32.toNatClampNeg iw) ((F 17) (Int32.toNatClampNeg x2)))) 15 (upd (F 15) (Int32.toNatClampNeg iw) ((F 17) (Int32.toNatClampNeg x2)))) 7 (40 * f + W) = kd := by rw [s7_, ← eci, updE, if_pos rfl]
          have v13 : (va_up (va_up (va_up (va_up (va_up (va_up (va_up F 7 (upd (F 7) (Int32.toNatClampNeg iw) kd)) 8 (upd (F 8) (Int32.toNatClampNeg iw) ((F 77) (Int32.toNatClampNeg nd)))) 10 (upd (F 10) (Int32.toNatClampNeg iw) up)) 9 (upd (F 9) (Int32.toNatClampNeg iw) ar)) 13 (upd (F 13) (Int32.toNatClampNeg iw) ((F 17) (Int32.toNatClampNeg x2)))) 14 (upd (F 14) (Int32.toNatClampNeg iw) ((F 17) (Int32.toNatClampNeg x2)))) 15 (upd (F 15) (Int32.toNatClampNeg iw) ((F 17) (Int32.toNatClampNeg x2)))) 13 (40 * f + W) = F 17 (Int32.toNatClampNeg x2) := by rw [s13_, ← eci, updE, if_pos rfl]
          have v14 : (va_up (va_up (va_up (va_up (va_up (va_up (va_up F 7 (upd (F 7) (Int32.toNatClampNeg iw) kd)) 8 (upd (F 8) (Int32.toNatClampNeg iw) ((F 77) (Int32.toNatClampNeg nd)))) 10 (upd (F 10) (Int32.toNatClampNeg iw) up)) 9 (upd (F 9) (Int32.toNatClampNeg iw) ar)) 13 (upd (F 13) (Int32.toNatClampNeg iw) ((F 17) (Int32.toNatClampNeg x2)))) 14 (upd (F 14) (Int32.toNatClampNeg iw) ((F 17) (Int32.toNatClampNeg x2)))) 15 (upd (F 15) (Int32.toNatClampNeg iw) ((F 17) (Int32.toNatClampNeg x2)))) 14 (40 * f + W) = F 17 (Int32.toNatClampNeg x2) := by rw [s14_, ← eci, updE, if_pos rfl]
          have v15 : (va_up (va_up (va_up (va_up (va_up (va_up (va_up F 7 (upd (F 7) (Int32.toNatClampNeg iw) kd)) 8 (upd (F 8) (Int32.toNatClampNeg iw) ((F 77) (Int32.toNatClampNeg nd)))) 10 (upd (F 10) (Int32.toNatClampNeg iw) up)) 9 (upd (F 9) (Int32.toNatClampNeg iw) ar)) 13 (upd (F 13) (Int32.toNatClampNeg iw) ((F 17) (Int32.toNatClampNeg x2)))) 14 (upd (F 14) (Int32.toNatClampNeg iw) ((F 17) (Int32.toNatClampNeg x2)))) 15 (upd (F 15) (Int32.toNatClampNeg iw) ((F 17) (Int32.toNatClampNeg x2)))) 15 (40 * f + W) = F 17 (Int32.toNatClampNeg x2) := by rw [s15_, ← eci, updE, if_pos rfl]
          have v17 : (F 17 (Int32.toNatClampNeg x2)).toInt = (Fs 17 f).toInt := by rw [ecf, ha.1 17 (by decide)]
          have hb : LYb Fs (va_up (va_up (va_up (va_up (va_up (va_up (va_up F 7 (upd (F 7) (Int32.toNatClampNeg iw) kd)) 8 (upd (F 8) (Int32.toNatClampNeg iw) ((F 77) (Int32.toNatClampNeg nd)))) 10 (upd (F 10) (Int32.toNatClampNeg iw) up)) 9 (upd (F 9) (Int32.toNatClampNeg iw) ar)) 13 (upd (F 13) (Int32.toNatClampNeg iw) ((F 17) (Int32.toNatClampNeg x2)))) 14 (upd (F 14) (Int32.toNatClampNeg iw) ((F 17) (Int32.toNatClampNeg x2)))) 15 (upd (F 15) (Int32.toNatClampNeg iw) ((F 17) (Int32.toNatClampNeg x2)))) f W T a_ := LYb_of ha (fun r hr => hxx.2.2.1 r hr) off (by rw [s10_, ← eci, updE, if_pos rfl, c3.2]) (by unfold arF; rw [s9_, ← eci, updE, if_pos rfl]; exact qar)
          have hA9 : rAll (va_up (va_up (va_up (va_up (va_up (va_up (va_up F 7 (upd (F 7) (Int32.toNatClampNeg iw) kd)) 8 (upd (F 8) (Int32.toNatClampNeg iw) ((F 77) (Int32.toNatClampNeg nd)))) 10 (upd (F 10) (Int32.toNatClampNeg iw) up)) 9 (upd (F 9) (Int32.toNatClampNeg iw) ar)) 13 (upd (F 13) (Int32.toNatClampNeg iw) ((F 17) (Int32.toNatClampNeg x2)))) 14 (upd (F 14) (Int32.toNatClampNeg iw) ((F 17) (Int32.toNatClampNeg x2)))) 15 (upd (F 15) (Int32.toNatClampNeg iw) ((F 17) (Int32.toNatClampNeg x2)))) := by
            intro q hq
            obtain ⟨q1, q2, q3, q4⟩ := hA q hq
            have q40 := c5
            rw [s13_, s14_, s15_, s19_]
            refine ⟨?_, ?_, ?_, q4⟩ <;> (rw [updE]; split <;> omega)
          have v8 : (va_up (va_up (va_up (va_up (va_up (va_up (va_up F 7 (upd (F 7) (Int32.toNatClampNeg iw) kd)) 8 (upd (F 8) (Int32.toNatClampNeg iw) ((F 77) (Int32.toNatClampNeg nd)))) 10 (upd (F 10) (Int32.toNatClampNeg iw) up)) 9 (upd (F 9) (Int32.toNatClampNeg iw) ar)) 13 (upd (F 13) (Int32.toNatClampNeg iw) ((F 17) (Int32.toNatClampNeg x2)))) 14 (upd (F 14) (Int32.toNatClampNeg iw) ((F 17) (Int32.toNatClampNeg x2)))) 15 (upd (F 15) (Int32.toNatClampNeg iw) ((F 17) (Int32.toNatClampNeg x2)))) 8 (40 * f + W) = Fs 77 nd.toInt.toNat := by rw [s8_, ← eci, updE, if_pos rfl]; exact congrFun (ha.1 77 (by decide)) _
          have o8 : ∀ i, i ≠ 40 * f + W → (va_up (va_up (va_up (va_up (va_up (va_up (va_up F 7 (upd (F 7) (Int32.toNatClampNeg iw) kd)) 8 (upd (F 8) (Int32.toNatClampNeg iw) ((F 77) (Int32.toNatClampNeg nd)))) 10 (upd (F 10) (Int32.toNatClampNeg iw) up)) 9 (upd (F 9) (Int32.toNatClampNeg iw) ar)) 13 (upd (F 13) (Int32.toNatClampNeg iw) ((F 17) (Int32.toNatClampNeg x2)))) 14 (upd (F 14) (Int32.toNatClampNeg iw) ((F 17) (Int32.toNatClampNeg x2)))) 15 (upd (F 15) (Int32.toNatClampNeg iw) ((F 17) (Int32.toNatClampNeg x2)))) 8 i = Fs 8 i := fun i hi => by rw [← eci] at hi; rw [s8_, updE, if_neg hi]; exact congrFun (ha.1 8 (by decide)) i
          have hlB : lowR F0 (va_up (va_up (va_up (va_up (va_up (va_up (va_up F 7 (upd (F 7) (Int32.toNatClampNeg iw) kd)) 8 (upd (F 8) (Int32.toNatClampNeg iw) ((F 77) (Int32.toNatClampNeg nd)))) 10 (upd (F 10) (Int32.toNatClampNeg iw) up)) 9 (upd (F 9) (Int32.toNatClampNeg iw) ar)) 13 (upd (F 13) (Int32.toNatClampNeg iw) ((F 17) (Int32.toNatClampNeg x2)))) 14 (upd (F 14) (Int32.toNatClampNeg iw) ((F 17) (Int32.toNatClampNeg x2)))) 15 (upd (F 15) (Int32.toNatClampNeg iw) ((F 17) (Int32.toNatClampNeg x2)))) f := low_B hlw ha (fun r hr => hxx.2.2.1 r hr) off o8
          have hJ : LYJ F0 n (va_up (va_up (va_up (va_up (va_up (va_up (va_up F 7 (upd (F 7) (Int32.toNatClampNeg iw) kd)) 8 (upd (F 8) (Int32.toNatClampNeg iw) ((F 77) (Int32.toNatClampNeg nd)))) 10 (upd (F 10) (Int32.toNatClampNeg iw) up)) 9 (upd (F 9) (Int32.toNatClampNeg iw) ar)) 13 (upd (F 13) (Int32.toNatClampNeg iw) ((F 17) (Int32.toNatClampNeg x2)))) 14 (upd (F 14) (Int32.toNatClampNeg iw) ((F 17) (Int32.toNatClampNeg x2)))) 15 (upd (F 15) (Int32.toNatClampNeg iw) ((F 17) (Int32.toNatClampNeg x2)))) f fo Wn (W + 1) T := LYJ_leaf hf.2.2.1 hf.2.2.2 hc hb h83 hA9 (by rw [v7]; omega) (by rw [v13, v14, v15]; exact ⟨rfl, rfl⟩)
          have hZ2 : LZ (va_up (va_up (va_up (va_up (va_up (va_up (va_up F 7 (upd (F 7) (Int32.toNatClampNeg iw) kd)) 8 (upd (F 8) (Int32.toNatClampNeg iw) ((F 77) (Int32.toNatClampNeg nd)))) 10 (upd (F 10) (Int32.toNatClampNeg iw) up)) 9 (upd (F 9) (Int32.toNatClampNeg iw) ar)) 13 (upd (F 13) (Int32.toNatClampNeg iw) ((F 17) (Int32.toNatClampNeg x2)))) 14 (upd (F 14) (Int32.toNatClampNeg iw) ((F 17) (Int32.toNatClampNeg x2)))) 15 (upd (F 15) (Int32.toNatClampNeg iw) ((F 17) (Int32.toNatClampNeg x2)))) f Wn H fi se FIN NW NV (W + 1) T := LZ_leaf (F0 := F) hZ hE hTL c3.1 hb c2 o8 (v7.trans qkd) v8 (by rw [← qkd]; omega) (by rw [v13, v14, v15]; exact ⟨rfl, rfl⟩)
          refine gz_sub (lv' := [(0, .ref m), (1, .int x1), (2, .int x2)]) (by simp [List.lookup]) ?_
          exact hq_ T _ _ _ _ _ hS_11 (fx_F (fx_F (fx_F (fx_F (fx_F (fx_F (fx_F hx (by decide)) (by decide)) (by decide)) (by decide)) (by decide)) (by decide)) (by decide)) hJ hZ2 hlB
