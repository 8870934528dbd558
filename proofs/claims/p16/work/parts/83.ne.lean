/-! laysOut: its loop, purely -/
def LYI (F : Nat → Nat → Int32) (f fo Wn W T : Nat) : Prop := (W = 0 ∧ T = 1 ∧ (F 85 0).toInt = -1 ∧ ndA F fo Wn (F 84 0).toInt 0 ∧ szN F fo Wn 0 (F 84 0).toInt ≤ 40 ∧ vsN F fo Wn 0 (F 84 0).toInt ≤ 40) ∨ (1 ≤ W ∧ LYp F f fo Wn W T)
/-- around the top task's WORD there are a -/
def upA (F : Nat → Nat → Int32) (f W T : Nat) (a : Int) : Prop := ((F 85 T).toInt = -1 ∧ W = 0 ∧ T = 0 ∧ a = 0) ∨ ∃ p : Nat, p < W ∧ (F 85 T).toInt = 40 * f + p ∧ a = arF F f p + 1 ∧ 0 ≤ arF F f p ∧ a ≤ 11
def otL (Fs F : Nat → Nat → Int32) (f W T : Nat) : Prop := ∀ p : Nat, p < W → (Fs 85 T).toInt = 40 * f + p →
  (∀ k, k < W → if k = p ∧ twB Fs T = false then (F 11 (40 * f + k)).toInt = 40 * f + W else F 11 (40 * f + k) = Fs 11 (40 * f + k))
  ∧ (∀ k, k < W → if k = p ∧ twB Fs T = true then (F 12 (40 * f + k)).toInt = 40 * f + W else F 12 (40 * f + k) = Fs 12 (40 * f + k))
def LYa (Fs F : Nat → Nat → Int32) (f W T : Nat) : Prop := (∀ r, r ∉ [6, 11, 12] → F r = Fs r) ∧ (F 6 f).toInt = (W : Int) + 1 ∧ (∀ g, g < f → agF Fs F g) ∧ otL Fs F f W T
def LYb (Fs F : Nat → Nat → Int32) (f W T : Nat) (a : Int) : Prop := (∀ r, r ∉ [6, 7, 8, 9, 10, 11, 12, 13, 14, 15] → F r = Fs r) ∧ (F 6 f).toInt = (W : Int) + 1 ∧ (∀ g, g < f → agF Fs F g) ∧ otL Fs F f W T
  ∧ (∀ r, r ∈ [7, 9, 10, 13, 14, 15] → ∀ k, k < W → F r (40 * f + k) = Fs r (40 * f + k)) ∧ (F 10 (40 * f + W)).toInt = (Fs 85 T).toInt ∧ arF F f W = a
def LYs (Fs F : Nat → Nat → Int32) (f fo W T : Nat) (a : Int) : Prop := agF Fs F fo ∧ (∀ r, r ∈ [7, 9, 10, 13, 14, 15] → ∀ k, k < W → F r (40 * f + k) = Fs r (40 * f + k)) ∧ otL Fs F f W T
  ∧ (F 10 (40 * f + W)).toInt = (Fs 85 T).toInt ∧ arF F f W = a ∧ (∀ r, r ∈ [84, 85, 86] → ∀ j, j < T → F r j = Fs r j)
  ∧ ((F 13 (40 * f + W)).toInt ≤ (F 14 (40 * f + W)).toInt ∧ (F 14 (40 * f + W)).toInt ≤ (F 15 (40 * f + W)).toInt)
theorem LYI_top {F : Nat → Nat → Int32} {f fo Wn W T : Nat} (hWn : Wn ≤ 40) (q : LYI F f fo Wn W (T + 1)) : ∃ a, ndA F fo Wn (F 84 T).toInt a ∧ T + 1 ≤ 40 ∧ W + 1 ≤ 40 ∧ vsF F f 0 W + vsN F fo Wn 0 (F 84 T).toInt ≤ 40 ∧ upA F f W T a := by
  rcases q with ⟨e1, e2, e3, e4, e5, e6⟩ | ⟨h1, q1, q2, q3, q4⟩
  · have eT : T = 0 := by omega
    subst eT
    subst e1
    have e0 : vsF F f 0 0 = 0 := rfl
    exact ⟨0, e4, by omega, by omega, by omega, Or.inl ⟨e3, rfl, rfl, rfl⟩⟩
  · obtain ⟨p, c1, c2, c3, c4, c5, c6, c7, c8⟩ := q2 T (by omega)
    have hp := sz_pos (F := F) (fo := fo) hWn (nd_lt c7)
    have hsm : T + 1 ≤ smK (fun i => szN F fo Wn 0 (F 84 i).toInt) (T + 1) := smK_le _ (fun i hi => by
      obtain ⟨p', _, _, _, _, _, _, d7, _⟩ := q2 i hi
      exact sz_pos hWn (nd_lt d7))
    have r3 : W + (smK (fun i => szN F fo Wn 0 (F 84 i).toInt) T + szN F fo Wn 0 (F 84 T).toInt) ≤ 40 := q3
    have r4 : vsF F f 0 W + (smK (fun i => vsN F fo Wn 0 (F 84 i).toInt) T + vsN F fo Wn 0 (F 84 T).toInt) ≤ 40 := q4
    exact ⟨arF F f p + 1, c7, by omega, by omega, by omega, Or.inr ⟨p, c1, c2, rfl, (q1 p c1).2.1.1, c7.1⟩⟩
theorem step_leaf {Fs F : Nat → Nat → Int32} {f fo Wn W T : Nat} {a : Int} (hWn : Wn ≤ 40) (q : LYI Fs f fo Wn W (T + 1)) (hU : upA Fs f W T a) (hs : LYs Fs F f fo W T a)
    (e7 : 0 ≤ (F 7 (40 * f + W)).toInt ∧ (F 7 (40 * f + W)).toInt ≤ 1) (eo : owK F f W = 0) : LYI F f fo Wn (W + 1) T := by
  obtain ⟨s1, s2, s3, s4, s5, s6, s7⟩ := hs
  refine Or.inr ⟨by omega, ?_⟩
  have hi : ∀ j, j < W → arF F f j = arF Fs f j := fun j hj => by unfold arF; rw [s2 9 (by decide) j hj]
  rcases q with ⟨e1, e2, e3, e4, e5, e6⟩ | ⟨h1, q⟩
  · have eT : T = 0 := by omega
    subst eT
    subst e1
    have ea : a = 0 := by
      rcases hU with ⟨_, _, _, z⟩ | ⟨p, z, _⟩
      · exact z
      · omega
    exact lay0_leaf (by rw [s4, e3]) (by rw [s5, ea]) s7 e7 eo
  · rcases hU with ⟨z1, z2, z3, z4⟩ | ⟨p, z1, z2, z3, z4, z5⟩
    · omega
    · obtain ⟨o1, o2⟩ := s3 p z1 z2
      exact lay_leaf hWn s1 q z1 z2 hi (by rw [s5, hi p z1]; exact z3) (fun r hr k hk => s2 r (by simp only [List.mem_cons, List.not_mem_nil, or_false] at hr ⊢; omega) k hk) o1 o2 (s6 84 (by decide)) (s6 85 (by decide)) (s6 86 (by decide)) e7 (by rw [s4]; exact z2) s7 eo
/-- the tasks that are put: a pair's two, or one -/
def tkN (Fs F : Nat → Nat → Int32) (f W T T2 : Nat) (v : Nat) : Prop :=
  (prK F f W ∧ F 84 T = Fs 79 v ∧ F 84 (T + 1) = Fs 78 v ∧ (F 85 T).toInt = 40 * f + W ∧ twB F T = true ∧ (F 85 (T + 1)).toInt = 40 * f + W ∧ twB F (T + 1) = false ∧ T2 = T + 2)
  ∨ (¬ prK F f W ∧ F 84 T = Fs 78 v ∧ (F 85 T).toInt = 40 * f + W ∧ twB F T = false ∧ T2 = T + 1)
theorem step_deep {Fs F : Nat → Nat → Int32} {f fo Wn W T T2 : Nat} {a : Int} (hWn : Wn ≤ 40) (hw : ∀ k, k < Wn → wOK Fs fo Wn k) (hS : SHp Fs fo Wn 0 (-1)) (hnd : ndA Fs fo Wn (Fs 84 T).toInt a)
    (q : LYI Fs f fo Wn W (T + 1)) (hU : upA Fs f W T a) (hs : LYs Fs F f fo W T a)
    (e7 : F 7 (40 * f + W) = Fs 76 (Fs 84 T).toInt.toNat) (hk : 2 ≤ (Fs 76 (Fs 84 T).toInt.toNat).toInt)
    (eo : ∀ j : Nat, (Fs 80 (Fs 84 T).toInt.toNat).toInt = 40 * fo + j → owK F f W = owK Fs fo j) (ht : tkN Fs F f W T T2 (Fs 84 T).toInt.toNat) : LYI F f fo Wn (W + 1) T2 := by
  obtain ⟨s1, s2, s3, s4, s5, s6, s7⟩ := hs
  refine Or.inr ⟨by omega, ?_⟩
  have hi : ∀ j, j < W → arF F f j = arF Fs f j := fun j hj => by unfold arF; rw [s2 9 (by decide) j hj]
  obtain ⟨j, ej, hj, n2, n1, ⟨c1, c2, c3⟩, c4⟩ := lay_ch hWn hw hS hnd hk
  have eo' := eo j n1
  have hk10 : (Fs 76 (Fs 84 T).toInt.toNat).toInt ≤ 10 := by rw [n2]; exact (hw j hj).1.2
  have e7' : 2 ≤ (F 7 (40 * f + W)).toInt ∧ (F 7 (40 * f + W)).toInt ≤ 10 := by rw [e7]; exact ⟨hk, hk10⟩
  have g1 := nd_ag s1 hWn c1
  rcases ht with ⟨hpr, t84, u84, t85, t86, u85, u86, eT2⟩ | ⟨hnp, t84, t85, t86, eT2⟩
  · have hpr' := hpr
    unfold prK at hpr'
    rw [e7] at hpr'
    obtain ⟨d1, d2, d3⟩ := c4 (by omega) (by omega)
    have g2 := nd_ag s1 hWn d1
    subst eT2
    rcases q with ⟨e1, e2, e3, e4, e5, e6⟩ | ⟨h1, q⟩
    · have eT : T = 0 := by omega
      subst eT
      subst e1
      have ea : a = 0 := by
        rcases hU with ⟨_, _, _, z⟩ | ⟨p, z, _⟩
        · exact z
        · omega
      have u84' : F 84 1 = Fs 78 (Fs 84 0).toInt.toNat := u84
      have s5' : arF F f 0 = a := s5
      have eo2 : owK F f 0 = owK Fs fo j := eo'
      refine lay0_pair (by rw [s4, e3]) (by rw [s5, ea]) s7 e7' hpr t85 t86 u85 u86 (by rw [t84, s5']; exact g2.1) (by rw [u84', s5']; exact g1.1) ?_ ?_
      · rw [t84, u84', g2.2.1, g1.2.1]; omega
      · rw [t84, u84', g2.2.2, g1.2.2, eo2]; omega
    · rcases hU with ⟨z1, z2, z3, z4⟩ | ⟨p, z1, z2, z3, z4, z5⟩
      · omega
      · obtain ⟨o1, o2⟩ := s3 p z1 z2
        refine lay_pair hWn s1 q z1 z2 hi (by rw [s5, hi p z1]; exact z3) (fun r hr k hk => s2 r (by simp only [List.mem_cons, List.not_mem_nil, or_false] at hr ⊢; omega) k hk) o1 o2 (s6 84 (by decide)) (s6 85 (by decide)) (s6 86 (by decide)) e7' (by rw [s4]; exact z2) s7 hpr t85 t86 u85 u86 (by rw [t84, s5]; exact g2.1) (by rw [u84, s5]; exact g1.1) ?_ ?_
        · rw [t84, u84, g2.2.1, g1.2.1]; omega
        · rw [t84, u84, g2.2.2, g1.2.2, eo']; omega
  · subst eT2
    rcases q with ⟨e1, e2, e3, e4, e5, e6⟩ | ⟨h1, q⟩
    · have eT : T = 0 := by omega
      subst eT
      subst e1
      have ea : a = 0 := by
        rcases hU with ⟨_, _, _, z⟩ | ⟨p, z, _⟩
        · exact z
        · omega
      have s5' : arF F f 0 = a := s5
      have eo2 : owK F f 0 = owK Fs fo j := eo'
      refine lay0_one (by rw [s4, e3]) (by rw [s5, ea]) s7 e7' hnp t85 t86 (by rw [t84, s5']; exact g1.1) ?_ ?_
      · rw [t84, g1.2.1]; omega
      · rw [t84, g1.2.2, eo2]; omega
    · rcases hU with ⟨z1, z2, z3, z4⟩ | ⟨p, z1, z2, z3, z4, z5⟩
      · omega
      · obtain ⟨o1, o2⟩ := s3 p z1 z2
        refine lay_one hWn s1 q z1 z2 hi (by rw [s5, hi p z1]; exact z3) (fun r hr k hk => s2 r (by simp only [List.mem_cons, List.not_mem_nil, or_false] at hr ⊢; omega) k hk) o1 o2 (s6 84 (by decide)) (s6 85 (by decide)) (s6 86 (by decide)) e7' (by rw [s4]; exact z2) s7 hnp t85 t86 (by rw [t84, s5]; exact g1.1) ?_ ?_
        · rw [t84, g1.2.1]; omega
        · rw [t84, g1.2.2, eo']; omega
theorem agF_tr {F F2 F3 : Nat → Nat → Int32} {g : Nat} (h1 : agF F F2 g) (h2 : agF F2 F3 g) : agF F F3 g := ⟨h2.1.trans h1.1, fun r hr k hk => (h2.2 r hr k hk).trans (h1.2 r hr k hk)⟩
theorem LYb_of {Fs F F2 : Nat → Nat → Int32} {f W T : Nat} {a : Int} (la : LYa Fs F f W T) (same : ∀ r, r ∉ [7, 8, 9, 10, 13, 14, 15] → F2 r = F r)
    (off : ∀ r, r ∈ [7, 9, 10, 13, 14, 15] → ∀ i, i ≠ 40 * f + W → F2 r i = F r i) (e10 : (F2 10 (40 * f + W)).toInt = (Fs 85 T).toInt) (e9 : arF F2 f W = a) : LYb Fs F2 f W T a := by
  refine ⟨fun r hr => (same r (fun h => hr ?_)).trans (la.1 r (fun h => hr ?_)), by rw [same 6 (by decide)]; exact la.2.1, fun g hg => agF_tr (la.2.2.1 g hg) ⟨by rw [same 6 (by decide)], fun r hr k hk => ?_⟩, ?_, fun r hr k hk => ?_, e10, e9⟩
  · simp only [List.mem_cons, List.not_mem_nil, or_false] at h ⊢; omega
  · simp only [List.mem_cons, List.not_mem_nil, or_false] at h ⊢; omega
  · have hne : 40 * g + k ≠ 40 * f + W := by omega
    simp only [List.mem_cons, List.not_mem_nil, or_false] at hr
    rcases hr with rfl | rfl | rfl | rfl | rfl | rfl | rfl | rfl <;> first | exact off _ (by decide) _ hne | exact congrFun (same _ (by decide)) _
  · unfold otL
    rw [same 11 (by decide), same 12 (by decide)]; exact la.2.2.2
  · refine (off r hr _ (by omega)).trans (congrFun (la.1 r (fun h => ?_)) _)
    simp only [List.mem_cons, List.not_mem_nil, or_false] at h hr; omega
theorem LYs_of {Fs F F2 : Nat → Nat → Int32} {f fo W T : Nat} {a : Int} (hf : fo < f) (lb : LYb Fs F f W T a) (same : ∀ r, r ∈ [6, 7, 9, 10, 11, 12, 13] → F2 r = F r) (off : ∀ r, r ∈ [14, 15] → ∀ i, i ≠ 40 * f + W → F2 r i = F r i)
    (h84 : ∀ r, r ∈ [84, 85, 86] → ∀ j, j < T → F2 r j = F r j)
    (ev : (F2 13 (40 * f + W)).toInt ≤ (F2 14 (40 * f + W)).toInt ∧ (F2 14 (40 * f + W)).toInt ≤ (F2 15 (40 * f + W)).toInt) : LYs Fs F2 f fo W T a ∧ (∀ g, g < f → agF Fs F2 g) ∧ (F2 6 f).toInt = (W : Int) + 1 := by
  obtain ⟨b1, b2, b3, b4, b5, b6, b7⟩ := lb
  have hg : ∀ g, g < f → agF Fs F2 g := fun g hg => agF_tr (b3 g hg) ⟨by rw [same 6 (by decide)], fun r hr k hk => by
    have hne : 40 * g + k ≠ 40 * f + W := by omega
    simp only [List.mem_cons, List.not_mem_nil, or_false] at hr
    rcases hr with rfl | rfl | rfl | rfl | rfl | rfl | rfl | rfl <;> first | exact congrFun (same _ (by decide)) _ | exact off _ (by decide) _ hne⟩
  refine ⟨⟨hg fo hf, fun r hr k hk => ?_, ?_, by rw [same 10 (by decide)]; exact b6, by unfold arF; rw [same 9 (by decide)]; exact b7, fun r hr j hj => ?_, ev⟩, hg, by rw [same 6 (by decide)]; exact b2⟩
  · refine Eq.trans ?_ (b5 r hr k hk)
    have hne : 40 * f + k ≠ 40 * f + W := by omega
    simp only [List.mem_cons, List.not_mem_nil, or_false] at hr
    rcases hr with rfl | rfl | rfl | rfl | rfl | rfl <;> first | exact congrFun (same _ (by decide)) _ | exact off _ (by decide) _ hne
  · unfold otL
    rw [same 11 (by decide), same 12 (by decide)]; exact b4
  · refine (h84 r hr j hj).trans (congrFun (b1 r (fun h => ?_)) _)
    simp only [List.mem_cons, List.not_mem_nil, or_false] at h hr; omega
theorem LYs_vs {Fs F : Nat → Nat → Int32} {f fo W T : Nat} {a : Int} (hs : LYs Fs F f fo W T a) : vsF F f 0 (W + 1) = vsF Fs f 0 W + owK F f W := by
  rw [vsF_one, vsF_old (F := Fs) (F2 := F) W 0 (fun r hr k hk => hs.2.1 r (by simp only [List.mem_cons, List.not_mem_nil, or_false] at hr ⊢; omega) k (by omega))]
/-- the loop's invariant; what a step knows of its begin -/
def LYJ (F0 : Nat → Nat → Int32) (n : Nat → Int32) (F : Nat → Nat → Int32) (f fo Wn W T : Nat) : Prop := (F 6 f).toInt = (W : Int) ∧ (n 83).toInt = (T : Int) ∧ LYI F f fo Wn W T ∧ (F 17 f).toInt = (vsF F f 0 W : Int) ∧ rAll F ∧ SHp F fo Wn 0 (-1) ∧ (∀ k, k < Wn → wOK F fo Wn k) ∧ ∀ g, g < f → agF F0 F g
def LYc (F0 Fs : Nat → Nat → Int32) (f fo Wn W T : Nat) (a : Int) (nd up : Int32) : Prop := LYI Fs f fo Wn W (T + 1) ∧ upA Fs f W T a ∧ (Fs 84 T = nd ∧ Fs 85 T = up) ∧ ndA Fs fo Wn nd.toInt a ∧ ((Fs 17 f).toInt = (vsF Fs f 0 W : Int) ∧ vsF Fs f 0 W + vsN Fs fo Wn 0 nd.toInt ≤ 40) ∧ rAll Fs ∧ SHp Fs fo Wn 0 (-1) ∧ (∀ k, k < Wn → wOK Fs fo Wn k) ∧ ∀ g, g < f → agF F0 Fs g
theorem LYJ_leaf {F0 Fs F : Nat → Nat → Int32} {n : Nat → Int32} {f fo Wn W T : Nat} {a : Int} {nd up : Int32} (hf : fo < f) (hWn : Wn ≤ 40) (c : LYc F0 Fs f fo Wn W T a nd up) (b : LYb Fs F f W T a) (h83 : (n 83).toInt = (T : Int)) (hA : rAll F)
    (h7 : 0 ≤ (F 7 (40 * f + W)).toInt ∧ (F 7 (40 * f + W)).toInt ≤ 1) (ev : F 13 (40 * f + W) = F 14 (40 * f + W) ∧ F 14 (40 * f + W) = F 15 (40 * f + W)) : LYJ F0 n F f fo Wn (W + 1) T := by
  obtain ⟨c1, c2, c3, c4, c5, c6, c7, c8, c9⟩ := c
  obtain ⟨ls, hg, h6⟩ := LYs_of hf b (fun _ _ => rfl) (fun _ _ _ _ => rfl) (fun _ _ _ _ => rfl) (by rw [ev.1, ev.2]; omega)
  have eo : owK F f W = 0 := by unfold owK; rw [ev.1, ev.2]; omega
  have b1 := b.1
  refine ⟨by omega, h83, step_leaf hWn c1 c2 ls h7 eo, ?_, hA, SHp_ag (hg fo hf) hWn (fun r hr => b1 r (fun h => ?_)) c7, fun k hk => wOK_ag (hg fo hf) hWn hk (c8 k hk), fun g hq => agF_tr (c9 g hq) (hg g hq)⟩
  · rw [b1 17 (by decide), LYs_vs ls, eo]; have := c5.1; omega
  · simp only [List.mem_cons, List.not_mem_nil, or_false] at h hr; omega
theorem LYJ_deep {F0 Fs F F2 : Nat → Nat → Int32} {n : Nat → Int32} {f fo Wn W T T2 : Nat} {a : Int} {nd up : Int32} (hf : fo < f) (hWn : Wn ≤ 40) (c : LYc F0 Fs f fo Wn W T a nd up) (b : LYb Fs F f W T a)
    (same : ∀ r, r ∈ [6, 7, 9, 10, 11, 12, 13, 76, 78, 79, 80, 82] → F2 r = F r) (off : ∀ r, r ∈ [14, 15] → ∀ i, i ≠ 40 * f + W → F2 r i = F r i) (h84 : ∀ r, r ∈ [84, 85, 86] → ∀ j, j < T → F2 r j = F r j)
    (ev : (F2 13 (40 * f + W)).toInt ≤ (F2 14 (40 * f + W)).toInt ∧ (F2 14 (40 * f + W)).toInt ≤ (F2 15 (40 * f + W)).toInt) (h83 : (n 83).toInt = (T2 : Int)) (hA : rAll F2)
    (h7 : F 7 (40 * f + W) = Fs 76 nd.toInt.toNat) (hk : 2 ≤ (Fs 76 nd.toInt.toNat).toInt)
    (eo : ∀ j : Nat, (Fs 80 nd.toInt.toNat).toInt = 40 * fo + j → (F2 15 (40 * f + W)).toInt - (F2 13 (40 * f + W)).toInt = (Fs 15 (40 * fo + j)).toInt - (Fs 13 (40 * fo + j)).toInt)
    (h17 : (F2 17 f).toInt = (Fs 17 f).toInt + ((F2 15 (40 * f + W)).toInt - (F2 13 (40 * f + W)).toInt)) (ht : tkN Fs F2 f W T T2 nd.toInt.toNat) : LYJ F0 n F2 f fo Wn (W + 1) T2 := by
  obtain ⟨c1, c2, ⟨rfl, c3⟩, c4, c5, c6, c7, c8, c9⟩ := c
  obtain ⟨ls, hg, h6⟩ := LYs_of hf b (fun r hr => same r (by simp only [List.mem_cons, List.not_mem_nil, or_false] at hr ⊢; omega)) off h84 ev
  have b1 := b.1
  refine ⟨by omega, h83, step_deep hWn c8 c7 c4 c1 c2 ls (by rw [same 7 (by decide)]; exact h7) hk (fun j hj => by unfold owK; rw [eo j hj]) ht, ?_, hA, SHp_ag (hg fo hf) hWn (fun r hr => (same r ?_).trans (b1 r (fun h => ?_))) c7, fun k hk => wOK_ag (hg fo hf) hWn hk (c8 k hk), fun g hq => agF_tr (c9 g hq) (hg g hq)⟩
  · rw [h17, LYs_vs ls]; unfold owK; have := c5.1; omega
  · simp only [List.mem_cons, List.not_mem_nil, or_false] at hr ⊢; omega
  · simp only [List.mem_cons, List.not_mem_nil, or_false] at h hr; omega
theorem ly_start {F : Nat → Nat → Int32} {fo Wn : Nat} {v : Int} (hw : ∀ k, k < Wn → wOK F fo Wn k) (hWn : 1 ≤ Wn ∧ Wn ≤ 40) (hv : vsF F fo 0 Wn ≤ 40) (h : rN F fo Wn 0 0 v) : ndA F fo Wn v 0 ∧ szN F fo Wn 0 v ≤ 40 ∧ vsN F fo Wn 0 v ≤ 40 := by
  rcases rN_lt (by omega) h with e | ⟨j, e, hj⟩
  · subst e
    rw [szN_0.1, szN_0.2]; exact ⟨⟨by omega, Or.inl (by omega)⟩, by omega, by omega⟩
  · subst e
    have g := (eN_gt (F := F) (f := fo) hj).2
    have s := vsF_sub (F := F) (f := fo) (i := 0) (n := Wn) (j := j) (m := eN F fo Wn j - j) (by omega) (by omega)
    rw [szN_j (by omega), vsN_j (by omega)]
    exact ⟨⟨by omega, Or.inr ⟨j, by omega, hj, (hw j hj).2.1.1⟩⟩, by omega, by omega⟩