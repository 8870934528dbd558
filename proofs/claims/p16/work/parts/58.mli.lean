/-- what stands: a WORD of a FORM, an or, a when or an anytime -/
def vS (F : Nat → Nat → Int32) (c : Int) (w : Int32) : Prop := vW F c w.toInt ∧ ((F 7 w.toInt.toNat).toInt = 4 ∨ (F 7 w.toInt.toNat).toInt = 6 ∨ (F 7 w.toInt.toNat).toInt = 7)
theorem rL_S {F : Nat → Nat → Int32} {c lv : Int} (h : rL F c lv) {l k : Nat} (hl : l < 40) (hk : (k : Int) < (F 35 l).toInt) : vS F c (F 36 (40 * l + k)) := (h l hl).2.2.2.2 k hk
theorem vS_cg {F F2 : Nat → Nat → Int32} (h6 : F2 6 = F 6) (h7 : F2 7 = F 7) {c : Int} {w : Int32} (h : vS F c w) : vS F2 c w := ⟨vW_cg h6 h.1, by rw [h7]; exact h.2⟩
theorem updE {g : Nat → Int32} {i j : Nat} {x : Int32} : upd g i x j = if j = i then x else g j := by
  by_cases h : j = i
  · subst h; rw [if_pos rfl]; simp [upd]
  · rw [if_neg h]; simp [upd, h]
/-- a good WORD put anywhere -/
theorem rL_put {F F2 : Nat → Nat → Int32} {c lv : Int} {i : Nat} {w : Int32} (h : rL F c lv) (hF : ∀ k, k ∈ [6, 7, 32, 33, 35] → F2 k = F k) (h36 : F2 36 = upd (F 36) i w) (hw : vS F c w) : rL F2 c lv := by
  intro l hl
  obtain ⟨a1, a2, a3, a4, a5⟩ := h l hl
  rw [hF 35 (by decide), hF 32 (by decide), hF 33 (by decide)]
  refine ⟨a1, a2, a3, a4, fun k hk => ?_⟩
  have key : vS F c (F2 36 (40 * l + k)) := by
    rw [h36, updE]
    by_cases e : 40 * l + k = i
    · rw [if_pos e]; exact hw
    · rw [if_neg e]; exact a5 k hk
  exact vS_cg (hF 6 (by decide)) (hF 7 (by decide)) key
/-- another number of what stands -/
theorem rL_cnt {F F2 : Nat → Nat → Int32} {c lv : Int} {l0 : Nat} {s : Int32} (h : rL F c lv) (hF : ∀ k, k ∈ [6, 7, 32, 33, 36] → F2 k = F k) (h35 : F2 35 = upd (F 35) l0 s) (hs : 0 ≤ s.toInt ∧ s.toInt ≤ 40) (hl0 : (l0 : Int) < lv) (hv : ∀ k : Nat, (k : Int) < s.toInt → vS F c (F 36 (40 * l0 + k))) : rL F2 c lv := by
  intro l hl
  obtain ⟨a1, a2, a3, a4, a5⟩ := h l hl
  rw [h35, updE, hF 32 (by decide), hF 33 (by decide), hF 36 (by decide)]
  by_cases e : l = l0
  · subst e
    rw [if_pos rfl]
    exact ⟨hs, fun q => by omega, a3, a4, fun k hk => vS_cg (hF 6 (by decide)) (hF 7 (by decide)) (hv k hk)⟩
  · rw [if_neg e]
    exact ⟨a1, a2, a3, a4, fun k hk => vS_cg (hF 6 (by decide)) (hF 7 (by decide)) (a5 k hk)⟩
theorem rL_cg2 {F F2 : Nat → Nat → Int32} (h : ∀ k, k ∈ [6, 7, 32, 33, 35, 36] → F2 k = F k) {c lv : Int} (q : rL F c lv) : rL F2 c lv := by
  intro l hl
  rw [h 35 (by decide), h 32 (by decide), h 33 (by decide), h 36 (by decide), h 7 (by decide)]
  obtain ⟨a1, a2, a3, a4, a5⟩ := q l hl
  exact ⟨a1, a2, a3, a4, fun k hk => ⟨vW_cg (h 6 (by decide)) (a5 k hk).1, (a5 k hk).2⟩⟩
/-- rows of the WORDS -/
def wK : List Nat := [6, 7, 9, 10, 11, 12, 13, 14, 15, 19]
theorem wOK_w {F F2 : Nat → Nat → Int32} (h : ∀ k, k ∈ wK → F2 k = F k) {f W k : Nat} (q : wOK F f W k) : wOK F2 f W k := by
  unfold wOK at *
  simp only [arF_cg (h 9 (by decide)), eN_cg (h 9 (by decide)), h 7 (by decide), h 10 (by decide), h 11 (by decide), h 12 (by decide), h 13 (by decide), h 14 (by decide), h 15 (by decide)]
  exact q
theorem rW_w {F F2 : Nat → Nat → Int32} (h : ∀ k, k ∈ wK → F2 k = F k) {c : Int} (q : rW F c) : rW F2 c := by
  intro f hf
  obtain ⟨h1, h2, h3⟩ := q f hf
  refine ⟨by rw [h 6 (by decide)]; exact h1, fun k hk => ?_, ?_⟩
  · rw [h 6 (by decide)] at hk ⊢
    exact wOK_w h (h2 k hk)
  · rw [h 6 (by decide), vsF_cg (h 13 (by decide)) (h 15 (by decide))]; exact h3
theorem rAll_w {F F2 : Nat → Nat → Int32} (h : ∀ k, k ∈ wK → F2 k = F k) (q : rAll F) : rAll F2 := by
  intro w hw
  rw [h 13 (by decide), h 14 (by decide), h 15 (by decide), h 19 (by decide)]; exact q w hw
theorem szF_w {F F2 : Nat → Nat → Int32} (h : ∀ k, k ∈ wK → F2 k = F k) {w : Int} : szF F2 w = szF F w := by
  unfold szF; rw [eN_cg (h 9 (by decide)), h 6 (by decide)]
theorem RI_w {n n2 : Nat → Int32} {F F2 : Nat → Nat → Int32} (q : RI n F) (hw : ∀ k, k ∈ wK → F2 k = F k) (h5 : n2 5 = n 5) (h0 : 0 ≤ (n2 0).toInt ∧ (n2 0).toInt ≤ 399) (h4 : 0 ≤ (n2 4).toInt ∧ (n2 4).toInt ≤ 400) (h30 : 0 ≤ (n2 30).toInt ∧ (n2 30).toInt ≤ 40) (hL : rL F2 (n2 5).toInt (n2 30).toInt) (h38 : 0 ≤ (n2 38).toInt ∧ (n2 38).toInt ≤ 2000) (hP : rPy F2 (n2 38).toInt (n2 30).toInt) (h53 : 1 ≤ (n2 53).toInt ∧ (n2 53).toInt ≤ 3) (h47 : 0 ≤ (n2 47).toInt ∧ (n2 47).toInt ≤ 8) (h88 : 0 ≤ (n2 88).toInt ∧ (n2 88).toInt ≤ 1000) : RI n2 F2 := by
  obtain ⟨a0, a4, a5, b1, b2, a30, b3, a38, b4, a53, a47, a88⟩ := q
  exact ⟨h0, h4, by rw [h5]; exact a5, rAll_w hw b1, by rw [h5]; exact rW_w hw b2, h30, hL, h38, hP, h53, h47, h88⟩
/-- all but what the LIVES and PAYMENTS are -/
theorem RI_l {n n2 : Nat → Int32} {F F2 : Nat → Nat → Int32} (q : RI n F) (hw : ∀ k, k ∈ wK → F2 k = F k) (hn : ∀ k, k ∈ [0, 4, 5, 30, 47, 53, 88] → n2 k = n k) (hL : rL F2 (n 5).toInt (n 30).toInt) (h38 : 0 ≤ (n2 38).toInt ∧ (n2 38).toInt ≤ 2000) (hP : rPy F2 (n2 38).toInt (n 30).toInt) : RI n2 F2 := by
  obtain ⟨a0, a4, a5, b1, b2, a30, b3, a38, b4, a53, a47, a88⟩ := id q
  refine RI_w q hw (hn 5 (by decide)) (by rw [hn 0 (by decide)]; exact a0) (by rw [hn 4 (by decide)]; exact a4) (by rw [hn 30 (by decide)]; exact a30) (by rw [hn 5 (by decide), hn 30 (by decide)]; exact hL) h38 (by rw [hn 30 (by decide)]; exact hP) (by rw [hn 53 (by decide)]; exact a53) (by rw [hn 47 (by decide)]; exact a47) (by rw [hn 88 (by decide)]; exact a88)
theorem rPy_put {F F2 : Nat → Nat → Int32} {py lv : Int} {i : Nat} {x : Int32} (h : rPy F py lv) (hi : (i : Int) = py) (h39 : F2 39 = upd (F 39) i x) (hx : 0 ≤ x.toInt ∧ x.toInt < lv) : rPy F2 (py + 1) lv := by
  intro k hk
  rw [h39, updE]
  by_cases e : k = i
  · rw [if_pos e]; exact hx
  · rw [if_neg e]; exact h k (by omega)
theorem rPy_cg2 {F F2 : Nat → Nat → Int32} {py lv : Int} (h : rPy F py lv) (h39 : F2 39 = F 39) : rPy F2 py lv := fun k hk => by rw [h39]; exact h k hk
/-- a stack of WORDS: each is one, and how many they have together -/
def smF (F : Nat → Nat → Int32) (g : Nat → Int32) : Nat → Nat
  | 0 => 0
  | i + 1 => szF F (g i).toInt + smF F g i
def stk (F : Nat → Nat → Int32) (c : Int) (g : Nat → Int32) (t s : Nat) : Prop := (∀ i, i < t → vW F c (g i).toInt) ∧ smF F g t = s
theorem smF_cg {F : Nat → Nat → Int32} {g g2 : Nat → Int32} : ∀ t, (∀ i, i < t → g2 i = g i) → smF F g2 t = smF F g t := by
  intro t
  induction t with
  | zero => intro _; rfl
  | succ t ih => intro h; unfold smF; rw [h t (by omega), ih (fun i hi => h i (by omega))]
theorem stk_0 {F : Nat → Nat → Int32} {c : Int} {g : Nat → Int32} : stk F c g 0 0 := ⟨fun i hi => by omega, rfl⟩
theorem stk_pop {F : Nat → Nat → Int32} {c : Int} {g : Nat → Int32} {t s : Nat} (h : stk F c g (t + 1) s) : vW F c (g t).toInt ∧ ∃ s2, stk F c g t s2 ∧ s2 + szF F (g t).toInt = s := by
  refine ⟨h.1 t (by omega), smF F g t, ⟨fun i hi => h.1 i (by omega), rfl⟩, ?_⟩
  have := h.2
  unfold smF at this
  omega
theorem stk_push {F : Nat → Nat → Int32} {c : Int} {g : Nat → Int32} {t s : Nat} {x : Int32} (h : stk F c g t s) (hx : vW F c x.toInt) : stk F c (upd g t x) (t + 1) (s + szF F x.toInt) := by
  have e : ∀ i, i < t → upd g t x i = g i := fun i hi => by rw [updE, if_neg (by omega)]
  refine ⟨fun i hi => ?_, ?_⟩
  · by_cases q : i = t
    · rw [updE, if_pos q]; exact hx
    · rw [e i (by omega)]; exact h.1 i (by omega)
  · unfold smF
    rw [smF_cg t e, h.2, updE, if_pos rfl]; omega
theorem stk_len {F : Nat → Nat → Int32} {c : Int} {g : Nat → Int32} (hW : rW F c) : ∀ {t s : Nat}, stk F c g t s → t ≤ s := by
  intro t
  induction t with
  | zero => intro s h; omega
  | succ t ih =>
    intro s h
    obtain ⟨h1, s2, h2, h3⟩ := stk_pop h
    have := ih h2
    have := szF_pos hW h1
    omega
theorem stk_w {F F2 : Nat → Nat → Int32} (h : ∀ k, k ∈ wK → F2 k = F k) {c : Int} {g : Nat → Int32} : ∀ {t s : Nat}, stk F c g t s → stk F2 c g t s := by
  intro t s q
  refine ⟨fun i hi => vW_cg (h 6 (by decide)) (q.1 i hi), ?_⟩
  have key : ∀ t, smF F2 g t = smF F g t := by
    intro t
    induction t with
    | zero => rfl
    | succ t ih => unfold smF; rw [ih, szF_w h]
  rw [key]; exact q.2
