/-- a node under WORD k of FORM f, in the rows from bn on: nobody, or that of a WORD within it -/
def uN (F : Nat → Nat → Int32) (f W bn k : Nat) (v : Int) : Prop := v = bn + 40 ∨ ∃ j : Nat, v = bn + j ∧ k < j ∧ j < eN F f W k
def rN (F : Nat → Nat → Int32) (f W bn k : Nat) (v : Int) : Prop := v = bn + 40 ∨ ∃ j : Nat, v = bn + j ∧ k ≤ j ∧ j < eN F f W k
def szN (F : Nat → Nat → Int32) (f W bn : Nat) (v : Int) : Nat := if v = bn + 40 then 1 else eN F f W (v - bn).toNat - (v - bn).toNat
def vsN (F : Nat → Nat → Int32) (f W bn : Nat) (v : Int) : Nat := if v = bn + 40 then 0 else vsF F f (v - bn).toNat (eN F f W (v - bn).toNat - (v - bn).toNat)
def owK (F : Nat → Nat → Int32) (f k : Nat) : Nat := ((F 15 (40 * f + k)).toInt - (F 13 (40 * f + k)).toInt).toNat
theorem szN_j {F : Nat → Nat → Int32} {f W bn j : Nat} (h : j < 40) : szN F f W bn ((bn : Int) + j) = eN F f W j - j := by
  unfold szN; rw [if_neg (by omega), show (((bn : Int) + j) - bn).toNat = j by omega]
theorem vsN_j {F : Nat → Nat → Int32} {f W bn j : Nat} (h : j < 40) : vsN F f W bn ((bn : Int) + j) = vsF F f j (eN F f W j - j) := by
  unfold vsN; rw [if_neg (by omega), show (((bn : Int) + j) - bn).toNat = j by omega]
theorem szN_0 {F : Nat → Nat → Int32} {f W bn : Nat} : szN F f W bn ((bn : Int) + 40) = 1 ∧ vsN F f W bn ((bn : Int) + 40) = 0 := by
  unfold szN vsN; rw [if_pos rfl, if_pos rfl]; exact ⟨rfl, rfl⟩
/-- what a DEED has become -/
theorem rN_child {F : Nat → Nat → Int32} {f W bn k t : Nat} {v : Int} (hW : W ≤ 40) (hk : k < W) (h1 : k < t) (h2 : t < eN F f W k) (h : rN F f W bn t v) : uN F f W bn k v ∧ szN F f W bn v ≤ eN F f W t - t ∧ vsN F f W bn v ≤ vsF F f t (eN F f W t - t) := by
  have z4 := eN_gt (F := F) (f := f) hk
  have z5 := eN_lam (F := F) (f := f) hk (Nat.le_of_lt h1) h2
  have z6 := eN_gt (F := F) (f := f) (k := t) (W := W) (by omega)
  rcases h with rfl | ⟨j, rfl, h3, h4⟩
  · rw [szN_0.1, szN_0.2]; exact ⟨Or.inl rfl, by omega, by omega⟩
  · have z7 := eN_lam (F := F) (f := f) (k := t) (j := j) (W := W) (by omega) h3 h4
    have z8 := eN_gt (F := F) (f := f) (k := j) (W := W) (by omega)
    rw [szN_j (by omega), vsN_j (by omega)]
    exact ⟨Or.inr ⟨j, rfl, by omega, by omega⟩, by omega, vsF_sub h3 (by omega)⟩
theorem uN_r {F : Nat → Nat → Int32} {f W bn k : Nat} {v : Int} (h : uN F f W bn k v) : rN F f W bn k v := by
  rcases h with h | ⟨j, h1, h2, h3⟩
  · exact Or.inl h
  · exact Or.inr ⟨j, h1, by omega, h3⟩
theorem uN_in {F : Nat → Nat → Int32} {f W bn k j : Nat} {v : Int} (hk : k < W) (h1 : k < j) (h2 : j < eN F f W k) (h : uN F f W bn j v) : uN F f W bn k v := by
  have z5 := eN_lam (F := F) (f := f) hk (Nat.le_of_lt h1) h2
  rcases h with h | ⟨i, e1, e2, e3⟩
  · exact Or.inl h
  · exact Or.inr ⟨i, e1, by omega, by omega⟩
/-- a node that stands for WORD k -/
def nOK (F : Nat → Nat → Int32) (f W bn k : Nat) : Prop := (F 80 (bn + k)).toInt = 40 * f + k ∧ F 76 (bn + k) = F 7 (40 * f + k) ∧ uN F f W bn k (F 78 (bn + k)).toInt
  ∧ (2 ≤ (F 7 (40 * f + k)).toInt → szN F f W bn (F 78 (bn + k)).toInt + 1 ≤ eN F f W k - k ∧ vsN F f W bn (F 78 (bn + k)).toInt + owK F f k ≤ vsF F f k (eN F f W k - k))
  ∧ (3 ≤ (F 7 (40 * f + k)).toInt ∧ (F 7 (40 * f + k)).toInt ≤ 5 → uN F f W bn k (F 79 (bn + k)).toInt ∧ szN F f W bn (F 78 (bn + k)).toInt + szN F f W bn (F 79 (bn + k)).toInt + 1 ≤ eN F f W k - k ∧ vsN F f W bn (F 78 (bn + k)).toInt + vsN F f W bn (F 79 (bn + k)).toInt + owK F f k ≤ vsF F f k (eN F f W k - k))
def SHp (F : Nat → Nat → Int32) (f W bn : Nat) (kk : Int) : Prop := (F 76 (bn + 40)).toInt = 0 ∧ ∀ j : Nat, kk < (j : Int) → j < W → nOK F f W bn j ∧ rN F f W bn j (F 82 (bn + j)).toInt
def shK : List Nat := [7, 9, 13, 15, 76, 78, 79, 80, 82]
theorem uN_cg {F F2 : Nat → Nat → Int32} (h : F2 9 = F 9) {f W bn k : Nat} {v : Int} (q : uN F f W bn k v) : uN F2 f W bn k v := by unfold uN at *; rw [eN_cg h]; exact q
theorem rN_cg {F F2 : Nat → Nat → Int32} (h : F2 9 = F 9) {f W bn k : Nat} {v : Int} (q : rN F f W bn k v) : rN F2 f W bn k v := by unfold rN at *; rw [eN_cg h]; exact q
theorem szN_cg {F F2 : Nat → Nat → Int32} (h : F2 9 = F 9) {f W bn : Nat} {v : Int} : szN F2 f W bn v = szN F f W bn v := by unfold szN; rw [eN_cg h]
theorem vsN_cg {F F2 : Nat → Nat → Int32} (h : F2 9 = F 9) (h1 : F2 13 = F 13) (h2 : F2 15 = F 15) {f W bn : Nat} {v : Int} : vsN F2 f W bn v = vsN F f W bn v := by unfold vsN; rw [eN_cg h, vsF_cg h1 h2]
/-- the same WORDS' rows, and the node's own entries -/
theorem nOK_cg {F F2 : Nat → Nat → Int32} {f W bn k : Nat} (h7 : F2 7 = F 7) (h9 : F2 9 = F 9) (h13 : F2 13 = F 13) (h15 : F2 15 = F 15) (h76 : F2 76 (bn + k) = F 76 (bn + k)) (h78 : F2 78 (bn + k) = F 78 (bn + k)) (h79 : F2 79 (bn + k) = F 79 (bn + k)) (h80 : F2 80 (bn + k) = F 80 (bn + k)) (q : nOK F f W bn k) : nOK F2 f W bn k := by
  unfold nOK owK at *
  rw [h76, h78, h79, h80, h7, h13, h15, eN_cg h9, vsF_cg h13 h15, szN_cg h9, szN_cg h9, vsN_cg h9 h13 h15, vsN_cg h9 h13 h15]
  exact ⟨q.1, q.2.1, uN_cg h9 q.2.2.1, q.2.2.2.1, fun z => ⟨uN_cg h9 (q.2.2.2.2 z).1, (q.2.2.2.2 z).2⟩⟩
theorem SHp_cg {F F2 : Nat → Nat → Int32} (h : ∀ k, k ∈ shK → F2 k = F k) {f W bn : Nat} {kk : Int} (q : SHp F f W bn kk) : SHp F2 f W bn kk := by
  refine ⟨by rw [h 76 (by decide)]; exact q.1, fun j h1 h2 => ?_⟩
  obtain ⟨a, b⟩ := q.2 j h1 h2
  refine ⟨nOK_cg (h 7 (by decide)) (h 9 (by decide)) (h 13 (by decide)) (h 15 (by decide)) (by rw [h 76 (by decide)]) (by rw [h 78 (by decide)]) (by rw [h 79 (by decide)]) (by rw [h 80 (by decide)]) a, ?_⟩
  rw [h 82 (by decide)]; exact rN_cg (h 9 (by decide)) b
/-- one node more -/
theorem SHp_new {F F2 : Nat → Nat → Int32} {f W bn k : Nat} (h7 : F2 7 = F 7) (h9 : F2 9 = F 9) (h13 : F2 13 = F 13) (h15 : F2 15 = F 15) (ho : ∀ r, r ∈ [76, 78, 79, 80, 82] → ∀ i, i ≠ bn + k → F2 r i = F r i) (hk : k < 40) (q : SHp F f W bn k) (hn : k < W → nOK F2 f W bn k ∧ rN F2 f W bn k (F2 82 (bn + k)).toInt) : SHp F2 f W bn ((k : Int) - 1) := by
  refine ⟨by rw [ho 76 (by decide) _ (by omega)]; exact q.1, fun j h1 h2 => ?_⟩
  by_cases e : j = k
  · subst e; exact hn h2
  · obtain ⟨a, b⟩ := q.2 j (by omega) h2
    refine ⟨nOK_cg h7 h9 h13 h15 (ho 76 (by decide) _ (by omega)) (ho 78 (by decide) _ (by omega)) (ho 79 (by decide) _ (by omega)) (ho 80 (by decide) _ (by omega)) a, ?_⟩
    rw [ho 82 (by decide) _ (by omega)]; exact rN_cg h9 b
/-- a node of a WORD without DEEDS, with one, with two -/
theorem own_le {F : Nat → Nat → Int32} {f W k : Nat} (hk : k < W) : owK F f k + vsF F f (k + 1) (eN F f W k - k - 1) = vsF F f k (eN F f W k - k) := by
  have z := eN_gt (F := F) (f := f) hk
  rw [show eN F f W k - k = (eN F f W k - k - 1) + 1 by omega]
  show _ + _ = _ + vsF F f (k + 1) (eN F f W k - k - 1)
  rfl
theorem two_sz {F : Nat → Nat → Int32} {f W k t u : Nat} (hk : k < W) (h1 : k < t) (h2 : t < eN F f W k) (h3 : eN F f W t ≤ u) (h4 : u < eN F f W k) : (eN F f W t - t) + (eN F f W u - u) + 1 ≤ eN F f W k - k ∧ vsF F f t (eN F f W t - t) + vsF F f u (eN F f W u - u) + owK F f k ≤ vsF F f k (eN F f W k - k) := by
  have z4 := eN_gt (F := F) (f := f) hk
  have z6 := eN_gt (F := F) (f := f) (k := t) (W := W) (by omega)
  have z7 := eN_gt (F := F) (f := f) (k := u) (W := W) (by omega)
  have z5 := eN_lam (F := F) (f := f) (j := u) hk (by omega) h4
  have e0 := vsF_add (F := F) (f := f) (eN F f W t - t) t (u - eN F f W t + (eN F f W u - u))
  have e2 := vsF_sub (F := F) (f := f) (i := t + (eN F f W t - t)) (n := u - eN F f W t + (eN F f W u - u)) (j := u) (m := eN F f W u - u) (by omega) (by omega)
  have e := vsF_sub (F := F) (f := f) (i := k + 1) (n := eN F f W k - k - 1) (j := t) (m := eN F f W t - t + (u - eN F f W t + (eN F f W u - u))) (by omega) (by omega)
  have e3 := own_le (F := F) (f := f) hk
  exact ⟨by omega, by omega⟩
theorem one_sz {F : Nat → Nat → Int32} {f W k t : Nat} (hk : k < W) (h1 : k < t) (h2 : t < eN F f W k) : (eN F f W t - t) + 1 ≤ eN F f W k - k ∧ vsF F f t (eN F f W t - t) + owK F f k ≤ vsF F f k (eN F f W k - k) := by
  have z4 := eN_gt (F := F) (f := f) hk
  have z5 := eN_lam (F := F) (f := f) (j := t) hk (by omega) h2
  have z6 := eN_gt (F := F) (f := f) (k := t) (W := W) (by omega)
  have e := vsF_sub (F := F) (f := f) (i := k + 1) (n := eN F f W k - k - 1) (j := t) (m := eN F f W t - t) (by omega) (by omega)
  have e3 := own_le (F := F) (f := f) hk
  exact ⟨by omega, by omega⟩
/-- the new node: v its first, y its second, r what it becomes -/
theorem node_mk {F F2 : Nat → Nat → Int32} {f W bn k : Nat} {v y r : Int32} (hW : W ≤ 40) (hk : k < W) (hS : SHp F f W bn k) (h7 : F2 7 = F 7) (h9 : F2 9 = F 9) (h13 : F2 13 = F 13) (h15 : F2 15 = F 15)
    (e80 : (F2 80 (bn + k)).toInt = 40 * f + k) (e76 : F2 76 (bn + k) = F 7 (40 * f + k)) (e78 : F2 78 (bn + k) = v) (e79 : F2 79 (bn + k) = y) (e82 : F2 82 (bn + k) = r)
    (hv : uN F f W bn k v.toInt) (h2 : 2 ≤ (F 7 (40 * f + k)).toInt → szN F f W bn v.toInt + 1 ≤ eN F f W k - k ∧ vsN F f W bn v.toInt + owK F f k ≤ vsF F f k (eN F f W k - k))
    (h3 : 3 ≤ (F 7 (40 * f + k)).toInt ∧ (F 7 (40 * f + k)).toInt ≤ 5 → uN F f W bn k y.toInt ∧ szN F f W bn v.toInt + szN F f W bn y.toInt + 1 ≤ eN F f W k - k ∧ vsN F f W bn v.toInt + vsN F f W bn y.toInt + owK F f k ≤ vsF F f k (eN F f W k - k))
    (hr : r.toInt = bn + 40 ∨ r.toInt = bn + k ∨ r = v ∨ (r = y ∧ (F 7 (40 * f + k)).toInt = 3) ∨ (r = F 78 v.toInt.toNat ∧ (F 76 v.toInt.toNat).toInt = 2)) : nOK F2 f W bn k ∧ rN F2 f W bn k (F2 82 (bn + k)).toInt := by
  have z4 := eN_gt (F := F) (f := f) hk
  constructor
  · unfold nOK owK
    rw [e76, e78, e79, h7, h13, h15, eN_cg h9, vsF_cg h13 h15, szN_cg h9, szN_cg h9, vsN_cg h9 h13 h15, vsN_cg h9 h13 h15]
    exact ⟨e80, rfl, uN_cg h9 hv, h2, fun z => ⟨uN_cg h9 (h3 z).1, (h3 z).2⟩⟩
  · rw [e82]
    refine rN_cg h9 ?_
    rcases hr with hr | hr | hr | ⟨hr, hq⟩ | ⟨hr, hq⟩
    · exact Or.inl hr
    · exact Or.inr ⟨k, hr, Nat.le_refl _, z4.1⟩
    · rw [hr]; exact uN_r hv
    · rw [hr]; exact uN_r (h3 (by omega)).1
    · rcases hv with e | ⟨j, e1, e2, e3⟩
      · rw [e, show ((bn : Int) + 40).toNat = bn + 40 by omega, hS.1] at hq; omega
      · rw [hr, e1, show ((bn : Int) + j).toNat = bn + j by omega]
        exact uN_r (uN_in hk e2 e3 (hS.2 j (by omega) (by omega)).1.2.2.1)
/-- a cap around a cap: the inner one's first instead -/
theorem cap_in {F : Nat → Nat → Int32} {f W bn k : Nat} {v : Int32} (hW : W ≤ 40) (hk : k < W) (hS : SHp F f W bn k) (hv : uN F f W bn k v.toInt) (h2 : szN F f W bn v.toInt + 1 ≤ eN F f W k - k ∧ vsN F f W bn v.toInt + owK F f k ≤ vsF F f k (eN F f W k - k)) (hc : (F 76 v.toInt.toNat).toInt = 10) : uN F f W bn k (F 78 v.toInt.toNat).toInt ∧ szN F f W bn (F 78 v.toInt.toNat).toInt + 1 ≤ eN F f W k - k ∧ vsN F f W bn (F 78 v.toInt.toNat).toInt + owK F f k ≤ vsF F f k (eN F f W k - k) := by
  have z4 := eN_gt (F := F) (f := f) hk
  rcases hv with e | ⟨j, e1, e2, e3⟩
  · rw [e, show ((bn : Int) + 40).toNat = bn + 40 by omega, hS.1] at hc; omega
  · rw [e1] at h2
    rw [e1, show ((bn : Int) + j).toNat = bn + j by omega] at hc ⊢
    rw [szN_j (by omega), vsN_j (by omega)] at h2
    obtain ⟨n1, n2, n3, n4, n5⟩ := (hS.2 j (by omega) (by omega)).1
    have n6 := n4 (by rw [← n2, hc]; decide)
    exact ⟨uN_in hk e2 e3 n3, by omega, by omega⟩
