/-! one FORM more -/
theorem lay_fin {F : Nat → Nat → Int32} {f fo Wn W : Nat} (hW : 1 ≤ W) (e6 : (F 6 f).toInt = W) (q : LYp F f fo Wn W 0) : fOK F f := by
  obtain ⟨q1, q2, q3, q4⟩ := q
  have et : (F 6 f).toInt.toNat = W := by omega
  have r3 : W + 0 ≤ 40 := q3
  have r4 : vsF F f 0 W + 0 ≤ 40 := q4
  refine ⟨by omega, fun k hk => ?_, ?_⟩
  · rw [et] at hk ⊢; exact lay_done q1 k hk
  · rw [et]; omega
theorem RI_lay {n n2 : Nat → Int32} {F F2 : Nat → Nat → Int32} {c : Nat} (hR : RI n F) (hc : (n 5).toInt = c) (h20 : c < 20) (hag : ∀ f : Nat, f < c → agF F F2 f) (hA : rAll F2) (hfin : fOK F2 c) (h5 : (n2 5).toInt = (c : Int) + 1) (hn : ∀ k, k ∈ [0, 4, 30, 38, 47, 53, 88] → n2 k = n k) (hF : ∀ k, k ∈ [32, 33, 35, 36, 39] → F2 k = F k) : RI n2 F2 := by
  obtain ⟨a0, a4, a5, b1, b2, a30, b3, a38, b4, a53, a47, a88⟩ := hR
  have ag : ∀ f : Nat, (f : Int) < (n 5).toInt → agF F F2 f := fun f hf => hag f (by omega)
  have w1 : rW F2 c := by have z := rW_ag ag b2; rw [hc] at z; exact z
  refine ⟨by rw [hn 0 (by decide)]; exact a0, by rw [hn 4 (by decide)]; exact a4, by omega, hA, by rw [h5]; exact rW_one w1 hfin, by rw [hn 30 (by decide)]; exact a30, ?_, by rw [hn 38 (by decide)]; exact a38, ?_, by rw [hn 53 (by decide)]; exact a53, by rw [hn 47 (by decide)]; exact a47, by rw [hn 88 (by decide)]; exact a88⟩
  · rw [hn 30 (by decide)]
    exact rL_ag (by omega) b2 ag (hF 32 (by decide)) (hF 33 (by decide)) (hF 35 (by decide)) (hF 36 (by decide)) b3
  · rw [hn 38 (by decide), hn 30 (by decide)]
    intro k hk
    rw [hF 39 (by decide)]; exact b4 k hk