/-! a VALUE of the class as a whole -/
theorem add_v {h : Nat → Int32} {v jo x : Int32} {V : Nat} (hv : v.toInt = V) (h4 : V ≤ 40) : (V < 40 → (addF 80 h v jo x).1 = 1 ∧ (addF 80 h v jo x).2.2.toInt = (V : Int) + 1) ∧ (V = 40 → (addF 80 h v jo x).1 = 0) := by
  have e0 : (0 : Int32).toInt = 0 := rfl
  have e8 : (Int32.ofNat 80).toInt = 80 := rfl
  have q1 := T_mul hv (show (2 : Int32).toInt = 2 from rfl) (by omega)
  have q2 := T_add q1 (show (1 : Int32).toInt = 1 from rfl) (by omega)
  have q3 := T_add hv (show (1 : Int32).toInt = 1 from rfl) (by omega)
  unfold addF
  rw [if_neg (by rw [fl_lt, e0]; omega)]
  refine ⟨fun c => ?_, fun c => ?_⟩
  · rw [if_pos (by rw [fl_lt, e8]; omega)]
    exact ⟨rfl, q3⟩
  · rw [if_neg (by rw [fl_lt, e8]; omega)]
def rvT (s q fa : Int32) (a : Int32 × (Nat → Int32) × Int32) : Int32 × Int32 × Int32 × Int32 × (Nat → Int32) := (if a.1 = 0 then (lett (faiF fa s 4) fun x4 => (if x4.2 = 0 then (1, q, x4.2, a.2.2, (a.2.1)) else (0, q, x4.2, a.2.2, (a.2.1)))) else (if fa = 0 then (1, q, fa, a.2.2, (a.2.1)) else (0, q, fa, a.2.2, (a.2.1))))
/-- r the answer, q the place, fa the FAULT, v how many VALUES -/
def exV (t : Sum Nat (Nat × Nat)) (r q fa v : Int32) : Prop := match t with
  | .inl c => r = 0 ∧ fa.toInt = c
  | .inr (p, V) => r = 1 ∧ q.toInt = p ∧ fa = 0 ∧ v.toInt = V
theorem rvT_0 {h : Nat → Int32} {s q v jo x : Int32} {S Q V : Nat} (hs : s.toInt = S) (h8 : S ≤ 400) (hq : q.toInt = Q) (hv : v.toInt = V) (h4 : V ≤ 40) : exV (if V = 40 then .inl (1 + 8 * S + 4) else .inr (Q, V + 1)) (rvT s q 0 (addF 80 h v jo x)).1 (rvT s q 0 (addF 80 h v jo x)).2.1 (rvT s q 0 (addF 80 h v jo x)).2.2.1 (rvT s q 0 (addF 80 h v jo x)).2.2.2.1 := by
  obtain ⟨a1, a2⟩ := add_v (h := h) (jo := jo) (x := x) hv h4
  have f4 := fai_0 (k := 4) (c := 4) hs (by omega) rfl (by omega)
  unfold rvT
  by_cases c : V = 40
  · rw [if_pos c, if_pos (a2 c)]
    have hne : ¬ (faiF 0 s 4).2 = 0 := fun e => by rw [e] at f4; have e0 : (0 : Int32).toInt = 0 := rfl; omega
    show exV _ (if (faiF 0 s 4).2 = 0 then _ else _ : Int32 × Int32 × Int32 × Int32 × (Nat → Int32)).1 (if (faiF 0 s 4).2 = 0 then _ else _ : Int32 × Int32 × Int32 × Int32 × (Nat → Int32)).2.1 (if (faiF 0 s 4).2 = 0 then _ else _ : Int32 × Int32 × Int32 × Int32 × (Nat → Int32)).2.2.1 (if (faiF 0 s 4).2 = 0 then _ else _ : Int32 × Int32 × Int32 × Int32 × (Nat → Int32)).2.2.2.1
    rw [if_neg hne]
    exact ⟨rfl, by show (faiF 0 s 4).2.toInt = _; omega⟩
  · obtain ⟨b1, b2⟩ := a1 (by omega)
    rw [if_neg c, if_neg (by rw [b1]; decide), if_pos rfl]
    exact ⟨rfl, hq, rfl, by show (addF 80 h v jo x).2.2.toInt = _; omega⟩
theorem rvT_f {h : Nat → Int32} {s q fa v jo x : Int32} {S c V : Nat} (hs : s.toInt = S) (h8 : S ≤ 400) (hf : fa.toInt = c) (hc : 1 ≤ c) (hv : v.toInt = V) (h4 : V ≤ 40) : (rvT s q fa (addF 80 h v jo x)).1 = 0 ∧ (rvT s q fa (addF 80 h v jo x)).2.2.1.toInt = (if V = 40 ∧ 1 + 8 * S + 4 < c then ((1 + 8 * S + 4 : Nat) : Int) else (c : Int)) := by
  obtain ⟨a1, a2⟩ := add_v (h := h) (jo := jo) (x := x) hv h4
  have e0 : (0 : Int32).toInt = 0 := rfl
  have hf0 : ¬ fa = 0 := fun e => by rw [e] at hf; omega
  have q1 := T_mul (show (8 : Int32).toInt = 8 from rfl) hs (by omega)
  have q2 := T_add (show (1 : Int32).toInt = 1 from rfl) q1 (by omega)
  have q3 := T_add q2 (show (4 : Int32).toInt = 4 from rfl) (by omega)
  unfold rvT
  by_cases cV : V = 40
  · rw [if_pos (a2 cV)]
    have ef : (faiF fa s 4).2 = if ((1 + (8 * s)) + 4) < fa then ((1 + (8 * s)) + 4) else fa := by unfold faiF; rw [if_neg hf0]
    have hv2 : (faiF fa s 4).2.toInt = (if V = 40 ∧ 1 + 8 * S + 4 < c then ((1 + 8 * S + 4 : Nat) : Int) else (c : Int)) := by
      rw [ef]
      by_cases c5 : ((1 + (8 * s)) + 4) < fa
      · rw [if_pos c5]
        rw [fl_lt, q3, hf] at c5
        rw [if_pos (by omega), q3]; omega
      · rw [if_neg c5]
        rw [fl_lt, q3, hf] at c5
        rw [if_neg (by omega)]; exact hf
    have hne : ¬ (faiF fa s 4).2 = 0 := fun e => by
      rw [e, e0] at hv2
      split at hv2 <;> omega
    show (if (faiF fa s 4).2 = 0 then _ else _ : Int32 × Int32 × Int32 × Int32 × (Nat → Int32)).1 = 0 ∧ (if (faiF fa s 4).2 = 0 then _ else _ : Int32 × Int32 × Int32 × Int32 × (Nat → Int32)).2.2.1.toInt = _
    rw [if_neg hne]
    exact ⟨rfl, hv2⟩
  · obtain ⟨b1, b2⟩ := a1 (by omega)
    rw [if_neg (by rw [b1]; decide), if_neg hf0, if_neg (fun z => cV z.1)]
    exact ⟨rfl, hf⟩