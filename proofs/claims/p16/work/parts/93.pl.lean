/-! copied FORMS -/
theorem LC_eq {g g2 h h2 : Nat → Int32} {c : Cn} {W V : Nat} (hg : ∀ j, j < 13 * W → g2 j = g j) (hh : ∀ j, j < 2 * V → h2 j = h j) (hL : LC g h c W V) : LC g2 h2 c W V := by
  refine ⟨fun w hw => ?_, fun i hi => by rw [hh _ (by omega), hh _ (by omega)]; exact hL.2 i hi⟩
  have hp := (hL.1 w hw).2.2.1
  exact LCo_cg (hL.1 w hw) (fun a ha => hg _ (by omega)) (fun _ _ => rfl) (fun p e => ⟨fun a _ ha => hg _ (by omega), rfl, rfl, rfl⟩)
/-- what is read of a content: WORDS below W, VALUES below V -/
theorem LC_cc {g h : Nat → Int32} {c c2 : Cn} {W V : Nat} (hw : ∀ a w, a ≤ 9 → w < W → c2 a w = c a w) (hv : ∀ a i, 10 ≤ a → a ≤ 12 → i < V → c2 a i = c a i) (hL : LC g h c W V) : LC g h c2 W V := by
  refine ⟨fun w hw2 => ?_, fun i hi => by rw [hv 10 i (by decide) (by decide) hi, hv 11 i (by decide) (by decide) hi, hv 12 i (by decide) (by decide) hi]; exact hL.2 i hi⟩
  have hp := (hL.1 w hw2).2.2.1
  exact LCo_cg (hL.1 w hw2) (fun a ha => rfl) (fun a ha => hw a w ha hw2) (fun p e => ⟨fun a _ ha => rfl, hw 0 p (by decide) (by omega), hw 1 p (by decide) (by omega), hw 2 p (by decide) (by omega)⟩)