/-! what stands open behind a DEED -/
theorem LR_rw {F F2 : Nat → Nat → Int32} {f W V : Nat} {c : Cn} (e : ∀ r, 7 ≤ r → r ≤ 20 → r ≠ 17 → F2 r = F r) (h : LR F f c W V) : LR F2 f c W V := by
  refine ⟨fun w hw => ?_, LRv_rw (e 18 (by decide) (by decide) (by decide)) (e 19 (by decide) (by decide) (by decide)) (e 20 (by decide) (by decide) (by decide)) h.2⟩
  unfold LRo
  rw [e 7 (by decide) (by decide) (by decide), e 8 (by decide) (by decide) (by decide), e 9 (by decide) (by decide) (by decide), e 10 (by decide) (by decide) (by decide), e 11 (by decide) (by decide) (by decide), e 12 (by decide) (by decide) (by decide), e 13 (by decide) (by decide) (by decide), e 14 (by decide) (by decide) (by decide), e 15 (by decide) (by decide) (by decide), e 16 (by decide) (by decide) (by decide)]
  exact h.1 w hw
theorem skW_eq {F F2 : Nat → Nat → Int32} {f : Nat} : ∀ O, (∀ ii : Nat, ii < O → F2 25 ii = F 25 ii) → skF F2 O = skF F O → skW F2 f O = skW F f O := by
  intro O
  induction O with
  | zero => intro _ _; rfl
  | succ O ih =>
    intro h25 h
    have i := List.cons.inj (show (F2 26 O).toInt.toNat :: skF F2 O = (F 26 O).toInt.toNat :: skF F O from h)
    show ((F2 26 O).toInt.toNat, ((F2 25 O).toInt - 40 * (f : Int)).toNat) :: skW F2 f O = ((F 26 O).toInt.toNat, ((F 25 O).toInt - 40 * (f : Int)).toNat) :: skW F f O
    rw [i.1, h25 O (by omega), ih (fun ii hi => h25 ii (by omega)) i.2]
theorem skW_cl {F F2 : Nat → Nat → Int32} {f : Nat} : ∀ O O2, (∀ ii : Nat, ii < O → F2 25 ii = F 25 ii) → skF F2 O2 = fsC (clC (skW F f O)) → skW F2 f O2 = clC (skW F f O) := by
  intro O
  induction O with
  | zero =>
    intro O2 _ h
    have l : O2 = 0 := (skF_ln (F := F2) O2).symm.trans (congrArg List.length h)
    subst l
    rfl
  | succ O ih =>
    intro O2 h25 h
    have h2 : skF F2 O2 = fsC (if (F 26 O).toInt.toNat = 1 then (2, ((F 25 O).toInt - 40 * (f : Int)).toNat) :: skW F f O else clC (skW F f O)) := h
    show skW F2 f O2 = (if (F 26 O).toInt.toNat = 1 then (2, ((F 25 O).toInt - 40 * (f : Int)).toNat) :: skW F f O else clC (skW F f O))
    by_cases c : (F 26 O).toInt.toNat = 1
    · rw [if_pos c] at h2 ⊢
      have l := congrArg List.length h2
      rw [skF_ln, fsC_ln, List.length_cons, skW_ln] at l
      subst l
      have i := List.cons.inj (show (F2 26 O).toInt.toNat :: skF F2 O = 2 :: fsC (skW F f O) from h2)
      show ((F2 26 O).toInt.toNat, ((F2 25 O).toInt - 40 * (f : Int)).toNat) :: skW F2 f O = _
      rw [i.1, h25 O (by omega), skW_eq O (fun ii hi => h25 ii (by omega)) (i.2.trans (skW_fs O))]
    · rw [if_neg c] at h2 ⊢
      exact ih O2 (fun ii hi => h25 ii (by omega)) h2