/-! the class: what STANDS is dropped, looked at -/
theorem wdA_S {fs_ k0 : Int32} {ga : Int64} {sg fg : Nat → Int32} {Q : List Sd} {G : Int} {kN : Nat} (hF : LFc fs_ ga sg fg Q G) (hk : k0.toInt = (kN : Int)) (hl : kN < Q.length) : (wdAF sg fs_ k0).toInt = ((Q.getD kN (0, 0)).1 : Int) ∧ (fcAF fg fs_ k0).toInt = (Q.getD kN (0, 0)).2 := by
  have e0 : (0 : Int32).toInt = 0 := rfl
  have e40 : (40 : Int32).toInt = 40 := rfl
  obtain ⟨⟨k1, k1b⟩, k2, k3⟩ := hF
  have ek : Int32.toNatClampNeg k0 = kN := by rw [clN]; omega
  obtain ⟨q1, q2⟩ := k3 kN hl
  unfold wdAF fcAF
  rw [if_neg (by rw [fl_lt, e0]; omega), if_neg (by rw [fl_le]; omega), if_neg (by rw [fl_le, e40]; omega), if_neg (by rw [fl_lt, e0]; omega), if_neg (by rw [fl_le]; omega), if_neg (by rw [fl_le, e40]; omega), ek]
  exact ⟨q1, q2⟩
theorem wdA_N {fs_ k0 : Int32} {ga : Int64} {sg fg : Nat → Int32} {Q : List Sd} {G : Int} (hF : LFc fs_ ga sg fg Q G) (hk : ¬ (0 ≤ k0.toInt ∧ k0.toInt < (Q.length : Int))) : wdAF sg fs_ k0 = -1 ∧ fcAF fg fs_ k0 = 0 := by
  have e0 : (0 : Int32).toInt = 0 := rfl
  obtain ⟨⟨k1, k1b⟩, k2, k3⟩ := hF
  unfold wdAF fcAF
  by_cases c : k0 < 0
  · rw [if_pos c, if_pos c]; exact ⟨rfl, rfl⟩
  · rw [if_neg c, if_neg c]
    rw [fl_lt, e0] at c
    rw [if_pos (by rw [fl_le]; omega), if_pos (by rw [fl_le]; omega)]
    exact ⟨rfl, rfl⟩
theorem drpL_S : ∀ (k I n : Nat) (i sz : Int32) (sg fg : Nat → Int32), i.toInt = (I : Int) → sz.toInt = (n : Int) → n ≤ 40 → I < n → n ≤ I + k → (drpL k i sg fg sz).2.2 = sz - 1 ∧ ∀ j, (drpL k i sg fg sz).1 j = (if j < I ∨ n ≤ j + 1 then sg j else sg (j + 1)) ∧ (drpL k i sg fg sz).2.1 j = (if j < I ∨ n ≤ j + 1 then fg j else fg (j + 1)) := by
  intro k
  induction k with
  | zero => intro I n i sz sg fg _ _ _ h1 h2; omega
  | succ k ih =>
    intro I n i sz sg fg hi hs hn h1 h2
    have q := T_add hi (show (1 : Int32).toInt = 1 from rfl) (by omega)
    have ei : Int32.toNatClampNeg i = I := by rw [clN]; omega
    have ej : Int32.toNatClampNeg (i + 1) = I + 1 := by rw [clN, q]; omega
    unfold drpL
    by_cases c : sz ≤ i + 1
    · rw [if_pos c]
      rw [fl_le, q] at c
      refine ⟨rfl, fun j => ?_⟩
      rw [if_pos (show j < I ∨ n ≤ j + 1 by omega), if_pos (show j < I ∨ n ≤ j + 1 by omega)]
      exact ⟨rfl, rfl⟩
    · rw [if_neg c, ei, ej]
      rw [fl_le, q] at c
      obtain ⟨r1, r2⟩ := ih (I + 1) n (i + 1) sz (upd sg I (sg (I + 1))) (upd fg I (fg (I + 1))) (by omega) hs hn (by omega) (by omega)
      refine ⟨r1, fun j => ?_⟩
      obtain ⟨a1, a2⟩ := r2 j
      rw [a1, a2, updE, updE, updE, updE]
      by_cases cj : j < I ∨ n ≤ j + 1
      · rw [if_pos (show j < I + 1 ∨ n ≤ j + 1 by omega), if_pos (show j < I + 1 ∨ n ≤ j + 1 by omega), if_pos cj, if_pos cj, if_neg (show ¬ j = I by omega), if_neg (show ¬ j = I by omega)]
        exact ⟨rfl, rfl⟩
      · rw [if_neg cj, if_neg cj]
        by_cases ce : j = I
        · rw [if_pos (show j < I + 1 ∨ n ≤ j + 1 by omega), if_pos (show j < I + 1 ∨ n ≤ j + 1 by omega), if_pos ce, if_pos ce, ce]
          exact ⟨rfl, rfl⟩
        · rw [if_neg (show ¬ (j < I + 1 ∨ n ≤ j + 1) by omega), if_neg (show ¬ (j < I + 1 ∨ n ≤ j + 1) by omega), if_neg (show ¬ j + 1 = I by omega), if_neg (show ¬ j + 1 = I by omega)]
          exact ⟨rfl, rfl⟩
theorem drp_S {fs_ k0 : Int32} {ga : Int64} {sg fg : Nat → Int32} {Q : List Sd} {G : Int} {kN : Nat} (hF : LFc fs_ ga sg fg Q G) (hk : k0.toInt = (kN : Int)) (hl : kN < Q.length) : LFc (drpF sg fg fs_ k0).2.2 ga (drpF sg fg fs_ k0).1 (drpF sg fg fs_ k0).2.1 (delL Q kN) G := by
  have e0 : (0 : Int32).toInt = 0 := rfl
  have e40 : (40 : Int32).toInt = 40 := rfl
  obtain ⟨⟨k1, k1b⟩, k2, k3⟩ := hF
  have dl := delL_ln hl
  unfold drpF
  rw [if_neg (by rw [fl_lt, e0]; omega), if_neg (by rw [fl_le]; omega), if_pos (by rw [fl_le, e40]; omega)]
  obtain ⟨r1, r2⟩ := drpL_S 41 kN Q.length k0 fs_ sg fg hk k1 k1b hl (by omega)
  refine ⟨⟨?_, by omega⟩, k2, fun i hi => ?_⟩
  · rw [r1, T_sub k1 (show (1 : Int32).toInt = 1 from rfl) (by omega)]
    omega
  · obtain ⟨a1, a2⟩ := r2 i
    rw [a1, a2]
    by_cases c : i < kN
    · rw [if_pos (Or.inl c), if_pos (Or.inl c), delL_lt c]
      exact k3 i (by omega)
    · rw [if_neg (show ¬ (i < kN ∨ Q.length ≤ i + 1) by omega), if_neg (show ¬ (i < kN ∨ Q.length ≤ i + 1) by omega), delL_ge (by omega)]
      exact k3 (i + 1) (by omega)
/-- what STANDS goes on to its DEED: where that stands -/
theorem st_ch {T : List Hd} (hok : okT T 1) (hv : hvT T) {e : Sd} (h : okS T e) : e.1 + 1 < T.length ∧ ((grH T e.1).1 = 4 → grS T e.1 < T.length) := by
  obtain ⟨h1, h2, h3⟩ := h
  obtain ⟨_, k1, k2⟩ := gr_lk hok hv h1
  exact ⟨k1 (by omega), fun z => (k2 (by omega)).2⟩
theorem wkT_0 {T : List Hd} {S : Sn} {l a b : Int} {k : Nat} {Z : Ls} : wkT T S l a b 0 k Z = Z := rfl
theorem wkT_y {T : List Hd} {S : Sn} {l a b : Int} {m k : Nat} {Z : Ls} (h : goB T S (Z.2.2.1.getD k (0, 0)).1 = true) : wkT T S l a b (m + 1) k Z = wkT T S l a b m k (dpE T S l a b k ((Z.2.2.1.getD k (0, 0)).1 + 1) Z) := by
  show (if goB T S (Z.2.2.1.getD k (0, 0)).1 = true then _ else _) = _
  rw [if_pos h]
theorem wkT_n {T : List Hd} {S : Sn} {l a b : Int} {m k : Nat} {Z : Ls} (h : goB T S (Z.2.2.1.getD k (0, 0)).1 = false) : wkT T S l a b (m + 1) k Z = wkT T S l a b m (k + 1) Z := by
  show (if goB T S (Z.2.2.1.getD k (0, 0)).1 = true then _ else _) = _
  rw [if_neg (by rw [h]; decide)]

set_option maxHeartbeats 4000000 in
set_option maxRecDepth 100000 in
theorem k_X1_restsE {l : Launch} {D : va_G} {cy : Nat → ClassId} {b : Nat} {f : gMem} {co lv sc th lg lf p so fc c1 c2 n1 n2 : Nat} {csz da nu ho1 ho2 fs_ s v wd : Int32} {ga : Int64} {g h t : Nat → Int32} {T : List Hd} {S : Sn} {wN : Nat} (hco : f co = some (.inr (1, [.ref lv, .ref sc, .ref lg, .int csz]))) (hlf : f lf = some (.inr (5, [.ref p, .int nu, .int ho1, .int ho2, .ref so, .ref fc, .int fs_, .long ga]))) (hp : f p = some (.inr (2, [.ref c1, .ref c2, .int s, .int v]))) (h1 : f c1 = some (.inl (cy 0, n1, .inl (g)))) (h2 : f c2 = some (.inl (cy 0, n2, .inl (h)))) (hsc : f sc = some (.inr (7, [.ref th, .int da]))) (hth : f th = some (.inl (cy 0, 6, .inl (t)))) (hs : 0 ≤ s.toInt ∧ 13 * s.toInt ≤ n1 ∧ n1 ≤ 520) (hv : 0 ≤ v.toInt ∧ 2 * v.toInt ≤ n2 ∧ n2 ≤ 80) (hcT_ : hcT T s v g h) (hSn : sCn S da t) (hwN : wd.toInt = (wN : Int) ∧ wN < T.length) (hk4 : (grH T wN).1 = 4 ∨ (grH T wN).1 = 6 ∨ (grH T wN).1 = 7) : gC l D cy b yX1_rests cX1_rests 4 (some .boolean) 4 0 0 [.ref co, .ref lf, .int wd] f (pI fun r f2 => ((r = 0 ∧ goB T S wN = true) ∨ (r = 1 ∧ goB T S wN = false)) ∧ f2 = f) := by
  refine gC_of (by decide) (Nat.le_of_ble_eq_true rfl) ?_
  have hlp := lps_S (n1 := n1) (n2 := n2) hs hv hSn hcT_ hwN.1 hwN.2
  have hfk := (fk_S (n1 := n1) hs hcT_ hwN.1 hwN.2).1
  obtain ⟨⟨hok, hvT_, h4, hoT⟩, esT, hG, _⟩ := hc_lk (n1 := n1) hcT_
  have hh6 : (grH T wN).1 = 6 → hldF n1 n2 g h s v t da wd = if hlB S (grH T wN) = true then 1 else 0 := fun z => hld_S hs hv hSn hwN.1 (by omega) (hG wN (by omega)).1 (hG wN (by omega)).2.1 (by omega)
  show gG l _ _ _ D cy b cX1_rests 4 _ RX1 "rests" 0 0 f 0 [(0, .ref co), (1, .ref lf), (2, .int wd)] []
  refine gz_aload_n dX1_rests_0 rfl rfl ?_
  refine sgX1_39 hlf rfl dX1_rests_1 ?_
  refine gz_iload_n dX1_rests_4 rfl rfl ?_
  refine gz_iconst (v := 0) dX1_rests_5 (by decide) ?_
  refine scX1_49 (k_X2_field (w := wd) (k := 0) hp h1 hs) hp ⟨(Nat.le_of_ble_eq_true rfl), (Nat.le_of_ble_eq_true rfl)⟩ ⟨(Nat.le_of_ble_eq_true rfl), (Nat.le_of_ble_eq_true rfl)⟩ rfl rfl (Nat.le_of_ble_eq_true rfl) dX1_rests_6 ?_
  intro v9 f9 z9; rw [z9.1, z9.2]
  refine gz_istore_n (lv' := [(3, .int (fldF n1 g s wd 0)), (0, .ref co), (1, .ref lf), (2, .int wd)]) dX1_rests_9 rfl (by decide) rfl ?_
  refine gz_iload_n dX1_rests_10 rfl rfl ?_
  refine gz_iconst (v := 4) dX1_rests_11 (by decide) ?_
  refine gz_icmp_eq (tgt := 30) dX1_rests_12 (by decide) (fun c_12 => ?_) (fun c_12 => ?_)
  ·
    refine gz_iconst (v := 0) dX1_rests_30 (by decide) ?_
    have z4 : (fldF n1 g s wd 0).toInt = 4 := by rw [c_12]; rfl
    exact gz_zret rfl (by first | decide | exact nrb (Or.inl rfl) | (refine nrb ?_; (repeat' split) <;> first | assumption | exact Or.inl rfl | exact Or.inr rfl)) dX1_rests_31 (Nat.le_of_ble_eq_true rfl) (Nat.le_of_ble_eq_true rfl) (⟨_, rfl, Or.inl ⟨rfl, goB_st.mpr (Or.inr (Or.inl (by omega)))⟩, rfl⟩)
  ·
    refine gz_aload_n dX1_rests_15 rfl rfl ?_
    refine sgX1_39 hlf rfl dX1_rests_16 ?_
    refine gz_iload_n dX1_rests_19 rfl rfl ?_
    refine gz_aload_n dX1_rests_20 rfl rfl ?_
    refine sgX1_17 hco rfl dX1_rests_21 ?_
    refine scX1_43 (k_X2_lapsed (w := wd) hp h1 h2 hsc hth hs hv) hp ⟨(Nat.le_of_ble_eq_true rfl), (Nat.le_of_ble_eq_true rfl)⟩ ⟨(Nat.le_of_ble_eq_true rfl), (Nat.le_of_ble_eq_true rfl)⟩ rfl rfl (Nat.le_of_ble_eq_true rfl) dX1_rests_24 ?_
    intro v9 f9 z9; rw [z9.1, z9.2]
    refine gz_if_eq (tgt := 32) dX1_rests_27 (by decide) (fun c_27 => ?_) (fun c_27 => ?_)
    ·
      refine gz_iload_n dX1_rests_32 rfl rfl ?_
      refine gz_bipush (v := 6) dX1_rests_33 (by decide) ?_
      refine gz_icmp_ne (tgt := 53) dX1_rests_35 (by decide) (fun c_35 => ?_) (fun c_35 => ?_)
      ·
        refine gz_iconst (v := 1) dX1_rests_53 (by decide) ?_
        refine gz_goto (tgt := 58) dX1_rests_54 (by decide) ?_
        have z4 : (fldF n1 g s wd 0).toInt ≠ 4 := fun e => c_12 (Int32.toInt_inj.mp (e.trans rfl))
        have hl0 : lpT T S wN = false := by rw [hlp] at c_27; exact b01.mp c_27
        have z6 : (fldF n1 g s wd 0).toInt ≠ 6 := fun e => c_35 (Int32.toInt_inj.mp (e.trans rfl))
        exact gz_zret rfl (by first | decide | exact nrb (Or.inl rfl) | (refine nrb ?_; (repeat' split) <;> first | assumption | exact Or.inl rfl | exact Or.inr rfl)) dX1_rests_58 (Nat.le_of_ble_eq_true rfl) (Nat.le_of_ble_eq_true rfl) (⟨_, rfl, Or.inr ⟨rfl, (by cases hg : goB T S wN; rfl; exfalso; rcases goB_st.mp hg with q | q | q; (rw [hl0] at q; exact absurd q (by decide)); (omega); (omega))⟩, rfl⟩)
      ·
        refine gz_aload_n dX1_rests_38 rfl rfl ?_
        refine sgX1_39 hlf rfl dX1_rests_39 ?_
        refine gz_iload_n dX1_rests_42 rfl rfl ?_
        refine gz_aload_n dX1_rests_43 rfl rfl ?_
        refine sgX1_17 hco rfl dX1_rests_44 ?_
        refine scX1_70 (k_X2_holds (w := wd) hp h1 h2 hsc hth hs hv) hp ⟨(Nat.le_of_ble_eq_true rfl), (Nat.le_of_ble_eq_true rfl)⟩ ⟨(Nat.le_of_ble_eq_true rfl), (Nat.le_of_ble_eq_true rfl)⟩ rfl rfl (Nat.le_of_ble_eq_true rfl) dX1_rests_47 ?_
        intro v9 f9 z9; rw [z9.1, z9.2]
        refine gz_if_ne (tgt := 57) dX1_rests_50 (by decide) (fun c_50 => ?_) (fun c_50 => ?_)
        ·
          refine gz_iconst (v := 0) dX1_rests_57 (by decide) ?_
          have z4 : (fldF n1 g s wd 0).toInt ≠ 4 := fun e => c_12 (Int32.toInt_inj.mp (e.trans rfl))
          have hl0 : lpT T S wN = false := by rw [hlp] at c_27; exact b01.mp c_27
          have z6 : (fldF n1 g s wd 0).toInt = 6 := by rw [c_35]; rfl
          have q6 := hh6 (by omega)
          rw [q6] at c_50
          exact gz_zret rfl (by first | decide | exact nrb (Or.inl rfl) | (refine nrb ?_; (repeat' split) <;> first | assumption | exact Or.inl rfl | exact Or.inr rfl)) dX1_rests_58 (Nat.le_of_ble_eq_true rfl) (Nat.le_of_ble_eq_true rfl) (⟨_, rfl, Or.inl ⟨rfl, goB_st.mpr (Or.inr (Or.inr ⟨by omega, by cases hb : hlB S (grH T wN); (exact absurd (b01.mpr hb) c_50); rfl⟩))⟩, rfl⟩)
        ·
          refine gz_iconst (v := 1) dX1_rests_53 (by decide) ?_
          refine gz_goto (tgt := 58) dX1_rests_54 (by decide) ?_
          have z4 : (fldF n1 g s wd 0).toInt ≠ 4 := fun e => c_12 (Int32.toInt_inj.mp (e.trans rfl))
          have hl0 : lpT T S wN = false := by rw [hlp] at c_27; exact b01.mp c_27
          have z6 : (fldF n1 g s wd 0).toInt = 6 := by rw [c_35]; rfl
          have q6 := hh6 (by omega)
          rw [q6] at c_50
          exact gz_zret rfl (by first | decide | exact nrb (Or.inl rfl) | (refine nrb ?_; (repeat' split) <;> first | assumption | exact Or.inl rfl | exact Or.inr rfl)) dX1_rests_58 (Nat.le_of_ble_eq_true rfl) (Nat.le_of_ble_eq_true rfl) (⟨_, rfl, Or.inr ⟨rfl, (by cases hg : goB T S wN; rfl; exfalso; rcases goB_st.mp hg with q | q | q; (rw [hl0] at q; exact absurd q (by decide)); (omega); (have z5 := b01.mp c_50; rw [z5] at q; exact absurd q.2 (by decide)))⟩, rfl⟩)
    ·
      refine gz_iconst (v := 0) dX1_rests_30 (by decide) ?_
      have z4 : (fldF n1 g s wd 0).toInt ≠ 4 := fun e => c_12 (Int32.toInt_inj.mp (e.trans rfl))
      have hl1 : lpT T S wN = true := by rw [hlp] at c_27; cases hb : lpT T S wN; (exact absurd (b01.mpr hb) c_27); rfl
      exact gz_zret rfl (by first | decide | exact nrb (Or.inl rfl) | (refine nrb ?_; (repeat' split) <;> first | assumption | exact Or.inl rfl | exact Or.inr rfl)) dX1_rests_31 (Nat.le_of_ble_eq_true rfl) (Nat.le_of_ble_eq_true rfl) (⟨_, rfl, Or.inl ⟨rfl, goB_st.mpr (Or.inl hl1)⟩, rfl⟩)

set_option maxHeartbeats 4000000 in
set_option maxRecDepth 100000 in
theorem k_X1_enterE {l : Launch} {D : va_G} {cy : Nat → ClassId} {b : Nat} {f : gMem} {co lv sc th lg en ne ge re gv tk am lf p so fc c1 c2 n1 n2 : Nat} {csz da sz lo gi nu ho1 ho2 fs_ s v k0 fd : Int32} {ga : Int64} {eg sg fg g h t : Nat → Int32} {T : List Hd} {S : Sn} {kN cN : Nat} {Z : Ls} (hco : f co = some (.inr (1, [.ref lv, .ref sc, .ref lg, .int csz]))) (hlf : f lf = some (.inr (5, [.ref p, .int nu, .int ho1, .int ho2, .ref so, .ref fc, .int fs_, .long ga]))) (hso : f so = some (.inl (cy 0, 40, .inl (sg)))) (hfc : f fc = some (.inl (cy 0, 40, .inl (fg)))) (hp : f p = some (.inr (2, [.ref c1, .ref c2, .int s, .int v]))) (h1 : f c1 = some (.inl (cy 0, n1, .inl (g)))) (h2 : f c2 = some (.inl (cy 0, n2, .inl (h)))) (hsc : f sc = some (.inr (7, [.ref th, .int da]))) (hth : f th = some (.inl (cy 0, 6, .inl (t)))) (hlg : f lg = some (.inr (4, [.ref en, .int sz, .int lo, .ref ge, .ref re, .ref gv, .ref tk, .ref am, .int gi]))) (hen : f en = some (.inl (cy 0, ne, .inl (eg)))) (hs : 0 ≤ s.toInt ∧ 13 * s.toInt ≤ n1 ∧ n1 ≤ 520) (hv : 0 ≤ v.toInt ∧ 2 * v.toInt ≤ n2 ∧ n2 ≤ 80) (hne : so ≠ fc ∧ so ≠ c1 ∧ so ≠ c2 ∧ so ≠ th ∧ fc ≠ c1 ∧ fc ≠ c2 ∧ fc ≠ th) (hcT_ : hcT T s v g h) (hSn : sCn S da t) (hl : 0 ≤ sz.toInt ∧ sz.toInt ≤ 2000 ∧ 6 * sz.toInt ≤ ne ∧ ne ≤ 24000) (hen2 : en ≠ so ∧ en ≠ fc ∧ en ≠ c1 ∧ en ≠ c2 ∧ en ≠ th) (hkN : k0.toInt = (kN : Int) ∧ kN < Z.2.2.1.length) (hQ : okQ T Z.2.2.1) (hfd : (fldF n1 g s (wdAF sg fs_ k0) fd).toInt = (cN : Int) ∧ cN < T.length) (hZ : CSt sz lo eg fs_ ga sg fg Z) : gU l D cy b yX1_enter cX1_enter 6 none 19 (24000 - ne) (2 * (24000 - ne)) [.ref co, .ref lf, .int k0, .int fd] f gTt (fun kk nn r f2 => ∃ (e2 m2 : Nat) (g2 : Nat → Int32) (s2 l2 z2 : Int32) (a2 : Int64) (x2 y2 : Nat → Int32), r = none ∧ f2 lg = some (.inr (4, [.ref e2, .int s2, .int l2, .ref ge, .ref re, .ref gv, .ref tk, .ref am, .int gi])) ∧ f2 e2 = some (.inl (cy 0, m2, .inl (g2))) ∧ f2 lf = some (.inr (5, [.ref p, .int nu, .int ho1, .int ho2, .ref so, .ref fc, .int z2, .long a2])) ∧ f2 so = some (.inl (cy 0, 40, .inl (x2))) ∧ f2 fc = some (.inl (cy 0, 40, .inl (y2))) ∧ (0 ≤ s2.toInt ∧ s2.toInt ≤ 2000 ∧ 6 * s2.toInt ≤ m2 ∧ m2 ≤ 24000) ∧ (kk + ne ≤ m2 ∧ nn + 2 * ne ≤ 2 * m2) ∧ (e2 = en ∨ f e2 = none) ∧ CSt s2 l2 g2 z2 a2 x2 y2 (dpE T S nu.toInt ho1.toInt ho2.toInt kN cN Z) ∧ fr [lg, en, lf, so, fc] f f2) := by
  refine gU_of (by decide) (Nat.le_of_ble_eq_true rfl) ?_
  show gG l _ _ _ D cy b cX1_enter 6 _ RX1 "enter" 0 0 f 0 [(0, .ref co), (1, .ref lf), (2, .int k0), (3, .int fd)] []
  refine gz_aload_n dX1_enter_0 rfl rfl ?_
  refine gz_iload_n dX1_enter_1 rfl rfl ?_
  refine scX1_96 (k_X5_wordAt (k := k0) hlf hso) hlf ⟨(Nat.le_of_ble_eq_true rfl), (Nat.le_of_ble_eq_true rfl)⟩ ⟨(by simp only [gRm]; omega), (by simp only [gRm]; omega)⟩ rfl rfl (Nat.le_of_ble_eq_true rfl) dX1_enter_2 ?_
  intro v9 f9 z9; rw [z9.1, z9.2]
  refine gz_istore (lv' := [(4, .int (wdAF sg fs_ k0)), (0, .ref co), (1, .ref lf), (2, .int k0), (3, .int fd)]) dX1_enter_5 (by decide) rfl ?_
  refine gz_aload_n dX1_enter_7 rfl rfl ?_
  refine gz_iload_n dX1_enter_8 rfl rfl ?_
  refine scX1_107 (k_X5_factorAt (k := k0) hlf hfc) hlf ⟨(Nat.le_of_ble_eq_true rfl), (Nat.le_of_ble_eq_true rfl)⟩ ⟨(by simp only [gRm]; omega), (by simp only [gRm]; omega)⟩ rfl rfl (Nat.le_of_ble_eq_true rfl) dX1_enter_9 ?_
  intro v9 f9 z9; rw [z9.1, z9.2]
  refine gz_istore (lv' := [(5, .int (fcAF fg fs_ k0)), (4, .int (wdAF sg fs_ k0)), (0, .ref co), (1, .ref lf), (2, .int k0), (3, .int fd)]) dX1_enter_12 (by decide) rfl ?_
  refine gz_aload_n dX1_enter_14 rfl rfl ?_
  refine gz_iload_n dX1_enter_15 rfl rfl ?_
  refine scX1_110 (k_X5_drop (k0 := k0) hlf hso hfc hne.1) hlf ⟨(Nat.le_of_ble_eq_true rfl), (Nat.le_of_ble_eq_true rfl)⟩ ⟨(by simp only [gRm]; omega), (by simp only [gRm]; omega)⟩ rfl rfl (Nat.le_of_ble_eq_true rfl) dX1_enter_16 ?_
  rintro f1 ⟨hso_1, hfc_1, hlf_1, hr1⟩
  have hco_1 : f1 co = some (.inr (1, [.ref lv, .ref sc, .ref lg, .int csz])) := hr1 _ _ hco (by simp only [List.mem_cons, List.not_mem_nil, or_false, not_or]; exact ⟨cne hco hlf (by simp), cne hco hso (by simp), cne hco hfc (by simp)⟩)
  have hp_1 : f1 p = some (.inr (2, [.ref c1, .ref c2, .int s, .int v])) := hr1 _ _ hp (by simp only [List.mem_cons, List.not_mem_nil, or_false, not_or]; exact ⟨cne hp hlf (by simp), cne hp hso (by simp), cne hp hfc (by simp)⟩)
  have h1_1 : f1 c1 = some (.inl (cy 0, n1, .inl (g))) := hr1 _ _ h1 (by simp only [List.mem_cons, List.not_mem_nil, or_false, not_or]; exact ⟨cne h1 hlf (by simp), Ne.symm (hne.2.1), Ne.symm (hne.2.2.2.2.1)⟩)
  have h2_1 : f1 c2 = some (.inl (cy 0, n2, .inl (h))) := hr1 _ _ h2 (by simp only [List.mem_cons, List.not_mem_nil, or_false, not_or]; exact ⟨cne h2 hlf (by simp), Ne.symm (hne.2.2.1), Ne.symm (hne.2.2.2.2.2.1)⟩)
  have hsc_1 : f1 sc = some (.inr (7, [.ref th, .int da])) := hr1 _ _ hsc (by simp only [List.mem_cons, List.not_mem_nil, or_false, not_or]; exact ⟨cne hsc hlf (by simp), cne hsc hso (by simp), cne hsc hfc (by simp)⟩)
  have hth_1 : f1 th = some (.inl (cy 0, 6, .inl (t))) := hr1 _ _ hth (by simp only [List.mem_cons, List.not_mem_nil, or_false, not_or]; exact ⟨cne hth hlf (by simp), Ne.symm (hne.2.2.2.1), Ne.symm (hne.2.2.2.2.2.2)⟩)
  have hlg_1 : f1 lg = some (.inr (4, [.ref en, .int sz, .int lo, .ref ge, .ref re, .ref gv, .ref tk, .ref am, .int gi])) := hr1 _ _ hlg (by simp only [List.mem_cons, List.not_mem_nil, or_false, not_or]; exact ⟨cne hlg hlf (by simp), cne hlg hso (by simp), cne hlg hfc (by simp)⟩)
  have hen_1 : f1 en = some (.inl (cy 0, ne, .inl (eg))) := hr1 _ _ hen (by simp only [List.mem_cons, List.not_mem_nil, or_false, not_or]; exact ⟨cne hen hlf (by simp), hen2.1, hen2.2.1⟩)
  refine gz_aload_n dX1_enter_19 rfl rfl ?_
  refine gz_aload_n dX1_enter_20 rfl rfl ?_
  refine gz_aload_n dX1_enter_21 rfl rfl ?_
  refine sgX1_39 hlf_1 rfl dX1_enter_22 ?_
  refine gz_iload dX1_enter_25 rfl ?_
  refine gz_iload_n dX1_enter_27 rfl rfl ?_
  refine scX1_49 (k_X2_field (w := (wdAF sg fs_ k0)) (k := fd) hp_1 h1_1 hs) hp_1 ⟨(Nat.le_of_ble_eq_true rfl), (Nat.le_of_ble_eq_true rfl)⟩ ⟨(by simp only [gRm]; omega), (by simp only [gRm]; omega)⟩ rfl rfl (Nat.le_of_ble_eq_true rfl) dX1_enter_28 ?_
  intro v9 f9 z9; rw [z9.1, z9.2]
  refine gz_iload dX1_enter_31 rfl ?_
  refine gz_iconst (v := 0) dX1_enter_33 (by decide) ?_
  have hsd := hQ.2 _ (gtD_mem (d := (0, 0)) hkN.2)
  refine suX1_32 (k_X1_acquireE hs hv hne hcT_ hSn 13 (fldF n1 g s (wdAF sg fs_ k0) fd) (fcAF fg fs_ k0) 0 en _ _ sz lo ((drpF sg fg fs_ k0).2.2) ga _ _ cN (Z.2.2.1.getD kN (0, 0)).2 (Z.1, Z.2.1, delL Z.2.2.1 kN, Z.2.2.2) _ hco_1 hlf_1 hso_1 hfc_1 hp_1 h1_1 h2_1 hsc_1 hth_1 hlg_1 hen_1 hl hen2 hfd ⟨(wdA_S hZ.2 hkN.1 hkN.2).2, hsd.2.2⟩ (dp_lk hcT_ hfd.2).1.1 ⟨hZ.1, drp_S hZ.2 hkN.1 hkN.2⟩ (by decide)) hco_1 ⟨(Nat.le_of_ble_eq_true rfl), (Nat.le_of_ble_eq_true rfl)⟩ ⟨(by simp only [gRm]; omega), (by simp only [gRm]; omega)⟩ rfl rfl (Nat.le_of_ble_eq_true rfl) dX1_enter_34 ?_
  rintro kk_2 nn_2 r_2 f2 ⟨e_2, m_2, g_2, s_2, l_2, z_2, a_2, x_2, y_2, rfl, hlg_2, he_2, hlf_2, hso_2, hfc_2, hl_2, hu_2, hc_2, hst_2, hr2⟩
  refine gz_eq (st2 := []) rfl rfl rfl rfl ?_
  have hco_2 : f2 co = some (.inr (1, [.ref lv, .ref sc, .ref lg, .int csz])) := hr2 _ _ hco_1 (by simp only [List.mem_cons, List.not_mem_nil, or_false, not_or]; exact ⟨cne hco_1 hlg_1 (by simp), cne hco_1 hen_1 (by simp), cne hco_1 hlf_1 (by simp), cne hco_1 hso_1 (by simp), cne hco_1 hfc_1 (by simp)⟩)
  have hp_2 : f2 p = some (.inr (2, [.ref c1, .ref c2, .int s, .int v])) := hr2 _ _ hp_1 (by simp only [List.mem_cons, List.not_mem_nil, or_false, not_or]; exact ⟨cne hp_1 hlg_1 (by simp), cne hp_1 hen_1 (by simp), cne hp_1 hlf_1 (by simp), cne hp_1 hso_1 (by simp), cne hp_1 hfc_1 (by simp)⟩)
  have h1_2 : f2 c1 = some (.inl (cy 0, n1, .inl (g))) := hr2 _ _ h1_1 (by simp only [List.mem_cons, List.not_mem_nil, or_false, not_or]; exact ⟨cne h1_1 hlg_1 (by simp), Ne.symm (hen2.2.2.1), cne h1_1 hlf_1 (by simp), Ne.symm (hne.2.1), Ne.symm (hne.2.2.2.2.1)⟩)
  have h2_2 : f2 c2 = some (.inl (cy 0, n2, .inl (h))) := hr2 _ _ h2_1 (by simp only [List.mem_cons, List.not_mem_nil, or_false, not_or]; exact ⟨cne h2_1 hlg_1 (by simp), Ne.symm (hen2.2.2.2.1), cne h2_1 hlf_1 (by simp), Ne.symm (hne.2.2.1), Ne.symm (hne.2.2.2.2.2.1)⟩)
  have hsc_2 : f2 sc = some (.inr (7, [.ref th, .int da])) := hr2 _ _ hsc_1 (by simp only [List.mem_cons, List.not_mem_nil, or_false, not_or]; exact ⟨cne hsc_1 hlg_1 (by simp), cne hsc_1 hen_1 (by simp), cne hsc_1 hlf_1 (by simp), cne hsc_1 hso_1 (by simp), cne hsc_1 hfc_1 (by simp)⟩)
  have hth_2 : f2 th = some (.inl (cy 0, 6, .inl (t))) := hr2 _ _ hth_1 (by simp only [List.mem_cons, List.not_mem_nil, or_false, not_or]; exact ⟨cne hth_1 hlg_1 (by simp), Ne.symm (hen2.2.2.2.2), cne hth_1 hlf_1 (by simp), Ne.symm (hne.2.2.2.1), Ne.symm (hne.2.2.2.2.2.2)⟩)
  have hcb_2 : e_2 = en ∨ f e_2 = none := enb (S := [lf, so, fc]) hc_2 (fr_tr fr_rf (fr_mo hr1 (by simp))) (by intro z hz2; simp only [List.mem_cons, List.not_mem_nil, or_false] at hz2; rcases hz2 with rfl | rfl | rfl; exact Or.inr ⟨_, hlf_1⟩; exact Or.inr ⟨_, hso_1⟩; exact Or.inr ⟨_, hfc_1⟩)
  exact gz_vretU rfl dX1_enter_37 (by omega) (by omega) (⟨_, _, _, _, _, _, _, _, _, rfl, hlg_2, he_2, hlf_2, hso_2, hfc_2, hl_2, ⟨by omega, by omega⟩, hcb_2, hst_2, (fr_tr (fr_tr fr_rf (fr_mo hr1 (by simp))) (fr_mo hr2 (by simp)))⟩)

set_option maxHeartbeats 4000000 in
set_option maxRecDepth 100000 in
theorem l_X1_wakeE {l : Launch} {D : va_G} {cy : Nat → ClassId} {b : Nat} {f : gMem} {co lv sc th lg ge re gv tk am lf p so fc c1 c2 n1 n2 : Nat} {csz da gi nu ho1 ho2 s v : Int32}  {g h t : Nat → Int32} {e0 n0 : Nat}  {T : List Hd} {S : Sn} {ZF : Ls} (hs : 0 ≤ s.toInt ∧ 13 * s.toInt ≤ n1 ∧ n1 ≤ 520) (hv : 0 ≤ v.toInt ∧ 2 * v.toInt ≤ n2 ∧ n2 ≤ 80) (hne : so ≠ fc ∧ so ≠ c1 ∧ so ≠ c2 ∧ so ≠ th ∧ fc ≠ c1 ∧ fc ≠ c2 ∧ fc ≠ th) (hcT_ : hcT T s v g h) (hSn : sCn S da t) : ∀ (k : Nat) (i j : Int32) (en ne : Nat) (eg : Nat → Int32) (sz lo fs_ : Int32) (ga : Int64) (sg fg : Nat → Int32) (cu su : Nat) (Z : Ls) (fm : gMem), fr [lg, e0, lf, so, fc] f fm → (fm co = some (.inr (1, [.ref lv, .ref sc, .ref lg, .int csz]))) → (fm lf = some (.inr (5, [.ref p, .int nu, .int ho1, .int ho2, .ref so, .ref fc, .int fs_, .long ga]))) → (fm so = some (.inl (cy 0, 40, .inl (sg)))) → (fm fc = some (.inl (cy 0, 40, .inl (fg)))) → (fm p = some (.inr (2, [.ref c1, .ref c2, .int s, .int v]))) → (fm c1 = some (.inl (cy 0, n1, .inl (g)))) → (fm c2 = some (.inl (cy 0, n2, .inl (h)))) → (fm sc = some (.inr (7, [.ref th, .int da]))) → (fm th = some (.inl (cy 0, 6, .inl (t)))) → (fm lg = some (.inr (4, [.ref en, .int sz, .int lo, .ref ge, .ref re, .ref gv, .ref tk, .ref am, .int gi]))) → (fm en = some (.inl (cy 0, ne, .inl (eg)))) → (0 ≤ sz.toInt ∧ sz.toInt ≤ 2000 ∧ 6 * sz.toInt ≤ ne ∧ ne ≤ 24000) → (en ≠ so ∧ en ≠ fc ∧ en ≠ c1 ∧ en ≠ c2 ∧ en ≠ th) → (en = e0 ∨ f en = none) → (cu + n0 ≤ ne ∧ su + 2 * n0 ≤ 2 * ne) → (i.toInt ≤ 40 ∧ 0 < k ∧ i.toInt < (k : Int)) → (CSt sz lo eg fs_ ga sg fg Z) → (okQ T Z.2.2.1) → (0 ≤ i.toInt ∧ 0 ≤ j.toInt ∧ j.toInt + i.toInt ≤ (Z.2.2.1.length : Int)) → (wkT T S nu.toInt ho1.toInt ho2.toInt i.toInt.toNat j.toInt.toNat Z = ZF) → gG l (gRm 20 (24000 - n0) (2 * (24000 - n0))) (gQuf D b (fun kk nn r f2 => ∃ (e2 m2 : Nat) (g2 : Nat → Int32) (s2 l2 z2 : Int32) (a2 : Int64) (x2 y2 : Nat → Int32), r = none ∧ f2 lg = some (.inr (4, [.ref e2, .int s2, .int l2, .ref ge, .ref re, .ref gv, .ref tk, .ref am, .int gi])) ∧ f2 e2 = some (.inl (cy 0, m2, .inl (g2))) ∧ f2 lf = some (.inr (5, [.ref p, .int nu, .int ho1, .int ho2, .ref so, .ref fc, .int z2, .long a2])) ∧ f2 so = some (.inl (cy 0, 40, .inl (x2))) ∧ f2 fc = some (.inl (cy 0, 40, .inl (y2))) ∧ (0 ≤ s2.toInt ∧ s2.toInt ≤ 2000 ∧ 6 * s2.toInt ≤ m2 ∧ m2 ≤ 24000) ∧ (kk + n0 ≤ m2 ∧ nn + 2 * n0 ≤ 2 * m2) ∧ (e2 = e0 ∨ f e2 = none) ∧ CSt s2 l2 g2 z2 a2 x2 y2 ZF ∧ fr [lg, e0, lf, so, fc] f f2) (24000 - n0) (2 * (24000 - n0))) gTt D cy b cX1_wake 4 none RX1 "wake" (cu) (su) fm 17 [(3, .int i), (2, .int j), (0, .ref co), (1, .ref lf)] [] := by
  intro k
  induction k with
  | zero =>
    intro i j en ne eg sz lo fs_ ga sg fg cu su Z fm hfr hco hlf hso hfc hp h1 h2 hsc hth hlg hen hl hen2 hc0 hu0 hk hZ hQ hij hZF
    exfalso; omega
  | succ k ih =>
    intro i j en ne eg sz lo fs_ ga sg fg cu su Z fm hfr hco hlf hso hfc hp h1 h2 hsc hth hlg hen hl hen2 hc0 hu0 hk hZ hQ hij hZF
    refine gz_iload_n dX1_wake_17 rfl rfl ?_
    refine gz_if_le (tgt := 53) dX1_wake_18 (by decide) (fun c_18 => ?_) (fun c_18 => ?_)
    ·
      exact gz_vretU rfl dX1_wake_53 (by omega) (by omega) (⟨_, _, _, _, _, _, _, _, _, rfl, hlg, hen, hlf, hso, hfc, hl, ⟨by omega, by omega⟩, hc0, (by rw [show i.toInt.toNat = 0 by have e0_ : (0 : Int32).toInt = 0 := rfl; simp only [fl_le] at c_18; omega, wkT_0] at hZF; rw [← hZF]; exact hZ), hfr⟩)
    ·
      refine gz_aload_n dX1_wake_21 rfl rfl ?_
      refine gz_aload_n dX1_wake_22 rfl rfl ?_
      refine gz_aload_n dX1_wake_23 rfl rfl ?_
      refine gz_iload_n dX1_wake_24 rfl rfl ?_
      have hi2 : 0 < i.toInt := by have e0_ : (0 : Int32).toInt = 0 := rfl; simp only [fl_le] at c_18; omega
      have hjl : j.toInt.toNat < Z.2.2.1.length := by omega
      have hjn : j.toInt = (j.toInt.toNat : Int) := by omega
      obtain ⟨wq1, wq2⟩ := wdA_S hZ.2 hjn hjl
      have hsd := hQ.2 _ (gtD_mem (d := (0, 0)) hjl)
      obtain ⟨m, hm⟩ : ∃ m, i.toInt.toNat = m + 1 := ⟨i.toInt.toNat - 1, by omega⟩
      rw [hm] at hZF
      refine scX1_96 (k_X5_wordAt (k := j) hlf hso) hlf ⟨(by simp only [gRm]; omega), (by simp only [gRm]; omega)⟩ ⟨(by simp only [gRm]; omega), (by simp only [gRm]; omega)⟩ rfl rfl (Nat.le_of_ble_eq_true rfl) dX1_wake_25 ?_
      intro v9 f9 z9; rw [z9.1, z9.2]
      refine scX1_100 (k_X1_restsE (wd := (wdAF sg fs_ j)) (wN := (Z.2.2.1.getD j.toInt.toNat (0, 0)).1) hco hlf hp h1 h2 hsc hth hs hv hcT_ hSn ⟨wq1, hsd.1⟩ hsd.2.1) hco ⟨(by simp only [gRm]; omega), (by simp only [gRm]; omega)⟩ ⟨(by simp only [gRm]; omega), (by simp only [gRm]; omega)⟩ rfl rfl (Nat.le_of_ble_eq_true rfl) dX1_wake_28 ?_
      rintro r1 g1 ⟨hb1, hf1⟩; subst hf1
      rcases hb1 with ⟨hr1, hgo⟩ | ⟨hr1, hgo⟩
      ·
        refine gz_ev (w := .int 0) (congrArg Value.int hr1) ?_
        refine gz_if_eq (tgt := 40) dX1_wake_31 (by decide) (fun c_31 => ?_) (fun c_31 => ?_)
        ·
          refine gz_aload_n dX1_wake_40 rfl rfl ?_
          refine gz_aload_n dX1_wake_41 rfl rfl ?_
          refine gz_iload_n dX1_wake_42 rfl rfl ?_
          refine gz_iconst (v := 3) dX1_wake_43 (by decide) ?_
          have hch := st_ch hcT_.1.1 hcT_.1.2.1 hsd
          refine suX1_104 (k_X1_enterE (k0 := j) (fd := 3) (kN := j.toInt.toNat) (cN := (Z.2.2.1.getD j.toInt.toNat (0, 0)).1 + 1) (Z := Z) hco hlf hso hfc hp h1 h2 hsc hth hlg hen hs hv hne hcT_ hSn hl hen2 ⟨hjn, hjl⟩ hQ ⟨by rw [(fk_S hs hcT_ wq1 hsd.1).2.2.2.2.1 (by have := hsd.2.1; omega)]; omega, hch.1⟩ hZ) hco ⟨(by simp only [gRm]; omega), (by simp only [gRm]; omega)⟩ ⟨(by simp only [gRm]; omega), (by simp only [gRm]; omega)⟩ rfl rfl (Nat.le_of_ble_eq_true rfl) dX1_wake_44 ?_
          rintro kk_2 nn_2 r_2 f2 ⟨e_2, m_2, g_2, s_2, l_2, z_2, a_2, x_2, y_2, rfl, hlg_2, he_2, hlf_2, hso_2, hfc_2, hl_2, hu_2, hc_2, hst_2, hr2⟩
          refine gz_eq (st2 := []) rfl rfl rfl rfl ?_
          have hco_2 : f2 co = some (.inr (1, [.ref lv, .ref sc, .ref lg, .int csz])) := hr2 _ _ hco (by simp only [List.mem_cons, List.not_mem_nil, or_false, not_or]; exact ⟨cne hco hlg (by simp), cne hco hen (by simp), cne hco hlf (by simp), cne hco hso (by simp), cne hco hfc (by simp)⟩)
          have hp_2 : f2 p = some (.inr (2, [.ref c1, .ref c2, .int s, .int v])) := hr2 _ _ hp (by simp only [List.mem_cons, List.not_mem_nil, or_false, not_or]; exact ⟨cne hp hlg (by simp), cne hp hen (by simp), cne hp hlf (by simp), cne hp hso (by simp), cne hp hfc (by simp)⟩)
          have h1_2 : f2 c1 = some (.inl (cy 0, n1, .inl (g))) := hr2 _ _ h1 (by simp only [List.mem_cons, List.not_mem_nil, or_false, not_or]; exact ⟨cne h1 hlg (by simp), Ne.symm (hen2.2.2.1), cne h1 hlf (by simp), Ne.symm (hne.2.1), Ne.symm (hne.2.2.2.2.1)⟩)
          have h2_2 : f2 c2 = some (.inl (cy 0, n2, .inl (h))) := hr2 _ _ h2 (by simp only [List.mem_cons, List.not_mem_nil, or_false, not_or]; exact ⟨cne h2 hlg (by simp), Ne.symm (hen2.2.2.2.1), cne h2 hlf (by simp), Ne.symm (hne.2.2.1), Ne.symm (hne.2.2.2.2.2.1)⟩)
          have hsc_2 : f2 sc = some (.inr (7, [.ref th, .int da])) := hr2 _ _ hsc (by simp only [List.mem_cons, List.not_mem_nil, or_false, not_or]; exact ⟨cne hsc hlg (by simp), cne hsc hen (by simp), cne hsc hlf (by simp), cne hsc hso (by simp), cne hsc hfc (by simp)⟩)
          have hth_2 : f2 th = some (.inl (cy 0, 6, .inl (t))) := hr2 _ _ hth (by simp only [List.mem_cons, List.not_mem_nil, or_false, not_or]; exact ⟨cne hth hlg (by simp), Ne.symm (hen2.2.2.2.2), cne hth hlf (by simp), Ne.symm (hne.2.2.2.1), Ne.symm (hne.2.2.2.2.2.2)⟩)
          have hcc_2 : e_2 = e0 ∨ f e_2 = none := eny (S := [lg, e0, lf, so, fc]) hc0 hc_2 hfr (by intro z hz2; simp only [List.mem_cons, List.not_mem_nil, or_false] at hz2; rcases hz2 with rfl | rfl | rfl | rfl | rfl; exact Or.inr ⟨_, hlg⟩; exact Or.inl rfl; exact Or.inr ⟨_, hlf⟩; exact Or.inr ⟨_, hso⟩; exact Or.inr ⟨_, hfc⟩)
          refine gz_iinc (v := (i + (-1))) (lv' := [(3, .int (i + (-1))), (2, .int j), (0, .ref co), (1, .ref lf)]) dX1_wake_47 rfl (congrArg (fun z => i + z) oi_m1) (by decide) rfl ?_
          refine gz_goto (tgt := 17) dX1_wake_50 (by decide) ?_
          refine gz_sub (lv' := [(3, .int (i + (-1))), (2, .int j), (0, .ref co), (1, .ref lf)]) (by simp [List.lookup]) ?_
          obtain ⟨dq1, dq2, dq3, dq4⟩ := dpE_ok (l := nu.toInt) (a := ho1.toInt) (b := ho2.toInt) (S := S) hcT_.1.1 hcT_.1.2.1 hQ hjl hch.1
          have hi3 : i.toInt ≤ 2147483647 := by omega
          have hi4 : -2147483647 ≤ i.toInt := by omega
          have hx2 : (i + (-1)).toInt = i.toInt - 1 := T_dec hi4 hi3
          generalize i + (-1) = i2 at hx2 ⊢
          exact ih i2 j e_2 m_2 g_2 s_2 l_2 z_2 a_2 x_2 y_2 (cu + kk_2) (su + nn_2) (dpE T S nu.toInt ho1.toInt ho2.toInt j.toInt.toNat ((Z.2.2.1.getD j.toInt.toNat (0, 0)).1 + 1) Z) _ (frx hc0 hfr hr2) hco_2 hlf_2 hso_2 hfc_2 hp_2 h1_2 h2_2 hsc_2 hth_2 hlg_2 he_2 (hl_2) (⟨(enn hc_2 hso (hen2.1)), (enn hc_2 hfc (hen2.2.1)), (enn hc_2 h1 (hen2.2.2.1)), (enn hc_2 h2 (hen2.2.2.2.1)), (enn hc_2 hth (hen2.2.2.2.2))⟩) (hcc_2) ((by omega)) ((by omega)) (hst_2) (dq1) (⟨by omega, by omega, by omega⟩) ((by rw [show i2.toInt.toNat = m by omega]; rw [wkT_y hgo] at hZF; exact hZF))
        · exact absurd c_31 (by decide)
      ·
        refine gz_ev (w := .int 1) (congrArg Value.int hr1) ?_
        refine gz_if_eq (tgt := 40) dX1_wake_31 (by decide) (fun c_31 => ?_) (fun c_31 => ?_)
        · exact absurd c_31 (by decide)
        ·
          refine gz_iinc (v := (j + 1)) (lv' := [(2, .int (j + 1)), (3, .int i), (0, .ref co), (1, .ref lf)]) dX1_wake_34 rfl rfl (by decide) rfl ?_
          refine gz_goto (tgt := 47) dX1_wake_37 (by decide) ?_
          refine gz_iinc (v := (i + (-1))) (lv' := [(3, .int (i + (-1))), (2, .int (j + 1)), (0, .ref co), (1, .ref lf)]) dX1_wake_47 rfl (congrArg (fun z => i + z) oi_m1) (by decide) rfl ?_
          refine gz_goto (tgt := 17) dX1_wake_50 (by decide) ?_
          refine gz_sub (lv' := [(3, .int (i + (-1))), (2, .int (j + 1)), (0, .ref co), (1, .ref lf)]) (by simp [List.lookup]) ?_
          have hj1 := T_add (rfl : j.toInt = j.toInt) (show (1 : Int32).toInt = 1 from rfl) (by have := hQ.1; omega)
          have hi3 : i.toInt ≤ 2147483647 := by omega
          have hi4 : -2147483647 ≤ i.toInt := by omega
          have hx2 : (i + (-1)).toInt = i.toInt - 1 := T_dec hi4 hi3
          generalize i + (-1) = i2 at hx2 ⊢
          exact ih i2 (j + 1) en ne eg sz lo fs_ ga sg fg cu su Z _ hfr hco hlf hso hfc hp h1 h2 hsc hth hlg hen (hl) (hen2) (hc0) ((by omega)) ((by omega)) (hZ) (hQ) (⟨by omega, by omega, by omega⟩) ((by rw [show i2.toInt.toNat = m by omega, show (j + 1).toInt.toNat = j.toInt.toNat + 1 by omega]; rw [wkT_n hgo] at hZF; exact hZF))

set_option maxHeartbeats 4000000 in
set_option maxRecDepth 100000 in
theorem k_X1_wakeE {l : Launch} {D : va_G} {cy : Nat → ClassId} {b : Nat} {f : gMem} {co lv sc th lg en ne ge re gv tk am lf p so fc c1 c2 n1 n2 : Nat} {csz da sz lo gi nu ho1 ho2 fs_ s v : Int32} {ga : Int64} {eg sg fg g h t : Nat → Int32} {T : List Hd} {S : Sn} {Z : Ls} (hco : f co = some (.inr (1, [.ref lv, .ref sc, .ref lg, .int csz]))) (hlf : f lf = some (.inr (5, [.ref p, .int nu, .int ho1, .int ho2, .ref so, .ref fc, .int fs_, .long ga]))) (hso : f so = some (.inl (cy 0, 40, .inl (sg)))) (hfc : f fc = some (.inl (cy 0, 40, .inl (fg)))) (hp : f p = some (.inr (2, [.ref c1, .ref c2, .int s, .int v]))) (h1 : f c1 = some (.inl (cy 0, n1, .inl (g)))) (h2 : f c2 = some (.inl (cy 0, n2, .inl (h)))) (hsc : f sc = some (.inr (7, [.ref th, .int da]))) (hth : f th = some (.inl (cy 0, 6, .inl (t)))) (hlg : f lg = some (.inr (4, [.ref en, .int sz, .int lo, .ref ge, .ref re, .ref gv, .ref tk, .ref am, .int gi]))) (hen : f en = some (.inl (cy 0, ne, .inl (eg)))) (hs : 0 ≤ s.toInt ∧ 13 * s.toInt ≤ n1 ∧ n1 ≤ 520) (hv : 0 ≤ v.toInt ∧ 2 * v.toInt ≤ n2 ∧ n2 ≤ 80) (hne : so ≠ fc ∧ so ≠ c1 ∧ so ≠ c2 ∧ so ≠ th ∧ fc ≠ c1 ∧ fc ≠ c2 ∧ fc ≠ th) (hcT_ : hcT T s v g h) (hSn : sCn S da t) (hl : 0 ≤ sz.toInt ∧ sz.toInt ≤ 2000 ∧ 6 * sz.toInt ≤ ne ∧ ne ≤ 24000) (hen2 : en ≠ so ∧ en ≠ fc ∧ en ≠ c1 ∧ en ≠ c2 ∧ en ≠ th) (hZ : CSt sz lo eg fs_ ga sg fg Z) (hQ : okQ T Z.2.2.1) : gU l D cy b yX1_wake cX1_wake 4 none 20 (24000 - ne) (2 * (24000 - ne)) [.ref co, .ref lf] f gTt (fun kk nn r f2 => ∃ (e2 m2 : Nat) (g2 : Nat → Int32) (s2 l2 z2 : Int32) (a2 : Int64) (x2 y2 : Nat → Int32), r = none ∧ f2 lg = some (.inr (4, [.ref e2, .int s2, .int l2, .ref ge, .ref re, .ref gv, .ref tk, .ref am, .int gi])) ∧ f2 e2 = some (.inl (cy 0, m2, .inl (g2))) ∧ f2 lf = some (.inr (5, [.ref p, .int nu, .int ho1, .int ho2, .ref so, .ref fc, .int z2, .long a2])) ∧ f2 so = some (.inl (cy 0, 40, .inl (x2))) ∧ f2 fc = some (.inl (cy 0, 40, .inl (y2))) ∧ (0 ≤ s2.toInt ∧ s2.toInt ≤ 2000 ∧ 6 * s2.toInt ≤ m2 ∧ m2 ≤ 24000) ∧ (kk + ne ≤ m2 ∧ nn + 2 * ne ≤ 2 * m2) ∧ (e2 = en ∨ f e2 = none) ∧ CSt s2 l2 g2 z2 a2 x2 y2 (wkT T S nu.toInt ho1.toInt ho2.toInt Z.2.2.1.length 0 Z) ∧ fr [lg, en, lf, so, fc] f f2) := by
  refine gU_of (by decide) (Nat.le_of_ble_eq_true rfl) ?_
  show gG l _ _ _ D cy b cX1_wake 4 _ RX1 "wake" 0 0 f 0 [(0, .ref co), (1, .ref lf)] []
  refine gz_aload_n dX1_wake_0 rfl rfl ?_
  refine gz_ifnonnull (tgt := 5) dX1_wake_1 (by decide) ?_
  refine gz_iconst (v := 0) dX1_wake_5 (by decide) ?_
  refine gz_istore_n (lv' := [(2, .int 0), (0, .ref co), (1, .ref lf)]) dX1_wake_6 rfl (by decide) rfl ?_
  refine gz_aload_n dX1_wake_7 rfl rfl ?_
  refine scX1_88 (k_X5_size hlf) hlf ⟨(Nat.le_of_ble_eq_true rfl), (Nat.le_of_ble_eq_true rfl)⟩ ⟨(by simp only [gRm]; omega), (by simp only [gRm]; omega)⟩ rfl rfl (Nat.le_of_ble_eq_true rfl) dX1_wake_8 ?_
  intro v9 f9 z9; rw [z9.1, z9.2]
  refine gz_bipush (v := 40) dX1_wake_11 (by decide) ?_
  refine scX1_91 (Nat.le_of_ble_eq_true rfl) (Nat.le_of_ble_eq_true rfl) (by simp only [gRm]; omega) (by simp only [gRm]; omega) (Nat.le_of_ble_eq_true rfl) dX1_wake_13 ?_
  refine gz_istore_n (lv' := [(3, .int (if 40 < fs_ then 40 else fs_)), (2, .int 0), (0, .ref co), (1, .ref lf)]) dX1_wake_16 rfl (by decide) rfl ?_
  refine gz_sub (lv' := [(3, .int (if 40 < fs_ then 40 else fs_)), (2, .int 0), (0, .ref co), (1, .ref lf)]) (by simp [List.lookup]) ?_
  have hfs := hZ.2.1
  have him : (if 40 < fs_ then 40 else fs_).toInt = (Z.2.2.1.length : Int) := by have e40_ : (40 : Int32).toInt = 40 := rfl; by_cases c9 : 40 < fs_; (rw [fl_lt] at c9; exfalso; omega); (rw [if_neg c9]; exact hfs.1)
  exact l_X1_wakeE hs hv hne hcT_ hSn 41 (if 40 < fs_ then 40 else fs_) 0 en ne eg sz lo fs_ ga sg fg 0 0 Z _ fr_rf hco hlf hso hfc hp h1 h2 hsc hth hlg hen hl hen2 (Or.inl rfl) ⟨by omega, by omega⟩ ⟨min40, by decide, by have := @min40 fs_; omega⟩ hZ hQ ⟨by omega, by decide, by rw [him]; have e0_ : (0 : Int32).toInt = 0 := rfl; omega⟩ (by rw [him, Int.toNat_natCast]; rfl)
