def rP (l : Launch) (D : va_G) (cy : Nat → ClassId) (b wo we stp pa ba td p c1 c2 n1 n2 : Nat) (sz ah gl s v : Int32) (weg stg g h : Nat → Int32) (pg : Nat → Option Nat) (P Q : Nat → Nat) (k : Nat) : Prop := ∀ (wd fa st : Int32) (f : gMem), (f wo = some (.inr (10, [.int sz, .ref we, .ref stp, .ref pa, .ref ba, .ref td, .ref p, .int ah, .int gl]))) → (f we = some (.inl (cy 0, 3, .inl (weg)))) → (f stp = some (.inl (cy 0, 18, .inl (stg)))) → (f pa = some (.inl (cy 6, 5, .inr (.inr (.inr (.inr (pg))))))) → (f p = some (.inr (2, [.ref c1, .ref c2, .int s, .int v]))) → (f c1 = some (.inl (cy 0, n1, .inl (g)))) → (f c2 = some (.inl (cy 0, n2, .inl (h)))) → (pF cy P Q f) → (0 ≤ st.toInt ∧ st.toInt ≤ 4) → (0 < k ∧ (0 ≤ wd.toInt → 1 < k ∧ 41 * (4 - st.toInt) + (s.toInt - wd.toInt) + 1 < (k : Int))) → gC l D cy b yX10_reaches cX10_reaches 7 (some .boolean) (4 + 2 * k) 0 0 [.ref wo, .int wd, .int fa, .int st] f (pI fun r f2 => (r = 0 ∨ r = 1) ∧ pF cy P Q f2 ∧ fr (scL P Q) f f2)

set_option maxHeartbeats 4000000 in
set_option maxRecDepth 100000 in
theorem l_X10_later {l : Launch} {D : va_G} {cy : Nat → ClassId} {b : Nat} {f : gMem} {wo we stp pa ba td p c1 c2 n1 n2 : Nat} {sz ah gl s v : Int32} {weg stg g h : Nat → Int32} {pg : Nat → Option Nat} {P Q : Nat → Nat} {wd fa st : Int32} {k0 : Nat} (hs : 0 ≤ s.toInt ∧ 13 * s.toInt ≤ n1 ∧ n1 ≤ 520) (hv : 0 ≤ v.toInt ∧ 2 * v.toInt ≤ n2 ∧ n2 ≤ 80) (hI : fI g s.toInt) (hz : sz.toInt ≤ 3) (ha : ah.toInt ≤ 4) (hpg : ∀ ii : Nat, ii < 5 → pg ii = some (P ii)) (hPQ : ∀ ii jj : Nat, ii < 5 → jj < 5 → ii ≠ jj → P ii ≠ P jj ∧ Q ii ≠ Q jj) (hD : ∀ xx : Nat, xx ∈ [wo, we, stp, pa, p, c1, c2] → xx ∉ scL P Q) (hsr : 0 ≤ st.toInt ∧ st.toInt ≤ 3) (hw : 0 ≤ wd.toInt ∧ wd.toInt < s.toInt ∧ 41 * (4 - st.toInt) + (s.toInt - wd.toInt) + 1 ≤ (k0 : Int)) (VP : rP l D cy b wo we stp pa ba td p c1 c2 n1 n2 sz ah gl s v weg stg g h pg P Q k0) : ∀ (k : Nat) (i : Int32) (fm : gMem), fr (scL P Q) f fm → (fm wo = some (.inr (10, [.int sz, .ref we, .ref stp, .ref pa, .ref ba, .ref td, .ref p, .int ah, .int gl]))) → (fm we = some (.inl (cy 0, 3, .inl (weg)))) → (fm stp = some (.inl (cy 0, 18, .inl (stg)))) → (fm pa = some (.inl (cy 6, 5, .inr (.inr (.inr (.inr (pg))))))) → (fm p = some (.inr (2, [.ref c1, .ref c2, .int s, .int v]))) → (fm c1 = some (.inl (cy 0, n1, .inl (g)))) → (fm c2 = some (.inl (cy 0, n2, .inl (h)))) → (pF cy P Q fm) → (0 ≤ i.toInt ∧ 0 < k ∧ (i.toInt < sz.toInt → sz.toInt - i.toInt < (k : Int))) → gG l (gRm (4 + 2 * k0 + 1) 0 0) (gQf D b (pI fun r f2 => (r = 0 ∨ r = 1) ∧ pF cy P Q f2 ∧ fr (scL P Q) f f2) 0 0) gTt D cy b cX10_reachesLater 5 (some .boolean) RX10 "reachesLater" (0) (0) fm 13 [(4, .int i), (0, .ref wo), (1, .int wd), (2, .int fa), (3, .int st)] [] := by
  intro k
  induction k with
  | zero =>
    intro i fm hfr hwo hwe hst hpa hp h1 h2 hF hk
    exfalso; omega
  | succ k ih =>
    intro i fm hfr hwo hwe hst hpa hp h1 h2 hF hk
    refine gz_iload dX10_reachesLater_13 rfl ?_
    refine gz_aload_n dX10_reachesLater_15 rfl rfl ?_
    refine sgX10_9 hwo rfl dX10_reachesLater_16 ?_
    refine gz_icmp_ge (tgt := 49) dX10_reachesLater_19 (by decide) (fun c_19 => ?_) (fun c_19 => ?_)
    ·
      refine gz_iconst (v := 0) dX10_reachesLater_49 (by decide) ?_
      exact gz_zret rfl (by first | decide | exact nrb (Or.inl rfl) | (refine nrb ?_; (repeat' split) <;> first | assumption | exact Or.inl rfl | exact Or.inr rfl)) dX10_reachesLater_50 (Nat.zero_le _) (Nat.zero_le _) (⟨_, rfl, (by first | assumption | exact Or.inl rfl | exact Or.inr rfl), hF, hfr⟩)
    ·
      refine gz_aload_n dX10_reachesLater_22 rfl rfl ?_
      refine gz_iload_n dX10_reachesLater_23 rfl rfl ?_
      refine gz_iload dX10_reachesLater_24 rfl ?_
      have hs1 : (st + 1).toInt = st.toInt + 1 := by have e1 : (1 : Int32).toInt = 1 := rfl; exact T_add (rfl : st.toInt = st.toInt) e1 (by omega)
      have hsn : scI st ≠ scI (st + 1) := by rw [scI_eq hsr.1 (by omega), scI_eq (by omega) (by omega), hs1]; omega
      obtain ⟨dau1, tu1, hPu1, hQu1⟩ := hF (scI st) (scI_lt st)
      obtain ⟨dau2, tu2, hPu2, hQu2⟩ := hF (scI (st + 1)) (scI_lt (st + 1))
      have hz1 := hPQ _ _ (scI_lt st) (scI_lt (st + 1)) hsn
      refine scX10_126 (k_X10_go (st := st) (wy := i) hwo hst hpa hPu1 hQu1 hPu2 hQu2 ⟨hz1.2, hz1.1, (fun q => hD stp (by simp) (q ▸ (scL_in (scI_lt (st + 1))).2))⟩ (hpg _ (scI_lt st)) (hpg _ (scI_lt (st + 1)))) hwo ⟨(by simp only [gRm]; omega), (by simp only [gRm]; omega)⟩ ⟨(Nat.zero_le _), (Nat.zero_le _)⟩ rfl rfl (Nat.le_of_ble_eq_true rfl) dX10_reachesLater_26 ?_
      rintro f1 ⟨d1, t1, hga, hgb, hgr1⟩
      have hF1 := pF_up (scI_lt (st + 1)) hPQ hF hga hgb hgr1
      have hr1 := fr_mo hgr1 (scL_sub (P := P) (Q := Q) (scI_lt (st + 1)))
      clear hs1 hsn hz1 hga hgb hgr1
      have hwo_1 : f1 wo = some (.inr (10, [.int sz, .ref we, .ref stp, .ref pa, .ref ba, .ref td, .ref p, .int ah, .int gl])) := hr1 _ _ hwo (hD _ (by simp))
      have hwe_1 : f1 we = some (.inl (cy 0, 3, .inl (weg))) := hr1 _ _ hwe (hD _ (by simp))
      have hst_1 : f1 stp = some (.inl (cy 0, 18, .inl (stg))) := hr1 _ _ hst (hD _ (by simp))
      have hpa_1 : f1 pa = some (.inl (cy 6, 5, .inr (.inr (.inr (.inr (pg)))))) := hr1 _ _ hpa (hD _ (by simp))
      have hp_1 : f1 p = some (.inr (2, [.ref c1, .ref c2, .int s, .int v])) := hr1 _ _ hp (hD _ (by simp))
      have h1_1 : f1 c1 = some (.inl (cy 0, n1, .inl (g))) := hr1 _ _ h1 (hD _ (by simp))
      have h2_1 : f1 c2 = some (.inl (cy 0, n2, .inl (h))) := hr1 _ _ h2 (hD _ (by simp))
      refine gz_aload_n dX10_reachesLater_29 rfl rfl ?_
      refine gz_iload_n dX10_reachesLater_30 rfl rfl ?_
      refine gz_iload_n dX10_reachesLater_31 rfl rfl ?_
      refine gz_iload_n dX10_reachesLater_32 rfl rfl ?_
      refine gz_iconst (v := 1) dX10_reachesLater_33 (by decide) ?_
      refine gz_iadd dX10_reachesLater_34 ?_
      refine scX10_129 (VP wd fa (st + 1) _ hwo_1 hwe_1 hst_1 hpa_1 hp_1 h1_1 h2_1 hF1 (by have e1 : (1 : Int32).toInt = 1 := rfl; have hx := T_add (rfl : st.toInt = st.toInt) e1 (by omega); rw [hx]; omega) (by have e1 : (1 : Int32).toInt = 1 := rfl; have hx := T_add (rfl : st.toInt = st.toInt) e1 (by omega); rw [hx]; omega)) hwo_1 ⟨(by simp only [gRm]; omega), (by simp only [gRm]; omega)⟩ ⟨(Nat.zero_le _), (Nat.zero_le _)⟩ rfl rfl (Nat.le_of_ble_eq_true rfl) dX10_reachesLater_35 ?_
      rintro r2 f2 ⟨hb2, hF2, hr2⟩
      have hwo_2 : f2 wo = some (.inr (10, [.int sz, .ref we, .ref stp, .ref pa, .ref ba, .ref td, .ref p, .int ah, .int gl])) := hr2 _ _ hwo_1 (hD _ (by simp))
      have hwe_2 : f2 we = some (.inl (cy 0, 3, .inl (weg))) := hr2 _ _ hwe_1 (hD _ (by simp))
      have hst_2 : f2 stp = some (.inl (cy 0, 18, .inl (stg))) := hr2 _ _ hst_1 (hD _ (by simp))
      have hpa_2 : f2 pa = some (.inl (cy 6, 5, .inr (.inr (.inr (.inr (pg)))))) := hr2 _ _ hpa_1 (hD _ (by simp))
      have hp_2 : f2 p = some (.inr (2, [.ref c1, .ref c2, .int s, .int v])) := hr2 _ _ hp_1 (hD _ (by simp))
      have h1_2 : f2 c1 = some (.inl (cy 0, n1, .inl (g))) := hr2 _ _ h1_1 (hD _ (by simp))
      have h2_2 : f2 c2 = some (.inl (cy 0, n2, .inl (h))) := hr2 _ _ h2_1 (hD _ (by simp))
      refine gz_if_eq (tgt := 43) dX10_reachesLater_38 (by decide) (fun c_38 => ?_) (fun c_38 => ?_)
      ·
        refine gz_iinc (v := (i + 1)) (lv' := [(4, .int (i + 1)), (0, .ref wo), (1, .int wd), (2, .int fa), (3, .int st)]) dX10_reachesLater_43 rfl rfl (by decide) rfl ?_
        refine gz_goto (tgt := 13) dX10_reachesLater_46 (by decide) ?_
        refine gz_sub (lv' := [(4, .int (i + 1)), (0, .ref wo), (1, .int wd), (2, .int fa), (3, .int st)]) (by simp [List.lookup]) ?_
        exact ih (i + 1) _ (fr_tr (fr_tr hfr (fr_mo hr1 (by simp))) (fr_mo hr2 (by simp))) hwo_2 hwe_2 hst_2 hpa_2 hp_2 h1_2 h2_2 (hF2) (by have e1 : (1 : Int32).toInt = 1 := rfl; simp only [fl_le] at c_19; have hx := T_add (rfl : i.toInt = i.toInt) e1 (by omega); omega)
      ·
        refine gz_iconst (v := 1) dX10_reachesLater_41 (by decide) ?_
        exact gz_zret rfl (by first | decide | exact nrb (Or.inl rfl) | (refine nrb ?_; (repeat' split) <;> first | assumption | exact Or.inl rfl | exact Or.inr rfl)) dX10_reachesLater_42 (Nat.zero_le _) (Nat.zero_le _) (⟨_, rfl, (by first | assumption | exact Or.inl rfl | exact Or.inr rfl), hF2, (fr_tr (fr_tr hfr (fr_mo hr1 (by simp))) (fr_mo hr2 (by simp)))⟩)

set_option maxHeartbeats 4000000 in
set_option maxRecDepth 100000 in
theorem k_X10_reachesLater {l : Launch} {D : va_G} {cy : Nat → ClassId} {b : Nat} {f : gMem} {wo we stp pa ba td p c1 c2 n1 n2 : Nat} {sz ah gl s v : Int32} {weg stg g h : Nat → Int32} {pg : Nat → Option Nat} {P Q : Nat → Nat} {wd fa st : Int32} {k0 : Nat} (hwo : f wo = some (.inr (10, [.int sz, .ref we, .ref stp, .ref pa, .ref ba, .ref td, .ref p, .int ah, .int gl]))) (hwe : f we = some (.inl (cy 0, 3, .inl (weg)))) (hst : f stp = some (.inl (cy 0, 18, .inl (stg)))) (hpa : f pa = some (.inl (cy 6, 5, .inr (.inr (.inr (.inr (pg))))))) (hp : f p = some (.inr (2, [.ref c1, .ref c2, .int s, .int v]))) (h1 : f c1 = some (.inl (cy 0, n1, .inl (g)))) (h2 : f c2 = some (.inl (cy 0, n2, .inl (h)))) (hs : 0 ≤ s.toInt ∧ 13 * s.toInt ≤ n1 ∧ n1 ≤ 520) (hv : 0 ≤ v.toInt ∧ 2 * v.toInt ≤ n2 ∧ n2 ≤ 80) (hI : fI g s.toInt) (hz : sz.toInt ≤ 3) (ha : ah.toInt ≤ 4) (hpg : ∀ ii : Nat, ii < 5 → pg ii = some (P ii)) (hPQ : ∀ ii jj : Nat, ii < 5 → jj < 5 → ii ≠ jj → P ii ≠ P jj ∧ Q ii ≠ Q jj) (hD : ∀ xx : Nat, xx ∈ [wo, we, stp, pa, p, c1, c2] → xx ∉ scL P Q) (hF : pF cy P Q f) (hsr : 0 ≤ st.toInt ∧ st.toInt ≤ 4) (hw : 0 ≤ wd.toInt ∧ wd.toInt < s.toInt ∧ 41 * (4 - st.toInt) + (s.toInt - wd.toInt) + 1 ≤ (k0 : Int)) (VP : rP l D cy b wo we stp pa ba td p c1 c2 n1 n2 sz ah gl s v weg stg g h pg P Q k0) : gC l D cy b yX10_reachesLater cX10_reachesLater 5 (some .boolean) (4 + 2 * k0 + 1) 0 0 [.ref wo, .int wd, .int fa, .int st] f (pI fun r f2 => (r = 0 ∨ r = 1) ∧ pF cy P Q f2 ∧ fr (scL P Q) f f2) := by
  refine gC_of (by decide) (Nat.le_of_ble_eq_true rfl) ?_
  show gG l _ _ _ D cy b cX10_reachesLater 5 _ RX10 "reachesLater" 0 0 f 0 [(0, .ref wo), (1, .int wd), (2, .int fa), (3, .int st)] []
  refine gz_iload_n dX10_reachesLater_0 rfl rfl ?_
  refine gz_aload_n dX10_reachesLater_1 rfl rfl ?_
  refine sgX10_56 hwo rfl dX10_reachesLater_2 ?_
  refine gz_icmp_lt (tgt := 10) dX10_reachesLater_5 (by decide) (fun c_5 => ?_) (fun c_5 => ?_)
  ·
    refine gz_iconst (v := 0) dX10_reachesLater_10 (by decide) ?_
    refine gz_istore (lv' := [(4, .int 0), (0, .ref wo), (1, .int wd), (2, .int fa), (3, .int st)]) dX10_reachesLater_11 (by decide) rfl ?_
    refine gz_sub (lv' := [(4, .int 0), (0, .ref wo), (1, .int wd), (2, .int fa), (3, .int st)]) (by simp [List.lookup]) ?_
    exact l_X10_later hs hv hI hz ha hpg hPQ hD ⟨hsr.1, by simp only [fl_lt] at c_5; omega⟩ hw VP 4 0 _ fr_rf hwo hwe hst hpa hp h1 h2 (hF) (⟨by decide, by decide, fun _ => by have e0 : (0 : Int32).toInt = 0 := rfl; omega⟩)
  ·
    refine gz_iconst (v := 0) dX10_reachesLater_8 (by decide) ?_
    exact gz_zret rfl (by first | decide | exact nrb (Or.inl rfl) | (refine nrb ?_; (repeat' split) <;> first | assumption | exact Or.inl rfl | exact Or.inr rfl)) dX10_reachesLater_9 (Nat.le_of_ble_eq_true rfl) (Nat.le_of_ble_eq_true rfl) (⟨_, rfl, (by first | assumption | exact Or.inl rfl | exact Or.inr rfl), hF, fr_rf⟩)

set_option maxHeartbeats 4000000 in
set_option maxRecDepth 100000 in
theorem k_X10_reaches {l : Launch} {D : va_G} {cy : Nat → ClassId} {b : Nat} {wo we stp pa ba td p c1 c2 n1 n2 : Nat} {sz ah gl s v : Int32} {weg stg g h : Nat → Int32} {pg : Nat → Option Nat} {P Q : Nat → Nat}   (hs : 0 ≤ s.toInt ∧ 13 * s.toInt ≤ n1 ∧ n1 ≤ 520) (hv : 0 ≤ v.toInt ∧ 2 * v.toInt ≤ n2 ∧ n2 ≤ 80) (hI : fI g s.toInt) (hz : sz.toInt ≤ 3) (ha : ah.toInt ≤ 4) (hpg : ∀ ii : Nat, ii < 5 → pg ii = some (P ii)) (hPQ : ∀ ii jj : Nat, ii < 5 → jj < 5 → ii ≠ jj → P ii ≠ P jj ∧ Q ii ≠ Q jj) (hD : ∀ xx : Nat, xx ∈ [wo, we, stp, pa, p, c1, c2] → xx ∉ scL P Q) : ∀ (k : Nat) (wd fa st : Int32) (f : gMem), (f wo = some (.inr (10, [.int sz, .ref we, .ref stp, .ref pa, .ref ba, .ref td, .ref p, .int ah, .int gl]))) → (f we = some (.inl (cy 0, 3, .inl (weg)))) → (f stp = some (.inl (cy 0, 18, .inl (stg)))) → (f pa = some (.inl (cy 6, 5, .inr (.inr (.inr (.inr (pg))))))) → (f p = some (.inr (2, [.ref c1, .ref c2, .int s, .int v]))) → (f c1 = some (.inl (cy 0, n1, .inl (g)))) → (f c2 = some (.inl (cy 0, n2, .inl (h)))) → (pF cy P Q f) → (0 ≤ st.toInt ∧ st.toInt ≤ 4) → (0 < k ∧ (0 ≤ wd.toInt → 1 < k ∧ 41 * (4 - st.toInt) + (s.toInt - wd.toInt) + 1 < (k : Int))) → gC l D cy b yX10_reaches cX10_reaches 7 (some .boolean) (4 + 2 * k) 0 0 [.ref wo, .int wd, .int fa, .int st] f (pI fun r f2 => (r = 0 ∨ r = 1) ∧ pF cy P Q f2 ∧ fr (scL P Q) f f2) := by
  intro k
  induction k with
  | zero =>
    intro wd fa st f hwo hwe hst hpa hp h1 h2 hF hsr hk
    exfalso; omega
  | succ k ih =>
    intro wd fa st f hwo hwe hst hpa hp h1 h2 hF hsr hk
    refine gC_of (by decide) (Nat.le_of_ble_eq_true rfl) ?_
    show gG l _ _ _ D cy b cX10_reaches 7 _ RX10 "reaches" 0 0 f 0 [(0, .ref wo), (1, .int wd), (2, .int fa), (3, .int st)] []
    refine gz_aload_n dX10_reaches_0 rfl rfl ?_
    refine gz_iload_n dX10_reaches_1 rfl rfl ?_
    refine scX10_66 (k_X10_sceneAt (st := st) hwo hpa) hwo ⟨(by simp only [gRm]; omega), (by simp only [gRm]; omega)⟩ ⟨(Nat.le_of_ble_eq_true rfl), (Nat.le_of_ble_eq_true rfl)⟩ rfl rfl (Nat.le_of_ble_eq_true rfl) dX10_reaches_2 ?_
    rintro u9 f9 ⟨z9, y9⟩; rw [z9, y9]
    refine gz_ev (w := .ref (P (scI st))) (by rw [hpg _ (scI_lt st)]; rfl) ?_
    obtain ⟨dau1, tu1, hPu1, hQu1⟩ := hF (scI st) (scI_lt st)
    refine gz_astore (lv' := [(4, .ref (P (scI st))), (0, .ref wo), (1, .int wd), (2, .int fa), (3, .int st)]) dX10_reaches_5 (by decide) rfl ?_
    refine gz_iload_n dX10_reaches_7 rfl rfl ?_
    refine gz_if_lt (tgt := 24) dX10_reaches_8 (by decide) (fun c_8 => ?_) (fun c_8 => ?_)
    ·
      refine gz_iconst (v := 0) dX10_reaches_24 (by decide) ?_
      exact gz_zret rfl (by first | decide | exact nrb (Or.inl rfl) | (refine nrb ?_; (repeat' split) <;> first | assumption | exact Or.inl rfl | exact Or.inr rfl)) dX10_reaches_25 (Nat.le_of_ble_eq_true rfl) (Nat.le_of_ble_eq_true rfl) (⟨_, rfl, (by first | assumption | exact Or.inl rfl | exact Or.inr rfl), hF, fr_rf⟩)
    ·
      refine gz_aload_n dX10_reaches_11 rfl rfl ?_
      refine sgX10_37 hwo rfl dX10_reaches_12 ?_
      refine gz_iload_n dX10_reaches_15 rfl rfl ?_
      refine gz_aload dX10_reaches_16 rfl ?_
      refine scX10_87 (k_X2_lapsed (w := wd) hp h1 h2 hPu1 hQu1 hs hv) hp ⟨(by simp only [gRm]; omega), (by simp only [gRm]; omega)⟩ ⟨(Nat.le_of_ble_eq_true rfl), (Nat.le_of_ble_eq_true rfl)⟩ rfl rfl (Nat.le_of_ble_eq_true rfl) dX10_reaches_18 ?_
      intro v9 f9 z9; rw [z9.1, z9.2]
      refine gz_if_eq (tgt := 26) dX10_reaches_21 (by decide) (fun c_21 => ?_) (fun c_21 => ?_)
      ·
        refine gz_iload_n dX10_reaches_26 rfl rfl ?_
        refine gz_iload_n dX10_reaches_27 rfl rfl ?_
        refine gz_icmp_ne (tgt := 33) dX10_reaches_28 (by decide) (fun c_28 => ?_) (fun c_28 => ?_)
        ·
          refine gz_aload_n dX10_reaches_33 rfl rfl ?_
          refine sgX10_37 hwo rfl dX10_reaches_34 ?_
          refine gz_iload_n dX10_reaches_37 rfl rfl ?_
          refine gz_iconst (v := 4) dX10_reaches_38 (by decide) ?_
          refine scX10_91 (k_X2_field (w := wd) (k := 4) hp h1 hs) hp ⟨(by simp only [gRm]; omega), (by simp only [gRm]; omega)⟩ ⟨(Nat.le_of_ble_eq_true rfl), (Nat.le_of_ble_eq_true rfl)⟩ rfl rfl (Nat.le_of_ble_eq_true rfl) dX10_reaches_39 ?_
          intro v9 f9 z9; rw [z9.1, z9.2]
          refine gz_istore (lv' := [(5, .int (fldF n1 g s wd 4)), (4, .ref (P (scI st))), (0, .ref wo), (1, .int wd), (2, .int fa), (3, .int st)]) dX10_reaches_42 (by decide) rfl ?_
          refine gz_iload dX10_reaches_44 rfl ?_
          refine gz_iconst (v := (-1)) dX10_reaches_46 (by decide) ?_
          refine gz_icmp_eq (tgt := 61) dX10_reaches_47 (by decide) (fun c_47 => ?_) (fun c_47 => ?_)
          ·
            refine gz_aload_n dX10_reaches_61 rfl rfl ?_
            refine sgX10_37 hwo rfl dX10_reaches_62 ?_
            refine gz_iload_n dX10_reaches_65 rfl rfl ?_
            refine gz_iconst (v := 3) dX10_reaches_66 (by decide) ?_
            refine scX10_91 (k_X2_field (w := wd) (k := 3) hp h1 hs) hp ⟨(by simp only [gRm]; omega), (by simp only [gRm]; omega)⟩ ⟨(Nat.le_of_ble_eq_true rfl), (Nat.le_of_ble_eq_true rfl)⟩ rfl rfl (Nat.le_of_ble_eq_true rfl) dX10_reaches_67 ?_
            intro v9 f9 z9; rw [z9.1, z9.2]
            refine gz_istore (lv' := [(6, .int (fldF n1 g s wd 3)), (5, .int (fldF n1 g s wd 4)), (4, .ref (P (scI st))), (0, .ref wo), (1, .int wd), (2, .int fa), (3, .int st)]) dX10_reaches_70 (by decide) rfl ?_
            refine gz_aload_n dX10_reaches_72 rfl rfl ?_
            refine sgX10_37 hwo rfl dX10_reaches_73 ?_
            refine gz_iload_n dX10_reaches_76 rfl rfl ?_
            refine gz_iconst (v := 0) dX10_reaches_77 (by decide) ?_
            refine scX10_91 (k_X2_field (w := wd) (k := 0) hp h1 hs) hp ⟨(by simp only [gRm]; omega), (by simp only [gRm]; omega)⟩ ⟨(Nat.le_of_ble_eq_true rfl), (Nat.le_of_ble_eq_true rfl)⟩ rfl rfl (Nat.le_of_ble_eq_true rfl) dX10_reaches_78 ?_
            intro v9 f9 z9; rw [z9.1, z9.2]
            by_cases hw_81_0 : (fldF n1 g s wd 0) = 5
            ·
              refine gz_ev (w := .int 5) (congrArg Value.int hw_81_0) ?_
              refine gz_tableIn (off := 27) (tgt := 108) dX10_reaches_81 (by decide) (by decide) rfl (by decide) ?_
              refine gz_aload_n dX10_reaches_108 rfl rfl ?_
              refine sgX10_37 hwo rfl dX10_reaches_109 ?_
              refine gz_iload_n dX10_reaches_112 rfl rfl ?_
              refine gz_aload dX10_reaches_113 rfl ?_
              refine scX10_113 (k_X2_nextDeed (w := wd) hp h1 hPu1 hs) hp ⟨(by simp only [gRm]; omega), (by simp only [gRm]; omega)⟩ ⟨(Nat.le_of_ble_eq_true rfl), (Nat.le_of_ble_eq_true rfl)⟩ rfl rfl (Nat.le_of_ble_eq_true rfl) dX10_reaches_115 ?_
              intro v9 f9 z9; rw [z9.1, z9.2]
              refine gz_iload dX10_reaches_118 rfl ?_
              refine gz_icmp_ne (tgt := 138) dX10_reaches_120 (by decide) (fun c_120 => ?_) (fun c_120 => ?_)
              ·
                refine gz_iconst (v := 0) dX10_reaches_138 (by decide) ?_
                exact gz_zret rfl (by first | decide | exact nrb (Or.inl rfl) | (refine nrb ?_; (repeat' split) <;> first | assumption | exact Or.inl rfl | exact Or.inr rfl)) dX10_reaches_139 (Nat.le_of_ble_eq_true rfl) (Nat.le_of_ble_eq_true rfl) (⟨_, rfl, (by first | assumption | exact Or.inl rfl | exact Or.inr rfl), hF, fr_rf⟩)
              ·
                refine gz_aload_n dX10_reaches_123 rfl rfl ?_
                refine gz_iload dX10_reaches_124 rfl ?_
                refine gz_iload_n dX10_reaches_126 rfl rfl ?_
                refine gz_iload_n dX10_reaches_127 rfl rfl ?_
                refine scX10_129 (ih (fldF n1 g s wd 3) fa st _ hwo hwe hst hpa hp h1 h2 hF hsr (by have e0 : (0 : Int32).toInt = 0 := rfl; have hc8 := c_8; simp only [fl_lt] at hc8; have z3 := fI_first (w := wd) hs hI; have z4 := fI_second (w := wd) hs hI; omega)) hwo ⟨(by simp only [gRm]; omega), (by simp only [gRm]; omega)⟩ ⟨(Nat.le_of_ble_eq_true rfl), (Nat.le_of_ble_eq_true rfl)⟩ rfl rfl (Nat.le_of_ble_eq_true rfl) dX10_reaches_128 ?_
                rintro r1 f1 ⟨hb1, hF1, hr1⟩
                have hwo_1 : f1 wo = some (.inr (10, [.int sz, .ref we, .ref stp, .ref pa, .ref ba, .ref td, .ref p, .int ah, .int gl])) := hr1 _ _ hwo (hD _ (by simp))
                have hwe_1 : f1 we = some (.inl (cy 0, 3, .inl (weg))) := hr1 _ _ hwe (hD _ (by simp))
                have hst_1 : f1 stp = some (.inl (cy 0, 18, .inl (stg))) := hr1 _ _ hst (hD _ (by simp))
                have hpa_1 : f1 pa = some (.inl (cy 6, 5, .inr (.inr (.inr (.inr (pg)))))) := hr1 _ _ hpa (hD _ (by simp))
                have hp_1 : f1 p = some (.inr (2, [.ref c1, .ref c2, .int s, .int v])) := hr1 _ _ hp (hD _ (by simp))
                have h1_1 : f1 c1 = some (.inl (cy 0, n1, .inl (g))) := hr1 _ _ h1 (hD _ (by simp))
                have h2_1 : f1 c2 = some (.inl (cy 0, n2, .inl (h))) := hr1 _ _ h2 (hD _ (by simp))
                obtain ⟨dau2, tu2, hPu2, hQu2⟩ := hF1 (scI st) (scI_lt st)
                refine gz_if_eq (tgt := 138) dX10_reaches_131 (by decide) (fun c_131 => ?_) (fun c_131 => ?_)
                ·
                  refine gz_iconst (v := 0) dX10_reaches_138 (by decide) ?_
                  exact gz_zret rfl (by first | decide | exact nrb (Or.inl rfl) | (refine nrb ?_; (repeat' split) <;> first | assumption | exact Or.inl rfl | exact Or.inr rfl)) dX10_reaches_139 (Nat.le_of_ble_eq_true rfl) (Nat.le_of_ble_eq_true rfl) (⟨_, rfl, (by first | assumption | exact Or.inl rfl | exact Or.inr rfl), hF1, (fr_tr fr_rf (fr_mo hr1 (by simp)))⟩)
                ·
                  refine gz_iconst (v := 1) dX10_reaches_134 (by decide) ?_
                  refine gz_goto (tgt := 139) dX10_reaches_135 (by decide) ?_
                  exact gz_zret rfl (by first | decide | exact nrb (Or.inl rfl) | (refine nrb ?_; (repeat' split) <;> first | assumption | exact Or.inl rfl | exact Or.inr rfl)) dX10_reaches_139 (Nat.le_of_ble_eq_true rfl) (Nat.le_of_ble_eq_true rfl) (⟨_, rfl, (by first | assumption | exact Or.inl rfl | exact Or.inr rfl), hF1, (fr_tr fr_rf (fr_mo hr1 (by simp)))⟩)
            ·
              by_cases hw_81_1 : (fldF n1 g s wd 0) = 6
              ·
                refine gz_ev (w := .int 6) (congrArg Value.int hw_81_1) ?_
                refine gz_tableIn (off := 59) (tgt := 140) dX10_reaches_81 (by decide) (by decide) rfl (by decide) ?_
                refine gz_aload_n dX10_reaches_140 rfl rfl ?_
                refine sgX10_37 hwo rfl dX10_reaches_141 ?_
                refine gz_iload_n dX10_reaches_144 rfl rfl ?_
                refine gz_aload dX10_reaches_145 rfl ?_
                refine scX10_104 (k_X2_holds (w := wd) hp h1 h2 hPu1 hQu1 hs hv) hp ⟨(by simp only [gRm]; omega), (by simp only [gRm]; omega)⟩ ⟨(Nat.le_of_ble_eq_true rfl), (Nat.le_of_ble_eq_true rfl)⟩ rfl rfl (Nat.le_of_ble_eq_true rfl) dX10_reaches_147 ?_
                intro v9 f9 z9; rw [z9.1, z9.2]
                refine gz_if_eq (tgt := 164) dX10_reaches_150 (by decide) (fun c_150 => ?_) (fun c_150 => ?_)
                ·
                  refine gz_aload_n dX10_reaches_164 rfl rfl ?_
                  refine gz_iload_n dX10_reaches_165 rfl rfl ?_
                  refine gz_iload_n dX10_reaches_166 rfl rfl ?_
                  refine gz_iload_n dX10_reaches_167 rfl rfl ?_
                  refine scX10_133 (k_X10_reachesLater (wd := wd) (fa := fa) (st := st) hwo hwe hst hpa hp h1 h2 hs hv hI hz ha hpg hPQ hD hF hsr (by have hw := fld_kind (n1 := n1) (g := g) (s := s) (w := wd) (k := 0) (by rw [hw_81_1]; decide); omega) ih) hwo ⟨(by simp only [gRm]; omega), (by simp only [gRm]; omega)⟩ ⟨(Nat.le_of_ble_eq_true rfl), (Nat.le_of_ble_eq_true rfl)⟩ rfl rfl (Nat.le_of_ble_eq_true rfl) dX10_reaches_168 ?_
                  rintro r2 f2 ⟨hb2, hF2, hr2⟩
                  have hwo_2 : f2 wo = some (.inr (10, [.int sz, .ref we, .ref stp, .ref pa, .ref ba, .ref td, .ref p, .int ah, .int gl])) := hr2 _ _ hwo (hD _ (by simp))
                  have hwe_2 : f2 we = some (.inl (cy 0, 3, .inl (weg))) := hr2 _ _ hwe (hD _ (by simp))
                  have hst_2 : f2 stp = some (.inl (cy 0, 18, .inl (stg))) := hr2 _ _ hst (hD _ (by simp))
                  have hpa_2 : f2 pa = some (.inl (cy 6, 5, .inr (.inr (.inr (.inr (pg)))))) := hr2 _ _ hpa (hD _ (by simp))
                  have hp_2 : f2 p = some (.inr (2, [.ref c1, .ref c2, .int s, .int v])) := hr2 _ _ hp (hD _ (by simp))
                  have h1_2 : f2 c1 = some (.inl (cy 0, n1, .inl (g))) := hr2 _ _ h1 (hD _ (by simp))
                  have h2_2 : f2 c2 = some (.inl (cy 0, n2, .inl (h))) := hr2 _ _ h2 (hD _ (by simp))
                  obtain ⟨dau3, tu3, hPu3, hQu3⟩ := hF2 (scI st) (scI_lt st)
                  exact gz_zret rfl (by first | decide | exact nrb (Or.inl rfl) | (refine nrb ?_; (repeat' split) <;> first | assumption | exact Or.inl rfl | exact Or.inr rfl)) dX10_reaches_171 (Nat.le_of_ble_eq_true rfl) (Nat.le_of_ble_eq_true rfl) (⟨_, rfl, (by first | assumption | exact Or.inl rfl | exact Or.inr rfl), hF2, (fr_tr fr_rf (fr_mo hr2 (by simp)))⟩)
                ·
                  refine gz_aload_n dX10_reaches_153 rfl rfl ?_
                  refine gz_iload dX10_reaches_154 rfl ?_
                  refine gz_iload_n dX10_reaches_156 rfl rfl ?_
                  refine gz_iload_n dX10_reaches_157 rfl rfl ?_
                  refine scX10_129 (ih (fldF n1 g s wd 3) fa st _ hwo hwe hst hpa hp h1 h2 hF hsr (by have e0 : (0 : Int32).toInt = 0 := rfl; have hc8 := c_8; simp only [fl_lt] at hc8; have z3 := fI_first (w := wd) hs hI; have z4 := fI_second (w := wd) hs hI; omega)) hwo ⟨(by simp only [gRm]; omega), (by simp only [gRm]; omega)⟩ ⟨(Nat.le_of_ble_eq_true rfl), (Nat.le_of_ble_eq_true rfl)⟩ rfl rfl (Nat.le_of_ble_eq_true rfl) dX10_reaches_158 ?_
                  rintro r3 f3 ⟨hb3, hF3, hr3⟩
                  have hwo_3 : f3 wo = some (.inr (10, [.int sz, .ref we, .ref stp, .ref pa, .ref ba, .ref td, .ref p, .int ah, .int gl])) := hr3 _ _ hwo (hD _ (by simp))
                  have hwe_3 : f3 we = some (.inl (cy 0, 3, .inl (weg))) := hr3 _ _ hwe (hD _ (by simp))
                  have hst_3 : f3 stp = some (.inl (cy 0, 18, .inl (stg))) := hr3 _ _ hst (hD _ (by simp))
                  have hpa_3 : f3 pa = some (.inl (cy 6, 5, .inr (.inr (.inr (.inr (pg)))))) := hr3 _ _ hpa (hD _ (by simp))
                  have hp_3 : f3 p = some (.inr (2, [.ref c1, .ref c2, .int s, .int v])) := hr3 _ _ hp (hD _ (by simp))
                  have h1_3 : f3 c1 = some (.inl (cy 0, n1, .inl (g))) := hr3 _ _ h1 (hD _ (by simp))
                  have h2_3 : f3 c2 = some (.inl (cy 0, n2, .inl (h))) := hr3 _ _ h2 (hD _ (by simp))
                  obtain ⟨dau4, tu4, hPu4, hQu4⟩ := hF3 (scI st) (scI_lt st)
                  refine gz_goto (tgt := 171) dX10_reaches_161 (by decide) ?_
                  exact gz_zret rfl (by first | decide | exact nrb (Or.inl rfl) | (refine nrb ?_; (repeat' split) <;> first | assumption | exact Or.inl rfl | exact Or.inr rfl)) dX10_reaches_171 (Nat.le_of_ble_eq_true rfl) (Nat.le_of_ble_eq_true rfl) (⟨_, rfl, (by first | assumption | exact Or.inl rfl | exact Or.inr rfl), hF3, (fr_tr fr_rf (fr_mo hr3 (by simp)))⟩)
              ·
                by_cases hw_81_2 : (fldF n1 g s wd 0) = 7
                ·
                  refine gz_ev (w := .int 7) (congrArg Value.int hw_81_2) ?_
                  refine gz_tableIn (off := 91) (tgt := 172) dX10_reaches_81 (by decide) (by decide) rfl (by decide) ?_
                  refine gz_aload_n dX10_reaches_172 rfl rfl ?_
                  refine sgX10_37 hwo rfl dX10_reaches_173 ?_
                  refine gz_iload_n dX10_reaches_176 rfl rfl ?_
                  refine gz_aload dX10_reaches_177 rfl ?_
                  refine scX10_104 (k_X2_holds (w := wd) hp h1 h2 hPu1 hQu1 hs hv) hp ⟨(by simp only [gRm]; omega), (by simp only [gRm]; omega)⟩ ⟨(Nat.le_of_ble_eq_true rfl), (Nat.le_of_ble_eq_true rfl)⟩ rfl rfl (Nat.le_of_ble_eq_true rfl) dX10_reaches_179 ?_
                  intro v9 f9 z9; rw [z9.1, z9.2]
                  refine gz_if_eq (tgt := 196) dX10_reaches_182 (by decide) (fun c_182 => ?_) (fun c_182 => ?_)
                  ·
                    refine gz_aload_n dX10_reaches_196 rfl rfl ?_
                    refine gz_iload_n dX10_reaches_197 rfl rfl ?_
                    refine gz_iload_n dX10_reaches_198 rfl rfl ?_
                    refine gz_iload_n dX10_reaches_199 rfl rfl ?_
                    refine scX10_133 (k_X10_reachesLater (wd := wd) (fa := fa) (st := st) hwo hwe hst hpa hp h1 h2 hs hv hI hz ha hpg hPQ hD hF hsr (by have hw := fld_kind (n1 := n1) (g := g) (s := s) (w := wd) (k := 0) (by rw [hw_81_2]; decide); omega) ih) hwo ⟨(by simp only [gRm]; omega), (by simp only [gRm]; omega)⟩ ⟨(Nat.le_of_ble_eq_true rfl), (Nat.le_of_ble_eq_true rfl)⟩ rfl rfl (Nat.le_of_ble_eq_true rfl) dX10_reaches_200 ?_
                    rintro r4 f4 ⟨hb4, hF4, hr4⟩
                    have hwo_4 : f4 wo = some (.inr (10, [.int sz, .ref we, .ref stp, .ref pa, .ref ba, .ref td, .ref p, .int ah, .int gl])) := hr4 _ _ hwo (hD _ (by simp))
                    have hwe_4 : f4 we = some (.inl (cy 0, 3, .inl (weg))) := hr4 _ _ hwe (hD _ (by simp))
                    have hst_4 : f4 stp = some (.inl (cy 0, 18, .inl (stg))) := hr4 _ _ hst (hD _ (by simp))
                    have hpa_4 : f4 pa = some (.inl (cy 6, 5, .inr (.inr (.inr (.inr (pg)))))) := hr4 _ _ hpa (hD _ (by simp))
                    have hp_4 : f4 p = some (.inr (2, [.ref c1, .ref c2, .int s, .int v])) := hr4 _ _ hp (hD _ (by simp))
                    have h1_4 : f4 c1 = some (.inl (cy 0, n1, .inl (g))) := hr4 _ _ h1 (hD _ (by simp))
                    have h2_4 : f4 c2 = some (.inl (cy 0, n2, .inl (h))) := hr4 _ _ h2 (hD _ (by simp))
                    obtain ⟨dau5, tu5, hPu5, hQu5⟩ := hF4 (scI st) (scI_lt st)
                    refine gz_if_eq (tgt := 210) dX10_reaches_203 (by decide) (fun c_203 => ?_) (fun c_203 => ?_)
                    ·
                      refine gz_iconst (v := 0) dX10_reaches_210 (by decide) ?_
                      exact gz_zret rfl (by first | decide | exact nrb (Or.inl rfl) | (refine nrb ?_; (repeat' split) <;> first | assumption | exact Or.inl rfl | exact Or.inr rfl)) dX10_reaches_211 (Nat.le_of_ble_eq_true rfl) (Nat.le_of_ble_eq_true rfl) (⟨_, rfl, (by first | assumption | exact Or.inl rfl | exact Or.inr rfl), hF4, (fr_tr fr_rf (fr_mo hr4 (by simp)))⟩)
                    ·
                      refine gz_iconst (v := 1) dX10_reaches_206 (by decide) ?_
                      refine gz_goto (tgt := 211) dX10_reaches_207 (by decide) ?_
                      exact gz_zret rfl (by first | decide | exact nrb (Or.inl rfl) | (refine nrb ?_; (repeat' split) <;> first | assumption | exact Or.inl rfl | exact Or.inr rfl)) dX10_reaches_211 (Nat.le_of_ble_eq_true rfl) (Nat.le_of_ble_eq_true rfl) (⟨_, rfl, (by first | assumption | exact Or.inl rfl | exact Or.inr rfl), hF4, (fr_tr fr_rf (fr_mo hr4 (by simp)))⟩)
                  ·
                    refine gz_aload_n dX10_reaches_185 rfl rfl ?_
                    refine gz_iload dX10_reaches_186 rfl ?_
                    refine gz_iload_n dX10_reaches_188 rfl rfl ?_
                    refine gz_iload_n dX10_reaches_189 rfl rfl ?_
                    refine scX10_129 (ih (fldF n1 g s wd 3) fa st _ hwo hwe hst hpa hp h1 h2 hF hsr (by have e0 : (0 : Int32).toInt = 0 := rfl; have hc8 := c_8; simp only [fl_lt] at hc8; have z3 := fI_first (w := wd) hs hI; have z4 := fI_second (w := wd) hs hI; omega)) hwo ⟨(by simp only [gRm]; omega), (by simp only [gRm]; omega)⟩ ⟨(Nat.le_of_ble_eq_true rfl), (Nat.le_of_ble_eq_true rfl)⟩ rfl rfl (Nat.le_of_ble_eq_true rfl) dX10_reaches_190 ?_
                    rintro r5 f5 ⟨hb5, hF5, hr5⟩
                    have hwo_5 : f5 wo = some (.inr (10, [.int sz, .ref we, .ref stp, .ref pa, .ref ba, .ref td, .ref p, .int ah, .int gl])) := hr5 _ _ hwo (hD _ (by simp))
                    have hwe_5 : f5 we = some (.inl (cy 0, 3, .inl (weg))) := hr5 _ _ hwe (hD _ (by simp))
                    have hst_5 : f5 stp = some (.inl (cy 0, 18, .inl (stg))) := hr5 _ _ hst (hD _ (by simp))
                    have hpa_5 : f5 pa = some (.inl (cy 6, 5, .inr (.inr (.inr (.inr (pg)))))) := hr5 _ _ hpa (hD _ (by simp))
                    have hp_5 : f5 p = some (.inr (2, [.ref c1, .ref c2, .int s, .int v])) := hr5 _ _ hp (hD _ (by simp))
                    have h1_5 : f5 c1 = some (.inl (cy 0, n1, .inl (g))) := hr5 _ _ h1 (hD _ (by simp))
                    have h2_5 : f5 c2 = some (.inl (cy 0, n2, .inl (h))) := hr5 _ _ h2 (hD _ (by simp))
                    obtain ⟨dau6, tu6, hPu6, hQu6⟩ := hF5 (scI st) (scI_lt st)
                    refine gz_if_ne (tgt := 206) dX10_reaches_193 (by decide) (fun c_193 => ?_) (fun c_193 => ?_)
                    ·
                      refine gz_iconst (v := 1) dX10_reaches_206 (by decide) ?_
                      refine gz_goto (tgt := 211) dX10_reaches_207 (by decide) ?_
                      exact gz_zret rfl (by first | decide | exact nrb (Or.inl rfl) | (refine nrb ?_; (repeat' split) <;> first | assumption | exact Or.inl rfl | exact Or.inr rfl)) dX10_reaches_211 (Nat.le_of_ble_eq_true rfl) (Nat.le_of_ble_eq_true rfl) (⟨_, rfl, (by first | assumption | exact Or.inl rfl | exact Or.inr rfl), hF5, (fr_tr fr_rf (fr_mo hr5 (by simp)))⟩)
                    ·
                      refine gz_aload_n dX10_reaches_196 rfl rfl ?_
                      refine gz_iload_n dX10_reaches_197 rfl rfl ?_
                      refine gz_iload_n dX10_reaches_198 rfl rfl ?_
                      refine gz_iload_n dX10_reaches_199 rfl rfl ?_
                      refine scX10_133 (k_X10_reachesLater (wd := wd) (fa := fa) (st := st) hwo_5 hwe_5 hst_5 hpa_5 hp_5 h1_5 h2_5 hs hv hI hz ha hpg hPQ hD hF5 hsr (by have hw := fld_kind (n1 := n1) (g := g) (s := s) (w := wd) (k := 0) (by rw [hw_81_2]; decide); omega) ih) hwo_5 ⟨(by simp only [gRm]; omega), (by simp only [gRm]; omega)⟩ ⟨(Nat.le_of_ble_eq_true rfl), (Nat.le_of_ble_eq_true rfl)⟩ rfl rfl (Nat.le_of_ble_eq_true rfl) dX10_reaches_200 ?_
                      rintro r6 f6 ⟨hb6, hF6, hr6⟩
                      have hwo_6 : f6 wo = some (.inr (10, [.int sz, .ref we, .ref stp, .ref pa, .ref ba, .ref td, .ref p, .int ah, .int gl])) := hr6 _ _ hwo_5 (hD _ (by simp))
                      have hwe_6 : f6 we = some (.inl (cy 0, 3, .inl (weg))) := hr6 _ _ hwe_5 (hD _ (by simp))
                      have hst_6 : f6 stp = some (.inl (cy 0, 18, .inl (stg))) := hr6 _ _ hst_5 (hD _ (by simp))
                      have hpa_6 : f6 pa = some (.inl (cy 6, 5, .inr (.inr (.inr (.inr (pg)))))) := hr6 _ _ hpa_5 (hD _ (by simp))
                      have hp_6 : f6 p = some (.inr (2, [.ref c1, .ref c2, .int s, .int v])) := hr6 _ _ hp_5 (hD _ (by simp))
                      have h1_6 : f6 c1 = some (.inl (cy 0, n1, .inl (g))) := hr6 _ _ h1_5 (hD _ (by simp))
                      have h2_6 : f6 c2 = some (.inl (cy 0, n2, .inl (h))) := hr6 _ _ h2_5 (hD _ (by simp))
                      obtain ⟨dau7, tu7, hPu7, hQu7⟩ := hF6 (scI st) (scI_lt st)
                      refine gz_if_eq (tgt := 210) dX10_reaches_203 (by decide) (fun c_203 => ?_) (fun c_203 => ?_)
                      ·
                        refine gz_iconst (v := 0) dX10_reaches_210 (by decide) ?_
                        exact gz_zret rfl (by first | decide | exact nrb (Or.inl rfl) | (refine nrb ?_; (repeat' split) <;> first | assumption | exact Or.inl rfl | exact Or.inr rfl)) dX10_reaches_211 (Nat.le_of_ble_eq_true rfl) (Nat.le_of_ble_eq_true rfl) (⟨_, rfl, (by first | assumption | exact Or.inl rfl | exact Or.inr rfl), hF6, (fr_tr (fr_tr fr_rf (fr_mo hr5 (by simp))) (fr_mo hr6 (by simp)))⟩)
                      ·
                        refine gz_iconst (v := 1) dX10_reaches_206 (by decide) ?_
                        refine gz_goto (tgt := 211) dX10_reaches_207 (by decide) ?_
                        exact gz_zret rfl (by first | decide | exact nrb (Or.inl rfl) | (refine nrb ?_; (repeat' split) <;> first | assumption | exact Or.inl rfl | exact Or.inr rfl)) dX10_reaches_211 (Nat.le_of_ble_eq_true rfl) (Nat.le_of_ble_eq_true rfl) (⟨_, rfl, (by first | assumption | exact Or.inl rfl | exact Or.inr rfl), hF6, (fr_tr (fr_tr fr_rf (fr_mo hr5 (by simp))) (fr_mo hr6 (by simp)))⟩)
                ·
                  refine gz_tableOut (tgt := 212) dX10_reaches_81 (by have g0 : (fldF n1 g s wd 0).toInt ≠ 5 := fun e => hw_81_0 (Int32.toInt_inj.mp (e.trans rfl)); have g1 : (fldF n1 g s wd 0).toInt ≠ 6 := fun e => hw_81_1 (Int32.toInt_inj.mp (e.trans rfl)); have g2 : (fldF n1 g s wd 0).toInt ≠ 7 := fun e => hw_81_2 (Int32.toInt_inj.mp (e.trans rfl)); omega) (by decide) ?_
                  refine gz_aload_n dX10_reaches_212 rfl rfl ?_
                  refine gz_iload dX10_reaches_213 rfl ?_
                  refine gz_iload_n dX10_reaches_215 rfl rfl ?_
                  refine gz_iload_n dX10_reaches_216 rfl rfl ?_
                  refine scX10_129 (ih (fldF n1 g s wd 3) fa st _ hwo hwe hst hpa hp h1 h2 hF hsr (by have e0 : (0 : Int32).toInt = 0 := rfl; have hc8 := c_8; simp only [fl_lt] at hc8; have z3 := fI_first (w := wd) hs hI; have z4 := fI_second (w := wd) hs hI; omega)) hwo ⟨(by simp only [gRm]; omega), (by simp only [gRm]; omega)⟩ ⟨(Nat.le_of_ble_eq_true rfl), (Nat.le_of_ble_eq_true rfl)⟩ rfl rfl (Nat.le_of_ble_eq_true rfl) dX10_reaches_217 ?_
                  rintro r7 f7 ⟨hb7, hF7, hr7⟩
                  have hwo_7 : f7 wo = some (.inr (10, [.int sz, .ref we, .ref stp, .ref pa, .ref ba, .ref td, .ref p, .int ah, .int gl])) := hr7 _ _ hwo (hD _ (by simp))
                  have hwe_7 : f7 we = some (.inl (cy 0, 3, .inl (weg))) := hr7 _ _ hwe (hD _ (by simp))
                  have hst_7 : f7 stp = some (.inl (cy 0, 18, .inl (stg))) := hr7 _ _ hst (hD _ (by simp))
                  have hpa_7 : f7 pa = some (.inl (cy 6, 5, .inr (.inr (.inr (.inr (pg)))))) := hr7 _ _ hpa (hD _ (by simp))
                  have hp_7 : f7 p = some (.inr (2, [.ref c1, .ref c2, .int s, .int v])) := hr7 _ _ hp (hD _ (by simp))
                  have h1_7 : f7 c1 = some (.inl (cy 0, n1, .inl (g))) := hr7 _ _ h1 (hD _ (by simp))
                  have h2_7 : f7 c2 = some (.inl (cy 0, n2, .inl (h))) := hr7 _ _ h2 (hD _ (by simp))
                  obtain ⟨dau8, tu8, hPu8, hQu8⟩ := hF7 (scI st) (scI_lt st)
                  exact gz_zret rfl (by first | decide | exact nrb (Or.inl rfl) | (refine nrb ?_; (repeat' split) <;> first | assumption | exact Or.inl rfl | exact Or.inr rfl)) dX10_reaches_220 (Nat.le_of_ble_eq_true rfl) (Nat.le_of_ble_eq_true rfl) (⟨_, rfl, (by first | assumption | exact Or.inl rfl | exact Or.inr rfl), hF7, (fr_tr fr_rf (fr_mo hr7 (by simp)))⟩)
          ·
            refine gz_iload_n dX10_reaches_50 rfl rfl ?_
            refine gz_iload dX10_reaches_51 rfl ?_
            refine gz_icmp_lt (tgt := 61) dX10_reaches_53 (by decide) (fun c_53 => ?_) (fun c_53 => ?_)
            ·
              refine gz_aload_n dX10_reaches_61 rfl rfl ?_
              refine sgX10_37 hwo rfl dX10_reaches_62 ?_
              refine gz_iload_n dX10_reaches_65 rfl rfl ?_
              refine gz_iconst (v := 3) dX10_reaches_66 (by decide) ?_
              refine scX10_91 (k_X2_field (w := wd) (k := 3) hp h1 hs) hp ⟨(by simp only [gRm]; omega), (by simp only [gRm]; omega)⟩ ⟨(Nat.le_of_ble_eq_true rfl), (Nat.le_of_ble_eq_true rfl)⟩ rfl rfl (Nat.le_of_ble_eq_true rfl) dX10_reaches_67 ?_
              intro v9 f9 z9; rw [z9.1, z9.2]
              refine gz_istore (lv' := [(6, .int (fldF n1 g s wd 3)), (5, .int (fldF n1 g s wd 4)), (4, .ref (P (scI st))), (0, .ref wo), (1, .int wd), (2, .int fa), (3, .int st)]) dX10_reaches_70 (by decide) rfl ?_
              refine gz_aload_n dX10_reaches_72 rfl rfl ?_
              refine sgX10_37 hwo rfl dX10_reaches_73 ?_
              refine gz_iload_n dX10_reaches_76 rfl rfl ?_
              refine gz_iconst (v := 0) dX10_reaches_77 (by decide) ?_
              refine scX10_91 (k_X2_field (w := wd) (k := 0) hp h1 hs) hp ⟨(by simp only [gRm]; omega), (by simp only [gRm]; omega)⟩ ⟨(Nat.le_of_ble_eq_true rfl), (Nat.le_of_ble_eq_true rfl)⟩ rfl rfl (Nat.le_of_ble_eq_true rfl) dX10_reaches_78 ?_
              intro v9 f9 z9; rw [z9.1, z9.2]
              by_cases hw_81_0 : (fldF n1 g s wd 0) = 5
              ·
                refine gz_ev (w := .int 5) (congrArg Value.int hw_81_0) ?_
                refine gz_tableIn (off := 27) (tgt := 108) dX10_reaches_81 (by decide) (by decide) rfl (by decide) ?_
                refine gz_aload_n dX10_reaches_108 rfl rfl ?_
                refine sgX10_37 hwo rfl dX10_reaches_109 ?_
                refine gz_iload_n dX10_reaches_112 rfl rfl ?_
                refine gz_aload dX10_reaches_113 rfl ?_
                refine scX10_113 (k_X2_nextDeed (w := wd) hp h1 hPu1 hs) hp ⟨(by simp only [gRm]; omega), (by simp only [gRm]; omega)⟩ ⟨(Nat.le_of_ble_eq_true rfl), (Nat.le_of_ble_eq_true rfl)⟩ rfl rfl (Nat.le_of_ble_eq_true rfl) dX10_reaches_115 ?_
                intro v9 f9 z9; rw [z9.1, z9.2]
                refine gz_iload dX10_reaches_118 rfl ?_
                refine gz_icmp_ne (tgt := 138) dX10_reaches_120 (by decide) (fun c_120 => ?_) (fun c_120 => ?_)
                ·
                  refine gz_iconst (v := 0) dX10_reaches_138 (by decide) ?_
                  exact gz_zret rfl (by first | decide | exact nrb (Or.inl rfl) | (refine nrb ?_; (repeat' split) <;> first | assumption | exact Or.inl rfl | exact Or.inr rfl)) dX10_reaches_139 (Nat.le_of_ble_eq_true rfl) (Nat.le_of_ble_eq_true rfl) (⟨_, rfl, (by first | assumption | exact Or.inl rfl | exact Or.inr rfl), hF, fr_rf⟩)
                ·
                  refine gz_aload_n dX10_reaches_123 rfl rfl ?_
                  refine gz_iload dX10_reaches_124 rfl ?_
                  refine gz_iload_n dX10_reaches_126 rfl rfl ?_
                  refine gz_iload_n dX10_reaches_127 rfl rfl ?_
                  refine scX10_129 (ih (fldF n1 g s wd 3) fa st _ hwo hwe hst hpa hp h1 h2 hF hsr (by have e0 : (0 : Int32).toInt = 0 := rfl; have hc8 := c_8; simp only [fl_lt] at hc8; have z3 := fI_first (w := wd) hs hI; have z4 := fI_second (w := wd) hs hI; omega)) hwo ⟨(by simp only [gRm]; omega), (by simp only [gRm]; omega)⟩ ⟨(Nat.le_of_ble_eq_true rfl), (Nat.le_of_ble_eq_true rfl)⟩ rfl rfl (Nat.le_of_ble_eq_true rfl) dX10_reaches_128 ?_
                  rintro r8 f8 ⟨hb8, hF8, hr8⟩
                  have hwo_8 : f8 wo = some (.inr (10, [.int sz, .ref we, .ref stp, .ref pa, .ref ba, .ref td, .ref p, .int ah, .int gl])) := hr8 _ _ hwo (hD _ (by simp))
                  have hwe_8 : f8 we = some (.inl (cy 0, 3, .inl (weg))) := hr8 _ _ hwe (hD _ (by simp))
                  have hst_8 : f8 stp = some (.inl (cy 0, 18, .inl (stg))) := hr8 _ _ hst (hD _ (by simp))
                  have hpa_8 : f8 pa = some (.inl (cy 6, 5, .inr (.inr (.inr (.inr (pg)))))) := hr8 _ _ hpa (hD _ (by simp))
                  have hp_8 : f8 p = some (.inr (2, [.ref c1, .ref c2, .int s, .int v])) := hr8 _ _ hp (hD _ (by simp))
                  have h1_8 : f8 c1 = some (.inl (cy 0, n1, .inl (g))) := hr8 _ _ h1 (hD _ (by simp))
                  have h2_8 : f8 c2 = some (.inl (cy 0, n2, .inl (h))) := hr8 _ _ h2 (hD _ (by simp))
                  obtain ⟨dau9, tu9, hPu9, hQu9⟩ := hF8 (scI st) (scI_lt st)
                  refine gz_if_eq (tgt := 138) dX10_reaches_131 (by decide) (fun c_131 => ?_) (fun c_131 => ?_)
                  ·
                    refine gz_iconst (v := 0) dX10_reaches_138 (by decide) ?_
                    exact gz_zret rfl (by first | decide | exact nrb (Or.inl rfl) | (refine nrb ?_; (repeat' split) <;> first | assumption | exact Or.inl rfl | exact Or.inr rfl)) dX10_reaches_139 (Nat.le_of_ble_eq_true rfl) (Nat.le_of_ble_eq_true rfl) (⟨_, rfl, (by first | assumption | exact Or.inl rfl | exact Or.inr rfl), hF8, (fr_tr fr_rf (fr_mo hr8 (by simp)))⟩)
                  ·
                    refine gz_iconst (v := 1) dX10_reaches_134 (by decide) ?_
                    refine gz_goto (tgt := 139) dX10_reaches_135 (by decide) ?_
                    exact gz_zret rfl (by first | decide | exact nrb (Or.inl rfl) | (refine nrb ?_; (repeat' split) <;> first | assumption | exact Or.inl rfl | exact Or.inr rfl)) dX10_reaches_139 (Nat.le_of_ble_eq_true rfl) (Nat.le_of_ble_eq_true rfl) (⟨_, rfl, (by first | assumption | exact Or.inl rfl | exact Or.inr rfl), hF8, (fr_tr fr_rf (fr_mo hr8 (by simp)))⟩)
              ·
                by_cases hw_81_1 : (fldF n1 g s wd 0) = 6
                ·
                  refine gz_ev (w := .int 6) (congrArg Value.int hw_81_1) ?_
                  refine gz_tableIn (off := 59) (tgt := 140) dX10_reaches_81 (by decide) (by decide) rfl (by decide) ?_
                  refine gz_aload_n dX10_reaches_140 rfl rfl ?_
                  refine sgX10_37 hwo rfl dX10_reaches_141 ?_
                  refine gz_iload_n dX10_reaches_144 rfl rfl ?_
                  refine gz_aload dX10_reaches_145 rfl ?_
                  refine scX10_104 (k_X2_holds (w := wd) hp h1 h2 hPu1 hQu1 hs hv) hp ⟨(by simp only [gRm]; omega), (by simp only [gRm]; omega)⟩ ⟨(Nat.le_of_ble_eq_true rfl), (Nat.le_of_ble_eq_true rfl)⟩ rfl rfl (Nat.le_of_ble_eq_true rfl) dX10_reaches_147 ?_
                  intro v9 f9 z9; rw [z9.1, z9.2]
                  refine gz_if_eq (tgt := 164) dX10_reaches_150 (by decide) (fun c_150 => ?_) (fun c_150 => ?_)
                  ·
                    refine gz_aload_n dX10_reaches_164 rfl rfl ?_
                    refine gz_iload_n dX10_reaches_165 rfl rfl ?_
                    refine gz_iload_n dX10_reaches_166 rfl rfl ?_
                    refine gz_iload_n dX10_reaches_167 rfl rfl ?_
                    refine scX10_133 (k_X10_reachesLater (wd := wd) (fa := fa) (st := st) hwo hwe hst hpa hp h1 h2 hs hv hI hz ha hpg hPQ hD hF hsr (by have hw := fld_kind (n1 := n1) (g := g) (s := s) (w := wd) (k := 0) (by rw [hw_81_1]; decide); omega) ih) hwo ⟨(by simp only [gRm]; omega), (by simp only [gRm]; omega)⟩ ⟨(Nat.le_of_ble_eq_true rfl), (Nat.le_of_ble_eq_true rfl)⟩ rfl rfl (Nat.le_of_ble_eq_true rfl) dX10_reaches_168 ?_
                    rintro r9 f9 ⟨hb9, hF9, hr9⟩
                    have hwo_9 : f9 wo = some (.inr (10, [.int sz, .ref we, .ref stp, .ref pa, .ref ba, .ref td, .ref p, .int ah, .int gl])) := hr9 _ _ hwo (hD _ (by simp))
                    have hwe_9 : f9 we = some (.inl (cy 0, 3, .inl (weg))) := hr9 _ _ hwe (hD _ (by simp))
                    have hst_9 : f9 stp = some (.inl (cy 0, 18, .inl (stg))) := hr9 _ _ hst (hD _ (by simp))
                    have hpa_9 : f9 pa = some (.inl (cy 6, 5, .inr (.inr (.inr (.inr (pg)))))) := hr9 _ _ hpa (hD _ (by simp))
                    have hp_9 : f9 p = some (.inr (2, [.ref c1, .ref c2, .int s, .int v])) := hr9 _ _ hp (hD _ (by simp))
                    have h1_9 : f9 c1 = some (.inl (cy 0, n1, .inl (g))) := hr9 _ _ h1 (hD _ (by simp))
                    have h2_9 : f9 c2 = some (.inl (cy 0, n2, .inl (h))) := hr9 _ _ h2 (hD _ (by simp))
                    obtain ⟨dau10, tu10, hPu10, hQu10⟩ := hF9 (scI st) (scI_lt st)
                    exact gz_zret rfl (by first | decide | exact nrb (Or.inl rfl) | (refine nrb ?_; (repeat' split) <;> first | assumption | exact Or.inl rfl | exact Or.inr rfl)) dX10_reaches_171 (Nat.le_of_ble_eq_true rfl) (Nat.le_of_ble_eq_true rfl) (⟨_, rfl, (by first | assumption | exact Or.inl rfl | exact Or.inr rfl), hF9, (fr_tr fr_rf (fr_mo hr9 (by simp)))⟩)
                  ·
                    refine gz_aload_n dX10_reaches_153 rfl rfl ?_
                    refine gz_iload dX10_reaches_154 rfl ?_
                    refine gz_iload_n dX10_reaches_156 rfl rfl ?_
                    refine gz_iload_n dX10_reaches_157 rfl rfl ?_
                    refine scX10_129 (ih (fldF n1 g s wd 3) fa st _ hwo hwe hst hpa hp h1 h2 hF hsr (by have e0 : (0 : Int32).toInt = 0 := rfl; have hc8 := c_8; simp only [fl_lt] at hc8; have z3 := fI_first (w := wd) hs hI; have z4 := fI_second (w := wd) hs hI; omega)) hwo ⟨(by simp only [gRm]; omega), (by simp only [gRm]; omega)⟩ ⟨(Nat.le_of_ble_eq_true rfl), (Nat.le_of_ble_eq_true rfl)⟩ rfl rfl (Nat.le_of_ble_eq_true rfl) dX10_reaches_158 ?_
                    rintro r10 f10 ⟨hb10, hF10, hr10⟩
                    have hwo_10 : f10 wo = some (.inr (10, [.int sz, .ref we, .ref stp, .ref pa, .ref ba, .ref td, .ref p, .int ah, .int gl])) := hr10 _ _ hwo (hD _ (by simp))
                    have hwe_10 : f10 we = some (.inl (cy 0, 3, .inl (weg))) := hr10 _ _ hwe (hD _ (by simp))
                    have hst_10 : f10 stp = some (.inl (cy 0, 18, .inl (stg))) := hr10 _ _ hst (hD _ (by simp))
                    have hpa_10 : f10 pa = some (.inl (cy 6, 5, .inr (.inr (.inr (.inr (pg)))))) := hr10 _ _ hpa (hD _ (by simp))
                    have hp_10 : f10 p = some (.inr (2, [.ref c1, .ref c2, .int s, .int v])) := hr10 _ _ hp (hD _ (by simp))
                    have h1_10 : f10 c1 = some (.inl (cy 0, n1, .inl (g))) := hr10 _ _ h1 (hD _ (by simp))
                    have h2_10 : f10 c2 = some (.inl (cy 0, n2, .inl (h))) := hr10 _ _ h2 (hD _ (by simp))
                    obtain ⟨dau11, tu11, hPu11, hQu11⟩ := hF10 (scI st) (scI_lt st)
                    refine gz_goto (tgt := 171) dX10_reaches_161 (by decide) ?_
                    exact gz_zret rfl (by first | decide | exact nrb (Or.inl rfl) | (refine nrb ?_; (repeat' split) <;> first | assumption | exact Or.inl rfl | exact Or.inr rfl)) dX10_reaches_171 (Nat.le_of_ble_eq_true rfl) (Nat.le_of_ble_eq_true rfl) (⟨_, rfl, (by first | assumption | exact Or.inl rfl | exact Or.inr rfl), hF10, (fr_tr fr_rf (fr_mo hr10 (by simp)))⟩)
                ·
                  by_cases hw_81_2 : (fldF n1 g s wd 0) = 7
                  ·
                    refine gz_ev (w := .int 7) (congrArg Value.int hw_81_2) ?_
                    refine gz_tableIn (off := 91) (tgt := 172) dX10_reaches_81 (by decide) (by decide) rfl (by decide) ?_
                    refine gz_aload_n dX10_reaches_172 rfl rfl ?_
                    refine sgX10_37 hwo rfl dX10_reaches_173 ?_
                    refine gz_iload_n dX10_reaches_176 rfl rfl ?_
                    refine gz_aload dX10_reaches_177 rfl ?_
                    refine scX10_104 (k_X2_holds (w := wd) hp h1 h2 hPu1 hQu1 hs hv) hp ⟨(by simp only [gRm]; omega), (by simp only [gRm]; omega)⟩ ⟨(Nat.le_of_ble_eq_true rfl), (Nat.le_of_ble_eq_true rfl)⟩ rfl rfl (Nat.le_of_ble_eq_true rfl) dX10_reaches_179 ?_
                    intro v9 f9 z9; rw [z9.1, z9.2]
                    refine gz_if_eq (tgt := 196) dX10_reaches_182 (by decide) (fun c_182 => ?_) (fun c_182 => ?_)
                    ·
                      refine gz_aload_n dX10_reaches_196 rfl rfl ?_
                      refine gz_iload_n dX10_reaches_197 rfl rfl ?_
                      refine gz_iload_n dX10_reaches_198 rfl rfl ?_
                      refine gz_iload_n dX10_reaches_199 rfl rfl ?_
                      refine scX10_133 (k_X10_reachesLater (wd := wd) (fa := fa) (st := st) hwo hwe hst hpa hp h1 h2 hs hv hI hz ha hpg hPQ hD hF hsr (by have hw := fld_kind (n1 := n1) (g := g) (s := s) (w := wd) (k := 0) (by rw [hw_81_2]; decide); omega) ih) hwo ⟨(by simp only [gRm]; omega), (by simp only [gRm]; omega)⟩ ⟨(Nat.le_of_ble_eq_true rfl), (Nat.le_of_ble_eq_true rfl)⟩ rfl rfl (Nat.le_of_ble_eq_true rfl) dX10_reaches_200 ?_
                      rintro r11 f11 ⟨hb11, hF11, hr11⟩
                      have hwo_11 : f11 wo = some (.inr (10, [.int sz, .ref we, .ref stp, .ref pa, .ref ba, .ref td, .ref p, .int ah, .int gl])) := hr11 _ _ hwo (hD _ (by simp))
                      have hwe_11 : f11 we = some (.inl (cy 0, 3, .inl (weg))) := hr11 _ _ hwe (hD _ (by simp))
                      have hst_11 : f11 stp = some (.inl (cy 0, 18, .inl (stg))) := hr11 _ _ hst (hD _ (by simp))
                      have hpa_11 : f11 pa = some (.inl (cy 6, 5, .inr (.inr (.inr (.inr (pg)))))) := hr11 _ _ hpa (hD _ (by simp))
                      have hp_11 : f11 p = some (.inr (2, [.ref c1, .ref c2, .int s, .int v])) := hr11 _ _ hp (hD _ (by simp))
                      have h1_11 : f11 c1 = some (.inl (cy 0, n1, .inl (g))) := hr11 _ _ h1 (hD _ (by simp))
                      have h2_11 : f11 c2 = some (.inl (cy 0, n2, .inl (h))) := hr11 _ _ h2 (hD _ (by simp))
                      obtain ⟨dau12, tu12, hPu12, hQu12⟩ := hF11 (scI st) (scI_lt st)
                      refine gz_if_eq (tgt := 210) dX10_reaches_203 (by decide) (fun c_203 => ?_) (fun c_203 => ?_)
                      ·
                        refine gz_iconst (v := 0) dX10_reaches_210 (by decide) ?_
                        exact gz_zret rfl (by first | decide | exact nrb (Or.inl rfl) | (refine nrb ?_; (repeat' split) <;> first | assumption | exact Or.inl rfl | exact Or.inr rfl)) dX10_reaches_211 (Nat.le_of_ble_eq_true rfl) (Nat.le_of_ble_eq_true rfl) (⟨_, rfl, (by first | assumption | exact Or.inl rfl | exact Or.inr rfl), hF11, (fr_tr fr_rf (fr_mo hr11 (by simp)))⟩)
                      ·
                        refine gz_iconst (v := 1) dX10_reaches_206 (by decide) ?_
                        refine gz_goto (tgt := 211) dX10_reaches_207 (by decide) ?_
                        exact gz_zret rfl (by first | decide | exact nrb (Or.inl rfl) | (refine nrb ?_; (repeat' split) <;> first | assumption | exact Or.inl rfl | exact Or.inr rfl)) dX10_reaches_211 (Nat.le_of_ble_eq_true rfl) (Nat.le_of_ble_eq_true rfl) (⟨_, rfl, (by first | assumption | exact Or.inl rfl | exact Or.inr rfl), hF11, (fr_tr fr_rf (fr_mo hr11 (by simp)))⟩)
                    ·
                      refine gz_aload_n dX10_reaches_185 rfl rfl ?_
                      refine gz_iload dX10_reaches_186 rfl ?_
                      refine gz_iload_n dX10_reaches_188 rfl rfl ?_
                      refine gz_iload_n dX10_reaches_189 rfl rfl ?_
                      refine scX10_129 (ih (fldF n1 g s wd 3) fa st _ hwo hwe hst hpa hp h1 h2 hF hsr (by have e0 : (0 : Int32).toInt = 0 := rfl; have hc8 := c_8; simp only [fl_lt] at hc8; have z3 := fI_first (w := wd) hs hI; have z4 := fI_second (w := wd) hs hI; omega)) hwo ⟨(by simp only [gRm]; omega), (by simp only [gRm]; omega)⟩ ⟨(Nat.le_of_ble_eq_true rfl), (Nat.le_of_ble_eq_true rfl)⟩ rfl rfl (Nat.le_of_ble_eq_true rfl) dX10_reaches_190 ?_
                      rintro r12 f12 ⟨hb12, hF12, hr12⟩
                      have hwo_12 : f12 wo = some (.inr (10, [.int sz, .ref we, .ref stp, .ref pa, .ref ba, .ref td, .ref p, .int ah, .int gl])) := hr12 _ _ hwo (hD _ (by simp))
                      have hwe_12 : f12 we = some (.inl (cy 0, 3, .inl (weg))) := hr12 _ _ hwe (hD _ (by simp))
                      have hst_12 : f12 stp = some (.inl (cy 0, 18, .inl (stg))) := hr12 _ _ hst (hD _ (by simp))
                      have hpa_12 : f12 pa = some (.inl (cy 6, 5, .inr (.inr (.inr (.inr (pg)))))) := hr12 _ _ hpa (hD _ (by simp))
                      have hp_12 : f12 p = some (.inr (2, [.ref c1, .ref c2, .int s, .int v])) := hr12 _ _ hp (hD _ (by simp))
                      have h1_12 : f12 c1 = some (.inl (cy 0, n1, .inl (g))) := hr12 _ _ h1 (hD _ (by simp))
                      have h2_12 : f12 c2 = some (.inl (cy 0, n2, .inl (h))) := hr12 _ _ h2 (hD _ (by simp))
                      obtain ⟨dau13, tu13, hPu13, hQu13⟩ := hF12 (scI st) (scI_lt st)
                      refine gz_if_ne (tgt := 206) dX10_reaches_193 (by decide) (fun c_193 => ?_) (fun c_193 => ?_)
                      ·
                        refine gz_iconst (v := 1) dX10_reaches_206 (by decide) ?_
                        refine gz_goto (tgt := 211) dX10_reaches_207 (by decide) ?_
                        exact gz_zret rfl (by first | decide | exact nrb (Or.inl rfl) | (refine nrb ?_; (repeat' split) <;> first | assumption | exact Or.inl rfl | exact Or.inr rfl)) dX10_reaches_211 (Nat.le_of_ble_eq_true rfl) (Nat.le_of_ble_eq_true rfl) (⟨_, rfl, (by first | assumption | exact Or.inl rfl | exact Or.inr rfl), hF12, (fr_tr fr_rf (fr_mo hr12 (by simp)))⟩)
                      ·
                        refine gz_aload_n dX10_reaches_196 rfl rfl ?_
                        refine gz_iload_n dX10_reaches_197 rfl rfl ?_
                        refine gz_iload_n dX10_reaches_198 rfl rfl ?_
                        refine gz_iload_n dX10_reaches_199 rfl rfl ?_
                        refine scX10_133 (k_X10_reachesLater (wd := wd) (fa := fa) (st := st) hwo_12 hwe_12 hst_12 hpa_12 hp_12 h1_12 h2_12 hs hv hI hz ha hpg hPQ hD hF12 hsr (by have hw := fld_kind (n1 := n1) (g := g) (s := s) (w := wd) (k := 0) (by rw [hw_81_2]; decide); omega) ih) hwo_12 ⟨(by simp only [gRm]; omega), (by simp only [gRm]; omega)⟩ ⟨(Nat.le_of_ble_eq_true rfl), (Nat.le_of_ble_eq_true rfl)⟩ rfl rfl (Nat.le_of_ble_eq_true rfl) dX10_reaches_200 ?_
                        rintro r13 f13 ⟨hb13, hF13, hr13⟩
                        have hwo_13 : f13 wo = some (.inr (10, [.int sz, .ref we, .ref stp, .ref pa, .ref ba, .ref td, .ref p, .int ah, .int gl])) := hr13 _ _ hwo_12 (hD _ (by simp))
                        have hwe_13 : f13 we = some (.inl (cy 0, 3, .inl (weg))) := hr13 _ _ hwe_12 (hD _ (by simp))
                        have hst_13 : f13 stp = some (.inl (cy 0, 18, .inl (stg))) := hr13 _ _ hst_12 (hD _ (by simp))
                        have hpa_13 : f13 pa = some (.inl (cy 6, 5, .inr (.inr (.inr (.inr (pg)))))) := hr13 _ _ hpa_12 (hD _ (by simp))
                        have hp_13 : f13 p = some (.inr (2, [.ref c1, .ref c2, .int s, .int v])) := hr13 _ _ hp_12 (hD _ (by simp))
                        have h1_13 : f13 c1 = some (.inl (cy 0, n1, .inl (g))) := hr13 _ _ h1_12 (hD _ (by simp))
                        have h2_13 : f13 c2 = some (.inl (cy 0, n2, .inl (h))) := hr13 _ _ h2_12 (hD _ (by simp))
                        obtain ⟨dau14, tu14, hPu14, hQu14⟩ := hF13 (scI st) (scI_lt st)
                        refine gz_if_eq (tgt := 210) dX10_reaches_203 (by decide) (fun c_203 => ?_) (fun c_203 => ?_)
                        ·
                          refine gz_iconst (v := 0) dX10_reaches_210 (by decide) ?_
                          exact gz_zret rfl (by first | decide | exact nrb (Or.inl rfl) | (refine nrb ?_; (repeat' split) <;> first | assumption | exact Or.inl rfl | exact Or.inr rfl)) dX10_reaches_211 (Nat.le_of_ble_eq_true rfl) (Nat.le_of_ble_eq_true rfl) (⟨_, rfl, (by first | assumption | exact Or.inl rfl | exact Or.inr rfl), hF13, (fr_tr (fr_tr fr_rf (fr_mo hr12 (by simp))) (fr_mo hr13 (by simp)))⟩)
                        ·
                          refine gz_iconst (v := 1) dX10_reaches_206 (by decide) ?_
                          refine gz_goto (tgt := 211) dX10_reaches_207 (by decide) ?_
                          exact gz_zret rfl (by first | decide | exact nrb (Or.inl rfl) | (refine nrb ?_; (repeat' split) <;> first | assumption | exact Or.inl rfl | exact Or.inr rfl)) dX10_reaches_211 (Nat.le_of_ble_eq_true rfl) (Nat.le_of_ble_eq_true rfl) (⟨_, rfl, (by first | assumption | exact Or.inl rfl | exact Or.inr rfl), hF13, (fr_tr (fr_tr fr_rf (fr_mo hr12 (by simp))) (fr_mo hr13 (by simp)))⟩)
                  ·
                    refine gz_tableOut (tgt := 212) dX10_reaches_81 (by have g0 : (fldF n1 g s wd 0).toInt ≠ 5 := fun e => hw_81_0 (Int32.toInt_inj.mp (e.trans rfl)); have g1 : (fldF n1 g s wd 0).toInt ≠ 6 := fun e => hw_81_1 (Int32.toInt_inj.mp (e.trans rfl)); have g2 : (fldF n1 g s wd 0).toInt ≠ 7 := fun e => hw_81_2 (Int32.toInt_inj.mp (e.trans rfl)); omega) (by decide) ?_
                    refine gz_aload_n dX10_reaches_212 rfl rfl ?_
                    refine gz_iload dX10_reaches_213 rfl ?_
                    refine gz_iload_n dX10_reaches_215 rfl rfl ?_
                    refine gz_iload_n dX10_reaches_216 rfl rfl ?_
                    refine scX10_129 (ih (fldF n1 g s wd 3) fa st _ hwo hwe hst hpa hp h1 h2 hF hsr (by have e0 : (0 : Int32).toInt = 0 := rfl; have hc8 := c_8; simp only [fl_lt] at hc8; have z3 := fI_first (w := wd) hs hI; have z4 := fI_second (w := wd) hs hI; omega)) hwo ⟨(by simp only [gRm]; omega), (by simp only [gRm]; omega)⟩ ⟨(Nat.le_of_ble_eq_true rfl), (Nat.le_of_ble_eq_true rfl)⟩ rfl rfl (Nat.le_of_ble_eq_true rfl) dX10_reaches_217 ?_
                    rintro r14 f14 ⟨hb14, hF14, hr14⟩
                    have hwo_14 : f14 wo = some (.inr (10, [.int sz, .ref we, .ref stp, .ref pa, .ref ba, .ref td, .ref p, .int ah, .int gl])) := hr14 _ _ hwo (hD _ (by simp))
                    have hwe_14 : f14 we = some (.inl (cy 0, 3, .inl (weg))) := hr14 _ _ hwe (hD _ (by simp))
                    have hst_14 : f14 stp = some (.inl (cy 0, 18, .inl (stg))) := hr14 _ _ hst (hD _ (by simp))
                    have hpa_14 : f14 pa = some (.inl (cy 6, 5, .inr (.inr (.inr (.inr (pg)))))) := hr14 _ _ hpa (hD _ (by simp))
                    have hp_14 : f14 p = some (.inr (2, [.ref c1, .ref c2, .int s, .int v])) := hr14 _ _ hp (hD _ (by simp))
                    have h1_14 : f14 c1 = some (.inl (cy 0, n1, .inl (g))) := hr14 _ _ h1 (hD _ (by simp))
                    have h2_14 : f14 c2 = some (.inl (cy 0, n2, .inl (h))) := hr14 _ _ h2 (hD _ (by simp))
                    obtain ⟨dau15, tu15, hPu15, hQu15⟩ := hF14 (scI st) (scI_lt st)
                    exact gz_zret rfl (by first | decide | exact nrb (Or.inl rfl) | (refine nrb ?_; (repeat' split) <;> first | assumption | exact Or.inl rfl | exact Or.inr rfl)) dX10_reaches_220 (Nat.le_of_ble_eq_true rfl) (Nat.le_of_ble_eq_true rfl) (⟨_, rfl, (by first | assumption | exact Or.inl rfl | exact Or.inr rfl), hF14, (fr_tr fr_rf (fr_mo hr14 (by simp)))⟩)
            ·
              refine gz_iload dX10_reaches_56 rfl ?_
              refine gz_goto (tgt := 70) dX10_reaches_58 (by decide) ?_
              refine gz_istore (lv' := [(6, .int (fldF n1 g s wd 4)), (5, .int (fldF n1 g s wd 4)), (4, .ref (P (scI st))), (0, .ref wo), (1, .int wd), (2, .int fa), (3, .int st)]) dX10_reaches_70 (by decide) rfl ?_
              refine gz_aload_n dX10_reaches_72 rfl rfl ?_
              refine sgX10_37 hwo rfl dX10_reaches_73 ?_
              refine gz_iload_n dX10_reaches_76 rfl rfl ?_
              refine gz_iconst (v := 0) dX10_reaches_77 (by decide) ?_
              refine scX10_91 (k_X2_field (w := wd) (k := 0) hp h1 hs) hp ⟨(by simp only [gRm]; omega), (by simp only [gRm]; omega)⟩ ⟨(Nat.le_of_ble_eq_true rfl), (Nat.le_of_ble_eq_true rfl)⟩ rfl rfl (Nat.le_of_ble_eq_true rfl) dX10_reaches_78 ?_
              intro v9 f9 z9; rw [z9.1, z9.2]
              by_cases hw_81_0 : (fldF n1 g s wd 0) = 5
              ·
                refine gz_ev (w := .int 5) (congrArg Value.int hw_81_0) ?_
                refine gz_tableIn (off := 27) (tgt := 108) dX10_reaches_81 (by decide) (by decide) rfl (by decide) ?_
                refine gz_aload_n dX10_reaches_108 rfl rfl ?_
                refine sgX10_37 hwo rfl dX10_reaches_109 ?_
                refine gz_iload_n dX10_reaches_112 rfl rfl ?_
                refine gz_aload dX10_reaches_113 rfl ?_
                refine scX10_113 (k_X2_nextDeed (w := wd) hp h1 hPu1 hs) hp ⟨(by simp only [gRm]; omega), (by simp only [gRm]; omega)⟩ ⟨(Nat.le_of_ble_eq_true rfl), (Nat.le_of_ble_eq_true rfl)⟩ rfl rfl (Nat.le_of_ble_eq_true rfl) dX10_reaches_115 ?_
                intro v9 f9 z9; rw [z9.1, z9.2]
                refine gz_iload dX10_reaches_118 rfl ?_
                refine gz_icmp_ne (tgt := 138) dX10_reaches_120 (by decide) (fun c_120 => ?_) (fun c_120 => ?_)
                ·
                  refine gz_iconst (v := 0) dX10_reaches_138 (by decide) ?_
                  exact gz_zret rfl (by first | decide | exact nrb (Or.inl rfl) | (refine nrb ?_; (repeat' split) <;> first | assumption | exact Or.inl rfl | exact Or.inr rfl)) dX10_reaches_139 (Nat.le_of_ble_eq_true rfl) (Nat.le_of_ble_eq_true rfl) (⟨_, rfl, (by first | assumption | exact Or.inl rfl | exact Or.inr rfl), hF, fr_rf⟩)
                ·
                  refine gz_aload_n dX10_reaches_123 rfl rfl ?_
                  refine gz_iload dX10_reaches_124 rfl ?_
                  refine gz_iload_n dX10_reaches_126 rfl rfl ?_
                  refine gz_iload_n dX10_reaches_127 rfl rfl ?_
                  refine scX10_129 (ih (fldF n1 g s wd 4) fa st _ hwo hwe hst hpa hp h1 h2 hF hsr (by have e0 : (0 : Int32).toInt = 0 := rfl; have hc8 := c_8; simp only [fl_lt] at hc8; have z3 := fI_first (w := wd) hs hI; have z4 := fI_second (w := wd) hs hI; omega)) hwo ⟨(by simp only [gRm]; omega), (by simp only [gRm]; omega)⟩ ⟨(Nat.le_of_ble_eq_true rfl), (Nat.le_of_ble_eq_true rfl)⟩ rfl rfl (Nat.le_of_ble_eq_true rfl) dX10_reaches_128 ?_
                  rintro r15 f15 ⟨hb15, hF15, hr15⟩
                  have hwo_15 : f15 wo = some (.inr (10, [.int sz, .ref we, .ref stp, .ref pa, .ref ba, .ref td, .ref p, .int ah, .int gl])) := hr15 _ _ hwo (hD _ (by simp))
                  have hwe_15 : f15 we = some (.inl (cy 0, 3, .inl (weg))) := hr15 _ _ hwe (hD _ (by simp))
                  have hst_15 : f15 stp = some (.inl (cy 0, 18, .inl (stg))) := hr15 _ _ hst (hD _ (by simp))
                  have hpa_15 : f15 pa = some (.inl (cy 6, 5, .inr (.inr (.inr (.inr (pg)))))) := hr15 _ _ hpa (hD _ (by simp))
                  have hp_15 : f15 p = some (.inr (2, [.ref c1, .ref c2, .int s, .int v])) := hr15 _ _ hp (hD _ (by simp))
                  have h1_15 : f15 c1 = some (.inl (cy 0, n1, .inl (g))) := hr15 _ _ h1 (hD _ (by simp))
                  have h2_15 : f15 c2 = some (.inl (cy 0, n2, .inl (h))) := hr15 _ _ h2 (hD _ (by simp))
                  obtain ⟨dau16, tu16, hPu16, hQu16⟩ := hF15 (scI st) (scI_lt st)
                  refine gz_if_eq (tgt := 138) dX10_reaches_131 (by decide) (fun c_131 => ?_) (fun c_131 => ?_)
                  ·
                    refine gz_iconst (v := 0) dX10_reaches_138 (by decide) ?_
                    exact gz_zret rfl (by first | decide | exact nrb (Or.inl rfl) | (refine nrb ?_; (repeat' split) <;> first | assumption | exact Or.inl rfl | exact Or.inr rfl)) dX10_reaches_139 (Nat.le_of_ble_eq_true rfl) (Nat.le_of_ble_eq_true rfl) (⟨_, rfl, (by first | assumption | exact Or.inl rfl | exact Or.inr rfl), hF15, (fr_tr fr_rf (fr_mo hr15 (by simp)))⟩)
                  ·
                    refine gz_iconst (v := 1) dX10_reaches_134 (by decide) ?_
                    refine gz_goto (tgt := 139) dX10_reaches_135 (by decide) ?_
                    exact gz_zret rfl (by first | decide | exact nrb (Or.inl rfl) | (refine nrb ?_; (repeat' split) <;> first | assumption | exact Or.inl rfl | exact Or.inr rfl)) dX10_reaches_139 (Nat.le_of_ble_eq_true rfl) (Nat.le_of_ble_eq_true rfl) (⟨_, rfl, (by first | assumption | exact Or.inl rfl | exact Or.inr rfl), hF15, (fr_tr fr_rf (fr_mo hr15 (by simp)))⟩)
              ·
                by_cases hw_81_1 : (fldF n1 g s wd 0) = 6
                ·
                  refine gz_ev (w := .int 6) (congrArg Value.int hw_81_1) ?_
                  refine gz_tableIn (off := 59) (tgt := 140) dX10_reaches_81 (by decide) (by decide) rfl (by decide) ?_
                  refine gz_aload_n dX10_reaches_140 rfl rfl ?_
                  refine sgX10_37 hwo rfl dX10_reaches_141 ?_
                  refine gz_iload_n dX10_reaches_144 rfl rfl ?_
                  refine gz_aload dX10_reaches_145 rfl ?_
                  refine scX10_104 (k_X2_holds (w := wd) hp h1 h2 hPu1 hQu1 hs hv) hp ⟨(by simp only [gRm]; omega), (by simp only [gRm]; omega)⟩ ⟨(Nat.le_of_ble_eq_true rfl), (Nat.le_of_ble_eq_true rfl)⟩ rfl rfl (Nat.le_of_ble_eq_true rfl) dX10_reaches_147 ?_
                  intro v9 f9 z9; rw [z9.1, z9.2]
                  refine gz_if_eq (tgt := 164) dX10_reaches_150 (by decide) (fun c_150 => ?_) (fun c_150 => ?_)
                  ·
                    refine gz_aload_n dX10_reaches_164 rfl rfl ?_
                    refine gz_iload_n dX10_reaches_165 rfl rfl ?_
                    refine gz_iload_n dX10_reaches_166 rfl rfl ?_
                    refine gz_iload_n dX10_reaches_167 rfl rfl ?_
                    refine scX10_133 (k_X10_reachesLater (wd := wd) (fa := fa) (st := st) hwo hwe hst hpa hp h1 h2 hs hv hI hz ha hpg hPQ hD hF hsr (by have hw := fld_kind (n1 := n1) (g := g) (s := s) (w := wd) (k := 0) (by rw [hw_81_1]; decide); omega) ih) hwo ⟨(by simp only [gRm]; omega), (by simp only [gRm]; omega)⟩ ⟨(Nat.le_of_ble_eq_true rfl), (Nat.le_of_ble_eq_true rfl)⟩ rfl rfl (Nat.le_of_ble_eq_true rfl) dX10_reaches_168 ?_
                    rintro r16 f16 ⟨hb16, hF16, hr16⟩
                    have hwo_16 : f16 wo = some (.inr (10, [.int sz, .ref we, .ref stp, .ref pa, .ref ba, .ref td, .ref p, .int ah, .int gl])) := hr16 _ _ hwo (hD _ (by simp))
                    have hwe_16 : f16 we = some (.inl (cy 0, 3, .inl (weg))) := hr16 _ _ hwe (hD _ (by simp))
                    have hst_16 : f16 stp = some (.inl (cy 0, 18, .inl (stg))) := hr16 _ _ hst (hD _ (by simp))
                    have hpa_16 : f16 pa = some (.inl (cy 6, 5, .inr (.inr (.inr (.inr (pg)))))) := hr16 _ _ hpa (hD _ (by simp))
                    have hp_16 : f16 p = some (.inr (2, [.ref c1, .ref c2, .int s, .int v])) := hr16 _ _ hp (hD _ (by simp))
                    have h1_16 : f16 c1 = some (.inl (cy 0, n1, .inl (g))) := hr16 _ _ h1 (hD _ (by simp))
                    have h2_16 : f16 c2 = some (.inl (cy 0, n2, .inl (h))) := hr16 _ _ h2 (hD _ (by simp))
                    obtain ⟨dau17, tu17, hPu17, hQu17⟩ := hF16 (scI st) (scI_lt st)
                    exact gz_zret rfl (by first | decide | exact nrb (Or.inl rfl) | (refine nrb ?_; (repeat' split) <;> first | assumption | exact Or.inl rfl | exact Or.inr rfl)) dX10_reaches_171 (Nat.le_of_ble_eq_true rfl) (Nat.le_of_ble_eq_true rfl) (⟨_, rfl, (by first | assumption | exact Or.inl rfl | exact Or.inr rfl), hF16, (fr_tr fr_rf (fr_mo hr16 (by simp)))⟩)
                  ·
                    refine gz_aload_n dX10_reaches_153 rfl rfl ?_
                    refine gz_iload dX10_reaches_154 rfl ?_
                    refine gz_iload_n dX10_reaches_156 rfl rfl ?_
                    refine gz_iload_n dX10_reaches_157 rfl rfl ?_
                    refine scX10_129 (ih (fldF n1 g s wd 4) fa st _ hwo hwe hst hpa hp h1 h2 hF hsr (by have e0 : (0 : Int32).toInt = 0 := rfl; have hc8 := c_8; simp only [fl_lt] at hc8; have z3 := fI_first (w := wd) hs hI; have z4 := fI_second (w := wd) hs hI; omega)) hwo ⟨(by simp only [gRm]; omega), (by simp only [gRm]; omega)⟩ ⟨(Nat.le_of_ble_eq_true rfl), (Nat.le_of_ble_eq_true rfl)⟩ rfl rfl (Nat.le_of_ble_eq_true rfl) dX10_reaches_158 ?_
                    rintro r17 f17 ⟨hb17, hF17, hr17⟩
                    have hwo_17 : f17 wo = some (.inr (10, [.int sz, .ref we, .ref stp, .ref pa, .ref ba, .ref td, .ref p, .int ah, .int gl])) := hr17 _ _ hwo (hD _ (by simp))
                    have hwe_17 : f17 we = some (.inl (cy 0, 3, .inl (weg))) := hr17 _ _ hwe (hD _ (by simp))
                    have hst_17 : f17 stp = some (.inl (cy 0, 18, .inl (stg))) := hr17 _ _ hst (hD _ (by simp))
                    have hpa_17 : f17 pa = some (.inl (cy 6, 5, .inr (.inr (.inr (.inr (pg)))))) := hr17 _ _ hpa (hD _ (by simp))
                    have hp_17 : f17 p = some (.inr (2, [.ref c1, .ref c2, .int s, .int v])) := hr17 _ _ hp (hD _ (by simp))
                    have h1_17 : f17 c1 = some (.inl (cy 0, n1, .inl (g))) := hr17 _ _ h1 (hD _ (by simp))
                    have h2_17 : f17 c2 = some (.inl (cy 0, n2, .inl (h))) := hr17 _ _ h2 (hD _ (by simp))
                    obtain ⟨dau18, tu18, hPu18, hQu18⟩ := hF17 (scI st) (scI_lt st)
                    refine gz_goto (tgt := 171) dX10_reaches_161 (by decide) ?_
                    exact gz_zret rfl (by first | decide | exact nrb (Or.inl rfl) | (refine nrb ?_; (repeat' split) <;> first | assumption | exact Or.inl rfl | exact Or.inr rfl)) dX10_reaches_171 (Nat.le_of_ble_eq_true rfl) (Nat.le_of_ble_eq_true rfl) (⟨_, rfl, (by first | assumption | exact Or.inl rfl | exact Or.inr rfl), hF17, (fr_tr fr_rf (fr_mo hr17 (by simp)))⟩)
                ·
                  by_cases hw_81_2 : (fldF n1 g s wd 0) = 7
                  ·
                    refine gz_ev (w := .int 7) (congrArg Value.int hw_81_2) ?_
                    refine gz_tableIn (off := 91) (tgt := 172) dX10_reaches_81 (by decide) (by decide) rfl (by decide) ?_
                    refine gz_aload_n dX10_reaches_172 rfl rfl ?_
                    refine sgX10_37 hwo rfl dX10_reaches_173 ?_
                    refine gz_iload_n dX10_reaches_176 rfl rfl ?_
                    refine gz_aload dX10_reaches_177 rfl ?_
                    refine scX10_104 (k_X2_holds (w := wd) hp h1 h2 hPu1 hQu1 hs hv) hp ⟨(by simp only [gRm]; omega), (by simp only [gRm]; omega)⟩ ⟨(Nat.le_of_ble_eq_true rfl), (Nat.le_of_ble_eq_true rfl)⟩ rfl rfl (Nat.le_of_ble_eq_true rfl) dX10_reaches_179 ?_
                    intro v9 f9 z9; rw [z9.1, z9.2]
                    refine gz_if_eq (tgt := 196) dX10_reaches_182 (by decide) (fun c_182 => ?_) (fun c_182 => ?_)
                    ·
                      refine gz_aload_n dX10_reaches_196 rfl rfl ?_
                      refine gz_iload_n dX10_reaches_197 rfl rfl ?_
                      refine gz_iload_n dX10_reaches_198 rfl rfl ?_
                      refine gz_iload_n dX10_reaches_199 rfl rfl ?_
                      refine scX10_133 (k_X10_reachesLater (wd := wd) (fa := fa) (st := st) hwo hwe hst hpa hp h1 h2 hs hv hI hz ha hpg hPQ hD hF hsr (by have hw := fld_kind (n1 := n1) (g := g) (s := s) (w := wd) (k := 0) (by rw [hw_81_2]; decide); omega) ih) hwo ⟨(by simp only [gRm]; omega), (by simp only [gRm]; omega)⟩ ⟨(Nat.le_of_ble_eq_true rfl), (Nat.le_of_ble_eq_true rfl)⟩ rfl rfl (Nat.le_of_ble_eq_true rfl) dX10_reaches_200 ?_
                      rintro r18 f18 ⟨hb18, hF18, hr18⟩
                      have hwo_18 : f18 wo = some (.inr (10, [.int sz, .ref we, .ref stp, .ref pa, .ref ba, .ref td, .ref p, .int ah, .int gl])) := hr18 _ _ hwo (hD _ (by simp))
                      have hwe_18 : f18 we = some (.inl (cy 0, 3, .inl (weg))) := hr18 _ _ hwe (hD _ (by simp))
                      have hst_18 : f18 stp = some (.inl (cy 0, 18, .inl (stg))) := hr18 _ _ hst (hD _ (by simp))
                      have hpa_18 : f18 pa = some (.inl (cy 6, 5, .inr (.inr (.inr (.inr (pg)))))) := hr18 _ _ hpa (hD _ (by simp))
                      have hp_18 : f18 p = some (.inr (2, [.ref c1, .ref c2, .int s, .int v])) := hr18 _ _ hp (hD _ (by simp))
                      have h1_18 : f18 c1 = some (.inl (cy 0, n1, .inl (g))) := hr18 _ _ h1 (hD _ (by simp))
                      have h2_18 : f18 c2 = some (.inl (cy 0, n2, .inl (h))) := hr18 _ _ h2 (hD _ (by simp))
                      obtain ⟨dau19, tu19, hPu19, hQu19⟩ := hF18 (scI st) (scI_lt st)
                      refine gz_if_eq (tgt := 210) dX10_reaches_203 (by decide) (fun c_203 => ?_) (fun c_203 => ?_)
                      ·
                        refine gz_iconst (v := 0) dX10_reaches_210 (by decide) ?_
                        exact gz_zret rfl (by first | decide | exact nrb (Or.inl rfl) | (refine nrb ?_; (repeat' split) <;> first | assumption | exact Or.inl rfl | exact Or.inr rfl)) dX10_reaches_211 (Nat.le_of_ble_eq_true rfl) (Nat.le_of_ble_eq_true rfl) (⟨_, rfl, (by first | assumption | exact Or.inl rfl | exact Or.inr rfl), hF18, (fr_tr fr_rf (fr_mo hr18 (by simp)))⟩)
                      ·
                        refine gz_iconst (v := 1) dX10_reaches_206 (by decide) ?_
                        refine gz_goto (tgt := 211) dX10_reaches_207 (by decide) ?_
                        exact gz_zret rfl (by first | decide | exact nrb (Or.inl rfl) | (refine nrb ?_; (repeat' split) <;> first | assumption | exact Or.inl rfl | exact Or.inr rfl)) dX10_reaches_211 (Nat.le_of_ble_eq_true rfl) (Nat.le_of_ble_eq_true rfl) (⟨_, rfl, (by first | assumption | exact Or.inl rfl | exact Or.inr rfl), hF18, (fr_tr fr_rf (fr_mo hr18 (by simp)))⟩)
                    ·
                      refine gz_aload_n dX10_reaches_185 rfl rfl ?_
                      refine gz_iload dX10_reaches_186 rfl ?_
                      refine gz_iload_n dX10_reaches_188 rfl rfl ?_
                      refine gz_iload_n dX10_reaches_189 rfl rfl ?_
                      refine scX10_129 (ih (fldF n1 g s wd 4) fa st _ hwo hwe hst hpa hp h1 h2 hF hsr (by have e0 : (0 : Int32).toInt = 0 := rfl; have hc8 := c_8; simp only [fl_lt] at hc8; have z3 := fI_first (w := wd) hs hI; have z4 := fI_second (w := wd) hs hI; omega)) hwo ⟨(by simp only [gRm]; omega), (by simp only [gRm]; omega)⟩ ⟨(Nat.le_of_ble_eq_true rfl), (Nat.le_of_ble_eq_true rfl)⟩ rfl rfl (Nat.le_of_ble_eq_true rfl) dX10_reaches_190 ?_
                      rintro r19 f19 ⟨hb19, hF19, hr19⟩
                      have hwo_19 : f19 wo = some (.inr (10, [.int sz, .ref we, .ref stp, .ref pa, .ref ba, .ref td, .ref p, .int ah, .int gl])) := hr19 _ _ hwo (hD _ (by simp))
                      have hwe_19 : f19 we = some (.inl (cy 0, 3, .inl (weg))) := hr19 _ _ hwe (hD _ (by simp))
                      have hst_19 : f19 stp = some (.inl (cy 0, 18, .inl (stg))) := hr19 _ _ hst (hD _ (by simp))
                      have hpa_19 : f19 pa = some (.inl (cy 6, 5, .inr (.inr (.inr (.inr (pg)))))) := hr19 _ _ hpa (hD _ (by simp))
                      have hp_19 : f19 p = some (.inr (2, [.ref c1, .ref c2, .int s, .int v])) := hr19 _ _ hp (hD _ (by simp))
                      have h1_19 : f19 c1 = some (.inl (cy 0, n1, .inl (g))) := hr19 _ _ h1 (hD _ (by simp))
                      have h2_19 : f19 c2 = some (.inl (cy 0, n2, .inl (h))) := hr19 _ _ h2 (hD _ (by simp))
                      obtain ⟨dau20, tu20, hPu20, hQu20⟩ := hF19 (scI st) (scI_lt st)
                      refine gz_if_ne (tgt := 206) dX10_reaches_193 (by decide) (fun c_193 => ?_) (fun c_193 => ?_)
                      ·
                        refine gz_iconst (v := 1) dX10_reaches_206 (by decide) ?_
                        refine gz_goto (tgt := 211) dX10_reaches_207 (by decide) ?_
                        exact gz_zret rfl (by first | decide | exact nrb (Or.inl rfl) | (refine nrb ?_; (repeat' split) <;> first | assumption | exact Or.inl rfl | exact Or.inr rfl)) dX10_reaches_211 (Nat.le_of_ble_eq_true rfl) (Nat.le_of_ble_eq_true rfl) (⟨_, rfl, (by first | assumption | exact Or.inl rfl | exact Or.inr rfl), hF19, (fr_tr fr_rf (fr_mo hr19 (by simp)))⟩)
                      ·
                        refine gz_aload_n dX10_reaches_196 rfl rfl ?_
                        refine gz_iload_n dX10_reaches_197 rfl rfl ?_
                        refine gz_iload_n dX10_reaches_198 rfl rfl ?_
                        refine gz_iload_n dX10_reaches_199 rfl rfl ?_
                        refine scX10_133 (k_X10_reachesLater (wd := wd) (fa := fa) (st := st) hwo_19 hwe_19 hst_19 hpa_19 hp_19 h1_19 h2_19 hs hv hI hz ha hpg hPQ hD hF19 hsr (by have hw := fld_kind (n1 := n1) (g := g) (s := s) (w := wd) (k := 0) (by rw [hw_81_2]; decide); omega) ih) hwo_19 ⟨(by simp only [gRm]; omega), (by simp only [gRm]; omega)⟩ ⟨(Nat.le_of_ble_eq_true rfl), (Nat.le_of_ble_eq_true rfl)⟩ rfl rfl (Nat.le_of_ble_eq_true rfl) dX10_reaches_200 ?_
                        rintro r20 f20 ⟨hb20, hF20, hr20⟩
                        have hwo_20 : f20 wo = some (.inr (10, [.int sz, .ref we, .ref stp, .ref pa, .ref ba, .ref td, .ref p, .int ah, .int gl])) := hr20 _ _ hwo_19 (hD _ (by simp))
                        have hwe_20 : f20 we = some (.inl (cy 0, 3, .inl (weg))) := hr20 _ _ hwe_19 (hD _ (by simp))
                        have hst_20 : f20 stp = some (.inl (cy 0, 18, .inl (stg))) := hr20 _ _ hst_19 (hD _ (by simp))
                        have hpa_20 : f20 pa = some (.inl (cy 6, 5, .inr (.inr (.inr (.inr (pg)))))) := hr20 _ _ hpa_19 (hD _ (by simp))
                        have hp_20 : f20 p = some (.inr (2, [.ref c1, .ref c2, .int s, .int v])) := hr20 _ _ hp_19 (hD _ (by simp))
                        have h1_20 : f20 c1 = some (.inl (cy 0, n1, .inl (g))) := hr20 _ _ h1_19 (hD _ (by simp))
                        have h2_20 : f20 c2 = some (.inl (cy 0, n2, .inl (h))) := hr20 _ _ h2_19 (hD _ (by simp))
                        obtain ⟨dau21, tu21, hPu21, hQu21⟩ := hF20 (scI st) (scI_lt st)
                        refine gz_if_eq (tgt := 210) dX10_reaches_203 (by decide) (fun c_203 => ?_) (fun c_203 => ?_)
                        ·
                          refine gz_iconst (v := 0) dX10_reaches_210 (by decide) ?_
                          exact gz_zret rfl (by first | decide | exact nrb (Or.inl rfl) | (refine nrb ?_; (repeat' split) <;> first | assumption | exact Or.inl rfl | exact Or.inr rfl)) dX10_reaches_211 (Nat.le_of_ble_eq_true rfl) (Nat.le_of_ble_eq_true rfl) (⟨_, rfl, (by first | assumption | exact Or.inl rfl | exact Or.inr rfl), hF20, (fr_tr (fr_tr fr_rf (fr_mo hr19 (by simp))) (fr_mo hr20 (by simp)))⟩)
                        ·
                          refine gz_iconst (v := 1) dX10_reaches_206 (by decide) ?_
                          refine gz_goto (tgt := 211) dX10_reaches_207 (by decide) ?_
                          exact gz_zret rfl (by first | decide | exact nrb (Or.inl rfl) | (refine nrb ?_; (repeat' split) <;> first | assumption | exact Or.inl rfl | exact Or.inr rfl)) dX10_reaches_211 (Nat.le_of_ble_eq_true rfl) (Nat.le_of_ble_eq_true rfl) (⟨_, rfl, (by first | assumption | exact Or.inl rfl | exact Or.inr rfl), hF20, (fr_tr (fr_tr fr_rf (fr_mo hr19 (by simp))) (fr_mo hr20 (by simp)))⟩)
                  ·
                    refine gz_tableOut (tgt := 212) dX10_reaches_81 (by have g0 : (fldF n1 g s wd 0).toInt ≠ 5 := fun e => hw_81_0 (Int32.toInt_inj.mp (e.trans rfl)); have g1 : (fldF n1 g s wd 0).toInt ≠ 6 := fun e => hw_81_1 (Int32.toInt_inj.mp (e.trans rfl)); have g2 : (fldF n1 g s wd 0).toInt ≠ 7 := fun e => hw_81_2 (Int32.toInt_inj.mp (e.trans rfl)); omega) (by decide) ?_
                    refine gz_aload_n dX10_reaches_212 rfl rfl ?_
                    refine gz_iload dX10_reaches_213 rfl ?_
                    refine gz_iload_n dX10_reaches_215 rfl rfl ?_
                    refine gz_iload_n dX10_reaches_216 rfl rfl ?_
                    refine scX10_129 (ih (fldF n1 g s wd 4) fa st _ hwo hwe hst hpa hp h1 h2 hF hsr (by have e0 : (0 : Int32).toInt = 0 := rfl; have hc8 := c_8; simp only [fl_lt] at hc8; have z3 := fI_first (w := wd) hs hI; have z4 := fI_second (w := wd) hs hI; omega)) hwo ⟨(by simp only [gRm]; omega), (by simp only [gRm]; omega)⟩ ⟨(Nat.le_of_ble_eq_true rfl), (Nat.le_of_ble_eq_true rfl)⟩ rfl rfl (Nat.le_of_ble_eq_true rfl) dX10_reaches_217 ?_
                    rintro r21 f21 ⟨hb21, hF21, hr21⟩
                    have hwo_21 : f21 wo = some (.inr (10, [.int sz, .ref we, .ref stp, .ref pa, .ref ba, .ref td, .ref p, .int ah, .int gl])) := hr21 _ _ hwo (hD _ (by simp))
                    have hwe_21 : f21 we = some (.inl (cy 0, 3, .inl (weg))) := hr21 _ _ hwe (hD _ (by simp))
                    have hst_21 : f21 stp = some (.inl (cy 0, 18, .inl (stg))) := hr21 _ _ hst (hD _ (by simp))
                    have hpa_21 : f21 pa = some (.inl (cy 6, 5, .inr (.inr (.inr (.inr (pg)))))) := hr21 _ _ hpa (hD _ (by simp))
                    have hp_21 : f21 p = some (.inr (2, [.ref c1, .ref c2, .int s, .int v])) := hr21 _ _ hp (hD _ (by simp))
                    have h1_21 : f21 c1 = some (.inl (cy 0, n1, .inl (g))) := hr21 _ _ h1 (hD _ (by simp))
                    have h2_21 : f21 c2 = some (.inl (cy 0, n2, .inl (h))) := hr21 _ _ h2 (hD _ (by simp))
                    obtain ⟨dau22, tu22, hPu22, hQu22⟩ := hF21 (scI st) (scI_lt st)
                    exact gz_zret rfl (by first | decide | exact nrb (Or.inl rfl) | (refine nrb ?_; (repeat' split) <;> first | assumption | exact Or.inl rfl | exact Or.inr rfl)) dX10_reaches_220 (Nat.le_of_ble_eq_true rfl) (Nat.le_of_ble_eq_true rfl) (⟨_, rfl, (by first | assumption | exact Or.inl rfl | exact Or.inr rfl), hF21, (fr_tr fr_rf (fr_mo hr21 (by simp)))⟩)
        ·
          refine gz_iconst (v := 1) dX10_reaches_31 (by decide) ?_
          exact gz_zret rfl (by first | decide | exact nrb (Or.inl rfl) | (refine nrb ?_; (repeat' split) <;> first | assumption | exact Or.inl rfl | exact Or.inr rfl)) dX10_reaches_32 (Nat.le_of_ble_eq_true rfl) (Nat.le_of_ble_eq_true rfl) (⟨_, rfl, (by first | assumption | exact Or.inl rfl | exact Or.inr rfl), hF, fr_rf⟩)
      ·
        refine gz_iconst (v := 0) dX10_reaches_24 (by decide) ?_
        exact gz_zret rfl (by first | decide | exact nrb (Or.inl rfl) | (refine nrb ?_; (repeat' split) <;> first | assumption | exact Or.inl rfl | exact Or.inr rfl)) dX10_reaches_25 (Nat.le_of_ble_eq_true rfl) (Nat.le_of_ble_eq_true rfl) (⟨_, rfl, (by first | assumption | exact Or.inl rfl | exact Or.inr rfl), hF, fr_rf⟩)

set_option maxHeartbeats 4000000 in
set_option maxRecDepth 100000 in
theorem k_X10_start {l : Launch} {D : va_G} {cy : Nat → ClassId} {b : Nat} {f : gMem} {wo we stp pa ba td p : Nat} {sz ah gl : Int32} {pg : Nat → Option Nat} {P Q : Nat → Nat} {po tt : Nat} {nn_ dt : Int32} {ut : Nat → Int32} (hwo : f wo = some (.inr (10, [.int sz, .ref we, .ref stp, .ref pa, .ref ba, .ref td, .ref po, .int ah, .int gl]))) (hpa : f pa = some (.inl (cy 6, 5, .inr (.inr (.inr (.inr (pg))))))) (htd : f td = some (.inr (7, [.ref tt, .int dt]))) (htt : f tt = some (.inl (cy 0, 6, .inl (ut)))) (hF : pF cy P Q f) (hpg : ∀ ii : Nat, ii < 5 → pg ii = some (P ii)) (hPQ : ∀ ii jj : Nat, ii < 5 → jj < 5 → ii ≠ jj → P ii ≠ P jj ∧ Q ii ≠ Q jj) (hD2 : ∀ xx : Nat, xx ∈ [td, tt] → xx ∉ scL P Q) : gC l D cy b yX10_start cX10_start 3 none 1 0 0 [.ref wo, .ref p, .int nn_] f (pV fun f2 => f2 wo = some (.inr (10, [.int sz, .ref we, .ref stp, .ref pa, .ref ba, .ref td, .ref p, .int (if 4 < nn_ then 4 else nn_), .int gl])) ∧ pF cy P Q f2 ∧ fr (wo :: scL P Q) f f2) := by
  refine gC_of (by decide) (Nat.le_of_ble_eq_true rfl) ?_
  show gG l _ _ _ D cy b cX10_start 3 _ RX10 "start" 0 0 f 0 [(0, .ref wo), (1, .ref p), (2, .int nn_)] []
  obtain ⟨dz, tz, hPz, hQz⟩ := hF 0 (by decide)
  refine gz_aload_n dX10_start_0 rfl rfl ?_
  refine gz_aload_n dX10_start_1 rfl rfl ?_
  refine spX10_37 hwo  (Nat.le_of_ble_eq_true rfl) dX10_start_2 ?_
  obtain ⟨f1, hf1⟩ : ∃ gg : gMem, gg = va_up f wo (some (.inr (10, [.int sz, .ref we, .ref stp, .ref pa, .ref ba, .ref td, .ref p, .int ah, .int gl]))) := ⟨_, rfl⟩
  refine gz_eq (f2 := f1) hf1.symm rfl rfl rfl ?_
  have hpa_1 : f1 pa = some (.inl (cy 6, 5, .inr (.inr (.inr (.inr (pg)))))) := by rw [hf1, va_up_ne _ _ (cne hpa hwo (by simp))]; exact hpa
  have htd_1 : f1 td = some (.inr (7, [.ref tt, .int dt])) := by rw [hf1, va_up_ne _ _ (cne htd hwo (by simp))]; exact htd
  have htt_1 : f1 tt = some (.inl (cy 0, 6, .inl (ut))) := by rw [hf1, va_up_ne _ _ (cne htt hwo (by simp))]; exact htt
  have hPz_1 : f1 (P 0) = some (.inr (7, [.ref (Q 0), .int dz])) := by rw [hf1, va_up_ne _ _ (cne hPz hwo (by simp))]; exact hPz
  have hQz_1 : f1 (Q 0) = some (.inl (cy 0, 6, .inl (tz))) := by rw [hf1, va_up_ne _ _ (cne hQz hwo (by simp))]; exact hQz
  have hwo_1 : f1 wo = some (.inr (10, [.int sz, .ref we, .ref stp, .ref pa, .ref ba, .ref td, .ref p, .int ah, .int gl])) := by rw [hf1]; exact va_up_self _ _ _
  refine gz_aload_n dX10_start_5 rfl rfl ?_
  refine gz_iload_n dX10_start_6 rfl rfl ?_
  refine gz_iconst (v := 4) dX10_start_7 (by decide) ?_
  refine scX10_50 (Nat.le_of_ble_eq_true rfl) (Nat.le_of_ble_eq_true rfl) (Nat.le_of_ble_eq_true rfl) (Nat.le_of_ble_eq_true rfl) (Nat.le_of_ble_eq_true rfl) dX10_start_8 ?_
  refine spX10_56 hwo_1  (Nat.le_of_ble_eq_true rfl) dX10_start_11 ?_
  obtain ⟨f2, hf2⟩ : ∃ gg : gMem, gg = va_up f1 wo (some (.inr (10, [.int sz, .ref we, .ref stp, .ref pa, .ref ba, .ref td, .ref p, .int (if 4 < nn_ then 4 else nn_), .int gl]))) := ⟨_, rfl⟩
  refine gz_eq (f2 := f2) hf2.symm rfl rfl rfl ?_
  have hpa_2 : f2 pa = some (.inl (cy 6, 5, .inr (.inr (.inr (.inr (pg)))))) := by rw [hf2, va_up_ne _ _ (cne hpa_1 hwo_1 (by simp))]; exact hpa_1
  have htd_2 : f2 td = some (.inr (7, [.ref tt, .int dt])) := by rw [hf2, va_up_ne _ _ (cne htd_1 hwo_1 (by simp))]; exact htd_1
  have htt_2 : f2 tt = some (.inl (cy 0, 6, .inl (ut))) := by rw [hf2, va_up_ne _ _ (cne htt_1 hwo_1 (by simp))]; exact htt_1
  have hPz_2 : f2 (P 0) = some (.inr (7, [.ref (Q 0), .int dz])) := by rw [hf2, va_up_ne _ _ (cne hPz_1 hwo_1 (by simp))]; exact hPz_1
  have hQz_2 : f2 (Q 0) = some (.inl (cy 0, 6, .inl (tz))) := by rw [hf2, va_up_ne _ _ (cne hQz_1 hwo_1 (by simp))]; exact hQz_1
  have hwo_2 : f2 wo = some (.inr (10, [.int sz, .ref we, .ref stp, .ref pa, .ref ba, .ref td, .ref p, .int (if 4 < nn_ then 4 else nn_), .int gl])) := by rw [hf2]; exact va_up_self _ _ _
  refine gz_aload_n dX10_start_14 rfl rfl ?_
  refine sgX10_24 hwo_2 rfl dX10_start_15 ?_
  refine gz_iconst (v := 0) dX10_start_18 (by decide) ?_
  refine gz_aald6 hpa_2 (vin_T (v := 0) rfl (by decide) (by decide)) dX10_start_19 ?_
  refine gz_ev (w := .ref (P 0)) (by rw [show Int32.toNatClampNeg 0 = 0 from rfl, hpg 0 (by decide)]; rfl) ?_
  refine gz_aload_n dX10_start_20 rfl rfl ?_
  refine sgX10_41 hwo_2 rfl dX10_start_21 ?_
  obtain ⟨x1, hx1⟩ : ∃ x0, (cpyF dt ut tz dz) = x0 := ⟨_, rfl⟩
  refine scX10_59 (k_X7_copyFrom hPz_2 hQz_2 htd_2 htt_2 ⟨Ne.symm (fun q => hD2 tt (by simp) (q ▸ (scL_in (by decide)).2)), Ne.symm (fun q => hD2 td (by simp) (q ▸ (scL_in (by decide)).1))⟩) hPz_2 ⟨(Nat.le_of_ble_eq_true rfl), (Nat.le_of_ble_eq_true rfl)⟩ ⟨(Nat.le_of_ble_eq_true rfl), (Nat.le_of_ble_eq_true rfl)⟩ rfl rfl (Nat.le_of_ble_eq_true rfl) dX10_start_24 ?_
  rintro f3 ⟨hQz_3, hPz_3, hr3⟩; rw [hx1] at hQz_3 hPz_3
  have hpa_3 : f3 pa = some (.inl (cy 6, 5, .inr (.inr (.inr (.inr (pg)))))) := hr3 _ _ hpa_2 (by simp only [List.mem_cons, List.not_mem_nil, or_false, not_or]; exact ⟨cne hpa_2 hQz_2 (by simp), cne hpa_2 hPz_2 (by simp)⟩)
  have htd_3 : f3 td = some (.inr (7, [.ref tt, .int dt])) := hr3 _ _ htd_2 (by simp only [List.mem_cons, List.not_mem_nil, or_false, not_or]; exact ⟨cne htd_2 hQz_2 (by simp), (fun q => hD2 td (by simp) (q ▸ (scL_in (by decide)).1))⟩)
  have htt_3 : f3 tt = some (.inl (cy 0, 6, .inl (ut))) := hr3 _ _ htt_2 (by simp only [List.mem_cons, List.not_mem_nil, or_false, not_or]; exact ⟨(fun q => hD2 tt (by simp) (q ▸ (scL_in (by decide)).2)), cne htt_2 hPz_2 (by simp)⟩)
  have hwo_3 : f3 wo = some (.inr (10, [.int sz, .ref we, .ref stp, .ref pa, .ref ba, .ref td, .ref p, .int (if 4 < nn_ then 4 else nn_), .int gl])) := hr3 _ _ hwo_2 (by simp only [List.mem_cons, List.not_mem_nil, or_false, not_or]; exact ⟨cne hwo_2 hQz_2 (by simp), cne hwo_2 hPz_2 (by simp)⟩)
  exact gz_vret rfl dX10_start_27 (Nat.le_of_ble_eq_true rfl) (Nat.le_of_ble_eq_true rfl) (⟨rfl, hwo_3, pF_up (f := f2) (by decide) hPQ (fun i hi => by obtain ⟨q1, q2, q3, q4⟩ := hF i hi; refine ⟨q1, q2, ?_, ?_⟩; rw [hf2, va_up_ne _ _ (cne q3 hwo (by simp)), hf1, va_up_ne _ _ (cne q3 hwo (by simp))]; exact q3; rw [hf2, va_up_ne _ _ (cne q4 hwo (by simp)), hf1, va_up_ne _ _ (cne q4 hwo (by simp))]; exact q4) hPz_3 hQz_3 (fr_mo hr3 (by simp)), (fr_tr (by rw [hf2, hf1]; exact fr_up (fr_up fr_rf (by simp)) (by simp)) (fr_mo hr3 (fun z hz => List.mem_cons_of_mem _ (scL_sub (j := 0) (by decide) z (by simp only [List.mem_cons, List.not_mem_nil, or_false] at hz ⊢; exact hz.symm)))))⟩)
