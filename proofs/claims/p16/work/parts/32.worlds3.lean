def pF (cy : Nat → ClassId) (P Q : Nat → Nat) (f : gMem) : Prop := ∀ i : Nat, i < 5 → ∃ (da : Int32) (t : Nat → Int32), f (P i) = some (.inr (7, [.ref (Q i), .int da])) ∧ f (Q i) = some (.inl (cy 0, 6, .inl (t)))
def scL (P Q : Nat → Nat) : List Nat := [P 0, Q 0, P 1, Q 1, P 2, Q 2, P 3, Q 3, P 4, Q 4]
theorem scL_in {P Q : Nat → Nat} {i : Nat} (h : i < 5) : P i ∈ scL P Q ∧ Q i ∈ scL P Q := by
  match i, h with
  | 0, _ => simp [scL]
  | 1, _ => simp [scL]
  | 2, _ => simp [scL]
  | 3, _ => simp [scL]
  | 4, _ => simp [scL]
  | i + 5, h => omega
theorem scL_sub {P Q : Nat → Nat} {j : Nat} (h : j < 5) : ∀ x, x ∈ [P j, Q j] → x ∈ scL P Q := by
  intro x hx
  simp only [List.mem_cons, List.not_mem_nil, or_false] at hx
  rcases hx with rfl | rfl
  · exact (scL_in h).1
  · exact (scL_in h).2
theorem pF_up {cy : Nat → ClassId} {P Q : Nat → Nat} {f f2 : gMem} {j : Nat} {d2 : Int32} {t2 : Nat → Int32} (hj : j < 5) (hPQ : ∀ i j : Nat, i < 5 → j < 5 → i ≠ j → P i ≠ P j ∧ Q i ≠ Q j) (hF : pF cy P Q f) (h1 : f2 (P j) = some (.inr (7, [.ref (Q j), .int d2]))) (h2 : f2 (Q j) = some (.inl (cy 0, 6, .inl (t2)))) (hr : fr [P j, Q j] f f2) : pF cy P Q f2 := by
  intro i hi
  by_cases e : i = j
  · subst e; exact ⟨d2, t2, h1, h2⟩
  · obtain ⟨da, t, g1, g2⟩ := hF i hi
    obtain ⟨db, u, g3, g4⟩ := hF j hj
    have z := hPQ i j hi hj e
    exact ⟨da, t, hr _ _ g1 (by simp only [List.mem_cons, List.not_mem_nil, or_false, not_or]; exact ⟨z.1, cne g1 g4 (by simp)⟩), hr _ _ g2 (by simp only [List.mem_cons, List.not_mem_nil, or_false, not_or]; exact ⟨cne g2 g3 (by simp), z.2⟩)⟩
theorem nxt_ok {n1 : Nat} {g : Nat → Int32} {s da w : Int32} (hs : 0 ≤ s.toInt ∧ 13 * s.toInt ≤ n1 ∧ n1 ≤ 520) (hI : fI g s.toInt) (hw : 0 ≤ w.toInt ∧ w.toInt < s.toInt) : (nxtF n1 g s da w).toInt = -1 ∨ (w.toInt < (nxtF n1 g s da w).toInt ∧ (nxtF n1 g s da w).toInt < s.toInt) := by
  have h3 := fI_first (w := w) hs hI
  have h4 := fI_second (w := w) hs hI
  unfold nxtF
  (repeat' split) <;> omega

def vP (l : Launch) (D : va_G) (cy : Nat → ClassId) (b wo we stp pa ba td p c1 c2 n1 n2 : Nat) (sz ah gl s v : Int32) (weg stg g h : Nat → Int32) (pg : Nat → Option Nat) (P Q : Nat → Nat) (k : Nat) : Prop := ∀ (wd fa st : Int32) (f : gMem), (f wo = some (.inr (10, [.int sz, .ref we, .ref stp, .ref pa, .ref ba, .ref td, .ref p, .int ah, .int gl]))) → (f we = some (.inl (cy 0, 3, .inl (weg)))) → (f stp = some (.inl (cy 0, 18, .inl (stg)))) → (f pa = some (.inl (cy 6, 5, .inr (.inr (.inr (.inr (pg))))))) → (f p = some (.inr (2, [.ref c1, .ref c2, .int s, .int v]))) → (f c1 = some (.inl (cy 0, n1, .inl (g)))) → (f c2 = some (.inl (cy 0, n2, .inl (h)))) → (pF cy P Q f) → (0 ≤ st.toInt ∧ st.toInt ≤ 4) → (0 < k ∧ (0 ≤ wd.toInt → 41 * (4 - st.toInt) + (s.toInt - wd.toInt) < (k : Int))) → gC l D cy b yX10_value cX10_value 8 (some .long) (4 + 2 * k) 0 0 [.ref wo, .int wd, .int fa, .int st] f (pL fun r f2 => pF cy P Q f2 ∧ fr (scL P Q) f f2)

set_option maxHeartbeats 4000000 in
set_option maxRecDepth 100000 in
theorem k_X10_deedValue {l : Launch} {D : va_G} {cy : Nat → ClassId} {b : Nat} {f : gMem} {wo we stp pa ba td p c1 c2 n1 n2 : Nat} {sz ah gl s v : Int32} {weg stg g h : Nat → Int32} {pg : Nat → Option Nat} {P Q : Nat → Nat} {wd fa st : Int32} {k : Nat} (hwo : f wo = some (.inr (10, [.int sz, .ref we, .ref stp, .ref pa, .ref ba, .ref td, .ref p, .int ah, .int gl]))) (hwe : f we = some (.inl (cy 0, 3, .inl (weg)))) (hst : f stp = some (.inl (cy 0, 18, .inl (stg)))) (hpa : f pa = some (.inl (cy 6, 5, .inr (.inr (.inr (.inr (pg))))))) (hp : f p = some (.inr (2, [.ref c1, .ref c2, .int s, .int v]))) (h1 : f c1 = some (.inl (cy 0, n1, .inl (g)))) (h2 : f c2 = some (.inl (cy 0, n2, .inl (h)))) (hs : 0 ≤ s.toInt ∧ 13 * s.toInt ≤ n1 ∧ n1 ≤ 520) (hv : 0 ≤ v.toInt ∧ 2 * v.toInt ≤ n2 ∧ n2 ≤ 80) (hI : fI g s.toInt) (hz : sz.toInt ≤ 3) (ha : ah.toInt ≤ 4) (hpg : ∀ ii : Nat, ii < 5 → pg ii = some (P ii)) (hPQ : ∀ ii jj : Nat, ii < 5 → jj < 5 → ii ≠ jj → P ii ≠ P jj ∧ Q ii ≠ Q jj) (hD : ∀ xx : Nat, xx ∈ [wo, we, stp, pa, p, c1, c2] → xx ∉ scL P Q) (hF : pF cy P Q f) (hsr : 0 ≤ st.toInt ∧ st.toInt ≤ 4) (hw : 0 ≤ wd.toInt ∧ wd.toInt < s.toInt ∧ 41 * (4 - st.toInt) + (s.toInt - wd.toInt) ≤ (k : Int)) (VP : vP l D cy b wo we stp pa ba td p c1 c2 n1 n2 sz ah gl s v weg stg g h pg P Q k) : gC l D cy b yX10_deedValue cX10_deedValue 5 (some .long) (4 + 2 * k + 1) 0 0 [.ref wo, .int wd, .int fa, .int st] f (pL fun r f2 => pF cy P Q f2 ∧ fr (scL P Q) f f2) := by
  refine gC_of (by decide) (Nat.le_of_ble_eq_true rfl) ?_
  show gG l _ _ _ D cy b cX10_deedValue 5 _ RX10 "deedValue" 0 0 f 0 [(0, .ref wo), (1, .int wd), (2, .int fa), (3, .int st)] []
  refine gz_aload_n dX10_deedValue_0 rfl rfl ?_
  refine gz_iload_n dX10_deedValue_1 rfl rfl ?_
  refine scX10_66 (k_X10_sceneAt (st := st) hwo hpa) hwo ⟨(by simp only [gRm]; omega), (by simp only [gRm]; omega)⟩ ⟨(Nat.le_of_ble_eq_true rfl), (Nat.le_of_ble_eq_true rfl)⟩ rfl rfl (Nat.le_of_ble_eq_true rfl) dX10_deedValue_2 ?_
  rintro u9 f9 ⟨z9, y9⟩; rw [z9, y9]
  refine gz_ev (w := .ref (P (scI st))) (by rw [hpg _ (scI_lt st)]; rfl) ?_
  obtain ⟨dau1, tu1, hPu1, hQu1⟩ := hF (scI st) (scI_lt st)
  refine gz_astore (lv' := [(4, .ref (P (scI st))), (0, .ref wo), (1, .int wd), (2, .int fa), (3, .int st)]) dX10_deedValue_5 (by decide) rfl ?_
  refine gz_aload_n dX10_deedValue_7 rfl rfl ?_
  refine gz_aload_n dX10_deedValue_8 rfl rfl ?_
  refine sgX10_37 hwo rfl dX10_deedValue_9 ?_
  refine gz_iload_n dX10_deedValue_12 rfl rfl ?_
  refine gz_aload dX10_deedValue_13 rfl ?_
  refine scX10_113 (k_X2_nextDeed (w := wd) hp h1 hPu1 hs) hp ⟨(by simp only [gRm]; omega), (by simp only [gRm]; omega)⟩ ⟨(Nat.le_of_ble_eq_true rfl), (Nat.le_of_ble_eq_true rfl)⟩ rfl rfl (Nat.le_of_ble_eq_true rfl) dX10_deedValue_15 ?_
  intro v9 f9 z9; rw [z9.1, z9.2]
  refine gz_aload_n dX10_deedValue_18 rfl rfl ?_
  refine sgX10_37 hwo rfl dX10_deedValue_19 ?_
  refine gz_iload_n dX10_deedValue_22 rfl rfl ?_
  refine gz_iload_n dX10_deedValue_23 rfl rfl ?_
  refine gz_aload dX10_deedValue_24 rfl ?_
  refine scX10_117 (k_X2_passed (w := wd) (x := fa) hp h1 h2 hPu1 hQu1 hs hv) hp ⟨(by simp only [gRm]; omega), (by simp only [gRm]; omega)⟩ ⟨(Nat.le_of_ble_eq_true rfl), (Nat.le_of_ble_eq_true rfl)⟩ rfl rfl (Nat.le_of_ble_eq_true rfl) dX10_deedValue_26 ?_
  intro v9 f9 z9; rw [z9.1, z9.2]
  refine gz_iload_n dX10_deedValue_29 rfl rfl ?_
  refine scX10_83 (VP (nxtF n1 g s dau1 wd) (pasF n1 n2 g h s v tu1 dau1 wd fa) st _ hwo hwe hst hpa hp h1 h2 hF hsr (by have z := nxt_ok (da := dau1) hs hI ⟨hw.1, hw.2.1⟩; omega)) hwo ⟨(by simp only [gRm]; omega), (by simp only [gRm]; omega)⟩ ⟨(Nat.le_of_ble_eq_true rfl), (Nat.le_of_ble_eq_true rfl)⟩ rfl rfl (Nat.le_of_ble_eq_true rfl) dX10_deedValue_30 ?_
  rintro r1 f1 ⟨hF1, hr1⟩
  have hwo_1 : f1 wo = some (.inr (10, [.int sz, .ref we, .ref stp, .ref pa, .ref ba, .ref td, .ref p, .int ah, .int gl])) := hr1 _ _ hwo (hD _ (by simp))
  have hwe_1 : f1 we = some (.inl (cy 0, 3, .inl (weg))) := hr1 _ _ hwe (hD _ (by simp))
  have hst_1 : f1 stp = some (.inl (cy 0, 18, .inl (stg))) := hr1 _ _ hst (hD _ (by simp))
  have hpa_1 : f1 pa = some (.inl (cy 6, 5, .inr (.inr (.inr (.inr (pg)))))) := hr1 _ _ hpa (hD _ (by simp))
  have hp_1 : f1 p = some (.inr (2, [.ref c1, .ref c2, .int s, .int v])) := hr1 _ _ hp (hD _ (by simp))
  have h1_1 : f1 c1 = some (.inl (cy 0, n1, .inl (g))) := hr1 _ _ h1 (hD _ (by simp))
  have h2_1 : f1 c2 = some (.inl (cy 0, n2, .inl (h))) := hr1 _ _ h2 (hD _ (by simp))
  obtain ⟨dau2, tu2, hPu2, hQu2⟩ := hF1 (scI st) (scI_lt st)
  exact gz_lret rfl dX10_deedValue_33 (Nat.le_of_ble_eq_true rfl) (Nat.le_of_ble_eq_true rfl) (⟨_, rfl, hF1, (fr_tr fr_rf (fr_mo hr1 (by simp)))⟩)

set_option maxHeartbeats 4000000 in
set_option maxRecDepth 100000 in
theorem l_X10_waiting {l : Launch} {D : va_G} {cy : Nat → ClassId} {b : Nat} {f : gMem} {wo we stp pa ba td p c1 c2 n1 n2 : Nat} {sz ah gl s v : Int32} {weg stg g h : Nat → Int32} {pg : Nat → Option Nat} {P Q : Nat → Nat} {wd fa st : Int32}  {k0 : Nat} (hs : 0 ≤ s.toInt ∧ 13 * s.toInt ≤ n1 ∧ n1 ≤ 520) (hv : 0 ≤ v.toInt ∧ 2 * v.toInt ≤ n2 ∧ n2 ≤ 80) (hI : fI g s.toInt) (hz : sz.toInt ≤ 3) (ha : ah.toInt ≤ 4) (hpg : ∀ ii : Nat, ii < 5 → pg ii = some (P ii)) (hPQ : ∀ ii jj : Nat, ii < 5 → jj < 5 → ii ≠ jj → P ii ≠ P jj ∧ Q ii ≠ Q jj) (hD : ∀ xx : Nat, xx ∈ [wo, we, stp, pa, p, c1, c2] → xx ∉ scL P Q) (hsr : 0 ≤ st.toInt ∧ st.toInt ≤ 3) (hw : 0 ≤ wd.toInt ∧ wd.toInt < s.toInt ∧ 41 * (4 - st.toInt) + (s.toInt - wd.toInt) ≤ (k0 : Int)) (VP : vP l D cy b wo we stp pa ba td p c1 c2 n1 n2 sz ah gl s v weg stg g h pg P Q k0) : ∀ (k : Nat) (i : Int32) (al : Int64) (fm : gMem), fr (scL P Q) f fm → (fm wo = some (.inr (10, [.int sz, .ref we, .ref stp, .ref pa, .ref ba, .ref td, .ref p, .int ah, .int gl]))) → (fm we = some (.inl (cy 0, 3, .inl (weg)))) → (fm stp = some (.inl (cy 0, 18, .inl (stg)))) → (fm pa = some (.inl (cy 6, 5, .inr (.inr (.inr (.inr (pg))))))) → (fm p = some (.inr (2, [.ref c1, .ref c2, .int s, .int v]))) → (fm c1 = some (.inl (cy 0, n1, .inl (g)))) → (fm c2 = some (.inl (cy 0, n2, .inl (h)))) → (pF cy P Q fm) → (0 ≤ i.toInt ∧ 0 < k ∧ (i.toInt < sz.toInt → sz.toInt - i.toInt < (k : Int))) → gG l (gRm (4 + 2 * k0 + 1) 0 0) (gQf D b (pL fun r f2 => pF cy P Q f2 ∧ fr (scL P Q) f f2) 0 0) gTt D cy b cX10_waiting 9 (some .long) RX10 "waiting" (0) (0) fm 16 [(6, .int i), (4, .long al), (0, .ref wo), (1, .int wd), (2, .int fa), (3, .int st)] [] := by
  intro k
  induction k with
  | zero =>
    intro i al fm hfr hwo hwe hst hpa hp h1 h2 hF hk
    exfalso; omega
  | succ k ih =>
    intro i al fm hfr hwo hwe hst hpa hp h1 h2 hF hk
    refine gz_iload dX10_waiting_16 rfl ?_
    refine gz_aload_n dX10_waiting_18 rfl rfl ?_
    refine sgX10_9 hwo rfl dX10_waiting_19 ?_
    refine gz_icmp_ge (tgt := 112) dX10_waiting_22 (by decide) (fun c_22 => ?_) (fun c_22 => ?_)
    ·
      refine gz_lload dX10_waiting_112 rfl ?_
      exact gz_lret rfl dX10_waiting_114 (Nat.zero_le _) (Nat.zero_le _) (⟨_, rfl, hF, hfr⟩)
    ·
      refine gz_aload_n dX10_waiting_25 rfl rfl ?_
      refine gz_iload_n dX10_waiting_26 rfl rfl ?_
      refine gz_iload dX10_waiting_27 rfl ?_
      have hs1 : (st + 1).toInt = st.toInt + 1 := by have e1 : (1 : Int32).toInt = 1 := rfl; exact T_add (rfl : st.toInt = st.toInt) e1 (by omega)
      have hsn : scI st ≠ scI (st + 1) := by rw [scI_eq hsr.1 (by omega), scI_eq (by omega) (by omega), hs1]; omega
      obtain ⟨dau1, tu1, hPu1, hQu1⟩ := hF (scI st) (scI_lt st)
      obtain ⟨dau2, tu2, hPu2, hQu2⟩ := hF (scI (st + 1)) (scI_lt (st + 1))
      have hz1 := hPQ _ _ (scI_lt st) (scI_lt (st + 1)) hsn
      refine scX10_126 (k_X10_go (st := st) (wy := i) hwo hst hpa hPu1 hQu1 hPu2 hQu2 ⟨hz1.2, hz1.1, (fun q => hD stp (by simp) (q ▸ (scL_in (scI_lt (st + 1))).2))⟩ (hpg _ (scI_lt st)) (hpg _ (scI_lt (st + 1)))) hwo ⟨(by simp only [gRm]; omega), (by simp only [gRm]; omega)⟩ ⟨(Nat.zero_le _), (Nat.zero_le _)⟩ rfl rfl (Nat.le_of_ble_eq_true rfl) dX10_waiting_29 ?_
      rintro f1 ⟨d1, t1, hga, hgb, hgr1⟩
      have hF1 := pF_up (scI_lt (st + 1)) hPQ hF hga hgb hgr1
      have hr1 := fr_mo hgr1 (scL_sub (P := P) (Q := Q) (scI_lt (st + 1)))
      clear hs1 hsn hz1 hga hgb hgr1
      have hwo_1 : f1 wo = some (.inr (10, [.int sz, .ref we, .ref stp, .ref pa, .ref ba, .ref td, .ref p, .int ah, .int gl])) := hr1 _ _ hwo (hD _ (by simp))
      have hwe_1 : f1 we = some (.inl (cy 0, 3, .inl (weg))) := hr1 _ _ hwe (hD _ (by simp))
      have hst_1 : f1 stp = some (.inl (cy 0, 18, .inl (stg))) := hr1 _ _ hst (hD _ (by simp))
      have hpa_1 : f1 pa = some (.inl (cy 6, 5, .inr (.inr (.inr (.inr (pg)))))) := hr1 _ _ hpa (hD _ (by simp))
      have hp_1 : f1 p = some (.inr (2, [.ref c1, .ref c2, .int s, .int v])) := hr1 _ _ hp (hD _ (by simp))
      have h1_1 : f1 c1 = some (.inl (cy 0, n1, .inl (g))) := hr1 _ _ h1 (hD _ (by simp))
      have h2_1 : f1 c2 = some (.inl (cy 0, n2, .inl (h))) := hr1 _ _ h2 (hD _ (by simp))
      refine gz_aload_n dX10_waiting_32 rfl rfl ?_
      refine gz_iload_n dX10_waiting_33 rfl rfl ?_
      refine gz_iload_n dX10_waiting_34 rfl rfl ?_
      refine gz_iload_n dX10_waiting_35 rfl rfl ?_
      refine gz_iconst (v := 1) dX10_waiting_36 (by decide) ?_
      refine gz_iadd dX10_waiting_37 ?_
      refine scX10_83 (VP wd fa (st + 1) _ hwo_1 hwe_1 hst_1 hpa_1 hp_1 h1_1 h2_1 hF1 (by have e1 : (1 : Int32).toInt = 1 := rfl; have hx := T_add (rfl : st.toInt = st.toInt) e1 (by omega); rw [hx]; omega) (by have e1 : (1 : Int32).toInt = 1 := rfl; have hx := T_add (rfl : st.toInt = st.toInt) e1 (by omega); rw [hx]; omega)) hwo_1 ⟨(by simp only [gRm]; omega), (by simp only [gRm]; omega)⟩ ⟨(Nat.zero_le _), (Nat.zero_le _)⟩ rfl rfl (Nat.le_of_ble_eq_true rfl) dX10_waiting_38 ?_
      rintro r2 f2 ⟨hF2, hr2⟩
      have hwo_2 : f2 wo = some (.inr (10, [.int sz, .ref we, .ref stp, .ref pa, .ref ba, .ref td, .ref p, .int ah, .int gl])) := hr2 _ _ hwo_1 (hD _ (by simp))
      have hwe_2 : f2 we = some (.inl (cy 0, 3, .inl (weg))) := hr2 _ _ hwe_1 (hD _ (by simp))
      have hst_2 : f2 stp = some (.inl (cy 0, 18, .inl (stg))) := hr2 _ _ hst_1 (hD _ (by simp))
      have hpa_2 : f2 pa = some (.inl (cy 6, 5, .inr (.inr (.inr (.inr (pg)))))) := hr2 _ _ hpa_1 (hD _ (by simp))
      have hp_2 : f2 p = some (.inr (2, [.ref c1, .ref c2, .int s, .int v])) := hr2 _ _ hp_1 (hD _ (by simp))
      have h1_2 : f2 c1 = some (.inl (cy 0, n1, .inl (g))) := hr2 _ _ h1_1 (hD _ (by simp))
      have h2_2 : f2 c2 = some (.inl (cy 0, n2, .inl (h))) := hr2 _ _ h2_1 (hD _ (by simp))
      refine gz_lstore (lv' := [(7, .long r2), (6, .int i), (4, .long al), (0, .ref wo), (1, .int wd), (2, .int fa), (3, .int st)]) dX10_waiting_41 (by decide) rfl ?_
      refine gz_aload_n dX10_waiting_43 rfl rfl ?_
      refine sgX10_80 hwo_2 rfl dX10_waiting_44 ?_
      refine gz_if_ne (tgt := 67) dX10_waiting_47 (by decide) (fun c_47 => ?_) (fun c_47 => ?_)
      ·
        refine gz_iload dX10_waiting_67 rfl ?_
        refine gz_if_ne (tgt := 79) dX10_waiting_69 (by decide) (fun c_69 => ?_) (fun c_69 => ?_)
        ·
          refine gz_aload_n dX10_waiting_79 rfl rfl ?_
          refine sgX10_80 hwo_2 rfl dX10_waiting_80 ?_
          refine gz_iconst (v := 1) dX10_waiting_83 (by decide) ?_
          refine gz_icmp_ne (tgt := 97) dX10_waiting_84 (by decide) (fun c_84 => ?_) (fun c_84 => ?_)
          ·
            refine gz_lload dX10_waiting_97 rfl ?_
            refine gz_lload dX10_waiting_99 rfl ?_
            refine scX10_121 (by simp only [gRm]; omega) (by simp only [gRm]; omega) (Nat.zero_le _) (Nat.zero_le _) (Nat.le_of_ble_eq_true rfl) dX10_waiting_101 ?_
            refine gz_lstore (lv' := [(4, .long (if r2 < al then al else r2)), (7, .long r2), (6, .int i), (0, .ref wo), (1, .int wd), (2, .int fa), (3, .int st)]) dX10_waiting_104 (by decide) rfl ?_
            refine gz_iinc (v := (i + 1)) (lv' := [(6, .int (i + 1)), (4, .long (if r2 < al then al else r2)), (7, .long r2), (0, .ref wo), (1, .int wd), (2, .int fa), (3, .int st)]) dX10_waiting_106 rfl rfl (by decide) rfl ?_
            refine gz_goto (tgt := 16) dX10_waiting_109 (by decide) ?_
            refine gz_sub (lv' := [(6, .int (i + 1)), (4, .long (if r2 < al then al else r2)), (0, .ref wo), (1, .int wd), (2, .int fa), (3, .int st)]) (by simp [List.lookup]) ?_
            exact ih (i + 1) (if r2 < al then al else r2) _ (fr_tr (fr_tr hfr (fr_mo hr1 (by simp))) (fr_mo hr2 (by simp))) hwo_2 hwe_2 hst_2 hpa_2 hp_2 h1_2 h2_2 (hF2) (by have e1 : (1 : Int32).toInt = 1 := rfl; simp only [fl_le] at c_22; have hx := T_add (rfl : i.toInt = i.toInt) e1 (by omega); omega)
          ·
            refine gz_lload dX10_waiting_87 rfl ?_
            refine gz_lload dX10_waiting_89 rfl ?_
            refine scX10_124 (by simp only [gRm]; omega) (by simp only [gRm]; omega) (Nat.zero_le _) (Nat.zero_le _) (Nat.le_of_ble_eq_true rfl) dX10_waiting_91 ?_
            refine gz_goto (tgt := 104) dX10_waiting_94 (by decide) ?_
            refine gz_lstore (lv' := [(4, .long (if r2 < al then r2 else al)), (7, .long r2), (6, .int i), (0, .ref wo), (1, .int wd), (2, .int fa), (3, .int st)]) dX10_waiting_104 (by decide) rfl ?_
            refine gz_iinc (v := (i + 1)) (lv' := [(6, .int (i + 1)), (4, .long (if r2 < al then r2 else al)), (7, .long r2), (0, .ref wo), (1, .int wd), (2, .int fa), (3, .int st)]) dX10_waiting_106 rfl rfl (by decide) rfl ?_
            refine gz_goto (tgt := 16) dX10_waiting_109 (by decide) ?_
            refine gz_sub (lv' := [(6, .int (i + 1)), (4, .long (if r2 < al then r2 else al)), (0, .ref wo), (1, .int wd), (2, .int fa), (3, .int st)]) (by simp [List.lookup]) ?_
            exact ih (i + 1) (if r2 < al then r2 else al) _ (fr_tr (fr_tr hfr (fr_mo hr1 (by simp))) (fr_mo hr2 (by simp))) hwo_2 hwe_2 hst_2 hpa_2 hp_2 h1_2 h2_2 (hF2) (by have e1 : (1 : Int32).toInt = 1 := rfl; simp only [fl_le] at c_22; have hx := T_add (rfl : i.toInt = i.toInt) e1 (by omega); omega)
        ·
          refine gz_lload dX10_waiting_72 rfl ?_
          refine gz_lstore (lv' := [(4, .long r2), (7, .long r2), (6, .int i), (0, .ref wo), (1, .int wd), (2, .int fa), (3, .int st)]) dX10_waiting_74 (by decide) rfl ?_
          refine gz_goto (tgt := 106) dX10_waiting_76 (by decide) ?_
          refine gz_iinc (v := (i + 1)) (lv' := [(6, .int (i + 1)), (4, .long r2), (7, .long r2), (0, .ref wo), (1, .int wd), (2, .int fa), (3, .int st)]) dX10_waiting_106 rfl rfl (by decide) rfl ?_
          refine gz_goto (tgt := 16) dX10_waiting_109 (by decide) ?_
          refine gz_sub (lv' := [(6, .int (i + 1)), (4, .long r2), (0, .ref wo), (1, .int wd), (2, .int fa), (3, .int st)]) (by simp [List.lookup]) ?_
          exact ih (i + 1) r2 _ (fr_tr (fr_tr hfr (fr_mo hr1 (by simp))) (fr_mo hr2 (by simp))) hwo_2 hwe_2 hst_2 hpa_2 hp_2 h1_2 h2_2 (hF2) (by have e1 : (1 : Int32).toInt = 1 := rfl; simp only [fl_le] at c_22; have hx := T_add (rfl : i.toInt = i.toInt) e1 (by omega); omega)
      ·
        refine gz_lload dX10_waiting_50 rfl ?_
        refine gz_aload_n dX10_waiting_52 rfl rfl ?_
        refine gz_iload dX10_waiting_53 rfl ?_
        refine scX10_46 (k_X10_weightOf (x := i) hwo_2 hwe_2) hwo_2 ⟨(by simp only [gRm]; omega), (by simp only [gRm]; omega)⟩ ⟨(Nat.zero_le _), (Nat.zero_le _)⟩ rfl rfl (Nat.le_of_ble_eq_true rfl) dX10_waiting_55 ?_
        intro v9 f9 z9; rw [z9.1, z9.2]
        refine gz_lload dX10_waiting_58 rfl ?_
        refine gz_lmul dX10_waiting_60 ?_
        refine gz_ladd dX10_waiting_61 ?_
        refine gz_lstore (lv' := [(4, .long (al + ((wgoF weg i) * r2))), (7, .long r2), (6, .int i), (0, .ref wo), (1, .int wd), (2, .int fa), (3, .int st)]) dX10_waiting_62 (by decide) rfl ?_
        refine gz_goto (tgt := 106) dX10_waiting_64 (by decide) ?_
        refine gz_iinc (v := (i + 1)) (lv' := [(6, .int (i + 1)), (4, .long (al + ((wgoF weg i) * r2))), (7, .long r2), (0, .ref wo), (1, .int wd), (2, .int fa), (3, .int st)]) dX10_waiting_106 rfl rfl (by decide) rfl ?_
        refine gz_goto (tgt := 16) dX10_waiting_109 (by decide) ?_
        refine gz_sub (lv' := [(6, .int (i + 1)), (4, .long (al + ((wgoF weg i) * r2))), (0, .ref wo), (1, .int wd), (2, .int fa), (3, .int st)]) (by simp [List.lookup]) ?_
        exact ih (i + 1) (al + ((wgoF weg i) * r2)) _ (fr_tr (fr_tr hfr (fr_mo hr1 (by simp))) (fr_mo hr2 (by simp))) hwo_2 hwe_2 hst_2 hpa_2 hp_2 h1_2 h2_2 (hF2) (by have e1 : (1 : Int32).toInt = 1 := rfl; simp only [fl_le] at c_22; have hx := T_add (rfl : i.toInt = i.toInt) e1 (by omega); omega)

set_option maxHeartbeats 4000000 in
set_option maxRecDepth 100000 in
theorem k_X10_waiting {l : Launch} {D : va_G} {cy : Nat → ClassId} {b : Nat} {f : gMem} {wo we stp pa ba td p c1 c2 n1 n2 : Nat} {sz ah gl s v : Int32} {weg stg g h : Nat → Int32} {pg : Nat → Option Nat} {P Q : Nat → Nat} {wd fa st : Int32} {k0 : Nat} (hwo : f wo = some (.inr (10, [.int sz, .ref we, .ref stp, .ref pa, .ref ba, .ref td, .ref p, .int ah, .int gl]))) (hwe : f we = some (.inl (cy 0, 3, .inl (weg)))) (hst : f stp = some (.inl (cy 0, 18, .inl (stg)))) (hpa : f pa = some (.inl (cy 6, 5, .inr (.inr (.inr (.inr (pg))))))) (hp : f p = some (.inr (2, [.ref c1, .ref c2, .int s, .int v]))) (h1 : f c1 = some (.inl (cy 0, n1, .inl (g)))) (h2 : f c2 = some (.inl (cy 0, n2, .inl (h)))) (hs : 0 ≤ s.toInt ∧ 13 * s.toInt ≤ n1 ∧ n1 ≤ 520) (hv : 0 ≤ v.toInt ∧ 2 * v.toInt ≤ n2 ∧ n2 ≤ 80) (hI : fI g s.toInt) (hz : sz.toInt ≤ 3) (ha : ah.toInt ≤ 4) (hpg : ∀ ii : Nat, ii < 5 → pg ii = some (P ii)) (hPQ : ∀ ii jj : Nat, ii < 5 → jj < 5 → ii ≠ jj → P ii ≠ P jj ∧ Q ii ≠ Q jj) (hD : ∀ xx : Nat, xx ∈ [wo, we, stp, pa, p, c1, c2] → xx ∉ scL P Q) (hF : pF cy P Q f) (hsr : 0 ≤ st.toInt ∧ st.toInt ≤ 4) (hw : 0 ≤ wd.toInt ∧ wd.toInt < s.toInt ∧ 41 * (4 - st.toInt) + (s.toInt - wd.toInt) ≤ (k0 : Int)) (VP : vP l D cy b wo we stp pa ba td p c1 c2 n1 n2 sz ah gl s v weg stg g h pg P Q k0) : gC l D cy b yX10_waiting cX10_waiting 9 (some .long) (4 + 2 * k0 + 1) 0 0 [.ref wo, .int wd, .int fa, .int st] f (pL fun r f2 => pF cy P Q f2 ∧ fr (scL P Q) f f2) := by
  refine gC_of (by decide) (Nat.le_of_ble_eq_true rfl) ?_
  show gG l _ _ _ D cy b cX10_waiting 9 _ RX10 "waiting" 0 0 f 0 [(0, .ref wo), (1, .int wd), (2, .int fa), (3, .int st)] []
  refine gz_iload_n dX10_waiting_0 rfl rfl ?_
  refine gz_aload_n dX10_waiting_1 rfl rfl ?_
  refine sgX10_56 hwo rfl dX10_waiting_2 ?_
  refine gz_icmp_lt (tgt := 10) dX10_waiting_5 (by decide) (fun c_5 => ?_) (fun c_5 => ?_)
  ·
    refine gz_lconst (v := 0) dX10_waiting_10 (by decide) ?_
    refine gz_lstore (lv' := [(4, .long 0), (0, .ref wo), (1, .int wd), (2, .int fa), (3, .int st)]) dX10_waiting_11 (by decide) rfl ?_
    refine gz_iconst (v := 0) dX10_waiting_13 (by decide) ?_
    refine gz_istore (lv' := [(6, .int 0), (4, .long 0), (0, .ref wo), (1, .int wd), (2, .int fa), (3, .int st)]) dX10_waiting_14 (by decide) rfl ?_
    refine gz_sub (lv' := [(6, .int 0), (4, .long 0), (0, .ref wo), (1, .int wd), (2, .int fa), (3, .int st)]) (by simp [List.lookup]) ?_
    exact l_X10_waiting hs hv hI hz ha hpg hPQ hD ⟨hsr.1, by simp only [fl_lt] at c_5; omega⟩ hw VP 4 0 0 _ fr_rf hwo hwe hst hpa hp h1 h2 (hF) (⟨by decide, by decide, fun _ => by have e0 : (0 : Int32).toInt = 0 := rfl; omega⟩)
  ·
    refine gz_lconst (v := 0) dX10_waiting_8 (by decide) ?_
    exact gz_lret rfl dX10_waiting_9 (Nat.le_of_ble_eq_true rfl) (Nat.le_of_ble_eq_true rfl) (⟨_, rfl, hF, fr_rf⟩)

set_option maxHeartbeats 4000000 in
set_option maxRecDepth 100000 in
theorem k_X10_value {l : Launch} {D : va_G} {cy : Nat → ClassId} {b : Nat} {wo we stp pa ba td p c1 c2 n1 n2 : Nat} {sz ah gl s v : Int32} {weg stg g h : Nat → Int32} {pg : Nat → Option Nat} {P Q : Nat → Nat}   (hs : 0 ≤ s.toInt ∧ 13 * s.toInt ≤ n1 ∧ n1 ≤ 520) (hv : 0 ≤ v.toInt ∧ 2 * v.toInt ≤ n2 ∧ n2 ≤ 80) (hI : fI g s.toInt) (hz : sz.toInt ≤ 3) (ha : ah.toInt ≤ 4) (hpg : ∀ ii : Nat, ii < 5 → pg ii = some (P ii)) (hPQ : ∀ ii jj : Nat, ii < 5 → jj < 5 → ii ≠ jj → P ii ≠ P jj ∧ Q ii ≠ Q jj) (hD : ∀ xx : Nat, xx ∈ [wo, we, stp, pa, p, c1, c2] → xx ∉ scL P Q) : ∀ (k : Nat) (wd fa st : Int32) (f : gMem), (f wo = some (.inr (10, [.int sz, .ref we, .ref stp, .ref pa, .ref ba, .ref td, .ref p, .int ah, .int gl]))) → (f we = some (.inl (cy 0, 3, .inl (weg)))) → (f stp = some (.inl (cy 0, 18, .inl (stg)))) → (f pa = some (.inl (cy 6, 5, .inr (.inr (.inr (.inr (pg))))))) → (f p = some (.inr (2, [.ref c1, .ref c2, .int s, .int v]))) → (f c1 = some (.inl (cy 0, n1, .inl (g)))) → (f c2 = some (.inl (cy 0, n2, .inl (h)))) → (pF cy P Q f) → (0 ≤ st.toInt ∧ st.toInt ≤ 4) → (0 < k ∧ (0 ≤ wd.toInt → 41 * (4 - st.toInt) + (s.toInt - wd.toInt) < (k : Int))) → gC l D cy b yX10_value cX10_value 8 (some .long) (4 + 2 * k) 0 0 [.ref wo, .int wd, .int fa, .int st] f (pL fun r f2 => pF cy P Q f2 ∧ fr (scL P Q) f f2) := by
  intro k
  induction k with
  | zero =>
    intro wd fa st f hwo hwe hst hpa hp h1 h2 hF hsr hk
    exfalso; omega
  | succ k ih =>
    intro wd fa st f hwo hwe hst hpa hp h1 h2 hF hsr hk
    refine gC_of (by decide) (Nat.le_of_ble_eq_true rfl) ?_
    show gG l _ _ _ D cy b cX10_value 8 _ RX10 "value" 0 0 f 0 [(0, .ref wo), (1, .int wd), (2, .int fa), (3, .int st)] []
    refine gz_aload_n dX10_value_0 rfl rfl ?_
    refine gz_iload_n dX10_value_1 rfl rfl ?_
    refine scX10_66 (k_X10_sceneAt (st := st) hwo hpa) hwo ⟨(by simp only [gRm]; omega), (by simp only [gRm]; omega)⟩ ⟨(Nat.le_of_ble_eq_true rfl), (Nat.le_of_ble_eq_true rfl)⟩ rfl rfl (Nat.le_of_ble_eq_true rfl) dX10_value_2 ?_
    rintro u9 f9 ⟨z9, y9⟩; rw [z9, y9]
    refine gz_ev (w := .ref (P (scI st))) (by rw [hpg _ (scI_lt st)]; rfl) ?_
    obtain ⟨dau1, tu1, hPu1, hQu1⟩ := hF (scI st) (scI_lt st)
    refine gz_astore (lv' := [(4, .ref (P (scI st))), (0, .ref wo), (1, .int wd), (2, .int fa), (3, .int st)]) dX10_value_5 (by decide) rfl ?_
    refine gz_iload_n dX10_value_7 rfl rfl ?_
    refine gz_if_lt (tgt := 24) dX10_value_8 (by decide) (fun c_8 => ?_) (fun c_8 => ?_)
    ·
      refine gz_lconst (v := 0) dX10_value_24 (by decide) ?_
      exact gz_lret rfl dX10_value_25 (Nat.le_of_ble_eq_true rfl) (Nat.le_of_ble_eq_true rfl) (⟨_, rfl, hF, fr_rf⟩)
    ·
      refine gz_aload_n dX10_value_11 rfl rfl ?_
      refine sgX10_37 hwo rfl dX10_value_12 ?_
      refine gz_iload_n dX10_value_15 rfl rfl ?_
      refine gz_aload dX10_value_16 rfl ?_
      refine scX10_87 (k_X2_lapsed (w := wd) hp h1 h2 hPu1 hQu1 hs hv) hp ⟨(by simp only [gRm]; omega), (by simp only [gRm]; omega)⟩ ⟨(Nat.le_of_ble_eq_true rfl), (Nat.le_of_ble_eq_true rfl)⟩ rfl rfl (Nat.le_of_ble_eq_true rfl) dX10_value_18 ?_
      intro v9 f9 z9; rw [z9.1, z9.2]
      refine gz_if_eq (tgt := 26) dX10_value_21 (by decide) (fun c_21 => ?_) (fun c_21 => ?_)
      ·
        refine gz_aload_n dX10_value_26 rfl rfl ?_
        refine sgX10_37 hwo rfl dX10_value_27 ?_
        refine gz_iload_n dX10_value_30 rfl rfl ?_
        refine gz_iconst (v := 0) dX10_value_31 (by decide) ?_
        refine scX10_91 (k_X2_field (w := wd) (k := 0) hp h1 hs) hp ⟨(by simp only [gRm]; omega), (by simp only [gRm]; omega)⟩ ⟨(Nat.le_of_ble_eq_true rfl), (Nat.le_of_ble_eq_true rfl)⟩ rfl rfl (Nat.le_of_ble_eq_true rfl) dX10_value_32 ?_
        intro v9 f9 z9; rw [z9.1, z9.2]
        refine gz_istore (lv' := [(5, .int (fldF n1 g s wd 0)), (4, .ref (P (scI st))), (0, .ref wo), (1, .int wd), (2, .int fa), (3, .int st)]) dX10_value_35 (by decide) rfl ?_
        refine gz_iload dX10_value_37 rfl ?_
        by_cases hw_39_0 : (fldF n1 g s wd 0) = (-1)
        ·
          refine gz_ev (w := .int (-1)) (congrArg Value.int hw_39_0) ?_
          refine gz_tableIn (off := 49) (tgt := 88) dX10_value_39 (by decide) (by decide) rfl (by decide) ?_
          refine gz_lconst (v := 0) dX10_value_88 (by decide) ?_
          exact gz_lret rfl dX10_value_89 (Nat.le_of_ble_eq_true rfl) (Nat.le_of_ble_eq_true rfl) (⟨_, rfl, hF, fr_rf⟩)
        ·
          by_cases hw_39_1 : (fldF n1 g s wd 0) = 0
          ·
            refine gz_ev (w := .int 0) (congrArg Value.int hw_39_1) ?_
            refine gz_tableIn (off := 49) (tgt := 88) dX10_value_39 (by decide) (by decide) rfl (by decide) ?_
            refine gz_lconst (v := 0) dX10_value_88 (by decide) ?_
            exact gz_lret rfl dX10_value_89 (Nat.le_of_ble_eq_true rfl) (Nat.le_of_ble_eq_true rfl) (⟨_, rfl, hF, fr_rf⟩)
          ·
            by_cases hw_39_2 : (fldF n1 g s wd 0) = 1
            ·
              refine gz_ev (w := .int 1) (congrArg Value.int hw_39_2) ?_
              refine gz_tableIn (off := 51) (tgt := 90) dX10_value_39 (by decide) (by decide) rfl (by decide) ?_
              refine gz_aload_n dX10_value_90 rfl rfl ?_
              refine sgX10_37 hwo rfl dX10_value_91 ?_
              refine gz_iload_n dX10_value_94 rfl rfl ?_
              refine gz_iload_n dX10_value_95 rfl rfl ?_
              refine scX10_94 (k_X2_held (w := wd) (x := fa) hp h1 hs) hp ⟨(by simp only [gRm]; omega), (by simp only [gRm]; omega)⟩ ⟨(Nat.le_of_ble_eq_true rfl), (Nat.le_of_ble_eq_true rfl)⟩ rfl rfl (Nat.le_of_ble_eq_true rfl) dX10_value_96 ?_
              intro v9 f9 z9; rw [z9.1, z9.2]
              refine gz_i2l dX10_value_99 ?_
              refine gz_aload_n dX10_value_100 rfl rfl ?_
              refine sgX10_80 hwo rfl dX10_value_101 ?_
              refine gz_if_ne (tgt := 120) dX10_value_104 (by decide) (fun c_104 => ?_) (fun c_104 => ?_)
              ·
                refine gz_lconst (v := 1) dX10_value_120 (by decide) ?_
                refine gz_lmul dX10_value_121 ?_
                exact gz_lret rfl dX10_value_122 (Nat.le_of_ble_eq_true rfl) (Nat.le_of_ble_eq_true rfl) (⟨_, rfl, hF, fr_rf⟩)
              ·
                refine gz_aload_n dX10_value_107 rfl rfl ?_
                refine gz_aload_n dX10_value_108 rfl rfl ?_
                refine sgX10_56 hwo rfl dX10_value_109 ?_
                refine gz_iload_n dX10_value_112 rfl rfl ?_
                refine gz_isub dX10_value_113 ?_
                refine scX10_97 (k_X10_power (x := (ah - st)) hwo hwe hz) hwo ⟨(by simp only [gRm]; omega), (by simp only [gRm]; omega)⟩ ⟨(Nat.le_of_ble_eq_true rfl), (Nat.le_of_ble_eq_true rfl)⟩ rfl rfl (Nat.le_of_ble_eq_true rfl) dX10_value_114 ?_
                intro v9 f9 z9; rw [z9.1, z9.2]
                refine gz_goto (tgt := 121) dX10_value_117 (by decide) ?_
                refine gz_lmul dX10_value_121 ?_
                exact gz_lret rfl dX10_value_122 (Nat.le_of_ble_eq_true rfl) (Nat.le_of_ble_eq_true rfl) (⟨_, rfl, hF, fr_rf⟩)
            ·
              by_cases hw_39_3 : (fldF n1 g s wd 0) = 2
              ·
                refine gz_ev (w := .int 2) (congrArg Value.int hw_39_3) ?_
                refine gz_tableIn (off := 225) (tgt := 264) dX10_value_39 (by decide) (by decide) rfl (by decide) ?_
                refine gz_aload_n dX10_value_264 rfl rfl ?_
                refine gz_iload_n dX10_value_265 rfl rfl ?_
                refine gz_iload_n dX10_value_266 rfl rfl ?_
                refine gz_iload_n dX10_value_267 rfl rfl ?_
                refine scX10_107 (k_X10_deedValue (wd := wd) (fa := fa) (st := st) hwo hwe hst hpa hp h1 h2 hs hv hI hz ha hpg hPQ hD hF hsr (by have hw := fld_kind hw_39_0; omega) ih) hwo ⟨(by simp only [gRm]; omega), (by simp only [gRm]; omega)⟩ ⟨(Nat.le_of_ble_eq_true rfl), (Nat.le_of_ble_eq_true rfl)⟩ rfl rfl (Nat.le_of_ble_eq_true rfl) dX10_value_268 ?_
                rintro r1 f1 ⟨hF1, hr1⟩
                have hwo_1 : f1 wo = some (.inr (10, [.int sz, .ref we, .ref stp, .ref pa, .ref ba, .ref td, .ref p, .int ah, .int gl])) := hr1 _ _ hwo (hD _ (by simp))
                have hwe_1 : f1 we = some (.inl (cy 0, 3, .inl (weg))) := hr1 _ _ hwe (hD _ (by simp))
                have hst_1 : f1 stp = some (.inl (cy 0, 18, .inl (stg))) := hr1 _ _ hst (hD _ (by simp))
                have hpa_1 : f1 pa = some (.inl (cy 6, 5, .inr (.inr (.inr (.inr (pg)))))) := hr1 _ _ hpa (hD _ (by simp))
                have hp_1 : f1 p = some (.inr (2, [.ref c1, .ref c2, .int s, .int v])) := hr1 _ _ hp (hD _ (by simp))
                have h1_1 : f1 c1 = some (.inl (cy 0, n1, .inl (g))) := hr1 _ _ h1 (hD _ (by simp))
                have h2_1 : f1 c2 = some (.inl (cy 0, n2, .inl (h))) := hr1 _ _ h2 (hD _ (by simp))
                obtain ⟨dau2, tu2, hPu2, hQu2⟩ := hF1 (scI st) (scI_lt st)
                exact gz_lret rfl dX10_value_271 (Nat.le_of_ble_eq_true rfl) (Nat.le_of_ble_eq_true rfl) (⟨_, rfl, hF1, (fr_tr fr_rf (fr_mo hr1 (by simp)))⟩)
              ·
                by_cases hw_39_4 : (fldF n1 g s wd 0) = 3
                ·
                  refine gz_ev (w := .int 3) (congrArg Value.int hw_39_4) ?_
                  refine gz_tableIn (off := 84) (tgt := 123) dX10_value_39 (by decide) (by decide) rfl (by decide) ?_
                  refine gz_aload_n dX10_value_123 rfl rfl ?_
                  refine gz_aload_n dX10_value_124 rfl rfl ?_
                  refine sgX10_37 hwo rfl dX10_value_125 ?_
                  refine gz_iload_n dX10_value_128 rfl rfl ?_
                  refine gz_iconst (v := 3) dX10_value_129 (by decide) ?_
                  refine scX10_91 (k_X2_field (w := wd) (k := 3) hp h1 hs) hp ⟨(by simp only [gRm]; omega), (by simp only [gRm]; omega)⟩ ⟨(Nat.le_of_ble_eq_true rfl), (Nat.le_of_ble_eq_true rfl)⟩ rfl rfl (Nat.le_of_ble_eq_true rfl) dX10_value_130 ?_
                  intro v9 f9 z9; rw [z9.1, z9.2]
                  refine gz_iload_n dX10_value_133 rfl rfl ?_
                  refine gz_iload_n dX10_value_134 rfl rfl ?_
                  refine scX10_83 (ih (fldF n1 g s wd 3) fa st _ hwo hwe hst hpa hp h1 h2 hF hsr (by have hw := fld_kind hw_39_0; have z3 := fI_first (w := wd) hs hI; have z4 := fI_second (w := wd) hs hI; omega)) hwo ⟨(by simp only [gRm]; omega), (by simp only [gRm]; omega)⟩ ⟨(Nat.le_of_ble_eq_true rfl), (Nat.le_of_ble_eq_true rfl)⟩ rfl rfl (Nat.le_of_ble_eq_true rfl) dX10_value_135 ?_
                  rintro r2 f2 ⟨hF2, hr2⟩
                  have hwo_2 : f2 wo = some (.inr (10, [.int sz, .ref we, .ref stp, .ref pa, .ref ba, .ref td, .ref p, .int ah, .int gl])) := hr2 _ _ hwo (hD _ (by simp))
                  have hwe_2 : f2 we = some (.inl (cy 0, 3, .inl (weg))) := hr2 _ _ hwe (hD _ (by simp))
                  have hst_2 : f2 stp = some (.inl (cy 0, 18, .inl (stg))) := hr2 _ _ hst (hD _ (by simp))
                  have hpa_2 : f2 pa = some (.inl (cy 6, 5, .inr (.inr (.inr (.inr (pg)))))) := hr2 _ _ hpa (hD _ (by simp))
                  have hp_2 : f2 p = some (.inr (2, [.ref c1, .ref c2, .int s, .int v])) := hr2 _ _ hp (hD _ (by simp))
                  have h1_2 : f2 c1 = some (.inl (cy 0, n1, .inl (g))) := hr2 _ _ h1 (hD _ (by simp))
                  have h2_2 : f2 c2 = some (.inl (cy 0, n2, .inl (h))) := hr2 _ _ h2 (hD _ (by simp))
                  obtain ⟨dau3, tu3, hPu3, hQu3⟩ := hF2 (scI st) (scI_lt st)
                  refine gz_aload_n dX10_value_138 rfl rfl ?_
                  refine gz_aload_n dX10_value_139 rfl rfl ?_
                  refine sgX10_37 hwo_2 rfl dX10_value_140 ?_
                  refine gz_iload_n dX10_value_143 rfl rfl ?_
                  refine gz_iconst (v := 4) dX10_value_144 (by decide) ?_
                  refine scX10_91 (k_X2_field (w := wd) (k := 4) hp_2 h1_2 hs) hp_2 ⟨(by simp only [gRm]; omega), (by simp only [gRm]; omega)⟩ ⟨(Nat.le_of_ble_eq_true rfl), (Nat.le_of_ble_eq_true rfl)⟩ rfl rfl (Nat.le_of_ble_eq_true rfl) dX10_value_145 ?_
                  intro v9 f9 z9; rw [z9.1, z9.2]
                  refine gz_iload_n dX10_value_148 rfl rfl ?_
                  refine gz_iload_n dX10_value_149 rfl rfl ?_
                  refine scX10_83 (ih (fldF n1 g s wd 4) fa st _ hwo_2 hwe_2 hst_2 hpa_2 hp_2 h1_2 h2_2 hF2 hsr (by have hw := fld_kind hw_39_0; have z3 := fI_first (w := wd) hs hI; have z4 := fI_second (w := wd) hs hI; omega)) hwo_2 ⟨(by simp only [gRm]; omega), (by simp only [gRm]; omega)⟩ ⟨(Nat.le_of_ble_eq_true rfl), (Nat.le_of_ble_eq_true rfl)⟩ rfl rfl (Nat.le_of_ble_eq_true rfl) dX10_value_150 ?_
                  rintro r3 f3 ⟨hF3, hr3⟩
                  have hwo_3 : f3 wo = some (.inr (10, [.int sz, .ref we, .ref stp, .ref pa, .ref ba, .ref td, .ref p, .int ah, .int gl])) := hr3 _ _ hwo_2 (hD _ (by simp))
                  have hwe_3 : f3 we = some (.inl (cy 0, 3, .inl (weg))) := hr3 _ _ hwe_2 (hD _ (by simp))
                  have hst_3 : f3 stp = some (.inl (cy 0, 18, .inl (stg))) := hr3 _ _ hst_2 (hD _ (by simp))
                  have hpa_3 : f3 pa = some (.inl (cy 6, 5, .inr (.inr (.inr (.inr (pg)))))) := hr3 _ _ hpa_2 (hD _ (by simp))
                  have hp_3 : f3 p = some (.inr (2, [.ref c1, .ref c2, .int s, .int v])) := hr3 _ _ hp_2 (hD _ (by simp))
                  have h1_3 : f3 c1 = some (.inl (cy 0, n1, .inl (g))) := hr3 _ _ h1_2 (hD _ (by simp))
                  have h2_3 : f3 c2 = some (.inl (cy 0, n2, .inl (h))) := hr3 _ _ h2_2 (hD _ (by simp))
                  obtain ⟨dau4, tu4, hPu4, hQu4⟩ := hF3 (scI st) (scI_lt st)
                  refine gz_ladd dX10_value_153 ?_
                  exact gz_lret rfl dX10_value_154 (Nat.le_of_ble_eq_true rfl) (Nat.le_of_ble_eq_true rfl) (⟨_, rfl, hF3, (fr_tr (fr_tr fr_rf (fr_mo hr2 (by simp))) (fr_mo hr3 (by simp)))⟩)
                ·
                  by_cases hw_39_5 : (fldF n1 g s wd 0) = 4
                  ·
                    refine gz_ev (w := .int 4) (congrArg Value.int hw_39_5) ?_
                    refine gz_tableIn (off := 116) (tgt := 155) dX10_value_39 (by decide) (by decide) rfl (by decide) ?_
                    refine gz_aload_n dX10_value_155 rfl rfl ?_
                    refine gz_iload_n dX10_value_156 rfl rfl ?_
                    refine gz_aload_n dX10_value_157 rfl rfl ?_
                    refine gz_aload_n dX10_value_158 rfl rfl ?_
                    refine sgX10_37 hwo rfl dX10_value_159 ?_
                    refine gz_iload_n dX10_value_162 rfl rfl ?_
                    refine gz_iconst (v := 3) dX10_value_163 (by decide) ?_
                    refine scX10_91 (k_X2_field (w := wd) (k := 3) hp h1 hs) hp ⟨(by simp only [gRm]; omega), (by simp only [gRm]; omega)⟩ ⟨(Nat.le_of_ble_eq_true rfl), (Nat.le_of_ble_eq_true rfl)⟩ rfl rfl (Nat.le_of_ble_eq_true rfl) dX10_value_164 ?_
                    intro v9 f9 z9; rw [z9.1, z9.2]
                    refine gz_iload_n dX10_value_167 rfl rfl ?_
                    refine gz_iload_n dX10_value_168 rfl rfl ?_
                    refine scX10_83 (ih (fldF n1 g s wd 3) fa st _ hwo hwe hst hpa hp h1 h2 hF hsr (by have hw := fld_kind hw_39_0; have z3 := fI_first (w := wd) hs hI; have z4 := fI_second (w := wd) hs hI; omega)) hwo ⟨(by simp only [gRm]; omega), (by simp only [gRm]; omega)⟩ ⟨(Nat.le_of_ble_eq_true rfl), (Nat.le_of_ble_eq_true rfl)⟩ rfl rfl (Nat.le_of_ble_eq_true rfl) dX10_value_169 ?_
                    rintro r4 f4 ⟨hF4, hr4⟩
                    have hwo_4 : f4 wo = some (.inr (10, [.int sz, .ref we, .ref stp, .ref pa, .ref ba, .ref td, .ref p, .int ah, .int gl])) := hr4 _ _ hwo (hD _ (by simp))
                    have hwe_4 : f4 we = some (.inl (cy 0, 3, .inl (weg))) := hr4 _ _ hwe (hD _ (by simp))
                    have hst_4 : f4 stp = some (.inl (cy 0, 18, .inl (stg))) := hr4 _ _ hst (hD _ (by simp))
                    have hpa_4 : f4 pa = some (.inl (cy 6, 5, .inr (.inr (.inr (.inr (pg)))))) := hr4 _ _ hpa (hD _ (by simp))
                    have hp_4 : f4 p = some (.inr (2, [.ref c1, .ref c2, .int s, .int v])) := hr4 _ _ hp (hD _ (by simp))
                    have h1_4 : f4 c1 = some (.inl (cy 0, n1, .inl (g))) := hr4 _ _ h1 (hD _ (by simp))
                    have h2_4 : f4 c2 = some (.inl (cy 0, n2, .inl (h))) := hr4 _ _ h2 (hD _ (by simp))
                    obtain ⟨dau5, tu5, hPu5, hQu5⟩ := hF4 (scI st) (scI_lt st)
                    refine gz_aload_n dX10_value_172 rfl rfl ?_
                    refine gz_aload_n dX10_value_173 rfl rfl ?_
                    refine sgX10_37 hwo_4 rfl dX10_value_174 ?_
                    refine gz_iload_n dX10_value_177 rfl rfl ?_
                    refine gz_iconst (v := 4) dX10_value_178 (by decide) ?_
                    refine scX10_91 (k_X2_field (w := wd) (k := 4) hp_4 h1_4 hs) hp_4 ⟨(by simp only [gRm]; omega), (by simp only [gRm]; omega)⟩ ⟨(Nat.le_of_ble_eq_true rfl), (Nat.le_of_ble_eq_true rfl)⟩ rfl rfl (Nat.le_of_ble_eq_true rfl) dX10_value_179 ?_
                    intro v9 f9 z9; rw [z9.1, z9.2]
                    refine gz_iload_n dX10_value_182 rfl rfl ?_
                    refine gz_iload_n dX10_value_183 rfl rfl ?_
                    refine scX10_83 (ih (fldF n1 g s wd 4) fa st _ hwo_4 hwe_4 hst_4 hpa_4 hp_4 h1_4 h2_4 hF4 hsr (by have hw := fld_kind hw_39_0; have z3 := fI_first (w := wd) hs hI; have z4 := fI_second (w := wd) hs hI; omega)) hwo_4 ⟨(by simp only [gRm]; omega), (by simp only [gRm]; omega)⟩ ⟨(Nat.le_of_ble_eq_true rfl), (Nat.le_of_ble_eq_true rfl)⟩ rfl rfl (Nat.le_of_ble_eq_true rfl) dX10_value_184 ?_
                    rintro r5 f5 ⟨hF5, hr5⟩
                    have hwo_5 : f5 wo = some (.inr (10, [.int sz, .ref we, .ref stp, .ref pa, .ref ba, .ref td, .ref p, .int ah, .int gl])) := hr5 _ _ hwo_4 (hD _ (by simp))
                    have hwe_5 : f5 we = some (.inl (cy 0, 3, .inl (weg))) := hr5 _ _ hwe_4 (hD _ (by simp))
                    have hst_5 : f5 stp = some (.inl (cy 0, 18, .inl (stg))) := hr5 _ _ hst_4 (hD _ (by simp))
                    have hpa_5 : f5 pa = some (.inl (cy 6, 5, .inr (.inr (.inr (.inr (pg)))))) := hr5 _ _ hpa_4 (hD _ (by simp))
                    have hp_5 : f5 p = some (.inr (2, [.ref c1, .ref c2, .int s, .int v])) := hr5 _ _ hp_4 (hD _ (by simp))
                    have h1_5 : f5 c1 = some (.inl (cy 0, n1, .inl (g))) := hr5 _ _ h1_4 (hD _ (by simp))
                    have h2_5 : f5 c2 = some (.inl (cy 0, n2, .inl (h))) := hr5 _ _ h2_4 (hD _ (by simp))
                    obtain ⟨dau6, tu6, hPu6, hQu6⟩ := hF5 (scI st) (scI_lt st)
                    refine scX10_100 (k_X10_better (x := wd) (y := r4) (u := r5) hwo_5 hp_5 h1_5 hs) hwo_5 ⟨(by simp only [gRm]; omega), (by simp only [gRm]; omega)⟩ ⟨(Nat.le_of_ble_eq_true rfl), (Nat.le_of_ble_eq_true rfl)⟩ rfl rfl (Nat.le_of_ble_eq_true rfl) dX10_value_187 ?_
                    intro v9 f9 z9; rw [z9.1, z9.2]
                    exact gz_lret rfl dX10_value_190 (Nat.le_of_ble_eq_true rfl) (Nat.le_of_ble_eq_true rfl) (⟨_, rfl, hF5, (fr_tr (fr_tr fr_rf (fr_mo hr4 (by simp))) (fr_mo hr5 (by simp)))⟩)
                  ·
                    by_cases hw_39_6 : (fldF n1 g s wd 0) = 5
                    ·
                      refine gz_ev (w := .int 5) (congrArg Value.int hw_39_6) ?_
                      refine gz_tableIn (off := 225) (tgt := 264) dX10_value_39 (by decide) (by decide) rfl (by decide) ?_
                      refine gz_aload_n dX10_value_264 rfl rfl ?_
                      refine gz_iload_n dX10_value_265 rfl rfl ?_
                      refine gz_iload_n dX10_value_266 rfl rfl ?_
                      refine gz_iload_n dX10_value_267 rfl rfl ?_
                      refine scX10_107 (k_X10_deedValue (wd := wd) (fa := fa) (st := st) hwo hwe hst hpa hp h1 h2 hs hv hI hz ha hpg hPQ hD hF hsr (by have hw := fld_kind hw_39_0; omega) ih) hwo ⟨(by simp only [gRm]; omega), (by simp only [gRm]; omega)⟩ ⟨(Nat.le_of_ble_eq_true rfl), (Nat.le_of_ble_eq_true rfl)⟩ rfl rfl (Nat.le_of_ble_eq_true rfl) dX10_value_268 ?_
                      rintro r6 f6 ⟨hF6, hr6⟩
                      have hwo_6 : f6 wo = some (.inr (10, [.int sz, .ref we, .ref stp, .ref pa, .ref ba, .ref td, .ref p, .int ah, .int gl])) := hr6 _ _ hwo (hD _ (by simp))
                      have hwe_6 : f6 we = some (.inl (cy 0, 3, .inl (weg))) := hr6 _ _ hwe (hD _ (by simp))
                      have hst_6 : f6 stp = some (.inl (cy 0, 18, .inl (stg))) := hr6 _ _ hst (hD _ (by simp))
                      have hpa_6 : f6 pa = some (.inl (cy 6, 5, .inr (.inr (.inr (.inr (pg)))))) := hr6 _ _ hpa (hD _ (by simp))
                      have hp_6 : f6 p = some (.inr (2, [.ref c1, .ref c2, .int s, .int v])) := hr6 _ _ hp (hD _ (by simp))
                      have h1_6 : f6 c1 = some (.inl (cy 0, n1, .inl (g))) := hr6 _ _ h1 (hD _ (by simp))
                      have h2_6 : f6 c2 = some (.inl (cy 0, n2, .inl (h))) := hr6 _ _ h2 (hD _ (by simp))
                      obtain ⟨dau7, tu7, hPu7, hQu7⟩ := hF6 (scI st) (scI_lt st)
                      exact gz_lret rfl dX10_value_271 (Nat.le_of_ble_eq_true rfl) (Nat.le_of_ble_eq_true rfl) (⟨_, rfl, hF6, (fr_tr fr_rf (fr_mo hr6 (by simp)))⟩)
                    ·
                      by_cases hw_39_7 : (fldF n1 g s wd 0) = 6
                      ·
                        refine gz_ev (w := .int 6) (congrArg Value.int hw_39_7) ?_
                        refine gz_tableIn (off := 152) (tgt := 191) dX10_value_39 (by decide) (by decide) rfl (by decide) ?_
                        refine gz_aload_n dX10_value_191 rfl rfl ?_
                        refine sgX10_37 hwo rfl dX10_value_192 ?_
                        refine gz_iload_n dX10_value_195 rfl rfl ?_
                        refine gz_aload dX10_value_196 rfl ?_
                        refine scX10_104 (k_X2_holds (w := wd) hp h1 h2 hPu1 hQu1 hs hv) hp ⟨(by simp only [gRm]; omega), (by simp only [gRm]; omega)⟩ ⟨(Nat.le_of_ble_eq_true rfl), (Nat.le_of_ble_eq_true rfl)⟩ rfl rfl (Nat.le_of_ble_eq_true rfl) dX10_value_198 ?_
                        intro v9 f9 z9; rw [z9.1, z9.2]
                        refine gz_if_eq (tgt := 214) dX10_value_201 (by decide) (fun c_201 => ?_) (fun c_201 => ?_)
                        ·
                          refine gz_aload_n dX10_value_214 rfl rfl ?_
                          refine gz_iload_n dX10_value_215 rfl rfl ?_
                          refine gz_iload_n dX10_value_216 rfl rfl ?_
                          refine gz_iload_n dX10_value_217 rfl rfl ?_
                          refine scX10_110 (k_X10_waiting (wd := wd) (fa := fa) (st := st) hwo hwe hst hpa hp h1 h2 hs hv hI hz ha hpg hPQ hD hF hsr (by have hw := fld_kind hw_39_0; omega) ih) hwo ⟨(by simp only [gRm]; omega), (by simp only [gRm]; omega)⟩ ⟨(Nat.le_of_ble_eq_true rfl), (Nat.le_of_ble_eq_true rfl)⟩ rfl rfl (Nat.le_of_ble_eq_true rfl) dX10_value_218 ?_
                          rintro r7 f7 ⟨hF7, hr7⟩
                          have hwo_7 : f7 wo = some (.inr (10, [.int sz, .ref we, .ref stp, .ref pa, .ref ba, .ref td, .ref p, .int ah, .int gl])) := hr7 _ _ hwo (hD _ (by simp))
                          have hwe_7 : f7 we = some (.inl (cy 0, 3, .inl (weg))) := hr7 _ _ hwe (hD _ (by simp))
                          have hst_7 : f7 stp = some (.inl (cy 0, 18, .inl (stg))) := hr7 _ _ hst (hD _ (by simp))
                          have hpa_7 : f7 pa = some (.inl (cy 6, 5, .inr (.inr (.inr (.inr (pg)))))) := hr7 _ _ hpa (hD _ (by simp))
                          have hp_7 : f7 p = some (.inr (2, [.ref c1, .ref c2, .int s, .int v])) := hr7 _ _ hp (hD _ (by simp))
                          have h1_7 : f7 c1 = some (.inl (cy 0, n1, .inl (g))) := hr7 _ _ h1 (hD _ (by simp))
                          have h2_7 : f7 c2 = some (.inl (cy 0, n2, .inl (h))) := hr7 _ _ h2 (hD _ (by simp))
                          obtain ⟨dau8, tu8, hPu8, hQu8⟩ := hF7 (scI st) (scI_lt st)
                          exact gz_lret rfl dX10_value_221 (Nat.le_of_ble_eq_true rfl) (Nat.le_of_ble_eq_true rfl) (⟨_, rfl, hF7, (fr_tr fr_rf (fr_mo hr7 (by simp)))⟩)
                        ·
                          refine gz_aload_n dX10_value_204 rfl rfl ?_
                          refine gz_iload_n dX10_value_205 rfl rfl ?_
                          refine gz_iload_n dX10_value_206 rfl rfl ?_
                          refine gz_iload_n dX10_value_207 rfl rfl ?_
                          refine scX10_107 (k_X10_deedValue (wd := wd) (fa := fa) (st := st) hwo hwe hst hpa hp h1 h2 hs hv hI hz ha hpg hPQ hD hF hsr (by have hw := fld_kind hw_39_0; omega) ih) hwo ⟨(by simp only [gRm]; omega), (by simp only [gRm]; omega)⟩ ⟨(Nat.le_of_ble_eq_true rfl), (Nat.le_of_ble_eq_true rfl)⟩ rfl rfl (Nat.le_of_ble_eq_true rfl) dX10_value_208 ?_
                          rintro r8 f8 ⟨hF8, hr8⟩
                          have hwo_8 : f8 wo = some (.inr (10, [.int sz, .ref we, .ref stp, .ref pa, .ref ba, .ref td, .ref p, .int ah, .int gl])) := hr8 _ _ hwo (hD _ (by simp))
                          have hwe_8 : f8 we = some (.inl (cy 0, 3, .inl (weg))) := hr8 _ _ hwe (hD _ (by simp))
                          have hst_8 : f8 stp = some (.inl (cy 0, 18, .inl (stg))) := hr8 _ _ hst (hD _ (by simp))
                          have hpa_8 : f8 pa = some (.inl (cy 6, 5, .inr (.inr (.inr (.inr (pg)))))) := hr8 _ _ hpa (hD _ (by simp))
                          have hp_8 : f8 p = some (.inr (2, [.ref c1, .ref c2, .int s, .int v])) := hr8 _ _ hp (hD _ (by simp))
                          have h1_8 : f8 c1 = some (.inl (cy 0, n1, .inl (g))) := hr8 _ _ h1 (hD _ (by simp))
                          have h2_8 : f8 c2 = some (.inl (cy 0, n2, .inl (h))) := hr8 _ _ h2 (hD _ (by simp))
                          obtain ⟨dau9, tu9, hPu9, hQu9⟩ := hF8 (scI st) (scI_lt st)
                          refine gz_goto (tgt := 221) dX10_value_211 (by decide) ?_
                          exact gz_lret rfl dX10_value_221 (Nat.le_of_ble_eq_true rfl) (Nat.le_of_ble_eq_true rfl) (⟨_, rfl, hF8, (fr_tr fr_rf (fr_mo hr8 (by simp)))⟩)
                      ·
                        by_cases hw_39_8 : (fldF n1 g s wd 0) = 7
                        ·
                          refine gz_ev (w := .int 7) (congrArg Value.int hw_39_8) ?_
                          refine gz_tableIn (off := 183) (tgt := 222) dX10_value_39 (by decide) (by decide) rfl (by decide) ?_
                          refine gz_aload_n dX10_value_222 rfl rfl ?_
                          refine gz_iload_n dX10_value_223 rfl rfl ?_
                          refine gz_iload_n dX10_value_224 rfl rfl ?_
                          refine gz_iload_n dX10_value_225 rfl rfl ?_
                          refine scX10_110 (k_X10_waiting (wd := wd) (fa := fa) (st := st) hwo hwe hst hpa hp h1 h2 hs hv hI hz ha hpg hPQ hD hF hsr (by have hw := fld_kind hw_39_0; omega) ih) hwo ⟨(by simp only [gRm]; omega), (by simp only [gRm]; omega)⟩ ⟨(Nat.le_of_ble_eq_true rfl), (Nat.le_of_ble_eq_true rfl)⟩ rfl rfl (Nat.le_of_ble_eq_true rfl) dX10_value_226 ?_
                          rintro r9 f9 ⟨hF9, hr9⟩
                          have hwo_9 : f9 wo = some (.inr (10, [.int sz, .ref we, .ref stp, .ref pa, .ref ba, .ref td, .ref p, .int ah, .int gl])) := hr9 _ _ hwo (hD _ (by simp))
                          have hwe_9 : f9 we = some (.inl (cy 0, 3, .inl (weg))) := hr9 _ _ hwe (hD _ (by simp))
                          have hst_9 : f9 stp = some (.inl (cy 0, 18, .inl (stg))) := hr9 _ _ hst (hD _ (by simp))
                          have hpa_9 : f9 pa = some (.inl (cy 6, 5, .inr (.inr (.inr (.inr (pg)))))) := hr9 _ _ hpa (hD _ (by simp))
                          have hp_9 : f9 p = some (.inr (2, [.ref c1, .ref c2, .int s, .int v])) := hr9 _ _ hp (hD _ (by simp))
                          have h1_9 : f9 c1 = some (.inl (cy 0, n1, .inl (g))) := hr9 _ _ h1 (hD _ (by simp))
                          have h2_9 : f9 c2 = some (.inl (cy 0, n2, .inl (h))) := hr9 _ _ h2 (hD _ (by simp))
                          obtain ⟨dau10, tu10, hPu10, hQu10⟩ := hF9 (scI st) (scI_lt st)
                          refine gz_lstore (lv' := [(6, .long r9), (5, .int (fldF n1 g s wd 0)), (4, .ref (P (scI st))), (0, .ref wo), (1, .int wd), (2, .int fa), (3, .int st)]) dX10_value_229 (by decide) rfl ?_
                          refine gz_aload_n dX10_value_231 rfl rfl ?_
                          refine sgX10_37 hwo_9 rfl dX10_value_232 ?_
                          refine gz_iload_n dX10_value_235 rfl rfl ?_
                          refine gz_aload dX10_value_236 rfl ?_
                          refine scX10_104 (k_X2_holds (w := wd) hp_9 h1_9 h2_9 hPu10 hQu10 hs hv) hp_9 ⟨(by simp only [gRm]; omega), (by simp only [gRm]; omega)⟩ ⟨(Nat.le_of_ble_eq_true rfl), (Nat.le_of_ble_eq_true rfl)⟩ rfl rfl (Nat.le_of_ble_eq_true rfl) dX10_value_238 ?_
                          intro v9 f9 z9; rw [z9.1, z9.2]
                          refine gz_if_eq (tgt := 261) dX10_value_241 (by decide) (fun c_241 => ?_) (fun c_241 => ?_)
                          ·
                            refine gz_lload dX10_value_261 rfl ?_
                            exact gz_lret rfl dX10_value_263 (Nat.le_of_ble_eq_true rfl) (Nat.le_of_ble_eq_true rfl) (⟨_, rfl, hF9, (fr_tr fr_rf (fr_mo hr9 (by simp)))⟩)
                          ·
                            refine gz_aload_n dX10_value_244 rfl rfl ?_
                            refine gz_iload_n dX10_value_245 rfl rfl ?_
                            refine gz_lload dX10_value_246 rfl ?_
                            refine gz_aload_n dX10_value_248 rfl rfl ?_
                            refine gz_iload_n dX10_value_249 rfl rfl ?_
                            refine gz_iload_n dX10_value_250 rfl rfl ?_
                            refine gz_iload_n dX10_value_251 rfl rfl ?_
                            refine scX10_107 (k_X10_deedValue (wd := wd) (fa := fa) (st := st) hwo_9 hwe_9 hst_9 hpa_9 hp_9 h1_9 h2_9 hs hv hI hz ha hpg hPQ hD hF9 hsr (by have hw := fld_kind hw_39_0; omega) ih) hwo_9 ⟨(by simp only [gRm]; omega), (by simp only [gRm]; omega)⟩ ⟨(Nat.le_of_ble_eq_true rfl), (Nat.le_of_ble_eq_true rfl)⟩ rfl rfl (Nat.le_of_ble_eq_true rfl) dX10_value_252 ?_
                            rintro r10 f10 ⟨hF10, hr10⟩
                            have hwo_10 : f10 wo = some (.inr (10, [.int sz, .ref we, .ref stp, .ref pa, .ref ba, .ref td, .ref p, .int ah, .int gl])) := hr10 _ _ hwo_9 (hD _ (by simp))
                            have hwe_10 : f10 we = some (.inl (cy 0, 3, .inl (weg))) := hr10 _ _ hwe_9 (hD _ (by simp))
                            have hst_10 : f10 stp = some (.inl (cy 0, 18, .inl (stg))) := hr10 _ _ hst_9 (hD _ (by simp))
                            have hpa_10 : f10 pa = some (.inl (cy 6, 5, .inr (.inr (.inr (.inr (pg)))))) := hr10 _ _ hpa_9 (hD _ (by simp))
                            have hp_10 : f10 p = some (.inr (2, [.ref c1, .ref c2, .int s, .int v])) := hr10 _ _ hp_9 (hD _ (by simp))
                            have h1_10 : f10 c1 = some (.inl (cy 0, n1, .inl (g))) := hr10 _ _ h1_9 (hD _ (by simp))
                            have h2_10 : f10 c2 = some (.inl (cy 0, n2, .inl (h))) := hr10 _ _ h2_9 (hD _ (by simp))
                            obtain ⟨dau11, tu11, hPu11, hQu11⟩ := hF10 (scI st) (scI_lt st)
                            refine scX10_100 (k_X10_better (x := wd) (y := r9) (u := r10) hwo_10 hp_10 h1_10 hs) hwo_10 ⟨(by simp only [gRm]; omega), (by simp only [gRm]; omega)⟩ ⟨(Nat.le_of_ble_eq_true rfl), (Nat.le_of_ble_eq_true rfl)⟩ rfl rfl (Nat.le_of_ble_eq_true rfl) dX10_value_255 ?_
                            intro v9 f9 z9; rw [z9.1, z9.2]
                            refine gz_goto (tgt := 263) dX10_value_258 (by decide) ?_
                            exact gz_lret rfl dX10_value_263 (Nat.le_of_ble_eq_true rfl) (Nat.le_of_ble_eq_true rfl) (⟨_, rfl, hF10, (fr_tr (fr_tr fr_rf (fr_mo hr9 (by simp))) (fr_mo hr10 (by simp)))⟩)
                        ·
                          refine gz_tableOut (tgt := 264) dX10_value_39 (by have g0 : (fldF n1 g s wd 0).toInt ≠ -1 := fun e => hw_39_0 (Int32.toInt_inj.mp (e.trans rfl)); have g1 : (fldF n1 g s wd 0).toInt ≠ 0 := fun e => hw_39_1 (Int32.toInt_inj.mp (e.trans rfl)); have g2 : (fldF n1 g s wd 0).toInt ≠ 1 := fun e => hw_39_2 (Int32.toInt_inj.mp (e.trans rfl)); have g3 : (fldF n1 g s wd 0).toInt ≠ 2 := fun e => hw_39_3 (Int32.toInt_inj.mp (e.trans rfl)); have g4 : (fldF n1 g s wd 0).toInt ≠ 3 := fun e => hw_39_4 (Int32.toInt_inj.mp (e.trans rfl)); have g5 : (fldF n1 g s wd 0).toInt ≠ 4 := fun e => hw_39_5 (Int32.toInt_inj.mp (e.trans rfl)); have g6 : (fldF n1 g s wd 0).toInt ≠ 5 := fun e => hw_39_6 (Int32.toInt_inj.mp (e.trans rfl)); have g7 : (fldF n1 g s wd 0).toInt ≠ 6 := fun e => hw_39_7 (Int32.toInt_inj.mp (e.trans rfl)); have g8 : (fldF n1 g s wd 0).toInt ≠ 7 := fun e => hw_39_8 (Int32.toInt_inj.mp (e.trans rfl)); omega) (by decide) ?_
                          refine gz_aload_n dX10_value_264 rfl rfl ?_
                          refine gz_iload_n dX10_value_265 rfl rfl ?_
                          refine gz_iload_n dX10_value_266 rfl rfl ?_
                          refine gz_iload_n dX10_value_267 rfl rfl ?_
                          refine scX10_107 (k_X10_deedValue (wd := wd) (fa := fa) (st := st) hwo hwe hst hpa hp h1 h2 hs hv hI hz ha hpg hPQ hD hF hsr (by have hw := fld_kind hw_39_0; omega) ih) hwo ⟨(by simp only [gRm]; omega), (by simp only [gRm]; omega)⟩ ⟨(Nat.le_of_ble_eq_true rfl), (Nat.le_of_ble_eq_true rfl)⟩ rfl rfl (Nat.le_of_ble_eq_true rfl) dX10_value_268 ?_
                          rintro r11 f11 ⟨hF11, hr11⟩
                          have hwo_11 : f11 wo = some (.inr (10, [.int sz, .ref we, .ref stp, .ref pa, .ref ba, .ref td, .ref p, .int ah, .int gl])) := hr11 _ _ hwo (hD _ (by simp))
                          have hwe_11 : f11 we = some (.inl (cy 0, 3, .inl (weg))) := hr11 _ _ hwe (hD _ (by simp))
                          have hst_11 : f11 stp = some (.inl (cy 0, 18, .inl (stg))) := hr11 _ _ hst (hD _ (by simp))
                          have hpa_11 : f11 pa = some (.inl (cy 6, 5, .inr (.inr (.inr (.inr (pg)))))) := hr11 _ _ hpa (hD _ (by simp))
                          have hp_11 : f11 p = some (.inr (2, [.ref c1, .ref c2, .int s, .int v])) := hr11 _ _ hp (hD _ (by simp))
                          have h1_11 : f11 c1 = some (.inl (cy 0, n1, .inl (g))) := hr11 _ _ h1 (hD _ (by simp))
                          have h2_11 : f11 c2 = some (.inl (cy 0, n2, .inl (h))) := hr11 _ _ h2 (hD _ (by simp))
                          obtain ⟨dau12, tu12, hPu12, hQu12⟩ := hF11 (scI st) (scI_lt st)
                          exact gz_lret rfl dX10_value_271 (Nat.le_of_ble_eq_true rfl) (Nat.le_of_ble_eq_true rfl) (⟨_, rfl, hF11, (fr_tr fr_rf (fr_mo hr11 (by simp)))⟩)
      ·
        refine gz_lconst (v := 0) dX10_value_24 (by decide) ?_
        exact gz_lret rfl dX10_value_25 (Nat.le_of_ble_eq_true rfl) (Nat.le_of_ble_eq_true rfl) (⟨_, rfl, hF, fr_rf⟩)
