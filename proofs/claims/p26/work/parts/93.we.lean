theorem scA_wo {cy : Nat → ClassId} {P Q : Nat → Nat} {f : gMem} {wo k : Nat} {S : Sn} {fs gs : List Value} (h : scA cy P Q k S f) (hwo : f wo = some (.inr (10, fs))) : scA cy P Q k S (va_up f wo (some (.inr (10, gs)))) := by
  obtain ⟨da, t, g1, g2, g3⟩ := h
  exact ⟨da, t, by rw [va_up_ne _ _ (cne g1 hwo (by simp))]; exact g1, by rw [va_up_ne _ _ (cne g2 hwo (by simp))]; exact g2, g3⟩
theorem ahd_01 {y : Int32} : (ahdF y = 1 ∧ 1 ≤ y.toInt ∧ y.toInt ≤ 4) ∨ (ahdF y = 0 ∧ ¬ (1 ≤ y.toInt ∧ y.toInt ≤ 4)) := by
  have e1 : (1 : Int32).toInt = 1 := rfl
  have e4 : (4 : Int32).toInt = 4 := rfl
  unfold ahdF
  simp only [fl_lt, fl_le, e1, e4]
  repeat' split
  all_goals first | (exact Or.inl ⟨rfl, by omega, by omega⟩) | (exact Or.inr ⟨rfl, by omega⟩)
theorem mi4 {y : Int32} (h : 1 ≤ y.toInt ∧ y.toInt ≤ 4) : (if 4 < y then 4 else y) = y := by
  have e4 : (4 : Int32).toInt = 4 := rfl
  rw [if_neg (by rw [fl_lt, e4]; omega)]

set_option maxHeartbeats 4000000 in
set_option maxRecDepth 100000 in
theorem k_X10_startE {l : Launch} {D : va_G} {cy : Nat → ClassId} {b : Nat} {f : gMem} {wo we stp pa ba td p : Nat} {sz ah gl : Int32} {pg : Nat → Option Nat} {P Q : Nat → Nat} {po tt : Nat} {nn_ dt : Int32} {ut : Nat → Int32} {S : Sn} (hwo : f wo = some (.inr (10, [.int sz, .ref we, .ref stp, .ref pa, .ref ba, .ref td, .ref po, .int ah, .int gl]))) (hpa : f pa = some (.inl (cy 6, 5, .inr (.inr (.inr (.inr (pg))))))) (htd : f td = some (.inr (7, [.ref tt, .int dt]))) (htt : f tt = some (.inl (cy 0, 6, .inl (ut)))) (hF : pF cy P Q f) (hpg : ∀ ii : Nat, ii < 5 → pg ii = some (P ii)) (hPQ : ∀ ii jj : Nat, ii < 5 → jj < 5 → ii ≠ jj → P ii ≠ P jj ∧ Q ii ≠ Q jj) (hD2 : ∀ xx : Nat, xx ∈ [td, tt] → xx ∉ scL P Q) (hSn : sCn S dt ut) : gC l D cy b yX10_start cX10_start 3 none 1 0 0 [.ref wo, .ref p, .int nn_] f (pV fun f2 => f2 wo = some (.inr (10, [.int sz, .ref we, .ref stp, .ref pa, .ref ba, .ref td, .ref p, .int (if 4 < nn_ then 4 else nn_), .int gl])) ∧ pF cy P Q f2 ∧ scA cy P Q 0 S f2 ∧ fr (wo :: scL P Q) f f2) := by
  refine gC_of (by decide) (Nat.le_of_ble_eq_true rfl) ?_
  show gG l _ _ _ D cy b cX10_start 3 _ RX10 "start" 0 0 f 0 [(0, .ref wo), (1, .ref p), (2, .int nn_)] []
  obtain ⟨dz, tz, hPz, hQz⟩ := hF 0 (by decide)
  refine gz_aload_n dX10_start_0 rfl rfl ?_
  refine gz_aload_n dX10_start_1 rfl rfl ?_
  refine spX10_37 hwo  (Nat.le_of_ble_eq_true rfl) dX10_start_2 ?_
  obtain ⟨f1, hf1⟩ : ∃ gg : gMem, gg = va_up f wo (some (.inr (10, [.int sz, .ref we, .ref stp, .ref pa, .ref ba, .ref td, .ref p, .int ah, .int gl]))) := ⟨_, rfl⟩
  refine gz_eq (f2 := f1) hf1.symm rfl rfl rfl ?_
  have hpa_1 : f1 pa = some (.inl (cy 6, 5, .inr (.inr (.inr (.inr (pg)))))) := by rw [hf1, va_up_ne _ _ (cne hpa hwo (by simp))]; exact hpa
  have htd_1 : f1 td = some (.inr (7, [.ref tt, .int dt])) := by rw [hf1, va_up_ne _ _ (cne htd hwo (by simp))]; exact htd
  have htt_1 : f1 tt = some (.inl (cy 0, 6, .inl (ut))) := by rw [hf1, va_up_ne _ _ (cne htt hwo (by simp))]; exact htt
  have hPz_1 : f1 (P 0) = some (.inr (7, [.ref (Q 0), .int dz])) := by rw [hf1, va_up_ne _ _ (cne hPz hwo (by simp))]; exact hPz
  have hQz_1 : f1 (Q 0) = some (.inl (cy 0, 6, .inl (tz))) := by rw [hf1, va_up_ne _ _ (cne hQz hwo (by simp))]; exact hQz
  have hwo_1 : f1 wo = some (.inr (10, [.int sz, .ref we, .ref stp, .ref pa, .ref ba, .ref td, .ref p, .int ah, .int gl])) := by rw [hf1]; exact va_up_self _ _ _
  refine gz_aload_n dX10_start_5 rfl rfl ?_
  refine gz_iload_n dX10_start_6 rfl rfl ?_
  refine gz_iconst (v := 4) dX10_start_7 (by decide) ?_
  refine scX10_50 (Nat.le_of_ble_eq_true rfl) (Nat.le_of_ble_eq_true rfl) (Nat.le_of_ble_eq_true rfl) (Nat.le_of_ble_eq_true rfl) (Nat.le_of_ble_eq_true rfl) dX10_start_8 ?_
  refine spX10_56 hwo_1  (Nat.le_of_ble_eq_true rfl) dX10_start_11 ?_
  obtain ⟨f2, hf2⟩ : ∃ gg : gMem, gg = va_up f1 wo (some (.inr (10, [.int sz, .ref we, .ref stp, .ref pa, .ref ba, .ref td, .ref p, .int (if 4 < nn_ then 4 else nn_), .int gl]))) := ⟨_, rfl⟩
  refine gz_eq (f2 := f2) hf2.symm rfl rfl rfl ?_
  have hpa_2 : f2 pa = some (.inl (cy 6, 5, .inr (.inr (.inr (.inr (pg)))))) := by rw [hf2, va_up_ne _ _ (cne hpa_1 hwo_1 (by simp))]; exact hpa_1
  have htd_2 : f2 td = some (.inr (7, [.ref tt, .int dt])) := by rw [hf2, va_up_ne _ _ (cne htd_1 hwo_1 (by simp))]; exact htd_1
  have htt_2 : f2 tt = some (.inl (cy 0, 6, .inl (ut))) := by rw [hf2, va_up_ne _ _ (cne htt_1 hwo_1 (by simp))]; exact htt_1
  have hPz_2 : f2 (P 0) = some (.inr (7, [.ref (Q 0), .int dz])) := by rw [hf2, va_up_ne _ _ (cne hPz_1 hwo_1 (by simp))]; exact hPz_1
  have hQz_2 : f2 (Q 0) = some (.inl (cy 0, 6, .inl (tz))) := by rw [hf2, va_up_ne _ _ (cne hQz_1 hwo_1 (by simp))]; exact hQz_1
  have hwo_2 : f2 wo = some (.inr (10, [.int sz, .ref we, .ref stp, .ref pa, .ref ba, .ref td, .ref p, .int (if 4 < nn_ then 4 else nn_), .int gl])) := by rw [hf2]; exact va_up_self _ _ _
  refine gz_aload_n dX10_start_14 rfl rfl ?_
  refine sgX10_24 hwo_2 rfl dX10_start_15 ?_
  refine gz_iconst (v := 0) dX10_start_18 (by decide) ?_
  refine gz_aald6 hpa_2 (vin_T (v := 0) rfl (by decide) (by decide)) dX10_start_19 ?_
  refine gz_ev (w := .ref (P 0)) (by rw [show Int32.toNatClampNeg 0 = 0 from rfl, hpg 0 (by decide)]; rfl) ?_
  refine gz_aload_n dX10_start_20 rfl rfl ?_
  refine sgX10_41 hwo_2 rfl dX10_start_21 ?_
  obtain ⟨x1, hx1⟩ : ∃ x0, (cpyF dt ut tz dz) = x0 := ⟨_, rfl⟩
  refine scX10_59 (k_X7_copyFrom hPz_2 hQz_2 htd_2 htt_2 ⟨Ne.symm (fun q => hD2 tt (by simp) (q ▸ (scL_in (by decide)).2)), Ne.symm (fun q => hD2 td (by simp) (q ▸ (scL_in (by decide)).1))⟩) hPz_2 ⟨(Nat.le_of_ble_eq_true rfl), (Nat.le_of_ble_eq_true rfl)⟩ ⟨(Nat.le_of_ble_eq_true rfl), (Nat.le_of_ble_eq_true rfl)⟩ rfl rfl (Nat.le_of_ble_eq_true rfl) dX10_start_24 ?_
  rintro f3 ⟨hQz_3, hPz_3, hr3⟩; rw [hx1] at hQz_3 hPz_3
  have hpa_3 : f3 pa = some (.inl (cy 6, 5, .inr (.inr (.inr (.inr (pg)))))) := hr3 _ _ hpa_2 (by simp only [List.mem_cons, List.not_mem_nil, or_false, not_or]; exact ⟨cne hpa_2 hQz_2 (by simp), cne hpa_2 hPz_2 (by simp)⟩)
  have htd_3 : f3 td = some (.inr (7, [.ref tt, .int dt])) := hr3 _ _ htd_2 (by simp only [List.mem_cons, List.not_mem_nil, or_false, not_or]; exact ⟨cne htd_2 hQz_2 (by simp), (fun q => hD2 td (by simp) (q ▸ (scL_in (by decide)).1))⟩)
  have htt_3 : f3 tt = some (.inl (cy 0, 6, .inl (ut))) := hr3 _ _ htt_2 (by simp only [List.mem_cons, List.not_mem_nil, or_false, not_or]; exact ⟨(fun q => hD2 tt (by simp) (q ▸ (scL_in (by decide)).2)), cne htt_2 hPz_2 (by simp)⟩)
  have hwo_3 : f3 wo = some (.inr (10, [.int sz, .ref we, .ref stp, .ref pa, .ref ba, .ref td, .ref p, .int (if 4 < nn_ then 4 else nn_), .int gl])) := hr3 _ _ hwo_2 (by simp only [List.mem_cons, List.not_mem_nil, or_false, not_or]; exact ⟨cne hwo_2 hQz_2 (by simp), cne hwo_2 hPz_2 (by simp)⟩)
  have qc := cpyL_at (db := dt) (u := ut) 7 0 tz dz ⟨by decide, by decide⟩ (by decide)
  have qs : sCn S x1.2 x1.1 := by rw [← hx1]; exact ⟨by show (cpyL dt ut 7 0 tz dz).2.toInt = S.1; rw [qc.1]; exact hSn.1, fun i hi => by show ((cpyL dt ut 7 0 tz dz).1 i).toInt = S.2 i; rw [qc.2, if_pos ⟨by have e0 : (0 : Int32).toInt = 0 := rfl; omega, hi⟩]; exact hSn.2 i hi⟩
  exact gz_vret rfl dX10_start_27 (Nat.le_of_ble_eq_true rfl) (Nat.le_of_ble_eq_true rfl) (⟨rfl, hwo_3, pF_up (f := f2) (by decide) hPQ (fun i hi => by obtain ⟨q1, q2, q3, q4⟩ := hF i hi; refine ⟨q1, q2, ?_, ?_⟩; rw [hf2, va_up_ne _ _ (cne q3 hwo (by simp)), hf1, va_up_ne _ _ (cne q3 hwo (by simp))]; exact q3; rw [hf2, va_up_ne _ _ (cne q4 hwo (by simp)), hf1, va_up_ne _ _ (cne q4 hwo (by simp))]; exact q4) hPz_3 hQz_3 (fr_mo hr3 (by simp)), ⟨_, _, hPz_3, hQz_3, qs⟩, (fr_tr (by rw [hf2, hf1]; exact fr_up (fr_up fr_rf (by simp)) (by simp)) (fr_mo hr3 (fun z hz => List.mem_cons_of_mem _ (scL_sub (j := 0) (by decide) z (by simp only [List.mem_cons, List.not_mem_nil, or_false] at hz ⊢; exact hz.symm)))))⟩)

set_option maxHeartbeats 4000000 in
set_option maxRecDepth 100000 in
theorem k_X10_judgeE {l : Launch} {D : va_G} {cy : Nat → ClassId} {b : Nat} {f : gMem} {wo we stp pa ba td p c1 c2 n1 n2 : Nat} {sz ah gl s v : Int32} {weg stg g h : Nat → Int32} {pg : Nat → Option Nat} {P Q : Nat → Nat} {po tt : Nat} {nn_ dt gx : Int32} {ut : Nat → Int32} {S : Sn} {T : List Hd} {E : We} (hwo : f wo = some (.inr (10, [.int sz, .ref we, .ref stp, .ref pa, .ref ba, .ref td, .ref po, .int ah, .int gl]))) (hwe : f we = some (.inl (cy 0, 3, .inl (weg)))) (hst : f stp = some (.inl (cy 0, 18, .inl (stg)))) (hpa : f pa = some (.inl (cy 6, 5, .inr (.inr (.inr (.inr (pg))))))) (hp : f p = some (.inr (2, [.ref c1, .ref c2, .int s, .int v]))) (h1 : f c1 = some (.inl (cy 0, n1, .inl (g)))) (h2 : f c2 = some (.inl (cy 0, n2, .inl (h)))) (htd : f td = some (.inr (7, [.ref tt, .int dt]))) (htt : f tt = some (.inl (cy 0, 6, .inl (ut)))) (hs : 0 ≤ s.toInt ∧ 13 * s.toInt ≤ n1 ∧ n1 ≤ 520) (hv : 0 ≤ v.toInt ∧ 2 * v.toInt ≤ n2 ∧ n2 ≤ 80) (hI : fI g s.toInt) (hz : sz.toInt ≤ 3) (hpg : ∀ ii : Nat, ii < 5 → pg ii = some (P ii)) (hPQ : ∀ ii jj : Nat, ii < 5 → jj < 5 → ii ≠ jj → P ii ≠ P jj ∧ Q ii ≠ Q jj) (hD : ∀ xx : Nat, xx ∈ [wo, we, stp, pa, p, c1, c2] → xx ∉ scL P Q) (hD2 : ∀ xx : Nat, xx ∈ [td, tt] → xx ∉ scL P Q) (hF : pF cy P Q f) (hSn : sCn S dt ut) (hSO : sOk 0 S) (hcT_ : hcT T s v g h) (hE : eE sz (if 4 < nn_ then 4 else nn_) gx weg stg E) : gC l D cy b yX10_judge cX10_judge 4 (some .long) 510 0 0 [.ref wo, .ref p, .int nn_, .int gx] f (pL fun r f2 => r = vl T E 0 1 0 S ∧ f2 wo = some (.inr (10, [.int sz, .ref we, .ref stp, .ref pa, .ref ba, .ref td, .ref p, .int (if 4 < nn_ then 4 else nn_), .int gx])) ∧ pF cy P Q f2 ∧ fr (wo :: scL P Q) f f2) := by
  refine gC_of (by decide) (Nat.le_of_ble_eq_true rfl) ?_
  show gG l _ _ _ D cy b cX10_judge 4 _ RX10 "judge" 0 0 f 0 [(0, .ref wo), (1, .ref p), (2, .int nn_), (3, .int gx)] []
  refine gz_aload_n dX10_judge_0 rfl rfl ?_
  refine gz_aload_n dX10_judge_1 rfl rfl ?_
  refine gz_iload_n dX10_judge_2 rfl rfl ?_
  refine scX10_76 (k_X10_startE (p := p) (nn_ := nn_) hwo hpa htd htt hF hpg hPQ hD2 hSn) hwo ⟨(Nat.le_of_ble_eq_true rfl), (Nat.le_of_ble_eq_true rfl)⟩ ⟨(Nat.le_of_ble_eq_true rfl), (Nat.le_of_ble_eq_true rfl)⟩ rfl rfl (Nat.le_of_ble_eq_true rfl) dX10_judge_3 ?_
  rintro f1 ⟨hwo_1, hF1, hSc1, hr1⟩
  have hwe_1 : f1 we = some (.inl (cy 0, 3, .inl (weg))) := hr1 _ _ hwe (by simp only [List.mem_cons, not_or]; exact ⟨cne hwe hwo (by simp), hD _ (by simp)⟩)
  have hst_1 : f1 stp = some (.inl (cy 0, 18, .inl (stg))) := hr1 _ _ hst (by simp only [List.mem_cons, not_or]; exact ⟨cne hst hwo (by simp), hD _ (by simp)⟩)
  have hpa_1 : f1 pa = some (.inl (cy 6, 5, .inr (.inr (.inr (.inr (pg)))))) := hr1 _ _ hpa (by simp only [List.mem_cons, not_or]; exact ⟨cne hpa hwo (by simp), hD _ (by simp)⟩)
  have hp_1 : f1 p = some (.inr (2, [.ref c1, .ref c2, .int s, .int v])) := hr1 _ _ hp (by simp only [List.mem_cons, not_or]; exact ⟨cne hp hwo (by simp), hD _ (by simp)⟩)
  have h1_1 : f1 c1 = some (.inl (cy 0, n1, .inl (g))) := hr1 _ _ h1 (by simp only [List.mem_cons, not_or]; exact ⟨cne h1 hwo (by simp), hD _ (by simp)⟩)
  have h2_1 : f1 c2 = some (.inl (cy 0, n2, .inl (h))) := hr1 _ _ h2 (by simp only [List.mem_cons, not_or]; exact ⟨cne h2 hwo (by simp), hD _ (by simp)⟩)
  refine gz_aload_n dX10_judge_6 rfl rfl ?_
  refine gz_iload_n dX10_judge_7 rfl rfl ?_
  refine spX10_80 hwo_1  (Nat.le_of_ble_eq_true rfl) dX10_judge_8 ?_
  obtain ⟨f2, hf2⟩ : ∃ gg : gMem, gg = va_up f1 wo (some (.inr (10, [.int sz, .ref we, .ref stp, .ref pa, .ref ba, .ref td, .ref p, .int (if 4 < nn_ then 4 else nn_), .int gx]))) := ⟨_, rfl⟩
  refine gz_eq (f2 := f2) hf2.symm rfl rfl rfl ?_
  have hwe_2 : f2 we = some (.inl (cy 0, 3, .inl (weg))) := by rw [hf2, va_up_ne _ _ (cne hwe_1 hwo_1 (by simp))]; exact hwe_1
  have hst_2 : f2 stp = some (.inl (cy 0, 18, .inl (stg))) := by rw [hf2, va_up_ne _ _ (cne hst_1 hwo_1 (by simp))]; exact hst_1
  have hpa_2 : f2 pa = some (.inl (cy 6, 5, .inr (.inr (.inr (.inr (pg)))))) := by rw [hf2, va_up_ne _ _ (cne hpa_1 hwo_1 (by simp))]; exact hpa_1
  have hp_2 : f2 p = some (.inr (2, [.ref c1, .ref c2, .int s, .int v])) := by rw [hf2, va_up_ne _ _ (cne hp_1 hwo_1 (by simp))]; exact hp_1
  have h1_2 : f2 c1 = some (.inl (cy 0, n1, .inl (g))) := by rw [hf2, va_up_ne _ _ (cne h1_1 hwo_1 (by simp))]; exact h1_1
  have h2_2 : f2 c2 = some (.inl (cy 0, n2, .inl (h))) := by rw [hf2, va_up_ne _ _ (cne h2_1 hwo_1 (by simp))]; exact h2_1
  have hwo_2 : f2 wo = some (.inr (10, [.int sz, .ref we, .ref stp, .ref pa, .ref ba, .ref td, .ref p, .int (if 4 < nn_ then 4 else nn_), .int gx])) := by rw [hf2]; exact va_up_self _ _ _
  refine gz_aload_n dX10_judge_11 rfl rfl ?_
  refine gz_iconst (v := 0) dX10_judge_12 (by decide) ?_
  refine gz_iconst (v := 1) dX10_judge_13 (by decide) ?_
  refine gz_iconst (v := 0) dX10_judge_14 (by decide) ?_
  have hFw : pF cy P Q f2 := by rw [hf2]; exact pF_wo hF1 hwo_1
  have hScw : scA cy P Q 0 S f2 := by rw [hf2]; exact scA_wo hSc1 hwo_1
  refine scX10_83 (k_X10_valueE (T := T) (E := E) hs hv hI hz min4 hpg hPQ hD hcT_ hE 250 0 1 0 0 1 0 S _ hwo_2 hwe_2 hst_2 hpa_2 hp_2 h1_2 h2_2 hFw ⟨rfl, (by obtain ⟨z9, B9, e9⟩ := okT_ne hcT_.1.1; rw [e9]; exact Nat.succ_pos _)⟩ ⟨rfl, by decide, by decide⟩ ⟨rfl, Nat.zero_le _⟩ hSO hScw (by have z9 := (hc_lk (n1 := n1) hcT_).1.2.2.1; omega)) hwo_2 ⟨(Nat.le_of_ble_eq_true rfl), (Nat.le_of_ble_eq_true rfl)⟩ ⟨(Nat.le_of_ble_eq_true rfl), (Nat.le_of_ble_eq_true rfl)⟩ rfl rfl (Nat.le_of_ble_eq_true rfl) dX10_judge_15 ?_
  rintro r3 f3 ⟨he3, hF3, hr3, hk3⟩
  have hwo_3 : f3 wo = some (.inr (10, [.int sz, .ref we, .ref stp, .ref pa, .ref ba, .ref td, .ref p, .int (if 4 < nn_ then 4 else nn_), .int gx])) := hr3 _ _ hwo_2 (hD _ (by simp))
  have hq3 := fr_mo hr3 (S' := wo :: scL P Q) (fun z hz3 => List.mem_cons_of_mem _ hz3)
  exact gz_lret rfl dX10_judge_18 (Nat.le_of_ble_eq_true rfl) (Nat.le_of_ble_eq_true rfl) (⟨_, rfl, he3, hwo_3, hF3, (fr_tr (by rw [hf2]; exact fr_up (fr_tr fr_rf hr1) (by simp)) hq3)⟩)

theorem nt_8600  : ∀ k : Nat, 13000 ≤ k ∧ k < 14000 → ¬ (k = 11000 ∨ (15000 ≤ k ∧ k < 16000)) := by intro k hk hT; omega
theorem nt_8601  : ∀ k : Nat, 1000 ≤ k ∧ k < 2000 → ¬ (k = 11000 ∨ (15000 ≤ k ∧ k < 16000)) := by intro k hk hT; omega
theorem nt_8602  : ∀ k : Nat, 2000 ≤ k ∧ k < 3000 → ¬ (k = 11000 ∨ (15000 ≤ k ∧ k < 16000)) := by intro k hk hT; omega
theorem nt_8603  : ∀ k : Nat, 14000 ≤ k ∧ k < 15000 → ¬ (k = 11000 ∨ (15000 ≤ k ∧ k < 16000)) := by intro k hk hT; omega
theorem nt_8604  : ∀ k : Nat, 5000 ≤ k ∧ k < 6000 → ¬ (k = 11000 ∨ (15000 ≤ k ∧ k < 16000)) := by intro k hk hT; omega
theorem nt_8605  : ∀ k : Nat, 4000 ≤ k ∧ k < 5000 → ¬ (k = 11000 ∨ (15000 ≤ k ∧ k < 16000)) := by intro k hk hT; omega
theorem nt_8606  : ∀ k : Nat, 6000 ≤ k ∧ k < 7000 → ¬ (k = 11000 ∨ (15000 ≤ k ∧ k < 16000)) := by intro k hk hT; omega
theorem nt_8607  : ∀ k : Nat, 7000 ≤ k ∧ k < 8000 → ¬ (k = 11000 ∨ (15000 ≤ k ∧ k < 16000)) := by intro k hk hT; omega
theorem nt_8608  : ∀ k : Nat, 3000 ≤ k ∧ k < 4000 → ¬ (k = 11000 ∨ (15000 ≤ k ∧ k < 16000)) := by intro k hk hT; omega
theorem nt_8609  : ∀ k : Nat, 8000 ≤ k ∧ k < 9000 → ¬ (k = 11000 ∨ (15000 ≤ k ∧ k < 16000)) := by intro k hk hT; omega
theorem nt_8610  : ∀ k : Nat, 9000 ≤ k ∧ k < 10000 → ¬ (k = 11000 ∨ (15000 ≤ k ∧ k < 16000)) := by intro k hk hT; omega
theorem nt_8611  : ∀ k : Nat, 10000 ≤ k ∧ k < 11000 → ¬ (k = 11000 ∨ (15000 ≤ k ∧ k < 16000)) := by intro k hk hT; omega
theorem nt_8612  : ∀ k : Nat, 12000 ≤ k ∧ k < 13000 → ¬ (k = 11000 ∨ (15000 ≤ k ∧ k < 16000)) := by intro k hk hT; omega
theorem nt_8613  : ∀ k : Nat, 11001 ≤ k ∧ k < 11002 → ¬ (k = 11000 ∨ (15000 ≤ k ∧ k < 16000)) := by intro k hk hT; omega
theorem nt_8614  : ∀ k : Nat, 11002 ≤ k ∧ k < 11003 → ¬ (k = 11000 ∨ (15000 ≤ k ∧ k < 16000)) := by intro k hk hT; omega
theorem nt_8615  : ∀ k : Nat, 11003 ≤ k ∧ k < 11004 → ¬ (k = 11000 ∨ (15000 ≤ k ∧ k < 16000)) := by intro k hk hT; omega
theorem nt_8616  : ∀ k : Nat, 11004 ≤ k ∧ k < 11005 → ¬ (k = 11000 ∨ (15000 ≤ k ∧ k < 16000)) := by intro k hk hT; omega
theorem nt_8617  : ∀ k : Nat, 0 ≤ k ∧ k < 1 → ¬ (k = 11000 ∨ (15000 ≤ k ∧ k < 16000)) := by intro k hk hT; omega
set_option maxHeartbeats 4000000 in
set_option maxRecDepth 100000 in
theorem i_X11_worthE {l : Launch} {D : va_G} {cy : Nat → ClassId} {b : Nat} {f : gMem} {own : Nat → Nat} {xo : Nat} {da : Int32} {fcn : Int32} {csz : Int32} {sz : Int32} {len : Int32} {ln : Int32} {wz : Int32} {lo : Int32} {tg : Nat → Int32} {weg : Nat → Int32} {stg : Nat → Int32} {tpg : Nat → Int32} {CN : Nat → Int32 → Int32 → (Nat → Int32) → (Nat → Int32) → Prop} {eg : Nat → Int32} {thg : Nat → Int32} {LN : Nat → Nat → Int32 → Int32 → Int32 → Int32 → Int64 → (Nat → Int32) → (Nat → Int32) → Prop} {ne : Nat} {x y u : Int32} {Tf : Nat → List Hd} {S : Sn} {E : We} (hI : xI cy own xo da fcn csz sz len ln wz lo tg weg stg tpg CN eg thg LN ne f) (hCT : ∀ (k : Nat) (s v : Int32) (g h : Nat → Int32), (k : Int) < fcn.toInt → CN k s v g h → hcT (Tf k) s v g h) (hSn : sCn S da thg) (hSO : sOk 0 S) (hEC : 1 ≤ y.toInt ∧ y.toInt ≤ 4 → 0 ≤ u.toInt ∧ u.toInt ≤ 2 → eE wz y u weg stg E) (hPW : ∀ x : Int32, 0 ≤ x.toInt ∧ x.toInt ≤ 4 → pwrF weg wz x = E.2.2.2.1 x.toInt.toNat) : gC l D cy b yX11_worth cX11_worth 5 (some .long) 511 0 0 [.ref xo, .int x, .int y, .int u] f (pL fun r f2 => r = (if x.toInt < 0 ∨ fcn.toInt ≤ x.toInt ∨ y.toInt < 1 ∨ 4 < y.toInt ∨ u.toInt < 0 ∨ 3 < u.toInt then (-1000000000000000000 : Int64) else if u.toInt = 3 then E.2.2.2.1 y.toInt.toNat else vl (Tf x.toInt.toNat) E 0 1 0 S) ∧ xI cy own xo da fcn csz sz len ln wz lo tg weg stg tpg CN eg thg LN ne f2 ∧ kp0 own own f f2) := by
  obtain ⟨ch, sc, tp, ou, fm, dr, dt_, rd, te, la, lg, co, wo, fmg, lvg, HcXo, HcCh, HcTp, HcOu, HcFa, HcFm, HcDr, HcOt, HcRt, HcLa, HcLg, HcCo, HcLv, HcWo, HcFn, HcLn⟩ := id hI
  obtain ⟨og_xo, hxo, mcXo⟩ := id HcXo
  obtain ⟨og_fm, hfm⟩ := id HcFa
  obtain ⟨we, stp, pa, ba, po, ah, gl, bag, pg, P, Q, ⟨⟨og_wo, og_we, og_stp, og_pa, og_ba⟩, hwo, hwe, hstp, hpa, hba, mcWo⟩, HcPa⟩ := id HcWo
  obtain ⟨tl, th, ⟨og_ch, og_tl, og_sc, og_th⟩, hch, htl, hsc, hth, mcCh⟩ := id HcCh
  refine gC_of (by decide) (Nat.le_of_ble_eq_true rfl) ?_
  show gG l _ _ _ D cy b cX11_worth 5 _ RX11 "worth" 0 0 f 0 [(0, .ref xo), (1, .int x), (2, .int y), (3, .int u)] []
  refine gz_aload_n dX11_worth_0 rfl rfl ?_
  refine gz_iload_n dX11_worth_1 rfl rfl ?_
  refine scX11_126 (k_X11_formAt (x := x) hxo hfm) hxo ⟨(Nat.le_of_ble_eq_true rfl), (Nat.le_of_ble_eq_true rfl)⟩ ⟨(Nat.le_of_ble_eq_true rfl), (Nat.le_of_ble_eq_true rfl)⟩ rfl rfl (Nat.le_of_ble_eq_true rfl) dX11_worth_2 ?_
  rintro u9 f9 ⟨z9, y9⟩; rw [z9, y9]
  cases hA2 : formF fcn fmg x with
  | none =>
    refine gz_ev (w := .null) rfl ?_
    refine gz_astoreN (lv' := [(4, .null), (0, .ref xo), (1, .int x), (2, .int y), (3, .int u)]) dX11_worth_5 (by decide) rfl ?_
    refine gz_aloadN dX11_worth_7 rfl ?_
    refine gz_ifnullN (tgt := 28) dX11_worth_9 (by decide) ?_
    refine gz_ldc2 (v := (-1000000000000000000)) wd_667 dX11_worth_28 ?_
    have hno9 : ¬ (0 ≤ x.toInt ∧ x.toInt < fcn.toInt) := fun z => by obtain ⟨p9, hp9⟩ := formF_is mcXo HcFn z; rw [hA2] at hp9; cases hp9
    exact gz_lret rfl dX11_worth_31 (Nat.le_of_ble_eq_true rfl) (Nat.le_of_ble_eq_true rfl) (⟨_, rfl, (by rw [if_pos (by omega)]), hI, kp0_rf⟩)
  | some p =>
    refine gz_ev (w := .ref p) rfl ?_
    have hip := (formF_some hA2).1
    have hjp := (formF_some hA2).2
    obtain ⟨c1, c2, n1, n2, s, v, g, h, ⟨⟨og_p, og_c1, og_c2⟩, hp, hc1, hc2, hs, hv, hFI⟩, hCN⟩ := HcFm _ _ hip hjp
    refine gz_astore (lv' := [(4, .ref p), (0, .ref xo), (1, .int x), (2, .int y), (3, .int u)]) dX11_worth_5 (by decide) rfl ?_
    refine gz_aload dX11_worth_7 rfl ?_
    refine gz_ifnull dX11_worth_9 ?_
    refine gz_iload_n dX11_worth_12 rfl rfl ?_
    refine scX11_206 (k_X11_isAhead (x := y)) ⟨(Nat.le_of_ble_eq_true rfl), (Nat.le_of_ble_eq_true rfl)⟩ ⟨(Nat.le_of_ble_eq_true rfl), (Nat.le_of_ble_eq_true rfl)⟩ rfl rfl (Nat.le_of_ble_eq_true rfl) dX11_worth_13 ?_
    intro v9 f9 z9; rw [z9.1, z9.2]
    refine gz_if_eq (tgt := 28) dX11_worth_16 (by decide) (fun c_16 => ?_) (fun c_16 => ?_)
    ·
      refine gz_ldc2 (v := (-1000000000000000000)) wd_667 dX11_worth_28 ?_
      have hfl := formF_lt hA2
      have ek0 : (0 : Int32).toInt = 0 := rfl
      have ek3 : (3 : Int32).toInt = 3 := rfl
      have hyb : ¬ (1 ≤ y.toInt ∧ y.toInt ≤ 4) := by rcases ahd_01 (y := y) with z | z; (exfalso; rw [z.1] at c_16; exact absurd c_16 (by decide)); exact z.2
      exact gz_lret rfl dX11_worth_31 (Nat.le_of_ble_eq_true rfl) (Nat.le_of_ble_eq_true rfl) (⟨_, rfl, (by rw [if_pos (by omega)]), hI, kp0_rf⟩)
    ·
      refine gz_iload_n dX11_worth_19 rfl rfl ?_
      refine gz_if_lt (tgt := 28) dX11_worth_20 (by decide) (fun c_20 => ?_) (fun c_20 => ?_)
      ·
        refine gz_ldc2 (v := (-1000000000000000000)) wd_667 dX11_worth_28 ?_
        have hfl := formF_lt hA2
        have ek0 : (0 : Int32).toInt = 0 := rfl
        have ek3 : (3 : Int32).toInt = 3 := rfl
        have hyg : 1 ≤ y.toInt ∧ y.toInt ≤ 4 := by rcases ahd_01 (y := y) with z | z; exact z.2; (exfalso; rw [z.1] at c_16; exact absurd c_16 (by decide))
        try simp only [fl_lt, fl_le] at c_20
        exact gz_lret rfl dX11_worth_31 (Nat.le_of_ble_eq_true rfl) (Nat.le_of_ble_eq_true rfl) (⟨_, rfl, (by rw [if_pos (by omega)]), hI, kp0_rf⟩)
      ·
        refine gz_iload_n dX11_worth_23 rfl rfl ?_
        refine gz_iconst (v := 3) dX11_worth_24 (by decide) ?_
        refine gz_icmp_le (tgt := 32) dX11_worth_25 (by decide) (fun c_25 => ?_) (fun c_25 => ?_)
        ·
          refine gz_iload_n dX11_worth_32 rfl rfl ?_
          refine gz_iconst (v := 3) dX11_worth_33 (by decide) ?_
          refine gz_icmp_ne (tgt := 48) dX11_worth_34 (by decide) (fun c_34 => ?_) (fun c_34 => ?_)
          ·
            refine gz_aload_n dX11_worth_48 rfl rfl ?_
            refine sgX11_94 hxo rfl dX11_worth_49 ?_
            refine gz_aload dX11_worth_52 rfl ?_
            refine gz_iload_n dX11_worth_54 rfl rfl ?_
            refine gz_iload_n dX11_worth_55 rfl rfl ?_
            have hfl := formF_lt hA2
            have ek0 : (0 : Int32).toInt = 0 := rfl
            have ek3 : (3 : Int32).toInt = 3 := rfl
            have hyg : 1 ≤ y.toInt ∧ y.toInt ≤ 4 := by rcases ahd_01 (y := y) with z | z; exact z.2; (exfalso; rw [z.1] at c_16; exact absurd c_16 (by decide))
            try simp only [fl_lt, fl_le] at c_20
            try simp only [fl_lt, fl_le] at c_25
            try simp only [fl_lt, fl_le] at c_34
            have hcx := hCT _ s v g h (show ((Int32.toNatClampNeg x : Nat) : Int) < fcn.toInt by rw [show Int32.toNatClampNeg x = x.toInt.toNat from rfl]; omega) hCN
            have hu3 : ¬ u.toInt = 3 := by first | omega | (intro z9; exact absurd (Int32.toInt_inj.mp (z9.trans ek3.symm)) (by assumption))
            refine scX11_215 (k_X10_judgeE (nn_ := y) (gx := u) (S := S) (T := Tf (Int32.toNatClampNeg x)) (E := E) hwo hwe hstp hpa hp hc1 hc2 hsc hth hs hv hFI mcWo.2 HcPa.2.1 (cPa_ne HcPa) (cPa_no HcPa (by intro x0 hx0; simp only [List.mem_cons, List.not_mem_nil, or_false] at hx0; rcases hx0 with e0 | e0 | e0 | e0 | e0 | e0 | e0; all_goals first | (rw [e0, og_wo]; decide) | (rw [e0, og_we]; decide) | (rw [e0, og_stp]; decide) | (rw [e0, og_pa]; decide) | (rw [e0, og_p]; omega) | (rw [e0, og_c1]; omega) | (rw [e0, og_c2]; omega))) (cPa_no HcPa (by intro x0 hx0; simp only [List.mem_cons, List.not_mem_nil, or_false] at hx0; rcases hx0 with e0 | e0; all_goals first | (rw [e0, og_sc]; decide) | (rw [e0, og_th]; decide))) HcPa.2.2 hSn hSO hcx (by rw [mi4 hyg]; exact hEC hyg ⟨by omega, by omega⟩)) hwo ⟨(Nat.le_of_ble_eq_true rfl), (Nat.le_of_ble_eq_true rfl)⟩ ⟨(Nat.le_of_ble_eq_true rfl), (Nat.le_of_ble_eq_true rfl)⟩ rfl rfl (Nat.le_of_ble_eq_true rfl) dX11_worth_56 ?_
            rintro r_1 f1 ⟨he1, hwo_1, hF1, hr1⟩
            have hK : kp own own (fun k => k = 11000 ∨ (15000 ≤ k ∧ k < 16000)) f f1 := by
              refine kp_fr (S := wo :: scL P Q) (hr1) (fun _ _ _ => rfl) ?_
              intro x0 hx0
              rcases List.mem_cons.mp hx0 with e0 | hx0
              · rw [e0]; show (own wo) = 11000 ∨ (15000 ≤ (own wo) ∧ (own wo) < 16000); rw [og_wo]; decide
              exact Or.inr (cPa_tg HcPa _ hx0)
            exact gz_lret rfl dX11_worth_59 (Nat.le_of_ble_eq_true rfl) (Nat.le_of_ble_eq_true rfl) (⟨_, rfl, (by rw [if_neg (by omega), if_neg hu3]; exact he1), ⟨_, _, _, _, _, _, _, _, _, _, _, _, _, _, _, (cXo_kp HcXo hK nt_8600), (kCh_kp HcCh hK nt_8601), (kTp_kp HcTp hK nt_8602), (kOu_kp HcOu hK nt_8603), (cFa_kp HcFa hK nt_8604), (cFm_kp HcFm hK nt_8605), (kDr_kp HcDr hK nt_8606), (kOt_kp HcOt hK nt_8607), (kRt_kp HcRt hK nt_8608), (kLa_kp HcLa hK nt_8609), (kLg_kp HcLg hK nt_8610), (kCo_kp HcCo hK nt_8611), (cLv_kp HcLv hK nt_8612), ⟨_, _, _, _, _, _, _, _, _, _, _, ⟨⟨og_wo, og_we, og_stp, og_pa, og_ba⟩, hwo_1, (hK.2 _ _ hwe (by show ¬ ((own we) = 11000 ∨ (15000 ≤ (own we) ∧ (own we) < 16000)); rw [og_we]; exact nt_8613 _ ⟨Nat.le_refl _, Nat.lt_succ_self _⟩)), (hK.2 _ _ hstp (by show ¬ ((own stp) = 11000 ∨ (15000 ≤ (own stp) ∧ (own stp) < 16000)); rw [og_stp]; exact nt_8614 _ ⟨Nat.le_refl _, Nat.lt_succ_self _⟩)), (hK.2 _ _ hpa (by show ¬ ((own pa) = 11000 ∨ (15000 ≤ (own pa) ∧ (own pa) < 16000)); rw [og_pa]; exact nt_8615 _ ⟨Nat.le_refl _, Nat.lt_succ_self _⟩)), (hK.2 _ _ hba (by show ¬ ((own ba) = 11000 ∨ (15000 ≤ (own ba) ∧ (own ba) < 16000)); rw [og_ba]; exact nt_8616 _ ⟨Nat.le_refl _, Nat.lt_succ_self _⟩)), mcWo⟩, (cPa_F HcPa hK hF1)⟩, HcFn, HcLn⟩, (kp_0 hK (nt_8617 0 ⟨Nat.le_refl _, Nat.lt_succ_self _⟩))⟩)
          ·
            refine gz_aload_n dX11_worth_37 rfl rfl ?_
            refine sgX11_94 hxo rfl dX11_worth_38 ?_
            refine gz_iload_n dX11_worth_41 rfl rfl ?_
            have hfl := formF_lt hA2
            have ek0 : (0 : Int32).toInt = 0 := rfl
            have ek3 : (3 : Int32).toInt = 3 := rfl
            have hyg : 1 ≤ y.toInt ∧ y.toInt ≤ 4 := by rcases ahd_01 (y := y) with z | z; exact z.2; (exfalso; rw [z.1] at c_16; exact absurd c_16 (by decide))
            try simp only [fl_lt, fl_le] at c_20
            try simp only [fl_lt, fl_le] at c_25
            try simp only [fl_lt, fl_le] at c_34
            have hu3 : u.toInt = 3 := by first | omega | (have z9 := congrArg Int32.toInt (by assumption : u = 3); omega)
            refine scX11_211 (k_X10_power (x := y) hwo hwe mcWo.2) hwo ⟨(Nat.le_of_ble_eq_true rfl), (Nat.le_of_ble_eq_true rfl)⟩ ⟨(Nat.le_of_ble_eq_true rfl), (Nat.le_of_ble_eq_true rfl)⟩ rfl rfl (Nat.le_of_ble_eq_true rfl) dX11_worth_42 ?_
            intro v9 f9 z9; rw [z9.1, z9.2]
            refine gz_goto (tgt := 59) dX11_worth_45 (by decide) ?_
            exact gz_lret rfl dX11_worth_59 (Nat.le_of_ble_eq_true rfl) (Nat.le_of_ble_eq_true rfl) (⟨_, rfl, (by rw [if_neg (by omega), if_pos (by omega)]; exact hPW _ (by omega)), hI, kp0_rf⟩)
        ·
          refine gz_ldc2 (v := (-1000000000000000000)) wd_667 dX11_worth_28 ?_
          have hfl := formF_lt hA2
          have ek0 : (0 : Int32).toInt = 0 := rfl
          have ek3 : (3 : Int32).toInt = 3 := rfl
          have hyg : 1 ≤ y.toInt ∧ y.toInt ≤ 4 := by rcases ahd_01 (y := y) with z | z; exact z.2; (exfalso; rw [z.1] at c_16; exact absurd c_16 (by decide))
          try simp only [fl_lt, fl_le] at c_20
          try simp only [fl_lt, fl_le] at c_25
          exact gz_lret rfl dX11_worth_31 (Nat.le_of_ble_eq_true rfl) (Nat.le_of_ble_eq_true rfl) (⟨_, rfl, (by rw [if_pos (by omega)]), hI, kp0_rf⟩)
