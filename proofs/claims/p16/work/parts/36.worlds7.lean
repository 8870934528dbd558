def fPp (l : Launch) (D : va_G) (cy : Nat → ClassId) (b wo we stp pa ba td p c1 c2 n1 n2 q d1 d2 m1 m2 : Nat) (sz ah gl s v qs qv : Int32) (stg g h gq hh : Nat → Int32) (pg : Nat → Option Nat) (P Q : Nat → Nat) (k : Nat) : Prop := ∀ (st nu : Int32) (po : Nat) (bag : Nat → Int64) (f : gMem), (f wo = some (.inr (10, [.int sz, .ref we, .ref stp, .ref pa, .ref ba, .ref td, .ref po, .int ah, .int gl]))) → (f ba = some (.inl (cy 2, 5, .inr (.inl (bag))))) → (f stp = some (.inl (cy 0, 18, .inl (stg)))) → (f pa = some (.inl (cy 6, 5, .inr (.inr (.inr (.inr (pg))))))) → (f p = some (.inr (2, [.ref c1, .ref c2, .int s, .int v]))) → (f c1 = some (.inl (cy 0, n1, .inl (g)))) → (f c2 = some (.inl (cy 0, n2, .inl (h)))) → (f q = some (.inr (2, [.ref d1, .ref d2, .int qs, .int qv]))) → (f d1 = some (.inl (cy 0, m1, .inl (gq)))) → (f d2 = some (.inl (cy 0, m2, .inl (hh)))) → (pF cy P Q f) → (0 ≤ st.toInt ∧ st.toInt ≤ 4) → (4 - st.toInt < (k : Int)) → gC l D cy b yX10_firstParting cX10_firstParting 7 (some .int) (258 + 1 * k) 0 0 [.ref wo, .ref p, .ref q, .int st, .int nu] f (pI fun r f2 => ∃ (po2 : Nat) (b2 : Nat → Int64), f2 wo = some (.inr (10, [.int sz, .ref we, .ref stp, .ref pa, .ref ba, .ref td, .ref po2, .int ah, .int gl])) ∧ f2 ba = some (.inl (cy 2, 5, .inr (.inl (b2)))) ∧ pF cy P Q f2 ∧ fr (wo :: ba :: scL P Q) f f2)

set_option maxHeartbeats 4000000 in
set_option maxRecDepth 100000 in
theorem l_X10_first {l : Launch} {D : va_G} {cy : Nat → ClassId} {b : Nat} {f : gMem} {wo we stp pa ba td p c1 c2 n1 n2 : Nat} {sz ah gl s v : Int32} {stg g h : Nat → Int32} {pg : Nat → Option Nat}  {P Q : Nat → Nat} {st : Int32} {q d1 d2 m1 m2 : Nat} {nu qs qv : Int32} {gq hh : Nat → Int32} {k0 : Nat} (hs : 0 ≤ s.toInt ∧ 13 * s.toInt ≤ n1 ∧ n1 ≤ 520) (hv : 0 ≤ v.toInt ∧ 2 * v.toInt ≤ n2 ∧ n2 ≤ 80) (hqs : 0 ≤ qs.toInt ∧ 13 * qs.toInt ≤ m1 ∧ m1 ≤ 520) (hqv : 0 ≤ qv.toInt ∧ 2 * qv.toInt ≤ m2 ∧ m2 ≤ 80) (hI : fI g s.toInt) (hIq : fI gq qs.toInt) (ha : ah.toInt ≤ 4) (hpg : ∀ ii : Nat, ii < 5 → pg ii = some (P ii)) (hPQ : ∀ ii jj : Nat, ii < 5 → jj < 5 → ii ≠ jj → P ii ≠ P jj ∧ Q ii ≠ Q jj) (hz : sz.toInt ≤ 3) (hD : ∀ xx : Nat, xx ∈ [wo, ba, stp, pa, p, c1, c2, q, d1, d2] → xx ∉ scL P Q) (hsr : 0 ≤ st.toInt ∧ st.toInt ≤ 3) (hw : 3 - st.toInt < (k0 : Int)) (IH : fPp l D cy b wo we stp pa ba td p c1 c2 n1 n2 q d1 d2 m1 m2 sz ah gl s v qs qv stg g h gq hh pg P Q k0) : ∀ (k : Nat) (i : Int32) (po : Nat) (bag : Nat → Int64) (fm : gMem), fr (wo :: ba :: scL P Q) f fm → (fm wo = some (.inr (10, [.int sz, .ref we, .ref stp, .ref pa, .ref ba, .ref td, .ref po, .int ah, .int gl]))) → (fm ba = some (.inl (cy 2, 5, .inr (.inl (bag))))) → (fm stp = some (.inl (cy 0, 18, .inl (stg)))) → (fm pa = some (.inl (cy 6, 5, .inr (.inr (.inr (.inr (pg))))))) → (fm p = some (.inr (2, [.ref c1, .ref c2, .int s, .int v]))) → (fm c1 = some (.inl (cy 0, n1, .inl (g)))) → (fm c2 = some (.inl (cy 0, n2, .inl (h)))) → (fm q = some (.inr (2, [.ref d1, .ref d2, .int qs, .int qv]))) → (fm d1 = some (.inl (cy 0, m1, .inl (gq)))) → (fm d2 = some (.inl (cy 0, m2, .inl (hh)))) → (pF cy P Q fm) → (0 ≤ i.toInt ∧ 0 < k ∧ (i.toInt < sz.toInt → sz.toInt - i.toInt < (k : Int))) → gG l (gRm (258 + 1 * (k0 + 1)) 0 0) (gQf D b (pI fun r f2 => ∃ (po2 : Nat) (b2 : Nat → Int64), f2 wo = some (.inr (10, [.int sz, .ref we, .ref stp, .ref pa, .ref ba, .ref td, .ref po2, .int ah, .int gl])) ∧ f2 ba = some (.inl (cy 2, 5, .inr (.inl (b2)))) ∧ pF cy P Q f2 ∧ fr (wo :: ba :: scL P Q) f f2) 0 0) gTt D cy b cX10_firstParting 7 (some .int) RX10 "firstParting" (0) (0) fm 28 [(5, .int i), (0, .ref wo), (1, .ref p), (2, .ref q), (3, .int st), (4, .int nu)] [] := by
  intro k
  induction k with
  | zero =>
    intro i po bag fm hfr hwo hba hst hpa hp h1 h2 hq0 hd1 hd2 hF hk
    exfalso; omega
  | succ k ih =>
    intro i po bag fm hfr hwo hba hst hpa hp h1 h2 hq0 hd1 hd2 hF hk
    refine gz_iload dX10_firstParting_28 rfl ?_
    refine gz_aload_n dX10_firstParting_30 rfl rfl ?_
    refine sgX10_9 hwo rfl dX10_firstParting_31 ?_
    refine gz_icmp_ge (tgt := 79) dX10_firstParting_34 (by decide) (fun c_34 => ?_) (fun c_34 => ?_)
    ·
      refine gz_bipush (v := (-2)) dX10_firstParting_79 (by decide) ?_
      exact gz_iret rfl dX10_firstParting_81 (Nat.zero_le _) (Nat.zero_le _) (⟨_, rfl, _, _, hwo, hba, hF, hfr⟩)
    ·
      refine gz_aload_n dX10_firstParting_37 rfl rfl ?_
      refine gz_iload_n dX10_firstParting_38 rfl rfl ?_
      refine gz_iload dX10_firstParting_39 rfl ?_
      have hs1 : (st + 1).toInt = st.toInt + 1 := by have e1 : (1 : Int32).toInt = 1 := rfl; exact T_add (rfl : st.toInt = st.toInt) e1 (by omega)
      have hsn : scI st ≠ scI (st + 1) := by rw [scI_eq hsr.1 (by omega), scI_eq (by omega) (by omega), hs1]; omega
      obtain ⟨dau1, tu1, hPu1, hQu1⟩ := hF (scI st) (scI_lt st)
      obtain ⟨dau2, tu2, hPu2, hQu2⟩ := hF (scI (st + 1)) (scI_lt (st + 1))
      have hz1 := hPQ _ _ (scI_lt st) (scI_lt (st + 1)) hsn
      refine scX10_126 (k_X10_go (st := st) (wy := i) hwo hst hpa hPu1 hQu1 hPu2 hQu2 ⟨hz1.2, hz1.1, (fun z => hD stp (by simp) (z ▸ (scL_in (scI_lt (st + 1))).2))⟩ (hpg _ (scI_lt st)) (hpg _ (scI_lt (st + 1)))) hwo ⟨(by simp only [gRm]; omega), (by simp only [gRm]; omega)⟩ ⟨(Nat.zero_le _), (Nat.zero_le _)⟩ rfl rfl (Nat.le_of_ble_eq_true rfl) dX10_firstParting_41 ?_
      rintro f1 ⟨dg1, tg1, hga, hgb, hgr1⟩
      have hF1 := pF_up (scI_lt (st + 1)) hPQ hF hga hgb hgr1
      have hr1 := fr_mo hgr1 (scL_sub (P := P) (Q := Q) (scI_lt (st + 1)))
      clear hs1 hsn hz1 hga hgb hgr1
      have hwo_1 : f1 wo = some (.inr (10, [.int sz, .ref we, .ref stp, .ref pa, .ref ba, .ref td, .ref po, .int ah, .int gl])) := hr1 _ _ hwo (hD _ (by simp))
      have hba_1 : f1 ba = some (.inl (cy 2, 5, .inr (.inl (bag)))) := hr1 _ _ hba (hD _ (by simp))
      have hst_1 : f1 stp = some (.inl (cy 0, 18, .inl (stg))) := hr1 _ _ hst (hD _ (by simp))
      have hpa_1 : f1 pa = some (.inl (cy 6, 5, .inr (.inr (.inr (.inr (pg)))))) := hr1 _ _ hpa (hD _ (by simp))
      have hp_1 : f1 p = some (.inr (2, [.ref c1, .ref c2, .int s, .int v])) := hr1 _ _ hp (hD _ (by simp))
      have h1_1 : f1 c1 = some (.inl (cy 0, n1, .inl (g))) := hr1 _ _ h1 (hD _ (by simp))
      have h2_1 : f1 c2 = some (.inl (cy 0, n2, .inl (h))) := hr1 _ _ h2 (hD _ (by simp))
      have hq0_1 : f1 q = some (.inr (2, [.ref d1, .ref d2, .int qs, .int qv])) := hr1 _ _ hq0 (hD _ (by simp))
      have hd1_1 : f1 d1 = some (.inl (cy 0, m1, .inl (gq))) := hr1 _ _ hd1 (hD _ (by simp))
      have hd2_1 : f1 d2 = some (.inl (cy 0, m2, .inl (hh))) := hr1 _ _ hd2 (hD _ (by simp))
      have hq1 := fr_mo hr1 (S' := wo :: ba :: scL P Q) (fun z hz3 => List.mem_cons_of_mem _ (List.mem_cons_of_mem _ hz3))
      refine gz_aload_n dX10_firstParting_44 rfl rfl ?_
      refine gz_aload_n dX10_firstParting_45 rfl rfl ?_
      refine gz_aload_n dX10_firstParting_46 rfl rfl ?_
      refine gz_iload_n dX10_firstParting_47 rfl rfl ?_
      refine gz_iconst (v := 1) dX10_firstParting_48 (by decide) ?_
      refine gz_iadd dX10_firstParting_49 ?_
      refine gz_iload dX10_firstParting_50 rfl ?_
      refine gz_bipush (v := 10) dX10_firstParting_52 (by decide) ?_
      refine gz_imul dX10_firstParting_54 ?_
      refine gz_iload dX10_firstParting_55 rfl ?_
      refine gz_iadd dX10_firstParting_57 ?_
      refine scX10_140 (IH (st + 1) ((nu * 10) + i) po bag _ hwo_1 hba_1 hst_1 hpa_1 hp_1 h1_1 h2_1 hq0_1 hd1_1 hd2_1 hF1 (by have e1 : (1 : Int32).toInt = 1 := rfl; have hx := T_add (rfl : st.toInt = st.toInt) e1 (by omega); rw [hx]; omega) (by have e1 : (1 : Int32).toInt = 1 := rfl; have hx := T_add (rfl : st.toInt = st.toInt) e1 (by omega); rw [hx]; omega)) hwo_1 ⟨(by simp only [gRm]; omega), (by simp only [gRm]; omega)⟩ ⟨(Nat.zero_le _), (Nat.zero_le _)⟩ rfl rfl (Nat.le_of_ble_eq_true rfl) dX10_firstParting_58 ?_
      rintro r2 f2 ⟨po_2, b_2, hwo_2, hba_2, hF2, hr2⟩
      have hst_2 : f2 stp = some (.inl (cy 0, 18, .inl (stg))) := hr2 _ _ hst_1 (by simp only [List.mem_cons, not_or]; exact ⟨cne hst_1 hwo_1 (by simp), cne hst_1 hba_1 (by simp), hD _ (by simp)⟩)
      have hpa_2 : f2 pa = some (.inl (cy 6, 5, .inr (.inr (.inr (.inr (pg)))))) := hr2 _ _ hpa_1 (by simp only [List.mem_cons, not_or]; exact ⟨cne hpa_1 hwo_1 (by simp), cne hpa_1 hba_1 (by simp), hD _ (by simp)⟩)
      have hp_2 : f2 p = some (.inr (2, [.ref c1, .ref c2, .int s, .int v])) := hr2 _ _ hp_1 (by simp only [List.mem_cons, not_or]; exact ⟨cne hp_1 hwo_1 (by simp), cne hp_1 hba_1 (by simp), hD _ (by simp)⟩)
      have h1_2 : f2 c1 = some (.inl (cy 0, n1, .inl (g))) := hr2 _ _ h1_1 (by simp only [List.mem_cons, not_or]; exact ⟨cne h1_1 hwo_1 (by simp), cne h1_1 hba_1 (by simp), hD _ (by simp)⟩)
      have h2_2 : f2 c2 = some (.inl (cy 0, n2, .inl (h))) := hr2 _ _ h2_1 (by simp only [List.mem_cons, not_or]; exact ⟨cne h2_1 hwo_1 (by simp), cne h2_1 hba_1 (by simp), hD _ (by simp)⟩)
      have hq0_2 : f2 q = some (.inr (2, [.ref d1, .ref d2, .int qs, .int qv])) := hr2 _ _ hq0_1 (by simp only [List.mem_cons, not_or]; exact ⟨cne hq0_1 hwo_1 (by simp), cne hq0_1 hba_1 (by simp), hD _ (by simp)⟩)
      have hd1_2 : f2 d1 = some (.inl (cy 0, m1, .inl (gq))) := hr2 _ _ hd1_1 (by simp only [List.mem_cons, not_or]; exact ⟨cne hd1_1 hwo_1 (by simp), cne hd1_1 hba_1 (by simp), hD _ (by simp)⟩)
      have hd2_2 : f2 d2 = some (.inl (cy 0, m2, .inl (hh))) := hr2 _ _ hd2_1 (by simp only [List.mem_cons, not_or]; exact ⟨cne hd2_1 hwo_1 (by simp), cne hd2_1 hba_1 (by simp), hD _ (by simp)⟩)
      refine gz_istore (lv' := [(6, .int r2), (5, .int i), (0, .ref wo), (1, .ref p), (2, .ref q), (3, .int st), (4, .int nu)]) dX10_firstParting_61 (by decide) rfl ?_
      refine gz_iload dX10_firstParting_63 rfl ?_
      refine gz_bipush (v := (-2)) dX10_firstParting_65 (by decide) ?_
      refine gz_icmp_eq (tgt := 73) dX10_firstParting_67 (by decide) (fun c_67 => ?_) (fun c_67 => ?_)
      ·
        refine gz_iinc (v := (i + 1)) (lv' := [(5, .int (i + 1)), (6, .int r2), (0, .ref wo), (1, .ref p), (2, .ref q), (3, .int st), (4, .int nu)]) dX10_firstParting_73 rfl rfl (by decide) rfl ?_
        refine gz_goto (tgt := 28) dX10_firstParting_76 (by decide) ?_
        refine gz_sub (lv' := [(5, .int (i + 1)), (0, .ref wo), (1, .ref p), (2, .ref q), (3, .int st), (4, .int nu)]) (by simp [List.lookup]) ?_
        exact ih (i + 1) po_2 b_2 _ (fr_tr (fr_tr hfr (fr_mo hq1 (by simp))) (fr_mo hr2 (by simp))) hwo_2 hba_2 hst_2 hpa_2 hp_2 h1_2 h2_2 hq0_2 hd1_2 hd2_2 (hF2) (by have e1 : (1 : Int32).toInt = 1 := rfl; simp only [fl_le] at c_34; have hx := T_add (rfl : i.toInt = i.toInt) e1 (by omega); omega)
      ·
        refine gz_iload dX10_firstParting_70 rfl ?_
        exact gz_iret rfl dX10_firstParting_72 (Nat.zero_le _) (Nat.zero_le _) (⟨_, rfl, _, _, hwo_2, hba_2, hF2, (fr_tr (fr_tr hfr (fr_mo hq1 (by simp))) (fr_mo hr2 (by simp)))⟩)

set_option maxHeartbeats 4000000 in
set_option maxRecDepth 100000 in
theorem k_X10_firstParting {l : Launch} {D : va_G} {cy : Nat → ClassId} {b : Nat} {wo we stp pa ba td p c1 c2 n1 n2 : Nat} {sz ah gl s v : Int32} {stg g h : Nat → Int32} {pg : Nat → Option Nat}  {P Q : Nat → Nat}  {q d1 d2 m1 m2 : Nat} {qs qv : Int32} {gq hh : Nat → Int32}  (hs : 0 ≤ s.toInt ∧ 13 * s.toInt ≤ n1 ∧ n1 ≤ 520) (hv : 0 ≤ v.toInt ∧ 2 * v.toInt ≤ n2 ∧ n2 ≤ 80) (hqs : 0 ≤ qs.toInt ∧ 13 * qs.toInt ≤ m1 ∧ m1 ≤ 520) (hqv : 0 ≤ qv.toInt ∧ 2 * qv.toInt ≤ m2 ∧ m2 ≤ 80) (hI : fI g s.toInt) (hIq : fI gq qs.toInt) (ha : ah.toInt ≤ 4) (hpg : ∀ ii : Nat, ii < 5 → pg ii = some (P ii)) (hPQ : ∀ ii jj : Nat, ii < 5 → jj < 5 → ii ≠ jj → P ii ≠ P jj ∧ Q ii ≠ Q jj) (hz : sz.toInt ≤ 3) (hD : ∀ xx : Nat, xx ∈ [wo, ba, stp, pa, p, c1, c2, q, d1, d2] → xx ∉ scL P Q) : ∀ (k : Nat) (st nu : Int32) (po : Nat) (bag : Nat → Int64) (f : gMem), (f wo = some (.inr (10, [.int sz, .ref we, .ref stp, .ref pa, .ref ba, .ref td, .ref po, .int ah, .int gl]))) → (f ba = some (.inl (cy 2, 5, .inr (.inl (bag))))) → (f stp = some (.inl (cy 0, 18, .inl (stg)))) → (f pa = some (.inl (cy 6, 5, .inr (.inr (.inr (.inr (pg))))))) → (f p = some (.inr (2, [.ref c1, .ref c2, .int s, .int v]))) → (f c1 = some (.inl (cy 0, n1, .inl (g)))) → (f c2 = some (.inl (cy 0, n2, .inl (h)))) → (f q = some (.inr (2, [.ref d1, .ref d2, .int qs, .int qv]))) → (f d1 = some (.inl (cy 0, m1, .inl (gq)))) → (f d2 = some (.inl (cy 0, m2, .inl (hh)))) → (pF cy P Q f) → (0 ≤ st.toInt ∧ st.toInt ≤ 4) → (4 - st.toInt < (k : Int)) → gC l D cy b yX10_firstParting cX10_firstParting 7 (some .int) (258 + 1 * k) 0 0 [.ref wo, .ref p, .ref q, .int st, .int nu] f (pI fun r f2 => ∃ (po2 : Nat) (b2 : Nat → Int64), f2 wo = some (.inr (10, [.int sz, .ref we, .ref stp, .ref pa, .ref ba, .ref td, .ref po2, .int ah, .int gl])) ∧ f2 ba = some (.inl (cy 2, 5, .inr (.inl (b2)))) ∧ pF cy P Q f2 ∧ fr (wo :: ba :: scL P Q) f f2) := by
  intro k
  induction k with
  | zero =>
    intro st nu po bag f hwo hba hst hpa hp h1 h2 hq0 hd1 hd2 hF hsr hk
    exfalso; omega
  | succ k ih =>
    intro st nu po bag f hwo hba hst hpa hp h1 h2 hq0 hd1 hd2 hF hsr hk
    refine gC_of (by decide) (Nat.le_of_ble_eq_true rfl) ?_
    show gG l _ _ _ D cy b cX10_firstParting 7 _ RX10 "firstParting" 0 0 f 0 [(0, .ref wo), (1, .ref p), (2, .ref q), (3, .int st), (4, .int nu)] []
    refine gz_iload_n dX10_firstParting_0 rfl rfl ?_
    refine gz_aload_n dX10_firstParting_1 rfl rfl ?_
    refine sgX10_56 hwo rfl dX10_firstParting_2 ?_
    refine gz_icmp_lt (tgt := 25) dX10_firstParting_5 (by decide) (fun c_5 => ?_) (fun c_5 => ?_)
    ·
      refine gz_iconst (v := 0) dX10_firstParting_25 (by decide) ?_
      refine gz_istore (lv' := [(5, .int 0), (0, .ref wo), (1, .ref p), (2, .ref q), (3, .int st), (4, .int nu)]) dX10_firstParting_26 (by decide) rfl ?_
      refine gz_sub (lv' := [(5, .int 0), (0, .ref wo), (1, .ref p), (2, .ref q), (3, .int st), (4, .int nu)]) (by simp [List.lookup]) ?_
      exact l_X10_first hs hv hqs hqv hI hIq ha hpg hPQ hz hD ⟨hsr.1, by simp only [fl_lt] at c_5; omega⟩ (by omega) ih 4 0 po bag _ fr_rf hwo hba hst hpa hp h1 h2 hq0 hd1 hd2 (hF) (⟨by decide, by decide, fun _ => by have e0 : (0 : Int32).toInt = 0 := rfl; omega⟩)
    ·
      refine gz_aload_n dX10_firstParting_8 rfl rfl ?_
      refine gz_aload_n dX10_firstParting_9 rfl rfl ?_
      refine gz_aload_n dX10_firstParting_10 rfl rfl ?_
      refine scX10_136 (k_X10_isParting hwo hba hpa hp h1 h2 hq0 hd1 hd2 hs hv hqs hqv hI hIq ha hpg (hD ba (by simp)) hF) hwo ⟨(by simp only [gRm]; omega), (by simp only [gRm]; omega)⟩ ⟨(Nat.le_of_ble_eq_true rfl), (Nat.le_of_ble_eq_true rfl)⟩ rfl rfl (Nat.le_of_ble_eq_true rfl) dX10_firstParting_11 ?_
      rintro r1 f1 ⟨hb1, hwo_1, ⟨b_1, hba_1⟩, hr1⟩
      have hF1 := pF_fr hF hr1 (by intro z hz2; simp only [List.mem_cons, List.not_mem_nil, or_false] at hz2; rcases hz2 with rfl | rfl; exact hD _ (by simp); exact hD _ (by simp))
      refine gz_if_eq (tgt := 22) dX10_firstParting_14 (by decide) (fun c_14 => ?_) (fun c_14 => ?_)
      ·
        refine gz_bipush (v := (-2)) dX10_firstParting_22 (by decide) ?_
        exact gz_iret rfl dX10_firstParting_24 (Nat.le_of_ble_eq_true rfl) (Nat.le_of_ble_eq_true rfl) (⟨_, rfl, _, _, hwo_1, hba_1, hF1, (fr_tr fr_rf (fr_mo hr1 (by simp)))⟩)
      ·
        refine gz_iload dX10_firstParting_17 rfl ?_
        refine gz_goto (tgt := 24) dX10_firstParting_19 (by decide) ?_
        exact gz_iret rfl dX10_firstParting_24 (Nat.le_of_ble_eq_true rfl) (Nat.le_of_ble_eq_true rfl) (⟨_, rfl, _, _, hwo_1, hba_1, hF1, (fr_tr fr_rf (fr_mo hr1 (by simp)))⟩)
