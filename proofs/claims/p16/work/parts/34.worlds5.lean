theorem pF_fr {cy : Nat → ClassId} {P Q : Nat → Nat} {f f2 : gMem} {S : List Nat} (hF : pF cy P Q f) (hr : fr S f f2) (hS : ∀ x, x ∈ S → x ∉ scL P Q) : pF cy P Q f2 := by
  intro i hi
  obtain ⟨da, t, g1, g2⟩ := hF i hi
  exact ⟨da, t, hr _ _ g1 (fun q => hS _ q (scL_in hi).1), hr _ _ g2 (fun q => hS _ q (scL_in hi).2)⟩
theorem pF_wo {cy : Nat → ClassId} {P Q : Nat → Nat} {f : gMem} {wo : Nat} {fs gs : List Value} (hF : pF cy P Q f) (hwo : f wo = some (.inr (10, fs))) : pF cy P Q (va_up f wo (some (.inr (10, gs)))) := by
  intro i hi
  obtain ⟨da, t, g1, g2⟩ := hF i hi
  exact ⟨da, t, by rw [va_up_ne _ _ (cne g1 hwo (by simp))]; exact g1, by rw [va_up_ne _ _ (cne g2 hwo (by simp))]; exact g2⟩
theorem min4 {x : Int32} : (if 4 < x then 4 else x).toInt ≤ 4 := by
  by_cases h : 4 < x
  · rw [if_pos h]; decide
  · rw [if_neg h]; rw [fl_lt] at h; have e0 : (4 : Int32).toInt = 4 := rfl; omega
theorem nxt_ok2 {n1 : Nat} {g : Nat → Int32} {s da w : Int32} (hs : 0 ≤ s.toInt ∧ 13 * s.toInt ≤ n1 ∧ n1 ≤ 520) (hI : fI g s.toInt) : (nxtF n1 g s da w).toInt = -1 ∨ (0 ≤ w.toInt ∧ w.toInt < s.toInt ∧ w.toInt < (nxtF n1 g s da w).toInt ∧ (nxtF n1 g s da w).toInt < s.toInt) := by
  have h3 := fI_first (w := w) hs hI
  have h4 := fI_second (w := w) hs hI
  unfold nxtF
  (repeat' split) <;> omega

set_option maxHeartbeats 4000000 in
set_option maxRecDepth 100000 in
theorem k_X10_run {l : Launch} {D : va_G} {cy : Nat → ClassId} {b : Nat} {wo we stp pa ba td p c1 c2 n1 n2 : Nat} {sz ah gl s v : Int32} {g h : Nat → Int32} {pg : Nat → Option Nat}  {P Q : Nat → Nat}  {sn : Int32}  (hs : 0 ≤ s.toInt ∧ 13 * s.toInt ≤ n1 ∧ n1 ≤ 520) (hv : 0 ≤ v.toInt ∧ 2 * v.toInt ≤ n2 ∧ n2 ≤ 80) (hI : fI g s.toInt) (ha : ah.toInt ≤ 4) (hpg : ∀ ii : Nat, ii < 5 → pg ii = some (P ii)) (hDb : ba ∉ scL P Q) : ∀ (k : Nat) (wd fa st : Int32) (bag : Nat → Int64) (f : gMem), (f wo = some (.inr (10, [.int sz, .ref we, .ref stp, .ref pa, .ref ba, .ref td, .ref p, .int ah, .int gl]))) → (f ba = some (.inl (cy 2, 5, .inr (.inl (bag))))) → (f pa = some (.inl (cy 6, 5, .inr (.inr (.inr (.inr (pg))))))) → (f p = some (.inr (2, [.ref c1, .ref c2, .int s, .int v]))) → (f c1 = some (.inl (cy 0, n1, .inl (g)))) → (f c2 = some (.inl (cy 0, n2, .inl (h)))) → (pF cy P Q f) → (0 ≤ st.toInt ∧ st.toInt ≤ 4) → (0 < k ∧ (0 ≤ wd.toInt → 1 < k ∧ 41 * (4 - st.toInt) + (s.toInt - wd.toInt) + 1 < (k : Int))) → gC l D cy b yX10_run cX10_run 8 none (4 + 1 * k) 0 0 [.ref wo, .int wd, .int fa, .int st, .int sn] f (pV fun f2 => ∃ b2 : Nat → Int64, f2 ba = some (.inl (cy 2, 5, .inr (.inl (b2)))) ∧ fr [ba] f f2) := by
  intro k
  induction k with
  | zero =>
    intro wd fa st bag f hwo hba hpa hp h1 h2 hF hsr hk
    exfalso; omega
  | succ k ih =>
    intro wd fa st bag f hwo hba hpa hp h1 h2 hF hsr hk
    refine gC_of (by decide) (Nat.le_of_ble_eq_true rfl) ?_
    show gG l _ _ _ D cy b cX10_run 8 _ RX10 "run" 0 0 f 0 [(0, .ref wo), (1, .int wd), (2, .int fa), (3, .int st), (4, .int sn)] []
    refine gz_aload_n dX10_run_0 rfl rfl ?_
    refine gz_iload_n dX10_run_1 rfl rfl ?_
    refine scX10_66 (k_X10_sceneAt (st := st) hwo hpa) hwo ⟨(by simp only [gRm]; omega), (by simp only [gRm]; omega)⟩ ⟨(Nat.le_of_ble_eq_true rfl), (Nat.le_of_ble_eq_true rfl)⟩ rfl rfl (Nat.le_of_ble_eq_true rfl) dX10_run_2 ?_
    rintro u9 f9 ⟨z9, y9⟩; rw [z9, y9]
    refine gz_ev (w := .ref (P (scI st))) (by rw [hpg _ (scI_lt st)]; rfl) ?_
    obtain ⟨dau1, tu1, hPu1, hQu1⟩ := hF (scI st) (scI_lt st)
    refine gz_astore (lv' := [(5, .ref (P (scI st))), (0, .ref wo), (1, .int wd), (2, .int fa), (3, .int st), (4, .int sn)]) dX10_run_5 (by decide) rfl ?_
    refine gz_iload_n dX10_run_7 rfl rfl ?_
    refine gz_if_lt (tgt := 24) dX10_run_8 (by decide) (fun c_8 => ?_) (fun c_8 => ?_)
    ·
      exact gz_vret rfl dX10_run_24 (Nat.le_of_ble_eq_true rfl) (Nat.le_of_ble_eq_true rfl) (⟨rfl, _, hba, fr_rf⟩)
    ·
      refine gz_aload_n dX10_run_11 rfl rfl ?_
      refine sgX10_37 hwo rfl dX10_run_12 ?_
      refine gz_iload_n dX10_run_15 rfl rfl ?_
      refine gz_aload dX10_run_16 rfl ?_
      refine scX10_87 (k_X2_lapsed (w := wd) hp h1 h2 hPu1 hQu1 hs hv) hp ⟨(by simp only [gRm]; omega), (by simp only [gRm]; omega)⟩ ⟨(Nat.le_of_ble_eq_true rfl), (Nat.le_of_ble_eq_true rfl)⟩ rfl rfl (Nat.le_of_ble_eq_true rfl) dX10_run_18 ?_
      intro v9 f9 z9; rw [z9.1, z9.2]
      refine gz_if_eq (tgt := 25) dX10_run_21 (by decide) (fun c_21 => ?_) (fun c_21 => ?_)
      ·
        refine gz_aload_n dX10_run_25 rfl rfl ?_
        refine sgX10_37 hwo rfl dX10_run_26 ?_
        refine gz_iload_n dX10_run_29 rfl rfl ?_
        refine gz_iconst (v := 0) dX10_run_30 (by decide) ?_
        refine scX10_91 (k_X2_field (w := wd) (k := 0) hp h1 hs) hp ⟨(by simp only [gRm]; omega), (by simp only [gRm]; omega)⟩ ⟨(Nat.le_of_ble_eq_true rfl), (Nat.le_of_ble_eq_true rfl)⟩ rfl rfl (Nat.le_of_ble_eq_true rfl) dX10_run_31 ?_
        intro v9 f9 z9; rw [z9.1, z9.2]
        refine gz_istore (lv' := [(6, .int (fldF n1 g s wd 0)), (5, .ref (P (scI st))), (0, .ref wo), (1, .int wd), (2, .int fa), (3, .int st), (4, .int sn)]) dX10_run_34 (by decide) rfl ?_
        refine gz_iload dX10_run_36 rfl ?_
        refine gz_iconst (v := 1) dX10_run_38 (by decide) ?_
        refine gz_icmp_ne (tgt := 73) dX10_run_39 (by decide) (fun c_39 => ?_) (fun c_39 => ?_)
        ·
          refine gz_iload dX10_run_73 rfl ?_
          refine gz_bipush (v := 6) dX10_run_75 (by decide) ?_
          refine gz_icmp_ne (tgt := 113) dX10_run_77 (by decide) (fun c_77 => ?_) (fun c_77 => ?_)
          ·
            refine gz_aload_n dX10_run_113 rfl rfl ?_
            refine sgX10_37 hwo rfl dX10_run_114 ?_
            refine gz_iload_n dX10_run_117 rfl rfl ?_
            refine gz_iload_n dX10_run_118 rfl rfl ?_
            refine gz_aload dX10_run_119 rfl ?_
            refine scX10_117 (k_X2_passed (w := wd) (x := fa) hp h1 h2 hPu1 hQu1 hs hv) hp ⟨(by simp only [gRm]; omega), (by simp only [gRm]; omega)⟩ ⟨(Nat.le_of_ble_eq_true rfl), (Nat.le_of_ble_eq_true rfl)⟩ rfl rfl (Nat.le_of_ble_eq_true rfl) dX10_run_121 ?_
            intro v9 f9 z9; rw [z9.1, z9.2]
            refine gz_istore (lv' := [(7, .int (pasF n1 n2 g h s v tu1 dau1 wd fa)), (6, .int (fldF n1 g s wd 0)), (5, .ref (P (scI st))), (0, .ref wo), (1, .int wd), (2, .int fa), (3, .int st), (4, .int sn)]) dX10_run_124 (by decide) rfl ?_
            refine gz_aload_n dX10_run_126 rfl rfl ?_
            refine gz_aload_n dX10_run_127 rfl rfl ?_
            refine sgX10_37 hwo rfl dX10_run_128 ?_
            refine gz_iload_n dX10_run_131 rfl rfl ?_
            refine gz_aload dX10_run_132 rfl ?_
            refine scX10_113 (k_X2_nextDeed (w := wd) hp h1 hPu1 hs) hp ⟨(by simp only [gRm]; omega), (by simp only [gRm]; omega)⟩ ⟨(Nat.le_of_ble_eq_true rfl), (Nat.le_of_ble_eq_true rfl)⟩ rfl rfl (Nat.le_of_ble_eq_true rfl) dX10_run_134 ?_
            intro v9 f9 z9; rw [z9.1, z9.2]
            refine gz_iload dX10_run_137 rfl ?_
            refine gz_iload_n dX10_run_139 rfl rfl ?_
            refine gz_iload dX10_run_140 rfl ?_
            refine scX10_144 (ih (nxtF n1 g s dau1 wd) (pasF n1 n2 g h s v tu1 dau1 wd fa) st bag _ hwo hba hpa hp h1 h2 hF hsr (by have e0 : (0 : Int32).toInt = 0 := rfl; have hc8 := c_8; simp only [fl_lt] at hc8; have z := nxt_ok2 (da := dau1) (w := wd) hs hI; omega)) hwo ⟨(by simp only [gRm]; omega), (by simp only [gRm]; omega)⟩ ⟨(Nat.le_of_ble_eq_true rfl), (Nat.le_of_ble_eq_true rfl)⟩ rfl rfl (Nat.le_of_ble_eq_true rfl) dX10_run_142 ?_
            rintro f1 ⟨b_1, hba_1, hr1⟩
            have hwo_1 : f1 wo = some (.inr (10, [.int sz, .ref we, .ref stp, .ref pa, .ref ba, .ref td, .ref p, .int ah, .int gl])) := hr1 _ _ hwo (by simp only [List.mem_cons, List.not_mem_nil, or_false, not_or]; exact cne hwo hba (by simp))
            have hpa_1 : f1 pa = some (.inl (cy 6, 5, .inr (.inr (.inr (.inr (pg)))))) := hr1 _ _ hpa (by simp only [List.mem_cons, List.not_mem_nil, or_false, not_or]; exact cne hpa hba (by simp))
            have hp_1 : f1 p = some (.inr (2, [.ref c1, .ref c2, .int s, .int v])) := hr1 _ _ hp (by simp only [List.mem_cons, List.not_mem_nil, or_false, not_or]; exact cne hp hba (by simp))
            have h1_1 : f1 c1 = some (.inl (cy 0, n1, .inl (g))) := hr1 _ _ h1 (by simp only [List.mem_cons, List.not_mem_nil, or_false, not_or]; exact cne h1 hba (by simp))
            have h2_1 : f1 c2 = some (.inl (cy 0, n2, .inl (h))) := hr1 _ _ h2 (by simp only [List.mem_cons, List.not_mem_nil, or_false, not_or]; exact cne h2 hba (by simp))
            have hPu1_1 : f1 (P (scI st)) = some (.inr (7, [.ref (Q (scI st)), .int dau1])) := hr1 _ _ hPu1 (by simp only [List.mem_cons, List.not_mem_nil, or_false, not_or]; exact cne hPu1 hba (by simp))
            have hQu1_1 : f1 (Q (scI st)) = some (.inl (cy 0, 6, .inl (tu1))) := hr1 _ _ hQu1 (by simp only [List.mem_cons, List.not_mem_nil, or_false, not_or]; exact cne hQu1 hba (by simp))
            have hF1 := pF_fr hF hr1 (by intro z hz2; simp only [List.mem_cons, List.not_mem_nil, or_false] at hz2; rw [hz2]; exact hDb)
            refine gz_iload dX10_run_145 rfl ?_
            refine gz_iconst (v := 3) dX10_run_147 (by decide) ?_
            refine gz_icmp_ne (tgt := 169) dX10_run_148 (by decide) (fun c_148 => ?_) (fun c_148 => ?_)
            ·
              exact gz_vret rfl dX10_run_169 (Nat.le_of_ble_eq_true rfl) (Nat.le_of_ble_eq_true rfl) (⟨rfl, _, hba_1, (fr_tr fr_rf (fr_mo hr1 (by simp)))⟩)
            ·
              refine gz_aload_n dX10_run_151 rfl rfl ?_
              refine gz_aload_n dX10_run_152 rfl rfl ?_
              refine sgX10_37 hwo_1 rfl dX10_run_153 ?_
              refine gz_iload_n dX10_run_156 rfl rfl ?_
              refine gz_iconst (v := 4) dX10_run_157 (by decide) ?_
              refine scX10_91 (k_X2_field (w := wd) (k := 4) hp_1 h1_1 hs) hp_1 ⟨(by simp only [gRm]; omega), (by simp only [gRm]; omega)⟩ ⟨(Nat.le_of_ble_eq_true rfl), (Nat.le_of_ble_eq_true rfl)⟩ rfl rfl (Nat.le_of_ble_eq_true rfl) dX10_run_158 ?_
              intro v9 f9 z9; rw [z9.1, z9.2]
              refine gz_iload dX10_run_161 rfl ?_
              refine gz_iload_n dX10_run_163 rfl rfl ?_
              refine gz_iload dX10_run_164 rfl ?_
              refine scX10_144 (ih (fldF n1 g s wd 4) (pasF n1 n2 g h s v tu1 dau1 wd fa) st b_1 _ hwo_1 hba_1 hpa_1 hp_1 h1_1 h2_1 hF1 hsr (by have e0 : (0 : Int32).toInt = 0 := rfl; have hc8 := c_8; simp only [fl_lt] at hc8; have z4 := fI_second (w := wd) hs hI; omega)) hwo_1 ⟨(by simp only [gRm]; omega), (by simp only [gRm]; omega)⟩ ⟨(Nat.le_of_ble_eq_true rfl), (Nat.le_of_ble_eq_true rfl)⟩ rfl rfl (Nat.le_of_ble_eq_true rfl) dX10_run_166 ?_
              rintro f2 ⟨b_2, hba_2, hr2⟩
              have hwo_2 : f2 wo = some (.inr (10, [.int sz, .ref we, .ref stp, .ref pa, .ref ba, .ref td, .ref p, .int ah, .int gl])) := hr2 _ _ hwo_1 (by simp only [List.mem_cons, List.not_mem_nil, or_false, not_or]; exact cne hwo_1 hba_1 (by simp))
              have hpa_2 : f2 pa = some (.inl (cy 6, 5, .inr (.inr (.inr (.inr (pg)))))) := hr2 _ _ hpa_1 (by simp only [List.mem_cons, List.not_mem_nil, or_false, not_or]; exact cne hpa_1 hba_1 (by simp))
              have hp_2 : f2 p = some (.inr (2, [.ref c1, .ref c2, .int s, .int v])) := hr2 _ _ hp_1 (by simp only [List.mem_cons, List.not_mem_nil, or_false, not_or]; exact cne hp_1 hba_1 (by simp))
              have h1_2 : f2 c1 = some (.inl (cy 0, n1, .inl (g))) := hr2 _ _ h1_1 (by simp only [List.mem_cons, List.not_mem_nil, or_false, not_or]; exact cne h1_1 hba_1 (by simp))
              have h2_2 : f2 c2 = some (.inl (cy 0, n2, .inl (h))) := hr2 _ _ h2_1 (by simp only [List.mem_cons, List.not_mem_nil, or_false, not_or]; exact cne h2_1 hba_1 (by simp))
              have hPu1_2 : f2 (P (scI st)) = some (.inr (7, [.ref (Q (scI st)), .int dau1])) := hr2 _ _ hPu1_1 (by simp only [List.mem_cons, List.not_mem_nil, or_false, not_or]; exact cne hPu1_1 hba_1 (by simp))
              have hQu1_2 : f2 (Q (scI st)) = some (.inl (cy 0, 6, .inl (tu1))) := hr2 _ _ hQu1_1 (by simp only [List.mem_cons, List.not_mem_nil, or_false, not_or]; exact cne hQu1_1 hba_1 (by simp))
              have hF2 := pF_fr hF1 hr2 (by intro z hz2; simp only [List.mem_cons, List.not_mem_nil, or_false] at hz2; rw [hz2]; exact hDb)
              exact gz_vret rfl dX10_run_169 (Nat.le_of_ble_eq_true rfl) (Nat.le_of_ble_eq_true rfl) (⟨rfl, _, hba_2, (fr_tr (fr_tr fr_rf (fr_mo hr1 (by simp))) (fr_mo hr2 (by simp)))⟩)
          ·
            refine gz_aload_n dX10_run_80 rfl rfl ?_
            refine sgX10_37 hwo rfl dX10_run_81 ?_
            refine gz_iload_n dX10_run_84 rfl rfl ?_
            refine gz_aload dX10_run_85 rfl ?_
            refine scX10_104 (k_X2_holds (w := wd) hp h1 h2 hPu1 hQu1 hs hv) hp ⟨(by simp only [gRm]; omega), (by simp only [gRm]; omega)⟩ ⟨(Nat.le_of_ble_eq_true rfl), (Nat.le_of_ble_eq_true rfl)⟩ rfl rfl (Nat.le_of_ble_eq_true rfl) dX10_run_87 ?_
            intro v9 f9 z9; rw [z9.1, z9.2]
            refine gz_if_ne (tgt := 113) dX10_run_90 (by decide) (fun c_90 => ?_) (fun c_90 => ?_)
            ·
              refine gz_aload_n dX10_run_113 rfl rfl ?_
              refine sgX10_37 hwo rfl dX10_run_114 ?_
              refine gz_iload_n dX10_run_117 rfl rfl ?_
              refine gz_iload_n dX10_run_118 rfl rfl ?_
              refine gz_aload dX10_run_119 rfl ?_
              refine scX10_117 (k_X2_passed (w := wd) (x := fa) hp h1 h2 hPu1 hQu1 hs hv) hp ⟨(by simp only [gRm]; omega), (by simp only [gRm]; omega)⟩ ⟨(Nat.le_of_ble_eq_true rfl), (Nat.le_of_ble_eq_true rfl)⟩ rfl rfl (Nat.le_of_ble_eq_true rfl) dX10_run_121 ?_
              intro v9 f9 z9; rw [z9.1, z9.2]
              refine gz_istore (lv' := [(7, .int (pasF n1 n2 g h s v tu1 dau1 wd fa)), (6, .int (fldF n1 g s wd 0)), (5, .ref (P (scI st))), (0, .ref wo), (1, .int wd), (2, .int fa), (3, .int st), (4, .int sn)]) dX10_run_124 (by decide) rfl ?_
              refine gz_aload_n dX10_run_126 rfl rfl ?_
              refine gz_aload_n dX10_run_127 rfl rfl ?_
              refine sgX10_37 hwo rfl dX10_run_128 ?_
              refine gz_iload_n dX10_run_131 rfl rfl ?_
              refine gz_aload dX10_run_132 rfl ?_
              refine scX10_113 (k_X2_nextDeed (w := wd) hp h1 hPu1 hs) hp ⟨(by simp only [gRm]; omega), (by simp only [gRm]; omega)⟩ ⟨(Nat.le_of_ble_eq_true rfl), (Nat.le_of_ble_eq_true rfl)⟩ rfl rfl (Nat.le_of_ble_eq_true rfl) dX10_run_134 ?_
              intro v9 f9 z9; rw [z9.1, z9.2]
              refine gz_iload dX10_run_137 rfl ?_
              refine gz_iload_n dX10_run_139 rfl rfl ?_
              refine gz_iload dX10_run_140 rfl ?_
              refine scX10_144 (ih (nxtF n1 g s dau1 wd) (pasF n1 n2 g h s v tu1 dau1 wd fa) st bag _ hwo hba hpa hp h1 h2 hF hsr (by have e0 : (0 : Int32).toInt = 0 := rfl; have hc8 := c_8; simp only [fl_lt] at hc8; have z := nxt_ok2 (da := dau1) (w := wd) hs hI; omega)) hwo ⟨(by simp only [gRm]; omega), (by simp only [gRm]; omega)⟩ ⟨(Nat.le_of_ble_eq_true rfl), (Nat.le_of_ble_eq_true rfl)⟩ rfl rfl (Nat.le_of_ble_eq_true rfl) dX10_run_142 ?_
              rintro f3 ⟨b_3, hba_3, hr3⟩
              have hwo_3 : f3 wo = some (.inr (10, [.int sz, .ref we, .ref stp, .ref pa, .ref ba, .ref td, .ref p, .int ah, .int gl])) := hr3 _ _ hwo (by simp only [List.mem_cons, List.not_mem_nil, or_false, not_or]; exact cne hwo hba (by simp))
              have hpa_3 : f3 pa = some (.inl (cy 6, 5, .inr (.inr (.inr (.inr (pg)))))) := hr3 _ _ hpa (by simp only [List.mem_cons, List.not_mem_nil, or_false, not_or]; exact cne hpa hba (by simp))
              have hp_3 : f3 p = some (.inr (2, [.ref c1, .ref c2, .int s, .int v])) := hr3 _ _ hp (by simp only [List.mem_cons, List.not_mem_nil, or_false, not_or]; exact cne hp hba (by simp))
              have h1_3 : f3 c1 = some (.inl (cy 0, n1, .inl (g))) := hr3 _ _ h1 (by simp only [List.mem_cons, List.not_mem_nil, or_false, not_or]; exact cne h1 hba (by simp))
              have h2_3 : f3 c2 = some (.inl (cy 0, n2, .inl (h))) := hr3 _ _ h2 (by simp only [List.mem_cons, List.not_mem_nil, or_false, not_or]; exact cne h2 hba (by simp))
              have hPu1_3 : f3 (P (scI st)) = some (.inr (7, [.ref (Q (scI st)), .int dau1])) := hr3 _ _ hPu1 (by simp only [List.mem_cons, List.not_mem_nil, or_false, not_or]; exact cne hPu1 hba (by simp))
              have hQu1_3 : f3 (Q (scI st)) = some (.inl (cy 0, 6, .inl (tu1))) := hr3 _ _ hQu1 (by simp only [List.mem_cons, List.not_mem_nil, or_false, not_or]; exact cne hQu1 hba (by simp))
              have hF3 := pF_fr hF hr3 (by intro z hz2; simp only [List.mem_cons, List.not_mem_nil, or_false] at hz2; rw [hz2]; exact hDb)
              refine gz_iload dX10_run_145 rfl ?_
              refine gz_iconst (v := 3) dX10_run_147 (by decide) ?_
              refine gz_icmp_ne (tgt := 169) dX10_run_148 (by decide) (fun c_148 => ?_) (fun c_148 => ?_)
              ·
                exact gz_vret rfl dX10_run_169 (Nat.le_of_ble_eq_true rfl) (Nat.le_of_ble_eq_true rfl) (⟨rfl, _, hba_3, (fr_tr fr_rf (fr_mo hr3 (by simp)))⟩)
              ·
                refine gz_aload_n dX10_run_151 rfl rfl ?_
                refine gz_aload_n dX10_run_152 rfl rfl ?_
                refine sgX10_37 hwo_3 rfl dX10_run_153 ?_
                refine gz_iload_n dX10_run_156 rfl rfl ?_
                refine gz_iconst (v := 4) dX10_run_157 (by decide) ?_
                refine scX10_91 (k_X2_field (w := wd) (k := 4) hp_3 h1_3 hs) hp_3 ⟨(by simp only [gRm]; omega), (by simp only [gRm]; omega)⟩ ⟨(Nat.le_of_ble_eq_true rfl), (Nat.le_of_ble_eq_true rfl)⟩ rfl rfl (Nat.le_of_ble_eq_true rfl) dX10_run_158 ?_
                intro v9 f9 z9; rw [z9.1, z9.2]
                refine gz_iload dX10_run_161 rfl ?_
                refine gz_iload_n dX10_run_163 rfl rfl ?_
                refine gz_iload dX10_run_164 rfl ?_
                refine scX10_144 (ih (fldF n1 g s wd 4) (pasF n1 n2 g h s v tu1 dau1 wd fa) st b_3 _ hwo_3 hba_3 hpa_3 hp_3 h1_3 h2_3 hF3 hsr (by have e0 : (0 : Int32).toInt = 0 := rfl; have hc8 := c_8; simp only [fl_lt] at hc8; have z4 := fI_second (w := wd) hs hI; omega)) hwo_3 ⟨(by simp only [gRm]; omega), (by simp only [gRm]; omega)⟩ ⟨(Nat.le_of_ble_eq_true rfl), (Nat.le_of_ble_eq_true rfl)⟩ rfl rfl (Nat.le_of_ble_eq_true rfl) dX10_run_166 ?_
                rintro f4 ⟨b_4, hba_4, hr4⟩
                have hwo_4 : f4 wo = some (.inr (10, [.int sz, .ref we, .ref stp, .ref pa, .ref ba, .ref td, .ref p, .int ah, .int gl])) := hr4 _ _ hwo_3 (by simp only [List.mem_cons, List.not_mem_nil, or_false, not_or]; exact cne hwo_3 hba_3 (by simp))
                have hpa_4 : f4 pa = some (.inl (cy 6, 5, .inr (.inr (.inr (.inr (pg)))))) := hr4 _ _ hpa_3 (by simp only [List.mem_cons, List.not_mem_nil, or_false, not_or]; exact cne hpa_3 hba_3 (by simp))
                have hp_4 : f4 p = some (.inr (2, [.ref c1, .ref c2, .int s, .int v])) := hr4 _ _ hp_3 (by simp only [List.mem_cons, List.not_mem_nil, or_false, not_or]; exact cne hp_3 hba_3 (by simp))
                have h1_4 : f4 c1 = some (.inl (cy 0, n1, .inl (g))) := hr4 _ _ h1_3 (by simp only [List.mem_cons, List.not_mem_nil, or_false, not_or]; exact cne h1_3 hba_3 (by simp))
                have h2_4 : f4 c2 = some (.inl (cy 0, n2, .inl (h))) := hr4 _ _ h2_3 (by simp only [List.mem_cons, List.not_mem_nil, or_false, not_or]; exact cne h2_3 hba_3 (by simp))
                have hPu1_4 : f4 (P (scI st)) = some (.inr (7, [.ref (Q (scI st)), .int dau1])) := hr4 _ _ hPu1_3 (by simp only [List.mem_cons, List.not_mem_nil, or_false, not_or]; exact cne hPu1_3 hba_3 (by simp))
                have hQu1_4 : f4 (Q (scI st)) = some (.inl (cy 0, 6, .inl (tu1))) := hr4 _ _ hQu1_3 (by simp only [List.mem_cons, List.not_mem_nil, or_false, not_or]; exact cne hQu1_3 hba_3 (by simp))
                have hF4 := pF_fr hF3 hr4 (by intro z hz2; simp only [List.mem_cons, List.not_mem_nil, or_false] at hz2; rw [hz2]; exact hDb)
                exact gz_vret rfl dX10_run_169 (Nat.le_of_ble_eq_true rfl) (Nat.le_of_ble_eq_true rfl) (⟨rfl, _, hba_4, (fr_tr (fr_tr fr_rf (fr_mo hr3 (by simp))) (fr_mo hr4 (by simp)))⟩)
            ·
              refine gz_iload_n dX10_run_93 rfl rfl ?_
              refine gz_aload_n dX10_run_94 rfl rfl ?_
              refine sgX10_56 hwo rfl dX10_run_95 ?_
              refine gz_icmp_ge (tgt := 112) dX10_run_98 (by decide) (fun c_98 => ?_) (fun c_98 => ?_)
              ·
                exact gz_vret rfl dX10_run_112 (Nat.le_of_ble_eq_true rfl) (Nat.le_of_ble_eq_true rfl) (⟨rfl, _, hba, fr_rf⟩)
              ·
                refine gz_aload_n dX10_run_101 rfl rfl ?_
                refine gz_iload_n dX10_run_102 rfl rfl ?_
                refine gz_iload_n dX10_run_103 rfl rfl ?_
                refine gz_iload_n dX10_run_104 rfl rfl ?_
                refine gz_iconst (v := 1) dX10_run_105 (by decide) ?_
                refine gz_iadd dX10_run_106 ?_
                refine gz_iload dX10_run_107 rfl ?_
                refine scX10_144 (ih wd fa (st + 1) bag _ hwo hba hpa hp h1 h2 hF (by have e1 : (1 : Int32).toInt = 1 := rfl; have hx := T_add (rfl : st.toInt = st.toInt) e1 (by omega); simp only [fl_le] at c_98; rw [hx]; omega) (by have e0 : (0 : Int32).toInt = 0 := rfl; have hc8 := c_8; simp only [fl_lt] at hc8; have e1 : (1 : Int32).toInt = 1 := rfl; have hx := T_add (rfl : st.toInt = st.toInt) e1 (by omega); simp only [fl_le] at c_98; have hw := fld_kind (n1 := n1) (g := g) (s := s) (w := wd) (k := 0) (by rw [c_77]; decide); rw [hx]; omega)) hwo ⟨(by simp only [gRm]; omega), (by simp only [gRm]; omega)⟩ ⟨(Nat.le_of_ble_eq_true rfl), (Nat.le_of_ble_eq_true rfl)⟩ rfl rfl (Nat.le_of_ble_eq_true rfl) dX10_run_109 ?_
                rintro f5 ⟨b_5, hba_5, hr5⟩
                have hwo_5 : f5 wo = some (.inr (10, [.int sz, .ref we, .ref stp, .ref pa, .ref ba, .ref td, .ref p, .int ah, .int gl])) := hr5 _ _ hwo (by simp only [List.mem_cons, List.not_mem_nil, or_false, not_or]; exact cne hwo hba (by simp))
                have hpa_5 : f5 pa = some (.inl (cy 6, 5, .inr (.inr (.inr (.inr (pg)))))) := hr5 _ _ hpa (by simp only [List.mem_cons, List.not_mem_nil, or_false, not_or]; exact cne hpa hba (by simp))
                have hp_5 : f5 p = some (.inr (2, [.ref c1, .ref c2, .int s, .int v])) := hr5 _ _ hp (by simp only [List.mem_cons, List.not_mem_nil, or_false, not_or]; exact cne hp hba (by simp))
                have h1_5 : f5 c1 = some (.inl (cy 0, n1, .inl (g))) := hr5 _ _ h1 (by simp only [List.mem_cons, List.not_mem_nil, or_false, not_or]; exact cne h1 hba (by simp))
                have h2_5 : f5 c2 = some (.inl (cy 0, n2, .inl (h))) := hr5 _ _ h2 (by simp only [List.mem_cons, List.not_mem_nil, or_false, not_or]; exact cne h2 hba (by simp))
                have hPu1_5 : f5 (P (scI st)) = some (.inr (7, [.ref (Q (scI st)), .int dau1])) := hr5 _ _ hPu1 (by simp only [List.mem_cons, List.not_mem_nil, or_false, not_or]; exact cne hPu1 hba (by simp))
                have hQu1_5 : f5 (Q (scI st)) = some (.inl (cy 0, 6, .inl (tu1))) := hr5 _ _ hQu1 (by simp only [List.mem_cons, List.not_mem_nil, or_false, not_or]; exact cne hQu1 hba (by simp))
                have hF5 := pF_fr hF hr5 (by intro z hz2; simp only [List.mem_cons, List.not_mem_nil, or_false] at hz2; rw [hz2]; exact hDb)
                exact gz_vret rfl dX10_run_112 (Nat.le_of_ble_eq_true rfl) (Nat.le_of_ble_eq_true rfl) (⟨rfl, _, hba_5, (fr_tr fr_rf (fr_mo hr5 (by simp)))⟩)
        ·
          refine gz_aload_n dX10_run_42 rfl rfl ?_
          refine sgX10_28 hwo rfl dX10_run_43 ?_
          refine gz_iconst (v := 0) dX10_run_46 (by decide) ?_
          refine gz_iload_n dX10_run_47 rfl rfl ?_
          refine gz_iconst (v := 4) dX10_run_48 (by decide) ?_
          refine scX10_50 (by simp only [gRm]; omega) (by simp only [gRm]; omega) (Nat.le_of_ble_eq_true rfl) (Nat.le_of_ble_eq_true rfl) (Nat.le_of_ble_eq_true rfl) dX10_run_49 ?_
          refine scX10_63 (by simp only [gRm]; omega) (by simp only [gRm]; omega) (Nat.le_of_ble_eq_true rfl) (Nat.le_of_ble_eq_true rfl) (Nat.le_of_ble_eq_true rfl) dX10_run_52 ?_
          refine gz_dup2 dX10_run_55 rfl rfl ?_
          refine gz_lald hba (scI_in) dX10_run_56 ?_
          refine gz_iload dX10_run_57 rfl ?_
          refine gz_aload_n dX10_run_59 rfl rfl ?_
          refine sgX10_37 hwo rfl dX10_run_60 ?_
          refine gz_iload_n dX10_run_63 rfl rfl ?_
          refine gz_iload_n dX10_run_64 rfl rfl ?_
          refine scX10_94 (k_X2_held (w := wd) (x := fa) hp h1 hs) hp ⟨(by simp only [gRm]; omega), (by simp only [gRm]; omega)⟩ ⟨(Nat.le_of_ble_eq_true rfl), (Nat.le_of_ble_eq_true rfl)⟩ rfl rfl (Nat.le_of_ble_eq_true rfl) dX10_run_65 ?_
          intro v9 f9 z9; rw [z9.1, z9.2]
          refine gz_imul dX10_run_68 ?_
          refine gz_i2l dX10_run_69 ?_
          refine gz_ladd dX10_run_70 ?_
          refine gz_last hba (scI_in) dX10_run_71 ?_
          obtain ⟨f6, hf6⟩ : ∃ gg : gMem, gg = va_up f ba (some (.inl (cy 2, 5, .inr (.inl (vp_updL bag (Int32.toNatClampNeg (if 0 < (if 4 < st then 4 else st) then (if 4 < st then 4 else st) else 0)) ((bag (Int32.toNatClampNeg (if 0 < (if 4 < st then 4 else st) then (if 4 < st then 4 else st) else 0))) + ((sn * (heldF n1 g s wd fa)).toInt64))))))) := ⟨_, rfl⟩
          refine gz_eq (f2 := f6) hf6.symm rfl rfl rfl ?_
          have hwo_6 : f6 wo = some (.inr (10, [.int sz, .ref we, .ref stp, .ref pa, .ref ba, .ref td, .ref p, .int ah, .int gl])) := by rw [hf6, va_up_ne _ _ (cne hwo hba (by simp))]; exact hwo
          have hpa_6 : f6 pa = some (.inl (cy 6, 5, .inr (.inr (.inr (.inr (pg)))))) := by rw [hf6, va_up_ne _ _ (cne hpa hba (by simp))]; exact hpa
          have hp_6 : f6 p = some (.inr (2, [.ref c1, .ref c2, .int s, .int v])) := by rw [hf6, va_up_ne _ _ (cne hp hba (by simp))]; exact hp
          have h1_6 : f6 c1 = some (.inl (cy 0, n1, .inl (g))) := by rw [hf6, va_up_ne _ _ (cne h1 hba (by simp))]; exact h1
          have h2_6 : f6 c2 = some (.inl (cy 0, n2, .inl (h))) := by rw [hf6, va_up_ne _ _ (cne h2 hba (by simp))]; exact h2
          have hPu1_6 : f6 (P (scI st)) = some (.inr (7, [.ref (Q (scI st)), .int dau1])) := by rw [hf6, va_up_ne _ _ (cne hPu1 hba (by simp))]; exact hPu1
          have hQu1_6 : f6 (Q (scI st)) = some (.inl (cy 0, 6, .inl (tu1))) := by rw [hf6, va_up_ne _ _ (cne hQu1 hba (by simp))]; exact hQu1
          have hba_6 : f6 ba = some (.inl (cy 2, 5, .inr (.inl (vp_updL bag (Int32.toNatClampNeg (if 0 < (if 4 < st then 4 else st) then (if 4 < st then 4 else st) else 0)) ((bag (Int32.toNatClampNeg (if 0 < (if 4 < st then 4 else st) then (if 4 < st then 4 else st) else 0))) + ((sn * (heldF n1 g s wd fa)).toInt64)))))) := by rw [hf6]; exact va_up_self _ _ _
          exact gz_vret rfl dX10_run_72 (Nat.le_of_ble_eq_true rfl) (Nat.le_of_ble_eq_true rfl) (⟨rfl, _, hba_6, (by rw [hf6]; exact fr_up fr_rf (by simp))⟩)
      ·
        exact gz_vret rfl dX10_run_24 (Nat.le_of_ble_eq_true rfl) (Nat.le_of_ble_eq_true rfl) (⟨rfl, _, hba, fr_rf⟩)

set_option maxHeartbeats 4000000 in
set_option maxRecDepth 100000 in
theorem k_X10_judge {l : Launch} {D : va_G} {cy : Nat → ClassId} {b : Nat} {f : gMem} {wo we stp pa ba td p c1 c2 n1 n2 : Nat} {sz ah gl s v : Int32} {weg stg g h : Nat → Int32} {pg : Nat → Option Nat} {P Q : Nat → Nat} {po tt : Nat} {nn_ dt gx : Int32} {ut : Nat → Int32} (hwo : f wo = some (.inr (10, [.int sz, .ref we, .ref stp, .ref pa, .ref ba, .ref td, .ref po, .int ah, .int gl]))) (hwe : f we = some (.inl (cy 0, 3, .inl (weg)))) (hst : f stp = some (.inl (cy 0, 18, .inl (stg)))) (hpa : f pa = some (.inl (cy 6, 5, .inr (.inr (.inr (.inr (pg))))))) (hp : f p = some (.inr (2, [.ref c1, .ref c2, .int s, .int v]))) (h1 : f c1 = some (.inl (cy 0, n1, .inl (g)))) (h2 : f c2 = some (.inl (cy 0, n2, .inl (h)))) (htd : f td = some (.inr (7, [.ref tt, .int dt]))) (htt : f tt = some (.inl (cy 0, 6, .inl (ut)))) (hs : 0 ≤ s.toInt ∧ 13 * s.toInt ≤ n1 ∧ n1 ≤ 520) (hv : 0 ≤ v.toInt ∧ 2 * v.toInt ≤ n2 ∧ n2 ≤ 80) (hI : fI g s.toInt) (hz : sz.toInt ≤ 3) (hpg : ∀ ii : Nat, ii < 5 → pg ii = some (P ii)) (hPQ : ∀ ii jj : Nat, ii < 5 → jj < 5 → ii ≠ jj → P ii ≠ P jj ∧ Q ii ≠ Q jj) (hD : ∀ xx : Nat, xx ∈ [wo, we, stp, pa, p, c1, c2] → xx ∉ scL P Q) (hD2 : ∀ xx : Nat, xx ∈ [td, tt] → xx ∉ scL P Q) (hF : pF cy P Q f) : gC l D cy b yX10_judge cX10_judge 4 (some .long) 510 0 0 [.ref wo, .ref p, .int nn_, .int gx] f (pL fun r f2 => f2 wo = some (.inr (10, [.int sz, .ref we, .ref stp, .ref pa, .ref ba, .ref td, .ref p, .int (if 4 < nn_ then 4 else nn_), .int gx])) ∧ pF cy P Q f2 ∧ fr (wo :: scL P Q) f f2) := by
  refine gC_of (by decide) (Nat.le_of_ble_eq_true rfl) ?_
  show gG l _ _ _ D cy b cX10_judge 4 _ RX10 "judge" 0 0 f 0 [(0, .ref wo), (1, .ref p), (2, .int nn_), (3, .int gx)] []
  refine gz_aload_n dX10_judge_0 rfl rfl ?_
  refine gz_aload_n dX10_judge_1 rfl rfl ?_
  refine gz_iload_n dX10_judge_2 rfl rfl ?_
  refine scX10_76 (k_X10_start (p := p) (nn_ := nn_) hwo hpa htd htt hF hpg hPQ hD2) hwo ⟨(Nat.le_of_ble_eq_true rfl), (Nat.le_of_ble_eq_true rfl)⟩ ⟨(Nat.le_of_ble_eq_true rfl), (Nat.le_of_ble_eq_true rfl)⟩ rfl rfl (Nat.le_of_ble_eq_true rfl) dX10_judge_3 ?_
  rintro f1 ⟨hwo_1, hF1, hr1⟩
  have hwe_1 : f1 we = some (.inl (cy 0, 3, .inl (weg))) := hr1 _ _ hwe (by simp only [List.mem_cons, not_or]; exact ⟨cne hwe hwo (by simp), hD _ (by simp)⟩)
  have hst_1 : f1 stp = some (.inl (cy 0, 18, .inl (stg))) := hr1 _ _ hst (by simp only [List.mem_cons, not_or]; exact ⟨cne hst hwo (by simp), hD _ (by simp)⟩)
  have hpa_1 : f1 pa = some (.inl (cy 6, 5, .inr (.inr (.inr (.inr (pg)))))) := hr1 _ _ hpa (by simp only [List.mem_cons, not_or]; exact ⟨cne hpa hwo (by simp), hD _ (by simp)⟩)
  have hp_1 : f1 p = some (.inr (2, [.ref c1, .ref c2, .int s, .int v])) := hr1 _ _ hp (by simp only [List.mem_cons, not_or]; exact ⟨cne hp hwo (by simp), hD _ (by simp)⟩)
  have h1_1 : f1 c1 = some (.inl (cy 0, n1, .inl (g))) := hr1 _ _ h1 (by simp only [List.mem_cons, not_or]; exact ⟨cne h1 hwo (by simp), hD _ (by simp)⟩)
  have h2_1 : f1 c2 = some (.inl (cy 0, n2, .inl (h))) := hr1 _ _ h2 (by simp only [List.mem_cons, not_or]; exact ⟨cne h2 hwo (by simp), hD _ (by simp)⟩)
  refine gz_aload_n dX10_judge_6 rfl rfl ?_
  refine gz_iload_n dX10_judge_7 rfl rfl ?_
  refine spX10_80 hwo_1  (Nat.le_of_ble_eq_true rfl) dX10_judge_8 ?_
  obtain ⟨f2, hf2⟩ : ∃ gg : gMem, gg = va_up f1 wo (some (.inr (10, [.int sz, .ref we, .ref stp, .ref pa, .ref ba, .ref td, .ref p, .int (if 4 < nn_ then 4 else nn_), .int gx]))) := ⟨_, rfl⟩
  refine gz_eq (f2 := f2) hf2.symm rfl rfl rfl ?_
  have hwe_2 : f2 we = some (.inl (cy 0, 3, .inl (weg))) := by rw [hf2, va_up_ne _ _ (cne hwe_1 hwo_1 (by simp))]; exact hwe_1
  have hst_2 : f2 stp = some (.inl (cy 0, 18, .inl (stg))) := by rw [hf2, va_up_ne _ _ (cne hst_1 hwo_1 (by simp))]; exact hst_1
  have hpa_2 : f2 pa = some (.inl (cy 6, 5, .inr (.inr (.inr (.inr (pg)))))) := by rw [hf2, va_up_ne _ _ (cne hpa_1 hwo_1 (by simp))]; exact hpa_1
  have hp_2 : f2 p = some (.inr (2, [.ref c1, .ref c2, .int s, .int v])) := by rw [hf2, va_up_ne _ _ (cne hp_1 hwo_1 (by simp))]; exact hp_1
  have h1_2 : f2 c1 = some (.inl (cy 0, n1, .inl (g))) := by rw [hf2, va_up_ne _ _ (cne h1_1 hwo_1 (by simp))]; exact h1_1
  have h2_2 : f2 c2 = some (.inl (cy 0, n2, .inl (h))) := by rw [hf2, va_up_ne _ _ (cne h2_1 hwo_1 (by simp))]; exact h2_1
  have hwo_2 : f2 wo = some (.inr (10, [.int sz, .ref we, .ref stp, .ref pa, .ref ba, .ref td, .ref p, .int (if 4 < nn_ then 4 else nn_), .int gx])) := by rw [hf2]; exact va_up_self _ _ _
  refine gz_aload_n dX10_judge_11 rfl rfl ?_
  refine gz_iconst (v := 0) dX10_judge_12 (by decide) ?_
  refine gz_iconst (v := 1) dX10_judge_13 (by decide) ?_
  refine gz_iconst (v := 0) dX10_judge_14 (by decide) ?_
  have hFw : pF cy P Q f2 := by rw [hf2]; exact pF_wo hF1 hwo_1
  refine scX10_83 (k_X10_value hs hv hI hz min4 hpg hPQ hD 250 0 1 0 _ hwo_2 hwe_2 hst_2 hpa_2 hp_2 h1_2 h2_2 hFw (by decide) ⟨by decide, fun _ => by have e0 : (0 : Int32).toInt = 0 := rfl; omega⟩) hwo_2 ⟨(Nat.le_of_ble_eq_true rfl), (Nat.le_of_ble_eq_true rfl)⟩ ⟨(Nat.le_of_ble_eq_true rfl), (Nat.le_of_ble_eq_true rfl)⟩ rfl rfl (Nat.le_of_ble_eq_true rfl) dX10_judge_15 ?_
  rintro r3 f3 ⟨hF3, hr3⟩
  have hwo_3 : f3 wo = some (.inr (10, [.int sz, .ref we, .ref stp, .ref pa, .ref ba, .ref td, .ref p, .int (if 4 < nn_ then 4 else nn_), .int gx])) := hr3 _ _ hwo_2 (hD _ (by simp))
  have hq3 := fr_mo hr3 (S' := wo :: scL P Q) (fun z hz3 => List.mem_cons_of_mem _ hz3)
  exact gz_lret rfl dX10_judge_18 (Nat.le_of_ble_eq_true rfl) (Nat.le_of_ble_eq_true rfl) (⟨_, rfl, hwo_3, hF3, (fr_tr (by rw [hf2]; exact fr_up (fr_tr fr_rf hr1) (by simp)) hq3)⟩)

set_option maxHeartbeats 4000000 in
set_option maxRecDepth 100000 in
theorem k_X10_finds {l : Launch} {D : va_G} {cy : Nat → ClassId} {b : Nat} {f : gMem} {wo we stp pa ba td p c1 c2 n1 n2 : Nat} {sz ah gl s v : Int32} {weg stg g h : Nat → Int32} {pg : Nat → Option Nat} {P Q : Nat → Nat} {po tt : Nat} {nn_ dt gx : Int32} {ut : Nat → Int32} (hwo : f wo = some (.inr (10, [.int sz, .ref we, .ref stp, .ref pa, .ref ba, .ref td, .ref po, .int ah, .int gl]))) (hwe : f we = some (.inl (cy 0, 3, .inl (weg)))) (hst : f stp = some (.inl (cy 0, 18, .inl (stg)))) (hpa : f pa = some (.inl (cy 6, 5, .inr (.inr (.inr (.inr (pg))))))) (hp : f p = some (.inr (2, [.ref c1, .ref c2, .int s, .int v]))) (h1 : f c1 = some (.inl (cy 0, n1, .inl (g)))) (h2 : f c2 = some (.inl (cy 0, n2, .inl (h)))) (htd : f td = some (.inr (7, [.ref tt, .int dt]))) (htt : f tt = some (.inl (cy 0, 6, .inl (ut)))) (hs : 0 ≤ s.toInt ∧ 13 * s.toInt ≤ n1 ∧ n1 ≤ 520) (hv : 0 ≤ v.toInt ∧ 2 * v.toInt ≤ n2 ∧ n2 ≤ 80) (hI : fI g s.toInt) (hz : sz.toInt ≤ 3) (hpg : ∀ ii : Nat, ii < 5 → pg ii = some (P ii)) (hPQ : ∀ ii jj : Nat, ii < 5 → jj < 5 → ii ≠ jj → P ii ≠ P jj ∧ Q ii ≠ Q jj) (hD : ∀ xx : Nat, xx ∈ [wo, we, stp, pa, p, c1, c2] → xx ∉ scL P Q) (hD2 : ∀ xx : Nat, xx ∈ [td, tt] → xx ∉ scL P Q) (hF : pF cy P Q f) : gC l D cy b yX10_finds cX10_finds 4 (some .boolean) 510 0 0 [.ref wo, .ref p, .int nn_, .int gx] f (pI fun r f2 => (r = 0 ∨ r = 1) ∧ f2 wo = some (.inr (10, [.int sz, .ref we, .ref stp, .ref pa, .ref ba, .ref td, .ref p, .int (if 4 < nn_ then 4 else nn_), .int gl])) ∧ pF cy P Q f2 ∧ fr (wo :: scL P Q) f f2) := by
  refine gC_of (by decide) (Nat.le_of_ble_eq_true rfl) ?_
  show gG l _ _ _ D cy b cX10_finds 4 _ RX10 "finds" 0 0 f 0 [(0, .ref wo), (1, .ref p), (2, .int nn_), (3, .int gx)] []
  refine gz_aload_n dX10_finds_0 rfl rfl ?_
  refine gz_aload_n dX10_finds_1 rfl rfl ?_
  refine gz_iload_n dX10_finds_2 rfl rfl ?_
  refine scX10_76 (k_X10_start (p := p) (nn_ := nn_) hwo hpa htd htt hF hpg hPQ hD2) hwo ⟨(Nat.le_of_ble_eq_true rfl), (Nat.le_of_ble_eq_true rfl)⟩ ⟨(Nat.le_of_ble_eq_true rfl), (Nat.le_of_ble_eq_true rfl)⟩ rfl rfl (Nat.le_of_ble_eq_true rfl) dX10_finds_3 ?_
  rintro f1 ⟨hwo_1, hF1, hr1⟩
  have hwe_1 : f1 we = some (.inl (cy 0, 3, .inl (weg))) := hr1 _ _ hwe (by simp only [List.mem_cons, not_or]; exact ⟨cne hwe hwo (by simp), hD _ (by simp)⟩)
  have hst_1 : f1 stp = some (.inl (cy 0, 18, .inl (stg))) := hr1 _ _ hst (by simp only [List.mem_cons, not_or]; exact ⟨cne hst hwo (by simp), hD _ (by simp)⟩)
  have hpa_1 : f1 pa = some (.inl (cy 6, 5, .inr (.inr (.inr (.inr (pg)))))) := hr1 _ _ hpa (by simp only [List.mem_cons, not_or]; exact ⟨cne hpa hwo (by simp), hD _ (by simp)⟩)
  have hp_1 : f1 p = some (.inr (2, [.ref c1, .ref c2, .int s, .int v])) := hr1 _ _ hp (by simp only [List.mem_cons, not_or]; exact ⟨cne hp hwo (by simp), hD _ (by simp)⟩)
  have h1_1 : f1 c1 = some (.inl (cy 0, n1, .inl (g))) := hr1 _ _ h1 (by simp only [List.mem_cons, not_or]; exact ⟨cne h1 hwo (by simp), hD _ (by simp)⟩)
  have h2_1 : f1 c2 = some (.inl (cy 0, n2, .inl (h))) := hr1 _ _ h2 (by simp only [List.mem_cons, not_or]; exact ⟨cne h2 hwo (by simp), hD _ (by simp)⟩)
  refine gz_aload_n dX10_finds_6 rfl rfl ?_
  refine gz_iconst (v := 0) dX10_finds_7 (by decide) ?_
  refine gz_iload_n dX10_finds_8 rfl rfl ?_
  refine gz_iconst (v := 0) dX10_finds_9 (by decide) ?_
  refine scX10_129 (k_X10_reaches hs hv hI hz min4 hpg hPQ hD 250 0 gx 0 _ hwo_1 hwe_1 hst_1 hpa_1 hp_1 h1_1 h2_1 hF1 (by decide) ⟨by decide, fun _ => ⟨by decide, by have e0 : (0 : Int32).toInt = 0 := rfl; omega⟩⟩) hwo_1 ⟨(Nat.le_of_ble_eq_true rfl), (Nat.le_of_ble_eq_true rfl)⟩ ⟨(Nat.le_of_ble_eq_true rfl), (Nat.le_of_ble_eq_true rfl)⟩ rfl rfl (Nat.le_of_ble_eq_true rfl) dX10_finds_10 ?_
  rintro r2 f2 ⟨hbb, hF2, hr2⟩
  have hwo_2 : f2 wo = some (.inr (10, [.int sz, .ref we, .ref stp, .ref pa, .ref ba, .ref td, .ref p, .int (if 4 < nn_ then 4 else nn_), .int gl])) := hr2 _ _ hwo_1 (hD _ (by simp))
  have hq2 := fr_mo hr2 (S' := wo :: scL P Q) (fun z hz3 => List.mem_cons_of_mem _ hz3)
  exact gz_zret rfl (by first | decide | exact nrb (Or.inl rfl) | (refine nrb ?_; (repeat' split) <;> first | assumption | exact Or.inl rfl | exact Or.inr rfl)) dX10_finds_13 (Nat.le_of_ble_eq_true rfl) (Nat.le_of_ble_eq_true rfl) (⟨_, rfl, hbb, hwo_2, hF2, (fr_tr (fr_tr fr_rf hr1) hq2)⟩)
