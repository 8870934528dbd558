theorem scLF_ok {n1 n2 : Nat} {g h : Nat → Int32} {s v x y : Int32} {m : Int} (hs : 0 ≤ s.toInt ∧ 13 * s.toInt ≤ n1 ∧ n1 ≤ 520) (hI : fI g m) : ((scLF n1 n2 g h s v x y).1 = x ∨ (scLF n1 n2 g h s v x y).1 = y) ∧ fI (scLF n1 n2 g h s v x y).2 m := by
  have hM : fI (mknF n1 g s x) m := by
    unfold mknF
    exact fI_st hs (fI_st hs (fI_st hs (fI_st hs hI (Or.inl (by decide))) (Or.inl (by decide))) (Or.inl (by decide))) (Or.inl (by decide))
  unfold scLF; simp only [lett]
  (repeat' split) <;> first | exact ⟨Or.inl rfl, hI⟩ | exact ⟨Or.inr rfl, hI⟩ | exact ⟨Or.inl rfl, hM⟩ | exact ⟨Or.inr rfl, hM⟩
theorem cpLF_ok {n1 : Nat} {g : Nat → Int32} {s x y : Int32} {m : Int} (hs : 0 ≤ s.toInt ∧ 13 * s.toInt ≤ n1 ∧ n1 ≤ 520) (hI : fI g m) : (cpLF n1 g s x y).1 = y ∧ fI (cpLF n1 g s x y).2 m := by
  unfold cpLF
  exact ⟨rfl, fI_st hs hI (Or.inl (by decide))⟩
/-- what the WORDS behind one have become -/
def bI (bg : Nat → Int32) (i m : Int) : Prop := ∀ j : Nat, i < (j : Int) → (j : Int) < m → (bg j).toInt = -1 ∨ ((j : Int) ≤ (bg j).toInt ∧ (bg j).toInt < m)
theorem folF_fi {n1 : Nat} {g : Nat → Int32} {s : Int32} {bg : Nat → Int32} {x y : Int32} (hs : 0 ≤ s.toInt ∧ 13 * s.toInt ≤ n1 ∧ n1 ≤ 520) (hI : fI g s.toInt) (hB : bI bg x.toInt s.toInt) (hy : y = 3 ∨ y = 4) : fI (folF n1 g s bg x y) s.toInt := by
  have e0 : (0 : Int32).toInt = 0 := rfl
  have hc : (fldF n1 g s x y).toInt = -1 ∨ (0 ≤ x.toInt ∧ x.toInt < s.toInt ∧ x.toInt < (fldF n1 g s x y).toInt ∧ (fldF n1 g s x y).toInt < s.toInt) := by
    rcases hy with rfl | rfl
    · exact fI_first hs hI
    · exact fI_second hs hI
  unfold folF
  split
  · exact hI
  · split
    · exact hI
    · rename_i h1 h2
      rw [fl_lt] at h1
      refine fI_st hs hI (Or.inr ?_)
      rw [cl_N (rfl : (fldF n1 g s x y).toInt = _) (by omega)]
      have hb := hB (fldF n1 g s x y).toInt.toNat (by omega) (by omega)
      omega

set_option maxHeartbeats 4000000 in
set_option maxRecDepth 100000 in
theorem k_X3_apply {l : Launch} {D : va_G} {cy : Nat → ClassId} {b : Nat} {f : gMem} {la p c1 c2 n1 n2 bc : Nat} {s v x : Int32} {g h : Nat → Int32} (hla : f la = some (.inr (3, [.ref p, .ref bc]))) (hp : f p = some (.inr (2, [.ref c1, .ref c2, .int s, .int v]))) (h1 : f c1 = some (.inl (cy 0, n1, .inl (g)))) (h2 : f c2 = some (.inl (cy 0, n2, .inl (h)))) (hs : 0 ≤ s.toInt ∧ 13 * s.toInt ≤ n1 ∧ n1 ≤ 520) (hv : 0 ≤ v.toInt ∧ 2 * v.toInt ≤ n2 ∧ n2 ≤ 80) (hne : c1 ≠ c2) (hI : fI g s.toInt) (hx : 0 ≤ x.toInt ∧ x.toInt < s.toInt) : gC l D cy b yX3_apply cX3_apply 5 (some .int) 46 0 0 [.ref la, .int x] f (pI fun r f2 => ∃ g2 : Nat → Int32, f2 c1 = some (.inl (cy 0, n1, .inl (g2))) ∧ fI g2 s.toInt ∧ (r.toInt = -1 ∨ (x.toInt ≤ r.toInt ∧ r.toInt < s.toInt)) ∧ fr [c1] f f2) := by
  refine gC_of (by decide) (Nat.le_of_ble_eq_true rfl) ?_
  show gG l _ _ _ D cy b cX3_apply 5 _ RX3 "apply" 0 0 f 0 [(0, .ref la), (1, .int x)] []
  refine gz_aload_n dX3_apply_0 rfl rfl ?_
  refine sgX3_14 hla rfl dX3_apply_1 ?_
  refine gz_iload_n dX3_apply_4 rfl rfl ?_
  refine gz_iconst (v := 3) dX3_apply_5 (by decide) ?_
  refine scX3_52 (k_X2_field (w := x) (k := 3) hp h1 hs) hp ⟨(Nat.le_of_ble_eq_true rfl), (Nat.le_of_ble_eq_true rfl)⟩ ⟨(Nat.le_of_ble_eq_true rfl), (Nat.le_of_ble_eq_true rfl)⟩ rfl rfl (Nat.le_of_ble_eq_true rfl) dX3_apply_6 ?_
  intro v9 f9 z9; rw [z9.1, z9.2]
  refine gz_istore_n (lv' := [(2, .int (fldF n1 g s x 3)), (0, .ref la), (1, .int x)]) dX3_apply_9 rfl (by decide) rfl ?_
  refine gz_aload_n dX3_apply_10 rfl rfl ?_
  refine sgX3_14 hla rfl dX3_apply_11 ?_
  refine gz_iload_n dX3_apply_14 rfl rfl ?_
  refine gz_iconst (v := 4) dX3_apply_15 (by decide) ?_
  refine scX3_52 (k_X2_field (w := x) (k := 4) hp h1 hs) hp ⟨(Nat.le_of_ble_eq_true rfl), (Nat.le_of_ble_eq_true rfl)⟩ ⟨(Nat.le_of_ble_eq_true rfl), (Nat.le_of_ble_eq_true rfl)⟩ rfl rfl (Nat.le_of_ble_eq_true rfl) dX3_apply_16 ?_
  intro v9 f9 z9; rw [z9.1, z9.2]
  refine gz_istore_n (lv' := [(3, .int (fldF n1 g s x 4)), (2, .int (fldF n1 g s x 3)), (0, .ref la), (1, .int x)]) dX3_apply_19 rfl (by decide) rfl ?_
  refine gz_aload_n dX3_apply_20 rfl rfl ?_
  refine sgX3_14 hla rfl dX3_apply_21 ?_
  refine gz_iload_n dX3_apply_24 rfl rfl ?_
  refine gz_iconst (v := 0) dX3_apply_25 (by decide) ?_
  refine scX3_52 (k_X2_field (w := (fldF n1 g s x 3)) (k := 0) hp h1 hs) hp ⟨(Nat.le_of_ble_eq_true rfl), (Nat.le_of_ble_eq_true rfl)⟩ ⟨(Nat.le_of_ble_eq_true rfl), (Nat.le_of_ble_eq_true rfl)⟩ rfl rfl (Nat.le_of_ble_eq_true rfl) dX3_apply_26 ?_
  intro v9 f9 z9; rw [z9.1, z9.2]
  refine gz_istore (lv' := [(4, .int (fldF n1 g s (fldF n1 g s x 3) 0)), (3, .int (fldF n1 g s x 4)), (2, .int (fldF n1 g s x 3)), (0, .ref la), (1, .int x)]) dX3_apply_29 (by decide) rfl ?_
  refine gz_aload_n dX3_apply_31 rfl rfl ?_
  refine sgX3_14 hla rfl dX3_apply_32 ?_
  refine gz_iload_n dX3_apply_35 rfl rfl ?_
  refine gz_iconst (v := 0) dX3_apply_36 (by decide) ?_
  refine scX3_52 (k_X2_field (w := x) (k := 0) hp h1 hs) hp ⟨(Nat.le_of_ble_eq_true rfl), (Nat.le_of_ble_eq_true rfl)⟩ ⟨(Nat.le_of_ble_eq_true rfl), (Nat.le_of_ble_eq_true rfl)⟩ rfl rfl (Nat.le_of_ble_eq_true rfl) dX3_apply_37 ?_
  intro v9 f9 z9; rw [z9.1, z9.2]
  by_cases hw_40_0 : (fldF n1 g s x 0) = 0
  ·
    refine gz_ev (w := .int 0) (congrArg Value.int hw_40_0) ?_
    refine gz_tableIn (off := 60) (tgt := 100) dX3_apply_40 (by decide) (by decide) rfl (by decide) ?_
    refine gz_iload_n dX3_apply_100 rfl rfl ?_
    exact gz_iret rfl dX3_apply_101 (Nat.le_of_ble_eq_true rfl) (Nat.le_of_ble_eq_true rfl) (⟨_, rfl, _, h1, hI, (by have h3 := fI_first (w := x) hs hI; have h4 := fI_second (w := x) hs hI; have h33 := fI_first (w := fldF n1 g s x 3) hs hI; omega), fr_rf⟩)
  ·
    by_cases hw_40_1 : (fldF n1 g s x 0) = 1
    ·
      refine gz_ev (w := .int 1) (congrArg Value.int hw_40_1) ?_
      refine gz_tableIn (off := 60) (tgt := 100) dX3_apply_40 (by decide) (by decide) rfl (by decide) ?_
      refine gz_iload_n dX3_apply_100 rfl rfl ?_
      exact gz_iret rfl dX3_apply_101 (Nat.le_of_ble_eq_true rfl) (Nat.le_of_ble_eq_true rfl) (⟨_, rfl, _, h1, hI, (by have h3 := fI_first (w := x) hs hI; have h4 := fI_second (w := x) hs hI; have h33 := fI_first (w := fldF n1 g s x 3) hs hI; omega), fr_rf⟩)
    ·
      by_cases hw_40_2 : (fldF n1 g s x 0) = 2
      ·
        refine gz_ev (w := .int 2) (congrArg Value.int hw_40_2) ?_
        refine gz_tableIn (off := 62) (tgt := 102) dX3_apply_40 (by decide) (by decide) rfl (by decide) ?_
        refine gz_iload dX3_apply_102 rfl ?_
        refine gz_if_ne (tgt := 111) dX3_apply_104 (by decide) (fun c_104 => ?_) (fun c_104 => ?_)
        ·
          refine gz_iload dX3_apply_111 rfl ?_
          refine gz_iconst (v := 2) dX3_apply_113 (by decide) ?_
          refine gz_icmp_ne (tgt := 129) dX3_apply_114 (by decide) (fun c_114 => ?_) (fun c_114 => ?_)
          ·
            refine gz_iload_n dX3_apply_129 rfl rfl ?_
            exact gz_iret rfl dX3_apply_130 (Nat.le_of_ble_eq_true rfl) (Nat.le_of_ble_eq_true rfl) (⟨_, rfl, _, h1, hI, (by have h3 := fI_first (w := x) hs hI; have h4 := fI_second (w := x) hs hI; have h33 := fI_first (w := fldF n1 g s x 3) hs hI; omega), fr_rf⟩)
          ·
            refine gz_aload_n dX3_apply_117 rfl rfl ?_
            refine sgX3_14 hla rfl dX3_apply_118 ?_
            refine gz_iload_n dX3_apply_121 rfl rfl ?_
            refine gz_iconst (v := 3) dX3_apply_122 (by decide) ?_
            refine scX3_52 (k_X2_field (w := (fldF n1 g s x 3)) (k := 3) hp h1 hs) hp ⟨(Nat.le_of_ble_eq_true rfl), (Nat.le_of_ble_eq_true rfl)⟩ ⟨(Nat.le_of_ble_eq_true rfl), (Nat.le_of_ble_eq_true rfl)⟩ rfl rfl (Nat.le_of_ble_eq_true rfl) dX3_apply_123 ?_
            intro v9 f9 z9; rw [z9.1, z9.2]
            refine gz_goto (tgt := 130) dX3_apply_126 (by decide) ?_
            exact gz_iret rfl dX3_apply_130 (Nat.le_of_ble_eq_true rfl) (Nat.le_of_ble_eq_true rfl) (⟨_, rfl, _, h1, hI, (by have h3 := fI_first (w := x) hs hI; have h4 := fI_second (w := x) hs hI; have h33 := fI_first (w := fldF n1 g s x 3) hs hI; omega), fr_rf⟩)
        ·
          refine gz_iload_n dX3_apply_107 rfl rfl ?_
          refine gz_goto (tgt := 130) dX3_apply_108 (by decide) ?_
          exact gz_iret rfl dX3_apply_130 (Nat.le_of_ble_eq_true rfl) (Nat.le_of_ble_eq_true rfl) (⟨_, rfl, _, h1, hI, (by have h3 := fI_first (w := x) hs hI; have h4 := fI_second (w := x) hs hI; have h33 := fI_first (w := fldF n1 g s x 3) hs hI; omega), fr_rf⟩)
      ·
        by_cases hw_40_3 : (fldF n1 g s x 0) = 3
        ·
          refine gz_ev (w := .int 3) (congrArg Value.int hw_40_3) ?_
          refine gz_tableIn (off := 91) (tgt := 131) dX3_apply_40 (by decide) (by decide) rfl (by decide) ?_
          refine gz_iload dX3_apply_131 rfl ?_
          refine gz_if_ne (tgt := 140) dX3_apply_133 (by decide) (fun c_133 => ?_) (fun c_133 => ?_)
          ·
            refine gz_aload_n dX3_apply_140 rfl rfl ?_
            refine sgX3_14 hla rfl dX3_apply_141 ?_
            refine gz_iload_n dX3_apply_144 rfl rfl ?_
            refine gz_iconst (v := 0) dX3_apply_145 (by decide) ?_
            refine scX3_52 (k_X2_field (w := (fldF n1 g s x 4)) (k := 0) hp h1 hs) hp ⟨(Nat.le_of_ble_eq_true rfl), (Nat.le_of_ble_eq_true rfl)⟩ ⟨(Nat.le_of_ble_eq_true rfl), (Nat.le_of_ble_eq_true rfl)⟩ rfl rfl (Nat.le_of_ble_eq_true rfl) dX3_apply_146 ?_
            intro v9 f9 z9; rw [z9.1, z9.2]
            refine gz_if_ne (tgt := 156) dX3_apply_149 (by decide) (fun c_149 => ?_) (fun c_149 => ?_)
            ·
              refine gz_iload_n dX3_apply_156 rfl rfl ?_
              exact gz_iret rfl dX3_apply_157 (Nat.le_of_ble_eq_true rfl) (Nat.le_of_ble_eq_true rfl) (⟨_, rfl, _, h1, hI, (by have h3 := fI_first (w := x) hs hI; have h4 := fI_second (w := x) hs hI; have h33 := fI_first (w := fldF n1 g s x 3) hs hI; omega), fr_rf⟩)
            ·
              refine gz_iload_n dX3_apply_152 rfl rfl ?_
              refine gz_goto (tgt := 157) dX3_apply_153 (by decide) ?_
              exact gz_iret rfl dX3_apply_157 (Nat.le_of_ble_eq_true rfl) (Nat.le_of_ble_eq_true rfl) (⟨_, rfl, _, h1, hI, (by have h3 := fI_first (w := x) hs hI; have h4 := fI_second (w := x) hs hI; have h33 := fI_first (w := fldF n1 g s x 3) hs hI; omega), fr_rf⟩)
          ·
            refine gz_iload_n dX3_apply_136 rfl rfl ?_
            refine gz_goto (tgt := 157) dX3_apply_137 (by decide) ?_
            exact gz_iret rfl dX3_apply_157 (Nat.le_of_ble_eq_true rfl) (Nat.le_of_ble_eq_true rfl) (⟨_, rfl, _, h1, hI, (by have h3 := fI_first (w := x) hs hI; have h4 := fI_second (w := x) hs hI; have h33 := fI_first (w := fldF n1 g s x 3) hs hI; omega), fr_rf⟩)
        ·
          by_cases hw_40_4 : (fldF n1 g s x 0) = 4
          ·
            refine gz_ev (w := .int 4) (congrArg Value.int hw_40_4) ?_
            refine gz_tableIn (off := 118) (tgt := 158) dX3_apply_40 (by decide) (by decide) rfl (by decide) ?_
            refine gz_aload_n dX3_apply_158 rfl rfl ?_
            refine sgX3_14 hla rfl dX3_apply_159 ?_
            refine gz_iload_n dX3_apply_162 rfl rfl ?_
            refine gz_aload_n dX3_apply_163 rfl rfl ?_
            refine sgX3_14 hla rfl dX3_apply_164 ?_
            refine gz_iload_n dX3_apply_167 rfl rfl ?_
            refine gz_iconst (v := 0) dX3_apply_168 (by decide) ?_
            refine scX3_48 (k_X3_alike hs hv hs hv hI 42 (fldF n1 g s x 3) (fldF n1 g s x 4) 0 _ hp h1 h2 hp h1 h2 ⟨by decide, fun _ => by omega⟩) ⟨(Nat.le_of_ble_eq_true rfl), (Nat.le_of_ble_eq_true rfl)⟩ ⟨(Nat.le_of_ble_eq_true rfl), (Nat.le_of_ble_eq_true rfl)⟩ rfl rfl (Nat.le_of_ble_eq_true rfl) dX3_apply_169 ?_
            rintro r1 f1 ⟨hb1, hf1⟩; subst hf1
            refine gz_if_eq (tgt := 179) dX3_apply_172 (by decide) (fun c_172 => ?_) (fun c_172 => ?_)
            ·
              refine gz_iload_n dX3_apply_179 rfl rfl ?_
              exact gz_iret rfl dX3_apply_180 (Nat.le_of_ble_eq_true rfl) (Nat.le_of_ble_eq_true rfl) (⟨_, rfl, _, h1, hI, (by have h3 := fI_first (w := x) hs hI; have h4 := fI_second (w := x) hs hI; have h33 := fI_first (w := fldF n1 g s x 3) hs hI; omega), fr_rf⟩)
            ·
              refine gz_iload_n dX3_apply_175 rfl rfl ?_
              refine gz_goto (tgt := 180) dX3_apply_176 (by decide) ?_
              exact gz_iret rfl dX3_apply_180 (Nat.le_of_ble_eq_true rfl) (Nat.le_of_ble_eq_true rfl) (⟨_, rfl, _, h1, hI, (by have h3 := fI_first (w := x) hs hI; have h4 := fI_second (w := x) hs hI; have h33 := fI_first (w := fldF n1 g s x 3) hs hI; omega), fr_rf⟩)
          ·
            by_cases hw_40_5 : (fldF n1 g s x 0) = 5
            ·
              refine gz_ev (w := .int 5) (congrArg Value.int hw_40_5) ?_
              refine gz_tableIn (off := 118) (tgt := 158) dX3_apply_40 (by decide) (by decide) rfl (by decide) ?_
              refine gz_aload_n dX3_apply_158 rfl rfl ?_
              refine sgX3_14 hla rfl dX3_apply_159 ?_
              refine gz_iload_n dX3_apply_162 rfl rfl ?_
              refine gz_aload_n dX3_apply_163 rfl rfl ?_
              refine sgX3_14 hla rfl dX3_apply_164 ?_
              refine gz_iload_n dX3_apply_167 rfl rfl ?_
              refine gz_iconst (v := 0) dX3_apply_168 (by decide) ?_
              refine scX3_48 (k_X3_alike hs hv hs hv hI 42 (fldF n1 g s x 3) (fldF n1 g s x 4) 0 _ hp h1 h2 hp h1 h2 ⟨by decide, fun _ => by omega⟩) ⟨(Nat.le_of_ble_eq_true rfl), (Nat.le_of_ble_eq_true rfl)⟩ ⟨(Nat.le_of_ble_eq_true rfl), (Nat.le_of_ble_eq_true rfl)⟩ rfl rfl (Nat.le_of_ble_eq_true rfl) dX3_apply_169 ?_
              rintro r2 f2 ⟨hb2, hf2⟩; subst hf2
              refine gz_if_eq (tgt := 179) dX3_apply_172 (by decide) (fun c_172 => ?_) (fun c_172 => ?_)
              ·
                refine gz_iload_n dX3_apply_179 rfl rfl ?_
                exact gz_iret rfl dX3_apply_180 (Nat.le_of_ble_eq_true rfl) (Nat.le_of_ble_eq_true rfl) (⟨_, rfl, _, h1, hI, (by have h3 := fI_first (w := x) hs hI; have h4 := fI_second (w := x) hs hI; have h33 := fI_first (w := fldF n1 g s x 3) hs hI; omega), fr_rf⟩)
              ·
                refine gz_iload_n dX3_apply_175 rfl rfl ?_
                refine gz_goto (tgt := 180) dX3_apply_176 (by decide) ?_
                exact gz_iret rfl dX3_apply_180 (Nat.le_of_ble_eq_true rfl) (Nat.le_of_ble_eq_true rfl) (⟨_, rfl, _, h1, hI, (by have h3 := fI_first (w := x) hs hI; have h4 := fI_second (w := x) hs hI; have h33 := fI_first (w := fldF n1 g s x 3) hs hI; omega), fr_rf⟩)
            ·
              by_cases hw_40_6 : (fldF n1 g s x 0) = 6
              ·
                refine gz_ev (w := .int 6) (congrArg Value.int hw_40_6) ?_
                refine gz_tableIn (off := 184) (tgt := 224) dX3_apply_40 (by decide) (by decide) rfl (by decide) ?_
                refine gz_iload dX3_apply_224 rfl ?_
                refine gz_if_ne (tgt := 233) dX3_apply_226 (by decide) (fun c_226 => ?_) (fun c_226 => ?_)
                ·
                  refine gz_iload_n dX3_apply_233 rfl rfl ?_
                  exact gz_iret rfl dX3_apply_234 (Nat.le_of_ble_eq_true rfl) (Nat.le_of_ble_eq_true rfl) (⟨_, rfl, _, h1, hI, (by have h3 := fI_first (w := x) hs hI; have h4 := fI_second (w := x) hs hI; have h33 := fI_first (w := fldF n1 g s x 3) hs hI; omega), fr_rf⟩)
                ·
                  refine gz_iload_n dX3_apply_229 rfl rfl ?_
                  refine gz_goto (tgt := 234) dX3_apply_230 (by decide) ?_
                  exact gz_iret rfl dX3_apply_234 (Nat.le_of_ble_eq_true rfl) (Nat.le_of_ble_eq_true rfl) (⟨_, rfl, _, h1, hI, (by have h3 := fI_first (w := x) hs hI; have h4 := fI_second (w := x) hs hI; have h33 := fI_first (w := fldF n1 g s x 3) hs hI; omega), fr_rf⟩)
              ·
                by_cases hw_40_7 : (fldF n1 g s x 0) = 7
                ·
                  refine gz_ev (w := .int 7) (congrArg Value.int hw_40_7) ?_
                  refine gz_tableIn (off := 184) (tgt := 224) dX3_apply_40 (by decide) (by decide) rfl (by decide) ?_
                  refine gz_iload dX3_apply_224 rfl ?_
                  refine gz_if_ne (tgt := 233) dX3_apply_226 (by decide) (fun c_226 => ?_) (fun c_226 => ?_)
                  ·
                    refine gz_iload_n dX3_apply_233 rfl rfl ?_
                    exact gz_iret rfl dX3_apply_234 (Nat.le_of_ble_eq_true rfl) (Nat.le_of_ble_eq_true rfl) (⟨_, rfl, _, h1, hI, (by have h3 := fI_first (w := x) hs hI; have h4 := fI_second (w := x) hs hI; have h33 := fI_first (w := fldF n1 g s x 3) hs hI; omega), fr_rf⟩)
                  ·
                    refine gz_iload_n dX3_apply_229 rfl rfl ?_
                    refine gz_goto (tgt := 234) dX3_apply_230 (by decide) ?_
                    exact gz_iret rfl dX3_apply_234 (Nat.le_of_ble_eq_true rfl) (Nat.le_of_ble_eq_true rfl) (⟨_, rfl, _, h1, hI, (by have h3 := fI_first (w := x) hs hI; have h4 := fI_second (w := x) hs hI; have h33 := fI_first (w := fldF n1 g s x 3) hs hI; omega), fr_rf⟩)
                ·
                  by_cases hw_40_8 : (fldF n1 g s x 0) = 8
                  ·
                    refine gz_ev (w := .int 8) (congrArg Value.int hw_40_8) ?_
                    refine gz_tableIn (off := 184) (tgt := 224) dX3_apply_40 (by decide) (by decide) rfl (by decide) ?_
                    refine gz_iload dX3_apply_224 rfl ?_
                    refine gz_if_ne (tgt := 233) dX3_apply_226 (by decide) (fun c_226 => ?_) (fun c_226 => ?_)
                    ·
                      refine gz_iload_n dX3_apply_233 rfl rfl ?_
                      exact gz_iret rfl dX3_apply_234 (Nat.le_of_ble_eq_true rfl) (Nat.le_of_ble_eq_true rfl) (⟨_, rfl, _, h1, hI, (by have h3 := fI_first (w := x) hs hI; have h4 := fI_second (w := x) hs hI; have h33 := fI_first (w := fldF n1 g s x 3) hs hI; omega), fr_rf⟩)
                    ·
                      refine gz_iload_n dX3_apply_229 rfl rfl ?_
                      refine gz_goto (tgt := 234) dX3_apply_230 (by decide) ?_
                      exact gz_iret rfl dX3_apply_234 (Nat.le_of_ble_eq_true rfl) (Nat.le_of_ble_eq_true rfl) (⟨_, rfl, _, h1, hI, (by have h3 := fI_first (w := x) hs hI; have h4 := fI_second (w := x) hs hI; have h33 := fI_first (w := fldF n1 g s x 3) hs hI; omega), fr_rf⟩)
                  ·
                    by_cases hw_40_9 : (fldF n1 g s x 0) = 9
                    ·
                      refine gz_ev (w := .int 9) (congrArg Value.int hw_40_9) ?_
                      refine gz_tableIn (off := 141) (tgt := 181) dX3_apply_40 (by decide) (by decide) rfl (by decide) ?_
                      refine gz_iload dX3_apply_181 rfl ?_
                      refine gz_if_ne (tgt := 190) dX3_apply_183 (by decide) (fun c_183 => ?_) (fun c_183 => ?_)
                      ·
                        refine gz_aload_n dX3_apply_190 rfl rfl ?_
                        refine gz_iload_n dX3_apply_191 rfl rfl ?_
                        refine gz_iload_n dX3_apply_192 rfl rfl ?_
                        obtain ⟨x1, hx1⟩ : ∃ x0, (scLF n1 n2 g h s v x (fldF n1 g s x 3)) = x0 := ⟨_, rfl⟩
                        refine scX3_59 (k_X3_scaleLaw (x := x) (y := (fldF n1 g s x 3)) hla hp h1 h2 hs hv hne) hla ⟨(Nat.le_of_ble_eq_true rfl), (Nat.le_of_ble_eq_true rfl)⟩ ⟨(Nat.le_of_ble_eq_true rfl), (Nat.le_of_ble_eq_true rfl)⟩ rfl rfl (Nat.le_of_ble_eq_true rfl) dX3_apply_193 ?_
                        rintro r3 f3 ⟨z3, h1_3, hr3⟩; rw [hx1] at z3 h1_3; rw [z3]
                        have hla_3 : f3 la = some (.inr (3, [.ref p, .ref bc])) := hr3 _ _ hla (by simp only [List.mem_cons, List.not_mem_nil, or_false, not_or]; exact cne hla h1 (by simp))
                        have hp_3 : f3 p = some (.inr (2, [.ref c1, .ref c2, .int s, .int v])) := hr3 _ _ hp (by simp only [List.mem_cons, List.not_mem_nil, or_false, not_or]; exact cne hp h1 (by simp))
                        have h2_3 : f3 c2 = some (.inl (cy 0, n2, .inl (h))) := hr3 _ _ h2 (by simp only [List.mem_cons, List.not_mem_nil, or_false, not_or]; exact Ne.symm (hne))
                        have hLx1 := scLF_ok (n2 := n2) (h := h) (v := v) (g := g) (x := x) (y := (fldF n1 g s x 3)) hs hI
                        rw [hx1] at hLx1
                        exact gz_iret rfl dX3_apply_196 (Nat.le_of_ble_eq_true rfl) (Nat.le_of_ble_eq_true rfl) (⟨_, rfl, _, h1_3, hLx1.2, (by have h3 := fI_first (w := x) hs hI; have h4 := fI_second (w := x) hs hI; have h33 := fI_first (w := fldF n1 g s x 3) hs hI; have hr1 := hLx1.1; first | (rcases hr1 with hr1 | hr1 <;> rw [hr1] <;> omega) | (rw [hr1]; omega)), (fr_tr fr_rf (fr_mo hr3 (by simp)))⟩)
                      ·
                        refine gz_iload_n dX3_apply_186 rfl rfl ?_
                        refine gz_goto (tgt := 196) dX3_apply_187 (by decide) ?_
                        exact gz_iret rfl dX3_apply_196 (Nat.le_of_ble_eq_true rfl) (Nat.le_of_ble_eq_true rfl) (⟨_, rfl, _, h1, hI, (by have h3 := fI_first (w := x) hs hI; have h4 := fI_second (w := x) hs hI; have h33 := fI_first (w := fldF n1 g s x 3) hs hI; omega), fr_rf⟩)
                    ·
                      by_cases hw_40_10 : (fldF n1 g s x 0) = 10
                      ·
                        refine gz_ev (w := .int 10) (congrArg Value.int hw_40_10) ?_
                        refine gz_tableIn (off := 157) (tgt := 197) dX3_apply_40 (by decide) (by decide) rfl (by decide) ?_
                        refine gz_iload dX3_apply_197 rfl ?_
                        refine gz_bipush (v := 10) dX3_apply_199 (by decide) ?_
                        refine gz_icmp_ne (tgt := 213) dX3_apply_201 (by decide) (fun c_201 => ?_) (fun c_201 => ?_)
                        ·
                          refine gz_iload dX3_apply_213 rfl ?_
                          refine gz_if_ne (tgt := 222) dX3_apply_215 (by decide) (fun c_215 => ?_) (fun c_215 => ?_)
                          ·
                            refine gz_iload_n dX3_apply_222 rfl rfl ?_
                            exact gz_iret rfl dX3_apply_223 (Nat.le_of_ble_eq_true rfl) (Nat.le_of_ble_eq_true rfl) (⟨_, rfl, _, h1, hI, (by have h3 := fI_first (w := x) hs hI; have h4 := fI_second (w := x) hs hI; have h33 := fI_first (w := fldF n1 g s x 3) hs hI; omega), fr_rf⟩)
                          ·
                            refine gz_iload_n dX3_apply_218 rfl rfl ?_
                            refine gz_goto (tgt := 223) dX3_apply_219 (by decide) ?_
                            exact gz_iret rfl dX3_apply_223 (Nat.le_of_ble_eq_true rfl) (Nat.le_of_ble_eq_true rfl) (⟨_, rfl, _, h1, hI, (by have h3 := fI_first (w := x) hs hI; have h4 := fI_second (w := x) hs hI; have h33 := fI_first (w := fldF n1 g s x 3) hs hI; omega), fr_rf⟩)
                        ·
                          refine gz_aload_n dX3_apply_204 rfl rfl ?_
                          refine gz_iload_n dX3_apply_205 rfl rfl ?_
                          refine gz_iload_n dX3_apply_206 rfl rfl ?_
                          obtain ⟨x2, hx2⟩ : ∃ x0, (cpLF n1 g s x (fldF n1 g s x 3)) = x0 := ⟨_, rfl⟩
                          refine scX3_62 (k_X3_capLaw (x := x) (y := (fldF n1 g s x 3)) hla hp h1 hs) hla ⟨(Nat.le_of_ble_eq_true rfl), (Nat.le_of_ble_eq_true rfl)⟩ ⟨(Nat.le_of_ble_eq_true rfl), (Nat.le_of_ble_eq_true rfl)⟩ rfl rfl (Nat.le_of_ble_eq_true rfl) dX3_apply_207 ?_
                          rintro r4 f4 ⟨z4, h1_4, hr4⟩; rw [hx2] at z4 h1_4; rw [z4]
                          have hla_4 : f4 la = some (.inr (3, [.ref p, .ref bc])) := hr4 _ _ hla (by simp only [List.mem_cons, List.not_mem_nil, or_false, not_or]; exact cne hla h1 (by simp))
                          have hp_4 : f4 p = some (.inr (2, [.ref c1, .ref c2, .int s, .int v])) := hr4 _ _ hp (by simp only [List.mem_cons, List.not_mem_nil, or_false, not_or]; exact cne hp h1 (by simp))
                          have h2_4 : f4 c2 = some (.inl (cy 0, n2, .inl (h))) := hr4 _ _ h2 (by simp only [List.mem_cons, List.not_mem_nil, or_false, not_or]; exact Ne.symm (hne))
                          have hLx2 := cpLF_ok (g := g) (x := x) (y := (fldF n1 g s x 3)) hs hI
                          rw [hx2] at hLx2
                          refine gz_goto (tgt := 223) dX3_apply_210 (by decide) ?_
                          exact gz_iret rfl dX3_apply_223 (Nat.le_of_ble_eq_true rfl) (Nat.le_of_ble_eq_true rfl) (⟨_, rfl, _, h1_4, hLx2.2, (by have h3 := fI_first (w := x) hs hI; have h4 := fI_second (w := x) hs hI; have h33 := fI_first (w := fldF n1 g s x 3) hs hI; have hr1 := hLx2.1; first | (rcases hr1 with hr1 | hr1 <;> rw [hr1] <;> omega) | (rw [hr1]; omega)), (fr_tr fr_rf (fr_mo hr4 (by simp)))⟩)
                      ·
                        refine gz_tableOut (tgt := 224) dX3_apply_40 (by have g0 : (fldF n1 g s x 0).toInt ≠ 0 := fun e => hw_40_0 (Int32.toInt_inj.mp (e.trans rfl)); have g1 : (fldF n1 g s x 0).toInt ≠ 1 := fun e => hw_40_1 (Int32.toInt_inj.mp (e.trans rfl)); have g2 : (fldF n1 g s x 0).toInt ≠ 2 := fun e => hw_40_2 (Int32.toInt_inj.mp (e.trans rfl)); have g3 : (fldF n1 g s x 0).toInt ≠ 3 := fun e => hw_40_3 (Int32.toInt_inj.mp (e.trans rfl)); have g4 : (fldF n1 g s x 0).toInt ≠ 4 := fun e => hw_40_4 (Int32.toInt_inj.mp (e.trans rfl)); have g5 : (fldF n1 g s x 0).toInt ≠ 5 := fun e => hw_40_5 (Int32.toInt_inj.mp (e.trans rfl)); have g6 : (fldF n1 g s x 0).toInt ≠ 6 := fun e => hw_40_6 (Int32.toInt_inj.mp (e.trans rfl)); have g7 : (fldF n1 g s x 0).toInt ≠ 7 := fun e => hw_40_7 (Int32.toInt_inj.mp (e.trans rfl)); have g8 : (fldF n1 g s x 0).toInt ≠ 8 := fun e => hw_40_8 (Int32.toInt_inj.mp (e.trans rfl)); have g9 : (fldF n1 g s x 0).toInt ≠ 9 := fun e => hw_40_9 (Int32.toInt_inj.mp (e.trans rfl)); have g10 : (fldF n1 g s x 0).toInt ≠ 10 := fun e => hw_40_10 (Int32.toInt_inj.mp (e.trans rfl)); omega) (by decide) ?_
                        refine gz_iload dX3_apply_224 rfl ?_
                        refine gz_if_ne (tgt := 233) dX3_apply_226 (by decide) (fun c_226 => ?_) (fun c_226 => ?_)
                        ·
                          refine gz_iload_n dX3_apply_233 rfl rfl ?_
                          exact gz_iret rfl dX3_apply_234 (Nat.le_of_ble_eq_true rfl) (Nat.le_of_ble_eq_true rfl) (⟨_, rfl, _, h1, hI, (by have h3 := fI_first (w := x) hs hI; have h4 := fI_second (w := x) hs hI; have h33 := fI_first (w := fldF n1 g s x 3) hs hI; omega), fr_rf⟩)
                        ·
                          refine gz_iload_n dX3_apply_229 rfl rfl ?_
                          refine gz_goto (tgt := 234) dX3_apply_230 (by decide) ?_
                          exact gz_iret rfl dX3_apply_234 (Nat.le_of_ble_eq_true rfl) (Nat.le_of_ble_eq_true rfl) (⟨_, rfl, _, h1, hI, (by have h3 := fI_first (w := x) hs hI; have h4 := fI_second (w := x) hs hI; have h33 := fI_first (w := fldF n1 g s x 3) hs hI; omega), fr_rf⟩)

set_option maxHeartbeats 4000000 in
set_option maxRecDepth 100000 in
theorem k_X3_sameEitherWay {l : Launch} {D : va_G} {cy : Nat → ClassId} {b : Nat} {f : gMem} {la p c1 c2 n1 n2 q d1 d2 m1 m2 : Nat} {s v qs qv : Int32} {g h gq hh : Nat → Int32} (hp : f p = some (.inr (2, [.ref c1, .ref c2, .int s, .int v]))) (h1 : f c1 = some (.inl (cy 0, n1, .inl (g)))) (h2 : f c2 = some (.inl (cy 0, n2, .inl (h)))) (hq0 : f q = some (.inr (2, [.ref d1, .ref d2, .int qs, .int qv]))) (hd1 : f d1 = some (.inl (cy 0, m1, .inl (gq)))) (hd2 : f d2 = some (.inl (cy 0, m2, .inl (hh)))) (hs : 0 ≤ s.toInt ∧ 13 * s.toInt ≤ n1 ∧ n1 ≤ 520) (hv : 0 ≤ v.toInt ∧ 2 * v.toInt ≤ n2 ∧ n2 ≤ 80) (hqs : 0 ≤ qs.toInt ∧ 13 * qs.toInt ≤ m1 ∧ m1 ≤ 520) (hqv : 0 ≤ qv.toInt ∧ 2 * qv.toInt ≤ m2 ∧ m2 ≤ 80) (hI : fI g s.toInt) : gC l D cy b yX3_sameEitherWay cX3_sameEitherWay 3 (some .boolean) 46 0 0 [.ref la, .ref p, .ref q] f (pI fun r f2 => (r = 0 ∨ r = 1) ∧ f2 = f) := by
  refine gC_of (by decide) (Nat.le_of_ble_eq_true rfl) ?_
  show gG l _ _ _ D cy b cX3_sameEitherWay 3 _ RX3 "sameEitherWay" 0 0 f 0 [(0, .ref la), (1, .ref p), (2, .ref q)] []
  refine gz_aload_n dX3_sameEitherWay_0 rfl rfl ?_
  refine gz_iconst (v := 0) dX3_sameEitherWay_1 (by decide) ?_
  refine gz_aload_n dX3_sameEitherWay_2 rfl rfl ?_
  refine gz_iconst (v := 0) dX3_sameEitherWay_3 (by decide) ?_
  refine gz_iconst (v := 1) dX3_sameEitherWay_4 (by decide) ?_
  refine scX3_48 (k_X3_alike hs hv hqs hqv hI 42 0 0 1 _ hp h1 h2 hq0 hd1 hd2 ⟨by decide, fun _ => by have e0 : (0 : Int32).toInt = 0 := rfl; omega⟩) ⟨(Nat.le_of_ble_eq_true rfl), (Nat.le_of_ble_eq_true rfl)⟩ ⟨(Nat.le_of_ble_eq_true rfl), (Nat.le_of_ble_eq_true rfl)⟩ rfl rfl (Nat.le_of_ble_eq_true rfl) dX3_sameEitherWay_5 ?_
  rintro r1 f1 ⟨hb1, hf1⟩; subst hf1
  exact gz_zret rfl (by first | decide | exact nrb (Or.inl rfl) | (refine nrb ?_; (repeat' split) <;> first | assumption | exact Or.inl rfl | exact Or.inr rfl)) dX3_sameEitherWay_8 (Nat.le_of_ble_eq_true rfl) (Nat.le_of_ble_eq_true rfl) (⟨_, rfl, (by assumption), rfl⟩)

theorem bI_up {bg : Nat → Int32} {i r : Int32} {m : Int} (hB : bI bg i.toInt m) (hi : 0 ≤ i.toInt) (hr : r.toInt = -1 ∨ (i.toInt ≤ r.toInt ∧ r.toInt < m)) : bI (upd bg i.toNatClampNeg r) (i.toInt - 1) m := by
  intro j h1 h2
  rw [cl_N (rfl : i.toInt = _) hi]
  show (if j = _ then r else bg j : Int32).toInt = -1 ∨ (_ ≤ (if j = _ then r else bg j : Int32).toInt ∧ (if j = _ then r else bg j : Int32).toInt < m)
  by_cases e : j = i.toInt.toNat
  · rw [if_pos e]; omega
  · rw [if_neg e]; exact hB j (by omega) h2

set_option maxHeartbeats 4000000 in
set_option maxRecDepth 100000 in
theorem l_X3_shorten {l : Launch} {D : va_G} {cy : Nat → ClassId} {b : Nat} {f : gMem} {la p c1 c2 n1 n2 bc q d1 d2 m1 m2 t t1 t2 k1 k2 : Nat} {qs qv : Int32} {gq hh : Nat → Int32}  (hqs : 0 ≤ qs.toInt ∧ 13 * qs.toInt ≤ m1 ∧ m1 ≤ 520) (hqv : 0 ≤ qv.toInt ∧ 2 * qv.toInt ≤ m2 ∧ m2 ≤ 80) (hne : p ≠ q ∧ p ≠ t ∧ q ≠ t ∧ c1 ≠ c2 ∧ c1 ≠ d1 ∧ c1 ≠ d2 ∧ c1 ≠ t1 ∧ c1 ≠ t2 ∧ c1 ≠ bc ∧ c2 ≠ d1 ∧ c2 ≠ d2 ∧ c2 ≠ t1 ∧ c2 ≠ t2 ∧ c2 ≠ bc ∧ d1 ≠ d2 ∧ d1 ≠ t1 ∧ d1 ≠ t2 ∧ d1 ≠ bc ∧ d2 ≠ t1 ∧ d2 ≠ t2 ∧ d2 ≠ bc ∧ t1 ≠ t2 ∧ t1 ≠ bc ∧ t2 ≠ bc) (hk12 : k1 ≤ 520 ∧ k2 ≤ 80) : ∀ (k : Nat) (i s v : Int32) (g h bg tg th : Nat → Int32) (ts tv : Int32) (fm : gMem), fr [p, c1, c2, bc, t, t1, t2] f fm → (fm la = some (.inr (3, [.ref p, .ref bc]))) → (fm bc = some (.inl (cy 0, 40, .inl (bg)))) → (fm p = some (.inr (2, [.ref c1, .ref c2, .int s, .int v]))) → (fm c1 = some (.inl (cy 0, n1, .inl (g)))) → (fm c2 = some (.inl (cy 0, n2, .inl (h)))) → (fm q = some (.inr (2, [.ref d1, .ref d2, .int qs, .int qv]))) → (fm d1 = some (.inl (cy 0, m1, .inl (gq)))) → (fm d2 = some (.inl (cy 0, m2, .inl (hh)))) → (fm t = some (.inr (2, [.ref t1, .ref t2, .int ts, .int tv]))) → (fm t1 = some (.inl (cy 0, k1, .inl (tg)))) → (fm t2 = some (.inl (cy 0, k2, .inl (th)))) → (0 ≤ s.toInt ∧ 13 * s.toInt ≤ n1 ∧ n1 ≤ 520) → (0 ≤ v.toInt ∧ 2 * v.toInt ≤ n2 ∧ n2 ≤ 80) → (fI g s.toInt) → (bI bg i.toInt s.toInt) → (-1 ≤ i.toInt ∧ i.toInt < s.toInt ∧ i.toInt + 1 < (k : Int)) → gG l (gRm 47 0 0) (gQf D b (pV fun f2 => ∃ (s2 v2 s3 v3 : Int32) (g2 h2 g3 h3 b2 : Nat → Int32), f2 p = some (.inr (2, [.ref c1, .ref c2, .int s2, .int v2])) ∧ f2 c1 = some (.inl (cy 0, n1, .inl (g2))) ∧ f2 c2 = some (.inl (cy 0, n2, .inl (h2))) ∧ f2 bc = some (.inl (cy 0, 40, .inl (b2))) ∧ f2 t = some (.inr (2, [.ref t1, .ref t2, .int s3, .int v3])) ∧ f2 t1 = some (.inl (cy 0, k1, .inl (g3))) ∧ f2 t2 = some (.inl (cy 0, k2, .inl (h3))) ∧ (0 ≤ s3.toInt ∧ 13 * s3.toInt ≤ k1 ∧ k1 ≤ 520) ∧ (0 ≤ v3.toInt ∧ 2 * v3.toInt ≤ k2 ∧ k2 ≤ 80) ∧ fI g3 s3.toInt ∧ fr [p, c1, c2, bc, t, t1, t2] f f2) 0 0) gTt D cy b cX3_shorten 4 none RX3 "shorten" (0) (0) fm 32 [(3, .int i), (0, .ref la), (1, .ref q), (2, .ref t)] [] := by
  intro k
  induction k with
  | zero =>
    intro i s v g h bg tg th ts tv fm hfr hla hbc hp h1 h2 hq0 hd1 hd2 ht0 ht1 ht2 hs hv hI hB hk
    exfalso; omega
  | succ k ih =>
    intro i s v g h bg tg th ts tv fm hfr hla hbc hp h1 h2 hq0 hd1 hd2 ht0 ht1 ht2 hs hv hI hB hk
    refine gz_iload_n dX3_shorten_32 rfl rfl ?_
    refine gz_if_lt (tgt := 65) dX3_shorten_33 (by decide) (fun c_33 => ?_) (fun c_33 => ?_)
    ·
      refine gz_aload_n dX3_shorten_65 rfl rfl ?_
      refine scX3_24 (k_X2_clear ht0) ht0 ⟨(Nat.le_of_ble_eq_true rfl), (Nat.le_of_ble_eq_true rfl)⟩ ⟨(Nat.le_of_ble_eq_true rfl), (Nat.le_of_ble_eq_true rfl)⟩ rfl rfl (Nat.le_of_ble_eq_true rfl) dX3_shorten_66 ?_
      rintro f1 ⟨ht0_1, hr1⟩
      have hla_1 : f1 la = some (.inr (3, [.ref p, .ref bc])) := hr1 _ _ hla (by simp only [List.mem_cons, List.not_mem_nil, or_false, not_or]; exact cne hla ht0 (by simp))
      have hbc_1 : f1 bc = some (.inl (cy 0, 40, .inl (bg))) := hr1 _ _ hbc (by simp only [List.mem_cons, List.not_mem_nil, or_false, not_or]; exact cne hbc ht0 (by simp))
      have hp_1 : f1 p = some (.inr (2, [.ref c1, .ref c2, .int s, .int v])) := hr1 _ _ hp (by simp only [List.mem_cons, List.not_mem_nil, or_false, not_or]; exact hne.2.1)
      have h1_1 : f1 c1 = some (.inl (cy 0, n1, .inl (g))) := hr1 _ _ h1 (by simp only [List.mem_cons, List.not_mem_nil, or_false, not_or]; exact cne h1 ht0 (by simp))
      have h2_1 : f1 c2 = some (.inl (cy 0, n2, .inl (h))) := hr1 _ _ h2 (by simp only [List.mem_cons, List.not_mem_nil, or_false, not_or]; exact cne h2 ht0 (by simp))
      have hq0_1 : f1 q = some (.inr (2, [.ref d1, .ref d2, .int qs, .int qv])) := hr1 _ _ hq0 (by simp only [List.mem_cons, List.not_mem_nil, or_false, not_or]; exact hne.2.2.1)
      have hd1_1 : f1 d1 = some (.inl (cy 0, m1, .inl (gq))) := hr1 _ _ hd1 (by simp only [List.mem_cons, List.not_mem_nil, or_false, not_or]; exact cne hd1 ht0 (by simp))
      have hd2_1 : f1 d2 = some (.inl (cy 0, m2, .inl (hh))) := hr1 _ _ hd2 (by simp only [List.mem_cons, List.not_mem_nil, or_false, not_or]; exact cne hd2 ht0 (by simp))
      have ht1_1 : f1 t1 = some (.inl (cy 0, k1, .inl (tg))) := hr1 _ _ ht1 (by simp only [List.mem_cons, List.not_mem_nil, or_false, not_or]; exact cne ht1 ht0 (by simp))
      have ht2_1 : f1 t2 = some (.inl (cy 0, k2, .inl (th))) := hr1 _ _ ht2 (by simp only [List.mem_cons, List.not_mem_nil, or_false, not_or]; exact cne ht2 ht0 (by simp))
      refine gz_aload_n dX3_shorten_69 rfl rfl ?_
      refine sgX3_14 hla_1 rfl dX3_shorten_70 ?_
      refine gz_aload_n dX3_shorten_73 rfl rfl ?_
      refine sgX3_20 hla_1 rfl dX3_shorten_74 ?_
      refine gz_iconst (v := 0) dX3_shorten_77 (by decide) ?_
      refine gz_iald hbc_1 (vin_T (v := 0) rfl (by decide) (by decide)) dX3_shorten_78 ?_
      refine gz_aload_n dX3_shorten_79 rfl rfl ?_
      refine gz_iconst (v := (-1)) dX3_shorten_80 (by decide) ?_
      refine scX3_27 (k_X3_copyDeed hs hv ⟨hne.2.1, hne.2.2.2.2.2.2.1, hne.2.2.2.2.2.2.2.1, hne.2.2.2.2.2.2.2.2.2.2.2.1, hne.2.2.2.2.2.2.2.2.2.2.2.2.1, hne.2.2.2.2.2.2.2.2.2.2.2.2.2.2.2.2.2.2.2.2.2.1⟩ 41 (bg (Int32.toNatClampNeg 0)) (-1) 0 0 tg th _ hp_1 h1_1 h2_1 ht0_1 ht1_1 ht2_1 (by have e0 : (0 : Int32).toInt = 0 := rfl; omega) (by have e0 : (0 : Int32).toInt = 0 := rfl; omega) (fun i hi => absurd hi (by have e0 : (0 : Int32).toInt = 0 := rfl; omega)) (by decide)) ⟨(Nat.le_of_ble_eq_true rfl), (Nat.le_of_ble_eq_true rfl)⟩ ⟨(Nat.le_of_ble_eq_true rfl), (Nat.le_of_ble_eq_true rfl)⟩ rfl rfl (Nat.le_of_ble_eq_true rfl) dX3_shorten_81 ?_
      rintro f2 ⟨s_2, v_2, g_2, h_2, ht0_2, ht1_2, ht2_2, hs_2, hv_2, hI_2, hle_2, hr2⟩
      have hla_2 : f2 la = some (.inr (3, [.ref p, .ref bc])) := hr2 _ _ hla_1 (by simp only [List.mem_cons, List.not_mem_nil, or_false, not_or]; exact ⟨cne hla_1 ht0_1 (by simp), cne hla_1 ht1_1 (by simp), cne hla_1 ht2_1 (by simp)⟩)
      have hbc_2 : f2 bc = some (.inl (cy 0, 40, .inl (bg))) := hr2 _ _ hbc_1 (by simp only [List.mem_cons, List.not_mem_nil, or_false, not_or]; exact ⟨cne hbc_1 ht0_1 (by simp), Ne.symm (hne.2.2.2.2.2.2.2.2.2.2.2.2.2.2.2.2.2.2.2.2.2.2.1), Ne.symm (hne.2.2.2.2.2.2.2.2.2.2.2.2.2.2.2.2.2.2.2.2.2.2.2)⟩)
      have hp_2 : f2 p = some (.inr (2, [.ref c1, .ref c2, .int s, .int v])) := hr2 _ _ hp_1 (by simp only [List.mem_cons, List.not_mem_nil, or_false, not_or]; exact ⟨hne.2.1, cne hp_1 ht1_1 (by simp), cne hp_1 ht2_1 (by simp)⟩)
      have h1_2 : f2 c1 = some (.inl (cy 0, n1, .inl (g))) := hr2 _ _ h1_1 (by simp only [List.mem_cons, List.not_mem_nil, or_false, not_or]; exact ⟨cne h1_1 ht0_1 (by simp), hne.2.2.2.2.2.2.1, hne.2.2.2.2.2.2.2.1⟩)
      have h2_2 : f2 c2 = some (.inl (cy 0, n2, .inl (h))) := hr2 _ _ h2_1 (by simp only [List.mem_cons, List.not_mem_nil, or_false, not_or]; exact ⟨cne h2_1 ht0_1 (by simp), hne.2.2.2.2.2.2.2.2.2.2.2.1, hne.2.2.2.2.2.2.2.2.2.2.2.2.1⟩)
      have hq0_2 : f2 q = some (.inr (2, [.ref d1, .ref d2, .int qs, .int qv])) := hr2 _ _ hq0_1 (by simp only [List.mem_cons, List.not_mem_nil, or_false, not_or]; exact ⟨hne.2.2.1, cne hq0_1 ht1_1 (by simp), cne hq0_1 ht2_1 (by simp)⟩)
      have hd1_2 : f2 d1 = some (.inl (cy 0, m1, .inl (gq))) := hr2 _ _ hd1_1 (by simp only [List.mem_cons, List.not_mem_nil, or_false, not_or]; exact ⟨cne hd1_1 ht0_1 (by simp), hne.2.2.2.2.2.2.2.2.2.2.2.2.2.2.2.1, hne.2.2.2.2.2.2.2.2.2.2.2.2.2.2.2.2.1⟩)
      have hd2_2 : f2 d2 = some (.inl (cy 0, m2, .inl (hh))) := hr2 _ _ hd2_1 (by simp only [List.mem_cons, List.not_mem_nil, or_false, not_or]; exact ⟨cne hd2_1 ht0_1 (by simp), hne.2.2.2.2.2.2.2.2.2.2.2.2.2.2.2.2.2.2.1, hne.2.2.2.2.2.2.2.2.2.2.2.2.2.2.2.2.2.2.2.1⟩)
      exact gz_vret rfl dX3_shorten_84 (Nat.le_of_ble_eq_true rfl) (Nat.le_of_ble_eq_true rfl) (⟨rfl, _, _, _, _, _, _, _, _, _, hp_2, h1_2, h2_2, hbc_2, ht0_2, ht1_2, ht2_2, hs_2, hv_2, hI_2, (fr_tr (fr_tr hfr (fr_mo hr1 (by simp))) (fr_mo hr2 (by simp)))⟩)
    ·
      refine gz_aload_n dX3_shorten_36 rfl rfl ?_
      refine gz_iload_n dX3_shorten_37 rfl rfl ?_
      refine gz_iconst (v := 3) dX3_shorten_38 (by decide) ?_
      obtain ⟨x1, hx1⟩ : ∃ x0, (folF n1 g s bg i 3) = x0 := ⟨_, rfl⟩
      refine scX3_41 (k_X3_follow (x := i) (y := 3) hla hbc hp h1 hs (Ne.symm hne.2.2.2.2.2.2.2.2.1)) hla ⟨(Nat.le_of_ble_eq_true rfl), (Nat.le_of_ble_eq_true rfl)⟩ ⟨(Nat.le_of_ble_eq_true rfl), (Nat.le_of_ble_eq_true rfl)⟩ rfl rfl (Nat.le_of_ble_eq_true rfl) dX3_shorten_39 ?_
      rintro f3 ⟨h1_3, hr3⟩; rw [hx1] at h1_3
      have hla_3 : f3 la = some (.inr (3, [.ref p, .ref bc])) := hr3 _ _ hla (by simp only [List.mem_cons, List.not_mem_nil, or_false, not_or]; exact cne hla h1 (by simp))
      have hbc_3 : f3 bc = some (.inl (cy 0, 40, .inl (bg))) := hr3 _ _ hbc (by simp only [List.mem_cons, List.not_mem_nil, or_false, not_or]; exact Ne.symm (hne.2.2.2.2.2.2.2.2.1))
      have hp_3 : f3 p = some (.inr (2, [.ref c1, .ref c2, .int s, .int v])) := hr3 _ _ hp (by simp only [List.mem_cons, List.not_mem_nil, or_false, not_or]; exact cne hp h1 (by simp))
      have h2_3 : f3 c2 = some (.inl (cy 0, n2, .inl (h))) := hr3 _ _ h2 (by simp only [List.mem_cons, List.not_mem_nil, or_false, not_or]; exact Ne.symm (hne.2.2.2.1))
      have hq0_3 : f3 q = some (.inr (2, [.ref d1, .ref d2, .int qs, .int qv])) := hr3 _ _ hq0 (by simp only [List.mem_cons, List.not_mem_nil, or_false, not_or]; exact cne hq0 h1 (by simp))
      have hd1_3 : f3 d1 = some (.inl (cy 0, m1, .inl (gq))) := hr3 _ _ hd1 (by simp only [List.mem_cons, List.not_mem_nil, or_false, not_or]; exact Ne.symm (hne.2.2.2.2.1))
      have hd2_3 : f3 d2 = some (.inl (cy 0, m2, .inl (hh))) := hr3 _ _ hd2 (by simp only [List.mem_cons, List.not_mem_nil, or_false, not_or]; exact Ne.symm (hne.2.2.2.2.2.1))
      have ht0_3 : f3 t = some (.inr (2, [.ref t1, .ref t2, .int ts, .int tv])) := hr3 _ _ ht0 (by simp only [List.mem_cons, List.not_mem_nil, or_false, not_or]; exact cne ht0 h1 (by simp))
      have ht1_3 : f3 t1 = some (.inl (cy 0, k1, .inl (tg))) := hr3 _ _ ht1 (by simp only [List.mem_cons, List.not_mem_nil, or_false, not_or]; exact Ne.symm (hne.2.2.2.2.2.2.1))
      have ht2_3 : f3 t2 = some (.inl (cy 0, k2, .inl (th))) := hr3 _ _ ht2 (by simp only [List.mem_cons, List.not_mem_nil, or_false, not_or]; exact Ne.symm (hne.2.2.2.2.2.2.2.1))
      have hIx1 : fI x1 s.toInt := by rw [← hx1]; exact folF_fi hs hI hB (by first | exact Or.inl rfl | exact Or.inr rfl)
      refine gz_aload_n dX3_shorten_42 rfl rfl ?_
      refine gz_iload_n dX3_shorten_43 rfl rfl ?_
      refine gz_iconst (v := 4) dX3_shorten_44 (by decide) ?_
      obtain ⟨x2, hx2⟩ : ∃ x0, (folF n1 x1 s bg i 4) = x0 := ⟨_, rfl⟩
      refine scX3_41 (k_X3_follow (x := i) (y := 4) hla_3 hbc_3 hp_3 h1_3 hs (Ne.symm hne.2.2.2.2.2.2.2.2.1)) hla_3 ⟨(Nat.le_of_ble_eq_true rfl), (Nat.le_of_ble_eq_true rfl)⟩ ⟨(Nat.le_of_ble_eq_true rfl), (Nat.le_of_ble_eq_true rfl)⟩ rfl rfl (Nat.le_of_ble_eq_true rfl) dX3_shorten_45 ?_
      rintro f4 ⟨h1_4, hr4⟩; rw [hx2] at h1_4
      have hla_4 : f4 la = some (.inr (3, [.ref p, .ref bc])) := hr4 _ _ hla_3 (by simp only [List.mem_cons, List.not_mem_nil, or_false, not_or]; exact cne hla_3 h1_3 (by simp))
      have hbc_4 : f4 bc = some (.inl (cy 0, 40, .inl (bg))) := hr4 _ _ hbc_3 (by simp only [List.mem_cons, List.not_mem_nil, or_false, not_or]; exact Ne.symm (hne.2.2.2.2.2.2.2.2.1))
      have hp_4 : f4 p = some (.inr (2, [.ref c1, .ref c2, .int s, .int v])) := hr4 _ _ hp_3 (by simp only [List.mem_cons, List.not_mem_nil, or_false, not_or]; exact cne hp_3 h1_3 (by simp))
      have h2_4 : f4 c2 = some (.inl (cy 0, n2, .inl (h))) := hr4 _ _ h2_3 (by simp only [List.mem_cons, List.not_mem_nil, or_false, not_or]; exact Ne.symm (hne.2.2.2.1))
      have hq0_4 : f4 q = some (.inr (2, [.ref d1, .ref d2, .int qs, .int qv])) := hr4 _ _ hq0_3 (by simp only [List.mem_cons, List.not_mem_nil, or_false, not_or]; exact cne hq0_3 h1_3 (by simp))
      have hd1_4 : f4 d1 = some (.inl (cy 0, m1, .inl (gq))) := hr4 _ _ hd1_3 (by simp only [List.mem_cons, List.not_mem_nil, or_false, not_or]; exact Ne.symm (hne.2.2.2.2.1))
      have hd2_4 : f4 d2 = some (.inl (cy 0, m2, .inl (hh))) := hr4 _ _ hd2_3 (by simp only [List.mem_cons, List.not_mem_nil, or_false, not_or]; exact Ne.symm (hne.2.2.2.2.2.1))
      have ht0_4 : f4 t = some (.inr (2, [.ref t1, .ref t2, .int ts, .int tv])) := hr4 _ _ ht0_3 (by simp only [List.mem_cons, List.not_mem_nil, or_false, not_or]; exact cne ht0_3 h1_3 (by simp))
      have ht1_4 : f4 t1 = some (.inl (cy 0, k1, .inl (tg))) := hr4 _ _ ht1_3 (by simp only [List.mem_cons, List.not_mem_nil, or_false, not_or]; exact Ne.symm (hne.2.2.2.2.2.2.1))
      have ht2_4 : f4 t2 = some (.inl (cy 0, k2, .inl (th))) := hr4 _ _ ht2_3 (by simp only [List.mem_cons, List.not_mem_nil, or_false, not_or]; exact Ne.symm (hne.2.2.2.2.2.2.2.1))
      have hIx2 : fI x2 s.toInt := by rw [← hx2]; exact folF_fi hs hIx1 hB (by first | exact Or.inl rfl | exact Or.inr rfl)
      refine gz_aload_n dX3_shorten_48 rfl rfl ?_
      refine sgX3_20 hla_4 rfl dX3_shorten_49 ?_
      refine gz_iload_n dX3_shorten_52 rfl rfl ?_
      refine gz_aload_n dX3_shorten_53 rfl rfl ?_
      refine gz_iload_n dX3_shorten_54 rfl rfl ?_
      refine scX3_44 (k_X3_apply (x := i) hla_4 hp_4 h1_4 h2_4 hs hv hne.2.2.2.1 hIx2 (by have e0 : (0 : Int32).toInt = 0 := rfl; simp only [fl_lt] at c_33; omega)) hla_4 ⟨(Nat.le_of_ble_eq_true rfl), (Nat.le_of_ble_eq_true rfl)⟩ ⟨(Nat.le_of_ble_eq_true rfl), (Nat.le_of_ble_eq_true rfl)⟩ rfl rfl (Nat.le_of_ble_eq_true rfl) dX3_shorten_55 ?_
      rintro r5 f5 ⟨g_5, h1_5, hI_5, hra_5, hr5⟩
      have hla_5 : f5 la = some (.inr (3, [.ref p, .ref bc])) := hr5 _ _ hla_4 (by simp only [List.mem_cons, List.not_mem_nil, or_false, not_or]; exact cne hla_4 h1_4 (by simp))
      have hbc_5 : f5 bc = some (.inl (cy 0, 40, .inl (bg))) := hr5 _ _ hbc_4 (by simp only [List.mem_cons, List.not_mem_nil, or_false, not_or]; exact Ne.symm (hne.2.2.2.2.2.2.2.2.1))
      have hp_5 : f5 p = some (.inr (2, [.ref c1, .ref c2, .int s, .int v])) := hr5 _ _ hp_4 (by simp only [List.mem_cons, List.not_mem_nil, or_false, not_or]; exact cne hp_4 h1_4 (by simp))
      have h2_5 : f5 c2 = some (.inl (cy 0, n2, .inl (h))) := hr5 _ _ h2_4 (by simp only [List.mem_cons, List.not_mem_nil, or_false, not_or]; exact Ne.symm (hne.2.2.2.1))
      have hq0_5 : f5 q = some (.inr (2, [.ref d1, .ref d2, .int qs, .int qv])) := hr5 _ _ hq0_4 (by simp only [List.mem_cons, List.not_mem_nil, or_false, not_or]; exact cne hq0_4 h1_4 (by simp))
      have hd1_5 : f5 d1 = some (.inl (cy 0, m1, .inl (gq))) := hr5 _ _ hd1_4 (by simp only [List.mem_cons, List.not_mem_nil, or_false, not_or]; exact Ne.symm (hne.2.2.2.2.1))
      have hd2_5 : f5 d2 = some (.inl (cy 0, m2, .inl (hh))) := hr5 _ _ hd2_4 (by simp only [List.mem_cons, List.not_mem_nil, or_false, not_or]; exact Ne.symm (hne.2.2.2.2.2.1))
      have ht0_5 : f5 t = some (.inr (2, [.ref t1, .ref t2, .int ts, .int tv])) := hr5 _ _ ht0_4 (by simp only [List.mem_cons, List.not_mem_nil, or_false, not_or]; exact cne ht0_4 h1_4 (by simp))
      have ht1_5 : f5 t1 = some (.inl (cy 0, k1, .inl (tg))) := hr5 _ _ ht1_4 (by simp only [List.mem_cons, List.not_mem_nil, or_false, not_or]; exact Ne.symm (hne.2.2.2.2.2.2.1))
      have ht2_5 : f5 t2 = some (.inl (cy 0, k2, .inl (th))) := hr5 _ _ ht2_4 (by simp only [List.mem_cons, List.not_mem_nil, or_false, not_or]; exact Ne.symm (hne.2.2.2.2.2.2.2.1))
      refine gz_iast hbc_5 ((by have e0 : (0 : Int32).toInt = 0 := rfl; simp only [fl_lt] at c_33; exact vin_T (rfl : i.toInt = i.toInt) (by omega) (by omega))) dX3_shorten_58 ?_
      obtain ⟨f6, hf6⟩ : ∃ gg : gMem, gg = va_up f5 bc (some (.inl (cy 0, 40, .inl (upd bg (Int32.toNatClampNeg i) r5)))) := ⟨_, rfl⟩
      refine gz_eq (f2 := f6) hf6.symm rfl rfl rfl ?_
      have hla_6 : f6 la = some (.inr (3, [.ref p, .ref bc])) := by rw [hf6, va_up_ne _ _ (cne hla_5 hbc_5 (by simp))]; exact hla_5
      have hp_6 : f6 p = some (.inr (2, [.ref c1, .ref c2, .int s, .int v])) := by rw [hf6, va_up_ne _ _ (cne hp_5 hbc_5 (by simp))]; exact hp_5
      have h2_6 : f6 c2 = some (.inl (cy 0, n2, .inl (h))) := by rw [hf6, va_up_ne _ _ (hne.2.2.2.2.2.2.2.2.2.2.2.2.2.1)]; exact h2_5
      have hq0_6 : f6 q = some (.inr (2, [.ref d1, .ref d2, .int qs, .int qv])) := by rw [hf6, va_up_ne _ _ (cne hq0_5 hbc_5 (by simp))]; exact hq0_5
      have hd1_6 : f6 d1 = some (.inl (cy 0, m1, .inl (gq))) := by rw [hf6, va_up_ne _ _ (hne.2.2.2.2.2.2.2.2.2.2.2.2.2.2.2.2.2.1)]; exact hd1_5
      have hd2_6 : f6 d2 = some (.inl (cy 0, m2, .inl (hh))) := by rw [hf6, va_up_ne _ _ (hne.2.2.2.2.2.2.2.2.2.2.2.2.2.2.2.2.2.2.2.2.1)]; exact hd2_5
      have ht0_6 : f6 t = some (.inr (2, [.ref t1, .ref t2, .int ts, .int tv])) := by rw [hf6, va_up_ne _ _ (cne ht0_5 hbc_5 (by simp))]; exact ht0_5
      have ht1_6 : f6 t1 = some (.inl (cy 0, k1, .inl (tg))) := by rw [hf6, va_up_ne _ _ (hne.2.2.2.2.2.2.2.2.2.2.2.2.2.2.2.2.2.2.2.2.2.2.1)]; exact ht1_5
      have ht2_6 : f6 t2 = some (.inl (cy 0, k2, .inl (th))) := by rw [hf6, va_up_ne _ _ (hne.2.2.2.2.2.2.2.2.2.2.2.2.2.2.2.2.2.2.2.2.2.2.2)]; exact ht2_5
      have h1_6 : f6 c1 = some (.inl (cy 0, n1, .inl (g_5))) := by rw [hf6, va_up_ne _ _ (hne.2.2.2.2.2.2.2.2.1)]; exact h1_5
      have hbc_6 : f6 bc = some (.inl (cy 0, 40, .inl (upd bg (Int32.toNatClampNeg i) r5))) := by rw [hf6]; exact va_up_self _ _ _
      refine gz_iinc (v := (i + (-1))) (lv' := [(3, .int (i + (-1))), (0, .ref la), (1, .ref q), (2, .ref t)]) dX3_shorten_59 rfl (congrArg (fun z => i + z) oi_m1) (by decide) rfl ?_
      refine gz_goto (tgt := 32) dX3_shorten_62 (by decide) ?_
      refine gz_sub (lv' := [(3, .int (i + (-1))), (0, .ref la), (1, .ref q), (2, .ref t)]) (by simp [List.lookup]) ?_
      have hi2 : 0 ≤ i.toInt := by have e0 : (0 : Int32).toInt = 0 := rfl; simp only [fl_lt] at c_33; omega
      have hi3 : i.toInt ≤ 2147483647 := by omega
      have hi4 : -2147483647 ≤ i.toInt := by omega
      have hb2 := bI_up hB hi2 hra_5
      have hx2 : (i + (-1)).toInt = i.toInt - 1 := T_dec hi4 hi3
      generalize i + (-1) = j at hx2 ⊢
      exact ih j s v g_5 h (upd bg (Int32.toNatClampNeg i) r5) tg th ts tv _ (by rw [hf6]; exact fr_up (fr_tr (fr_tr (fr_tr hfr (fr_mo hr3 (by simp))) (fr_mo hr4 (by simp))) (fr_mo hr5 (by simp))) (by simp)) hla_6 hbc_6 hp_6 h1_6 h2_6 hq0_6 hd1_6 hd2_6 ht0_6 ht1_6 ht2_6 (hs) (hv) (hI_5) ((by rw [hx2]; exact hb2)) ((by omega))

set_option maxHeartbeats 4000000 in
set_option maxRecDepth 100000 in
theorem k_X3_shorten {l : Launch} {D : va_G} {cy : Nat → ClassId} {b : Nat} {f : gMem} {la p c1 c2 n1 n2 bc q d1 d2 m1 m2 t t1 t2 k1 k2 : Nat} {s v qs qv ts tv : Int32} {g h bg gq hh tg th : Nat → Int32} (hla : f la = some (.inr (3, [.ref p, .ref bc]))) (hbc : f bc = some (.inl (cy 0, 40, .inl (bg)))) (hp : f p = some (.inr (2, [.ref c1, .ref c2, .int s, .int v]))) (h1 : f c1 = some (.inl (cy 0, n1, .inl (g)))) (h2 : f c2 = some (.inl (cy 0, n2, .inl (h)))) (hq0 : f q = some (.inr (2, [.ref d1, .ref d2, .int qs, .int qv]))) (hd1 : f d1 = some (.inl (cy 0, m1, .inl (gq)))) (hd2 : f d2 = some (.inl (cy 0, m2, .inl (hh)))) (ht0 : f t = some (.inr (2, [.ref t1, .ref t2, .int ts, .int tv]))) (ht1 : f t1 = some (.inl (cy 0, k1, .inl (tg)))) (ht2 : f t2 = some (.inl (cy 0, k2, .inl (th)))) (hqs : 0 ≤ qs.toInt ∧ 13 * qs.toInt ≤ m1 ∧ m1 ≤ 520) (hqv : 0 ≤ qv.toInt ∧ 2 * qv.toInt ≤ m2 ∧ m2 ≤ 80) (hne : p ≠ q ∧ p ≠ t ∧ q ≠ t ∧ c1 ≠ c2 ∧ c1 ≠ d1 ∧ c1 ≠ d2 ∧ c1 ≠ t1 ∧ c1 ≠ t2 ∧ c1 ≠ bc ∧ c2 ≠ d1 ∧ c2 ≠ d2 ∧ c2 ≠ t1 ∧ c2 ≠ t2 ∧ c2 ≠ bc ∧ d1 ≠ d2 ∧ d1 ≠ t1 ∧ d1 ≠ t2 ∧ d1 ≠ bc ∧ d2 ≠ t1 ∧ d2 ≠ t2 ∧ d2 ≠ bc ∧ t1 ≠ t2 ∧ t1 ≠ bc ∧ t2 ≠ bc) (hk12 : k1 ≤ 520 ∧ k2 ≤ 80) (hn12 : n1 ≤ 520 ∧ n2 ≤ 80) : gC l D cy b yX3_shorten cX3_shorten 4 none 47 0 0 [.ref la, .ref q, .ref t] f (pV fun f2 => ∃ (s2 v2 s3 v3 : Int32) (g2 h2 g3 h3 b2 : Nat → Int32), f2 p = some (.inr (2, [.ref c1, .ref c2, .int s2, .int v2])) ∧ f2 c1 = some (.inl (cy 0, n1, .inl (g2))) ∧ f2 c2 = some (.inl (cy 0, n2, .inl (h2))) ∧ f2 bc = some (.inl (cy 0, 40, .inl (b2))) ∧ f2 t = some (.inr (2, [.ref t1, .ref t2, .int s3, .int v3])) ∧ f2 t1 = some (.inl (cy 0, k1, .inl (g3))) ∧ f2 t2 = some (.inl (cy 0, k2, .inl (h3))) ∧ (0 ≤ s3.toInt ∧ 13 * s3.toInt ≤ k1 ∧ k1 ≤ 520) ∧ (0 ≤ v3.toInt ∧ 2 * v3.toInt ≤ k2 ∧ k2 ≤ 80) ∧ fI g3 s3.toInt ∧ fr [p, c1, c2, bc, t, t1, t2] f f2) := by
  refine gC_of (by decide) (Nat.le_of_ble_eq_true rfl) ?_
  show gG l _ _ _ D cy b cX3_shorten 4 _ RX3 "shorten" 0 0 f 0 [(0, .ref la), (1, .ref q), (2, .ref t)] []
  refine gz_aload_n dX3_shorten_0 rfl rfl ?_
  refine sgX3_14 hla rfl dX3_shorten_1 ?_
  refine scX3_24 (k_X2_clear hp) hp ⟨(Nat.le_of_ble_eq_true rfl), (Nat.le_of_ble_eq_true rfl)⟩ ⟨(Nat.le_of_ble_eq_true rfl), (Nat.le_of_ble_eq_true rfl)⟩ rfl rfl (Nat.le_of_ble_eq_true rfl) dX3_shorten_4 ?_
  rintro f1 ⟨hp_1, hr1⟩
  have hla_1 : f1 la = some (.inr (3, [.ref p, .ref bc])) := hr1 _ _ hla (by simp only [List.mem_cons, List.not_mem_nil, or_false, not_or]; exact cne hla hp (by simp))
  have hbc_1 : f1 bc = some (.inl (cy 0, 40, .inl (bg))) := hr1 _ _ hbc (by simp only [List.mem_cons, List.not_mem_nil, or_false, not_or]; exact cne hbc hp (by simp))
  have h1_1 : f1 c1 = some (.inl (cy 0, n1, .inl (g))) := hr1 _ _ h1 (by simp only [List.mem_cons, List.not_mem_nil, or_false, not_or]; exact cne h1 hp (by simp))
  have h2_1 : f1 c2 = some (.inl (cy 0, n2, .inl (h))) := hr1 _ _ h2 (by simp only [List.mem_cons, List.not_mem_nil, or_false, not_or]; exact cne h2 hp (by simp))
  have hq0_1 : f1 q = some (.inr (2, [.ref d1, .ref d2, .int qs, .int qv])) := hr1 _ _ hq0 (by simp only [List.mem_cons, List.not_mem_nil, or_false, not_or]; exact Ne.symm (hne.1))
  have hd1_1 : f1 d1 = some (.inl (cy 0, m1, .inl (gq))) := hr1 _ _ hd1 (by simp only [List.mem_cons, List.not_mem_nil, or_false, not_or]; exact cne hd1 hp (by simp))
  have hd2_1 : f1 d2 = some (.inl (cy 0, m2, .inl (hh))) := hr1 _ _ hd2 (by simp only [List.mem_cons, List.not_mem_nil, or_false, not_or]; exact cne hd2 hp (by simp))
  have ht0_1 : f1 t = some (.inr (2, [.ref t1, .ref t2, .int ts, .int tv])) := hr1 _ _ ht0 (by simp only [List.mem_cons, List.not_mem_nil, or_false, not_or]; exact Ne.symm (hne.2.1))
  have ht1_1 : f1 t1 = some (.inl (cy 0, k1, .inl (tg))) := hr1 _ _ ht1 (by simp only [List.mem_cons, List.not_mem_nil, or_false, not_or]; exact cne ht1 hp (by simp))
  have ht2_1 : f1 t2 = some (.inl (cy 0, k2, .inl (th))) := hr1 _ _ ht2 (by simp only [List.mem_cons, List.not_mem_nil, or_false, not_or]; exact cne ht2 hp (by simp))
  refine gz_aload_n dX3_shorten_7 rfl rfl ?_
  refine gz_iconst (v := 0) dX3_shorten_8 (by decide) ?_
  refine gz_aload_n dX3_shorten_9 rfl rfl ?_
  refine sgX3_14 hla_1 rfl dX3_shorten_10 ?_
  refine gz_iconst (v := (-1)) dX3_shorten_13 (by decide) ?_
  refine scX3_27 (k_X3_copyDeed hqs hqv ⟨(Ne.symm hne.1), (Ne.symm hne.2.2.2.2.1), (Ne.symm hne.2.2.2.2.2.2.2.2.2.1), (Ne.symm hne.2.2.2.2.2.1), (Ne.symm hne.2.2.2.2.2.2.2.2.2.2.1), hne.2.2.2.1⟩ 41 0 (-1) 0 0 g h _ hq0_1 hd1_1 hd2_1 hp_1 h1_1 h2_1 (by have e0 : (0 : Int32).toInt = 0 := rfl; omega) (by have e0 : (0 : Int32).toInt = 0 := rfl; omega) (fun i hi => absurd hi (by have e0 : (0 : Int32).toInt = 0 := rfl; omega)) (by decide)) ⟨(Nat.le_of_ble_eq_true rfl), (Nat.le_of_ble_eq_true rfl)⟩ ⟨(Nat.le_of_ble_eq_true rfl), (Nat.le_of_ble_eq_true rfl)⟩ rfl rfl (Nat.le_of_ble_eq_true rfl) dX3_shorten_14 ?_
  rintro f2 ⟨s_2, v_2, g_2, h_2, hp_2, h1_2, h2_2, hs_2, hv_2, hI_2, hle_2, hr2⟩
  have hla_2 : f2 la = some (.inr (3, [.ref p, .ref bc])) := hr2 _ _ hla_1 (by simp only [List.mem_cons, List.not_mem_nil, or_false, not_or]; exact ⟨cne hla_1 hp_1 (by simp), cne hla_1 h1_1 (by simp), cne hla_1 h2_1 (by simp)⟩)
  have hbc_2 : f2 bc = some (.inl (cy 0, 40, .inl (bg))) := hr2 _ _ hbc_1 (by simp only [List.mem_cons, List.not_mem_nil, or_false, not_or]; exact ⟨cne hbc_1 hp_1 (by simp), Ne.symm (hne.2.2.2.2.2.2.2.2.1), Ne.symm (hne.2.2.2.2.2.2.2.2.2.2.2.2.2.1)⟩)
  have hq0_2 : f2 q = some (.inr (2, [.ref d1, .ref d2, .int qs, .int qv])) := hr2 _ _ hq0_1 (by simp only [List.mem_cons, List.not_mem_nil, or_false, not_or]; exact ⟨Ne.symm (hne.1), cne hq0_1 h1_1 (by simp), cne hq0_1 h2_1 (by simp)⟩)
  have hd1_2 : f2 d1 = some (.inl (cy 0, m1, .inl (gq))) := hr2 _ _ hd1_1 (by simp only [List.mem_cons, List.not_mem_nil, or_false, not_or]; exact ⟨cne hd1_1 hp_1 (by simp), Ne.symm (hne.2.2.2.2.1), Ne.symm (hne.2.2.2.2.2.2.2.2.2.1)⟩)
  have hd2_2 : f2 d2 = some (.inl (cy 0, m2, .inl (hh))) := hr2 _ _ hd2_1 (by simp only [List.mem_cons, List.not_mem_nil, or_false, not_or]; exact ⟨cne hd2_1 hp_1 (by simp), Ne.symm (hne.2.2.2.2.2.1), Ne.symm (hne.2.2.2.2.2.2.2.2.2.2.1)⟩)
  have ht0_2 : f2 t = some (.inr (2, [.ref t1, .ref t2, .int ts, .int tv])) := hr2 _ _ ht0_1 (by simp only [List.mem_cons, List.not_mem_nil, or_false, not_or]; exact ⟨Ne.symm (hne.2.1), cne ht0_1 h1_1 (by simp), cne ht0_1 h2_1 (by simp)⟩)
  have ht1_2 : f2 t1 = some (.inl (cy 0, k1, .inl (tg))) := hr2 _ _ ht1_1 (by simp only [List.mem_cons, List.not_mem_nil, or_false, not_or]; exact ⟨cne ht1_1 hp_1 (by simp), Ne.symm (hne.2.2.2.2.2.2.1), Ne.symm (hne.2.2.2.2.2.2.2.2.2.2.2.1)⟩)
  have ht2_2 : f2 t2 = some (.inl (cy 0, k2, .inl (th))) := hr2 _ _ ht2_1 (by simp only [List.mem_cons, List.not_mem_nil, or_false, not_or]; exact ⟨cne ht2_1 hp_1 (by simp), Ne.symm (hne.2.2.2.2.2.2.2.1), Ne.symm (hne.2.2.2.2.2.2.2.2.2.2.2.2.1)⟩)
  refine gz_aload_n dX3_shorten_17 rfl rfl ?_
  refine sgX3_14 hla_2 rfl dX3_shorten_18 ?_
  refine scX3_31 (k_X2_size hp_2) hp_2 ⟨(Nat.le_of_ble_eq_true rfl), (Nat.le_of_ble_eq_true rfl)⟩ ⟨(Nat.le_of_ble_eq_true rfl), (Nat.le_of_ble_eq_true rfl)⟩ rfl rfl (Nat.le_of_ble_eq_true rfl) dX3_shorten_21 ?_
  intro v9 f9 z9; rw [z9.1, z9.2]
  refine gz_bipush (v := 40) dX3_shorten_24 (by decide) ?_
  refine scX3_35 (Nat.le_of_ble_eq_true rfl) (Nat.le_of_ble_eq_true rfl) (Nat.le_of_ble_eq_true rfl) (Nat.le_of_ble_eq_true rfl) (Nat.le_of_ble_eq_true rfl) dX3_shorten_26 ?_
  refine gz_iconst (v := 1) dX3_shorten_29 (by decide) ?_
  refine gz_isub dX3_shorten_30 ?_
  refine gz_istore_n (lv' := [(3, .int ((if 40 < s_2 then 40 else s_2) - 1)), (0, .ref la), (1, .ref q), (2, .ref t)]) dX3_shorten_31 rfl (by decide) rfl ?_
  refine gz_sub (lv' := [(3, .int ((if 40 < s_2 then 40 else s_2) - 1)), (0, .ref la), (1, .ref q), (2, .ref t)]) (by simp [List.lookup]) ?_
  exact l_X3_shorten hqs hqv hne hk12 43 ((if 40 < s_2 then 40 else s_2) - 1) s_2 v_2 g_2 h_2 bg tg th ts tv _ (fr_tr (fr_tr fr_rf (fr_mo hr1 (by simp))) (fr_mo hr2 (by simp))) hla_2 hbc_2 hp_2 h1_2 h2_2 hq0_2 hd1_2 hd2_2 ht0_2 ht1_2 ht2_2 (hs_2) (hv_2) (hI_2) ((by have e13 : (13 : Int32).toInt = 13 := rfl; have e0 : (0 : Int32).toInt = 0 := rfl; have e2 : (2 : Int32).toInt = 2 := rfl; have e1 : (1 : Int32).toInt = 1 := rfl; have e6 : (6 : Int32).toInt = 6 := rfl; have em2 : (-2 : Int32).toInt = -2 := rfl; have e40 : (40 : Int32).toInt = 40 := rfl; have hm : (if 40 < s_2 then (40 : Int32) else s_2) = s_2 := (by rw [if_neg (by rw [fl_lt]; have := hs_2; omega)]); have hx := T_sub (rfl : s_2.toInt = s_2.toInt) e1 (by have := hs_2; omega); rw [hm, hx]; intro j h1 h2; omega)) ((by have e13 : (13 : Int32).toInt = 13 := rfl; have e0 : (0 : Int32).toInt = 0 := rfl; have e2 : (2 : Int32).toInt = 2 := rfl; have e1 : (1 : Int32).toInt = 1 := rfl; have e6 : (6 : Int32).toInt = 6 := rfl; have em2 : (-2 : Int32).toInt = -2 := rfl; have e40 : (40 : Int32).toInt = 40 := rfl; have hm : (if 40 < s_2 then (40 : Int32) else s_2) = s_2 := (by rw [if_neg (by rw [fl_lt]; have := hs_2; omega)]); have hx := T_sub (rfl : s_2.toInt = s_2.toInt) e1 (by have := hs_2; omega); rw [hm, hx]; have := hs_2; omega))
