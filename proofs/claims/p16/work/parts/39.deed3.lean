set_option maxHeartbeats 4000000 in
set_option maxRecDepth 100000 in
theorem k_X11_wordsN {l : Launch} {D : va_G} {cy : Nat → ClassId} {b : Nat} {f : gMem} {xo ch tp ou fm dr dt_ rd te la lg co wo : Nat} {fcn x : Int32} {fmg : Nat → Option Nat} (hxo : f xo = some (.inr (11, [.ref ch, .ref tp, .ref ou, .ref fm, .ref dr, .ref dt_, .ref rd, .ref te, .ref la, .ref lg, .ref co, .ref wo, .int fcn]))) (hfm : f fm = some (.inl (cy 4, 20, .inr (.inr (.inr (.inr (fmg))))))) (hA : formF fcn fmg x = none) : gC l D cy b yX11_words cX11_words 3 (some .int) 1 0 0 [.ref xo, .int x] f (pI fun r f2 => r = -1 ∧ f2 = f) := by
  refine gC_of (by decide) (Nat.le_of_ble_eq_true rfl) ?_
  show gG l _ _ _ D cy b cX11_words 3 _ RX11 "words" 0 0 f 0 [(0, .ref xo), (1, .int x)] []
  refine gz_aload_n dX11_words_0 rfl rfl ?_
  refine gz_iload_n dX11_words_1 rfl rfl ?_
  refine scX11_126 (k_X11_formAt (x := x) hxo hfm) hxo ⟨(Nat.le_of_ble_eq_true rfl), (Nat.le_of_ble_eq_true rfl)⟩ ⟨(Nat.le_of_ble_eq_true rfl), (Nat.le_of_ble_eq_true rfl)⟩ rfl rfl (Nat.le_of_ble_eq_true rfl) dX11_words_2 ?_
  rintro u9 f9 ⟨z9, y9⟩; rw [z9, y9]
  refine gz_ev (w := .null) (by rw [hA]; rfl) ?_
  refine gz_astore_nN (lv' := [(2, .null), (0, .ref xo), (1, .int x)]) dX11_words_5 rfl (by decide) rfl ?_
  refine gz_aload_nN dX11_words_6 rfl rfl ?_
  refine gz_ifnonnullN dX11_words_7 ?_
  refine gz_iconst (v := (-1)) dX11_words_10 (by decide) ?_
  refine gz_goto (tgt := 18) dX11_words_11 (by decide) ?_
  exact gz_iret rfl dX11_words_18 (Nat.le_of_ble_eq_true rfl) (Nat.le_of_ble_eq_true rfl) (⟨_, rfl, rfl, rfl⟩)

set_option maxHeartbeats 4000000 in
set_option maxRecDepth 100000 in
theorem k_X11_wordsY {l : Launch} {D : va_G} {cy : Nat → ClassId} {b : Nat} {f : gMem} {xo ch tp ou fm dr dt_ rd te la lg co wo p c1 c2 : Nat} {fcn s v x : Int32} {fmg : Nat → Option Nat} (hxo : f xo = some (.inr (11, [.ref ch, .ref tp, .ref ou, .ref fm, .ref dr, .ref dt_, .ref rd, .ref te, .ref la, .ref lg, .ref co, .ref wo, .int fcn]))) (hfm : f fm = some (.inl (cy 4, 20, .inr (.inr (.inr (.inr (fmg))))))) (hp : f p = some (.inr (2, [.ref c1, .ref c2, .int s, .int v]))) (hA : formF fcn fmg x = some p) : gC l D cy b yX11_words cX11_words 3 (some .int) 1 0 0 [.ref xo, .int x] f (pI fun r f2 => r = s ∧ f2 = f) := by
  refine gC_of (by decide) (Nat.le_of_ble_eq_true rfl) ?_
  show gG l _ _ _ D cy b cX11_words 3 _ RX11 "words" 0 0 f 0 [(0, .ref xo), (1, .int x)] []
  refine gz_aload_n dX11_words_0 rfl rfl ?_
  refine gz_iload_n dX11_words_1 rfl rfl ?_
  refine scX11_126 (k_X11_formAt (x := x) hxo hfm) hxo ⟨(Nat.le_of_ble_eq_true rfl), (Nat.le_of_ble_eq_true rfl)⟩ ⟨(Nat.le_of_ble_eq_true rfl), (Nat.le_of_ble_eq_true rfl)⟩ rfl rfl (Nat.le_of_ble_eq_true rfl) dX11_words_2 ?_
  rintro u9 f9 ⟨z9, y9⟩; rw [z9, y9]
  refine gz_ev (w := .ref p) (by rw [hA]; rfl) ?_
  refine gz_astore_n (lv' := [(2, .ref p), (0, .ref xo), (1, .int x)]) dX11_words_5 rfl (by decide) rfl ?_
  refine gz_aload_n dX11_words_6 rfl rfl ?_
  refine gz_ifnonnull (tgt := 14) dX11_words_7 (by decide) ?_
  refine gz_aload_n dX11_words_14 rfl rfl ?_
  refine scX11_133 (k_X2_size hp) hp ⟨(Nat.le_of_ble_eq_true rfl), (Nat.le_of_ble_eq_true rfl)⟩ ⟨(Nat.le_of_ble_eq_true rfl), (Nat.le_of_ble_eq_true rfl)⟩ rfl rfl (Nat.le_of_ble_eq_true rfl) dX11_words_15 ?_
  intro v9 f9 z9; rw [z9.1, z9.2]
  exact gz_iret rfl dX11_words_18 (Nat.le_of_ble_eq_true rfl) (Nat.le_of_ble_eq_true rfl) (⟨_, rfl, rfl, rfl⟩)

set_option maxHeartbeats 4000000 in
set_option maxRecDepth 100000 in
theorem k_X11_wordN {l : Launch} {D : va_G} {cy : Nat → ClassId} {b : Nat} {f : gMem} {xo ch tp ou fm dr dt_ rd te la lg co wo : Nat} {fcn x y u : Int32} {fmg : Nat → Option Nat} (hxo : f xo = some (.inr (11, [.ref ch, .ref tp, .ref ou, .ref fm, .ref dr, .ref dt_, .ref rd, .ref te, .ref la, .ref lg, .ref co, .ref wo, .int fcn]))) (hfm : f fm = some (.inl (cy 4, 20, .inr (.inr (.inr (.inr (fmg))))))) (hA : formF fcn fmg x = none) : gC l D cy b yX11_word cX11_word 5 (some .int) 1 0 0 [.ref xo, .int x, .int y, .int u] f (pI fun r f2 => r = -1 ∧ f2 = f) := by
  refine gC_of (by decide) (Nat.le_of_ble_eq_true rfl) ?_
  show gG l _ _ _ D cy b cX11_word 5 _ RX11 "word" 0 0 f 0 [(0, .ref xo), (1, .int x), (2, .int y), (3, .int u)] []
  refine gz_aload_n dX11_word_0 rfl rfl ?_
  refine gz_iload_n dX11_word_1 rfl rfl ?_
  refine scX11_126 (k_X11_formAt (x := x) hxo hfm) hxo ⟨(Nat.le_of_ble_eq_true rfl), (Nat.le_of_ble_eq_true rfl)⟩ ⟨(Nat.le_of_ble_eq_true rfl), (Nat.le_of_ble_eq_true rfl)⟩ rfl rfl (Nat.le_of_ble_eq_true rfl) dX11_word_2 ?_
  rintro u9 f9 ⟨z9, y9⟩; rw [z9, y9]
  refine gz_ev (w := .null) (by rw [hA]; rfl) ?_
  refine gz_astoreN (lv' := [(4, .null), (0, .ref xo), (1, .int x), (2, .int y), (3, .int u)]) dX11_word_5 (by decide) rfl ?_
  refine gz_aloadN dX11_word_7 rfl ?_
  refine gz_ifnullN (tgt := 21) dX11_word_9 (by decide) ?_
  refine gz_iconst (v := (-1)) dX11_word_21 (by decide) ?_
  exact gz_iret rfl dX11_word_22 (Nat.le_of_ble_eq_true rfl) (Nat.le_of_ble_eq_true rfl) (⟨_, rfl, rfl, rfl⟩)

def xwrdF (n1 : Nat) (g : Nat → Int32) (s y u : Int32) : Int32 := (if (u : Int32) < 0 then (-1) else (if (u : Int32) ≤ 2 then (if (u : Int32) = 0 then (fldF n1 g s y 0) else (if (u : Int32) = 1 then (fldF n1 g s y 1) else (fldF n1 g s y 2))) else (-1)))
set_option maxHeartbeats 4000000 in
set_option maxRecDepth 100000 in
theorem k_X11_wordY {l : Launch} {D : va_G} {cy : Nat → ClassId} {b : Nat} {f : gMem} {xo ch tp ou fm dr dt_ rd te la lg co wo p c1 c2 n1 : Nat} {fcn s v x y u : Int32} {g : Nat → Int32} {fmg : Nat → Option Nat} (hxo : f xo = some (.inr (11, [.ref ch, .ref tp, .ref ou, .ref fm, .ref dr, .ref dt_, .ref rd, .ref te, .ref la, .ref lg, .ref co, .ref wo, .int fcn]))) (hfm : f fm = some (.inl (cy 4, 20, .inr (.inr (.inr (.inr (fmg))))))) (hp : f p = some (.inr (2, [.ref c1, .ref c2, .int s, .int v]))) (h1 : f c1 = some (.inl (cy 0, n1, .inl (g)))) (hA : formF fcn fmg x = some p) (hs : 0 ≤ s.toInt ∧ 13 * s.toInt ≤ n1 ∧ n1 ≤ 520) : gC l D cy b yX11_word cX11_word 5 (some .int) 1 0 0 [.ref xo, .int x, .int y, .int u] f (pI fun r f2 => r = xwrdF n1 g s y u ∧ f2 = f) := by
  refine gC_of (by decide) (Nat.le_of_ble_eq_true rfl) ?_
  show gG l _ _ _ D cy b cX11_word 5 _ RX11 "word" 0 0 f 0 [(0, .ref xo), (1, .int x), (2, .int y), (3, .int u)] []
  refine gz_aload_n dX11_word_0 rfl rfl ?_
  refine gz_iload_n dX11_word_1 rfl rfl ?_
  refine scX11_126 (k_X11_formAt (x := x) hxo hfm) hxo ⟨(Nat.le_of_ble_eq_true rfl), (Nat.le_of_ble_eq_true rfl)⟩ ⟨(Nat.le_of_ble_eq_true rfl), (Nat.le_of_ble_eq_true rfl)⟩ rfl rfl (Nat.le_of_ble_eq_true rfl) dX11_word_2 ?_
  rintro u9 f9 ⟨z9, y9⟩; rw [z9, y9]
  refine gz_ev (w := .ref p) (by rw [hA]; rfl) ?_
  refine gz_astore (lv' := [(4, .ref p), (0, .ref xo), (1, .int x), (2, .int y), (3, .int u)]) dX11_word_5 (by decide) rfl ?_
  refine gz_aload dX11_word_7 rfl ?_
  refine gz_ifnull dX11_word_9 ?_
  refine gz_iload_n dX11_word_12 rfl rfl ?_
  refine gz_if_lt (tgt := 21) dX11_word_13 (by decide) (fun c_13 => ?_) (fun c_13 => ?_)
  ·
    refine gz_iconst (v := (-1)) dX11_word_21 (by decide) ?_
    exact gz_iret rfl dX11_word_22 (Nat.le_of_ble_eq_true rfl) (Nat.le_of_ble_eq_true rfl) (⟨_, rfl, (show _ = _ from Eq.symm (by unfold xwrdF; rw [if_pos c_13])), rfl⟩)
  ·
    refine gz_iload_n dX11_word_16 rfl rfl ?_
    refine gz_iconst (v := 2) dX11_word_17 (by decide) ?_
    refine gz_icmp_le (tgt := 23) dX11_word_18 (by decide) (fun c_18 => ?_) (fun c_18 => ?_)
    ·
      refine gz_iload_n dX11_word_23 rfl rfl ?_
      refine gz_if_ne (tgt := 35) dX11_word_24 (by decide) (fun c_24 => ?_) (fun c_24 => ?_)
      ·
        refine gz_aload dX11_word_35 rfl ?_
        refine gz_iload_n dX11_word_37 rfl rfl ?_
        refine gz_iload_n dX11_word_38 rfl rfl ?_
        refine gz_iconst (v := 1) dX11_word_39 (by decide) ?_
        refine gz_icmp_ne (tgt := 47) dX11_word_40 (by decide) (fun c_40 => ?_) (fun c_40 => ?_)
        ·
          refine gz_iconst (v := 2) dX11_word_47 (by decide) ?_
          refine scX11_130 (k_X2_field (w := y) (k := 2) hp h1 hs) hp ⟨(Nat.le_of_ble_eq_true rfl), (Nat.le_of_ble_eq_true rfl)⟩ ⟨(Nat.le_of_ble_eq_true rfl), (Nat.le_of_ble_eq_true rfl)⟩ rfl rfl (Nat.le_of_ble_eq_true rfl) dX11_word_48 ?_
          intro v9 f9 z9; rw [z9.1, z9.2]
          exact gz_iret rfl dX11_word_51 (Nat.le_of_ble_eq_true rfl) (Nat.le_of_ble_eq_true rfl) (⟨_, rfl, (show _ = _ from Eq.symm (by unfold xwrdF; rw [if_neg c_13, if_pos c_18, if_neg c_24, if_neg c_40])), rfl⟩)
        ·
          refine gz_iconst (v := 1) dX11_word_43 (by decide) ?_
          refine gz_goto (tgt := 48) dX11_word_44 (by decide) ?_
          refine scX11_130 (k_X2_field (w := y) (k := 1) hp h1 hs) hp ⟨(Nat.le_of_ble_eq_true rfl), (Nat.le_of_ble_eq_true rfl)⟩ ⟨(Nat.le_of_ble_eq_true rfl), (Nat.le_of_ble_eq_true rfl)⟩ rfl rfl (Nat.le_of_ble_eq_true rfl) dX11_word_48 ?_
          intro v9 f9 z9; rw [z9.1, z9.2]
          exact gz_iret rfl dX11_word_51 (Nat.le_of_ble_eq_true rfl) (Nat.le_of_ble_eq_true rfl) (⟨_, rfl, (show _ = _ from Eq.symm (by unfold xwrdF; rw [if_neg c_13, if_pos c_18, if_neg c_24, if_pos c_40])), rfl⟩)
      ·
        refine gz_aload dX11_word_27 rfl ?_
        refine gz_iload_n dX11_word_29 rfl rfl ?_
        refine gz_iconst (v := 0) dX11_word_30 (by decide) ?_
        refine scX11_130 (k_X2_field (w := y) (k := 0) hp h1 hs) hp ⟨(Nat.le_of_ble_eq_true rfl), (Nat.le_of_ble_eq_true rfl)⟩ ⟨(Nat.le_of_ble_eq_true rfl), (Nat.le_of_ble_eq_true rfl)⟩ rfl rfl (Nat.le_of_ble_eq_true rfl) dX11_word_31 ?_
        intro v9 f9 z9; rw [z9.1, z9.2]
        exact gz_iret rfl dX11_word_34 (Nat.le_of_ble_eq_true rfl) (Nat.le_of_ble_eq_true rfl) (⟨_, rfl, (show _ = _ from Eq.symm (by unfold xwrdF; rw [if_neg c_13, if_pos c_18, if_pos c_24])), rfl⟩)
    ·
      refine gz_iconst (v := (-1)) dX11_word_21 (by decide) ?_
      exact gz_iret rfl dX11_word_22 (Nat.le_of_ble_eq_true rfl) (Nat.le_of_ble_eq_true rfl) (⟨_, rfl, (show _ = _ from Eq.symm (by unfold xwrdF; rw [if_neg c_13, if_neg c_18])), rfl⟩)

set_option maxHeartbeats 4000000 in
set_option maxRecDepth 100000 in
theorem k_X11_tellN {l : Launch} {D : va_G} {cy : Nat → ClassId} {b : Nat} {f : gMem} {xo ch tp ou fm dr dt_ rd te la lg co wo : Nat} {fcn x : Int32} {fmg : Nat → Option Nat} (hxo : f xo = some (.inr (11, [.ref ch, .ref tp, .ref ou, .ref fm, .ref dr, .ref dt_, .ref rd, .ref te, .ref la, .ref lg, .ref co, .ref wo, .int fcn]))) (hfm : f fm = some (.inl (cy 4, 20, .inr (.inr (.inr (.inr (fmg))))))) (hA : formF fcn fmg x = none) : gC l D cy b yX11_tell cX11_tell 3 (some .int) 1 0 0 [.ref xo, .int x] f (pI fun r f2 => r = -1 ∧ f2 = f) := by
  refine gC_of (by decide) (Nat.le_of_ble_eq_true rfl) ?_
  show gG l _ _ _ D cy b cX11_tell 3 _ RX11 "tell" 0 0 f 0 [(0, .ref xo), (1, .int x)] []
  refine gz_aload_n dX11_tell_0 rfl rfl ?_
  refine gz_iload_n dX11_tell_1 rfl rfl ?_
  refine scX11_126 (k_X11_formAt (x := x) hxo hfm) hxo ⟨(Nat.le_of_ble_eq_true rfl), (Nat.le_of_ble_eq_true rfl)⟩ ⟨(Nat.le_of_ble_eq_true rfl), (Nat.le_of_ble_eq_true rfl)⟩ rfl rfl (Nat.le_of_ble_eq_true rfl) dX11_tell_2 ?_
  rintro u9 f9 ⟨z9, y9⟩; rw [z9, y9]
  refine gz_ev (w := .null) (by rw [hA]; rfl) ?_
  refine gz_astore_nN (lv' := [(2, .null), (0, .ref xo), (1, .int x)]) dX11_tell_5 rfl (by decide) rfl ?_
  refine gz_aload_nN dX11_tell_6 rfl rfl ?_
  refine gz_ifnonnullN dX11_tell_7 ?_
  refine gz_iconst (v := (-1)) dX11_tell_10 (by decide) ?_
  exact gz_iret rfl dX11_tell_11 (Nat.le_of_ble_eq_true rfl) (Nat.le_of_ble_eq_true rfl) (⟨_, rfl, rfl, rfl⟩)

set_option maxHeartbeats 4000000 in
set_option maxRecDepth 100000 in
theorem k_X11_tellY {l : Launch} {D : va_G} {cy : Nat → ClassId} {b : Nat} {f : gMem} {xo ch tp ou fm dr dt_ rd te la lg co wo ob n p c1 c2 n1 n2 : Nat} {fcn ln s v x : Int32} {og g h : Nat → Int32} {fmg : Nat → Option Nat} (hxo : f xo = some (.inr (11, [.ref ch, .ref tp, .ref ou, .ref fm, .ref dr, .ref dt_, .ref rd, .ref te, .ref la, .ref lg, .ref co, .ref wo, .int fcn]))) (hfm : f fm = some (.inl (cy 4, 20, .inr (.inr (.inr (.inr (fmg))))))) (hte : f te = some (.inr (8, [.ref ou]))) (hou : f ou = some (.inr (9, [.ref ob, .int ln]))) (hob : f ob = some (.inl (cy 1, n, .inl (og)))) (hp : f p = some (.inr (2, [.ref c1, .ref c2, .int s, .int v]))) (h1 : f c1 = some (.inl (cy 0, n1, .inl (g)))) (h2 : f c2 = some (.inl (cy 0, n2, .inl (h)))) (hA : formF fcn fmg x = some p) (hs : 0 ≤ s.toInt ∧ 13 * s.toInt ≤ n1 ∧ n1 ≤ 520) (hv : 0 ≤ v.toInt ∧ 2 * v.toInt ≤ n2 ∧ n2 ≤ 80) (hn : n < 2 ^ 31) (hne : ob ≠ c1 ∧ ob ≠ c2) : gC l D cy b yX11_tell cX11_tell 3 (some .int) 21 0 0 [.ref xo, .int x] f (pI fun r f2 => ∃ (l2 : Int32) (o2 : Nat → Int32), f2 ou = some (.inr (9, [.ref ob, .int l2])) ∧ f2 ob = some (.inl (cy 1, n, .inl (o2))) ∧ fr [ou, ob] f f2) := by
  refine gC_of (by decide) (Nat.le_of_ble_eq_true rfl) ?_
  show gG l _ _ _ D cy b cX11_tell 3 _ RX11 "tell" 0 0 f 0 [(0, .ref xo), (1, .int x)] []
  refine gz_aload_n dX11_tell_0 rfl rfl ?_
  refine gz_iload_n dX11_tell_1 rfl rfl ?_
  refine scX11_126 (k_X11_formAt (x := x) hxo hfm) hxo ⟨(Nat.le_of_ble_eq_true rfl), (Nat.le_of_ble_eq_true rfl)⟩ ⟨(Nat.le_of_ble_eq_true rfl), (Nat.le_of_ble_eq_true rfl)⟩ rfl rfl (Nat.le_of_ble_eq_true rfl) dX11_tell_2 ?_
  rintro u9 f9 ⟨z9, y9⟩; rw [z9, y9]
  refine gz_ev (w := .ref p) (by rw [hA]; rfl) ?_
  refine gz_astore_n (lv' := [(2, .ref p), (0, .ref xo), (1, .int x)]) dX11_tell_5 rfl (by decide) rfl ?_
  refine gz_aload_n dX11_tell_6 rfl rfl ?_
  refine gz_ifnonnull (tgt := 12) dX11_tell_7 (by decide) ?_
  refine gz_aload_n dX11_tell_12 rfl rfl ?_
  refine sgX11_58 hxo rfl dX11_tell_13 ?_
  refine gz_aload_n dX11_tell_16 rfl rfl ?_
  refine scX11_142 (k_X8_write hte hou hob hp h1 h2 hn hs hv hne) hte ⟨(Nat.le_of_ble_eq_true rfl), (Nat.le_of_ble_eq_true rfl)⟩ ⟨(Nat.le_of_ble_eq_true rfl), (Nat.le_of_ble_eq_true rfl)⟩ rfl rfl (Nat.le_of_ble_eq_true rfl) dX11_tell_17 ?_
  rintro f1 ⟨l_1, o_1, hou_1, hob_1, hr1⟩
  have hxo_1 : f1 xo = some (.inr (11, [.ref ch, .ref tp, .ref ou, .ref fm, .ref dr, .ref dt_, .ref rd, .ref te, .ref la, .ref lg, .ref co, .ref wo, .int fcn])) := hr1 _ _ hxo (by simp only [List.mem_cons, List.not_mem_nil, or_false, not_or]; exact ⟨cne hxo hou (by simp), cne hxo hob (by simp)⟩)
  have hfm_1 : f1 fm = some (.inl (cy 4, 20, .inr (.inr (.inr (.inr (fmg)))))) := hr1 _ _ hfm (by simp only [List.mem_cons, List.not_mem_nil, or_false, not_or]; exact ⟨cne hfm hou (by simp), cne hfm hob (by simp)⟩)
  have hte_1 : f1 te = some (.inr (8, [.ref ou])) := hr1 _ _ hte (by simp only [List.mem_cons, List.not_mem_nil, or_false, not_or]; exact ⟨cne hte hou (by simp), cne hte hob (by simp)⟩)
  have hp_1 : f1 p = some (.inr (2, [.ref c1, .ref c2, .int s, .int v])) := hr1 _ _ hp (by simp only [List.mem_cons, List.not_mem_nil, or_false, not_or]; exact ⟨cne hp hou (by simp), cne hp hob (by simp)⟩)
  have h1_1 : f1 c1 = some (.inl (cy 0, n1, .inl (g))) := hr1 _ _ h1 (by simp only [List.mem_cons, List.not_mem_nil, or_false, not_or]; exact ⟨cne h1 hou (by simp), Ne.symm (hne.1)⟩)
  have h2_1 : f1 c2 = some (.inl (cy 0, n2, .inl (h))) := hr1 _ _ h2 (by simp only [List.mem_cons, List.not_mem_nil, or_false, not_or]; exact ⟨cne h2 hou (by simp), Ne.symm (hne.2)⟩)
  refine gz_aload_n dX11_tell_20 rfl rfl ?_
  refine sgX11_25 hxo_1 rfl dX11_tell_21 ?_
  refine scX11_106 (k_X9_size hou_1) hou_1 ⟨(Nat.le_of_ble_eq_true rfl), (Nat.le_of_ble_eq_true rfl)⟩ ⟨(Nat.le_of_ble_eq_true rfl), (Nat.le_of_ble_eq_true rfl)⟩ rfl rfl (Nat.le_of_ble_eq_true rfl) dX11_tell_24 ?_
  intro v9 f9 z9; rw [z9.1, z9.2]
  exact gz_iret rfl dX11_tell_27 (Nat.le_of_ble_eq_true rfl) (Nat.le_of_ble_eq_true rfl) (⟨_, rfl, _, _, hou_1, hob_1, (fr_tr fr_rf (fr_mo hr1 (by simp)))⟩)
