theorem clampL {x n : Int32} {k : Nat} (h : ¬ n.toInt ≤ x.toInt) (hn : n.toInt = k) (h0 : 0 < k) : Int32.toNatClampNeg x < k := by
  unfold Int32.toNatClampNeg
  omega
theorem formF_some {fcn : Int32} {fmg : Nat → Option Nat} {x : Int32} {p : Nat} (h : formF fcn fmg x = some p) : Int32.toNatClampNeg x < 20 ∧ fmg (Int32.toNatClampNeg x) = some p := by
  unfold formF at h
  by_cases h1 : x < 0
  · rw [if_pos h1] at h; cases h
  · rw [if_neg h1] at h
    by_cases h2 : fcn ≤ x
    · rw [if_pos h2] at h; cases h
    · rw [if_neg h2] at h
      by_cases h3 : 20 ≤ x
      · rw [if_pos h3] at h; cases h
      · rw [if_neg h3] at h
        exact ⟨clampL (by rw [fl_le] at h3; exact h3) (by decide) (by decide), h⟩
theorem lifeF_some {csz : Int32} {lvg : Nat → Option Nat} {x : Int32} {p : Nat} (h : lifeF csz lvg x = some p) : Int32.toNatClampNeg x < 40 ∧ lvg (Int32.toNatClampNeg x) = some p := by
  unfold lifeF at h
  by_cases h1 : x < 0
  · rw [if_pos h1] at h; cases h
  · rw [if_neg h1] at h
    by_cases h2 : csz ≤ x
    · rw [if_pos h2] at h; cases h
    · rw [if_neg h2] at h
      by_cases h3 : 40 ≤ x
      · rw [if_pos h3] at h; cases h
      · rw [if_neg h3] at h
        exact ⟨clampL (by rw [fl_le] at h3; exact h3) (by decide) (by decide), h⟩

theorem nt_0  : ∀ k : Nat, 13000 ≤ k ∧ k < 14000 → ¬ (k = 1001 ∨ k = 1003) := by intro k hk hT; omega
theorem nt_1  : ∀ k : Nat, 1000 ≤ k ∧ k < 1001 → ¬ (k = 1001 ∨ k = 1003) := by intro k hk hT; omega
theorem nt_2  : ∀ k : Nat, 1002 ≤ k ∧ k < 1003 → ¬ (k = 1001 ∨ k = 1003) := by intro k hk hT; omega
theorem nt_3  : ∀ k : Nat, 2000 ≤ k ∧ k < 3000 → ¬ (k = 1001 ∨ k = 1003) := by intro k hk hT; omega
theorem nt_4  : ∀ k : Nat, 14000 ≤ k ∧ k < 15000 → ¬ (k = 1001 ∨ k = 1003) := by intro k hk hT; omega
theorem nt_5  : ∀ k : Nat, 5000 ≤ k ∧ k < 6000 → ¬ (k = 1001 ∨ k = 1003) := by intro k hk hT; omega
theorem nt_6  : ∀ k : Nat, 4000 ≤ k ∧ k < 5000 → ¬ (k = 1001 ∨ k = 1003) := by intro k hk hT; omega
theorem nt_7  : ∀ k : Nat, 6000 ≤ k ∧ k < 7000 → ¬ (k = 1001 ∨ k = 1003) := by intro k hk hT; omega
theorem nt_8  : ∀ k : Nat, 7000 ≤ k ∧ k < 8000 → ¬ (k = 1001 ∨ k = 1003) := by intro k hk hT; omega
theorem nt_9  : ∀ k : Nat, 3000 ≤ k ∧ k < 4000 → ¬ (k = 1001 ∨ k = 1003) := by intro k hk hT; omega
theorem nt_10  : ∀ k : Nat, 8000 ≤ k ∧ k < 9000 → ¬ (k = 1001 ∨ k = 1003) := by intro k hk hT; omega
theorem nt_11  : ∀ k : Nat, 9000 ≤ k ∧ k < 10000 → ¬ (k = 1001 ∨ k = 1003) := by intro k hk hT; omega
theorem nt_12  : ∀ k : Nat, 10000 ≤ k ∧ k < 11000 → ¬ (k = 1001 ∨ k = 1003) := by intro k hk hT; omega
theorem nt_13  : ∀ k : Nat, 12000 ≤ k ∧ k < 13000 → ¬ (k = 1001 ∨ k = 1003) := by intro k hk hT; omega
theorem nt_14  : ∀ k : Nat, 11000 ≤ k ∧ k < 12000 → ¬ (k = 1001 ∨ k = 1003) := by intro k hk hT; omega
theorem nt_15  : ∀ k : Nat, 15000 ≤ k ∧ k < 16000 → ¬ (k = 1001 ∨ k = 1003) := by intro k hk hT; omega
theorem nt_16  : ∀ k : Nat, 0 ≤ k ∧ k < 1 → ¬ (k = 1001 ∨ k = 1003) := by intro k hk hT; omega
set_option maxHeartbeats 4000000 in
set_option maxRecDepth 100000 in
theorem i_X11_see {l : Launch} {D : va_G} {cy : Nat → ClassId} {b : Nat} {f : gMem} {own : Nat → Nat} {xo : Nat} {da : Int32} {fcn : Int32} {csz : Int32} {sz : Int32} {len : Int32} {ln : Int32} {wz : Int32} {lo : Int32} {tg : Nat → Int32} {weg : Nat → Int32} {stg : Nat → Int32} {tpg : Nat → Int32} {CN : Nat → Int32 → Int32 → (Nat → Int32) → (Nat → Int32) → Prop} {eg : Nat → Int32} {thg : Nat → Int32} {LN : Nat → Nat → Int32 → Int32 → Int32 → Int32 → Int64 → (Nat → Int32) → (Nat → Int32) → Prop} {ne : Nat} {x y u : Int32} (hI : xI cy own xo da fcn csz sz len ln wz lo tg weg stg tpg CN eg thg LN ne f)  : gC l D cy b yX11_see cX11_see 4 (some .boolean) 2 0 0 [.ref xo, .int x, .int y, .int u] f (pI fun r f2 => r = (xseeF tg thg da x y u).1 ∧ ∃ (tg2 : Nat → Int32) (thg2 : Nat → Int32) , xI cy own xo da fcn csz sz len ln wz lo tg2 weg stg tpg CN eg thg2 LN ne f2 ∧ kp0 own own f f2 ∧ tg2 = (xseeF tg thg da x y u).2.1 ∧ thg2 = (xseeF tg thg da x y u).2.2) := by
  obtain ⟨ch, sc, tp, ou, fm, dr, dt_, rd, te, la, lg, co, wo, fmg, lvg, HcXo, HcCh, HcTp, HcOu, HcFa, HcFm, HcDr, HcOt, HcRt, HcLa, HcLg, HcCo, HcLv, HcWo, HcFn, HcLn⟩ := id hI
  obtain ⟨og_xo, hxo, mcXo⟩ := id HcXo
  obtain ⟨tl, th, ⟨og_ch, og_tl, og_sc, og_th⟩, hch, htl, hsc, hth, mcCh⟩ := id HcCh
  refine gC_mono (k_X11_see hxo hch htl hsc hth (tgn og_tl og_th (by decide))) ?_
  rintro r f2 ⟨v9, rfl, hr, htl2, hth2, hfr⟩
  have hK : kp own own (fun k => k = 1001 ∨ k = 1003) f f2 := by
    refine kp_fr (S := [tl, th]) (hfr) (fun _ _ _ => rfl) ?_
    intro x0 hx0
    simp only [List.mem_cons, List.not_mem_nil, or_false] at hx0
    rcases hx0 with e0 | e0
    · rw [e0]; show (own tl) = 1001 ∨ (own tl) = 1003; rw [og_tl]; decide
    · rw [e0]; show (own th) = 1001 ∨ (own th) = 1003; rw [og_th]; decide
  exact ⟨v9, rfl, hr, _, _, ⟨_, _, _, _, _, _, _, _, _, _, _, _, _, _, _, (cXo_kp HcXo hK nt_0), ⟨_, _, ⟨⟨og_ch, og_tl, og_sc, og_th⟩, (hK.2 _ _ hch (by show ¬ ((own ch) = 1001 ∨ (own ch) = 1003); rw [og_ch]; exact nt_1 _ ⟨Nat.le_refl _, Nat.lt_succ_self _⟩)), htl2, (hK.2 _ _ hsc (by show ¬ ((own sc) = 1001 ∨ (own sc) = 1003); rw [og_sc]; exact nt_2 _ ⟨Nat.le_refl _, Nat.lt_succ_self _⟩)), hth2, mcCh⟩⟩, (kTp_kp HcTp hK nt_3), (kOu_kp HcOu hK nt_4), (cFa_kp HcFa hK nt_5), (cFm_kp HcFm hK nt_6), (kDr_kp HcDr hK nt_7), (kOt_kp HcOt hK nt_8), (kRt_kp HcRt hK nt_9), (kLa_kp HcLa hK nt_10), (kLg_kp HcLg hK nt_11), (kCo_kp HcCo hK nt_12), (cLv_kp HcLv hK nt_13), (kWo_kp HcWo hK nt_14 nt_15), HcFn, HcLn⟩, (kp_0 hK (nt_16 0 ⟨Nat.le_refl _, Nat.lt_succ_self _⟩)), rfl, rfl⟩

set_option maxHeartbeats 4000000 in
set_option maxRecDepth 100000 in
theorem i_X11_seen {l : Launch} {D : va_G} {cy : Nat → ClassId} {b : Nat} {f : gMem} {own : Nat → Nat} {xo : Nat} {da : Int32} {fcn : Int32} {csz : Int32} {sz : Int32} {len : Int32} {ln : Int32} {wz : Int32} {lo : Int32} {tg : Nat → Int32} {weg : Nat → Int32} {stg : Nat → Int32} {tpg : Nat → Int32} {CN : Nat → Int32 → Int32 → (Nat → Int32) → (Nat → Int32) → Prop} {eg : Nat → Int32} {thg : Nat → Int32} {LN : Nat → Nat → Int32 → Int32 → Int32 → Int32 → Int64 → (Nat → Int32) → (Nat → Int32) → Prop} {ne : Nat} {x y : Int32} (hI : xI cy own xo da fcn csz sz len ln wz lo tg weg stg tpg CN eg thg LN ne f)  : gC l D cy b yX11_seen cX11_seen 3 (some .int) 1 0 0 [.ref xo, .int x, .int y] f (pI fun r f2 => r = xsenF tg x y ∧ xI cy own xo da fcn csz sz len ln wz lo tg weg stg tpg CN eg thg LN ne f2 ∧ kp0 own own f f2) := by
  obtain ⟨ch, sc, tp, ou, fm, dr, dt_, rd, te, la, lg, co, wo, fmg, lvg, HcXo, HcCh, HcTp, HcOu, HcFa, HcFm, HcDr, HcOt, HcRt, HcLa, HcLg, HcCo, HcLv, HcWo, HcFn, HcLn⟩ := id hI
  obtain ⟨og_xo, hxo, mcXo⟩ := id HcXo
  obtain ⟨tl, th, ⟨og_ch, og_tl, og_sc, og_th⟩, hch, htl, hsc, hth, mcCh⟩ := id HcCh
  refine gC_mono (k_X11_seen hxo hch htl) ?_
  rintro r f2 ⟨v9, rfl, hr, rfl⟩
  exact ⟨v9, rfl, hr, hI, kp0_rf⟩

theorem nt_17  : ∀ k : Nat, 13000 ≤ k ∧ k < 14000 → ¬ (k = 2000 ∨ k = 2001) := by intro k hk hT; omega
theorem nt_18  : ∀ k : Nat, 1000 ≤ k ∧ k < 2000 → ¬ (k = 2000 ∨ k = 2001) := by intro k hk hT; omega
theorem nt_19  : ∀ k : Nat, 14000 ≤ k ∧ k < 15000 → ¬ (k = 2000 ∨ k = 2001) := by intro k hk hT; omega
theorem nt_20  : ∀ k : Nat, 5000 ≤ k ∧ k < 6000 → ¬ (k = 2000 ∨ k = 2001) := by intro k hk hT; omega
theorem nt_21  : ∀ k : Nat, 4000 ≤ k ∧ k < 5000 → ¬ (k = 2000 ∨ k = 2001) := by intro k hk hT; omega
theorem nt_22  : ∀ k : Nat, 6000 ≤ k ∧ k < 7000 → ¬ (k = 2000 ∨ k = 2001) := by intro k hk hT; omega
theorem nt_23  : ∀ k : Nat, 7000 ≤ k ∧ k < 8000 → ¬ (k = 2000 ∨ k = 2001) := by intro k hk hT; omega
theorem nt_24  : ∀ k : Nat, 3000 ≤ k ∧ k < 4000 → ¬ (k = 2000 ∨ k = 2001) := by intro k hk hT; omega
theorem nt_25  : ∀ k : Nat, 8000 ≤ k ∧ k < 9000 → ¬ (k = 2000 ∨ k = 2001) := by intro k hk hT; omega
theorem nt_26  : ∀ k : Nat, 9000 ≤ k ∧ k < 10000 → ¬ (k = 2000 ∨ k = 2001) := by intro k hk hT; omega
theorem nt_27  : ∀ k : Nat, 10000 ≤ k ∧ k < 11000 → ¬ (k = 2000 ∨ k = 2001) := by intro k hk hT; omega
theorem nt_28  : ∀ k : Nat, 12000 ≤ k ∧ k < 13000 → ¬ (k = 2000 ∨ k = 2001) := by intro k hk hT; omega
theorem nt_29  : ∀ k : Nat, 11000 ≤ k ∧ k < 12000 → ¬ (k = 2000 ∨ k = 2001) := by intro k hk hT; omega
theorem nt_30  : ∀ k : Nat, 15000 ≤ k ∧ k < 16000 → ¬ (k = 2000 ∨ k = 2001) := by intro k hk hT; omega
theorem nt_31  : ∀ k : Nat, 0 ≤ k ∧ k < 1 → ¬ (k = 2000 ∨ k = 2001) := by intro k hk hT; omega
set_option maxHeartbeats 4000000 in
set_option maxRecDepth 100000 in
theorem i_X11_feed {l : Launch} {D : va_G} {cy : Nat → ClassId} {b : Nat} {f : gMem} {own : Nat → Nat} {xo : Nat} {da : Int32} {fcn : Int32} {csz : Int32} {sz : Int32} {len : Int32} {ln : Int32} {wz : Int32} {lo : Int32} {tg : Nat → Int32} {weg : Nat → Int32} {stg : Nat → Int32} {tpg : Nat → Int32} {CN : Nat → Int32 → Int32 → (Nat → Int32) → (Nat → Int32) → Prop} {eg : Nat → Int32} {thg : Nat → Int32} {LN : Nat → Nat → Int32 → Int32 → Int32 → Int32 → Int64 → (Nat → Int32) → (Nat → Int32) → Prop} {ne : Nat} {a1 a2 a3 a4 a5 : Int32} (hI : xI cy own xo da fcn csz sz len ln wz lo tg weg stg tpg CN eg thg LN ne f)  : gC l D cy b yX11_feed cX11_feed 6 (some .int) 2 0 0 [.ref xo, .int a1, .int a2, .int a3, .int a4, .int a5] f (pI fun r f2 => ∃ (len2 : Int32) (tpg2 : Nat → Int32) , xI cy own xo da fcn csz sz len2 ln wz lo tg weg stg tpg2 CN eg thg LN ne f2 ∧ kp0 own own f f2) := by
  obtain ⟨ch, sc, tp, ou, fm, dr, dt_, rd, te, la, lg, co, wo, fmg, lvg, HcXo, HcCh, HcTp, HcOu, HcFa, HcFm, HcDr, HcOt, HcRt, HcLa, HcLg, HcCo, HcLv, HcWo, HcFn, HcLn⟩ := id hI
  obtain ⟨og_xo, hxo, mcXo⟩ := id HcXo
  obtain ⟨tb, ⟨og_tp, og_tb⟩, htp, htb⟩ := id HcTp
  refine gC_mono (k_X11_feed hxo htp htb (by decide)) ?_
  rintro r f2 ⟨v9, rfl, l2, g2, htp2, htb2, hfr⟩
  have hK : kp own own (fun k => k = 2000 ∨ k = 2001) f f2 := by
    refine kp_fr (S := [tp, tb]) (hfr) (fun _ _ _ => rfl) ?_
    intro x0 hx0
    simp only [List.mem_cons, List.not_mem_nil, or_false] at hx0
    rcases hx0 with e0 | e0
    · rw [e0]; show (own tp) = 2000 ∨ (own tp) = 2001; rw [og_tp]; decide
    · rw [e0]; show (own tb) = 2000 ∨ (own tb) = 2001; rw [og_tb]; decide
  exact ⟨v9, rfl, _, _, ⟨_, _, _, _, _, _, _, _, _, _, _, _, _, _, _, (cXo_kp HcXo hK nt_17), (kCh_kp HcCh hK nt_18), ⟨_, ⟨⟨og_tp, og_tb⟩, htp2, htb2⟩⟩, (kOu_kp HcOu hK nt_19), (cFa_kp HcFa hK nt_20), (cFm_kp HcFm hK nt_21), (kDr_kp HcDr hK nt_22), (kOt_kp HcOt hK nt_23), (kRt_kp HcRt hK nt_24), (kLa_kp HcLa hK nt_25), (kLg_kp HcLg hK nt_26), (kCo_kp HcCo hK nt_27), (cLv_kp HcLv hK nt_28), (kWo_kp HcWo hK nt_29 nt_30), HcFn, HcLn⟩, (kp_0 hK (nt_31 0 ⟨Nat.le_refl _, Nat.lt_succ_self _⟩))⟩

theorem nt_32  : ∀ k : Nat, 13000 ≤ k ∧ k < 14000 → ¬ (k = 2000) := by intro k hk hT; omega
theorem nt_33  : ∀ k : Nat, 1000 ≤ k ∧ k < 2000 → ¬ (k = 2000) := by intro k hk hT; omega
theorem nt_34  : ∀ k : Nat, 2001 ≤ k ∧ k < 2002 → ¬ (k = 2000) := by intro k hk hT; omega
theorem nt_35  : ∀ k : Nat, 14000 ≤ k ∧ k < 15000 → ¬ (k = 2000) := by intro k hk hT; omega
theorem nt_36  : ∀ k : Nat, 5000 ≤ k ∧ k < 6000 → ¬ (k = 2000) := by intro k hk hT; omega
theorem nt_37  : ∀ k : Nat, 4000 ≤ k ∧ k < 5000 → ¬ (k = 2000) := by intro k hk hT; omega
theorem nt_38  : ∀ k : Nat, 6000 ≤ k ∧ k < 7000 → ¬ (k = 2000) := by intro k hk hT; omega
theorem nt_39  : ∀ k : Nat, 7000 ≤ k ∧ k < 8000 → ¬ (k = 2000) := by intro k hk hT; omega
theorem nt_40  : ∀ k : Nat, 3000 ≤ k ∧ k < 4000 → ¬ (k = 2000) := by intro k hk hT; omega
theorem nt_41  : ∀ k : Nat, 8000 ≤ k ∧ k < 9000 → ¬ (k = 2000) := by intro k hk hT; omega
theorem nt_42  : ∀ k : Nat, 9000 ≤ k ∧ k < 10000 → ¬ (k = 2000) := by intro k hk hT; omega
theorem nt_43  : ∀ k : Nat, 10000 ≤ k ∧ k < 11000 → ¬ (k = 2000) := by intro k hk hT; omega
theorem nt_44  : ∀ k : Nat, 12000 ≤ k ∧ k < 13000 → ¬ (k = 2000) := by intro k hk hT; omega
theorem nt_45  : ∀ k : Nat, 11000 ≤ k ∧ k < 12000 → ¬ (k = 2000) := by intro k hk hT; omega
theorem nt_46  : ∀ k : Nat, 15000 ≤ k ∧ k < 16000 → ¬ (k = 2000) := by intro k hk hT; omega
theorem nt_47  : ∀ k : Nat, 0 ≤ k ∧ k < 1 → ¬ (k = 2000) := by intro k hk hT; omega
set_option maxHeartbeats 4000000 in
set_option maxRecDepth 100000 in
theorem i_X11_end {l : Launch} {D : va_G} {cy : Nat → ClassId} {b : Nat} {f : gMem} {own : Nat → Nat} {xo : Nat} {da : Int32} {fcn : Int32} {csz : Int32} {sz : Int32} {len : Int32} {ln : Int32} {wz : Int32} {lo : Int32} {tg : Nat → Int32} {weg : Nat → Int32} {stg : Nat → Int32} {tpg : Nat → Int32} {CN : Nat → Int32 → Int32 → (Nat → Int32) → (Nat → Int32) → Prop} {eg : Nat → Int32} {thg : Nat → Int32} {LN : Nat → Nat → Int32 → Int32 → Int32 → Int32 → Int64 → (Nat → Int32) → (Nat → Int32) → Prop} {ne : Nat} {x : Int32} (hI : xI cy own xo da fcn csz sz len ln wz lo tg weg stg tpg CN eg thg LN ne f)  : gC l D cy b yX11_end cX11_end 2 (some .int) 1 0 0 [.ref xo, .int x] f (pI fun r f2 => r = (xendF len x).1 ∧ ∃ (len2 : Int32) , xI cy own xo da fcn csz sz len2 ln wz lo tg weg stg tpg CN eg thg LN ne f2 ∧ kp0 own own f f2) := by
  obtain ⟨ch, sc, tp, ou, fm, dr, dt_, rd, te, la, lg, co, wo, fmg, lvg, HcXo, HcCh, HcTp, HcOu, HcFa, HcFm, HcDr, HcOt, HcRt, HcLa, HcLg, HcCo, HcLv, HcWo, HcFn, HcLn⟩ := id hI
  obtain ⟨og_xo, hxo, mcXo⟩ := id HcXo
  obtain ⟨tb, ⟨og_tp, og_tb⟩, htp, htb⟩ := id HcTp
  refine gC_mono (k_X11_end hxo htp) ?_
  rintro r f2 ⟨v9, rfl, hr, htp2, hfr⟩
  have hK : kp own own (fun k => k = 2000) f f2 := by
    refine kp_fr (S := [tp]) (hfr) (fun _ _ _ => rfl) ?_
    intro x0 hx0
    simp only [List.mem_cons, List.not_mem_nil, or_false] at hx0
    have e0 := hx0
    rw [e0]; exact og_tp
  exact ⟨v9, rfl, hr, _, ⟨_, _, _, _, _, _, _, _, _, _, _, _, _, _, _, (cXo_kp HcXo hK nt_32), (kCh_kp HcCh hK nt_33), ⟨_, ⟨⟨og_tp, og_tb⟩, htp2, (hK.2 _ _ htb (by show ¬ ((own tb) = 2000); rw [og_tb]; exact nt_34 _ ⟨Nat.le_refl _, Nat.lt_succ_self _⟩))⟩⟩, (kOu_kp HcOu hK nt_35), (cFa_kp HcFa hK nt_36), (cFm_kp HcFm hK nt_37), (kDr_kp HcDr hK nt_38), (kOt_kp HcOt hK nt_39), (kRt_kp HcRt hK nt_40), (kLa_kp HcLa hK nt_41), (kLg_kp HcLg hK nt_42), (kCo_kp HcCo hK nt_43), (cLv_kp HcLv hK nt_44), (kWo_kp HcWo hK nt_45 nt_46), HcFn, HcLn⟩, (kp_0 hK (nt_47 0 ⟨Nat.le_refl _, Nat.lt_succ_self _⟩))⟩

set_option maxHeartbeats 4000000 in
set_option maxRecDepth 100000 in
theorem i_X11_octet {l : Launch} {D : va_G} {cy : Nat → ClassId} {b : Nat} {f : gMem} {own : Nat → Nat} {xo : Nat} {da : Int32} {fcn : Int32} {csz : Int32} {sz : Int32} {len : Int32} {ln : Int32} {wz : Int32} {lo : Int32} {tg : Nat → Int32} {weg : Nat → Int32} {stg : Nat → Int32} {tpg : Nat → Int32} {CN : Nat → Int32 → Int32 → (Nat → Int32) → (Nat → Int32) → Prop} {eg : Nat → Int32} {thg : Nat → Int32} {LN : Nat → Nat → Int32 → Int32 → Int32 → Int32 → Int64 → (Nat → Int32) → (Nat → Int32) → Prop} {ne : Nat} {x : Int32} (hI : xI cy own xo da fcn csz sz len ln wz lo tg weg stg tpg CN eg thg LN ne f)  : gC l D cy b yX11_octet cX11_octet 2 (some .int) 1 0 0 [.ref xo, .int x] f (pI fun r f2 => xI cy own xo da fcn csz sz len ln wz lo tg weg stg tpg CN eg thg LN ne f2 ∧ kp0 own own f f2) := by
  obtain ⟨ch, sc, tp, ou, fm, dr, dt_, rd, te, la, lg, co, wo, fmg, lvg, HcXo, HcCh, HcTp, HcOu, HcFa, HcFm, HcDr, HcOt, HcRt, HcLa, HcLg, HcCo, HcLv, HcWo, HcFn, HcLn⟩ := id hI
  obtain ⟨og_xo, hxo, mcXo⟩ := id HcXo
  obtain ⟨ob, og, ⟨og_ou, og_ob⟩, hou, hob⟩ := id HcOu
  refine gC_mono (k_X11_octet hxo hou hob (by decide)) ?_
  rintro r f2 ⟨v9, rfl, hr, rfl⟩
  exact ⟨v9, rfl, hI, kp0_rf⟩

theorem nt_48  : ∀ k : Nat, 13000 ≤ k ∧ k < 14000 → ¬ (k = 11001) := by intro k hk hT; omega
theorem nt_49  : ∀ k : Nat, 1000 ≤ k ∧ k < 2000 → ¬ (k = 11001) := by intro k hk hT; omega
theorem nt_50  : ∀ k : Nat, 2000 ≤ k ∧ k < 3000 → ¬ (k = 11001) := by intro k hk hT; omega
theorem nt_51  : ∀ k : Nat, 14000 ≤ k ∧ k < 15000 → ¬ (k = 11001) := by intro k hk hT; omega
theorem nt_52  : ∀ k : Nat, 5000 ≤ k ∧ k < 6000 → ¬ (k = 11001) := by intro k hk hT; omega
theorem nt_53  : ∀ k : Nat, 4000 ≤ k ∧ k < 5000 → ¬ (k = 11001) := by intro k hk hT; omega
theorem nt_54  : ∀ k : Nat, 6000 ≤ k ∧ k < 7000 → ¬ (k = 11001) := by intro k hk hT; omega
theorem nt_55  : ∀ k : Nat, 7000 ≤ k ∧ k < 8000 → ¬ (k = 11001) := by intro k hk hT; omega
theorem nt_56  : ∀ k : Nat, 3000 ≤ k ∧ k < 4000 → ¬ (k = 11001) := by intro k hk hT; omega
theorem nt_57  : ∀ k : Nat, 8000 ≤ k ∧ k < 9000 → ¬ (k = 11001) := by intro k hk hT; omega
theorem nt_58  : ∀ k : Nat, 9000 ≤ k ∧ k < 10000 → ¬ (k = 11001) := by intro k hk hT; omega
theorem nt_59  : ∀ k : Nat, 10000 ≤ k ∧ k < 11000 → ¬ (k = 11001) := by intro k hk hT; omega
theorem nt_60  : ∀ k : Nat, 12000 ≤ k ∧ k < 13000 → ¬ (k = 11001) := by intro k hk hT; omega
theorem nt_61  : ∀ k : Nat, 11000 ≤ k ∧ k < 11001 → ¬ (k = 11001) := by intro k hk hT; omega
theorem nt_62  : ∀ k : Nat, 11002 ≤ k ∧ k < 11003 → ¬ (k = 11001) := by intro k hk hT; omega
theorem nt_63  : ∀ k : Nat, 11003 ≤ k ∧ k < 11004 → ¬ (k = 11001) := by intro k hk hT; omega
theorem nt_64  : ∀ k : Nat, 11004 ≤ k ∧ k < 11005 → ¬ (k = 11001) := by intro k hk hT; omega
theorem nt_65  : ∀ k : Nat, 15000 ≤ k ∧ k < 16000 → ¬ (k = 11001) := by intro k hk hT; omega
theorem nt_66  : ∀ k : Nat, 0 ≤ k ∧ k < 1 → ¬ (k = 11001) := by intro k hk hT; omega
set_option maxHeartbeats 4000000 in
set_option maxRecDepth 100000 in
theorem i_X11_weight {l : Launch} {D : va_G} {cy : Nat → ClassId} {b : Nat} {f : gMem} {own : Nat → Nat} {xo : Nat} {da : Int32} {fcn : Int32} {csz : Int32} {sz : Int32} {len : Int32} {ln : Int32} {wz : Int32} {lo : Int32} {tg : Nat → Int32} {weg : Nat → Int32} {stg : Nat → Int32} {tpg : Nat → Int32} {CN : Nat → Int32 → Int32 → (Nat → Int32) → (Nat → Int32) → Prop} {eg : Nat → Int32} {thg : Nat → Int32} {LN : Nat → Nat → Int32 → Int32 → Int32 → Int32 → Int64 → (Nat → Int32) → (Nat → Int32) → Prop} {ne : Nat} {x y : Int32} (hI : xI cy own xo da fcn csz sz len ln wz lo tg weg stg tpg CN eg thg LN ne f)  : gC l D cy b yX11_weight cX11_weight 3 (some .boolean) 1 0 0 [.ref xo, .int x, .int y] f (pI fun r f2 => r = (xwgtF weg wz x y).1 ∧ ∃ (weg2 : Nat → Int32) , xI cy own xo da fcn csz sz len ln wz lo tg weg2 stg tpg CN eg thg LN ne f2 ∧ kp0 own own f f2) := by
  obtain ⟨ch, sc, tp, ou, fm, dr, dt_, rd, te, la, lg, co, wo, fmg, lvg, HcXo, HcCh, HcTp, HcOu, HcFa, HcFm, HcDr, HcOt, HcRt, HcLa, HcLg, HcCo, HcLv, HcWo, HcFn, HcLn⟩ := id hI
  obtain ⟨og_xo, hxo, mcXo⟩ := id HcXo
  obtain ⟨we, stp, pa, ba, po, ah, gl, bag, pg, P, Q, ⟨⟨og_wo, og_we, og_stp, og_pa, og_ba⟩, hwo, hwe, hstp, hpa, hba, mcWo⟩, HcPa⟩ := id HcWo
  refine gC_mono (k_X11_weight hxo hwo hwe) ?_
  rintro r f2 ⟨v9, rfl, hr, hwe2, hfr⟩
  have hK : kp own own (fun k => k = 11001) f f2 := by
    refine kp_fr (S := [we]) (hfr) (fun _ _ _ => rfl) ?_
    intro x0 hx0
    simp only [List.mem_cons, List.not_mem_nil, or_false] at hx0
    have e0 := hx0
    rw [e0]; exact og_we
  exact ⟨v9, rfl, hr, _, ⟨_, _, _, _, _, _, _, _, _, _, _, _, _, _, _, (cXo_kp HcXo hK nt_48), (kCh_kp HcCh hK nt_49), (kTp_kp HcTp hK nt_50), (kOu_kp HcOu hK nt_51), (cFa_kp HcFa hK nt_52), (cFm_kp HcFm hK nt_53), (kDr_kp HcDr hK nt_54), (kOt_kp HcOt hK nt_55), (kRt_kp HcRt hK nt_56), (kLa_kp HcLa hK nt_57), (kLg_kp HcLg hK nt_58), (kCo_kp HcCo hK nt_59), (cLv_kp HcLv hK nt_60), ⟨_, _, _, _, _, _, _, _, _, _, _, ⟨⟨og_wo, og_we, og_stp, og_pa, og_ba⟩, (hK.2 _ _ hwo (by show ¬ ((own wo) = 11001); rw [og_wo]; exact nt_61 _ ⟨Nat.le_refl _, Nat.lt_succ_self _⟩)), hwe2, (hK.2 _ _ hstp (by show ¬ ((own stp) = 11001); rw [og_stp]; exact nt_62 _ ⟨Nat.le_refl _, Nat.lt_succ_self _⟩)), (hK.2 _ _ hpa (by show ¬ ((own pa) = 11001); rw [og_pa]; exact nt_63 _ ⟨Nat.le_refl _, Nat.lt_succ_self _⟩)), (hK.2 _ _ hba (by show ¬ ((own ba) = 11001); rw [og_ba]; exact nt_64 _ ⟨Nat.le_refl _, Nat.lt_succ_self _⟩)), mcWo⟩, (cPa_kp HcPa hK nt_65)⟩, HcFn, HcLn⟩, (kp_0 hK (nt_66 0 ⟨Nat.le_refl _, Nat.lt_succ_self _⟩))⟩

theorem nt_67  : ∀ k : Nat, 13000 ≤ k ∧ k < 14000 → ¬ (k = 11002) := by intro k hk hT; omega
theorem nt_68  : ∀ k : Nat, 1000 ≤ k ∧ k < 2000 → ¬ (k = 11002) := by intro k hk hT; omega
theorem nt_69  : ∀ k : Nat, 2000 ≤ k ∧ k < 3000 → ¬ (k = 11002) := by intro k hk hT; omega
theorem nt_70  : ∀ k : Nat, 14000 ≤ k ∧ k < 15000 → ¬ (k = 11002) := by intro k hk hT; omega
theorem nt_71  : ∀ k : Nat, 5000 ≤ k ∧ k < 6000 → ¬ (k = 11002) := by intro k hk hT; omega
theorem nt_72  : ∀ k : Nat, 4000 ≤ k ∧ k < 5000 → ¬ (k = 11002) := by intro k hk hT; omega
theorem nt_73  : ∀ k : Nat, 6000 ≤ k ∧ k < 7000 → ¬ (k = 11002) := by intro k hk hT; omega
theorem nt_74  : ∀ k : Nat, 7000 ≤ k ∧ k < 8000 → ¬ (k = 11002) := by intro k hk hT; omega
theorem nt_75  : ∀ k : Nat, 3000 ≤ k ∧ k < 4000 → ¬ (k = 11002) := by intro k hk hT; omega
theorem nt_76  : ∀ k : Nat, 8000 ≤ k ∧ k < 9000 → ¬ (k = 11002) := by intro k hk hT; omega
theorem nt_77  : ∀ k : Nat, 9000 ≤ k ∧ k < 10000 → ¬ (k = 11002) := by intro k hk hT; omega
theorem nt_78  : ∀ k : Nat, 10000 ≤ k ∧ k < 11000 → ¬ (k = 11002) := by intro k hk hT; omega
theorem nt_79  : ∀ k : Nat, 12000 ≤ k ∧ k < 13000 → ¬ (k = 11002) := by intro k hk hT; omega
theorem nt_80  : ∀ k : Nat, 11000 ≤ k ∧ k < 11001 → ¬ (k = 11002) := by intro k hk hT; omega
theorem nt_81  : ∀ k : Nat, 11001 ≤ k ∧ k < 11002 → ¬ (k = 11002) := by intro k hk hT; omega
theorem nt_82  : ∀ k : Nat, 11003 ≤ k ∧ k < 11004 → ¬ (k = 11002) := by intro k hk hT; omega
theorem nt_83  : ∀ k : Nat, 11004 ≤ k ∧ k < 11005 → ¬ (k = 11002) := by intro k hk hT; omega
theorem nt_84  : ∀ k : Nat, 15000 ≤ k ∧ k < 16000 → ¬ (k = 11002) := by intro k hk hT; omega
theorem nt_85  : ∀ k : Nat, 0 ≤ k ∧ k < 1 → ¬ (k = 11002) := by intro k hk hT; omega
set_option maxHeartbeats 4000000 in
set_option maxRecDepth 100000 in
theorem i_X11_adds {l : Launch} {D : va_G} {cy : Nat → ClassId} {b : Nat} {f : gMem} {own : Nat → Nat} {xo : Nat} {da : Int32} {fcn : Int32} {csz : Int32} {sz : Int32} {len : Int32} {ln : Int32} {wz : Int32} {lo : Int32} {tg : Nat → Int32} {weg : Nat → Int32} {stg : Nat → Int32} {tpg : Nat → Int32} {CN : Nat → Int32 → Int32 → (Nat → Int32) → (Nat → Int32) → Prop} {eg : Nat → Int32} {thg : Nat → Int32} {LN : Nat → Nat → Int32 → Int32 → Int32 → Int32 → Int64 → (Nat → Int32) → (Nat → Int32) → Prop} {ne : Nat} {x y u : Int32} (hI : xI cy own xo da fcn csz sz len ln wz lo tg weg stg tpg CN eg thg LN ne f)  : gC l D cy b yX11_adds cX11_adds 4 (some .boolean) 1 0 0 [.ref xo, .int x, .int y, .int u] f (pI fun r f2 => r = (xaddF stg wz x y u).1 ∧ ∃ (stg2 : Nat → Int32) , xI cy own xo da fcn csz sz len ln wz lo tg weg stg2 tpg CN eg thg LN ne f2 ∧ kp0 own own f f2) := by
  obtain ⟨ch, sc, tp, ou, fm, dr, dt_, rd, te, la, lg, co, wo, fmg, lvg, HcXo, HcCh, HcTp, HcOu, HcFa, HcFm, HcDr, HcOt, HcRt, HcLa, HcLg, HcCo, HcLv, HcWo, HcFn, HcLn⟩ := id hI
  obtain ⟨og_xo, hxo, mcXo⟩ := id HcXo
  obtain ⟨we, stp, pa, ba, po, ah, gl, bag, pg, P, Q, ⟨⟨og_wo, og_we, og_stp, og_pa, og_ba⟩, hwo, hwe, hstp, hpa, hba, mcWo⟩, HcPa⟩ := id HcWo
  refine gC_mono (k_X11_adds hxo hwo hstp) ?_
  rintro r f2 ⟨v9, rfl, hr, hst2, hfr⟩
  have hK : kp own own (fun k => k = 11002) f f2 := by
    refine kp_fr (S := [stp]) (hfr) (fun _ _ _ => rfl) ?_
    intro x0 hx0
    simp only [List.mem_cons, List.not_mem_nil, or_false] at hx0
    have e0 := hx0
    rw [e0]; exact og_stp
  exact ⟨v9, rfl, hr, _, ⟨_, _, _, _, _, _, _, _, _, _, _, _, _, _, _, (cXo_kp HcXo hK nt_67), (kCh_kp HcCh hK nt_68), (kTp_kp HcTp hK nt_69), (kOu_kp HcOu hK nt_70), (cFa_kp HcFa hK nt_71), (cFm_kp HcFm hK nt_72), (kDr_kp HcDr hK nt_73), (kOt_kp HcOt hK nt_74), (kRt_kp HcRt hK nt_75), (kLa_kp HcLa hK nt_76), (kLg_kp HcLg hK nt_77), (kCo_kp HcCo hK nt_78), (cLv_kp HcLv hK nt_79), ⟨_, _, _, _, _, _, _, _, _, _, _, ⟨⟨og_wo, og_we, og_stp, og_pa, og_ba⟩, (hK.2 _ _ hwo (by show ¬ ((own wo) = 11002); rw [og_wo]; exact nt_80 _ ⟨Nat.le_refl _, Nat.lt_succ_self _⟩)), (hK.2 _ _ hwe (by show ¬ ((own we) = 11002); rw [og_we]; exact nt_81 _ ⟨Nat.le_refl _, Nat.lt_succ_self _⟩)), hst2, (hK.2 _ _ hpa (by show ¬ ((own pa) = 11002); rw [og_pa]; exact nt_82 _ ⟨Nat.le_refl _, Nat.lt_succ_self _⟩)), (hK.2 _ _ hba (by show ¬ ((own ba) = 11002); rw [og_ba]; exact nt_83 _ ⟨Nat.le_refl _, Nat.lt_succ_self _⟩)), mcWo⟩, (cPa_kp HcPa hK nt_84)⟩, HcFn, HcLn⟩, (kp_0 hK (nt_85 0 ⟨Nat.le_refl _, Nat.lt_succ_self _⟩))⟩

set_option maxHeartbeats 4000000 in
set_option maxRecDepth 100000 in
theorem i_X11_payment {l : Launch} {D : va_G} {cy : Nat → ClassId} {b : Nat} {f : gMem} {own : Nat → Nat} {xo : Nat} {da : Int32} {fcn : Int32} {csz : Int32} {sz : Int32} {len : Int32} {ln : Int32} {wz : Int32} {lo : Int32} {tg : Nat → Int32} {weg : Nat → Int32} {stg : Nat → Int32} {tpg : Nat → Int32} {CN : Nat → Int32 → Int32 → (Nat → Int32) → (Nat → Int32) → Prop} {eg : Nat → Int32} {thg : Nat → Int32} {LN : Nat → Nat → Int32 → Int32 → Int32 → Int32 → Int64 → (Nat → Int32) → (Nat → Int32) → Prop} {ne : Nat} {x y : Int32} (hI : xI cy own xo da fcn csz sz len ln wz lo tg weg stg tpg CN eg thg LN ne f)  : gC l D cy b yX11_payment cX11_payment 3 (some .int) 1 0 0 [.ref xo, .int x, .int y] f (pI fun r f2 => xI cy own xo da fcn csz sz len ln wz lo tg weg stg tpg CN eg thg LN ne f2 ∧ kp0 own own f f2) := by
  obtain ⟨ch, sc, tp, ou, fm, dr, dt_, rd, te, la, lg, co, wo, fmg, lvg, HcXo, HcCh, HcTp, HcOu, HcFa, HcFm, HcDr, HcOt, HcRt, HcLa, HcLg, HcCo, HcLv, HcWo, HcFn, HcLn⟩ := id hI
  obtain ⟨og_xo, hxo, mcXo⟩ := id HcXo
  obtain ⟨en, ge, re, gv, tk, am, gi, gvg, tkg, geg, reg, amg, ⟨og_lg, og_en, og_ge, og_re, og_gv, og_tk, og_am⟩, hlg, hen, hge, hre, hgv, htk, ham, mcLg⟩ := id HcLg
  refine gC_mono (k_X11_payment hxo hlg hen (Nat.lt_of_le_of_lt mcLg.2.2.2 (by decide)) ⟨mcLg.1, mcLg.2.1⟩) ?_
  rintro r f2 ⟨v9, rfl, hr, rfl⟩
  exact ⟨v9, rfl, hI, kp0_rf⟩

set_option maxHeartbeats 4000000 in
set_option maxRecDepth 100000 in
theorem i_X11_netted {l : Launch} {D : va_G} {cy : Nat → ClassId} {b : Nat} {f : gMem} {own : Nat → Nat} {xo : Nat} {da : Int32} {fcn : Int32} {csz : Int32} {sz : Int32} {len : Int32} {ln : Int32} {wz : Int32} {lo : Int32} {tg : Nat → Int32} {weg : Nat → Int32} {stg : Nat → Int32} {tpg : Nat → Int32} {CN : Nat → Int32 → Int32 → (Nat → Int32) → (Nat → Int32) → Prop} {eg : Nat → Int32} {thg : Nat → Int32} {LN : Nat → Nat → Int32 → Int32 → Int32 → Int32 → Int64 → (Nat → Int32) → (Nat → Int32) → Prop} {ne : Nat} {x y : Int32} (hI : xI cy own xo da fcn csz sz len ln wz lo tg weg stg tpg CN eg thg LN ne f)  : gC l D cy b yX11_netted cX11_netted 3 (some .long) 1 0 0 [.ref xo, .int x, .int y] f (pL fun r f2 => xI cy own xo da fcn csz sz len ln wz lo tg weg stg tpg CN eg thg LN ne f2 ∧ kp0 own own f f2) := by
  obtain ⟨ch, sc, tp, ou, fm, dr, dt_, rd, te, la, lg, co, wo, fmg, lvg, HcXo, HcCh, HcTp, HcOu, HcFa, HcFm, HcDr, HcOt, HcRt, HcLa, HcLg, HcCo, HcLv, HcWo, HcFn, HcLn⟩ := id hI
  obtain ⟨og_xo, hxo, mcXo⟩ := id HcXo
  obtain ⟨en, ge, re, gv, tk, am, gi, gvg, tkg, geg, reg, amg, ⟨og_lg, og_en, og_ge, og_re, og_gv, og_tk, og_am⟩, hlg, hen, hge, hre, hgv, htk, ham, mcLg⟩ := id HcLg
  refine gC_mono (k_X11_netted hxo hlg hge hgv htk ham) ?_
  rintro r f2 ⟨v9, rfl, hr, rfl⟩
  exact ⟨v9, rfl, hI, kp0_rf⟩

theorem nt_86  : ∀ k : Nat, 13000 ≤ k ∧ k < 14000 → ¬ (k = 9000 ∨ k = 9002 ∨ k = 9003 ∨ k = 9004 ∨ k = 9005 ∨ k = 9006) := by intro k hk hT; omega
theorem nt_87  : ∀ k : Nat, 1000 ≤ k ∧ k < 2000 → ¬ (k = 9000 ∨ k = 9002 ∨ k = 9003 ∨ k = 9004 ∨ k = 9005 ∨ k = 9006) := by intro k hk hT; omega
theorem nt_88  : ∀ k : Nat, 2000 ≤ k ∧ k < 3000 → ¬ (k = 9000 ∨ k = 9002 ∨ k = 9003 ∨ k = 9004 ∨ k = 9005 ∨ k = 9006) := by intro k hk hT; omega
theorem nt_89  : ∀ k : Nat, 14000 ≤ k ∧ k < 15000 → ¬ (k = 9000 ∨ k = 9002 ∨ k = 9003 ∨ k = 9004 ∨ k = 9005 ∨ k = 9006) := by intro k hk hT; omega
theorem nt_90  : ∀ k : Nat, 5000 ≤ k ∧ k < 6000 → ¬ (k = 9000 ∨ k = 9002 ∨ k = 9003 ∨ k = 9004 ∨ k = 9005 ∨ k = 9006) := by intro k hk hT; omega
theorem nt_91  : ∀ k : Nat, 4000 ≤ k ∧ k < 5000 → ¬ (k = 9000 ∨ k = 9002 ∨ k = 9003 ∨ k = 9004 ∨ k = 9005 ∨ k = 9006) := by intro k hk hT; omega
theorem nt_92  : ∀ k : Nat, 6000 ≤ k ∧ k < 7000 → ¬ (k = 9000 ∨ k = 9002 ∨ k = 9003 ∨ k = 9004 ∨ k = 9005 ∨ k = 9006) := by intro k hk hT; omega
theorem nt_93  : ∀ k : Nat, 7000 ≤ k ∧ k < 8000 → ¬ (k = 9000 ∨ k = 9002 ∨ k = 9003 ∨ k = 9004 ∨ k = 9005 ∨ k = 9006) := by intro k hk hT; omega
theorem nt_94  : ∀ k : Nat, 3000 ≤ k ∧ k < 4000 → ¬ (k = 9000 ∨ k = 9002 ∨ k = 9003 ∨ k = 9004 ∨ k = 9005 ∨ k = 9006) := by intro k hk hT; omega
theorem nt_95  : ∀ k : Nat, 8000 ≤ k ∧ k < 9000 → ¬ (k = 9000 ∨ k = 9002 ∨ k = 9003 ∨ k = 9004 ∨ k = 9005 ∨ k = 9006) := by intro k hk hT; omega
theorem nt_96  : ∀ k : Nat, 9001 ≤ k ∧ k < 9002 → ¬ (k = 9000 ∨ k = 9002 ∨ k = 9003 ∨ k = 9004 ∨ k = 9005 ∨ k = 9006) := by intro k hk hT; omega
theorem nt_97  : ∀ k : Nat, 10000 ≤ k ∧ k < 11000 → ¬ (k = 9000 ∨ k = 9002 ∨ k = 9003 ∨ k = 9004 ∨ k = 9005 ∨ k = 9006) := by intro k hk hT; omega
theorem nt_98  : ∀ k : Nat, 12000 ≤ k ∧ k < 13000 → ¬ (k = 9000 ∨ k = 9002 ∨ k = 9003 ∨ k = 9004 ∨ k = 9005 ∨ k = 9006) := by intro k hk hT; omega
theorem nt_99  : ∀ k : Nat, 11000 ≤ k ∧ k < 12000 → ¬ (k = 9000 ∨ k = 9002 ∨ k = 9003 ∨ k = 9004 ∨ k = 9005 ∨ k = 9006) := by intro k hk hT; omega
theorem nt_100  : ∀ k : Nat, 15000 ≤ k ∧ k < 16000 → ¬ (k = 9000 ∨ k = 9002 ∨ k = 9003 ∨ k = 9004 ∨ k = 9005 ∨ k = 9006) := by intro k hk hT; omega
theorem nt_101  : ∀ k : Nat, 0 ≤ k ∧ k < 1 → ¬ (k = 9000 ∨ k = 9002 ∨ k = 9003 ∨ k = 9004 ∨ k = 9005 ∨ k = 9006) := by intro k hk hT; omega
set_option maxHeartbeats 4000000 in
set_option maxRecDepth 100000 in
theorem i_X11_net {l : Launch} {D : va_G} {cy : Nat → ClassId} {b : Nat} {f : gMem} {own : Nat → Nat} {xo : Nat} {da : Int32} {fcn : Int32} {csz : Int32} {sz : Int32} {len : Int32} {ln : Int32} {wz : Int32} {lo : Int32} {tg : Nat → Int32} {weg : Nat → Int32} {stg : Nat → Int32} {tpg : Nat → Int32} {CN : Nat → Int32 → Int32 → (Nat → Int32) → (Nat → Int32) → Prop} {eg : Nat → Int32} {thg : Nat → Int32} {LN : Nat → Nat → Int32 → Int32 → Int32 → Int32 → Int64 → (Nat → Int32) → (Nat → Int32) → Prop} {ne : Nat} {x : Int32} (hI : xI cy own xo da fcn csz sz len ln wz lo tg weg stg tpg CN eg thg LN ne f)  : gC l D cy b yX11_net cX11_net 2 (some .int) 4 0 0 [.ref xo, .int x] f (pI fun r f2 => xI cy own xo da fcn csz sz len ln wz lo tg weg stg tpg CN eg thg LN ne f2 ∧ kp0 own own f f2) := by
  obtain ⟨ch, sc, tp, ou, fm, dr, dt_, rd, te, la, lg, co, wo, fmg, lvg, HcXo, HcCh, HcTp, HcOu, HcFa, HcFm, HcDr, HcOt, HcRt, HcLa, HcLg, HcCo, HcLv, HcWo, HcFn, HcLn⟩ := id hI
  obtain ⟨og_xo, hxo, mcXo⟩ := id HcXo
  obtain ⟨en, ge, re, gv, tk, am, gi, gvg, tkg, geg, reg, amg, ⟨og_lg, og_en, og_ge, og_re, og_gv, og_tk, og_am⟩, hlg, hen, hge, hre, hgv, htk, ham, mcLg⟩ := id HcLg
  refine gC_mono (k_X11_net hxo hlg hen hge hre hgv htk ham (Nat.lt_of_le_of_lt mcLg.2.2.2 (by decide)) ⟨mcLg.1, mcLg.2.1⟩ ⟨tgn og_en og_ge (by decide), tgn og_en og_re (by decide), tgn og_en og_gv (by decide), tgn og_en og_tk (by decide), tgn og_en og_am (by decide), tgn og_ge og_re (by decide), tgn og_ge og_gv (by decide), tgn og_ge og_tk (by decide), tgn og_ge og_am (by decide), tgn og_re og_gv (by decide), tgn og_re og_tk (by decide), tgn og_re og_am (by decide), tgn og_gv og_tk (by decide), tgn og_gv og_am (by decide), tgn og_tk og_am (by decide)⟩) ?_
  rintro r f2 ⟨v9, rfl, g2, r2, a2, v2, k2, gi2, hlg2, hge2, hre2, hgv2, htk2, ham2, -, hfr⟩
  have hK : kp own own (fun k => k = 9000 ∨ k = 9002 ∨ k = 9003 ∨ k = 9004 ∨ k = 9005 ∨ k = 9006) f f2 := by
    refine kp_fr (S := [lg, ge, re, gv, tk, am]) (hfr) (fun _ _ _ => rfl) ?_
    intro x0 hx0
    simp only [List.mem_cons, List.not_mem_nil, or_false] at hx0
    rcases hx0 with e0 | e0 | e0 | e0 | e0 | e0
    · rw [e0]; show (own lg) = 9000 ∨ (own lg) = 9002 ∨ (own lg) = 9003 ∨ (own lg) = 9004 ∨ (own lg) = 9005 ∨ (own lg) = 9006; rw [og_lg]; decide
    · rw [e0]; show (own ge) = 9000 ∨ (own ge) = 9002 ∨ (own ge) = 9003 ∨ (own ge) = 9004 ∨ (own ge) = 9005 ∨ (own ge) = 9006; rw [og_ge]; decide
    · rw [e0]; show (own re) = 9000 ∨ (own re) = 9002 ∨ (own re) = 9003 ∨ (own re) = 9004 ∨ (own re) = 9005 ∨ (own re) = 9006; rw [og_re]; decide
    · rw [e0]; show (own gv) = 9000 ∨ (own gv) = 9002 ∨ (own gv) = 9003 ∨ (own gv) = 9004 ∨ (own gv) = 9005 ∨ (own gv) = 9006; rw [og_gv]; decide
    · rw [e0]; show (own tk) = 9000 ∨ (own tk) = 9002 ∨ (own tk) = 9003 ∨ (own tk) = 9004 ∨ (own tk) = 9005 ∨ (own tk) = 9006; rw [og_tk]; decide
    · rw [e0]; show (own am) = 9000 ∨ (own am) = 9002 ∨ (own am) = 9003 ∨ (own am) = 9004 ∨ (own am) = 9005 ∨ (own am) = 9006; rw [og_am]; decide
  exact ⟨v9, rfl, ⟨_, _, _, _, _, _, _, _, _, _, _, _, _, _, _, (cXo_kp HcXo hK nt_86), (kCh_kp HcCh hK nt_87), (kTp_kp HcTp hK nt_88), (kOu_kp HcOu hK nt_89), (cFa_kp HcFa hK nt_90), (cFm_kp HcFm hK nt_91), (kDr_kp HcDr hK nt_92), (kOt_kp HcOt hK nt_93), (kRt_kp HcRt hK nt_94), (kLa_kp HcLa hK nt_95), ⟨_, _, _, _, _, _, _, _, _, _, _, _, ⟨⟨og_lg, og_en, og_ge, og_re, og_gv, og_tk, og_am⟩, hlg2, (hK.2 _ _ hen (by show ¬ ((own en) = 9000 ∨ (own en) = 9002 ∨ (own en) = 9003 ∨ (own en) = 9004 ∨ (own en) = 9005 ∨ (own en) = 9006); rw [og_en]; exact nt_96 _ ⟨Nat.le_refl _, Nat.lt_succ_self _⟩)), hge2, hre2, hgv2, htk2, ham2, mcLg⟩⟩, (kCo_kp HcCo hK nt_97), (cLv_kp HcLv hK nt_98), (kWo_kp HcWo hK nt_99 nt_100), HcFn, HcLn⟩, (kp_0 hK (nt_101 0 ⟨Nat.le_refl _, Nat.lt_succ_self _⟩))⟩

theorem nt_102  : ∀ k : Nat, 13000 ≤ k ∧ k < 14000 → ¬ (k = 11000 ∨ k = 11001 ∨ k = 11002) := by intro k hk hT; omega
theorem nt_103  : ∀ k : Nat, 1000 ≤ k ∧ k < 2000 → ¬ (k = 11000 ∨ k = 11001 ∨ k = 11002) := by intro k hk hT; omega
theorem nt_104  : ∀ k : Nat, 2000 ≤ k ∧ k < 3000 → ¬ (k = 11000 ∨ k = 11001 ∨ k = 11002) := by intro k hk hT; omega
theorem nt_105  : ∀ k : Nat, 14000 ≤ k ∧ k < 15000 → ¬ (k = 11000 ∨ k = 11001 ∨ k = 11002) := by intro k hk hT; omega
theorem nt_106  : ∀ k : Nat, 5000 ≤ k ∧ k < 6000 → ¬ (k = 11000 ∨ k = 11001 ∨ k = 11002) := by intro k hk hT; omega
theorem nt_107  : ∀ k : Nat, 4000 ≤ k ∧ k < 5000 → ¬ (k = 11000 ∨ k = 11001 ∨ k = 11002) := by intro k hk hT; omega
theorem nt_108  : ∀ k : Nat, 6000 ≤ k ∧ k < 7000 → ¬ (k = 11000 ∨ k = 11001 ∨ k = 11002) := by intro k hk hT; omega
theorem nt_109  : ∀ k : Nat, 7000 ≤ k ∧ k < 8000 → ¬ (k = 11000 ∨ k = 11001 ∨ k = 11002) := by intro k hk hT; omega
theorem nt_110  : ∀ k : Nat, 3000 ≤ k ∧ k < 4000 → ¬ (k = 11000 ∨ k = 11001 ∨ k = 11002) := by intro k hk hT; omega
theorem nt_111  : ∀ k : Nat, 8000 ≤ k ∧ k < 9000 → ¬ (k = 11000 ∨ k = 11001 ∨ k = 11002) := by intro k hk hT; omega
theorem nt_112  : ∀ k : Nat, 9000 ≤ k ∧ k < 10000 → ¬ (k = 11000 ∨ k = 11001 ∨ k = 11002) := by intro k hk hT; omega
theorem nt_113  : ∀ k : Nat, 10000 ≤ k ∧ k < 11000 → ¬ (k = 11000 ∨ k = 11001 ∨ k = 11002) := by intro k hk hT; omega
theorem nt_114  : ∀ k : Nat, 12000 ≤ k ∧ k < 13000 → ¬ (k = 11000 ∨ k = 11001 ∨ k = 11002) := by intro k hk hT; omega
theorem nt_115  : ∀ k : Nat, 11003 ≤ k ∧ k < 11004 → ¬ (k = 11000 ∨ k = 11001 ∨ k = 11002) := by intro k hk hT; omega
theorem nt_116  : ∀ k : Nat, 11004 ≤ k ∧ k < 11005 → ¬ (k = 11000 ∨ k = 11001 ∨ k = 11002) := by intro k hk hT; omega
theorem nt_117  : ∀ k : Nat, 15000 ≤ k ∧ k < 16000 → ¬ (k = 11000 ∨ k = 11001 ∨ k = 11002) := by intro k hk hT; omega
theorem nt_118  : ∀ k : Nat, 0 ≤ k ∧ k < 1 → ¬ (k = 11000 ∨ k = 11001 ∨ k = 11002) := by intro k hk hT; omega
set_option maxHeartbeats 4000000 in
set_option maxRecDepth 100000 in
theorem i_X11_ways {l : Launch} {D : va_G} {cy : Nat → ClassId} {b : Nat} {f : gMem} {own : Nat → Nat} {xo : Nat} {da : Int32} {fcn : Int32} {csz : Int32} {sz : Int32} {len : Int32} {ln : Int32} {wz : Int32} {lo : Int32} {tg : Nat → Int32} {weg : Nat → Int32} {stg : Nat → Int32} {tpg : Nat → Int32} {CN : Nat → Int32 → Int32 → (Nat → Int32) → (Nat → Int32) → Prop} {eg : Nat → Int32} {thg : Nat → Int32} {LN : Nat → Nat → Int32 → Int32 → Int32 → Int32 → Int64 → (Nat → Int32) → (Nat → Int32) → Prop} {ne : Nat} {x : Int32} (hI : xI cy own xo da fcn csz sz len ln wz lo tg weg stg tpg CN eg thg LN ne f)  : gC l D cy b yX11_ways cX11_ways 2 (some .boolean) 1 0 0 [.ref xo, .int x] f (pI fun r f2 => (r = if 1 ≤ x.toInt ∧ x.toInt ≤ 3 then 1 else 0) ∧ ∃ (wz2 : Int32) (weg2 : Nat → Int32) (stg2 : Nat → Int32) , xI cy own xo da fcn csz sz len ln wz2 lo tg weg2 stg2 tpg CN eg thg LN ne f2 ∧ kp0 own own f f2) := by
  obtain ⟨ch, sc, tp, ou, fm, dr, dt_, rd, te, la, lg, co, wo, fmg, lvg, HcXo, HcCh, HcTp, HcOu, HcFa, HcFm, HcDr, HcOt, HcRt, HcLa, HcLg, HcCo, HcLv, HcWo, HcFn, HcLn⟩ := id hI
  obtain ⟨og_xo, hxo, mcXo⟩ := id HcXo
  obtain ⟨we, stp, pa, ba, po, ah, gl, bag, pg, P, Q, ⟨⟨og_wo, og_we, og_stp, og_pa, og_ba⟩, hwo, hwe, hstp, hpa, hba, mcWo⟩, HcPa⟩ := id HcWo
  by_cases hx : 1 ≤ x.toInt ∧ x.toInt ≤ 3
  · refine gC_mono (k_X11_waysY hxo hwo hwe hstp (tgn og_we og_stp (by decide)) hx) ?_
    rintro r f2 ⟨v9, rfl, hr, hwo2, hwe2, hst2, hfr⟩
    have hK : kp own own (fun k => k = 11000 ∨ k = 11001 ∨ k = 11002) f f2 := by
      refine kp_fr (S := [wo, we, stp]) (hfr) (fun _ _ _ => rfl) ?_
      intro x0 hx0
      simp only [List.mem_cons, List.not_mem_nil, or_false] at hx0
      rcases hx0 with e0 | e0 | e0
      · rw [e0]; show (own wo) = 11000 ∨ (own wo) = 11001 ∨ (own wo) = 11002; rw [og_wo]; decide
      · rw [e0]; show (own we) = 11000 ∨ (own we) = 11001 ∨ (own we) = 11002; rw [og_we]; decide
      · rw [e0]; show (own stp) = 11000 ∨ (own stp) = 11001 ∨ (own stp) = 11002; rw [og_stp]; decide
    exact ⟨v9, rfl, (by rw [if_pos hx]; exact hr), _, _, _, ⟨_, _, _, _, _, _, _, _, _, _, _, _, _, _, _, (cXo_kp HcXo hK nt_102), (kCh_kp HcCh hK nt_103), (kTp_kp HcTp hK nt_104), (kOu_kp HcOu hK nt_105), (cFa_kp HcFa hK nt_106), (cFm_kp HcFm hK nt_107), (kDr_kp HcDr hK nt_108), (kOt_kp HcOt hK nt_109), (kRt_kp HcRt hK nt_110), (kLa_kp HcLa hK nt_111), (kLg_kp HcLg hK nt_112), (kCo_kp HcCo hK nt_113), (cLv_kp HcLv hK nt_114), ⟨_, _, _, _, _, _, _, _, _, _, _, ⟨⟨og_wo, og_we, og_stp, og_pa, og_ba⟩, hwo2, hwe2, hst2, (hK.2 _ _ hpa (by show ¬ ((own pa) = 11000 ∨ (own pa) = 11001 ∨ (own pa) = 11002); rw [og_pa]; exact nt_115 _ ⟨Nat.le_refl _, Nat.lt_succ_self _⟩)), (hK.2 _ _ hba (by show ¬ ((own ba) = 11000 ∨ (own ba) = 11001 ∨ (own ba) = 11002); rw [og_ba]; exact nt_116 _ ⟨Nat.le_refl _, Nat.lt_succ_self _⟩)), hx⟩, (cPa_kp HcPa hK nt_117)⟩, HcFn, HcLn⟩, (kp_0 hK (nt_118 0 ⟨Nat.le_refl _, Nat.lt_succ_self _⟩))⟩
  · refine gC_mono (k_X11_waysN hxo (by omega)) ?_
    rintro r f2 ⟨v9, rfl, hr, rfl⟩
    exact ⟨v9, rfl, (by rw [if_neg hx]; exact hr), _, _, _, hI, kp0_rf⟩

set_option maxHeartbeats 4000000 in
set_option maxRecDepth 100000 in
theorem i_X11_words {l : Launch} {D : va_G} {cy : Nat → ClassId} {b : Nat} {f : gMem} {own : Nat → Nat} {xo : Nat} {da : Int32} {fcn : Int32} {csz : Int32} {sz : Int32} {len : Int32} {ln : Int32} {wz : Int32} {lo : Int32} {tg : Nat → Int32} {weg : Nat → Int32} {stg : Nat → Int32} {tpg : Nat → Int32} {CN : Nat → Int32 → Int32 → (Nat → Int32) → (Nat → Int32) → Prop} {eg : Nat → Int32} {thg : Nat → Int32} {LN : Nat → Nat → Int32 → Int32 → Int32 → Int32 → Int64 → (Nat → Int32) → (Nat → Int32) → Prop} {ne : Nat} {x : Int32} (hI : xI cy own xo da fcn csz sz len ln wz lo tg weg stg tpg CN eg thg LN ne f)  : gC l D cy b yX11_words cX11_words 3 (some .int) 1 0 0 [.ref xo, .int x] f (pI fun r f2 => xI cy own xo da fcn csz sz len ln wz lo tg weg stg tpg CN eg thg LN ne f2 ∧ kp0 own own f f2) := by
  obtain ⟨ch, sc, tp, ou, fm, dr, dt_, rd, te, la, lg, co, wo, fmg, lvg, HcXo, HcCh, HcTp, HcOu, HcFa, HcFm, HcDr, HcOt, HcRt, HcLa, HcLg, HcCo, HcLv, HcWo, HcFn, HcLn⟩ := id hI
  obtain ⟨og_xo, hxo, mcXo⟩ := id HcXo
  obtain ⟨og_fm, hfm⟩ := id HcFa
  cases hA : formF fcn fmg x with
  | none =>
    refine gC_mono (k_X11_wordsN hxo hfm hA) ?_
    rintro r f2 ⟨v9, rfl, hr, rfl⟩
    exact ⟨v9, rfl, hI, kp0_rf⟩
  | some p =>
    obtain ⟨c1, c2, n1, n2, s, v, g, h, ⟨⟨og_p, og_c1, og_c2⟩, hp, h1, h2, hs, hv, hFI⟩, hCN⟩ := HcFm _ _ (formF_some hA).1 (formF_some hA).2
    refine gC_mono (k_X11_wordsY hxo hfm hp hA) ?_
    rintro r f2 ⟨v9, rfl, hr, rfl⟩
    exact ⟨v9, rfl, hI, kp0_rf⟩

set_option maxHeartbeats 4000000 in
set_option maxRecDepth 100000 in
theorem i_X11_word {l : Launch} {D : va_G} {cy : Nat → ClassId} {b : Nat} {f : gMem} {own : Nat → Nat} {xo : Nat} {da : Int32} {fcn : Int32} {csz : Int32} {sz : Int32} {len : Int32} {ln : Int32} {wz : Int32} {lo : Int32} {tg : Nat → Int32} {weg : Nat → Int32} {stg : Nat → Int32} {tpg : Nat → Int32} {CN : Nat → Int32 → Int32 → (Nat → Int32) → (Nat → Int32) → Prop} {eg : Nat → Int32} {thg : Nat → Int32} {LN : Nat → Nat → Int32 → Int32 → Int32 → Int32 → Int64 → (Nat → Int32) → (Nat → Int32) → Prop} {ne : Nat} {x y u : Int32} (hI : xI cy own xo da fcn csz sz len ln wz lo tg weg stg tpg CN eg thg LN ne f)  : gC l D cy b yX11_word cX11_word 5 (some .int) 1 0 0 [.ref xo, .int x, .int y, .int u] f (pI fun r f2 => xI cy own xo da fcn csz sz len ln wz lo tg weg stg tpg CN eg thg LN ne f2 ∧ kp0 own own f f2) := by
  obtain ⟨ch, sc, tp, ou, fm, dr, dt_, rd, te, la, lg, co, wo, fmg, lvg, HcXo, HcCh, HcTp, HcOu, HcFa, HcFm, HcDr, HcOt, HcRt, HcLa, HcLg, HcCo, HcLv, HcWo, HcFn, HcLn⟩ := id hI
  obtain ⟨og_xo, hxo, mcXo⟩ := id HcXo
  obtain ⟨og_fm, hfm⟩ := id HcFa
  cases hA : formF fcn fmg x with
  | none =>
    refine gC_mono (k_X11_wordN hxo hfm hA) ?_
    rintro r f2 ⟨v9, rfl, hr, rfl⟩
    exact ⟨v9, rfl, hI, kp0_rf⟩
  | some p =>
    obtain ⟨c1, c2, n1, n2, s, v, g, h, ⟨⟨og_p, og_c1, og_c2⟩, hp, h1, h2, hs, hv, hFI⟩, hCN⟩ := HcFm _ _ (formF_some hA).1 (formF_some hA).2
    refine gC_mono (k_X11_wordY hxo hfm hp h1 hA hs) ?_
    rintro r f2 ⟨v9, rfl, hr, rfl⟩
    exact ⟨v9, rfl, hI, kp0_rf⟩
