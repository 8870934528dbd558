def xpayF (ne : Nat) (eg : Nat → Int32) (sz x y : Int32) : Int32 := (if (y : Int32) < 0 then (-10000000) else (if (y : Int32) ≤ 3 then (entF ne eg sz x y) else (-10000000)))
set_option maxHeartbeats 4000000 in
set_option maxRecDepth 100000 in
theorem k_X11_payment {l : Launch} {D : va_G} {cy : Nat → ClassId} {b : Nat} {f : gMem} {xo ch tp ou fm dr dt_ rd te la co wo : Nat} {fcn : Int32} {lg en ge re gv tk am ne : Nat} {sz lo gi : Int32} {eg : Nat → Int32} {x y : Int32} (hxo : f xo = some (.inr (11, [.ref ch, .ref tp, .ref ou, .ref fm, .ref dr, .ref dt_, .ref rd, .ref te, .ref la, .ref lg, .ref co, .ref wo, .int fcn]))) (hlg : f lg = some (.inr (4, [.ref en, .int sz, .int lo, .ref ge, .ref re, .ref gv, .ref tk, .ref am, .int gi]))) (hen : f en = some (.inl (cy 0, ne, .inl (eg)))) (hn : ne < 2 ^ 31) (hs : 0 ≤ sz.toInt ∧ sz.toInt ≤ 2000) : gC l D cy b yX11_payment cX11_payment 3 (some .int) 1 0 0 [.ref xo, .int x, .int y] f (pI fun r f2 => r = xpayF ne eg sz x y ∧ f2 = f) := by
  refine gC_of (by decide) (Nat.le_of_ble_eq_true rfl) ?_
  show gG l _ _ _ D cy b cX11_payment 3 _ RX11 "payment" 0 0 f 0 [(0, .ref xo), (1, .int x), (2, .int y)] []
  refine gz_iload_n dX11_payment_0 rfl rfl ?_
  refine gz_if_lt (tgt := 9) dX11_payment_1 (by decide) (fun c_1 => ?_) (fun c_1 => ?_)
  ·
    refine gz_ldc (v := (-10000000)) wd_642 dX11_payment_9 ?_
    exact gz_iret rfl dX11_payment_11 (Nat.le_of_ble_eq_true rfl) (Nat.le_of_ble_eq_true rfl) (⟨_, rfl, (show _ = _ from Eq.symm (by unfold xpayF; rw [if_pos c_1])), rfl⟩)
  ·
    refine gz_iload_n dX11_payment_4 rfl rfl ?_
    refine gz_iconst (v := 3) dX11_payment_5 (by decide) ?_
    refine gz_icmp_le (tgt := 12) dX11_payment_6 (by decide) (fun c_6 => ?_) (fun c_6 => ?_)
    ·
      refine gz_aload_n dX11_payment_12 rfl rfl ?_
      refine sgX11_72 hxo rfl dX11_payment_13 ?_
      refine gz_iload_n dX11_payment_16 rfl rfl ?_
      refine gz_iload_n dX11_payment_17 rfl rfl ?_
      refine scX11_182 (k_X4_entry (k := x) (x := y) hlg hen hn hs) hlg ⟨(Nat.le_of_ble_eq_true rfl), (Nat.le_of_ble_eq_true rfl)⟩ ⟨(Nat.le_of_ble_eq_true rfl), (Nat.le_of_ble_eq_true rfl)⟩ rfl rfl (Nat.le_of_ble_eq_true rfl) dX11_payment_18 ?_
      intro v9 f9 z9; rw [z9.1, z9.2]
      exact gz_iret rfl dX11_payment_21 (Nat.le_of_ble_eq_true rfl) (Nat.le_of_ble_eq_true rfl) (⟨_, rfl, (show _ = _ from Eq.symm (by unfold xpayF; rw [if_neg c_1, if_pos c_6])), rfl⟩)
    ·
      refine gz_ldc (v := (-10000000)) wd_642 dX11_payment_9 ?_
      exact gz_iret rfl dX11_payment_11 (Nat.le_of_ble_eq_true rfl) (Nat.le_of_ble_eq_true rfl) (⟨_, rfl, (show _ = _ from Eq.symm (by unfold xpayF; rw [if_neg c_1, if_neg c_6])), rfl⟩)

def xntdF (geg : Nat → Int64) (gvg tkg : Nat → Int32) (amg : Nat → Int64) (gi x y : Int32) : Int64 := (stlF geg gvg tkg amg gi x y)
set_option maxHeartbeats 4000000 in
set_option maxRecDepth 100000 in
theorem k_X11_netted {l : Launch} {D : va_G} {cy : Nat → ClassId} {b : Nat} {f : gMem} {xo ch tp ou fm dr dt_ rd te la co wo : Nat} {fcn : Int32} {lg en ge re gv tk am : Nat} {sz lo gi : Int32} {gvg tkg : Nat → Int32} {geg amg : Nat → Int64} {x y : Int32} (hxo : f xo = some (.inr (11, [.ref ch, .ref tp, .ref ou, .ref fm, .ref dr, .ref dt_, .ref rd, .ref te, .ref la, .ref lg, .ref co, .ref wo, .int fcn]))) (hlg : f lg = some (.inr (4, [.ref en, .int sz, .int lo, .ref ge, .ref re, .ref gv, .ref tk, .ref am, .int gi]))) (hge : f ge = some (.inl (cy 2, 8, .inr (.inl (geg))))) (hgv : f gv = some (.inl (cy 0, 8, .inl (gvg)))) (htk : f tk = some (.inl (cy 0, 8, .inl (tkg)))) (ham : f am = some (.inl (cy 2, 8, .inr (.inl (amg)))))  : gC l D cy b yX11_netted cX11_netted 3 (some .long) 1 0 0 [.ref xo, .int x, .int y] f (pL fun r f2 => r = xntdF geg gvg tkg amg gi x y ∧ f2 = f) := by
  refine gC_of (by decide) (Nat.le_of_ble_eq_true rfl) ?_
  show gG l _ _ _ D cy b cX11_netted 3 _ RX11 "netted" 0 0 f 0 [(0, .ref xo), (1, .int x), (2, .int y)] []
  refine gz_aload_n dX11_netted_0 rfl rfl ?_
  refine sgX11_72 hxo rfl dX11_netted_1 ?_
  refine gz_iload_n dX11_netted_4 rfl rfl ?_
  refine gz_iload_n dX11_netted_5 rfl rfl ?_
  refine scX11_192 (k_X4_settled (k := x) (x := y) hlg hge hgv htk ham) hlg ⟨(Nat.le_of_ble_eq_true rfl), (Nat.le_of_ble_eq_true rfl)⟩ ⟨(Nat.le_of_ble_eq_true rfl), (Nat.le_of_ble_eq_true rfl)⟩ rfl rfl (Nat.le_of_ble_eq_true rfl) dX11_netted_6 ?_
  intro v9 f9 z9; rw [z9.1, z9.2]
  exact gz_lret rfl dX11_netted_9 (Nat.le_of_ble_eq_true rfl) (Nat.le_of_ble_eq_true rfl) (⟨_, rfl, (show _ = _ from Eq.symm (by unfold xntdF; rfl)), rfl⟩)

set_option maxHeartbeats 4000000 in
set_option maxRecDepth 100000 in
theorem k_X11_net {l : Launch} {D : va_G} {cy : Nat → ClassId} {b : Nat} {f : gMem} {xo ch tp ou fm dr dt_ rd te la co wo : Nat} {fcn : Int32} {lg en ge re gv tk am ne : Nat} {sz lo gi : Int32} {eg gvg tkg : Nat → Int32} {geg reg amg : Nat → Int64} {x : Int32} (hxo : f xo = some (.inr (11, [.ref ch, .ref tp, .ref ou, .ref fm, .ref dr, .ref dt_, .ref rd, .ref te, .ref la, .ref lg, .ref co, .ref wo, .int fcn]))) (hlg : f lg = some (.inr (4, [.ref en, .int sz, .int lo, .ref ge, .ref re, .ref gv, .ref tk, .ref am, .int gi]))) (hen : f en = some (.inl (cy 0, ne, .inl (eg)))) (hge : f ge = some (.inl (cy 2, 8, .inr (.inl (geg))))) (hre : f re = some (.inl (cy 2, 8, .inr (.inl (reg))))) (hgv : f gv = some (.inl (cy 0, 8, .inl (gvg)))) (htk : f tk = some (.inl (cy 0, 8, .inl (tkg)))) (ham : f am = some (.inl (cy 2, 8, .inr (.inl (amg))))) (hn : ne < 2 ^ 31) (hs : 0 ≤ sz.toInt ∧ sz.toInt ≤ 2000) (hna : en ≠ ge ∧ en ≠ re ∧ en ≠ gv ∧ en ≠ tk ∧ en ≠ am ∧ ge ≠ re ∧ ge ≠ gv ∧ ge ≠ tk ∧ ge ≠ am ∧ re ≠ gv ∧ re ≠ tk ∧ re ≠ am ∧ gv ≠ tk ∧ gv ≠ am ∧ tk ≠ am) : gC l D cy b yX11_net cX11_net 2 (some .int) 4 0 0 [.ref xo, .int x] f (pI fun r f2 => ∃ (g2 r2 a2 : Nat → Int64) (v2 k2 : Nat → Int32) (gi2 : Int32), f2 lg = some (.inr (4, [.ref en, .int sz, .int lo, .ref ge, .ref re, .ref gv, .ref tk, .ref am, .int gi2])) ∧ f2 ge = some (.inl (cy 2, 8, .inr (.inl (g2)))) ∧ f2 re = some (.inl (cy 2, 8, .inr (.inl (r2)))) ∧ f2 gv = some (.inl (cy 0, 8, .inl (v2))) ∧ f2 tk = some (.inl (cy 0, 8, .inl (k2))) ∧ f2 am = some (.inl (cy 2, 8, .inr (.inl (a2)))) ∧ (gi2 = gi ∨ (0 ≤ gi2.toInt ∧ gi2.toInt ≤ 8)) ∧ fr [lg, ge, re, gv, tk, am] f f2) := by
  refine gC_of (by decide) (Nat.le_of_ble_eq_true rfl) ?_
  show gG l _ _ _ D cy b cX11_net 2 _ RX11 "net" 0 0 f 0 [(0, .ref xo), (1, .int x)] []
  refine gz_iload_n dX11_net_0 rfl rfl ?_
  refine gz_if_lt (tgt := 11) dX11_net_1 (by decide) (fun c_1 => ?_) (fun c_1 => ?_)
  ·
    refine gz_iconst (v := (-1)) dX11_net_11 (by decide) ?_
    exact gz_iret rfl dX11_net_12 (Nat.le_of_ble_eq_true rfl) (Nat.le_of_ble_eq_true rfl) (⟨_, rfl, _, _, _, _, _, _, hlg, hge, hre, hgv, htk, ham, (Or.inl rfl), fr_rf⟩)
  ·
    refine gz_iload_n dX11_net_4 rfl rfl ?_
    refine gz_sipush (v := 400) dX11_net_5 (by decide) ?_
    refine gz_icmp_lt (tgt := 13) dX11_net_8 (by decide) (fun c_8 => ?_) (fun c_8 => ?_)
    ·
      refine gz_aload_n dX11_net_13 rfl rfl ?_
      refine sgX11_72 hxo rfl dX11_net_14 ?_
      refine gz_iload_n dX11_net_17 rfl rfl ?_
      refine scX11_189 (k_X4_settle (x := x) hlg hen hge hre hgv htk ham hn hs hna) hlg ⟨(Nat.le_of_ble_eq_true rfl), (Nat.le_of_ble_eq_true rfl)⟩ ⟨(Nat.le_of_ble_eq_true rfl), (Nat.le_of_ble_eq_true rfl)⟩ rfl rfl (Nat.le_of_ble_eq_true rfl) dX11_net_18 ?_
      rintro r1 f1 ⟨g_1, r__1, a_1, v_1, k_1, i_1, hlg_1, hge_1, hre_1, hgv_1, htk_1, ham_1, hg_1, hr1⟩
      have hxo_1 : f1 xo = some (.inr (11, [.ref ch, .ref tp, .ref ou, .ref fm, .ref dr, .ref dt_, .ref rd, .ref te, .ref la, .ref lg, .ref co, .ref wo, .int fcn])) := hr1 _ _ hxo (by simp only [List.mem_cons, List.not_mem_nil, or_false, not_or]; exact ⟨cne hxo hlg (by simp), cne hxo hge (by simp), cne hxo hre (by simp), cne hxo hgv (by simp), cne hxo htk (by simp), cne hxo ham (by simp)⟩)
      have hen_1 : f1 en = some (.inl (cy 0, ne, .inl (eg))) := hr1 _ _ hen (by simp only [List.mem_cons, List.not_mem_nil, or_false, not_or]; exact ⟨cne hen hlg (by simp), hna.1, hna.2.1, hna.2.2.1, hna.2.2.2.1, hna.2.2.2.2.1⟩)
      exact gz_iret rfl dX11_net_21 (Nat.le_of_ble_eq_true rfl) (Nat.le_of_ble_eq_true rfl) (⟨_, rfl, _, _, _, _, _, _, hlg_1, hge_1, hre_1, hgv_1, htk_1, ham_1, (Or.inr hg_1), (fr_tr fr_rf (fr_mo hr1 (by simp)))⟩)
    ·
      refine gz_iconst (v := (-1)) dX11_net_11 (by decide) ?_
      exact gz_iret rfl dX11_net_12 (Nat.le_of_ble_eq_true rfl) (Nat.le_of_ble_eq_true rfl) (⟨_, rfl, _, _, _, _, _, _, hlg, hge, hre, hgv, htk, ham, (Or.inl rfl), fr_rf⟩)

def formF (fcn : Int32) (fmg : Nat → Option Nat) (x : Int32) : Option Nat := if x < 0 then none else if fcn ≤ x then none else if 20 ≤ x then none else fmg (Int32.toNatClampNeg x)

set_option maxHeartbeats 4000000 in
set_option maxRecDepth 100000 in
theorem k_X11_formAt {l : Launch} {D : va_G} {cy : Nat → ClassId} {b : Nat} {f : gMem} {xo ch tp ou fm dr dt_ rd te la co wo : Nat} {fcn : Int32} {fmg : Nat → Option Nat} {lg : Nat} {x : Int32} (hxo : f xo = some (.inr (11, [.ref ch, .ref tp, .ref ou, .ref fm, .ref dr, .ref dt_, .ref rd, .ref te, .ref la, .ref lg, .ref co, .ref wo, .int fcn]))) (hfm : f fm = some (.inl (cy 4, 20, .inr (.inr (.inr (.inr (fmg)))))))  : gC l D cy b yX11_formAt cX11_formAt 2 (some (.object "DeedTongue$Form")) 0 0 0 [.ref xo, .int x] f (pR fun u f2 => u = formF fcn fmg x ∧ f2 = f) := by
  refine gC_of (by decide) (Nat.le_of_ble_eq_true rfl) ?_
  show gG l _ _ _ D cy b cX11_formAt 2 _ RX11 "formAt" 0 0 f 0 [(0, .ref xo), (1, .int x)] []
  refine gz_iload_n dX11_formAt_0 rfl rfl ?_
  refine gz_if_lt (tgt := 27) dX11_formAt_1 (by decide) (fun c_1 => ?_) (fun c_1 => ?_)
  ·
    refine gz_null dX11_formAt_27 ?_
    exact gz_aret rfl (Or.inl rfl) dX11_formAt_28 (Nat.le_of_ble_eq_true rfl) (Nat.le_of_ble_eq_true rfl) (⟨none, rfl, (by unfold formF; rw [if_pos c_1]), rfl⟩)
  ·
    refine gz_iload_n dX11_formAt_4 rfl rfl ?_
    refine gz_aload_n dX11_formAt_5 rfl rfl ?_
    refine sgX11_116 hxo rfl dX11_formAt_6 ?_
    refine gz_icmp_ge (tgt := 27) dX11_formAt_9 (by decide) (fun c_9 => ?_) (fun c_9 => ?_)
    ·
      refine gz_null dX11_formAt_27 ?_
      exact gz_aret rfl (Or.inl rfl) dX11_formAt_28 (Nat.le_of_ble_eq_true rfl) (Nat.le_of_ble_eq_true rfl) (⟨none, rfl, (by unfold formF; rw [if_neg c_1, if_pos c_9]), rfl⟩)
    ·
      refine gz_iload_n dX11_formAt_12 rfl rfl ?_
      refine gz_bipush (v := 20) dX11_formAt_13 (by decide) ?_
      refine gz_icmp_ge (tgt := 27) dX11_formAt_15 (by decide) (fun c_15 => ?_) (fun c_15 => ?_)
      ·
        refine gz_null dX11_formAt_27 ?_
        exact gz_aret rfl (Or.inl rfl) dX11_formAt_28 (Nat.le_of_ble_eq_true rfl) (Nat.le_of_ble_eq_true rfl) (⟨none, rfl, (by unfold formF; rw [if_neg c_1, if_neg c_9, if_pos c_15]), rfl⟩)
      ·
        refine gz_aload_n dX11_formAt_18 rfl rfl ?_
        refine sgX11_30 hxo rfl dX11_formAt_19 ?_
        refine gz_iload_n dX11_formAt_22 rfl rfl ?_
        refine gz_aald4 hfm ((by have e0 : (0 : Int32).toInt = 0 := rfl; have e20 : (20 : Int32).toInt = 20 := rfl; simp only [fl_lt, fl_le] at c_1 c_15; exact vin_T (rfl : x.toInt = x.toInt) (by omega) (by omega))) dX11_formAt_23 ?_
        refine gz_goto (tgt := 28) dX11_formAt_24 (by decide) ?_
        exact gz_aret rfl (va_rf_or _) dX11_formAt_28 (Nat.le_of_ble_eq_true rfl) (Nat.le_of_ble_eq_true rfl) (⟨_, rfl, (by unfold formF; rw [if_neg c_1, if_neg c_9, if_neg c_15]), rfl⟩)

set_option maxHeartbeats 4000000 in
set_option maxRecDepth 100000 in
theorem k_X11_feed {l : Launch} {D : va_G} {cy : Nat → ClassId} {b : Nat} {f : gMem} {xo ch tp ou fm dr dt_ rd te la co wo tb n : Nat} {fcn len : Int32} {tg2 : Nat → Int32} {lg : Nat} {a1 a2 a3 a4 a5 : Int32} (hxo : f xo = some (.inr (11, [.ref ch, .ref tp, .ref ou, .ref fm, .ref dr, .ref dt_, .ref rd, .ref te, .ref la, .ref lg, .ref co, .ref wo, .int fcn]))) (htp : f tp = some (.inr (9, [.ref tb, .int len]))) (htb : f tb = some (.inl (cy 1, n, .inl (tg2)))) (hn : n < 2 ^ 31) : gC l D cy b yX11_feed cX11_feed 6 (some .int) 2 0 0 [.ref xo, .int a1, .int a2, .int a3, .int a4, .int a5] f (pI fun r f2 => ∃ (l2 : Int32) (g2 : Nat → Int32), f2 tp = some (.inr (9, [.ref tb, .int l2])) ∧ f2 tb = some (.inl (cy 1, n, .inl (g2))) ∧ fr [tp, tb] f f2) := by
  refine gC_of (by decide) (Nat.le_of_ble_eq_true rfl) ?_
  show gG l _ _ _ D cy b cX11_feed 6 _ RX11 "feed" 0 0 f 0 [(0, .ref xo), (1, .int a1), (2, .int a2), (3, .int a3), (4, .int a4), (5, .int a5)] []
  refine gz_aload_n dX11_feed_0 rfl rfl ?_
  refine sgX11_21 hxo rfl dX11_feed_1 ?_
  refine scX11_106 (k_X9_size htp) htp ⟨(Nat.le_of_ble_eq_true rfl), (Nat.le_of_ble_eq_true rfl)⟩ ⟨(Nat.le_of_ble_eq_true rfl), (Nat.le_of_ble_eq_true rfl)⟩ rfl rfl (Nat.le_of_ble_eq_true rfl) dX11_feed_4 ?_
  intro v9 f9 z9; rw [z9.1, z9.2]
  refine gz_bipush (v := 20) dX11_feed_7 (by decide) ?_
  refine gz_iadd dX11_feed_9 ?_
  refine gz_sipush (v := 400) dX11_feed_10 (by decide) ?_
  refine gz_icmp_le (tgt := 18) dX11_feed_13 (by decide) (fun c_13 => ?_) (fun c_13 => ?_)
  ·
    refine gz_aload_n dX11_feed_18 rfl rfl ?_
    refine sgX11_21 hxo rfl dX11_feed_19 ?_
    refine gz_iload_n dX11_feed_22 rfl rfl ?_
    refine scX11_110 (k_X9_putNumber (x := a1) htp htb hn) htp ⟨(Nat.le_of_ble_eq_true rfl), (Nat.le_of_ble_eq_true rfl)⟩ ⟨(Nat.le_of_ble_eq_true rfl), (Nat.le_of_ble_eq_true rfl)⟩ rfl rfl (Nat.le_of_ble_eq_true rfl) dX11_feed_23 ?_
    rintro f1 ⟨⟨g_1, htp_1, htb_1⟩, hr1⟩
    have hxo_1 : f1 xo = some (.inr (11, [.ref ch, .ref tp, .ref ou, .ref fm, .ref dr, .ref dt_, .ref rd, .ref te, .ref la, .ref lg, .ref co, .ref wo, .int fcn])) := hr1 _ _ hxo (by simp only [List.mem_cons, List.not_mem_nil, or_false, not_or]; exact ⟨cne hxo htp (by simp), cne hxo htb (by simp)⟩)
    refine gz_aload_n dX11_feed_26 rfl rfl ?_
    refine sgX11_21 hxo_1 rfl dX11_feed_27 ?_
    refine gz_iload_n dX11_feed_30 rfl rfl ?_
    refine scX11_110 (k_X9_putNumber (x := a2) htp_1 htb_1 hn) htp_1 ⟨(Nat.le_of_ble_eq_true rfl), (Nat.le_of_ble_eq_true rfl)⟩ ⟨(Nat.le_of_ble_eq_true rfl), (Nat.le_of_ble_eq_true rfl)⟩ rfl rfl (Nat.le_of_ble_eq_true rfl) dX11_feed_31 ?_
    rintro f2 ⟨⟨g_2, htp_2, htb_2⟩, hr2⟩
    have hxo_2 : f2 xo = some (.inr (11, [.ref ch, .ref tp, .ref ou, .ref fm, .ref dr, .ref dt_, .ref rd, .ref te, .ref la, .ref lg, .ref co, .ref wo, .int fcn])) := hr2 _ _ hxo_1 (by simp only [List.mem_cons, List.not_mem_nil, or_false, not_or]; exact ⟨cne hxo_1 htp_1 (by simp), cne hxo_1 htb_1 (by simp)⟩)
    refine gz_aload_n dX11_feed_34 rfl rfl ?_
    refine sgX11_21 hxo_2 rfl dX11_feed_35 ?_
    refine gz_iload_n dX11_feed_38 rfl rfl ?_
    refine scX11_110 (k_X9_putNumber (x := a3) htp_2 htb_2 hn) htp_2 ⟨(Nat.le_of_ble_eq_true rfl), (Nat.le_of_ble_eq_true rfl)⟩ ⟨(Nat.le_of_ble_eq_true rfl), (Nat.le_of_ble_eq_true rfl)⟩ rfl rfl (Nat.le_of_ble_eq_true rfl) dX11_feed_39 ?_
    rintro f3 ⟨⟨g_3, htp_3, htb_3⟩, hr3⟩
    have hxo_3 : f3 xo = some (.inr (11, [.ref ch, .ref tp, .ref ou, .ref fm, .ref dr, .ref dt_, .ref rd, .ref te, .ref la, .ref lg, .ref co, .ref wo, .int fcn])) := hr3 _ _ hxo_2 (by simp only [List.mem_cons, List.not_mem_nil, or_false, not_or]; exact ⟨cne hxo_2 htp_2 (by simp), cne hxo_2 htb_2 (by simp)⟩)
    refine gz_aload_n dX11_feed_42 rfl rfl ?_
    refine sgX11_21 hxo_3 rfl dX11_feed_43 ?_
    refine gz_iload dX11_feed_46 rfl ?_
    refine scX11_110 (k_X9_putNumber (x := a4) htp_3 htb_3 hn) htp_3 ⟨(Nat.le_of_ble_eq_true rfl), (Nat.le_of_ble_eq_true rfl)⟩ ⟨(Nat.le_of_ble_eq_true rfl), (Nat.le_of_ble_eq_true rfl)⟩ rfl rfl (Nat.le_of_ble_eq_true rfl) dX11_feed_48 ?_
    rintro f4 ⟨⟨g_4, htp_4, htb_4⟩, hr4⟩
    have hxo_4 : f4 xo = some (.inr (11, [.ref ch, .ref tp, .ref ou, .ref fm, .ref dr, .ref dt_, .ref rd, .ref te, .ref la, .ref lg, .ref co, .ref wo, .int fcn])) := hr4 _ _ hxo_3 (by simp only [List.mem_cons, List.not_mem_nil, or_false, not_or]; exact ⟨cne hxo_3 htp_3 (by simp), cne hxo_3 htb_3 (by simp)⟩)
    refine gz_aload_n dX11_feed_51 rfl rfl ?_
    refine sgX11_21 hxo_4 rfl dX11_feed_52 ?_
    refine gz_iload dX11_feed_55 rfl ?_
    refine scX11_110 (k_X9_putNumber (x := a5) htp_4 htb_4 hn) htp_4 ⟨(Nat.le_of_ble_eq_true rfl), (Nat.le_of_ble_eq_true rfl)⟩ ⟨(Nat.le_of_ble_eq_true rfl), (Nat.le_of_ble_eq_true rfl)⟩ rfl rfl (Nat.le_of_ble_eq_true rfl) dX11_feed_57 ?_
    rintro f5 ⟨⟨g_5, htp_5, htb_5⟩, hr5⟩
    have hxo_5 : f5 xo = some (.inr (11, [.ref ch, .ref tp, .ref ou, .ref fm, .ref dr, .ref dt_, .ref rd, .ref te, .ref la, .ref lg, .ref co, .ref wo, .int fcn])) := hr5 _ _ hxo_4 (by simp only [List.mem_cons, List.not_mem_nil, or_false, not_or]; exact ⟨cne hxo_4 htp_4 (by simp), cne hxo_4 htb_4 (by simp)⟩)
    refine gz_aload_n dX11_feed_60 rfl rfl ?_
    refine sgX11_21 hxo_5 rfl dX11_feed_61 ?_
    refine scX11_106 (k_X9_size htp_5) htp_5 ⟨(Nat.le_of_ble_eq_true rfl), (Nat.le_of_ble_eq_true rfl)⟩ ⟨(Nat.le_of_ble_eq_true rfl), (Nat.le_of_ble_eq_true rfl)⟩ rfl rfl (Nat.le_of_ble_eq_true rfl) dX11_feed_64 ?_
    intro v9 f9 z9; rw [z9.1, z9.2]
    exact gz_iret rfl dX11_feed_67 (Nat.le_of_ble_eq_true rfl) (Nat.le_of_ble_eq_true rfl) (⟨_, rfl, _, _, htp_5, htb_5, (fr_tr (fr_tr (fr_tr (fr_tr (fr_tr fr_rf (fr_mo hr1 (by simp))) (fr_mo hr2 (by simp))) (fr_mo hr3 (by simp))) (fr_mo hr4 (by simp))) (fr_mo hr5 (by simp)))⟩)
  ·
    refine gz_iconst (v := (-1)) dX11_feed_16 (by decide) ?_
    exact gz_iret rfl dX11_feed_17 (Nat.le_of_ble_eq_true rfl) (Nat.le_of_ble_eq_true rfl) (⟨_, rfl, _, _, htp, htb, fr_rf⟩)
