/-! what a FORM's cells hold -/
def hcT (T : List Hd) (s v : Int32) (g h : Nat → Int32) : Prop := (okT T 1 ∧ hvT T ∧ dkT T [0] ∧ T.length ≤ 40 ∧ nvT T ≤ 40) ∧ s.toInt = (T.length : Int) ∧ v.toInt = (nvT T : Int) ∧ LC g h (tcC T) T.length (nvT T)
theorem nt_7000  : ∀ k : Nat, 13000 ≤ k ∧ k < 14000 → ¬ (k = 2000 ∨ k = 2001) := by intro k hk hT; omega
theorem nt_7001  : ∀ k : Nat, 1000 ≤ k ∧ k < 2000 → ¬ (k = 2000 ∨ k = 2001) := by intro k hk hT; omega
theorem nt_7002  : ∀ k : Nat, 14000 ≤ k ∧ k < 15000 → ¬ (k = 2000 ∨ k = 2001) := by intro k hk hT; omega
theorem nt_7003  : ∀ k : Nat, 5000 ≤ k ∧ k < 6000 → ¬ (k = 2000 ∨ k = 2001) := by intro k hk hT; omega
theorem nt_7004  : ∀ k : Nat, 4000 ≤ k ∧ k < 5000 → ¬ (k = 2000 ∨ k = 2001) := by intro k hk hT; omega
theorem nt_7005  : ∀ k : Nat, 6000 ≤ k ∧ k < 7000 → ¬ (k = 2000 ∨ k = 2001) := by intro k hk hT; omega
theorem nt_7006  : ∀ k : Nat, 7000 ≤ k ∧ k < 8000 → ¬ (k = 2000 ∨ k = 2001) := by intro k hk hT; omega
theorem nt_7007  : ∀ k : Nat, 3000 ≤ k ∧ k < 4000 → ¬ (k = 2000 ∨ k = 2001) := by intro k hk hT; omega
theorem nt_7008  : ∀ k : Nat, 8000 ≤ k ∧ k < 9000 → ¬ (k = 2000 ∨ k = 2001) := by intro k hk hT; omega
theorem nt_7009  : ∀ k : Nat, 9000 ≤ k ∧ k < 10000 → ¬ (k = 2000 ∨ k = 2001) := by intro k hk hT; omega
theorem nt_7010  : ∀ k : Nat, 10000 ≤ k ∧ k < 11000 → ¬ (k = 2000 ∨ k = 2001) := by intro k hk hT; omega
theorem nt_7011  : ∀ k : Nat, 12000 ≤ k ∧ k < 13000 → ¬ (k = 2000 ∨ k = 2001) := by intro k hk hT; omega
theorem nt_7012  : ∀ k : Nat, 11000 ≤ k ∧ k < 12000 → ¬ (k = 2000 ∨ k = 2001) := by intro k hk hT; omega
theorem nt_7013  : ∀ k : Nat, 15000 ≤ k ∧ k < 16000 → ¬ (k = 2000 ∨ k = 2001) := by intro k hk hT; omega
theorem nt_7014  : ∀ k : Nat, 0 ≤ k ∧ k < 1 → ¬ (k = 2000 ∨ k = 2001) := by intro k hk hT; omega
theorem nt_7015  : ∀ k : Nat, 13000 ≤ k ∧ k < 14000 → ¬ (k = 2000) := by intro k hk hT; omega
theorem nt_7016  : ∀ k : Nat, 1000 ≤ k ∧ k < 2000 → ¬ (k = 2000) := by intro k hk hT; omega
theorem nt_7017  : ∀ k : Nat, 2001 ≤ k ∧ k < 2002 → ¬ (k = 2000) := by intro k hk hT; omega
theorem nt_7018  : ∀ k : Nat, 14000 ≤ k ∧ k < 15000 → ¬ (k = 2000) := by intro k hk hT; omega
theorem nt_7019  : ∀ k : Nat, 5000 ≤ k ∧ k < 6000 → ¬ (k = 2000) := by intro k hk hT; omega
theorem nt_7020  : ∀ k : Nat, 4000 ≤ k ∧ k < 5000 → ¬ (k = 2000) := by intro k hk hT; omega
theorem nt_7021  : ∀ k : Nat, 6000 ≤ k ∧ k < 7000 → ¬ (k = 2000) := by intro k hk hT; omega
theorem nt_7022  : ∀ k : Nat, 7000 ≤ k ∧ k < 8000 → ¬ (k = 2000) := by intro k hk hT; omega
theorem nt_7023  : ∀ k : Nat, 3000 ≤ k ∧ k < 4000 → ¬ (k = 2000) := by intro k hk hT; omega
theorem nt_7024  : ∀ k : Nat, 8000 ≤ k ∧ k < 9000 → ¬ (k = 2000) := by intro k hk hT; omega
theorem nt_7025  : ∀ k : Nat, 9000 ≤ k ∧ k < 10000 → ¬ (k = 2000) := by intro k hk hT; omega
theorem nt_7026  : ∀ k : Nat, 10000 ≤ k ∧ k < 11000 → ¬ (k = 2000) := by intro k hk hT; omega
theorem nt_7027  : ∀ k : Nat, 12000 ≤ k ∧ k < 13000 → ¬ (k = 2000) := by intro k hk hT; omega
theorem nt_7028  : ∀ k : Nat, 11000 ≤ k ∧ k < 12000 → ¬ (k = 2000) := by intro k hk hT; omega
theorem nt_7029  : ∀ k : Nat, 15000 ≤ k ∧ k < 16000 → ¬ (k = 2000) := by intro k hk hT; omega
theorem nt_7030  : ∀ k : Nat, 0 ≤ k ∧ k < 1 → ¬ (k = 2000) := by intro k hk hT; omega
theorem nt_7031  : ∀ k : Nat, 4000 ≤ k ∧ k < 5000 → ¬ (k = 3000 ∨ k = 6000 ∨ k = 6001 ∨ k = 6002 ∨ k = 2000 ∨ k = 13000 ∨ k = 5000) := by intro k hk hT; omega
theorem nt_7032  : ∀ k : Nat, 12000 ≤ k ∧ k < 13000 → ¬ (k = 3000 ∨ k = 6000 ∨ k = 6001 ∨ k = 6002 ∨ k = 2000 ∨ k = 13000 ∨ k = 5000) := by intro k hk hT; omega
theorem nt_7033  : ∀ k : Nat, 1000 ≤ k ∧ k < 2000 → ¬ (k = 3000 ∨ k = 6000 ∨ k = 6001 ∨ k = 6002 ∨ k = 2000 ∨ k = 13000 ∨ k = 5000) := by intro k hk hT; omega
theorem nt_7034  : ∀ k : Nat, 2001 ≤ k ∧ k < 2002 → ¬ (k = 3000 ∨ k = 6000 ∨ k = 6001 ∨ k = 6002 ∨ k = 2000 ∨ k = 13000 ∨ k = 5000) := by intro k hk hT; omega
theorem nt_7035  : ∀ k : Nat, 14000 ≤ k ∧ k < 15000 → ¬ (k = 3000 ∨ k = 6000 ∨ k = 6001 ∨ k = 6002 ∨ k = 2000 ∨ k = 13000 ∨ k = 5000) := by intro k hk hT; omega
theorem nt_7036  : ∀ k : Nat, 7000 ≤ k ∧ k < 8000 → ¬ (k = 3000 ∨ k = 6000 ∨ k = 6001 ∨ k = 6002 ∨ k = 2000 ∨ k = 13000 ∨ k = 5000) := by intro k hk hT; omega
theorem nt_7037  : ∀ k : Nat, 3001 ≤ k ∧ k < 3002 → ¬ (k = 3000 ∨ k = 6000 ∨ k = 6001 ∨ k = 6002 ∨ k = 2000 ∨ k = 13000 ∨ k = 5000) := by intro k hk hT; omega
theorem nt_7038  : ∀ k : Nat, 8000 ≤ k ∧ k < 9000 → ¬ (k = 3000 ∨ k = 6000 ∨ k = 6001 ∨ k = 6002 ∨ k = 2000 ∨ k = 13000 ∨ k = 5000) := by intro k hk hT; omega
theorem nt_7039  : ∀ k : Nat, 9000 ≤ k ∧ k < 10000 → ¬ (k = 3000 ∨ k = 6000 ∨ k = 6001 ∨ k = 6002 ∨ k = 2000 ∨ k = 13000 ∨ k = 5000) := by intro k hk hT; omega
theorem nt_7040  : ∀ k : Nat, 10000 ≤ k ∧ k < 11000 → ¬ (k = 3000 ∨ k = 6000 ∨ k = 6001 ∨ k = 6002 ∨ k = 2000 ∨ k = 13000 ∨ k = 5000) := by intro k hk hT; omega
theorem nt_7041  : ∀ k : Nat, 11000 ≤ k ∧ k < 12000 → ¬ (k = 3000 ∨ k = 6000 ∨ k = 6001 ∨ k = 6002 ∨ k = 2000 ∨ k = 13000 ∨ k = 5000) := by intro k hk hT; omega
theorem nt_7042  : ∀ k : Nat, 15000 ≤ k ∧ k < 16000 → ¬ (k = 3000 ∨ k = 6000 ∨ k = 6001 ∨ k = 6002 ∨ k = 2000 ∨ k = 13000 ∨ k = 5000) := by intro k hk hT; omega
theorem nt_7043  : ∀ k : Nat, 0 ≤ k ∧ k < 1 → ¬ (k = 3000 ∨ k = 6000 ∨ k = 6001 ∨ k = 6002 ∨ k = 2000 ∨ k = 13000 ∨ k = 5000) := by intro k hk hT; omega
theorem nt_7044  : ∀ k : Nat, 13000 ≤ k ∧ k < 14000 → ¬ (k = 3000 ∨ k = 6000 ∨ k = 6001 ∨ k = 6002 ∨ k = 2000) := by intro k hk hT; omega
theorem nt_7045  : ∀ k : Nat, 1000 ≤ k ∧ k < 2000 → ¬ (k = 3000 ∨ k = 6000 ∨ k = 6001 ∨ k = 6002 ∨ k = 2000) := by intro k hk hT; omega
theorem nt_7046  : ∀ k : Nat, 2001 ≤ k ∧ k < 2002 → ¬ (k = 3000 ∨ k = 6000 ∨ k = 6001 ∨ k = 6002 ∨ k = 2000) := by intro k hk hT; omega
theorem nt_7047  : ∀ k : Nat, 14000 ≤ k ∧ k < 15000 → ¬ (k = 3000 ∨ k = 6000 ∨ k = 6001 ∨ k = 6002 ∨ k = 2000) := by intro k hk hT; omega
theorem nt_7048  : ∀ k : Nat, 5000 ≤ k ∧ k < 6000 → ¬ (k = 3000 ∨ k = 6000 ∨ k = 6001 ∨ k = 6002 ∨ k = 2000) := by intro k hk hT; omega
theorem nt_7049  : ∀ k : Nat, 4000 ≤ k ∧ k < 5000 → ¬ (k = 3000 ∨ k = 6000 ∨ k = 6001 ∨ k = 6002 ∨ k = 2000) := by intro k hk hT; omega
theorem nt_7050  : ∀ k : Nat, 7000 ≤ k ∧ k < 8000 → ¬ (k = 3000 ∨ k = 6000 ∨ k = 6001 ∨ k = 6002 ∨ k = 2000) := by intro k hk hT; omega
theorem nt_7051  : ∀ k : Nat, 3001 ≤ k ∧ k < 3002 → ¬ (k = 3000 ∨ k = 6000 ∨ k = 6001 ∨ k = 6002 ∨ k = 2000) := by intro k hk hT; omega
theorem nt_7052  : ∀ k : Nat, 8000 ≤ k ∧ k < 9000 → ¬ (k = 3000 ∨ k = 6000 ∨ k = 6001 ∨ k = 6002 ∨ k = 2000) := by intro k hk hT; omega
theorem nt_7053  : ∀ k : Nat, 9000 ≤ k ∧ k < 10000 → ¬ (k = 3000 ∨ k = 6000 ∨ k = 6001 ∨ k = 6002 ∨ k = 2000) := by intro k hk hT; omega
theorem nt_7054  : ∀ k : Nat, 10000 ≤ k ∧ k < 11000 → ¬ (k = 3000 ∨ k = 6000 ∨ k = 6001 ∨ k = 6002 ∨ k = 2000) := by intro k hk hT; omega
theorem nt_7055  : ∀ k : Nat, 12000 ≤ k ∧ k < 13000 → ¬ (k = 3000 ∨ k = 6000 ∨ k = 6001 ∨ k = 6002 ∨ k = 2000) := by intro k hk hT; omega
theorem nt_7056  : ∀ k : Nat, 11000 ≤ k ∧ k < 12000 → ¬ (k = 3000 ∨ k = 6000 ∨ k = 6001 ∨ k = 6002 ∨ k = 2000) := by intro k hk hT; omega
theorem nt_7057  : ∀ k : Nat, 15000 ≤ k ∧ k < 16000 → ¬ (k = 3000 ∨ k = 6000 ∨ k = 6001 ∨ k = 6002 ∨ k = 2000) := by intro k hk hT; omega
theorem nt_7058  : ∀ k : Nat, 0 ≤ k ∧ k < 1 → ¬ (k = 3000 ∨ k = 6000 ∨ k = 6001 ∨ k = 6002 ∨ k = 2000) := by intro k hk hT; omega
set_option maxHeartbeats 4000000 in
set_option maxRecDepth 100000 in
theorem i_X11_formC {l : Launch} {D : va_G} {cy : Nat → ClassId} {b : Nat} {f : gMem} {own : Nat → Nat} {xo : Nat} {da : Int32} {fcn : Int32} {csz : Int32} {sz : Int32} {len : Int32} {ln : Int32} {wz : Int32} {lo : Int32} {tg : Nat → Int32} {weg : Nat → Int32} {stg : Nat → Int32} {tpg : Nat → Int32} {CN : Nat → Int32 → Int32 → (Nat → Int32) → (Nat → Int32) → Prop} {eg : Nat → Int32} {thg : Nat → Int32} {LN : Nat → Nat → Int32 → Int32 → Int32 → Int32 → Int64 → (Nat → Int32) → (Nat → Int32) → Prop} {ne : Nat}  (hI : xI cy own xo da fcn csz sz len ln wz lo tg weg stg tpg CN eg thg LN ne f) (hl : 0 ≤ len.toInt ∧ len.toInt ≤ 400) : gC l D cy b yX11_form cX11_form 2 (some .int) 35 3 604 [.ref xo] f (pI fun r f2 => ∃ (own2 : Nat → Nat) (fcn2 len2 : Int32) (CN2 : Nat → Int32 → Int32 → (Nat → Int32) → (Nat → Int32) → Prop), xI cy own2 xo da fcn2 csz sz len2 ln wz lo tg weg stg tpg CN2 eg thg LN ne f2 ∧ kp0 own own2 f f2 ∧ r = (if 20 ≤ fcn.toInt then -1 else if foR (tX tpg len) = 0 then fcn else (-2) - Int32.ofInt (foR (tX tpg len) : Int)) ∧ fcn2.toInt = (if 20 ≤ fcn.toInt then fcn.toInt else if foR (tX tpg len) = 0 then fcn.toInt + 1 else fcn.toInt) ∧ len2.toInt = (if 20 ≤ fcn.toInt then len.toInt else 0) ∧ CN2 = (if 20 ≤ fcn.toInt ∨ foR (tX tpg len) ≠ 0 then CN else cnU CN (Int32.toNatClampNeg fcn) (hcT (deL (tX tpg len) 13 0 0 0 0)))) := by
  obtain ⟨ch, sc, tp, ou, fm, dr, dt_, rd, te, la, lg, co, wo, fmg, lvg, HcXo, HcCh, HcTp, HcOu, HcFa, HcFm, HcDr, HcOt, HcRt, HcLa, HcLg, HcCo, HcLv, HcWo, HcFn, HcLn⟩ := id hI
  obtain ⟨og_xo, hxo, mcXo⟩ := id HcXo
  obtain ⟨pl, fa, ⟨og_rd, og_te⟩, hrd, hte⟩ := id HcRt
  obtain ⟨tb, ⟨og_tp, og_tb⟩, htp, htb⟩ := id HcTp
  obtain ⟨d1, d2, ds, dv, dg, dh, ⟨og_dr, og_d1, og_d2⟩, hdr, hd1, hd2⟩ := id HcDr
  obtain ⟨og_fm, hfm⟩ := id HcFa
  refine gC_of (by decide) (Nat.le_of_ble_eq_true rfl) ?_
  show gG l _ _ _ D cy b cX11_form 2 _ RX11 "form" 0 0 f 0 [(0, .ref xo)] []
  refine gz_aload_n dX11_form_0 rfl rfl ?_
  refine sgX11_116 hxo rfl dX11_form_1 ?_
  refine gz_bipush (v := 20) dX11_form_4 (by decide) ?_
  refine gz_icmp_lt (tgt := 11) dX11_form_6 (by decide) (fun c_6 => ?_) (fun c_6 => ?_)
  ·
    refine gz_aload_n dX11_form_11 rfl rfl ?_
    refine sgX11_49 hxo rfl dX11_form_12 ?_
    refine scX11_120 (k_X6_readTapeC (W := 0) (V := 0) hrd htp htb hdr hd1 hd2 hl ⟨(tgn og_tb og_d1 (by decide)), (tgn og_tb og_d2 (by decide)), (tgn og_d1 og_d2 (by decide))⟩) hrd ⟨(Nat.le_of_ble_eq_true rfl), (Nat.le_of_ble_eq_true rfl)⟩ ⟨(by simp only [gRm]; omega), (by simp only [gRm]; omega)⟩ rfl rfl (Nat.le_of_ble_eq_true rfl) dX11_form_15 ?_
    rintro r1 f1 ⟨pl_1, fa_1, s_1, v_1, g_1, h_1, hrd_1, hdr_1, hd1_1, hd2_1, hs_1, hv_1, hF_1, hfo_1, hrc_1, hr1⟩
    have hxo_1 : f1 xo = some (.inr (11, [.ref ch, .ref tp, .ref ou, .ref fm, .ref dr, .ref dt_, .ref rd, .ref te, .ref la, .ref lg, .ref co, .ref wo, .int fcn])) := hr1 _ _ hxo (by simp only [List.mem_cons, List.not_mem_nil, or_false, not_or]; exact ⟨(tgn og_xo og_rd (by decide)), (tgn og_xo og_dr (by decide)), (tgn og_xo og_d1 (by decide)), (tgn og_xo og_d2 (by decide))⟩)
    have hte_1 : f1 te = some (.inr (8, [.ref ou])) := hr1 _ _ hte (by simp only [List.mem_cons, List.not_mem_nil, or_false, not_or]; exact ⟨(tgn og_te og_rd (by decide)), (tgn og_te og_dr (by decide)), (tgn og_te og_d1 (by decide)), (tgn og_te og_d2 (by decide))⟩)
    have htp_1 : f1 tp = some (.inr (9, [.ref tb, .int len])) := hr1 _ _ htp (by simp only [List.mem_cons, List.not_mem_nil, or_false, not_or]; exact ⟨(tgn og_tp og_rd (by decide)), (tgn og_tp og_dr (by decide)), (tgn og_tp og_d1 (by decide)), (tgn og_tp og_d2 (by decide))⟩)
    have htb_1 : f1 tb = some (.inl (cy 1, 400, .inl (tpg))) := hr1 _ _ htb (by simp only [List.mem_cons, List.not_mem_nil, or_false, not_or]; exact ⟨(tgn og_tb og_rd (by decide)), (tgn og_tb og_dr (by decide)), (tgn og_tb og_d1 (by decide)), (tgn og_tb og_d2 (by decide))⟩)
    have hfm_1 : f1 fm = some (.inl (cy 4, 20, .inr (.inr (.inr (.inr (fmg)))))) := hr1 _ _ hfm (by simp only [List.mem_cons, List.not_mem_nil, or_false, not_or]; exact ⟨(tgn og_fm og_rd (by decide)), (tgn og_fm og_dr (by decide)), (tgn og_fm og_d1 (by decide)), (tgn og_fm og_d2 (by decide))⟩)
    refine gz_istore_n (lv' := [(1, .int r1), (0, .ref xo)]) dX11_form_18 rfl (by decide) rfl ?_
    refine gz_aload_n dX11_form_19 rfl rfl ?_
    refine sgX11_21 hxo_1 rfl dX11_form_20 ?_
    refine gz_iconst (v := 0) dX11_form_23 (by decide) ?_
    refine scX11_113 (k_X9_cut (x := 0) htp_1) htp_1 ⟨(Nat.le_of_ble_eq_true rfl), (Nat.le_of_ble_eq_true rfl)⟩ ⟨(by simp only [gRm]; omega), (by simp only [gRm]; omega)⟩ rfl rfl (Nat.le_of_ble_eq_true rfl) dX11_form_24 ?_
    rintro f2 ⟨htp_2, hr2⟩
    have hxo_2 : f2 xo = some (.inr (11, [.ref ch, .ref tp, .ref ou, .ref fm, .ref dr, .ref dt_, .ref rd, .ref te, .ref la, .ref lg, .ref co, .ref wo, .int fcn])) := hr2 _ _ hxo_1 (by simp only [List.mem_cons, List.not_mem_nil, or_false, not_or]; exact (tgn og_xo og_tp (by decide)))
    have hte_2 : f2 te = some (.inr (8, [.ref ou])) := hr2 _ _ hte_1 (by simp only [List.mem_cons, List.not_mem_nil, or_false, not_or]; exact (tgn og_te og_tp (by decide)))
    have htb_2 : f2 tb = some (.inl (cy 1, 400, .inl (tpg))) := hr2 _ _ htb_1 (by simp only [List.mem_cons, List.not_mem_nil, or_false, not_or]; exact (tgn og_tb og_tp (by decide)))
    have hfm_2 : f2 fm = some (.inl (cy 4, 20, .inr (.inr (.inr (.inr (fmg)))))) := hr2 _ _ hfm_1 (by simp only [List.mem_cons, List.not_mem_nil, or_false, not_or]; exact (tgn og_fm og_tp (by decide)))
    have hrd_2 : f2 rd = some (.inr (6, [.ref tp, .ref dr, .int pl_1, .int fa_1])) := hr2 _ _ hrd_1 (by simp only [List.mem_cons, List.not_mem_nil, or_false, not_or]; exact (tgn og_rd og_tp (by decide)))
    have hdr_2 : f2 dr = some (.inr (2, [.ref d1, .ref d2, .int s_1, .int v_1])) := hr2 _ _ hdr_1 (by simp only [List.mem_cons, List.not_mem_nil, or_false, not_or]; exact (tgn og_dr og_tp (by decide)))
    have hd1_2 : f2 d1 = some (.inl (cy 0, 520, .inl (g_1))) := hr2 _ _ hd1_1 (by simp only [List.mem_cons, List.not_mem_nil, or_false, not_or]; exact (tgn og_d1 og_tp (by decide)))
    have hd2_2 : f2 d2 = some (.inl (cy 0, 80, .inl (h_1))) := hr2 _ _ hd2_1 (by simp only [List.mem_cons, List.not_mem_nil, or_false, not_or]; exact (tgn og_d2 og_tp (by decide)))
    refine gz_iload_n dX11_form_27 rfl rfl ?_
    refine gz_if_le (tgt := 38) dX11_form_28 (by decide) (fun c_28 => ?_) (fun c_28 => ?_)
    ·
      refine gz_aload_n dX11_form_38 rfl rfl ?_
      have hfc : fcn.toInt < 20 := by have e20 : (20 : Int32).toInt = 20 := rfl; have hq0 := c_6; simp only [fl_lt] at hq0; omega
      refine scX11_123 (k_X11_keepYE hxo_2 hfm_2 hdr_2 hd1_2 hd2_2 hs_1 hv_1 ⟨mcXo.1, hfc⟩) hxo_2 ⟨(Nat.le_of_ble_eq_true rfl), (Nat.le_of_ble_eq_true rfl)⟩ ⟨(by simp only [gRm]; omega), (by simp only [gRm]; omega)⟩ rfl rfl (Nat.le_of_ble_eq_true rfl) dX11_form_39 ?_
      rintro r_3 f3 ⟨hrr_3, q, qa, qb, g2, h2_, hxo_3, hfm_3, hqq, hqa, hqb, hg, hh_, hn3, hr3⟩
      have hnn : ∀ z : Nat, f2 z = none → f z = none := fun z hz => fr_none (S := [rd, dr, d1, d2, tp]) ((fr_tr (fr_tr fr_rf (fr_mo hr1 (by simp))) (fr_mo hr2 (by simp)))) (by intro x0 hx0; simp only [List.mem_cons, List.not_mem_nil, or_false] at hx0; rcases hx0 with e0 | e0 | e0 | e0 | e0; exact ⟨_, by rw [e0]; exact hrd_2⟩; exact ⟨_, by rw [e0]; exact hdr_2⟩; exact ⟨_, by rw [e0]; exact hd1_2⟩; exact ⟨_, by rw [e0]; exact hd2_2⟩; exact ⟨_, by rw [e0]; exact htp_2⟩) hz
      obtain ⟨own2, ho2⟩ : ∃ own2 : Nat → Nat, own2 = va_up (va_up (va_up own q (4000 + 3 * Int32.toNatClampNeg fcn)) qa ((4000 + 3 * Int32.toNatClampNeg fcn) + 1)) qb ((4000 + 3 * Int32.toNatClampNeg fcn) + 2) := ⟨_, rfl⟩
      have hO : ∀ z e, f z = some e → own2 z = own z := by rw [ho2]; exact own_up (own_up (own_up (fun _ _ _ => rfl) (hnn _ hn3.1)) (hnn _ hn3.2.1)) (hnn _ hn3.2.2.1)
      have hK : kp own own2 (fun k => k = 3000 ∨ k = 6000 ∨ k = 6001 ∨ k = 6002 ∨ k = 2000 ∨ k = 13000 ∨ k = 5000) f f3 := by
        refine kp_fr (S := [rd, dr, d1, d2, tp, xo, fm]) ((fr_tr (fr_tr (fr_tr fr_rf (fr_mo hr1 (by simp))) (fr_mo hr2 (by simp))) (fr_mo hr3 (by simp)))) hO ?_
        intro x0 hx0
        simp only [List.mem_cons, List.not_mem_nil, or_false] at hx0
        rcases hx0 with e0 | e0 | e0 | e0 | e0 | e0 | e0
        · rw [e0]; show (own rd) = 3000 ∨ (own rd) = 6000 ∨ (own rd) = 6001 ∨ (own rd) = 6002 ∨ (own rd) = 2000 ∨ (own rd) = 13000 ∨ (own rd) = 5000; rw [og_rd]; decide
        · rw [e0]; show (own dr) = 3000 ∨ (own dr) = 6000 ∨ (own dr) = 6001 ∨ (own dr) = 6002 ∨ (own dr) = 2000 ∨ (own dr) = 13000 ∨ (own dr) = 5000; rw [og_dr]; decide
        · rw [e0]; show (own d1) = 3000 ∨ (own d1) = 6000 ∨ (own d1) = 6001 ∨ (own d1) = 6002 ∨ (own d1) = 2000 ∨ (own d1) = 13000 ∨ (own d1) = 5000; rw [og_d1]; decide
        · rw [e0]; show (own d2) = 3000 ∨ (own d2) = 6000 ∨ (own d2) = 6001 ∨ (own d2) = 6002 ∨ (own d2) = 2000 ∨ (own d2) = 13000 ∨ (own d2) = 5000; rw [og_d2]; decide
        · rw [e0]; show (own tp) = 3000 ∨ (own tp) = 6000 ∨ (own tp) = 6001 ∨ (own tp) = 6002 ∨ (own tp) = 2000 ∨ (own tp) = 13000 ∨ (own tp) = 5000; rw [og_tp]; decide
        · rw [e0]; show (own xo) = 3000 ∨ (own xo) = 6000 ∨ (own xo) = 6001 ∨ (own xo) = 6002 ∨ (own xo) = 2000 ∨ (own xo) = 13000 ∨ (own xo) = 5000; rw [og_xo]; decide
        · rw [e0]; show (own fm) = 3000 ∨ (own fm) = 6000 ∨ (own fm) = 6001 ∨ (own fm) = 6002 ∨ (own fm) = 2000 ∨ (own fm) = 13000 ∨ (own fm) = 5000; rw [og_fm]; decide
      have hq1 : own2 q = (4000 + 3 * Int32.toNatClampNeg fcn) := by rw [ho2, va_up_ne _ _ (cne hqq hqb (by simp)), va_up_ne _ _ (cne hqq hqa (by simp)), va_up_self]
      have hq2 : own2 qa = (4000 + 3 * Int32.toNatClampNeg fcn) + 1 := by rw [ho2, va_up_ne _ _ hn3.2.2.2, va_up_self]
      have hq3 : own2 qb = (4000 + 3 * Int32.toNatClampNeg fcn) + 2 := by rw [ho2, va_up_self]
      have hsv := And.intro hs_1 hv_1
      have hNew : cFo cy own2 f3 (4000 + 3 * Int32.toNatClampNeg fcn) q qa qb (13 * s_1.toInt.toNat) (2 * v_1.toInt.toNat) s_1 v_1 g2 h2_ := ⟨⟨hq1, hq2, hq3⟩, hqq, hqa, hqb, ⟨hsv.1.1, by have := hsv.1; omega, by have := hsv.1; omega⟩, ⟨hsv.2.1, by have := hsv.2; omega, by have := hsv.2; omega⟩, fI_cg hsv.1.1 hg hF_1⟩
      have hf1 : (fcn + 1).toInt = fcn.toInt + 1 := T_add (rfl : fcn.toInt = fcn.toInt) (rfl : (1 : Int32).toInt = 1) (by omega)
      have h20 : ¬ 20 ≤ fcn.toInt := by have e20 : (20 : Int32).toInt = 20 := rfl; have hq0 := c_6; simp only [fl_lt] at hq0; omega
      have hcut : (tCut len 0).toInt = 0 := by unfold tCut; rw [if_neg (show ¬ (0 : Int32) < 0 by decide), if_neg (by rw [fl_lt]; have e0 : (0 : Int32).toInt = 0 := rfl; omega)]; rfl
      have hz0 : (0 : Int32).toInt = 0 := rfl
      have hcc := c_28
      simp only [fl_lt, fl_le] at hcc
      have hf0 : foR (tX tpg len) = 0 := by omega
      have hP9 : hcT (deL (tX tpg len) 13 0 0 0 0) s_1 v_1 g2 h2_ := by
        obtain ⟨q9, W9, V9, hd9⟩ := foR_0 (tX_ln hl) hf0
        obtain ⟨y1, y2, y3⟩ := hrc_1 q9 W9 V9 hd9
        obtain ⟨k1, k2, k3, k4, k5, k6⟩ := deL_ok 13 0 0 0 0 q9 W9 V9 (by omega) hd9
        rw [k6] at y3
        rw [Nat.zero_add] at k2 k3
        subst k2 k3
        refine ⟨⟨k1, k5, k4, by omega, by omega⟩, y1, y2, ?_⟩
        exact LC_eq (fun j hj => hg j (by omega)) (fun j hj => hh_ j (by omega)) y3
      exact gz_iret rfl dX11_form_42 (by omega) (by omega) (⟨_, rfl, own2, _, _, _, ⟨_, _, _, _, _, _, _, _, _, _, _, _, _, _, _, ⟨((hO _ _ hxo).trans og_xo), hxo_3, ⟨by omega, by omega⟩⟩, (kCh_kp HcCh hK nt_7033), ⟨_, ⟨⟨((hO _ _ htp).trans og_tp), ((hO _ _ htb).trans og_tb)⟩, (hr3 _ _ htp_2 (by simp only [List.mem_cons, List.not_mem_nil, or_false, not_or]; exact ⟨tgn og_tp og_xo (by decide), tgn og_tp og_fm (by decide)⟩)), (hK.2 _ _ htb (by show ¬ ((own tb) = 3000 ∨ (own tb) = 6000 ∨ (own tb) = 6001 ∨ (own tb) = 6002 ∨ (own tb) = 2000 ∨ (own tb) = 13000 ∨ (own tb) = 5000); rw [og_tb]; exact nt_7034 _ ⟨Nat.le_refl _, Nat.lt_succ_self _⟩))⟩⟩, (kOu_kp HcOu hK nt_7035), ⟨((hO _ _ hfm).trans og_fm), hfm_3⟩, (cFm_new (cFm_kp HcFm hK nt_7031) hNew (P := hcT (deL (tX tpg len) 13 0 0 0 0)) hP9), ⟨_, _, _, _, _, _, ⟨⟨((hO _ _ hdr).trans og_dr), ((hO _ _ hd1).trans og_d1), ((hO _ _ hd2).trans og_d2)⟩, (hr3 _ _ hdr_2 (by simp only [List.mem_cons, List.not_mem_nil, or_false, not_or]; exact ⟨tgn og_dr og_xo (by decide), tgn og_dr og_fm (by decide)⟩)), (hr3 _ _ hd1_2 (by simp only [List.mem_cons, List.not_mem_nil, or_false, not_or]; exact ⟨tgn og_d1 og_xo (by decide), tgn og_d1 og_fm (by decide)⟩)), (hr3 _ _ hd2_2 (by simp only [List.mem_cons, List.not_mem_nil, or_false, not_or]; exact ⟨tgn og_d2 og_xo (by decide), tgn og_d2 og_fm (by decide)⟩))⟩⟩, (kOt_kp HcOt hK nt_7036), ⟨_, _, ⟨⟨((hO _ _ hrd).trans og_rd), ((hO _ _ hte).trans og_te)⟩, (hr3 _ _ hrd_2 (by simp only [List.mem_cons, List.not_mem_nil, or_false, not_or]; exact ⟨tgn og_rd og_xo (by decide), tgn og_rd og_fm (by decide)⟩)), (hK.2 _ _ hte (by show ¬ ((own te) = 3000 ∨ (own te) = 6000 ∨ (own te) = 6001 ∨ (own te) = 6002 ∨ (own te) = 2000 ∨ (own te) = 13000 ∨ (own te) = 5000); rw [og_te]; exact nt_7037 _ ⟨Nat.le_refl _, Nat.lt_succ_self _⟩))⟩⟩, (kLa_kp HcLa hK nt_7038), (kLg_kp HcLg hK nt_7039), (kCo_kp HcCo hK nt_7040), (cLv_fm (cLv_kp HcLv hK nt_7032) (cFn_lv mcXo.1 HcFn)), (kWo_kp HcWo hK nt_7041 nt_7042), (cFn_up mcXo.1 hf1 HcFn), HcLn⟩, (kp_0 hK (nt_7043 0 ⟨Nat.le_refl _, Nat.lt_succ_self _⟩)), (by rw [if_neg h20, if_pos hf0]; exact hrr_3), (by rw [if_neg h20, if_pos hf0]; exact hf1), (by rw [if_neg h20]; exact hcut), (if_neg (fun z => z.elim h20 (fun y => y hf0))).symm⟩)
    ·
      refine gz_bipush (v := (-2)) dX11_form_31 (by decide) ?_
      refine gz_iload_n dX11_form_33 rfl rfl ?_
      refine gz_isub dX11_form_34 ?_
      refine gz_goto (tgt := 42) dX11_form_35 (by decide) ?_
      have hK : kp own own (fun k => k = 3000 ∨ k = 6000 ∨ k = 6001 ∨ k = 6002 ∨ k = 2000) f f2 := by
        refine kp_fr (S := [rd, dr, d1, d2, tp]) ((fr_tr (fr_tr fr_rf (fr_mo hr1 (by simp))) (fr_mo hr2 (by simp)))) (fun _ _ _ => rfl) ?_
        intro x0 hx0
        simp only [List.mem_cons, List.not_mem_nil, or_false] at hx0
        rcases hx0 with e0 | e0 | e0 | e0 | e0
        · rw [e0]; show (own rd) = 3000 ∨ (own rd) = 6000 ∨ (own rd) = 6001 ∨ (own rd) = 6002 ∨ (own rd) = 2000; rw [og_rd]; decide
        · rw [e0]; show (own dr) = 3000 ∨ (own dr) = 6000 ∨ (own dr) = 6001 ∨ (own dr) = 6002 ∨ (own dr) = 2000; rw [og_dr]; decide
        · rw [e0]; show (own d1) = 3000 ∨ (own d1) = 6000 ∨ (own d1) = 6001 ∨ (own d1) = 6002 ∨ (own d1) = 2000; rw [og_d1]; decide
        · rw [e0]; show (own d2) = 3000 ∨ (own d2) = 6000 ∨ (own d2) = 6001 ∨ (own d2) = 6002 ∨ (own d2) = 2000; rw [og_d2]; decide
        · rw [e0]; show (own tp) = 3000 ∨ (own tp) = 6000 ∨ (own tp) = 6001 ∨ (own tp) = 6002 ∨ (own tp) = 2000; rw [og_tp]; decide
      have h20 : ¬ 20 ≤ fcn.toInt := by have e20 : (20 : Int32).toInt = 20 := rfl; have hq0 := c_6; simp only [fl_lt] at hq0; omega
      have hcut : (tCut len 0).toInt = 0 := by unfold tCut; rw [if_neg (show ¬ (0 : Int32) < 0 by decide), if_neg (by rw [fl_lt]; have e0 : (0 : Int32).toInt = 0 := rfl; omega)]; rfl
      have hz0 : (0 : Int32).toInt = 0 := rfl
      have hcc := c_28
      simp only [fl_lt, fl_le] at hcc
      have hf0 : foR (tX tpg len) ≠ 0 := by omega
      exact gz_iret rfl dX11_form_42 (by omega) (by omega) (⟨_, rfl, own, _, _, _, ⟨_, _, _, _, _, _, _, _, _, _, _, _, _, _, _, (cXo_kp HcXo hK nt_7044), (kCh_kp HcCh hK nt_7045), ⟨_, ⟨⟨og_tp, og_tb⟩, htp_2, (hK.2 _ _ htb (by show ¬ ((own tb) = 3000 ∨ (own tb) = 6000 ∨ (own tb) = 6001 ∨ (own tb) = 6002 ∨ (own tb) = 2000); rw [og_tb]; exact nt_7046 _ ⟨Nat.le_refl _, Nat.lt_succ_self _⟩))⟩⟩, (kOu_kp HcOu hK nt_7047), (cFa_kp HcFa hK nt_7048), (cFm_kp HcFm hK nt_7049), ⟨_, _, _, _, _, _, ⟨⟨og_dr, og_d1, og_d2⟩, hdr_2, hd1_2, hd2_2⟩⟩, (kOt_kp HcOt hK nt_7050), ⟨_, _, ⟨⟨og_rd, og_te⟩, hrd_2, (hK.2 _ _ hte (by show ¬ ((own te) = 3000 ∨ (own te) = 6000 ∨ (own te) = 6001 ∨ (own te) = 6002 ∨ (own te) = 2000); rw [og_te]; exact nt_7051 _ ⟨Nat.le_refl _, Nat.lt_succ_self _⟩))⟩⟩, (kLa_kp HcLa hK nt_7052), (kLg_kp HcLg hK nt_7053), (kCo_kp HcCo hK nt_7054), (cLv_kp HcLv hK nt_7055), (kWo_kp HcWo hK nt_7056 nt_7057), HcFn, HcLn⟩, (kp_0 hK (nt_7058 0 ⟨Nat.le_refl _, Nat.lt_succ_self _⟩)), (by rw [if_neg h20, if_neg hf0, ← hfo_1, Int32.ofInt_toInt]), (by rw [if_neg h20, if_neg hf0]), (by rw [if_neg h20]; exact hcut), (if_pos (Or.inr hf0)).symm⟩)
  ·
    refine gz_iconst (v := (-1)) dX11_form_9 (by decide) ?_
    have h20 : 20 ≤ fcn.toInt := by have e20 : (20 : Int32).toInt = 20 := rfl; have hq0 := c_6; simp only [fl_lt] at hq0; omega
    exact gz_iret rfl dX11_form_10 (by omega) (by omega) (⟨_, rfl, own, _, _, _, hI, kp0_rf, (by rw [if_pos h20]), (by rw [if_pos h20]), (by rw [if_pos h20]), (if_pos (Or.inl h20)).symm⟩)

theorem nt_7059  : ∀ k : Nat, 4000 ≤ k ∧ k < 5000 → ¬ (k = 8002 ∨ k = 8003 ∨ k = 8004 ∨ k = 8001 ∨ k = 6000 ∨ k = 6001 ∨ k = 6002 ∨ k = 13000 ∨ k = 5000) := by intro k hk hT; omega
theorem nt_7060  : ∀ k : Nat, 12000 ≤ k ∧ k < 13000 → ¬ (k = 8002 ∨ k = 8003 ∨ k = 8004 ∨ k = 8001 ∨ k = 6000 ∨ k = 6001 ∨ k = 6002 ∨ k = 13000 ∨ k = 5000) := by intro k hk hT; omega
theorem nt_7061  : ∀ k : Nat, 1000 ≤ k ∧ k < 2000 → ¬ (k = 8002 ∨ k = 8003 ∨ k = 8004 ∨ k = 8001 ∨ k = 6000 ∨ k = 6001 ∨ k = 6002 ∨ k = 13000 ∨ k = 5000) := by intro k hk hT; omega
theorem nt_7062  : ∀ k : Nat, 2000 ≤ k ∧ k < 3000 → ¬ (k = 8002 ∨ k = 8003 ∨ k = 8004 ∨ k = 8001 ∨ k = 6000 ∨ k = 6001 ∨ k = 6002 ∨ k = 13000 ∨ k = 5000) := by intro k hk hT; omega
theorem nt_7063  : ∀ k : Nat, 14000 ≤ k ∧ k < 15000 → ¬ (k = 8002 ∨ k = 8003 ∨ k = 8004 ∨ k = 8001 ∨ k = 6000 ∨ k = 6001 ∨ k = 6002 ∨ k = 13000 ∨ k = 5000) := by intro k hk hT; omega
theorem nt_7064  : ∀ k : Nat, 7000 ≤ k ∧ k < 8000 → ¬ (k = 8002 ∨ k = 8003 ∨ k = 8004 ∨ k = 8001 ∨ k = 6000 ∨ k = 6001 ∨ k = 6002 ∨ k = 13000 ∨ k = 5000) := by intro k hk hT; omega
theorem nt_7065  : ∀ k : Nat, 3000 ≤ k ∧ k < 4000 → ¬ (k = 8002 ∨ k = 8003 ∨ k = 8004 ∨ k = 8001 ∨ k = 6000 ∨ k = 6001 ∨ k = 6002 ∨ k = 13000 ∨ k = 5000) := by intro k hk hT; omega
theorem nt_7066  : ∀ k : Nat, 8000 ≤ k ∧ k < 8001 → ¬ (k = 8002 ∨ k = 8003 ∨ k = 8004 ∨ k = 8001 ∨ k = 6000 ∨ k = 6001 ∨ k = 6002 ∨ k = 13000 ∨ k = 5000) := by intro k hk hT; omega
theorem nt_7067  : ∀ k : Nat, 9000 ≤ k ∧ k < 10000 → ¬ (k = 8002 ∨ k = 8003 ∨ k = 8004 ∨ k = 8001 ∨ k = 6000 ∨ k = 6001 ∨ k = 6002 ∨ k = 13000 ∨ k = 5000) := by intro k hk hT; omega
theorem nt_7068  : ∀ k : Nat, 10000 ≤ k ∧ k < 11000 → ¬ (k = 8002 ∨ k = 8003 ∨ k = 8004 ∨ k = 8001 ∨ k = 6000 ∨ k = 6001 ∨ k = 6002 ∨ k = 13000 ∨ k = 5000) := by intro k hk hT; omega
theorem nt_7069  : ∀ k : Nat, 11000 ≤ k ∧ k < 12000 → ¬ (k = 8002 ∨ k = 8003 ∨ k = 8004 ∨ k = 8001 ∨ k = 6000 ∨ k = 6001 ∨ k = 6002 ∨ k = 13000 ∨ k = 5000) := by intro k hk hT; omega
theorem nt_7070  : ∀ k : Nat, 15000 ≤ k ∧ k < 16000 → ¬ (k = 8002 ∨ k = 8003 ∨ k = 8004 ∨ k = 8001 ∨ k = 6000 ∨ k = 6001 ∨ k = 6002 ∨ k = 13000 ∨ k = 5000) := by intro k hk hT; omega
theorem nt_7071  : ∀ k : Nat, 0 ≤ k ∧ k < 1 → ¬ (k = 8002 ∨ k = 8003 ∨ k = 8004 ∨ k = 8001 ∨ k = 6000 ∨ k = 6001 ∨ k = 6002 ∨ k = 13000 ∨ k = 5000) := by intro k hk hT; omega
set_option maxHeartbeats 4000000 in
set_option maxRecDepth 100000 in
theorem i_X11_shorterC {l : Launch} {D : va_G} {cy : Nat → ClassId} {b : Nat} {f : gMem} {own : Nat → Nat} {xo : Nat} {da : Int32} {fcn : Int32} {csz : Int32} {sz : Int32} {len : Int32} {ln : Int32} {wz : Int32} {lo : Int32} {tg : Nat → Int32} {weg : Nat → Int32} {stg : Nat → Int32} {tpg : Nat → Int32} {CN : Nat → Int32 → Int32 → (Nat → Int32) → (Nat → Int32) → Prop} {eg : Nat → Int32} {thg : Nat → Int32} {LN : Nat → Nat → Int32 → Int32 → Int32 → Int32 → Int64 → (Nat → Int32) → (Nat → Int32) → Prop} {ne : Nat} {x : Int32} {Tf : Nat → List Hd} (hI : xI cy own xo da fcn csz sz len ln wz lo tg weg stg tpg CN eg thg LN ne f) (hX : ∀ (k : Nat) (s v : Int32) (g h : Nat → Int32), (k : Int) < fcn.toInt → CN k s v g h → hcT (Tf k) s v g h) : gC l D cy b yX11_shorter cX11_shorter 3 (some .int) 48 3 604 [.ref xo, .int x] f (pI fun r f2 => ∃ (own2 : Nat → Nat) (fcn2 : Int32) (CN2 : Nat → Int32 → Int32 → (Nat → Int32) → (Nat → Int32) → Prop), xI cy own2 xo da fcn2 csz sz len ln wz lo tg weg stg tpg CN2 eg thg LN ne f2 ∧ kp0 own own2 f f2 ∧ r = (if (0 ≤ x.toInt ∧ x.toInt < fcn.toInt) ∧ fcn.toInt < 20 then fcn else -1) ∧ fcn2.toInt = (if (0 ≤ x.toInt ∧ x.toInt < fcn.toInt) ∧ fcn.toInt < 20 then fcn.toInt + 1 else fcn.toInt) ∧ CN2 = (if (0 ≤ x.toInt ∧ x.toInt < fcn.toInt) ∧ fcn.toInt < 20 then cnU CN (Int32.toNatClampNeg fcn) (hcT (shT (Tf (Int32.toNatClampNeg x)))) else CN)) := by
  obtain ⟨ch, sc, tp, ou, fm, dr, dt_, rd, te, la, lg, co, wo, fmg, lvg, HcXo, HcCh, HcTp, HcOu, HcFa, HcFm, HcDr, HcOt, HcRt, HcLa, HcLg, HcCo, HcLv, HcWo, HcFn, HcLn⟩ := id hI
  obtain ⟨og_xo, hxo, mcXo⟩ := id HcXo
  obtain ⟨og_fm, hfm⟩ := id HcFa
  obtain ⟨wk, bc, w1, w2, ws, wv, bg, wg, wh, ⟨og_la, og_bc, og_wk, og_w1, og_w2⟩, hla, hbc, hwk, hw1, hw2⟩ := id HcLa
  obtain ⟨d1, d2, ds, dv, dg, dh, ⟨og_dr, og_d1, og_d2⟩, hdr, hd1, hd2⟩ := id HcDr
  refine gC_of (by decide) (Nat.le_of_ble_eq_true rfl) ?_
  show gG l _ _ _ D cy b cX11_shorter 3 _ RX11 "shorter" 0 0 f 0 [(0, .ref xo), (1, .int x)] []
  refine gz_aload_n dX11_shorter_0 rfl rfl ?_
  refine gz_iload_n dX11_shorter_1 rfl rfl ?_
  refine scX11_126 (k_X11_formAt (x := x) hxo hfm) hxo ⟨(Nat.le_of_ble_eq_true rfl), (Nat.le_of_ble_eq_true rfl)⟩ ⟨(by simp only [gRm]; omega), (by simp only [gRm]; omega)⟩ rfl rfl (Nat.le_of_ble_eq_true rfl) dX11_shorter_2 ?_
  rintro u9 f9 ⟨z9, y9⟩; rw [z9, y9]
  cases hA2 : formF fcn fmg x with
  | none =>
    refine gz_ev (w := .null) rfl ?_
    refine gz_astore_nN (lv' := [(2, .null), (0, .ref xo), (1, .int x)]) dX11_shorter_5 rfl (by decide) rfl ?_
    refine gz_aload_nN dX11_shorter_6 rfl rfl ?_
    refine gz_ifnullN (tgt := 19) dX11_shorter_7 (by decide) ?_
    refine gz_iconst (v := (-1)) dX11_shorter_19 (by decide) ?_
    have hcs : ¬ ((0 ≤ x.toInt ∧ x.toInt < fcn.toInt) ∧ fcn.toInt < 20) := fun z => by obtain ⟨p9, hp9⟩ := formF_is mcXo HcFn z.1; rw [hp9] at hA2; cases hA2
    exact gz_iret rfl dX11_shorter_20 (by omega) (by omega) (⟨_, rfl, own, _, _, hI, kp0_rf, (by rw [if_neg hcs]), (by rw [if_neg hcs]), (if_neg hcs).symm⟩)
  | some p =>
    refine gz_ev (w := .ref p) rfl ?_
    have hip := (formF_some hA2).1
    have hjp := (formF_some hA2).2
    obtain ⟨c1, c2, n1, n2, s, v, g, h, ⟨⟨og_p, og_c1, og_c2⟩, hp, hc1, hc2, hs, hv, hFI⟩, hCN⟩ := HcFm _ _ hip hjp
    refine gz_astore_n (lv' := [(2, .ref p), (0, .ref xo), (1, .int x)]) dX11_shorter_5 rfl (by decide) rfl ?_
    refine gz_aload_n dX11_shorter_6 rfl rfl ?_
    refine gz_ifnull dX11_shorter_7 ?_
    refine gz_aload_n dX11_shorter_10 rfl rfl ?_
    refine sgX11_116 hxo rfl dX11_shorter_11 ?_
    refine gz_bipush (v := 20) dX11_shorter_14 (by decide) ?_
    refine gz_icmp_lt (tgt := 21) dX11_shorter_16 (by decide) (fun c_16 => ?_) (fun c_16 => ?_)
    ·
      refine gz_aload_n dX11_shorter_21 rfl rfl ?_
      refine sgX11_65 hxo rfl dX11_shorter_22 ?_
      refine gz_aload_n dX11_shorter_25 rfl rfl ?_
      refine gz_aload_n dX11_shorter_26 rfl rfl ?_
      refine sgX11_37 hxo rfl dX11_shorter_27 ?_
      have hcx := hX _ s v g h (show ((Int32.toNatClampNeg x : Nat) : Int) < fcn.toInt by have z := formF_lt hA2; rw [show Int32.toNatClampNeg x = x.toInt.toNat from rfl]; omega) hCN
      refine scX11_134 (k_X3_shortenE (T := Tf (Int32.toNatClampNeg x)) hla hbc hwk hw1 hw2 hp hc1 hc2 hdr hd1 hd2 ⟨(tgn og_wk og_p (by omega)), (tgn og_wk og_dr (by decide)), (tgn og_p og_dr (by omega)), (tgn og_w1 og_w2 (by decide)), (tgn og_w1 og_c1 (by omega)), (tgn og_w1 og_c2 (by omega)), (tgn og_w1 og_d1 (by decide)), (tgn og_w1 og_d2 (by decide)), (tgn og_w1 og_bc (by decide)), (tgn og_w2 og_c1 (by omega)), (tgn og_w2 og_c2 (by omega)), (tgn og_w2 og_d1 (by decide)), (tgn og_w2 og_d2 (by decide)), (tgn og_w2 og_bc (by decide)), (tgn og_c1 og_c2 (by omega)), (tgn og_c1 og_d1 (by omega)), (tgn og_c1 og_d2 (by omega)), (tgn og_c1 og_bc (by omega)), (tgn og_c2 og_d1 (by omega)), (tgn og_c2 og_d2 (by omega)), (tgn og_c2 og_bc (by omega)), (tgn og_d1 og_d2 (by decide)), (tgn og_d1 og_bc (by decide)), (tgn og_d2 og_bc (by decide))⟩ hcx.1 hs hv ⟨hcx.2.1, hcx.2.2.1⟩ hcx.2.2.2) hla ⟨(Nat.le_of_ble_eq_true rfl), (Nat.le_of_ble_eq_true rfl)⟩ ⟨(by simp only [gRm]; omega), (by simp only [gRm]; omega)⟩ rfl rfl (Nat.le_of_ble_eq_true rfl) dX11_shorter_30 ?_
      rintro f1 ⟨s_1, v_1, s__1, v__1, g_1, h_1, g__1, h__1, b_1, hwk_1, hw1_1, hw2_1, hbc_1, hdr_1, hd1_1, hd2_1, hs_1, hv_1, hF_1, hsT_1, hvT_1, hLT_1, hr1⟩
      have hxo_1 : f1 xo = some (.inr (11, [.ref ch, .ref tp, .ref ou, .ref fm, .ref dr, .ref dt_, .ref rd, .ref te, .ref la, .ref lg, .ref co, .ref wo, .int fcn])) := hr1 _ _ hxo (by simp only [List.mem_cons, List.not_mem_nil, or_false, not_or]; exact ⟨(tgn og_xo og_wk (by decide)), (tgn og_xo og_w1 (by decide)), (tgn og_xo og_w2 (by decide)), (tgn og_xo og_bc (by decide)), (tgn og_xo og_dr (by decide)), (tgn og_xo og_d1 (by decide)), (tgn og_xo og_d2 (by decide))⟩)
      have hfm_1 : f1 fm = some (.inl (cy 4, 20, .inr (.inr (.inr (.inr (fmg)))))) := hr1 _ _ hfm (by simp only [List.mem_cons, List.not_mem_nil, or_false, not_or]; exact ⟨(tgn og_fm og_wk (by decide)), (tgn og_fm og_w1 (by decide)), (tgn og_fm og_w2 (by decide)), (tgn og_fm og_bc (by decide)), (tgn og_fm og_dr (by decide)), (tgn og_fm og_d1 (by decide)), (tgn og_fm og_d2 (by decide))⟩)
      have hla_1 : f1 la = some (.inr (3, [.ref wk, .ref bc])) := hr1 _ _ hla (by simp only [List.mem_cons, List.not_mem_nil, or_false, not_or]; exact ⟨(tgn og_la og_wk (by decide)), (tgn og_la og_w1 (by decide)), (tgn og_la og_w2 (by decide)), (tgn og_la og_bc (by decide)), (tgn og_la og_dr (by decide)), (tgn og_la og_d1 (by decide)), (tgn og_la og_d2 (by decide))⟩)
      have hp_1 : f1 p = some (.inr (2, [.ref c1, .ref c2, .int s, .int v])) := hr1 _ _ hp (by simp only [List.mem_cons, List.not_mem_nil, or_false, not_or]; exact ⟨(tgn og_p og_wk (by omega)), (tgn og_p og_w1 (by omega)), (tgn og_p og_w2 (by omega)), (tgn og_p og_bc (by omega)), (tgn og_p og_dr (by omega)), (tgn og_p og_d1 (by omega)), (tgn og_p og_d2 (by omega))⟩)
      have hc1_1 : f1 c1 = some (.inl (cy 0, n1, .inl (g))) := hr1 _ _ hc1 (by simp only [List.mem_cons, List.not_mem_nil, or_false, not_or]; exact ⟨(tgn og_c1 og_wk (by omega)), (tgn og_c1 og_w1 (by omega)), (tgn og_c1 og_w2 (by omega)), (tgn og_c1 og_bc (by omega)), (tgn og_c1 og_dr (by omega)), (tgn og_c1 og_d1 (by omega)), (tgn og_c1 og_d2 (by omega))⟩)
      have hc2_1 : f1 c2 = some (.inl (cy 0, n2, .inl (h))) := hr1 _ _ hc2 (by simp only [List.mem_cons, List.not_mem_nil, or_false, not_or]; exact ⟨(tgn og_c2 og_wk (by omega)), (tgn og_c2 og_w1 (by omega)), (tgn og_c2 og_w2 (by omega)), (tgn og_c2 og_bc (by omega)), (tgn og_c2 og_dr (by omega)), (tgn og_c2 og_d1 (by omega)), (tgn og_c2 og_d2 (by omega))⟩)
      refine gz_aload_n dX11_shorter_33 rfl rfl ?_
      have hfc : fcn.toInt < 20 := by have e20 : (20 : Int32).toInt = 20 := rfl; have hq0 := c_16; simp only [fl_lt] at hq0; omega
      refine scX11_123 (k_X11_keepYE hxo_1 hfm_1 hdr_1 hd1_1 hd2_1 hs_1 hv_1 ⟨mcXo.1, hfc⟩) hxo_1 ⟨(Nat.le_of_ble_eq_true rfl), (Nat.le_of_ble_eq_true rfl)⟩ ⟨(by simp only [gRm]; omega), (by simp only [gRm]; omega)⟩ rfl rfl (Nat.le_of_ble_eq_true rfl) dX11_shorter_34 ?_
      rintro r_2 f2 ⟨hrr_2, q, qa, qb, g2, h2_, hxo_2, hfm_2, hqq, hqa, hqb, hg, hh_, hn3, hr2⟩
      have hnn : ∀ z : Nat, f1 z = none → f z = none := fun z hz => fr_none (S := [wk, w1, w2, bc, dr, d1, d2]) ((fr_tr fr_rf (fr_mo hr1 (by simp)))) (by intro x0 hx0; simp only [List.mem_cons, List.not_mem_nil, or_false] at hx0; rcases hx0 with e0 | e0 | e0 | e0 | e0 | e0 | e0; exact ⟨_, by rw [e0]; exact hwk_1⟩; exact ⟨_, by rw [e0]; exact hw1_1⟩; exact ⟨_, by rw [e0]; exact hw2_1⟩; exact ⟨_, by rw [e0]; exact hbc_1⟩; exact ⟨_, by rw [e0]; exact hdr_1⟩; exact ⟨_, by rw [e0]; exact hd1_1⟩; exact ⟨_, by rw [e0]; exact hd2_1⟩) hz
      obtain ⟨own2, ho2⟩ : ∃ own2 : Nat → Nat, own2 = va_up (va_up (va_up own q (4000 + 3 * Int32.toNatClampNeg fcn)) qa ((4000 + 3 * Int32.toNatClampNeg fcn) + 1)) qb ((4000 + 3 * Int32.toNatClampNeg fcn) + 2) := ⟨_, rfl⟩
      have hO : ∀ z e, f z = some e → own2 z = own z := by rw [ho2]; exact own_up (own_up (own_up (fun _ _ _ => rfl) (hnn _ hn3.1)) (hnn _ hn3.2.1)) (hnn _ hn3.2.2.1)
      have hK : kp own own2 (fun k => k = 8002 ∨ k = 8003 ∨ k = 8004 ∨ k = 8001 ∨ k = 6000 ∨ k = 6001 ∨ k = 6002 ∨ k = 13000 ∨ k = 5000) f f2 := by
        refine kp_fr (S := [wk, w1, w2, bc, dr, d1, d2, xo, fm]) ((fr_tr (fr_tr fr_rf (fr_mo hr1 (by simp))) (fr_mo hr2 (by simp)))) hO ?_
        intro x0 hx0
        simp only [List.mem_cons, List.not_mem_nil, or_false] at hx0
        rcases hx0 with e0 | e0 | e0 | e0 | e0 | e0 | e0 | e0 | e0
        · rw [e0]; show (own wk) = 8002 ∨ (own wk) = 8003 ∨ (own wk) = 8004 ∨ (own wk) = 8001 ∨ (own wk) = 6000 ∨ (own wk) = 6001 ∨ (own wk) = 6002 ∨ (own wk) = 13000 ∨ (own wk) = 5000; rw [og_wk]; decide
        · rw [e0]; show (own w1) = 8002 ∨ (own w1) = 8003 ∨ (own w1) = 8004 ∨ (own w1) = 8001 ∨ (own w1) = 6000 ∨ (own w1) = 6001 ∨ (own w1) = 6002 ∨ (own w1) = 13000 ∨ (own w1) = 5000; rw [og_w1]; decide
        · rw [e0]; show (own w2) = 8002 ∨ (own w2) = 8003 ∨ (own w2) = 8004 ∨ (own w2) = 8001 ∨ (own w2) = 6000 ∨ (own w2) = 6001 ∨ (own w2) = 6002 ∨ (own w2) = 13000 ∨ (own w2) = 5000; rw [og_w2]; decide
        · rw [e0]; show (own bc) = 8002 ∨ (own bc) = 8003 ∨ (own bc) = 8004 ∨ (own bc) = 8001 ∨ (own bc) = 6000 ∨ (own bc) = 6001 ∨ (own bc) = 6002 ∨ (own bc) = 13000 ∨ (own bc) = 5000; rw [og_bc]; decide
        · rw [e0]; show (own dr) = 8002 ∨ (own dr) = 8003 ∨ (own dr) = 8004 ∨ (own dr) = 8001 ∨ (own dr) = 6000 ∨ (own dr) = 6001 ∨ (own dr) = 6002 ∨ (own dr) = 13000 ∨ (own dr) = 5000; rw [og_dr]; decide
        · rw [e0]; show (own d1) = 8002 ∨ (own d1) = 8003 ∨ (own d1) = 8004 ∨ (own d1) = 8001 ∨ (own d1) = 6000 ∨ (own d1) = 6001 ∨ (own d1) = 6002 ∨ (own d1) = 13000 ∨ (own d1) = 5000; rw [og_d1]; decide
        · rw [e0]; show (own d2) = 8002 ∨ (own d2) = 8003 ∨ (own d2) = 8004 ∨ (own d2) = 8001 ∨ (own d2) = 6000 ∨ (own d2) = 6001 ∨ (own d2) = 6002 ∨ (own d2) = 13000 ∨ (own d2) = 5000; rw [og_d2]; decide
        · rw [e0]; show (own xo) = 8002 ∨ (own xo) = 8003 ∨ (own xo) = 8004 ∨ (own xo) = 8001 ∨ (own xo) = 6000 ∨ (own xo) = 6001 ∨ (own xo) = 6002 ∨ (own xo) = 13000 ∨ (own xo) = 5000; rw [og_xo]; decide
        · rw [e0]; show (own fm) = 8002 ∨ (own fm) = 8003 ∨ (own fm) = 8004 ∨ (own fm) = 8001 ∨ (own fm) = 6000 ∨ (own fm) = 6001 ∨ (own fm) = 6002 ∨ (own fm) = 13000 ∨ (own fm) = 5000; rw [og_fm]; decide
      have hq1 : own2 q = (4000 + 3 * Int32.toNatClampNeg fcn) := by rw [ho2, va_up_ne _ _ (cne hqq hqb (by simp)), va_up_ne _ _ (cne hqq hqa (by simp)), va_up_self]
      have hq2 : own2 qa = (4000 + 3 * Int32.toNatClampNeg fcn) + 1 := by rw [ho2, va_up_ne _ _ hn3.2.2.2, va_up_self]
      have hq3 : own2 qb = (4000 + 3 * Int32.toNatClampNeg fcn) + 2 := by rw [ho2, va_up_self]
      have hsv := And.intro hs_1 hv_1
      have hNew : cFo cy own2 f2 (4000 + 3 * Int32.toNatClampNeg fcn) q qa qb (13 * s__1.toInt.toNat) (2 * v__1.toInt.toNat) s__1 v__1 g2 h2_ := ⟨⟨hq1, hq2, hq3⟩, hqq, hqa, hqb, ⟨hsv.1.1, by have := hsv.1; omega, by have := hsv.1; omega⟩, ⟨hsv.2.1, by have := hsv.2; omega, by have := hsv.2; omega⟩, fI_cg hsv.1.1 hg hF_1⟩
      have hf1 : (fcn + 1).toInt = fcn.toInt + 1 := T_add (rfl : fcn.toInt = fcn.toInt) (rfl : (1 : Int32).toInt = 1) (by omega)
      have hcs : (0 ≤ x.toInt ∧ x.toInt < fcn.toInt) ∧ fcn.toInt < 20 := ⟨formF_lt hA2, hfc⟩
      have hP9 : hcT (shT (Tf (Int32.toNatClampNeg x))) s__1 v__1 g2 h2_ := by
        have y3 := hLT_1
        have y1 := hsT_1
        have y2 := hvT_1
        obtain ⟨-, k1, k2, k3, k4, k5⟩ := shT_ok hcx.1.1 hcx.1.2.2.1 hcx.1.2.1
        have kb := hcx.1.2.2.2
        refine ⟨⟨k1, k2, k5, by omega, by omega⟩, y1, y2, ?_⟩
        exact LC_eq (fun j hj => hg j (by omega)) (fun j hj => hh_ j (by omega)) y3
      exact gz_iret rfl dX11_shorter_37 (by omega) (by omega) (⟨_, rfl, own2, _, _, ⟨_, _, _, _, _, _, _, _, _, _, _, _, _, _, _, ⟨((hO _ _ hxo).trans og_xo), hxo_2, ⟨by omega, by omega⟩⟩, (kCh_kp HcCh hK nt_7061), (kTp_kp HcTp hK nt_7062), (kOu_kp HcOu hK nt_7063), ⟨((hO _ _ hfm).trans og_fm), hfm_2⟩, (cFm_new (cFm_kp HcFm hK nt_7059) hNew (P := hcT (shT (Tf (Int32.toNatClampNeg x)))) hP9), ⟨_, _, _, _, _, _, ⟨⟨((hO _ _ hdr).trans og_dr), ((hO _ _ hd1).trans og_d1), ((hO _ _ hd2).trans og_d2)⟩, (hr2 _ _ hdr_1 (by simp only [List.mem_cons, List.not_mem_nil, or_false, not_or]; exact ⟨tgn og_dr og_xo (by decide), tgn og_dr og_fm (by decide)⟩)), (hr2 _ _ hd1_1 (by simp only [List.mem_cons, List.not_mem_nil, or_false, not_or]; exact ⟨tgn og_d1 og_xo (by decide), tgn og_d1 og_fm (by decide)⟩)), (hr2 _ _ hd2_1 (by simp only [List.mem_cons, List.not_mem_nil, or_false, not_or]; exact ⟨tgn og_d2 og_xo (by decide), tgn og_d2 og_fm (by decide)⟩))⟩⟩, (kOt_kp HcOt hK nt_7064), (kRt_kp HcRt hK nt_7065), ⟨_, _, _, _, _, _, _, _, _, ⟨⟨((hO _ _ hla).trans og_la), ((hO _ _ hbc).trans og_bc), ((hO _ _ hwk).trans og_wk), ((hO _ _ hw1).trans og_w1), ((hO _ _ hw2).trans og_w2)⟩, (hK.2 _ _ hla (by show ¬ ((own la) = 8002 ∨ (own la) = 8003 ∨ (own la) = 8004 ∨ (own la) = 8001 ∨ (own la) = 6000 ∨ (own la) = 6001 ∨ (own la) = 6002 ∨ (own la) = 13000 ∨ (own la) = 5000); rw [og_la]; exact nt_7066 _ ⟨Nat.le_refl _, Nat.lt_succ_self _⟩)), (hr2 _ _ hbc_1 (by simp only [List.mem_cons, List.not_mem_nil, or_false, not_or]; exact ⟨tgn og_bc og_xo (by decide), tgn og_bc og_fm (by decide)⟩)), (hr2 _ _ hwk_1 (by simp only [List.mem_cons, List.not_mem_nil, or_false, not_or]; exact ⟨tgn og_wk og_xo (by decide), tgn og_wk og_fm (by decide)⟩)), (hr2 _ _ hw1_1 (by simp only [List.mem_cons, List.not_mem_nil, or_false, not_or]; exact ⟨tgn og_w1 og_xo (by decide), tgn og_w1 og_fm (by decide)⟩)), (hr2 _ _ hw2_1 (by simp only [List.mem_cons, List.not_mem_nil, or_false, not_or]; exact ⟨tgn og_w2 og_xo (by decide), tgn og_w2 og_fm (by decide)⟩))⟩⟩, (kLg_kp HcLg hK nt_7067), (kCo_kp HcCo hK nt_7068), (cLv_fm (cLv_kp HcLv hK nt_7060) (cFn_lv mcXo.1 HcFn)), (kWo_kp HcWo hK nt_7069 nt_7070), (cFn_up mcXo.1 hf1 HcFn), HcLn⟩, (kp_0 hK (nt_7071 0 ⟨Nat.le_refl _, Nat.lt_succ_self _⟩)), (by rw [if_pos hcs]; exact hrr_2), (by rw [if_pos hcs]; exact hf1), (if_pos hcs).symm⟩)
    ·
      refine gz_iconst (v := (-1)) dX11_shorter_19 (by decide) ?_
      have hcs : ¬ ((0 ≤ x.toInt ∧ x.toInt < fcn.toInt) ∧ fcn.toInt < 20) := by have e20 : (20 : Int32).toInt = 20 := rfl; have hq0 := c_16; simp only [fl_lt, fl_le] at hq0; omega
      exact gz_iret rfl dX11_shorter_20 (by omega) (by omega) (⟨_, rfl, own, _, _, hI, kp0_rf, (by rw [if_neg hcs]), (by rw [if_neg hcs]), (if_neg hcs).symm⟩)
