def pnF (len : Int32) (n : Nat) (g : Nat → Int32) (x : Int32) : (Int32) × (Nat → Int32) := ((tpL (tpL (tpL (tpL len n) n) n) n), ((tpG (tpL (tpL (tpL len n) n) n) n (tpG (tpL (tpL len n) n) n (tpG (tpL len n) n (tpG len n g (x >>> (24 &&& 31))) (x >>> (16 &&& 31))) (x >>> (8 &&& 31))) (x >>> (0 &&& 31)))))
set_option maxHeartbeats 4000000 in
set_option maxRecDepth 100000 in
theorem k_X9_putNumberE {l : Launch} {D : va_G} {cy : Nat → ClassId} {b : Nat} {f : gMem} {a c n : Nat} {len : Int32} {g : Nat → Int32} {x : Int32} (ha : f a = some (.inr (9, [.ref c, .int len]))) (hc : f c = some (.inl (cy 1, n, .inl (g)))) (hn : n < 2 ^ 31) : gC l D cy b yX9_putNumber cX9_putNumber 3 none 1 0 0 [.ref a, .int x] f (pV fun f2 => f2 a = some (.inr (9, [.ref c, .int (pnF len n g x).1])) ∧ f2 c = some (.inl (cy 1, n, .inl ((pnF len n g x).2))) ∧ fr [a, c] f f2) := by
  refine gC_of (by decide) (Nat.le_of_ble_eq_true rfl) ?_
  show gG l _ _ _ D cy b cX9_putNumber 3 _ RX9 "putNumber" 0 0 f 0 [(0, .ref a), (1, .int x)] []
  refine gz_bipush (v := 24) dX9_putNumber_0 (by decide) ?_
  refine gz_istore_n (lv' := [(2, .int 24), (0, .ref a), (1, .int x)]) dX9_putNumber_2 rfl (by decide) rfl ?_
  refine gz_iload_n dX9_putNumber_3 rfl rfl ?_
  refine gz_if_lt (tgt := 20) dX9_putNumber_4 (by decide) (fun c_4 => ?_) (fun c_4 => ?_)
  · exact absurd c_4 (by decide)
  ·
    refine gz_aload_n dX9_putNumber_7 rfl rfl ?_
    refine gz_iload_n dX9_putNumber_8 rfl rfl ?_
    refine gz_iload_n dX9_putNumber_9 rfl rfl ?_
    refine gz_ishr dX9_putNumber_10 ?_
    refine scX9_25 (k_X9_put (x := (x >>> (24 &&& 31))) ha hc hn) ha ⟨(Nat.le_of_ble_eq_true rfl), (Nat.le_of_ble_eq_true rfl)⟩ ⟨(Nat.le_of_ble_eq_true rfl), (Nat.le_of_ble_eq_true rfl)⟩ rfl rfl (Nat.le_of_ble_eq_true rfl) dX9_putNumber_11 ?_
    rintro f1 ⟨ha_1, hc_1, hr1⟩
    refine gz_iinc (v := 16) (lv' := [(2, .int 16), (0, .ref a), (1, .int x)]) dX9_putNumber_14 rfl (by decide) (by decide) rfl ?_
    refine gz_goto (tgt := 3) dX9_putNumber_17 (by decide) ?_
    refine gz_iload_n dX9_putNumber_3 rfl rfl ?_
    refine gz_if_lt (tgt := 20) dX9_putNumber_4 (by decide) (fun c_4_1 => ?_) (fun c_4_1 => ?_)
    · exact absurd c_4_1 (by decide)
    ·
      refine gz_aload_n dX9_putNumber_7 rfl rfl ?_
      refine gz_iload_n dX9_putNumber_8 rfl rfl ?_
      refine gz_iload_n dX9_putNumber_9 rfl rfl ?_
      refine gz_ishr dX9_putNumber_10 ?_
      refine scX9_25 (k_X9_put (x := (x >>> (16 &&& 31))) ha_1 hc_1 hn) ha_1 ⟨(Nat.le_of_ble_eq_true rfl), (Nat.le_of_ble_eq_true rfl)⟩ ⟨(Nat.le_of_ble_eq_true rfl), (Nat.le_of_ble_eq_true rfl)⟩ rfl rfl (Nat.le_of_ble_eq_true rfl) dX9_putNumber_11 ?_
      rintro f2 ⟨ha_2, hc_2, hr2⟩
      refine gz_iinc (v := 8) (lv' := [(2, .int 8), (0, .ref a), (1, .int x)]) dX9_putNumber_14 rfl (by decide) (by decide) rfl ?_
      refine gz_goto (tgt := 3) dX9_putNumber_17 (by decide) ?_
      refine gz_iload_n dX9_putNumber_3 rfl rfl ?_
      refine gz_if_lt (tgt := 20) dX9_putNumber_4 (by decide) (fun c_4_2 => ?_) (fun c_4_2 => ?_)
      · exact absurd c_4_2 (by decide)
      ·
        refine gz_aload_n dX9_putNumber_7 rfl rfl ?_
        refine gz_iload_n dX9_putNumber_8 rfl rfl ?_
        refine gz_iload_n dX9_putNumber_9 rfl rfl ?_
        refine gz_ishr dX9_putNumber_10 ?_
        refine scX9_25 (k_X9_put (x := (x >>> (8 &&& 31))) ha_2 hc_2 hn) ha_2 ⟨(Nat.le_of_ble_eq_true rfl), (Nat.le_of_ble_eq_true rfl)⟩ ⟨(Nat.le_of_ble_eq_true rfl), (Nat.le_of_ble_eq_true rfl)⟩ rfl rfl (Nat.le_of_ble_eq_true rfl) dX9_putNumber_11 ?_
        rintro f3 ⟨ha_3, hc_3, hr3⟩
        refine gz_iinc (v := 0) (lv' := [(2, .int 0), (0, .ref a), (1, .int x)]) dX9_putNumber_14 rfl (by decide) (by decide) rfl ?_
        refine gz_goto (tgt := 3) dX9_putNumber_17 (by decide) ?_
        refine gz_iload_n dX9_putNumber_3 rfl rfl ?_
        refine gz_if_lt (tgt := 20) dX9_putNumber_4 (by decide) (fun c_4_3 => ?_) (fun c_4_3 => ?_)
        · exact absurd c_4_3 (by decide)
        ·
          refine gz_aload_n dX9_putNumber_7 rfl rfl ?_
          refine gz_iload_n dX9_putNumber_8 rfl rfl ?_
          refine gz_iload_n dX9_putNumber_9 rfl rfl ?_
          refine gz_ishr dX9_putNumber_10 ?_
          refine scX9_25 (k_X9_put (x := (x >>> (0 &&& 31))) ha_3 hc_3 hn) ha_3 ⟨(Nat.le_of_ble_eq_true rfl), (Nat.le_of_ble_eq_true rfl)⟩ ⟨(Nat.le_of_ble_eq_true rfl), (Nat.le_of_ble_eq_true rfl)⟩ rfl rfl (Nat.le_of_ble_eq_true rfl) dX9_putNumber_11 ?_
          rintro f4 ⟨ha_4, hc_4, hr4⟩
          refine gz_iinc (v := (-8)) (lv' := [(2, .int (-8)), (0, .ref a), (1, .int x)]) dX9_putNumber_14 rfl (by decide) (by decide) rfl ?_
          refine gz_goto (tgt := 3) dX9_putNumber_17 (by decide) ?_
          refine gz_iload_n dX9_putNumber_3 rfl rfl ?_
          refine gz_if_lt (tgt := 20) dX9_putNumber_4 (by decide) (fun c_4_4 => ?_) (fun c_4_4 => ?_)
          ·
            exact gz_vret rfl dX9_putNumber_20 (Nat.le_of_ble_eq_true rfl) (Nat.le_of_ble_eq_true rfl) (⟨rfl, (by rw [(show pnF len n g x = _ from (by unfold pnF; rfl))]; exact ha_4), (by rw [(show pnF len n g x = _ from (by unfold pnF; rfl))]; exact hc_4), (fr_tr (fr_tr (fr_tr (fr_tr fr_rf (fr_mo hr1 (by simp))) (fr_mo hr2 (by simp))) (fr_mo hr3 (by simp))) (fr_mo hr4 (by simp)))⟩)
          · exact absurd c_4_4 (by decide)

def xfedF (len : Int32) (n : Nat) (tg2 : Nat → Int32) (a1 a2 a3 a4 a5 : Int32) : (Int32) × (Int32) × (Nat → Int32) := (if ((len + 20) : Int32) ≤ 400 then (lett (pnF len n tg2 a1) fun x1 => (lett (pnF x1.1 n x1.2 a2) fun x2 => (lett (pnF x2.1 n x2.2 a3) fun x3 => (lett (pnF x3.1 n x3.2 a4) fun x4 => (lett (pnF x4.1 n x4.2 a5) fun x5 => (x5.1, x5.1, (x5.2))))))) else ((-1), len, (tg2)))
set_option maxHeartbeats 4000000 in
set_option maxRecDepth 100000 in
theorem k_X11_feedE {l : Launch} {D : va_G} {cy : Nat → ClassId} {b : Nat} {f : gMem} {xo ch tp ou fm dr dt_ rd te la co wo tb n : Nat} {fcn len : Int32} {tg2 : Nat → Int32} {lg : Nat} {a1 a2 a3 a4 a5 : Int32} (hxo : f xo = some (.inr (11, [.ref ch, .ref tp, .ref ou, .ref fm, .ref dr, .ref dt_, .ref rd, .ref te, .ref la, .ref lg, .ref co, .ref wo, .int fcn]))) (htp : f tp = some (.inr (9, [.ref tb, .int len]))) (htb : f tb = some (.inl (cy 1, n, .inl (tg2)))) (hn : n < 2 ^ 31) : gC l D cy b yX11_feed cX11_feed 6 (some .int) 2 0 0 [.ref xo, .int a1, .int a2, .int a3, .int a4, .int a5] f (pI fun r f2 => r = (xfedF len n tg2 a1 a2 a3 a4 a5).1 ∧ f2 tp = some (.inr (9, [.ref tb, .int (xfedF len n tg2 a1 a2 a3 a4 a5).2.1])) ∧ f2 tb = some (.inl (cy 1, n, .inl ((xfedF len n tg2 a1 a2 a3 a4 a5).2.2))) ∧ fr [tp, tb] f f2) := by
  refine gC_of (by decide) (Nat.le_of_ble_eq_true rfl) ?_
  show gG l _ _ _ D cy b cX11_feed 6 _ RX11 "feed" 0 0 f 0 [(0, .ref xo), (1, .int a1), (2, .int a2), (3, .int a3), (4, .int a4), (5, .int a5)] []
  refine gz_aload_n dX11_feed_0 rfl rfl ?_
  refine sgX11_21 hxo rfl dX11_feed_1 ?_
  refine scX11_106 (k_X9_size htp) htp ⟨(Nat.le_of_ble_eq_true rfl), (Nat.le_of_ble_eq_true rfl)⟩ ⟨(Nat.le_of_ble_eq_true rfl), (Nat.le_of_ble_eq_true rfl)⟩ rfl rfl (Nat.le_of_ble_eq_true rfl) dX11_feed_4 ?_
  intro v9 f9 z9; rw [z9.1, z9.2]
  refine gz_bipush (v := 20) dX11_feed_7 (by decide) ?_
  refine gz_iadd dX11_feed_9 ?_
  refine gz_sipush (v := 400) dX11_feed_10 (by decide) ?_
  refine gz_icmp_le (tgt := 18) dX11_feed_13 (by decide) (fun c_13 => ?_) (fun c_13 => ?_)
  ·
    refine gz_aload_n dX11_feed_18 rfl rfl ?_
    refine sgX11_21 hxo rfl dX11_feed_19 ?_
    refine gz_iload_n dX11_feed_22 rfl rfl ?_
    obtain ⟨x1, hx1⟩ : ∃ x0, (pnF len n tg2 a1) = x0 := ⟨_, rfl⟩
    refine scX11_110 (k_X9_putNumberE (x := a1) htp htb hn) htp ⟨(Nat.le_of_ble_eq_true rfl), (Nat.le_of_ble_eq_true rfl)⟩ ⟨(Nat.le_of_ble_eq_true rfl), (Nat.le_of_ble_eq_true rfl)⟩ rfl rfl (Nat.le_of_ble_eq_true rfl) dX11_feed_23 ?_
    rintro f1 ⟨htp_1, htb_1, hr1⟩; rw [hx1] at htp_1 htb_1
    have hxo_1 : f1 xo = some (.inr (11, [.ref ch, .ref tp, .ref ou, .ref fm, .ref dr, .ref dt_, .ref rd, .ref te, .ref la, .ref lg, .ref co, .ref wo, .int fcn])) := hr1 _ _ hxo (by simp only [List.mem_cons, List.not_mem_nil, or_false, not_or]; exact ⟨cne hxo htp (by simp), cne hxo htb (by simp)⟩)
    refine gz_aload_n dX11_feed_26 rfl rfl ?_
    refine sgX11_21 hxo_1 rfl dX11_feed_27 ?_
    refine gz_iload_n dX11_feed_30 rfl rfl ?_
    obtain ⟨x2, hx2⟩ : ∃ x0, (pnF x1.1 n x1.2 a2) = x0 := ⟨_, rfl⟩
    refine scX11_110 (k_X9_putNumberE (x := a2) htp_1 htb_1 hn) htp_1 ⟨(Nat.le_of_ble_eq_true rfl), (Nat.le_of_ble_eq_true rfl)⟩ ⟨(Nat.le_of_ble_eq_true rfl), (Nat.le_of_ble_eq_true rfl)⟩ rfl rfl (Nat.le_of_ble_eq_true rfl) dX11_feed_31 ?_
    rintro f2 ⟨htp_2, htb_2, hr2⟩; rw [hx2] at htp_2 htb_2
    have hxo_2 : f2 xo = some (.inr (11, [.ref ch, .ref tp, .ref ou, .ref fm, .ref dr, .ref dt_, .ref rd, .ref te, .ref la, .ref lg, .ref co, .ref wo, .int fcn])) := hr2 _ _ hxo_1 (by simp only [List.mem_cons, List.not_mem_nil, or_false, not_or]; exact ⟨cne hxo_1 htp_1 (by simp), cne hxo_1 htb_1 (by simp)⟩)
    refine gz_aload_n dX11_feed_34 rfl rfl ?_
    refine sgX11_21 hxo_2 rfl dX11_feed_35 ?_
    refine gz_iload_n dX11_feed_38 rfl rfl ?_
    obtain ⟨x3, hx3⟩ : ∃ x0, (pnF x2.1 n x2.2 a3) = x0 := ⟨_, rfl⟩
    refine scX11_110 (k_X9_putNumberE (x := a3) htp_2 htb_2 hn) htp_2 ⟨(Nat.le_of_ble_eq_true rfl), (Nat.le_of_ble_eq_true rfl)⟩ ⟨(Nat.le_of_ble_eq_true rfl), (Nat.le_of_ble_eq_true rfl)⟩ rfl rfl (Nat.le_of_ble_eq_true rfl) dX11_feed_39 ?_
    rintro f3 ⟨htp_3, htb_3, hr3⟩; rw [hx3] at htp_3 htb_3
    have hxo_3 : f3 xo = some (.inr (11, [.ref ch, .ref tp, .ref ou, .ref fm, .ref dr, .ref dt_, .ref rd, .ref te, .ref la, .ref lg, .ref co, .ref wo, .int fcn])) := hr3 _ _ hxo_2 (by simp only [List.mem_cons, List.not_mem_nil, or_false, not_or]; exact ⟨cne hxo_2 htp_2 (by simp), cne hxo_2 htb_2 (by simp)⟩)
    refine gz_aload_n dX11_feed_42 rfl rfl ?_
    refine sgX11_21 hxo_3 rfl dX11_feed_43 ?_
    refine gz_iload dX11_feed_46 rfl ?_
    obtain ⟨x4, hx4⟩ : ∃ x0, (pnF x3.1 n x3.2 a4) = x0 := ⟨_, rfl⟩
    refine scX11_110 (k_X9_putNumberE (x := a4) htp_3 htb_3 hn) htp_3 ⟨(Nat.le_of_ble_eq_true rfl), (Nat.le_of_ble_eq_true rfl)⟩ ⟨(Nat.le_of_ble_eq_true rfl), (Nat.le_of_ble_eq_true rfl)⟩ rfl rfl (Nat.le_of_ble_eq_true rfl) dX11_feed_48 ?_
    rintro f4 ⟨htp_4, htb_4, hr4⟩; rw [hx4] at htp_4 htb_4
    have hxo_4 : f4 xo = some (.inr (11, [.ref ch, .ref tp, .ref ou, .ref fm, .ref dr, .ref dt_, .ref rd, .ref te, .ref la, .ref lg, .ref co, .ref wo, .int fcn])) := hr4 _ _ hxo_3 (by simp only [List.mem_cons, List.not_mem_nil, or_false, not_or]; exact ⟨cne hxo_3 htp_3 (by simp), cne hxo_3 htb_3 (by simp)⟩)
    refine gz_aload_n dX11_feed_51 rfl rfl ?_
    refine sgX11_21 hxo_4 rfl dX11_feed_52 ?_
    refine gz_iload dX11_feed_55 rfl ?_
    obtain ⟨x5, hx5⟩ : ∃ x0, (pnF x4.1 n x4.2 a5) = x0 := ⟨_, rfl⟩
    refine scX11_110 (k_X9_putNumberE (x := a5) htp_4 htb_4 hn) htp_4 ⟨(Nat.le_of_ble_eq_true rfl), (Nat.le_of_ble_eq_true rfl)⟩ ⟨(Nat.le_of_ble_eq_true rfl), (Nat.le_of_ble_eq_true rfl)⟩ rfl rfl (Nat.le_of_ble_eq_true rfl) dX11_feed_57 ?_
    rintro f5 ⟨htp_5, htb_5, hr5⟩; rw [hx5] at htp_5 htb_5
    have hxo_5 : f5 xo = some (.inr (11, [.ref ch, .ref tp, .ref ou, .ref fm, .ref dr, .ref dt_, .ref rd, .ref te, .ref la, .ref lg, .ref co, .ref wo, .int fcn])) := hr5 _ _ hxo_4 (by simp only [List.mem_cons, List.not_mem_nil, or_false, not_or]; exact ⟨cne hxo_4 htp_4 (by simp), cne hxo_4 htb_4 (by simp)⟩)
    refine gz_aload_n dX11_feed_60 rfl rfl ?_
    refine sgX11_21 hxo_5 rfl dX11_feed_61 ?_
    refine scX11_106 (k_X9_size htp_5) htp_5 ⟨(Nat.le_of_ble_eq_true rfl), (Nat.le_of_ble_eq_true rfl)⟩ ⟨(Nat.le_of_ble_eq_true rfl), (Nat.le_of_ble_eq_true rfl)⟩ rfl rfl (Nat.le_of_ble_eq_true rfl) dX11_feed_64 ?_
    intro v9 f9 z9; rw [z9.1, z9.2]
    exact gz_iret rfl dX11_feed_67 (Nat.le_of_ble_eq_true rfl) (Nat.le_of_ble_eq_true rfl) (⟨_, rfl, (by rw [(show xfedF len n tg2 a1 a2 a3 a4 a5 = _ from (by unfold xfedF; rw [if_pos c_13, lett_eq hx1, lett_eq hx2, lett_eq hx3, lett_eq hx4, lett_eq hx5]))]), (by rw [(show xfedF len n tg2 a1 a2 a3 a4 a5 = _ from (by unfold xfedF; rw [if_pos c_13, lett_eq hx1, lett_eq hx2, lett_eq hx3, lett_eq hx4, lett_eq hx5]))]; exact htp_5), (by rw [(show xfedF len n tg2 a1 a2 a3 a4 a5 = _ from (by unfold xfedF; rw [if_pos c_13, lett_eq hx1, lett_eq hx2, lett_eq hx3, lett_eq hx4, lett_eq hx5]))]; exact htb_5), (fr_tr (fr_tr (fr_tr (fr_tr (fr_tr fr_rf (fr_mo hr1 (by simp))) (fr_mo hr2 (by simp))) (fr_mo hr3 (by simp))) (fr_mo hr4 (by simp))) (fr_mo hr5 (by simp)))⟩)
  ·
    refine gz_iconst (v := (-1)) dX11_feed_16 (by decide) ?_
    exact gz_iret rfl dX11_feed_17 (Nat.le_of_ble_eq_true rfl) (Nat.le_of_ble_eq_true rfl) (⟨_, rfl, (by rw [(show xfedF len n tg2 a1 a2 a3 a4 a5 = _ from (by unfold xfedF; rw [if_neg c_13]))]), (by rw [(show xfedF len n tg2 a1 a2 a3 a4 a5 = _ from (by unfold xfedF; rw [if_neg c_13]))]; exact htp), (by rw [(show xfedF len n tg2 a1 a2 a3 a4 a5 = _ from (by unfold xfedF; rw [if_neg c_13]))]; exact htb), fr_rf⟩)

/-! the TAPE's bytes -/
def b8 (x s : Int32) : Int32 := vp_nar .byte ((x >>> (s &&& 31)).toInt8.toInt32)
def p4 (g : Nat → Int32) (L : Nat) (x : Int32) : Nat → Int32 := upd (upd (upd (upd g L (b8 x 24)) (L + 1) (b8 x 16)) (L + 2) (b8 x 8)) (L + 3) (b8 x 0)
def p20 (g : Nat → Int32) (L : Nat) (a1 a2 a3 a4 a5 : Int32) : Nat → Int32 := p4 (p4 (p4 (p4 (p4 g L a1) (L + 4) a2) (L + 8) a3) (L + 12) a4) (L + 16) a5
theorem tp_in {len : Int32} {g : Nat → Int32} {x : Int32} {L : Nat} (hl : len.toInt = L) (h : L < 400) : (tpL len 400).toInt = ((L + 1 : Nat) : Int) ∧ tpG len 400 g x = upd g L (vp_nar .byte x.toInt8.toInt32) := by
  have e0 : (0 : Int32).toInt = 0 := rfl
  have e4 : (Int32.ofNat 400).toInt = 400 := rfl
  have q := T_add hl (show (1 : Int32).toInt = 1 from rfl) (by omega)
  unfold tpL tpG
  rw [if_neg (by rw [fl_lt, e0]; omega), if_neg (by rw [fl_le, e4]; omega), if_neg (by rw [fl_lt, e0]; omega), if_neg (by rw [fl_le, e4]; omega), show len.toNatClampNeg = L by rw [clN]; omega]
  exact ⟨by omega, rfl⟩
theorem pn_p4 {len : Int32} {g : Nat → Int32} {x : Int32} {L : Nat} (hl : len.toInt = L) (h : L + 4 ≤ 400) : (pnF len 400 g x).1.toInt = ((L + 4 : Nat) : Int) ∧ (pnF len 400 g x).2 = p4 g L x := by
  have h1 := tp_in (g := g) (x := x >>> (24 &&& 31)) hl (by omega)
  have h2 := tp_in (g := upd g L (b8 x 24)) (x := x >>> (16 &&& 31)) h1.1 (by omega)
  have h3 := tp_in (g := upd (upd g L (b8 x 24)) (L + 1) (b8 x 16)) (x := x >>> (8 &&& 31)) h2.1 (by omega)
  have h4 := tp_in (g := upd (upd (upd g L (b8 x 24)) (L + 1) (b8 x 16)) (L + 2) (b8 x 8)) (x := x >>> (0 &&& 31)) h3.1 (by omega)
  unfold pnF
  refine ⟨h4.1, ?_⟩
  dsimp only
  rw [h1.2]
  rw [show upd g L (vp_nar .byte (x >>> (24 &&& 31)).toInt8.toInt32) = upd g L (b8 x 24) from rfl, h2.2]
  rw [show upd (upd g L (b8 x 24)) (L + 1) (vp_nar .byte (x >>> (16 &&& 31)).toInt8.toInt32) = upd (upd g L (b8 x 24)) (L + 1) (b8 x 16) from rfl, h3.2]
  rw [show upd (upd (upd g L (b8 x 24)) (L + 1) (b8 x 16)) (L + 1 + 1) (vp_nar .byte (x >>> (8 &&& 31)).toInt8.toInt32) = upd (upd (upd g L (b8 x 24)) (L + 1) (b8 x 16)) (L + 2) (b8 x 8) from rfl, h4.2]
  rfl
theorem xfed_ok {len : Int32} {g : Nat → Int32} {a1 a2 a3 a4 a5 : Int32} {L : Nat} (hl : len.toInt = L) (h4 : L ≤ 400) : (L ≤ 380 → (xfedF len 400 g a1 a2 a3 a4 a5).1.toInt = (L : Int) + 20 ∧ (xfedF len 400 g a1 a2 a3 a4 a5).2.1.toInt = (L : Int) + 20 ∧ (xfedF len 400 g a1 a2 a3 a4 a5).2.2 = p20 g L a1 a2 a3 a4 a5) ∧ (380 < L → (xfedF len 400 g a1 a2 a3 a4 a5).1 = -1 ∧ (xfedF len 400 g a1 a2 a3 a4 a5).2.1 = len ∧ (xfedF len 400 g a1 a2 a3 a4 a5).2.2 = g) := by
  have e4 : (400 : Int32).toInt = 400 := rfl
  have q := T_add hl (show (20 : Int32).toInt = 20 from rfl) (by omega)
  unfold xfedF lett
  refine ⟨fun h => ?_, fun h => ?_⟩
  · rw [if_pos (show len + 20 ≤ 400 by rw [fl_le, q, e4]; omega)]
    have p1 := pn_p4 (g := g) (x := a1) hl (by omega)
    have p2 := pn_p4 (g := (pnF len 400 g a1).2) (x := a2) p1.1 (by omega)
    have p3 := pn_p4 (x := a3) (g := (pnF (pnF len 400 g a1).1 400 (pnF len 400 g a1).2 a2).2) p2.1 (by omega)
    have p4_ := pn_p4 (x := a4) (g := (pnF (pnF (pnF len 400 g a1).1 400 (pnF len 400 g a1).2 a2).1 400 (pnF (pnF len 400 g a1).1 400 (pnF len 400 g a1).2 a2).2 a3).2) p3.1 (by omega)
    have p5 := pn_p4 (x := a5) (g := (pnF (pnF (pnF (pnF len 400 g a1).1 400 (pnF len 400 g a1).2 a2).1 400 (pnF (pnF len 400 g a1).1 400 (pnF len 400 g a1).2 a2).2 a3).1 400 (pnF (pnF (pnF len 400 g a1).1 400 (pnF len 400 g a1).2 a2).1 400 (pnF (pnF len 400 g a1).1 400 (pnF len 400 g a1).2 a2).2 a3).2 a4).2) p4_.1 (by omega)
    refine ⟨by dsimp only; omega, by dsimp only; omega, ?_⟩
    dsimp only
    rw [p5.2, p4_.2, p3.2, p2.2, p1.2]
    rfl
  · rw [if_neg (show ¬ len + 20 ≤ 400 by rw [fl_le, q, e4]; omega)]
    exact ⟨rfl, rfl, rfl⟩
theorem p4_cp {g h : Nat → Int32} {L : Nat} {x : Int32} (e : ∀ k, k < L → g k = h k) : ∀ k, k < L + 4 → p4 g L x k = p4 h L x k := by
  intro k hk
  unfold p4
  simp only [updE]
  repeat' split
  all_goals first | rfl | exact e k (by omega)
theorem p20_cp {g h : Nat → Int32} {L : Nat} {a1 a2 a3 a4 a5 : Int32} (e : ∀ k, k < L → g k = h k) : ∀ k, k < L + 20 → p20 g L a1 a2 a3 a4 a5 k = p20 h L a1 a2 a3 a4 a5 k :=
  p4_cp (L := L + 16) (p4_cp (L := L + 12) (p4_cp (L := L + 8) (p4_cp (L := L + 4) (p4_cp e))))
theorem b8_rg {x s : Int32} : -128 ≤ (b8 x s).toInt ∧ (b8 x s).toInt ≤ 127 := by
  have e : b8 x s = (x >>> (s &&& 31)).toInt8.toInt32.toInt8.toInt32 := rfl
  rw [e, Int8.toInt_toInt32]
  have h1 := Int8.le_toInt (x >>> (s &&& 31)).toInt8.toInt32.toInt8
  have h2 := Int8.toInt_lt (x >>> (s &&& 31)).toInt8.toInt32.toInt8
  omega
theorem p4_rB {g : Nat → Int32} {L : Nat} {x : Int32} (h : ∀ k, k < 400 → -128 ≤ (g k).toInt ∧ (g k).toInt ≤ 127) : ∀ k, k < 400 → -128 ≤ (p4 g L x k).toInt ∧ (p4 g L x k).toInt ≤ 127 := by
  intro k hk
  unfold p4
  simp only [updE]
  repeat' split
  all_goals first | with_reducible exact b8_rg | with_reducible exact h k hk
theorem p20_rB {g : Nat → Int32} {L : Nat} {a1 a2 a3 a4 a5 : Int32} (h : ∀ k, k < 400 → -128 ≤ (g k).toInt ∧ (g k).toInt ≤ 127) : ∀ k, k < 400 → -128 ≤ (p20 g L a1 a2 a3 a4 a5 k).toInt ∧ (p20 g L a1 a2 a3 a4 a5 k).toInt ≤ 127 := p4_rB (p4_rB (p4_rB (p4_rB (p4_rB h))))
theorem xend_ok {len x : Int32} (hl : 0 ≤ len.toInt) : (xendF len x).1 = (if 0 ≤ x.toInt ∧ x.toInt ≤ len.toInt then x else -1) ∧ (xendF len x).2 = (if 0 ≤ x.toInt ∧ x.toInt ≤ len.toInt then x else len) := by
  have e0 : (0 : Int32).toInt = 0 := rfl
  unfold xendF tCut
  by_cases c1 : x < 0
  · rw [if_pos c1]
    rw [fl_lt, e0] at c1
    rw [if_neg (by omega), if_neg (by omega)]
    exact ⟨rfl, rfl⟩
  · by_cases c2 : x ≤ len
    · simp only [if_neg c1, if_pos c2]
      rw [fl_lt, e0] at c1
      rw [if_neg (show ¬ len < x by rw [fl_lt]; rw [fl_le] at c2; omega)]
      rw [fl_le] at c2
      rw [if_pos (by omega), if_pos (by omega)]
      exact ⟨rfl, rfl⟩
    · rw [if_neg c1, if_neg c2]
      rw [fl_le] at c2
      rw [if_neg (by omega), if_neg (by omega)]
      exact ⟨rfl, rfl⟩
/-- the TAPE alike: class's bytes below the length as the reference's row 3 -/
def tpE (g h : Nat → Int32) (L : Int) : Prop := ∀ k : Nat, (k : Int) < L → g k = h k
theorem tpE_tX {g h : Nat → Int32} {L : Int32} (e : tpE g h L.toInt) : tX g L = tX h L := by
  funext k
  unfold tX
  by_cases c : (k : Int) < L.toInt
  · rw [if_pos c, if_pos c, e k c]
  · rw [if_neg c, if_neg c]
set_option maxHeartbeats 4000000 in
set_option maxRecDepth 100000 in
theorem k_X12_fourE {l : Launch} {D : va_G} {cy : Nat → ClassId} {b : Nat} {f : gMem} {m : Nat} {a : Nat → Nat} {f0 : gMem} {n : Nat → Int32} {z : Nat → Int64} {F : Nat → Nat → Int32} {G : Nat → Nat → Int64}  {x : Int32} (hS : mS cy m a f0 n z F G f) (ht : 0 ≤ (n 4).toInt ∧ (n 4).toInt + 4 ≤ 400) : gC l D cy b yX12_four cX12_four 3 none 0 0 0 [.ref m, .int x] f (pV fun f2 => ∃ (n2 : Nat → Int32) (z2 : Nat → Int64) (F2 : Nat → Nat → Int32) (G2 : Nat → Nat → Int64), mS cy m a f0 n2 z2 F2 G2 f2 ∧ fx [4] [] [3] [] n z F G n2 z2 F2 G2 ∧ (n2 4).toInt = (n 4).toInt + 4 ∧ F2 3 = p4 (F 3) (n 4).toInt.toNat x) := by
  refine gC_of (by decide) (Nat.le_of_ble_eq_true rfl) ?_
  show gG l _ _ _ D cy b cX12_four 3 _ RX12 "four" 0 0 f 0 [(0, .ref m), (1, .int x)] []
  refine gz_bipush (v := 24) dX12_four_0 (by decide) ?_
  refine gz_istore_n (lv' := [(2, .int 24), (0, .ref m), (1, .int x)]) dX12_four_2 rfl (by decide) rfl ?_
  refine gz_iload_n dX12_four_3 rfl rfl ?_
  refine gz_if_lt (tgt := 36) dX12_four_4 (by decide) (fun c_4 => ?_) (fun c_4 => ?_)
  · exact absurd c_4 (by decide)
  ·
    try simp only [mIn_0, lgc_lt, lgc_gt, lgc_le, lgc_ge, lgc_eq] at c_4
    try simp only [fl_lt, fl_le, fl_eq, fL_w, fL_lt, fL_le, tm1, tm10k, tm9, tm99, Int32.reduceToInt, Int64.reduceToInt, Int.not_lt, Int.not_le] at c_4
    refine gz_aload_n dX12_four_7 rfl rfl ?_
    refine mg_13 hS dX12_four_8 ?_
    refine gz_aload_n dX12_four_11 rfl rfl ?_
    refine mg_262 hS dX12_four_12 ?_
    refine gz_iload_n dX12_four_15 rfl rfl ?_
    refine gz_iload_n dX12_four_16 rfl rfl ?_
    refine gz_ishr dX12_four_17 ?_
    refine gz_i2b dX12_four_18 ?_
    refine m_bast 3 hS rfl (N := 400) rfl ((by exact vin_T (rfl : ((n 4)).toInt = ((n 4)).toInt) (by omega) (by omega))) dX12_four_19 (fun f_1 hS_1q => ?_)
    have hS_1 : mS cy m a f0 n z (va_up F 3 (upd (F 3) (Int32.toNatClampNeg (n 4)) (vp_nar .byte ((x >>> (24 &&& 31)).toInt8.toInt32)))) G f_1 := hS_1q
    refine gz_aload_n dX12_four_20 rfl rfl ?_
    refine gz_dup dX12_four_21 rfl ?_
    refine mg_262 hS_1 dX12_four_22 ?_
    refine gz_ev (w := .int (n 4)) rfl ?_
    refine gz_iconst (v := 1) dX12_four_25 (by decide) ?_
    refine gz_iadd dX12_four_26 ?_
    refine mp_262 hS_1 dX12_four_27 (fun f_2 hS_2 => ?_)
    refine gz_iinc (v := 16) (lv' := [(2, .int 16), (0, .ref m), (1, .int x)]) dX12_four_30 rfl (by decide) (by decide) rfl ?_
    refine gz_goto (tgt := 3) dX12_four_33 (by decide) ?_
    refine gz_iload_n dX12_four_3 rfl rfl ?_
    refine gz_if_lt (tgt := 36) dX12_four_4 (by decide) (fun c_4_1 => ?_) (fun c_4_1 => ?_)
    · exact absurd c_4_1 (by decide)
    ·
      try simp only [mIn_0, lgc_lt, lgc_gt, lgc_le, lgc_ge, lgc_eq] at c_4_1
      try simp only [fl_lt, fl_le, fl_eq, fL_w, fL_lt, fL_le, tm1, tm10k, tm9, tm99, Int32.reduceToInt, Int64.reduceToInt, Int.not_lt, Int.not_le] at c_4_1
      refine gz_aload_n dX12_four_7 rfl rfl ?_
      refine mg_13 hS_2 dX12_four_8 ?_
      refine gz_aload_n dX12_four_11 rfl rfl ?_
      refine mg_262 hS_2 dX12_four_12 ?_
      refine gz_ev (w := .int ((n 4) + 1)) rfl ?_
      refine gz_iload_n dX12_four_15 rfl rfl ?_
      refine gz_iload_n dX12_four_16 rfl rfl ?_
      refine gz_ishr dX12_four_17 ?_
      refine gz_i2b dX12_four_18 ?_
      refine m_bast 3 hS_2 rfl (N := 400) rfl ((by have q9 := (T_add (rfl : ((n 4)).toInt = ((n 4)).toInt) (show (1 : Int32).toInt = 1 from rfl) (by omega)); exact vin_T q9 (by omega) (by omega))) dX12_four_19 (fun f_3 hS_3q => ?_)
      have hS_3 : mS cy m a f0 (va_up n 4 ((n 4) + 1)) z (va_up (va_up F 3 (upd (F 3) (Int32.toNatClampNeg (n 4)) (vp_nar .byte ((x >>> (24 &&& 31)).toInt8.toInt32)))) 3 (upd (upd (F 3) (Int32.toNatClampNeg (n 4)) (vp_nar .byte ((x >>> (24 &&& 31)).toInt8.toInt32))) (Int32.toNatClampNeg ((n 4) + 1)) (vp_nar .byte ((x >>> (16 &&& 31)).toInt8.toInt32)))) G f_3 := hS_3q
      refine gz_aload_n dX12_four_20 rfl rfl ?_
      refine gz_dup dX12_four_21 rfl ?_
      refine mg_262 hS_3 dX12_four_22 ?_
      refine gz_ev (w := .int ((n 4) + 1)) rfl ?_
      refine gz_iconst (v := 1) dX12_four_25 (by decide) ?_
      refine gz_iadd dX12_four_26 ?_
      refine mp_262 hS_3 dX12_four_27 (fun f_4 hS_4 => ?_)
      refine gz_iinc (v := 8) (lv' := [(2, .int 8), (0, .ref m), (1, .int x)]) dX12_four_30 rfl (by decide) (by decide) rfl ?_
      refine gz_goto (tgt := 3) dX12_four_33 (by decide) ?_
      refine gz_iload_n dX12_four_3 rfl rfl ?_
      refine gz_if_lt (tgt := 36) dX12_four_4 (by decide) (fun c_4_2 => ?_) (fun c_4_2 => ?_)
      · exact absurd c_4_2 (by decide)
      ·
        try simp only [mIn_0, lgc_lt, lgc_gt, lgc_le, lgc_ge, lgc_eq] at c_4_2
        try simp only [fl_lt, fl_le, fl_eq, fL_w, fL_lt, fL_le, tm1, tm10k, tm9, tm99, Int32.reduceToInt, Int64.reduceToInt, Int.not_lt, Int.not_le] at c_4_2
        refine gz_aload_n dX12_four_7 rfl rfl ?_
        refine mg_13 hS_4 dX12_four_8 ?_
        refine gz_aload_n dX12_four_11 rfl rfl ?_
        refine mg_262 hS_4 dX12_four_12 ?_
        refine gz_ev (w := .int (((n 4) + 1) + 1)) rfl ?_
        refine gz_iload_n dX12_four_15 rfl rfl ?_
        refine gz_iload_n dX12_four_16 rfl rfl ?_
        refine gz_ishr dX12_four_17 ?_
        refine gz_i2b dX12_four_18 ?_
        refine m_bast 3 hS_4 rfl (N := 400) rfl ((by have q9 := (T_add (T_add (rfl : ((n 4)).toInt = ((n 4)).toInt) (show (1 : Int32).toInt = 1 from rfl) (by omega)) (show (1 : Int32).toInt = 1 from rfl) (by omega)); exact vin_T q9 (by omega) (by omega))) dX12_four_19 (fun f_5 hS_5q => ?_)
        have hS_5 : mS cy m a f0 (va_up (va_up n 4 ((n 4) + 1)) 4 (((n 4) + 1) + 1)) z (va_up (va_up (va_up F 3 (upd (F 3) (Int32.toNatClampNeg (n 4)) (vp_nar .byte ((x >>> (24 &&& 31)).toInt8.toInt32)))) 3 (upd (upd (F 3) (Int32.toNatClampNeg (n 4)) (vp_nar .byte ((x >>> (24 &&& 31)).toInt8.toInt32))) (Int32.toNatClampNeg ((n 4) + 1)) (vp_nar .byte ((x >>> (16 &&& 31)).toInt8.toInt32)))) 3 (upd (upd (upd (F 3) (Int32.toNatClampNeg (n 4)) (vp_nar .byte ((x >>> (24 &&& 31)).toInt8.toInt32))) (Int32.toNatClampNeg ((n 4) + 1)) (vp_nar .byte ((x >>> (16 &&& 31)).toInt8.toInt32))) (Int32.toNatClampNeg (((n 4) + 1) + 1)) (vp_nar .byte ((x >>> (8 &&& 31)).toInt8.toInt32)))) G f_5 := hS_5q
        refine gz_aload_n dX12_four_20 rfl rfl ?_
        refine gz_dup dX12_four_21 rfl ?_
        refine mg_262 hS_5 dX12_four_22 ?_
        refine gz_ev (w := .int (((n 4) + 1) + 1)) rfl ?_
        refine gz_iconst (v := 1) dX12_four_25 (by decide) ?_
        refine gz_iadd dX12_four_26 ?_
        refine mp_262 hS_5 dX12_four_27 (fun f_6 hS_6 => ?_)
        refine gz_iinc (v := 0) (lv' := [(2, .int 0), (0, .ref m), (1, .int x)]) dX12_four_30 rfl (by decide) (by decide) rfl ?_
        refine gz_goto (tgt := 3) dX12_four_33 (by decide) ?_
        refine gz_iload_n dX12_four_3 rfl rfl ?_
        refine gz_if_lt (tgt := 36) dX12_four_4 (by decide) (fun c_4_3 => ?_) (fun c_4_3 => ?_)
        · exact absurd c_4_3 (by decide)
        ·
          try simp only [mIn_0, lgc_lt, lgc_gt, lgc_le, lgc_ge, lgc_eq] at c_4_3
          try simp only [fl_lt, fl_le, fl_eq, fL_w, fL_lt, fL_le, tm1, tm10k, tm9, tm99, Int32.reduceToInt, Int64.reduceToInt, Int.not_lt, Int.not_le] at c_4_3
          refine gz_aload_n dX12_four_7 rfl rfl ?_
          refine mg_13 hS_6 dX12_four_8 ?_
          refine gz_aload_n dX12_four_11 rfl rfl ?_
          refine mg_262 hS_6 dX12_four_12 ?_
          refine gz_ev (w := .int ((((n 4) + 1) + 1) + 1)) rfl ?_
          refine gz_iload_n dX12_four_15 rfl rfl ?_
          refine gz_iload_n dX12_four_16 rfl rfl ?_
          refine gz_ishr dX12_four_17 ?_
          refine gz_i2b dX12_four_18 ?_
          refine m_bast 3 hS_6 rfl (N := 400) rfl ((by have q9 := (T_add (T_add (T_add (rfl : ((n 4)).toInt = ((n 4)).toInt) (show (1 : Int32).toInt = 1 from rfl) (by omega)) (show (1 : Int32).toInt = 1 from rfl) (by omega)) (show (1 : Int32).toInt = 1 from rfl) (by omega)); exact vin_T q9 (by omega) (by omega))) dX12_four_19 (fun f_7 hS_7q => ?_)
          have hS_7 : mS cy m a f0 (va_up (va_up (va_up n 4 ((n 4) + 1)) 4 (((n 4) + 1) + 1)) 4 ((((n 4) + 1) + 1) + 1)) z (va_up (va_up (va_up (va_up F 3 (upd (F 3) (Int32.toNatClampNeg (n 4)) (vp_nar .byte ((x >>> (24 &&& 31)).toInt8.toInt32)))) 3 (upd (upd (F 3) (Int32.toNatClampNeg (n 4)) (vp_nar .byte ((x >>> (24 &&& 31)).toInt8.toInt32))) (Int32.toNatClampNeg ((n 4) + 1)) (vp_nar .byte ((x >>> (16 &&& 31)).toInt8.toInt32)))) 3 (upd (upd (upd (F 3) (Int32.toNatClampNeg (n 4)) (vp_nar .byte ((x >>> (24 &&& 31)).toInt8.toInt32))) (Int32.toNatClampNeg ((n 4) + 1)) (vp_nar .byte ((x >>> (16 &&& 31)).toInt8.toInt32))) (Int32.toNatClampNeg (((n 4) + 1) + 1)) (vp_nar .byte ((x >>> (8 &&& 31)).toInt8.toInt32)))) 3 (upd (upd (upd (upd (F 3) (Int32.toNatClampNeg (n 4)) (vp_nar .byte ((x >>> (24 &&& 31)).toInt8.toInt32))) (Int32.toNatClampNeg ((n 4) + 1)) (vp_nar .byte ((x >>> (16 &&& 31)).toInt8.toInt32))) (Int32.toNatClampNeg (((n 4) + 1) + 1)) (vp_nar .byte ((x >>> (8 &&& 31)).toInt8.toInt32))) (Int32.toNatClampNeg ((((n 4) + 1) + 1) + 1)) (vp_nar .byte ((x >>> (0 &&& 31)).toInt8.toInt32)))) G f_7 := hS_7q
          refine gz_aload_n dX12_four_20 rfl rfl ?_
          refine gz_dup dX12_four_21 rfl ?_
          refine mg_262 hS_7 dX12_four_22 ?_
          refine gz_ev (w := .int ((((n 4) + 1) + 1) + 1)) rfl ?_
          refine gz_iconst (v := 1) dX12_four_25 (by decide) ?_
          refine gz_iadd dX12_four_26 ?_
          refine mp_262 hS_7 dX12_four_27 (fun f_8 hS_8 => ?_)
          refine gz_iinc (v := (-8)) (lv' := [(2, .int (-8)), (0, .ref m), (1, .int x)]) dX12_four_30 rfl (by decide) (by decide) rfl ?_
          refine gz_goto (tgt := 3) dX12_four_33 (by decide) ?_
          refine gz_iload_n dX12_four_3 rfl rfl ?_
          refine gz_if_lt (tgt := 36) dX12_four_4 (by decide) (fun c_4_4 => ?_) (fun c_4_4 => ?_)
          ·
            try simp only [mIn_0, lgc_lt, lgc_gt, lgc_le, lgc_ge, lgc_eq] at c_4_4
            try simp only [fl_lt, fl_le, fl_eq, fL_w, fL_lt, fL_le, tm1, tm10k, tm9, tm99, Int32.reduceToInt, Int64.reduceToInt, Int.not_lt, Int.not_le] at c_4_4
            have k_0 : (Int32.toNatClampNeg (n 4)) = (n 4).toInt.toNat + 0 := by rw [clN]; have q := (rfl : ((n 4)).toInt = ((n 4)).toInt); omega
            have k_1 : (Int32.toNatClampNeg ((n 4) + 1)) = (n 4).toInt.toNat + 1 := by rw [clN]; have q := (T_add (rfl : ((n 4)).toInt = ((n 4)).toInt) (show (1 : Int32).toInt = 1 from rfl) (by omega)); omega
            have k_2 : (Int32.toNatClampNeg (((n 4) + 1) + 1)) = (n 4).toInt.toNat + 2 := by rw [clN]; have q := (T_add (T_add (rfl : ((n 4)).toInt = ((n 4)).toInt) (show (1 : Int32).toInt = 1 from rfl) (by omega)) (show (1 : Int32).toInt = 1 from rfl) (by omega)); omega
            have k_3 : (Int32.toNatClampNeg ((((n 4) + 1) + 1) + 1)) = (n 4).toInt.toNat + 3 := by rw [clN]; have q := (T_add (T_add (T_add (rfl : ((n 4)).toInt = ((n 4)).toInt) (show (1 : Int32).toInt = 1 from rfl) (by omega)) (show (1 : Int32).toInt = 1 from rfl) (by omega)) (show (1 : Int32).toInt = 1 from rfl) (by omega)); omega
            have e3_ : (va_up (va_up (va_up (va_up F 3 (upd (F 3) (Int32.toNatClampNeg (n 4)) (vp_nar .byte ((x >>> (24 &&& 31)).toInt8.toInt32)))) 3 (upd (upd (F 3) (Int32.toNatClampNeg (n 4)) (vp_nar .byte ((x >>> (24 &&& 31)).toInt8.toInt32))) (Int32.toNatClampNeg ((n 4) + 1)) (vp_nar .byte ((x >>> (16 &&& 31)).toInt8.toInt32)))) 3 (upd (upd (upd (F 3) (Int32.toNatClampNeg (n 4)) (vp_nar .byte ((x >>> (24 &&& 31)).toInt8.toInt32))) (Int32.toNatClampNeg ((n 4) + 1)) (vp_nar .byte ((x >>> (16 &&& 31)).toInt8.toInt32))) (Int32.toNatClampNeg (((n 4) + 1) + 1)) (vp_nar .byte ((x >>> (8 &&& 31)).toInt8.toInt32)))) 3 (upd (upd (upd (upd (F 3) (Int32.toNatClampNeg (n 4)) (vp_nar .byte ((x >>> (24 &&& 31)).toInt8.toInt32))) (Int32.toNatClampNeg ((n 4) + 1)) (vp_nar .byte ((x >>> (16 &&& 31)).toInt8.toInt32))) (Int32.toNatClampNeg (((n 4) + 1) + 1)) (vp_nar .byte ((x >>> (8 &&& 31)).toInt8.toInt32))) (Int32.toNatClampNeg ((((n 4) + 1) + 1) + 1)) (vp_nar .byte ((x >>> (0 &&& 31)).toInt8.toInt32)))) 3 = p4 (F 3) (n 4).toInt.toNat x := by rw [show (va_up (va_up (va_up (va_up F 3 (upd (F 3) (Int32.toNatClampNeg (n 4)) (vp_nar .byte ((x >>> (24 &&& 31)).toInt8.toInt32)))) 3 (upd (upd (F 3) (Int32.toNatClampNeg (n 4)) (vp_nar .byte ((x >>> (24 &&& 31)).toInt8.toInt32))) (Int32.toNatClampNeg ((n 4) + 1)) (vp_nar .byte ((x >>> (16 &&& 31)).toInt8.toInt32)))) 3 (upd (upd (upd (F 3) (Int32.toNatClampNeg (n 4)) (vp_nar .byte ((x >>> (24 &&& 31)).toInt8.toInt32))) (Int32.toNatClampNeg ((n 4) + 1)) (vp_nar .byte ((x >>> (16 &&& 31)).toInt8.toInt32))) (Int32.toNatClampNeg (((n 4) + 1) + 1)) (vp_nar .byte ((x >>> (8 &&& 31)).toInt8.toInt32)))) 3 (upd (upd (upd (upd (F 3) (Int32.toNatClampNeg (n 4)) (vp_nar .byte ((x >>> (24 &&& 31)).toInt8.toInt32))) (Int32.toNatClampNeg ((n 4) + 1)) (vp_nar .byte ((x >>> (16 &&& 31)).toInt8.toInt32))) (Int32.toNatClampNeg (((n 4) + 1) + 1)) (vp_nar .byte ((x >>> (8 &&& 31)).toInt8.toInt32))) (Int32.toNatClampNeg ((((n 4) + 1) + 1) + 1)) (vp_nar .byte ((x >>> (0 &&& 31)).toInt8.toInt32)))) 3 = (upd (upd (upd (upd (F 3) (Int32.toNatClampNeg (n 4)) (vp_nar .byte ((x >>> (24 &&& 31)).toInt8.toInt32))) (Int32.toNatClampNeg ((n 4) + 1)) (vp_nar .byte ((x >>> (16 &&& 31)).toInt8.toInt32))) (Int32.toNatClampNeg (((n 4) + 1) + 1)) (vp_nar .byte ((x >>> (8 &&& 31)).toInt8.toInt32))) (Int32.toNatClampNeg ((((n 4) + 1) + 1) + 1)) (vp_nar .byte ((x >>> (0 &&& 31)).toInt8.toInt32))) from rfl, k_0, k_1, k_2, k_3]; rfl
            exact gz_vret rfl dX12_four_36 (Nat.le_of_ble_eq_true rfl) (Nat.le_of_ble_eq_true rfl) (⟨rfl, _, _, _, _, hS_8, (fx_n (fx_F (fx_n (fx_F (fx_n (fx_F (fx_n (fx_F fx_rf (by decide)) (by decide)) (by decide)) (by decide)) (by decide)) (by decide)) (by decide)) (by decide)), (by (try rw [(show (va_up (va_up (va_up (va_up n 4 ((n 4) + 1)) 4 (((n 4) + 1) + 1)) 4 ((((n 4) + 1) + 1) + 1)) 4 (((((n 4) + 1) + 1) + 1) + 1)) 4 = (((((n 4) + 1) + 1) + 1) + 1) from rfl)]); have q1_ := (T_add (T_add (T_add (T_add (rfl : ((n 4)).toInt = ((n 4)).toInt) (show (1 : Int32).toInt = 1 from rfl) (by omega)) (show (1 : Int32).toInt = 1 from rfl) (by omega)) (show (1 : Int32).toInt = 1 from rfl) (by omega)) (show (1 : Int32).toInt = 1 from rfl) (by omega)); omega), e3_⟩)
          · exact absurd c_4_4 (by decide)

set_option maxHeartbeats 4000000 in
set_option maxRecDepth 100000 in
theorem k_X12_feedE {l : Launch} {D : va_G} {cy : Nat → ClassId} {b : Nat} {f : gMem} {m : Nat} {a : Nat → Nat} {f0 : gMem} {n : Nat → Int32} {z : Nat → Int64} {F : Nat → Nat → Int32} {G : Nat → Nat → Int64}  {x1 x2 x3 x4 x5 : Int32} (hS : mS cy m a f0 n z F G f) (ht : 0 ≤ (n 4).toInt ∧ (n 4).toInt ≤ 400) : gC l D cy b yX12_feed cX12_feed 6 (some .int) 1 0 0 [.ref m, .int x1, .int x2, .int x3, .int x4, .int x5] f (pI fun r f2 => ∃ (n2 : Nat → Int32) (z2 : Nat → Int64) (F2 : Nat → Nat → Int32) (G2 : Nat → Nat → Int64), mS cy m a f0 n2 z2 F2 G2 f2 ∧ fx [4] [] [3] [] n z F G n2 z2 F2 G2 ∧ (0 ≤ (n2 4).toInt ∧ (n2 4).toInt ≤ 400) ∧ (((n 4).toInt ≤ 380 ∧ r.toInt = (n 4).toInt + 20 ∧ (n2 4).toInt = (n 4).toInt + 20 ∧ F2 3 = p20 (F 3) (n 4).toInt.toNat x1 x2 x3 x4 x5) ∨ (380 < (n 4).toInt ∧ r = -1 ∧ n2 4 = n 4 ∧ F2 3 = F 3))) := by
  refine gC_of (by decide) (Nat.le_of_ble_eq_true rfl) ?_
  show gG l _ _ _ D cy b cX12_feed 6 _ RX12 "feed" 0 0 f 0 [(0, .ref m), (1, .int x1), (2, .int x2), (3, .int x3), (4, .int x4), (5, .int x5)] []
  refine gz_aload_n dX12_feed_0 rfl rfl ?_
  refine mg_262 hS dX12_feed_1 ?_
  refine gz_bipush (v := 20) dX12_feed_4 (by decide) ?_
  refine gz_iadd dX12_feed_6 ?_
  refine gz_sipush (v := 400) dX12_feed_7 (by decide) ?_
  refine gz_icmp_le (tgt := 15) dX12_feed_10 (by decide) (fun c_10 => ?_) (fun c_10 => ?_)
  ·
    try simp only [mIn_0, lgc_lt, lgc_gt, lgc_le, lgc_ge, lgc_eq] at c_10
    try simp only [fl_lt, fl_le, fl_eq, fL_w, fL_lt, fL_le, tm1, tm10k, tm9, tm99, Int32.reduceToInt, Int64.reduceToInt, Int.not_lt, Int.not_le] at c_10
    try have u_10t1 := (T_add (rfl : ((n 4)).toInt = ((n 4)).toInt) (show (20 : Int32).toInt = 20 from rfl) (by omega))
    refine gz_aload_n dX12_feed_15 rfl rfl ?_
    refine gz_iload_n dX12_feed_16 rfl rfl ?_
    refine scX12_265 (k_X12_fourE (x := x1) hS (by omega)) hS.1 ⟨(Nat.le_of_ble_eq_true rfl), (Nat.le_of_ble_eq_true rfl)⟩ ⟨(Nat.le_of_ble_eq_true rfl), (Nat.le_of_ble_eq_true rfl)⟩ rfl rfl (Nat.le_of_ble_eq_true rfl) dX12_feed_17 ?_
    rintro f_1 ⟨n_1, z_1, F_1, G_1, hS_1, hx1, h4_1, h3_1⟩
    refine gz_aload_n dX12_feed_20 rfl rfl ?_
    refine gz_iload_n dX12_feed_21 rfl rfl ?_
    refine scX12_265 (k_X12_fourE (x := x2) hS_1 (by (try rw [(show n_1 4 = (n_1 4) from rfl)]); omega)) hS_1.1 ⟨(Nat.le_of_ble_eq_true rfl), (Nat.le_of_ble_eq_true rfl)⟩ ⟨(Nat.le_of_ble_eq_true rfl), (Nat.le_of_ble_eq_true rfl)⟩ rfl rfl (Nat.le_of_ble_eq_true rfl) dX12_feed_22 ?_
    rintro f_2 ⟨n_2, z_2, F_2, G_2, hS_2, hx2, h4_2, h3_2⟩
    refine gz_aload_n dX12_feed_25 rfl rfl ?_
    refine gz_iload_n dX12_feed_26 rfl rfl ?_
    refine scX12_265 (k_X12_fourE (x := x3) hS_2 (by (try rw [(show n_2 4 = (n_2 4) from rfl)]); omega)) hS_2.1 ⟨(Nat.le_of_ble_eq_true rfl), (Nat.le_of_ble_eq_true rfl)⟩ ⟨(Nat.le_of_ble_eq_true rfl), (Nat.le_of_ble_eq_true rfl)⟩ rfl rfl (Nat.le_of_ble_eq_true rfl) dX12_feed_27 ?_
    rintro f_3 ⟨n_3, z_3, F_3, G_3, hS_3, hx3, h4_3, h3_3⟩
    refine gz_aload_n dX12_feed_30 rfl rfl ?_
    refine gz_iload dX12_feed_31 rfl ?_
    refine scX12_265 (k_X12_fourE (x := x4) hS_3 (by (try rw [(show n_3 4 = (n_3 4) from rfl)]); omega)) hS_3.1 ⟨(Nat.le_of_ble_eq_true rfl), (Nat.le_of_ble_eq_true rfl)⟩ ⟨(Nat.le_of_ble_eq_true rfl), (Nat.le_of_ble_eq_true rfl)⟩ rfl rfl (Nat.le_of_ble_eq_true rfl) dX12_feed_33 ?_
    rintro f_4 ⟨n_4, z_4, F_4, G_4, hS_4, hx4, h4_4, h3_4⟩
    refine gz_aload_n dX12_feed_36 rfl rfl ?_
    refine gz_iload dX12_feed_37 rfl ?_
    refine scX12_265 (k_X12_fourE (x := x5) hS_4 (by (try rw [(show n_4 4 = (n_4 4) from rfl)]); omega)) hS_4.1 ⟨(Nat.le_of_ble_eq_true rfl), (Nat.le_of_ble_eq_true rfl)⟩ ⟨(Nat.le_of_ble_eq_true rfl), (Nat.le_of_ble_eq_true rfl)⟩ rfl rfl (Nat.le_of_ble_eq_true rfl) dX12_feed_39 ?_
    rintro f_5 ⟨n_5, z_5, F_5, G_5, hS_5, hx5, h4_5, h3_5⟩
    refine gz_aload_n dX12_feed_42 rfl rfl ?_
    refine mg_262 hS_5 dX12_feed_43 ?_
    refine gz_ev (w := .int (n_5 4)) rfl ?_
    exact gz_iret rfl dX12_feed_46 (Nat.le_of_ble_eq_true rfl) (Nat.le_of_ble_eq_true rfl) (⟨_, rfl, _, _, _, _, hS_5, (fx_tr (fx_tr (fx_tr (fx_tr (fx_tr fx_rf hx1 (by decide)) hx2 (by decide)) hx3 (by decide)) hx4 (by decide)) hx5 (by decide)), (by (try rw [(show n_5 4 = (n_5 4) from rfl)]); omega), (Or.inl ⟨by have q := T_add (rfl : (n 4).toInt = (n 4).toInt) (show (20 : Int32).toInt = 20 from rfl) (by omega); omega, by omega, by omega, by rw [h3_5, show (n_4 4).toInt.toNat = (n 4).toInt.toNat + 16 by omega, h3_4, show (n_3 4).toInt.toNat = (n 4).toInt.toNat + 12 by omega, h3_3, show (n_2 4).toInt.toNat = (n 4).toInt.toNat + 8 by omega, h3_2, show (n_1 4).toInt.toNat = (n 4).toInt.toNat + 4 by omega, h3_1]; rfl⟩)⟩)
  ·
    try simp only [mIn_0, lgc_lt, lgc_gt, lgc_le, lgc_ge, lgc_eq] at c_10
    try simp only [fl_lt, fl_le, fl_eq, fL_w, fL_lt, fL_le, tm1, tm10k, tm9, tm99, Int32.reduceToInt, Int64.reduceToInt, Int.not_lt, Int.not_le] at c_10
    try have u_10t1 := (T_add (rfl : ((n 4)).toInt = ((n 4)).toInt) (show (20 : Int32).toInt = 20 from rfl) (by omega))
    refine gz_iconst (v := (-1)) dX12_feed_13 (by decide) ?_
    exact gz_iret rfl dX12_feed_14 (Nat.le_of_ble_eq_true rfl) (Nat.le_of_ble_eq_true rfl) (⟨_, rfl, _, _, _, _, hS, fx_rf, (by omega), (Or.inr ⟨by have q := T_add (rfl : (n 4).toInt = (n 4).toInt) (show (20 : Int32).toInt = 20 from rfl) (by omega); omega, rfl, rfl, rfl⟩)⟩)

set_option maxHeartbeats 4000000 in
set_option maxRecDepth 100000 in
theorem k_X12_endE {l : Launch} {D : va_G} {cy : Nat → ClassId} {b : Nat} {f : gMem} {m : Nat} {a : Nat → Nat} {f0 : gMem} {n : Nat → Int32} {z : Nat → Int64} {F : Nat → Nat → Int32} {G : Nat → Nat → Int64}  {x : Int32} (hS : mS cy m a f0 n z F G f) (ht : 0 ≤ (n 4).toInt ∧ (n 4).toInt ≤ 400) : gC l D cy b yX12_end cX12_end 2 (some .int) 0 0 0 [.ref m, .int x] f (pI fun r f2 => ∃ (n2 : Nat → Int32) (z2 : Nat → Int64) (F2 : Nat → Nat → Int32) (G2 : Nat → Nat → Int64), mS cy m a f0 n2 z2 F2 G2 f2 ∧ fx [4] [] [] [] n z F G n2 z2 F2 G2 ∧ (0 ≤ (n2 4).toInt ∧ (n2 4).toInt ≤ 400) ∧ r = (if 0 ≤ x.toInt ∧ x.toInt ≤ (n 4).toInt then x else -1) ∧ n2 4 = (if 0 ≤ x.toInt ∧ x.toInt ≤ (n 4).toInt then x else n 4)) := by
  refine gC_of (by decide) (Nat.le_of_ble_eq_true rfl) ?_
  show gG l _ _ _ D cy b cX12_end 2 _ RX12 "end" 0 0 f 0 [(0, .ref m), (1, .int x)] []
  refine gz_iload_n dX12_end_0 rfl rfl ?_
  refine gz_if_lt (tgt := 12) dX12_end_1 (by decide) (fun c_1 => ?_) (fun c_1 => ?_)
  ·
    try simp only [mIn_0, lgc_lt, lgc_gt, lgc_le, lgc_ge, lgc_eq] at c_1
    try simp only [fl_lt, fl_le, fl_eq, fL_w, fL_lt, fL_le, tm1, tm10k, tm9, tm99, Int32.reduceToInt, Int64.reduceToInt, Int.not_lt, Int.not_le] at c_1
    refine gz_iconst (v := (-1)) dX12_end_12 (by decide) ?_
    exact gz_iret rfl dX12_end_13 (Nat.le_of_ble_eq_true rfl) (Nat.le_of_ble_eq_true rfl) (⟨_, rfl, _, _, _, _, hS, fx_rf, (by omega), (by rw [if_neg (by omega)]), (by rw [if_neg (by omega)])⟩)
  ·
    try simp only [mIn_0, lgc_lt, lgc_gt, lgc_le, lgc_ge, lgc_eq] at c_1
    try simp only [fl_lt, fl_le, fl_eq, fL_w, fL_lt, fL_le, tm1, tm10k, tm9, tm99, Int32.reduceToInt, Int64.reduceToInt, Int.not_lt, Int.not_le] at c_1
    refine gz_iload_n dX12_end_4 rfl rfl ?_
    refine gz_aload_n dX12_end_5 rfl rfl ?_
    refine mg_262 hS dX12_end_6 ?_
    refine gz_icmp_le (tgt := 14) dX12_end_9 (by decide) (fun c_9 => ?_) (fun c_9 => ?_)
    ·
      try simp only [mIn_0, lgc_lt, lgc_gt, lgc_le, lgc_ge, lgc_eq] at c_9
      try simp only [fl_lt, fl_le, fl_eq, fL_w, fL_lt, fL_le, tm1, tm10k, tm9, tm99, Int32.reduceToInt, Int64.reduceToInt, Int.not_lt, Int.not_le] at c_9
      refine gz_aload_n dX12_end_14 rfl rfl ?_
      refine gz_iload_n dX12_end_15 rfl rfl ?_
      refine mp_262 hS dX12_end_16 (fun f_1 hS_1 => ?_)
      refine gz_iload_n dX12_end_19 rfl rfl ?_
      exact gz_iret rfl dX12_end_20 (Nat.le_of_ble_eq_true rfl) (Nat.le_of_ble_eq_true rfl) (⟨_, rfl, _, _, _, _, hS_1, (fx_n fx_rf (by decide)), (by (try rw [(show (va_up n 4 x) 4 = x from rfl)]); omega), (by rw [if_pos (by omega)]), (by rw [if_pos (by omega)]; rfl)⟩)
    ·
      try simp only [mIn_0, lgc_lt, lgc_gt, lgc_le, lgc_ge, lgc_eq] at c_9
      try simp only [fl_lt, fl_le, fl_eq, fL_w, fL_lt, fL_le, tm1, tm10k, tm9, tm99, Int32.reduceToInt, Int64.reduceToInt, Int.not_lt, Int.not_le] at c_9
      refine gz_iconst (v := (-1)) dX12_end_12 (by decide) ?_
      exact gz_iret rfl dX12_end_13 (Nat.le_of_ble_eq_true rfl) (Nat.le_of_ble_eq_true rfl) (⟨_, rfl, _, _, _, _, hS, fx_rf, (by omega), (by rw [if_neg (by omega)]), (by rw [if_neg (by omega)])⟩)

set_option maxHeartbeats 4000000 in
set_option maxRecDepth 100000 in
theorem k_X12_isFormE {l : Launch} {D : va_G} {cy : Nat → ClassId} {b : Nat} {f : gMem} {m : Nat} {a : Nat → Nat} {f0 : gMem} {n : Nat → Int32} {z : Nat → Int64} {F : Nat → Nat → Int32} {G : Nat → Nat → Int64}  {x1 : Int32} (hS : mS cy m a f0 n z F G f)  : gC l D cy b yX12_isForm cX12_isForm 2 (some .boolean) 0 0 0 [.ref m, .int x1] f (pI fun r f2 => ((r = 0 ∧ ¬ (0 ≤ x1.toInt ∧ x1.toInt < (n 5).toInt)) ∨ (r = 1 ∧ (0 ≤ x1.toInt ∧ x1.toInt < (n 5).toInt))) ∧ f2 = f) := by
  refine gC_of (by decide) (Nat.le_of_ble_eq_true rfl) ?_
  show gG l _ _ _ D cy b cX12_isForm 2 _ RX12 "isForm" 0 0 f 0 [(0, .ref m), (1, .int x1)] []
  refine gz_iload_n dX12_isForm_0 rfl rfl ?_
  refine gz_if_lt (tgt := 16) dX12_isForm_1 (by decide) (fun c_1 => ?_) (fun c_1 => ?_)
  ·
    try simp only [mIn_0, lgc_lt, lgc_gt, lgc_le, lgc_ge, lgc_eq] at c_1
    try simp only [fl_lt, fl_le, fl_eq, fL_w, fL_lt, fL_le, tm1, tm10k, tm9, tm99, Int32.reduceToInt, Int64.reduceToInt, Int.not_lt, Int.not_le] at c_1
    refine gz_iconst (v := 0) dX12_isForm_16 (by decide) ?_
    exact gz_zret rfl (by first | decide | exact nrb (by assumption) | exact nrb (Or.inl rfl) | exact nrb (Or.inr rfl)) dX12_isForm_17 (Nat.le_of_ble_eq_true rfl) (Nat.le_of_ble_eq_true rfl) (⟨_, rfl, Or.inl ⟨rfl, by omega⟩, rfl⟩)
  ·
    try simp only [mIn_0, lgc_lt, lgc_gt, lgc_le, lgc_ge, lgc_eq] at c_1
    try simp only [fl_lt, fl_le, fl_eq, fL_w, fL_lt, fL_le, tm1, tm10k, tm9, tm99, Int32.reduceToInt, Int64.reduceToInt, Int.not_lt, Int.not_le] at c_1
    refine gz_iload_n dX12_isForm_4 rfl rfl ?_
    refine gz_aload_n dX12_isForm_5 rfl rfl ?_
    refine mg_307 hS dX12_isForm_6 ?_
    refine gz_icmp_ge (tgt := 16) dX12_isForm_9 (by decide) (fun c_9 => ?_) (fun c_9 => ?_)
    ·
      try simp only [mIn_0, lgc_lt, lgc_gt, lgc_le, lgc_ge, lgc_eq] at c_9
      try simp only [fl_lt, fl_le, fl_eq, fL_w, fL_lt, fL_le, tm1, tm10k, tm9, tm99, Int32.reduceToInt, Int64.reduceToInt, Int.not_lt, Int.not_le] at c_9
      refine gz_iconst (v := 0) dX12_isForm_16 (by decide) ?_
      exact gz_zret rfl (by first | decide | exact nrb (by assumption) | exact nrb (Or.inl rfl) | exact nrb (Or.inr rfl)) dX12_isForm_17 (Nat.le_of_ble_eq_true rfl) (Nat.le_of_ble_eq_true rfl) (⟨_, rfl, Or.inl ⟨rfl, by omega⟩, rfl⟩)
    ·
      try simp only [mIn_0, lgc_lt, lgc_gt, lgc_le, lgc_ge, lgc_eq] at c_9
      try simp only [fl_lt, fl_le, fl_eq, fL_w, fL_lt, fL_le, tm1, tm10k, tm9, tm99, Int32.reduceToInt, Int64.reduceToInt, Int.not_lt, Int.not_le] at c_9
      refine gz_iconst (v := 1) dX12_isForm_12 (by decide) ?_
      refine gz_goto (tgt := 17) dX12_isForm_13 (by decide) ?_
      exact gz_zret rfl (by first | decide | exact nrb (by assumption) | exact nrb (Or.inl rfl) | exact nrb (Or.inr rfl)) dX12_isForm_17 (Nat.le_of_ble_eq_true rfl) (Nat.le_of_ble_eq_true rfl) (⟨_, rfl, Or.inr ⟨rfl, by omega⟩, rfl⟩)

set_option maxHeartbeats 4000000 in
set_option maxRecDepth 100000 in
theorem k_X12_shorterE {l : Launch} {D : va_G} {cy : Nat → ClassId} {b : Nat} {f : gMem} {m : Nat} {a : Nat → Nat} {f0 : gMem} {n : Nat → Int32} {z : Nat → Int64} {F : Nat → Nat → Int32} {G : Nat → Nat → Int64}  {x1 : Int32} (hS : mS cy m a f0 n z F G f) (hR : RI n F) (hN : NR F) : gC l D cy b yX12_shorter cX12_shorter 2 (some .int) 4 0 0 [.ref m, .int x1] f (pI fun r f2 => ∃ (n2 : Nat → Int32) (z2 : Nat → Int64) (F2 : Nat → Nat → Int32) (G2 : Nat → Nat → Int64), mS cy m a f0 n2 z2 F2 G2 f2 ∧ fx [5, 83] [] [6, 7, 8, 9, 10, 11, 12, 13, 14, 15, 16, 17, 18, 19, 20, 76, 77, 78, 79, 80, 81, 82, 84, 85, 86] [] n z F G n2 z2 F2 G2 ∧ RI n2 F2 ∧ NR F2 ∧ r = (if ((0 ≤ x1.toInt ∧ x1.toInt < (n 5).toInt) ∧ (n 5).toInt < 20) then n 5 else -1) ∧ (n2 5).toInt = (if ((0 ≤ x1.toInt ∧ x1.toInt < (n 5).toInt) ∧ (n 5).toInt < 20) then (n 5).toInt + 1 else (n 5).toInt)) := by
  obtain ⟨a0, a4, a5, bA, bW, a30, bL, a38, bP, a53, a47, a88⟩ := id hR
  refine gC_of (by decide) (Nat.le_of_ble_eq_true rfl) ?_
  show gG l _ _ _ D cy b cX12_shorter 2 _ RX12 "shorter" 0 0 f 0 [(0, .ref m), (1, .int x1)] []
  refine gz_aload_n dX12_shorter_0 rfl rfl ?_
  refine gz_iload_n dX12_shorter_1 rfl rfl ?_
  refine scX12_337 (k_X12_isFormE (x1 := x1) hS ) hS.1 ⟨(Nat.le_of_ble_eq_true rfl), (Nat.le_of_ble_eq_true rfl)⟩ ⟨(Nat.le_of_ble_eq_true rfl), (Nat.le_of_ble_eq_true rfl)⟩ rfl rfl (Nat.le_of_ble_eq_true rfl) dX12_shorter_2 ?_
  rintro r_1 f9 ⟨hb_1, y9⟩; rw [y9]
  try rw [(show n 5 = (n 5) from rfl)] at hb_1
  have hbb_1 : r_1 = 0 ∨ r_1 = 1 := hb_1.imp And.left And.left
  simp only [fl_eq, Int32.reduceToInt] at hb_1
  refine gz_if_eq (tgt := 17) dX12_shorter_5 (by decide) (fun c_5 => ?_) (fun c_5 => ?_)
  ·
    try simp only [mIn_0, lgc_lt, lgc_gt, lgc_le, lgc_ge, lgc_eq] at c_5
    try simp only [fl_lt, fl_le, fl_eq, fL_w, fL_lt, fL_le, tm1, tm10k, tm9, tm99, Int32.reduceToInt, Int64.reduceToInt, Int.not_lt, Int.not_le] at c_5
    refine gz_iconst (v := (-1)) dX12_shorter_17 (by decide) ?_
    exact gz_iret rfl dX12_shorter_18 (Nat.le_of_ble_eq_true rfl) (Nat.le_of_ble_eq_true rfl) (⟨_, rfl, _, _, _, _, hS, fx_rf, hR, hN, (by rw [if_neg (by omega)]), (by rw [if_neg (by omega)])⟩)
  ·
    try simp only [mIn_0, lgc_lt, lgc_gt, lgc_le, lgc_ge, lgc_eq] at c_5
    try simp only [fl_lt, fl_le, fl_eq, fL_w, fL_lt, fL_le, tm1, tm10k, tm9, tm99, Int32.reduceToInt, Int64.reduceToInt, Int.not_lt, Int.not_le] at c_5
    refine gz_aload_n dX12_shorter_8 rfl rfl ?_
    refine mg_307 hS dX12_shorter_9 ?_
    refine gz_bipush (v := 20) dX12_shorter_12 (by decide) ?_
    refine gz_icmp_ne (tgt := 19) dX12_shorter_14 (by decide) (fun c_14 => ?_) (fun c_14 => ?_)
    ·
      try simp only [mIn_0, lgc_lt, lgc_gt, lgc_le, lgc_ge, lgc_eq] at c_14
      try simp only [fl_lt, fl_le, fl_eq, fL_w, fL_lt, fL_le, tm1, tm10k, tm9, tm99, Int32.reduceToInt, Int64.reduceToInt, Int.not_lt, Int.not_le] at c_14
      refine gz_aload_n dX12_shorter_19 rfl rfl ?_
      refine gz_iload_n dX12_shorter_20 rfl rfl ?_
      refine gz_iconst (v := 0) dX12_shorter_21 (by decide) ?_
      refine scX12_535 (k_X12_shortens (x1 := x1) (x2 := 0) hS hR hN (by omega) (by decide)) hS.1 ⟨(Nat.le_of_ble_eq_true rfl), (Nat.le_of_ble_eq_true rfl)⟩ ⟨(Nat.le_of_ble_eq_true rfl), (Nat.le_of_ble_eq_true rfl)⟩ rfl rfl (Nat.le_of_ble_eq_true rfl) dX12_shorter_22 ?_
      rintro f_2 ⟨n_2, z_2, F_2, G_2, hS_2, hx2, hN_2, hP_2⟩
      have hR1 := RI_fx hR hx2 (by decide) (by decide)
      obtain ⟨fo, hfo⟩ : ∃ fo : Nat, x1.toInt = fo := ⟨x1.toInt.toNat, by omega⟩
      have efo : Int32.toNatClampNeg x1 = fo := by rw [clN]; omega
      obtain ⟨ff, hf⟩ : ∃ ff : Nat, (n 5).toInt = ff := ⟨(n 5).toInt.toNat, by omega⟩
      rw [efo] at hP_2
      have e60 : F_2 6 = F 6 := hx2.2.2.1 6 (by decide)
      have q40 := (bW fo (by omega)).1
      obtain ⟨Wn, hWn⟩ : ∃ Wn : Nat, (F 6 fo).toInt = Wn := ⟨(F 6 fo).toInt.toNat, by omega⟩
      have eWn : (F 6 fo).toInt.toNat = Wn := by omega
      rw [eWn] at hP_2
      have hP1 : SHp F_2 fo Wn 0 (-1) := hP_2
      have hrN : rN F_2 fo Wn 0 0 (F_2 82 0).toInt := (hP1.2 0 (by omega) (by omega)).2
      refine gz_aload_n dX12_shorter_25 rfl rfl ?_
      refine gz_aload_n dX12_shorter_26 rfl rfl ?_
      refine mg_228 hS_2 dX12_shorter_27 ?_
      refine gz_iconst (v := 0) dX12_shorter_30 (by decide) ?_
      refine m_iald 82 hS_2 rfl (N := 82) rfl (vin_T (v := 0) rfl (by decide) (by decide)) dX12_shorter_31 ?_
      refine gz_ev (w := .int ((F_2 82) (Int32.toNatClampNeg 0))) rfl ?_
      refine gz_aload_n dX12_shorter_32 rfl rfl ?_
      refine mg_307 hS_2 dX12_shorter_33 ?_
      refine gz_ev (w := .int (n 5)) (congrArg Value.int (hx2.1 5 (by decide))) ?_
      refine scX12_538 (k_X12_laysOut (x1 := ((F_2 82) (Int32.toNatClampNeg 0))) (x2 := (n 5)) (ff := ff) (fo := fo) (Wn := Wn) hS_2 ⟨hf, by omega, by omega, by omega⟩ hR1 (by rw [(show n_2 5 = (n 5) from (hx2.1 5 (by decide)))]; exact hf) (by rw [e60]; exact hWn) hP1 hrN) hS_2.1 ⟨(Nat.le_of_ble_eq_true rfl), (Nat.le_of_ble_eq_true rfl)⟩ ⟨(Nat.le_of_ble_eq_true rfl), (Nat.le_of_ble_eq_true rfl)⟩ rfl rfl (Nat.le_of_ble_eq_true rfl) dX12_shorter_36 ?_
      rintro f_3 ⟨n_3, z_3, F_3, G_3, hS_3, hx3, hA_3, hfin_3, hg_3⟩
      try simp only [(show n_2 83 = (n 83) from (hx2.1 83 (by decide)))] at hA_3 hfin_3 hg_3
      have hN2 := NR_fx hN_2 hx3 (by decide)
      refine gz_aload_n dX12_shorter_39 rfl rfl ?_
      refine gz_dup dX12_shorter_40 rfl ?_
      refine mg_307 hS_3 dX12_shorter_41 ?_
      refine gz_ev (w := .int (n 5)) (congrArg Value.int ((hx3.1 5 (by decide)).trans (hx2.1 5 (by decide)))) ?_
      refine gz_iconst (v := 1) dX12_shorter_44 (by decide) ?_
      refine gz_iadd dX12_shorter_45 ?_
      refine mp_307 hS_3 dX12_shorter_46 (fun f_4 hS_4 => ?_)
      refine gz_aload_n dX12_shorter_49 rfl rfl ?_
      refine mg_307 hS_4 dX12_shorter_50 ?_
      refine gz_ev (w := .int ((n 5) + 1)) rfl ?_
      refine gz_iconst (v := 1) dX12_shorter_53 (by decide) ?_
      refine gz_isub dX12_shorter_54 ?_
      have hxx : fx [5, 83] [] [6, 7, 8, 9, 10, 11, 12, 13, 14, 15, 16, 17, 18, 19, 20, 76, 77, 78, 79, 80, 81, 82, 84, 85, 86] [] n z F G (va_up n_3 5 ((n 5) + 1)) z_3 F_3 G_3 := (fx_n (fx_tr (fx_tr fx_rf hx2 (by decide)) hx3 (by decide)) (by decide))
      have v5 : ((va_up n_3 5 ((n 5) + 1)) 5).toInt = (ff : Int) + 1 := by rw [(show (va_up n_3 5 ((n 5) + 1)) 5 = ((n 5) + 1) from rfl)]; have q := T_add hf (show (1 : Int32).toInt = 1 from rfl) (by omega); exact q
      have hx5 : fx [5, 83] [] [6, 7, 8, 9, 10, 11, 12, 13, 14, 15, 16, 17, 18, 19, 20, 84, 85, 86] [] n_2 z_2 F_2 G_2 (va_up n_3 5 ((n 5) + 1)) z_3 F_3 G_3 := (fx_n (fx_tr fx_rf hx3 (by decide)) (by decide))
      have hR2 : RI (va_up n_3 5 ((n 5) + 1)) F_3 := RI_lay hR1 (by rw [hx2.1 5 (by decide)]; exact hf) (by omega) hg_3 hA_3 hfin_3 v5 (fun k hk => hx5.1 k (by revert k; decide)) (fun k hk => hx5.2.2.1 k (by revert k; decide))
      exact gz_iret rfl dX12_shorter_55 (Nat.le_of_ble_eq_true rfl) (Nat.le_of_ble_eq_true rfl) (⟨_, rfl, _, _, _, _, hS_4, hxx, hR2, hN2, (by rw [if_pos (by omega)]; exact Int32.toInt_inj.mp (by have q := T_sub v5 (show (1 : Int32).toInt = 1 from rfl) (by omega); first | (have z := v5; omega) | (have q2 := T_sub (T_add hf (show (1 : Int32).toInt = 1 from rfl) (by omega)) (show (1 : Int32).toInt = 1 from rfl) (by omega); omega))), (by rw [if_pos (by omega)]; omega)⟩)
    ·
      try simp only [mIn_0, lgc_lt, lgc_gt, lgc_le, lgc_ge, lgc_eq] at c_14
      try simp only [fl_lt, fl_le, fl_eq, fL_w, fL_lt, fL_le, tm1, tm10k, tm9, tm99, Int32.reduceToInt, Int64.reduceToInt, Int.not_lt, Int.not_le] at c_14
      refine gz_iconst (v := (-1)) dX12_shorter_17 (by decide) ?_
      exact gz_iret rfl dX12_shorter_18 (Nat.le_of_ble_eq_true rfl) (Nat.le_of_ble_eq_true rfl) (⟨_, rfl, _, _, _, _, hS, fx_rf, hR, hN, (by rw [if_neg (by omega)]), (by rw [if_neg (by omega)])⟩)

set_option maxHeartbeats 4000000 in
set_option maxRecDepth 100000 in
theorem k_X11_keepYE {l : Launch} {D : va_G} {cy : Nat → ClassId} {b : Nat} {f : gMem} {xo ch tp ou fm dt_ rd te la lg co wo p c1 c2 n1 n2 : Nat} {fcn s v : Int32} {g h : Nat → Int32} {fmg : Nat → Option Nat} (hxo : f xo = some (.inr (11, [.ref ch, .ref tp, .ref ou, .ref fm, .ref p, .ref dt_, .ref rd, .ref te, .ref la, .ref lg, .ref co, .ref wo, .int fcn]))) (hfm : f fm = some (.inl (cy 4, 20, .inr (.inr (.inr (.inr (fmg))))))) (hp : f p = some (.inr (2, [.ref c1, .ref c2, .int s, .int v]))) (h1 : f c1 = some (.inl (cy 0, n1, .inl (g)))) (h2 : f c2 = some (.inl (cy 0, n2, .inl (h)))) (hs : 0 ≤ s.toInt ∧ 13 * s.toInt ≤ n1 ∧ n1 ≤ 520) (hv : 0 ≤ v.toInt ∧ 2 * v.toInt ≤ n2 ∧ n2 ≤ 80) (hc : 0 ≤ fcn.toInt ∧ fcn.toInt < 20) : gC l D cy b yX11_keepDraft cX11_keepDraft 1 (some .int) 3 3 (4 + ((13 * s.toInt.toNat) + (2 * v.toInt.toNat))) [.ref xo] f (pI fun r f2 => r = fcn ∧ ∃ (q qa qb : Nat) (g2 h2 : Nat → Int32), f2 xo = some (.inr (11, [.ref ch, .ref tp, .ref ou, .ref fm, .ref p, .ref dt_, .ref rd, .ref te, .ref la, .ref lg, .ref co, .ref wo, .int (fcn + 1)])) ∧ f2 fm = some (.inl (cy 4, 20, .inr (.inr (.inr (.inr (va_up fmg (Int32.toNatClampNeg fcn) (some q))))))) ∧ f2 q = some (.inr (2, [.ref qa, .ref qb, .int s, .int v])) ∧ f2 qa = some (.inl (cy 0, (13 * s.toInt.toNat), .inl (g2))) ∧ f2 qb = some (.inl (cy 0, (2 * v.toInt.toNat), .inl (h2))) ∧ (∀ j : Nat, j < (13 * s.toInt.toNat) → g2 j = g j) ∧ (∀ j : Nat, j < (2 * v.toInt.toNat) → h2 j = h j) ∧ (f q = none ∧ f qa = none ∧ f qb = none ∧ qa ≠ qb) ∧ fr [xo, fm] f f2) := by
  refine gC_of (by decide) (Nat.le_of_ble_eq_true rfl) ?_
  show gG l _ _ _ D cy b cX11_keepDraft 1 _ RX11 "keepDraft" 0 0 f 0 [(0, .ref xo)] []
  refine gz_aload_n dX11_keepDraft_0 rfl rfl ?_
  refine sgX11_116 hxo rfl dX11_keepDraft_1 ?_
  refine gz_bipush (v := 20) dX11_keepDraft_4 (by decide) ?_
  refine gz_icmp_lt (tgt := 11) dX11_keepDraft_6 (by decide) (fun c_6 => ?_) (fun c_6 => ?_)
  ·
    refine gz_aload_n dX11_keepDraft_11 rfl rfl ?_
    refine sgX11_30 hxo rfl dX11_keepDraft_12 ?_
    refine gz_aload_n dX11_keepDraft_15 rfl rfl ?_
    refine sgX11_116 hxo rfl dX11_keepDraft_16 ?_
    refine gz_aload_n dX11_keepDraft_19 rfl rfl ?_
    refine sgX11_37 hxo rfl dX11_keepDraft_20 ?_
    refine scX11_244 (k_X2_copyToSize (q := 0) (qa := 0) (qb := 0) hp h1 h2 hs hv) hp ⟨(Nat.le_of_ble_eq_true rfl), (Nat.le_of_ble_eq_true rfl)⟩ ⟨(by simp only [gRm]; omega), (by simp only [gRm]; omega)⟩ rfl rfl (Nat.le_of_ble_eq_true rfl) dX11_keepDraft_23 ?_
    rintro u9 f1 ⟨q, qa, qb, g2, h2_, rfl, hqq, hqa, hqb, hg, hh_, hn3, hr1⟩
    refine gz_ev (w := .ref q) rfl ?_
    have hxo_1 : f1 xo = some (.inr (11, [.ref ch, .ref tp, .ref ou, .ref fm, .ref p, .ref dt_, .ref rd, .ref te, .ref la, .ref lg, .ref co, .ref wo, .int fcn])) := hr1 _ _ hxo (by simp)
    have hfm_1 : f1 fm = some (.inl (cy 4, 20, .inr (.inr (.inr (.inr (fmg)))))) := hr1 _ _ hfm (by simp)
    have hp_1 : f1 p = some (.inr (2, [.ref c1, .ref c2, .int s, .int v])) := hr1 _ _ hp (by simp)
    have h1_1 : f1 c1 = some (.inl (cy 0, n1, .inl (g))) := hr1 _ _ h1 (by simp)
    have h2_1 : f1 c2 = some (.inl (cy 0, n2, .inl (h))) := hr1 _ _ h2 (by simp)
    refine gz_aast4 hfm_1 hqq ((by exact vin_T (rfl : fcn.toInt = fcn.toInt) hc.1 hc.2)) dX11_keepDraft_26 ?_
    obtain ⟨f2, hf2⟩ : ∃ gg : gMem, gg = va_up f1 fm (some (.inl (cy 4, 20, .inr (.inr (.inr (.inr (va_up fmg (Int32.toNatClampNeg fcn) (some q)))))))) := ⟨_, rfl⟩
    refine gz_eq (f2 := f2) hf2.symm rfl rfl rfl ?_
    have hxo_2 : f2 xo = some (.inr (11, [.ref ch, .ref tp, .ref ou, .ref fm, .ref p, .ref dt_, .ref rd, .ref te, .ref la, .ref lg, .ref co, .ref wo, .int fcn])) := by rw [hf2, va_up_ne _ _ (cne hxo_1 hfm_1 (by simp))]; exact hxo_1
    have hp_2 : f2 p = some (.inr (2, [.ref c1, .ref c2, .int s, .int v])) := by rw [hf2, va_up_ne _ _ (cne hp_1 hfm_1 (by simp))]; exact hp_1
    have h1_2 : f2 c1 = some (.inl (cy 0, n1, .inl (g))) := by rw [hf2, va_up_ne _ _ (cne h1_1 hfm_1 (by simp))]; exact h1_1
    have h2_2 : f2 c2 = some (.inl (cy 0, n2, .inl (h))) := by rw [hf2, va_up_ne _ _ (cne h2_1 hfm_1 (by simp))]; exact h2_1
    have hqq_2 : f2 q = some (.inr (2, [.ref qa, .ref qb, .int s, .int v])) := by rw [hf2, va_up_ne _ _ (cne hqq hfm_1 (by simp))]; exact hqq
    have hqa_2 : f2 qa = some (.inl (cy 0, (13 * s.toInt.toNat), .inl (g2))) := by rw [hf2, va_up_ne _ _ (cne hqa hfm_1 (by simp))]; exact hqa
    have hqb_2 : f2 qb = some (.inl (cy 0, (2 * v.toInt.toNat), .inl (h2_))) := by rw [hf2, va_up_ne _ _ (cne hqb hfm_1 (by simp))]; exact hqb
    have hfm_2 : f2 fm = some (.inl (cy 4, 20, .inr (.inr (.inr (.inr (va_up fmg (Int32.toNatClampNeg fcn) (some q))))))) := by rw [hf2]; exact va_up_self _ _ _
    refine gz_aload_n dX11_keepDraft_27 rfl rfl ?_
    refine gz_dup dX11_keepDraft_28 rfl ?_
    refine sgX11_116 hxo_2 rfl dX11_keepDraft_29 ?_
    refine gz_iconst (v := 1) dX11_keepDraft_32 (by decide) ?_
    refine gz_iadd dX11_keepDraft_33 ?_
    refine spX11_116 hxo_2  (Nat.le_of_ble_eq_true rfl) dX11_keepDraft_34 ?_
    obtain ⟨f3, hf3⟩ : ∃ gg : gMem, gg = va_up f2 xo (some (.inr (11, [.ref ch, .ref tp, .ref ou, .ref fm, .ref p, .ref dt_, .ref rd, .ref te, .ref la, .ref lg, .ref co, .ref wo, .int (fcn + 1)]))) := ⟨_, rfl⟩
    refine gz_eq (f2 := f3) hf3.symm rfl rfl rfl ?_
    have hp_3 : f3 p = some (.inr (2, [.ref c1, .ref c2, .int s, .int v])) := by rw [hf3, va_up_ne _ _ (cne hp_2 hxo_2 (by simp))]; exact hp_2
    have h1_3 : f3 c1 = some (.inl (cy 0, n1, .inl (g))) := by rw [hf3, va_up_ne _ _ (cne h1_2 hxo_2 (by simp))]; exact h1_2
    have h2_3 : f3 c2 = some (.inl (cy 0, n2, .inl (h))) := by rw [hf3, va_up_ne _ _ (cne h2_2 hxo_2 (by simp))]; exact h2_2
    have hqq_3 : f3 q = some (.inr (2, [.ref qa, .ref qb, .int s, .int v])) := by rw [hf3, va_up_ne _ _ (cne hqq_2 hxo_2 (by simp))]; exact hqq_2
    have hqa_3 : f3 qa = some (.inl (cy 0, (13 * s.toInt.toNat), .inl (g2))) := by rw [hf3, va_up_ne _ _ (cne hqa_2 hxo_2 (by simp))]; exact hqa_2
    have hqb_3 : f3 qb = some (.inl (cy 0, (2 * v.toInt.toNat), .inl (h2_))) := by rw [hf3, va_up_ne _ _ (cne hqb_2 hxo_2 (by simp))]; exact hqb_2
    have hfm_3 : f3 fm = some (.inl (cy 4, 20, .inr (.inr (.inr (.inr (va_up fmg (Int32.toNatClampNeg fcn) (some q))))))) := by rw [hf3, va_up_ne _ _ (cne hfm_2 hxo_2 (by simp))]; exact hfm_2
    have hxo_3 : f3 xo = some (.inr (11, [.ref ch, .ref tp, .ref ou, .ref fm, .ref p, .ref dt_, .ref rd, .ref te, .ref la, .ref lg, .ref co, .ref wo, .int (fcn + 1)])) := by rw [hf3]; exact va_up_self _ _ _
    refine gz_aload_n dX11_keepDraft_37 rfl rfl ?_
    refine sgX11_116 hxo_3 rfl dX11_keepDraft_38 ?_
    refine gz_iconst (v := 1) dX11_keepDraft_41 (by decide) ?_
    refine gz_isub dX11_keepDraft_42 ?_
    exact gz_iret rfl dX11_keepDraft_43 (by omega) (by omega) (⟨_, rfl, (by exact Int32.toInt_inj.mp (by have q9 := T_sub (T_add (rfl : fcn.toInt = fcn.toInt) (show (1 : Int32).toInt = 1 from rfl) (by omega)) (show (1 : Int32).toInt = 1 from rfl) (by omega); omega)), q, qa, qb, g2, h2_, hxo_3, hfm_3, hqq_3, hqa_3, hqb_3, hg, hh_, hn3, (by rw [hf3]; exact fr_up (by rw [hf2]; exact fr_up (fr_tr fr_rf (fr_mo hr1 (by simp))) (by simp)) (by simp))⟩)
  · exfalso; have e20 : (20 : Int32).toInt = 20 := rfl; simp only [fl_lt] at c_6; omega
