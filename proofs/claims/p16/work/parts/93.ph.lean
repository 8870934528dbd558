set_option maxHeartbeats 4000000 in
set_option maxRecDepth 100000 in
theorem l_X12_beginsCD {l : Launch} {D : va_G} {cy : Nat → ClassId} {b : Nat} {m : Nat} {a : Nat → Nat} {f0 : gMem} {n0 : Nat → Int32} {z0 : Nat → Int64} {F0 : Nat → Nat → Int32} {G0 : Nat → Nat → Int64}  {f W O K Q V1 : Nat} {kd iw : Int32} {BG : Cn → Cn} (h5 : (n0 5).toInt = (f : Int) ∧ f < 20) (hJ : RDJ F0 n0 F0 f W O true) (hB0 : rB F0) (hwi : iw.toInt = 40 * (f : Int) + W ∧ W ≤ 39) (hkd : kd.toInt = (K : Int) ∧ K ≤ 10) (hBG : ∃ q9, ∀ co : Cn, BG co = hdC (tX (F0 3) (n0 4)) K q9 (F0 17 f).toInt.toNat W (nwC K W (upC (skW F0 f O)).1 (upC (skW F0 f O)).2 O co)) (hE : bgR (tX (F0 3) (n0 4)) (n0 21).toInt.toNat W (F0 17 f).toInt.toNat O = tlR (tX (F0 3) (n0 4)) K (.inr (Q, V1))) : ∀ (k : Nat)  (n : Nat → Int32) (z : Nat → Int64) (F : Nat → Nat → Int32) (G : Nat → Nat → Int64) (fm : gMem), mS cy m a f0 n z F G fm → fx [21, 22, 23] [] [6, 7, 8, 9, 10, 11, 12, 13, 14, 15, 16, 17, 18, 19, 20] [] n0 z0 F0 G0 n z F G → ((0 ≤ (n 21).toInt ∧ (n 21).toInt ≤ (n 4).toInt ∧ (n 4).toInt ≤ 400)) → ((n0 21).toInt ≤ (n 21).toInt) → (rAll F) → (RDb F0 F f W O) → ((F 7 (40 * f + W)).toInt = kd.toInt) → ((F0 17 (Int32.toNatClampNeg (n0 5))).toInt ≤ (F 17 (Int32.toNatClampNeg (n0 5))).toInt ∧ (F 17 (Int32.toNatClampNeg (n0 5))).toInt ≤ 40) → (((F 13 (40 * f + W)).toInt ≤ (F 14 (40 * f + W)).toInt ∧ (F 14 (40 * f + W)).toInt ≤ (F 15 (40 * f + W)).toInt) ∧ (F 15 (40 * f + W)).toInt - (F 13 (40 * f + W)).toInt ≤ (F 17 (Int32.toNatClampNeg (n0 5))).toInt - (F0 17 (Int32.toNatClampNeg (n0 5))).toInt) → ((n 22).toInt = 0) → ((n 21).toInt = (Q : Int)) → ((F 17 (Int32.toNatClampNeg (n0 5))).toInt = (V1 : Int)) → (∀ i, i ≠ (40 * f + W) → F 8 i = F0 8 i) → (∀ i, i ≠ (40 * f + W) → F 16 i = F0 16 i) → (lo3 F0 F f) → (hdF F0 F f W K (F0 17 f).toInt.toNat V1 BG) → (2 ≤ kd.toInt) → (0 < (k : Int)) → gG l (gRm 5 0 0) (gQf D b (pI fun r f2 => ∃ (n2 : Nat → Int32) (z2 : Nat → Int64) (F2 : Nat → Nat → Int32) (G2 : Nat → Nat → Int64), mS cy m a f0 n2 z2 F2 G2 f2 ∧ fx [21, 22, 23, 24] [] [6, 7, 8, 9, 10, 11, 12, 13, 14, 15, 16, 17, 18, 19, 20, 25, 26] [] n0 z0 F0 G0 n2 z2 F2 G2 ∧ (r = 0 ∨ r = 1) ∧ (0 ≤ (n2 21).toInt ∧ (n2 21).toInt ≤ (n2 4).toInt ∧ (n2 4).toInt ≤ 400) ∧ (n0 21).toInt ≤ (n2 21).toInt ∧ rAll F2 ∧ (∀ g, g < f → agF F0 F2 g) ∧ (r = 1 → RDJ F0 n2 F2 f (W + 1) O false ∨ RDJ F0 n2 F2 f (W + 1) (O + 1) true) ∧ exB (bgR (tX (F0 3) (n0 4)) (n0 21).toInt.toNat W (F0 17 f).toInt.toNat O) O r n0 n2 F0 F2 f ∧ (∀ ii : Nat, ii < O → F2 25 ii = F0 25 ii) ∧ (r = 1 → (n2 24).toInt = ((O + 1 : Nat) : Int) → (F2 25 O).toInt = 40 * (f : Int) + W) ∧ lo3 F0 F2 f ∧ (∀ i, i < 40 * f → F2 8 i = F0 8 i ∧ F2 16 i = F0 16 i) ∧ (∀ co : Cn, LR F0 f co W (F0 17 f).toInt.toNat → r = 1 → LR F2 f (BG co) (W + 1) (F2 17 f).toInt.toNat)) 0 0) gTt D cy b cX12_begins 9 (some .boolean) RX12 "begins" 0 0 fm 448 [(0, .ref m), (4, .int kd), (7, .int iw)] [] := by
  intro k
  induction k with
  | zero =>
    intro n z F G fm hS hx hT hm hA hb h7 hv hvz h22 h21 h17 h8o h16o hlo hF hk2 hk
    exfalso; omega
  | succ k ih =>
    intro n z F G fm hS hx hT hm hA hb h7 hv hvz h22 h21 h17 h8o h16o hlo hF hk2 hk
    have e4 : n 4 = n0 4 := hx.1 4 (by decide)
    rw [e4] at hT
    obtain ⟨g6, g24, gR, gv, gA, gg⟩ := id hJ
    have ecf : (Int32.toNatClampNeg (n0 5)) = f := by rw [clN]; omega
    have eci : Int32.toNatClampNeg iw = (40 * f + W) := by rw [clN]; omega
    have eco : Int32.toNatClampNeg (n0 24) = O := by rw [clN]; omega
    have gO := hb.2.2.2.2.2.2
    have gv2 : (F0 17 (Int32.toNatClampNeg (n0 5))).toInt = (F0 17 f).toInt := by rw [ecf]
    have e3 : F 3 = F0 3 := hx.2.2.1 3 (by decide)
    have hB : rB F := rB_cg e3 hB0
    have hln := tX_ln (g := F0 3) (L := n0 4) (by omega)
    refine gz_iload dX12_begins_448 rfl ?_
    refine gz_iconst (v := 3) dX12_begins_450 (by decide) ?_
    refine gz_icmp_eq (tgt := 466) dX12_begins_451 (by decide) (fun c_451 => ?_) (fun c_451 => ?_)
    ·
      try simp only [mIn_0, lgc_lt, lgc_gt, lgc_le, lgc_ge, lgc_eq] at c_451
      try simp only [fl_lt, fl_le, fl_eq, fL_w, fL_lt, fL_le, tm1, tm10k, tm9, tm99, Int32.reduceToInt, Int64.reduceToInt, Int.not_lt, Int.not_le] at c_451
      refine gz_iconst (v := 1) dX12_begins_466 (by decide) ?_
      refine gz_goto (tgt := 471) dX12_begins_467 (by decide) ?_
      refine gz_istore (lv' := [(8, .int 1), (0, .ref m), (4, .int kd), (7, .int iw)]) dX12_begins_471 (by decide) rfl ?_
      refine gz_iload dX12_begins_473 rfl ?_
      refine gz_if_eq (tgt := 489) dX12_begins_475 (by decide) (fun c_475 => ?_) (fun c_475 => ?_)
      · exact absurd c_475 (by decide)
      ·
        try simp only [mIn_0, lgc_lt, lgc_gt, lgc_le, lgc_ge, lgc_eq] at c_475
        try simp only [fl_lt, fl_le, fl_eq, fL_w, fL_lt, fL_le, tm1, tm10k, tm9, tm99, Int32.reduceToInt, Int64.reduceToInt, Int.not_lt, Int.not_le] at c_475
        refine gz_aload_n dX12_begins_478 rfl rfl ?_
        refine gz_bipush (v := 40) dX12_begins_479 (by decide) ?_
        refine scX12_325 (k_X12_takesE (x := 40) hS (by (try rw [(show n 4 = (n0 4) from (hx.1 4 (by decide)))]); omega) (rB_cg (hx.2.2.1 3 (by decide)) hB0) (by omega) (by decide)) hS.1 ⟨(Nat.le_of_ble_eq_true rfl), (Nat.le_of_ble_eq_true rfl)⟩ ⟨(Nat.le_of_ble_eq_true rfl), (Nat.le_of_ble_eq_true rfl)⟩ rfl rfl (Nat.le_of_ble_eq_true rfl) dX12_begins_481 ?_
        rintro r_1 f_1 ⟨n_1, z_1, F_1, G_1, hS_1, hx1, hb_1, hT_1, hm_1, hE_1⟩
        try simp only [(show n_1 4 = (n0 4) from ((hx1.1 4 (by decide)).trans (hx.1 4 (by decide))))] at hb_1 hT_1 hm_1 hE_1
        try simp only [(show F_1 3 = (F0 3) from ((hx1.2.2.1 3 (by decide)).trans (hx.2.2.1 3 (by decide))))] at hb_1 hT_1 hm_1 hE_1
        try simp only [(show n 4 = (n0 4) from (hx.1 4 (by decide)))] at hb_1 hT_1 hm_1 hE_1
        try simp only [(show F 3 = (F0 3) from (hx.2.2.1 3 (by decide)))] at hb_1 hT_1 hm_1 hE_1
        rw [show (n 21).toInt.toNat = Q by omega, show ((40 : Int32)).toInt = 40 from rfl] at hE_1
        have hpr : K = 3 ∨ K = 4 ∨ K = 5 := by omega
        cases ht : tkR (tX (F0 3) (n0 4)) Q 40 with
        | inl cht =>
          rw [ht] at hE_1
          obtain ⟨a1ht, a2ht⟩ := hE_1
          refine gz_ev (w := .int 0) (congrArg Value.int a1ht) ?_
          refine gz_if_ne (tgt := 489) dX12_begins_484 (by decide) (fun c_484 => ?_) (fun c_484 => ?_)
          · exact absurd c_484 (by decide)
          ·
            try simp only [mIn_0, lgc_lt, lgc_gt, lgc_le, lgc_ge, lgc_eq] at c_484
            try simp only [fl_lt, fl_le, fl_eq, fL_w, fL_lt, fL_le, tm1, tm10k, tm9, tm99, Int32.reduceToInt, Int64.reduceToInt, Int.not_lt, Int.not_le] at c_484
            refine gz_iconst (v := 0) dX12_begins_487 (by decide) ?_
            have h8n : ∀ i, i ≠ (40 * f + W) → F_1 8 i = F0 8 i := fun i hi => by rw [show F_1 8 = (F 8) from (hx1.2.2.1 8 (by decide))]; exact h8o i hi
            have h16n : ∀ i, i ≠ (40 * f + W) → F_1 16 i = F0 16 i := fun i hi => by rw [show F_1 16 = (F 16) from (hx1.2.2.1 16 (by decide))]; exact h16o i hi
            have l3n : lo3 F0 F_1 f := lo3_tr hlo (lo3_eq (hx1.2.2.1 18 (by decide)) (hx1.2.2.1 19 (by decide)) (hx1.2.2.1 20 (by decide)))
            have sm_hb9 : ∀ r, r ∈ [6, 7, 9, 10, 11, 12] → F_1 r = F r := by
              intro r hr
              simp only [List.mem_cons, List.not_mem_nil, or_false] at hr
              rcases hr with rfl | rfl | rfl | rfl | rfl | rfl
              · exact (hx1.2.2.1 6 (by decide))
              · exact (hx1.2.2.1 7 (by decide))
              · exact (hx1.2.2.1 9 (by decide))
              · exact (hx1.2.2.1 10 (by decide))
              · exact (hx1.2.2.1 11 (by decide))
              · exact (hx1.2.2.1 12 (by decide))
            have of_hb9 : ∀ r, r ∈ [13, 14, 15] → ∀ i, i ≠ (40 * f + W) → F_1 r i = F r i := by
              intro r hr i hi
              rw [← eci] at hi
              simp only [List.mem_cons, List.not_mem_nil, or_false] at hr
              rcases hr with rfl | rfl | rfl
              · rw [show F_1 13 = (F 13) from (hx1.2.2.1 13 (by decide))]
              · rw [show F_1 14 = (F 14) from (hx1.2.2.1 14 (by decide))]
              · rw [show F_1 15 = (F 15) from (hx1.2.2.1 15 (by decide))]
            have hb9 : RDb F0 F_1 f W O := RDb_keep hb sm_hb9 of_hb9
            have hA9 : rAll F_1 := by
              intro q hq
              obtain ⟨qa0, qb0, qc0, qd0⟩ := hA q hq
              rw [show F_1 13 = (F 13) from (hx1.2.2.1 13 (by decide)), show F_1 14 = (F 14) from (hx1.2.2.1 14 (by decide)), show F_1 15 = (F 15) from (hx1.2.2.1 15 (by decide)), show F_1 19 = (F 19) from (hx1.2.2.1 19 (by decide))]
              refine ⟨?_, ?_, ?_, ?_⟩ <;> (try simp only [updE]) <;> (repeat' split) <;> first | omega | decide
            exact gz_zret rfl (by first | decide | exact nrb (Or.inl (by assumption)) | exact nrb (by assumption) | (refine nrb ?_; assumption)) dX12_begins_488 (Nat.le_of_ble_eq_true rfl) (Nat.le_of_ble_eq_true rfl) (⟨_, rfl, _, _, _, _, hS_1, (fx_tr (fx_tr fx_rf hx (by decide)) hx1 (by decide)), (by first | exact Or.inl rfl | exact Or.inr rfl | assumption | (left; assumption)), (by (try rw [(show n_1 21 = (n_1 21) from rfl)]); (try rw [(show n_1 4 = (n0 4) from ((hx1.1 4 (by decide)).trans (hx.1 4 (by decide))))]); omega), (by (try rw [(show n_1 21 = (n_1 21) from rfl)]); omega), hA9, hb9.2.1, (fun h => absurd h (by decide)), (by rw [hE]; unfold tlR; dsimp only; rw [if_pos hpr, ht]; exact ⟨rfl, a2ht⟩), (fun ii _ => by rw [show F_1 25 = F 25 from (hx1.2.2.1 25 (by decide))]; exact congrFun (hx.2.2.1 25 (by decide)) ii), (fun z => absurd z (by decide)), l3n, (fun i hi => ⟨h8n i (by omega), h16n i (by omega)⟩), (fun _ _ z => absurd z (by decide))⟩)
        | inr rht =>
          rw [ht] at hE_1
          obtain ⟨a1ht, a2ht, a3ht⟩ := hE_1
          refine gz_ev (w := .int 1) (congrArg Value.int a1ht) ?_
          refine gz_if_ne (tgt := 489) dX12_begins_484 (by decide) (fun c_484 => ?_) (fun c_484 => ?_)
          ·
            try simp only [mIn_0, lgc_lt, lgc_gt, lgc_le, lgc_ge, lgc_eq] at c_484
            try simp only [fl_lt, fl_le, fl_eq, fL_w, fL_lt, fL_le, tm1, tm10k, tm9, tm99, Int32.reduceToInt, Int64.reduceToInt, Int.not_lt, Int.not_le] at c_484
            refine gz_aload_n dX12_begins_489 rfl rfl ?_
            refine mg_62 hS_1 dX12_begins_490 ?_
            refine gz_aload_n dX12_begins_493 rfl rfl ?_
            refine mg_319 hS_1 dX12_begins_494 ?_
            refine gz_ev (w := .int (n0 24)) (congrArg Value.int ((hx1.1 24 (by decide)).trans (hx.1 24 (by decide)))) ?_
            refine gz_iload dX12_begins_497 rfl ?_
            refine m_iast 25 hS_1 rfl (N := 40) rfl ((by exact vin_T (rfl : (n0 24).toInt = (n0 24).toInt) (by omega) (by omega))) dX12_begins_499 (fun f_2 hS_2q => ?_)
            have hS_2 : mS cy m a f0 n_1 z_1 (va_up F_1 25 (upd (F 25) (Int32.toNatClampNeg (n0 24)) iw)) G_1 f_2 := (by have e9 := (show F_1 25 = (F 25) from (hx1.2.2.1 25 (by decide))); rw [e9] at hS_2q; exact hS_2q)
            refine gz_aload_n dX12_begins_500 rfl rfl ?_
            refine mg_65 hS_2 dX12_begins_501 ?_
            refine gz_aload_n dX12_begins_504 rfl rfl ?_
            refine mg_319 hS_2 dX12_begins_505 ?_
            refine gz_ev (w := .int (n0 24)) (congrArg Value.int ((hx1.1 24 (by decide)).trans (hx.1 24 (by decide)))) ?_
            refine gz_iload dX12_begins_508 rfl ?_
            refine gz_if_eq (tgt := 517) dX12_begins_510 (by decide) (fun c_510 => ?_) (fun c_510 => ?_)
            · exact absurd c_510 (by decide)
            ·
              try simp only [mIn_0, lgc_lt, lgc_gt, lgc_le, lgc_ge, lgc_eq] at c_510
              try simp only [fl_lt, fl_le, fl_eq, fL_w, fL_lt, fL_le, tm1, tm10k, tm9, tm99, Int32.reduceToInt, Int64.reduceToInt, Int.not_lt, Int.not_le] at c_510
              refine gz_iconst (v := 1) dX12_begins_513 (by decide) ?_
              refine gz_goto (tgt := 518) dX12_begins_514 (by decide) ?_
              refine m_iast 26 hS_2 rfl (N := 40) rfl ((by exact vin_T (rfl : (n0 24).toInt = (n0 24).toInt) (by omega) (by omega))) dX12_begins_518 (fun f_3 hS_3q => ?_)
              have hS_3 : mS cy m a f0 n_1 z_1 (va_up (va_up F_1 25 (upd (F 25) (Int32.toNatClampNeg (n0 24)) iw)) 26 (upd (F 26) (Int32.toNatClampNeg (n0 24)) 1)) G_1 f_3 := (by have e9 := (show (va_up F_1 25 (upd (F 25) (Int32.toNatClampNeg (n0 24)) iw)) 26 = (F 26) from (hx1.2.2.1 26 (by decide))); rw [e9] at hS_3q; exact hS_3q)
              refine gz_aload_n dX12_begins_519 rfl rfl ?_
              refine gz_dup dX12_begins_520 rfl ?_
              refine mg_319 hS_3 dX12_begins_521 ?_
              refine gz_ev (w := .int (n0 24)) (congrArg Value.int ((hx1.1 24 (by decide)).trans (hx.1 24 (by decide)))) ?_
              refine gz_iconst (v := 1) dX12_begins_524 (by decide) ?_
              refine gz_iadd dX12_begins_525 ?_
              refine mp_319 hS_3 dX12_begins_526 (fun f_4 hS_4 => ?_)
              refine gz_iconst (v := 1) dX12_begins_529 (by decide) ?_
              have sm_hb9 : ∀ r, r ∈ [6, 7, 9, 10, 11, 12] → (va_up (va_up F_1 25 (upd (F 25) (Int32.toNatClampNeg (n0 24)) iw)) 26 (upd (F 26) (Int32.toNatClampNeg (n0 24)) 1)) r = F r := by
                intro r hr
                simp only [List.mem_cons, List.not_mem_nil, or_false] at hr
                rcases hr with rfl | rfl | rfl | rfl | rfl | rfl
                · exact (hx1.2.2.1 6 (by decide))
                · exact (hx1.2.2.1 7 (by decide))
                · exact (hx1.2.2.1 9 (by decide))
                · exact (hx1.2.2.1 10 (by decide))
                · exact (hx1.2.2.1 11 (by decide))
                · exact (hx1.2.2.1 12 (by decide))
              have of_hb9 : ∀ r, r ∈ [13, 14, 15] → ∀ i, i ≠ (40 * f + W) → (va_up (va_up F_1 25 (upd (F 25) (Int32.toNatClampNeg (n0 24)) iw)) 26 (upd (F 26) (Int32.toNatClampNeg (n0 24)) 1)) r i = F r i := by
                intro r hr i hi
                rw [← eci] at hi
                simp only [List.mem_cons, List.not_mem_nil, or_false] at hr
                rcases hr with rfl | rfl | rfl
                · rw [show (va_up (va_up F_1 25 (upd (F 25) (Int32.toNatClampNeg (n0 24)) iw)) 26 (upd (F 26) (Int32.toNatClampNeg (n0 24)) 1)) 13 = (F 13) from (hx1.2.2.1 13 (by decide))]
                · rw [show (va_up (va_up F_1 25 (upd (F 25) (Int32.toNatClampNeg (n0 24)) iw)) 26 (upd (F 26) (Int32.toNatClampNeg (n0 24)) 1)) 14 = (F 14) from (hx1.2.2.1 14 (by decide))]
                · rw [show (va_up (va_up F_1 25 (upd (F 25) (Int32.toNatClampNeg (n0 24)) iw)) 26 (upd (F 26) (Int32.toNatClampNeg (n0 24)) 1)) 15 = (F 15) from (hx1.2.2.1 15 (by decide))]
              have hb9 : RDb F0 (va_up (va_up F_1 25 (upd (F 25) (Int32.toNatClampNeg (n0 24)) iw)) 26 (upd (F 26) (Int32.toNatClampNeg (n0 24)) 1)) f W O := RDb_keep hb sm_hb9 of_hb9
              have hA9 : rAll (va_up (va_up F_1 25 (upd (F 25) (Int32.toNatClampNeg (n0 24)) iw)) 26 (upd (F 26) (Int32.toNatClampNeg (n0 24)) 1)) := by
                intro q hq
                obtain ⟨qa0, qb0, qc0, qd0⟩ := hA q hq
                rw [show (va_up (va_up F_1 25 (upd (F 25) (Int32.toNatClampNeg (n0 24)) iw)) 26 (upd (F 26) (Int32.toNatClampNeg (n0 24)) 1)) 13 = (F 13) from (hx1.2.2.1 13 (by decide)), show (va_up (va_up F_1 25 (upd (F 25) (Int32.toNatClampNeg (n0 24)) iw)) 26 (upd (F 26) (Int32.toNatClampNeg (n0 24)) 1)) 14 = (F 14) from (hx1.2.2.1 14 (by decide)), show (va_up (va_up F_1 25 (upd (F 25) (Int32.toNatClampNeg (n0 24)) iw)) 26 (upd (F 26) (Int32.toNatClampNeg (n0 24)) 1)) 15 = (F 15) from (hx1.2.2.1 15 (by decide)), show (va_up (va_up F_1 25 (upd (F 25) (Int32.toNatClampNeg (n0 24)) iw)) 26 (upd (F 26) (Int32.toNatClampNeg (n0 24)) 1)) 19 = (F 19) from (hx1.2.2.1 19 (by decide))]
                refine ⟨?_, ?_, ?_, ?_⟩ <;> (try simp only [updE]) <;> (repeat' split) <;> first | omega | decide
              have w7 : (va_up (va_up F_1 25 (upd (F 25) (Int32.toNatClampNeg (n0 24)) iw)) 26 (upd (F 26) (Int32.toNatClampNeg (n0 24)) 1)) 7 (40 * f + W) = F 7 (40 * f + W) := by rw [show (va_up (va_up F_1 25 (upd (F 25) (Int32.toNatClampNeg (n0 24)) iw)) 26 (upd (F 26) (Int32.toNatClampNeg (n0 24)) 1)) 7 = (F 7) from (hx1.2.2.1 7 (by decide))]
              have w13 : (va_up (va_up F_1 25 (upd (F 25) (Int32.toNatClampNeg (n0 24)) iw)) 26 (upd (F 26) (Int32.toNatClampNeg (n0 24)) 1)) 13 (40 * f + W) = F 13 (40 * f + W) := by rw [show (va_up (va_up F_1 25 (upd (F 25) (Int32.toNatClampNeg (n0 24)) iw)) 26 (upd (F 26) (Int32.toNatClampNeg (n0 24)) 1)) 13 = (F 13) from (hx1.2.2.1 13 (by decide))]
              have w14 : (va_up (va_up F_1 25 (upd (F 25) (Int32.toNatClampNeg (n0 24)) iw)) 26 (upd (F 26) (Int32.toNatClampNeg (n0 24)) 1)) 14 (40 * f + W) = F 14 (40 * f + W) := by rw [show (va_up (va_up F_1 25 (upd (F 25) (Int32.toNatClampNeg (n0 24)) iw)) 26 (upd (F 26) (Int32.toNatClampNeg (n0 24)) 1)) 14 = (F 14) from (hx1.2.2.1 14 (by decide))]
              have w15 : (va_up (va_up F_1 25 (upd (F 25) (Int32.toNatClampNeg (n0 24)) iw)) 26 (upd (F 26) (Int32.toNatClampNeg (n0 24)) 1)) 15 (40 * f + W) = F 15 (40 * f + W) := by rw [show (va_up (va_up F_1 25 (upd (F 25) (Int32.toNatClampNeg (n0 24)) iw)) 26 (upd (F 26) (Int32.toNatClampNeg (n0 24)) 1)) 15 = (F 15) from (hx1.2.2.1 15 (by decide))]
              have w17 : ((va_up (va_up F_1 25 (upd (F 25) (Int32.toNatClampNeg (n0 24)) iw)) 26 (upd (F 26) (Int32.toNatClampNeg (n0 24)) 1)) 17 f).toInt = (F 17 (Int32.toNatClampNeg (n0 5))).toInt := by rw [show (va_up (va_up F_1 25 (upd (F 25) (Int32.toNatClampNeg (n0 24)) iw)) 26 (upd (F 26) (Int32.toNatClampNeg (n0 24)) 1)) 17 = (F 17) from (hx1.2.2.1 17 (by decide)), ecf]
              have hvs : (vsF (va_up (va_up F_1 25 (upd (F 25) (Int32.toNatClampNeg (n0 24)) iw)) 26 (upd (F 26) (Int32.toNatClampNeg (n0 24)) 1)) f 0 (W + 1) : Int) ≤ ((va_up (va_up F_1 25 (upd (F 25) (Int32.toNatClampNeg (n0 24)) iw)) 26 (upd (F 26) (Int32.toNatClampNeg (n0 24)) 1)) 17 f).toInt ∧ ((va_up (va_up F_1 25 (upd (F 25) (Int32.toNatClampNeg (n0 24)) iw)) 26 (upd (F 26) (Int32.toNatClampNeg (n0 24)) 1)) 17 f).toInt ≤ 40 := by rw [RD_vs hb9, w17]; unfold owK; rw [w13, w15]; omega
              have h25 : ∀ r, r ∈ [25, 26] → ∀ i, i < O → (va_up (va_up F_1 25 (upd (F 25) (Int32.toNatClampNeg (n0 24)) iw)) 26 (upd (F 26) (Int32.toNatClampNeg (n0 24)) 1)) r i = F0 r i := by
                intro r hr i hi
                simp only [List.mem_cons, List.not_mem_nil, or_false] at hr
                rcases hr with rfl | rfl
                · rw [show (va_up (va_up F_1 25 (upd (F 25) (Int32.toNatClampNeg (n0 24)) iw)) 26 (upd (F 26) (Int32.toNatClampNeg (n0 24)) 1)) 25 = (upd (F 25) (Int32.toNatClampNeg (n0 24)) iw) from rfl, eco, updE, if_neg (by omega)]; exact congrFun (hx.2.2.1 25 (by decide)) _
                · rw [show (va_up (va_up F_1 25 (upd (F 25) (Int32.toNatClampNeg (n0 24)) iw)) 26 (upd (F 26) (Int32.toNatClampNeg (n0 24)) 1)) 26 = (upd (F 26) (Int32.toNatClampNeg (n0 24)) 1) from rfl, eco, updE, if_neg (by omega)]; exact congrFun (hx.2.2.1 26 (by decide)) _
              have hFr : ∀ r, r ∈ [8, 13, 14, 15, 16] → (va_up (va_up F_1 25 (upd (F 25) (Int32.toNatClampNeg (n0 24)) iw)) 26 (upd (F 26) (Int32.toNatClampNeg (n0 24)) 1)) r (40 * f + W) = F r (40 * f + W) := by
                intro r hr
                simp only [List.mem_cons, List.not_mem_nil, or_false] at hr
                rcases hr with rfl | rfl | rfl | rfl | rfl
                · rw [show (va_up (va_up F_1 25 (upd (F 25) (Int32.toNatClampNeg (n0 24)) iw)) 26 (upd (F 26) (Int32.toNatClampNeg (n0 24)) 1)) 8 = (F 8) from (hx1.2.2.1 8 (by decide))]
                · rw [show (va_up (va_up F_1 25 (upd (F 25) (Int32.toNatClampNeg (n0 24)) iw)) 26 (upd (F 26) (Int32.toNatClampNeg (n0 24)) 1)) 13 = (F 13) from (hx1.2.2.1 13 (by decide))]
                · rw [show (va_up (va_up F_1 25 (upd (F 25) (Int32.toNatClampNeg (n0 24)) iw)) 26 (upd (F 26) (Int32.toNatClampNeg (n0 24)) 1)) 14 = (F 14) from (hx1.2.2.1 14 (by decide))]
                · rw [show (va_up (va_up F_1 25 (upd (F 25) (Int32.toNatClampNeg (n0 24)) iw)) 26 (upd (F 26) (Int32.toNatClampNeg (n0 24)) 1)) 15 = (F 15) from (hx1.2.2.1 15 (by decide))]
                · rw [show (va_up (va_up F_1 25 (upd (F 25) (Int32.toNatClampNeg (n0 24)) iw)) 26 (upd (F 26) (Int32.toNatClampNeg (n0 24)) 1)) 16 = (F 16) from (hx1.2.2.1 16 (by decide))]
              have hFn : hdF F0 (va_up (va_up F_1 25 (upd (F 25) (Int32.toNatClampNeg (n0 24)) iw)) 26 (upd (F 26) (Int32.toNatClampNeg (n0 24)) 1)) f W K (F0 17 f).toInt.toNat V1 BG := hdF_cg hF hFr ⟨(hx1.2.2.1 18 (by decide)), (hx1.2.2.1 19 (by decide)), (hx1.2.2.1 20 (by decide))⟩
              have p25 : ((va_up (va_up F_1 25 (upd (F 25) (Int32.toNatClampNeg (n0 24)) iw)) 26 (upd (F 26) (Int32.toNatClampNeg (n0 24)) 1)) 25 O).toInt = 40 * f + W := by rw [show (va_up (va_up F_1 25 (upd (F 25) (Int32.toNatClampNeg (n0 24)) iw)) 26 (upd (F 26) (Int32.toNatClampNeg (n0 24)) 1)) 25 = (upd (F 25) (Int32.toNatClampNeg (n0 24)) iw) from rfl, eco, updE, if_pos rfl]; exact hwi.1
              have q26 : ((va_up (va_up F_1 25 (upd (F 25) (Int32.toNatClampNeg (n0 24)) iw)) 26 (upd (F 26) (Int32.toNatClampNeg (n0 24)) 1)) 26 O).toInt = 1 := by rw [show (va_up (va_up F_1 25 (upd (F 25) (Int32.toNatClampNeg (n0 24)) iw)) 26 (upd (F 26) (Int32.toNatClampNeg (n0 24)) 1)) 26 = (upd (F 26) (Int32.toNatClampNeg (n0 24)) 1) from rfl, eco, updE, if_pos rfl]; rfl
              have p26 : (prK (va_up (va_up F_1 25 (upd (F 25) (Int32.toNatClampNeg (n0 24)) iw)) 26 (upd (F 26) (Int32.toNatClampNeg (n0 24)) 1)) f W ∧ ((va_up (va_up F_1 25 (upd (F 25) (Int32.toNatClampNeg (n0 24)) iw)) 26 (upd (F 26) (Int32.toNatClampNeg (n0 24)) 1)) 26 O).toInt = 1) ∨ (¬ prK (va_up (va_up F_1 25 (upd (F 25) (Int32.toNatClampNeg (n0 24)) iw)) 26 (upd (F 26) (Int32.toNatClampNeg (n0 24)) 1)) f W ∧ ((va_up (va_up F_1 25 (upd (F 25) (Int32.toNatClampNeg (n0 24)) iw)) 26 (upd (F 26) (Int32.toNatClampNeg (n0 24)) 1)) 26 O).toInt = 0) := by
                refine Or.inl ⟨by unfold prK; rw [w7, h7]; omega, q26⟩
              have v24 : ((va_up n_1 24 ((n0 24) + 1)) 24).toInt = ((O + 1 : Nat) : Int) := by rw [(show (va_up n_1 24 ((n0 24) + 1)) 24 = ((n0 24) + 1) from rfl)]; have q := T_add g24 (show (1 : Int32).toInt = 1 from rfl) (by omega); omega
              have hJ9 : RDJ F0 (va_up n_1 24 ((n0 24) + 1)) (va_up (va_up F_1 25 (upd (F 25) (Int32.toNatClampNeg (n0 24)) iw)) 26 (upd (F 26) (Int32.toNatClampNeg (n0 24)) 1)) f (W + 1) (O + 1) true := ⟨⟨by have z := hb9.1; omega, by omega⟩, v24, RD_push gR hb9 h25 (by rw [w7]; omega) (by rw [w13, w14, w15]; exact hvz.1) p25 p26, hvs, hA9, hb9.2.1⟩
              have h8n : ∀ i, i ≠ (40 * f + W) → (va_up (va_up F_1 25 (upd (F 25) (Int32.toNatClampNeg (n0 24)) iw)) 26 (upd (F 26) (Int32.toNatClampNeg (n0 24)) 1)) 8 i = F0 8 i := fun i hi => by rw [show (va_up (va_up F_1 25 (upd (F 25) (Int32.toNatClampNeg (n0 24)) iw)) 26 (upd (F 26) (Int32.toNatClampNeg (n0 24)) 1)) 8 = (F 8) from (hx1.2.2.1 8 (by decide))]; exact h8o i hi
              have h16n : ∀ i, i ≠ (40 * f + W) → (va_up (va_up F_1 25 (upd (F 25) (Int32.toNatClampNeg (n0 24)) iw)) 26 (upd (F 26) (Int32.toNatClampNeg (n0 24)) 1)) 16 i = F0 16 i := fun i hi => by rw [show (va_up (va_up F_1 25 (upd (F 25) (Int32.toNatClampNeg (n0 24)) iw)) 26 (upd (F 26) (Int32.toNatClampNeg (n0 24)) 1)) 16 = (F 16) from (hx1.2.2.1 16 (by decide))]; exact h16o i hi
              have l3n : lo3 F0 (va_up (va_up F_1 25 (upd (F 25) (Int32.toNatClampNeg (n0 24)) iw)) 26 (upd (F 26) (Int32.toNatClampNeg (n0 24)) 1)) f := lo3_tr hlo (lo3_eq (hx1.2.2.1 18 (by decide)) (hx1.2.2.1 19 (by decide)) (hx1.2.2.1 20 (by decide)))
              exact gz_zret rfl (by first | decide | exact nrb (Or.inl (by assumption)) | exact nrb (by assumption) | (refine nrb ?_; assumption)) dX12_begins_530 (Nat.le_of_ble_eq_true rfl) (Nat.le_of_ble_eq_true rfl) (⟨_, rfl, _, _, _, _, hS_4, (fx_n (fx_F (fx_F (fx_tr (fx_tr fx_rf hx (by decide)) hx1 (by decide)) (by decide)) (by decide)) (by decide)), (by first | exact Or.inl rfl | exact Or.inr rfl | assumption | (left; assumption)), (by (try rw [(show (va_up n_1 24 ((n0 24) + 1)) 21 = (n_1 21) from rfl)]); (try rw [(show (va_up n_1 24 ((n0 24) + 1)) 4 = (n0 4) from ((hx1.1 4 (by decide)).trans (hx.1 4 (by decide))))]); omega), (by (try rw [(show (va_up n_1 24 ((n0 24) + 1)) 21 = (n_1 21) from rfl)]); omega), hA9, hb9.2.1, (fun _ => Or.inr hJ9), (by rw [hE]; unfold tlR; dsimp only; rw [if_pos hpr, ht]; exact ⟨rfl, (by (try rw [(show (va_up n_1 24 ((n0 24) + 1)) 22 = (n_1 22) from rfl)]); omega), (by (try rw [(show (va_up n_1 24 ((n0 24) + 1)) 21 = (n_1 21) from rfl)]); omega), (w17.trans h17), (fun ii hi => h25 26 (by decide) ii hi), fun z => absurd z (by omega), fun _ => ⟨v24, by rw [if_pos hpr]; exact q26⟩⟩), (fun ii hi => h25 25 (by decide) ii hi), (fun _ _ => p25), l3n, (fun i hi => ⟨h8n i (by omega), h16n i (by omega)⟩), (fun co hco _ => by rw [show ((va_up (va_up F_1 25 (upd (F 25) (Int32.toNatClampNeg (n0 24)) iw)) 26 (upd (F 26) (Int32.toNatClampNeg (n0 24)) 1)) 17 f).toInt.toNat = V1 by have z := (w17.trans h17); omega]; exact LRw_begin hb9 (RD_st gR) (by rw [w7, h7]; exact hkd.1) h8n h16n hBG hFn hco)⟩)
          · exact absurd c_484 (by decide)
    ·
      try simp only [mIn_0, lgc_lt, lgc_gt, lgc_le, lgc_ge, lgc_eq] at c_451
      try simp only [fl_lt, fl_le, fl_eq, fL_w, fL_lt, fL_le, tm1, tm10k, tm9, tm99, Int32.reduceToInt, Int64.reduceToInt, Int.not_lt, Int.not_le] at c_451
      refine gz_iload dX12_begins_454 rfl ?_
      refine gz_iconst (v := 4) dX12_begins_456 (by decide) ?_
      refine gz_icmp_eq (tgt := 466) dX12_begins_457 (by decide) (fun c_457 => ?_) (fun c_457 => ?_)
      ·
        try simp only [mIn_0, lgc_lt, lgc_gt, lgc_le, lgc_ge, lgc_eq] at c_457
        try simp only [fl_lt, fl_le, fl_eq, fL_w, fL_lt, fL_le, tm1, tm10k, tm9, tm99, Int32.reduceToInt, Int64.reduceToInt, Int.not_lt, Int.not_le] at c_457
        refine gz_iconst (v := 1) dX12_begins_466 (by decide) ?_
        refine gz_goto (tgt := 471) dX12_begins_467 (by decide) ?_
        refine gz_istore (lv' := [(8, .int 1), (0, .ref m), (4, .int kd), (7, .int iw)]) dX12_begins_471 (by decide) rfl ?_
        refine gz_iload dX12_begins_473 rfl ?_
        refine gz_if_eq (tgt := 489) dX12_begins_475 (by decide) (fun c_475 => ?_) (fun c_475 => ?_)
        · exact absurd c_475 (by decide)
        ·
          try simp only [mIn_0, lgc_lt, lgc_gt, lgc_le, lgc_ge, lgc_eq] at c_475
          try simp only [fl_lt, fl_le, fl_eq, fL_w, fL_lt, fL_le, tm1, tm10k, tm9, tm99, Int32.reduceToInt, Int64.reduceToInt, Int.not_lt, Int.not_le] at c_475
          refine gz_aload_n dX12_begins_478 rfl rfl ?_
          refine gz_bipush (v := 40) dX12_begins_479 (by decide) ?_
          refine scX12_325 (k_X12_takesE (x := 40) hS (by (try rw [(show n 4 = (n0 4) from (hx.1 4 (by decide)))]); omega) (rB_cg (hx.2.2.1 3 (by decide)) hB0) (by omega) (by decide)) hS.1 ⟨(Nat.le_of_ble_eq_true rfl), (Nat.le_of_ble_eq_true rfl)⟩ ⟨(Nat.le_of_ble_eq_true rfl), (Nat.le_of_ble_eq_true rfl)⟩ rfl rfl (Nat.le_of_ble_eq_true rfl) dX12_begins_481 ?_
          rintro r_5 f_5 ⟨n_5, z_5, F_5, G_5, hS_5, hx5, hb_5, hT_5, hm_5, hE_5⟩
          try simp only [(show n_5 4 = (n0 4) from ((hx5.1 4 (by decide)).trans (hx.1 4 (by decide))))] at hb_5 hT_5 hm_5 hE_5
          try simp only [(show F_5 3 = (F0 3) from ((hx5.2.2.1 3 (by decide)).trans (hx.2.2.1 3 (by decide))))] at hb_5 hT_5 hm_5 hE_5
          try simp only [(show n 4 = (n0 4) from (hx.1 4 (by decide)))] at hb_5 hT_5 hm_5 hE_5
          try simp only [(show F 3 = (F0 3) from (hx.2.2.1 3 (by decide)))] at hb_5 hT_5 hm_5 hE_5
          rw [show (n 21).toInt.toNat = Q by omega, show ((40 : Int32)).toInt = 40 from rfl] at hE_5
          have hpr : K = 3 ∨ K = 4 ∨ K = 5 := by omega
          cases ht : tkR (tX (F0 3) (n0 4)) Q 40 with
          | inl cht =>
            rw [ht] at hE_5
            obtain ⟨a1ht, a2ht⟩ := hE_5
            refine gz_ev (w := .int 0) (congrArg Value.int a1ht) ?_
            refine gz_if_ne (tgt := 489) dX12_begins_484 (by decide) (fun c_484 => ?_) (fun c_484 => ?_)
            · exact absurd c_484 (by decide)
            ·
              try simp only [mIn_0, lgc_lt, lgc_gt, lgc_le, lgc_ge, lgc_eq] at c_484
              try simp only [fl_lt, fl_le, fl_eq, fL_w, fL_lt, fL_le, tm1, tm10k, tm9, tm99, Int32.reduceToInt, Int64.reduceToInt, Int.not_lt, Int.not_le] at c_484
              refine gz_iconst (v := 0) dX12_begins_487 (by decide) ?_
              have h8n : ∀ i, i ≠ (40 * f + W) → F_5 8 i = F0 8 i := fun i hi => by rw [show F_5 8 = (F 8) from (hx5.2.2.1 8 (by decide))]; exact h8o i hi
              have h16n : ∀ i, i ≠ (40 * f + W) → F_5 16 i = F0 16 i := fun i hi => by rw [show F_5 16 = (F 16) from (hx5.2.2.1 16 (by decide))]; exact h16o i hi
              have l3n : lo3 F0 F_5 f := lo3_tr hlo (lo3_eq (hx5.2.2.1 18 (by decide)) (hx5.2.2.1 19 (by decide)) (hx5.2.2.1 20 (by decide)))
              have sm_hb9 : ∀ r, r ∈ [6, 7, 9, 10, 11, 12] → F_5 r = F r := by
                intro r hr
                simp only [List.mem_cons, List.not_mem_nil, or_false] at hr
                rcases hr with rfl | rfl | rfl | rfl | rfl | rfl
                · exact (hx5.2.2.1 6 (by decide))
                · exact (hx5.2.2.1 7 (by decide))
                · exact (hx5.2.2.1 9 (by decide))
                · exact (hx5.2.2.1 10 (by decide))
                · exact (hx5.2.2.1 11 (by decide))
                · exact (hx5.2.2.1 12 (by decide))
              have of_hb9 : ∀ r, r ∈ [13, 14, 15] → ∀ i, i ≠ (40 * f + W) → F_5 r i = F r i := by
                intro r hr i hi
                rw [← eci] at hi
                simp only [List.mem_cons, List.not_mem_nil, or_false] at hr
                rcases hr with rfl | rfl | rfl
                · rw [show F_5 13 = (F 13) from (hx5.2.2.1 13 (by decide))]
                · rw [show F_5 14 = (F 14) from (hx5.2.2.1 14 (by decide))]
                · rw [show F_5 15 = (F 15) from (hx5.2.2.1 15 (by decide))]
              have hb9 : RDb F0 F_5 f W O := RDb_keep hb sm_hb9 of_hb9
              have hA9 : rAll F_5 := by
                intro q hq
                obtain ⟨qa0, qb0, qc0, qd0⟩ := hA q hq
                rw [show F_5 13 = (F 13) from (hx5.2.2.1 13 (by decide)), show F_5 14 = (F 14) from (hx5.2.2.1 14 (by decide)), show F_5 15 = (F 15) from (hx5.2.2.1 15 (by decide)), show F_5 19 = (F 19) from (hx5.2.2.1 19 (by decide))]
                refine ⟨?_, ?_, ?_, ?_⟩ <;> (try simp only [updE]) <;> (repeat' split) <;> first | omega | decide
              exact gz_zret rfl (by first | decide | exact nrb (Or.inl (by assumption)) | exact nrb (by assumption) | (refine nrb ?_; assumption)) dX12_begins_488 (Nat.le_of_ble_eq_true rfl) (Nat.le_of_ble_eq_true rfl) (⟨_, rfl, _, _, _, _, hS_5, (fx_tr (fx_tr fx_rf hx (by decide)) hx5 (by decide)), (by first | exact Or.inl rfl | exact Or.inr rfl | assumption | (left; assumption)), (by (try rw [(show n_5 21 = (n_5 21) from rfl)]); (try rw [(show n_5 4 = (n0 4) from ((hx5.1 4 (by decide)).trans (hx.1 4 (by decide))))]); omega), (by (try rw [(show n_5 21 = (n_5 21) from rfl)]); omega), hA9, hb9.2.1, (fun h => absurd h (by decide)), (by rw [hE]; unfold tlR; dsimp only; rw [if_pos hpr, ht]; exact ⟨rfl, a2ht⟩), (fun ii _ => by rw [show F_5 25 = F 25 from (hx5.2.2.1 25 (by decide))]; exact congrFun (hx.2.2.1 25 (by decide)) ii), (fun z => absurd z (by decide)), l3n, (fun i hi => ⟨h8n i (by omega), h16n i (by omega)⟩), (fun _ _ z => absurd z (by decide))⟩)
          | inr rht =>
            rw [ht] at hE_5
            obtain ⟨a1ht, a2ht, a3ht⟩ := hE_5
            refine gz_ev (w := .int 1) (congrArg Value.int a1ht) ?_
            refine gz_if_ne (tgt := 489) dX12_begins_484 (by decide) (fun c_484 => ?_) (fun c_484 => ?_)
            ·
              try simp only [mIn_0, lgc_lt, lgc_gt, lgc_le, lgc_ge, lgc_eq] at c_484
              try simp only [fl_lt, fl_le, fl_eq, fL_w, fL_lt, fL_le, tm1, tm10k, tm9, tm99, Int32.reduceToInt, Int64.reduceToInt, Int.not_lt, Int.not_le] at c_484
              refine gz_aload_n dX12_begins_489 rfl rfl ?_
              refine mg_62 hS_5 dX12_begins_490 ?_
              refine gz_aload_n dX12_begins_493 rfl rfl ?_
              refine mg_319 hS_5 dX12_begins_494 ?_
              refine gz_ev (w := .int (n0 24)) (congrArg Value.int ((hx5.1 24 (by decide)).trans (hx.1 24 (by decide)))) ?_
              refine gz_iload dX12_begins_497 rfl ?_
              refine m_iast 25 hS_5 rfl (N := 40) rfl ((by exact vin_T (rfl : (n0 24).toInt = (n0 24).toInt) (by omega) (by omega))) dX12_begins_499 (fun f_6 hS_6q => ?_)
              have hS_6 : mS cy m a f0 n_5 z_5 (va_up F_5 25 (upd (F 25) (Int32.toNatClampNeg (n0 24)) iw)) G_5 f_6 := (by have e9 := (show F_5 25 = (F 25) from (hx5.2.2.1 25 (by decide))); rw [e9] at hS_6q; exact hS_6q)
              refine gz_aload_n dX12_begins_500 rfl rfl ?_
              refine mg_65 hS_6 dX12_begins_501 ?_
              refine gz_aload_n dX12_begins_504 rfl rfl ?_
              refine mg_319 hS_6 dX12_begins_505 ?_
              refine gz_ev (w := .int (n0 24)) (congrArg Value.int ((hx5.1 24 (by decide)).trans (hx.1 24 (by decide)))) ?_
              refine gz_iload dX12_begins_508 rfl ?_
              refine gz_if_eq (tgt := 517) dX12_begins_510 (by decide) (fun c_510 => ?_) (fun c_510 => ?_)
              · exact absurd c_510 (by decide)
              ·
                try simp only [mIn_0, lgc_lt, lgc_gt, lgc_le, lgc_ge, lgc_eq] at c_510
                try simp only [fl_lt, fl_le, fl_eq, fL_w, fL_lt, fL_le, tm1, tm10k, tm9, tm99, Int32.reduceToInt, Int64.reduceToInt, Int.not_lt, Int.not_le] at c_510
                refine gz_iconst (v := 1) dX12_begins_513 (by decide) ?_
                refine gz_goto (tgt := 518) dX12_begins_514 (by decide) ?_
                refine m_iast 26 hS_6 rfl (N := 40) rfl ((by exact vin_T (rfl : (n0 24).toInt = (n0 24).toInt) (by omega) (by omega))) dX12_begins_518 (fun f_7 hS_7q => ?_)
                have hS_7 : mS cy m a f0 n_5 z_5 (va_up (va_up F_5 25 (upd (F 25) (Int32.toNatClampNeg (n0 24)) iw)) 26 (upd (F 26) (Int32.toNatClampNeg (n0 24)) 1)) G_5 f_7 := (by have e9 := (show (va_up F_5 25 (upd (F 25) (Int32.toNatClampNeg (n0 24)) iw)) 26 = (F 26) from (hx5.2.2.1 26 (by decide))); rw [e9] at hS_7q; exact hS_7q)
                refine gz_aload_n dX12_begins_519 rfl rfl ?_
                refine gz_dup dX12_begins_520 rfl ?_
                refine mg_319 hS_7 dX12_begins_521 ?_
                refine gz_ev (w := .int (n0 24)) (congrArg Value.int ((hx5.1 24 (by decide)).trans (hx.1 24 (by decide)))) ?_
                refine gz_iconst (v := 1) dX12_begins_524 (by decide) ?_
                refine gz_iadd dX12_begins_525 ?_
                refine mp_319 hS_7 dX12_begins_526 (fun f_8 hS_8 => ?_)
                refine gz_iconst (v := 1) dX12_begins_529 (by decide) ?_
                have sm_hb9 : ∀ r, r ∈ [6, 7, 9, 10, 11, 12] → (va_up (va_up F_5 25 (upd (F 25) (Int32.toNatClampNeg (n0 24)) iw)) 26 (upd (F 26) (Int32.toNatClampNeg (n0 24)) 1)) r = F r := by
                  intro r hr
                  simp only [List.mem_cons, List.not_mem_nil, or_false] at hr
                  rcases hr with rfl | rfl | rfl | rfl | rfl | rfl
                  · exact (hx5.2.2.1 6 (by decide))
                  · exact (hx5.2.2.1 7 (by decide))
                  · exact (hx5.2.2.1 9 (by decide))
                  · exact (hx5.2.2.1 10 (by decide))
                  · exact (hx5.2.2.1 11 (by decide))
                  · exact (hx5.2.2.1 12 (by decide))
                have of_hb9 : ∀ r, r ∈ [13, 14, 15] → ∀ i, i ≠ (40 * f + W) → (va_up (va_up F_5 25 (upd (F 25) (Int32.toNatClampNeg (n0 24)) iw)) 26 (upd (F 26) (Int32.toNatClampNeg (n0 24)) 1)) r i = F r i := by
                  intro r hr i hi
                  rw [← eci] at hi
                  simp only [List.mem_cons, List.not_mem_nil, or_false] at hr
                  rcases hr with rfl | rfl | rfl
                  · rw [show (va_up (va_up F_5 25 (upd (F 25) (Int32.toNatClampNeg (n0 24)) iw)) 26 (upd (F 26) (Int32.toNatClampNeg (n0 24)) 1)) 13 = (F 13) from (hx5.2.2.1 13 (by decide))]
                  · rw [show (va_up (va_up F_5 25 (upd (F 25) (Int32.toNatClampNeg (n0 24)) iw)) 26 (upd (F 26) (Int32.toNatClampNeg (n0 24)) 1)) 14 = (F 14) from (hx5.2.2.1 14 (by decide))]
                  · rw [show (va_up (va_up F_5 25 (upd (F 25) (Int32.toNatClampNeg (n0 24)) iw)) 26 (upd (F 26) (Int32.toNatClampNeg (n0 24)) 1)) 15 = (F 15) from (hx5.2.2.1 15 (by decide))]
                have hb9 : RDb F0 (va_up (va_up F_5 25 (upd (F 25) (Int32.toNatClampNeg (n0 24)) iw)) 26 (upd (F 26) (Int32.toNatClampNeg (n0 24)) 1)) f W O := RDb_keep hb sm_hb9 of_hb9
                have hA9 : rAll (va_up (va_up F_5 25 (upd (F 25) (Int32.toNatClampNeg (n0 24)) iw)) 26 (upd (F 26) (Int32.toNatClampNeg (n0 24)) 1)) := by
                  intro q hq
                  obtain ⟨qa0, qb0, qc0, qd0⟩ := hA q hq
                  rw [show (va_up (va_up F_5 25 (upd (F 25) (Int32.toNatClampNeg (n0 24)) iw)) 26 (upd (F 26) (Int32.toNatClampNeg (n0 24)) 1)) 13 = (F 13) from (hx5.2.2.1 13 (by decide)), show (va_up (va_up F_5 25 (upd (F 25) (Int32.toNatClampNeg (n0 24)) iw)) 26 (upd (F 26) (Int32.toNatClampNeg (n0 24)) 1)) 14 = (F 14) from (hx5.2.2.1 14 (by decide)), show (va_up (va_up F_5 25 (upd (F 25) (Int32.toNatClampNeg (n0 24)) iw)) 26 (upd (F 26) (Int32.toNatClampNeg (n0 24)) 1)) 15 = (F 15) from (hx5.2.2.1 15 (by decide)), show (va_up (va_up F_5 25 (upd (F 25) (Int32.toNatClampNeg (n0 24)) iw)) 26 (upd (F 26) (Int32.toNatClampNeg (n0 24)) 1)) 19 = (F 19) from (hx5.2.2.1 19 (by decide))]
                  refine ⟨?_, ?_, ?_, ?_⟩ <;> (try simp only [updE]) <;> (repeat' split) <;> first | omega | decide
                have w7 : (va_up (va_up F_5 25 (upd (F 25) (Int32.toNatClampNeg (n0 24)) iw)) 26 (upd (F 26) (Int32.toNatClampNeg (n0 24)) 1)) 7 (40 * f + W) = F 7 (40 * f + W) := by rw [show (va_up (va_up F_5 25 (upd (F 25) (Int32.toNatClampNeg (n0 24)) iw)) 26 (upd (F 26) (Int32.toNatClampNeg (n0 24)) 1)) 7 = (F 7) from (hx5.2.2.1 7 (by decide))]
                have w13 : (va_up (va_up F_5 25 (upd (F 25) (Int32.toNatClampNeg (n0 24)) iw)) 26 (upd (F 26) (Int32.toNatClampNeg (n0 24)) 1)) 13 (40 * f + W) = F 13 (40 * f + W) := by rw [show (va_up (va_up F_5 25 (upd (F 25) (Int32.toNatClampNeg (n0 24)) iw)) 26 (upd (F 26) (Int32.toNatClampNeg (n0 24)) 1)) 13 = (F 13) from (hx5.2.2.1 13 (by decide))]
                have w14 : (va_up (va_up F_5 25 (upd (F 25) (Int32.toNatClampNeg (n0 24)) iw)) 26 (upd (F 26) (Int32.toNatClampNeg (n0 24)) 1)) 14 (40 * f + W) = F 14 (40 * f + W) := by rw [show (va_up (va_up F_5 25 (upd (F 25) (Int32.toNatClampNeg (n0 24)) iw)) 26 (upd (F 26) (Int32.toNatClampNeg (n0 24)) 1)) 14 = (F 14) from (hx5.2.2.1 14 (by decide))]
                have w15 : (va_up (va_up F_5 25 (upd (F 25) (Int32.toNatClampNeg (n0 24)) iw)) 26 (upd (F 26) (Int32.toNatClampNeg (n0 24)) 1)) 15 (40 * f + W) = F 15 (40 * f + W) := by rw [show (va_up (va_up F_5 25 (upd (F 25) (Int32.toNatClampNeg (n0 24)) iw)) 26 (upd (F 26) (Int32.toNatClampNeg (n0 24)) 1)) 15 = (F 15) from (hx5.2.2.1 15 (by decide))]
                have w17 : ((va_up (va_up F_5 25 (upd (F 25) (Int32.toNatClampNeg (n0 24)) iw)) 26 (upd (F 26) (Int32.toNatClampNeg (n0 24)) 1)) 17 f).toInt = (F 17 (Int32.toNatClampNeg (n0 5))).toInt := by rw [show (va_up (va_up F_5 25 (upd (F 25) (Int32.toNatClampNeg (n0 24)) iw)) 26 (upd (F 26) (Int32.toNatClampNeg (n0 24)) 1)) 17 = (F 17) from (hx5.2.2.1 17 (by decide)), ecf]
                have hvs : (vsF (va_up (va_up F_5 25 (upd (F 25) (Int32.toNatClampNeg (n0 24)) iw)) 26 (upd (F 26) (Int32.toNatClampNeg (n0 24)) 1)) f 0 (W + 1) : Int) ≤ ((va_up (va_up F_5 25 (upd (F 25) (Int32.toNatClampNeg (n0 24)) iw)) 26 (upd (F 26) (Int32.toNatClampNeg (n0 24)) 1)) 17 f).toInt ∧ ((va_up (va_up F_5 25 (upd (F 25) (Int32.toNatClampNeg (n0 24)) iw)) 26 (upd (F 26) (Int32.toNatClampNeg (n0 24)) 1)) 17 f).toInt ≤ 40 := by rw [RD_vs hb9, w17]; unfold owK; rw [w13, w15]; omega
                have h25 : ∀ r, r ∈ [25, 26] → ∀ i, i < O → (va_up (va_up F_5 25 (upd (F 25) (Int32.toNatClampNeg (n0 24)) iw)) 26 (upd (F 26) (Int32.toNatClampNeg (n0 24)) 1)) r i = F0 r i := by
                  intro r hr i hi
                  simp only [List.mem_cons, List.not_mem_nil, or_false] at hr
                  rcases hr with rfl | rfl
                  · rw [show (va_up (va_up F_5 25 (upd (F 25) (Int32.toNatClampNeg (n0 24)) iw)) 26 (upd (F 26) (Int32.toNatClampNeg (n0 24)) 1)) 25 = (upd (F 25) (Int32.toNatClampNeg (n0 24)) iw) from rfl, eco, updE, if_neg (by omega)]; exact congrFun (hx.2.2.1 25 (by decide)) _
                  · rw [show (va_up (va_up F_5 25 (upd (F 25) (Int32.toNatClampNeg (n0 24)) iw)) 26 (upd (F 26) (Int32.toNatClampNeg (n0 24)) 1)) 26 = (upd (F 26) (Int32.toNatClampNeg (n0 24)) 1) from rfl, eco, updE, if_neg (by omega)]; exact congrFun (hx.2.2.1 26 (by decide)) _
                have hFr : ∀ r, r ∈ [8, 13, 14, 15, 16] → (va_up (va_up F_5 25 (upd (F 25) (Int32.toNatClampNeg (n0 24)) iw)) 26 (upd (F 26) (Int32.toNatClampNeg (n0 24)) 1)) r (40 * f + W) = F r (40 * f + W) := by
                  intro r hr
                  simp only [List.mem_cons, List.not_mem_nil, or_false] at hr
                  rcases hr with rfl | rfl | rfl | rfl | rfl
                  · rw [show (va_up (va_up F_5 25 (upd (F 25) (Int32.toNatClampNeg (n0 24)) iw)) 26 (upd (F 26) (Int32.toNatClampNeg (n0 24)) 1)) 8 = (F 8) from (hx5.2.2.1 8 (by decide))]
                  · rw [show (va_up (va_up F_5 25 (upd (F 25) (Int32.toNatClampNeg (n0 24)) iw)) 26 (upd (F 26) (Int32.toNatClampNeg (n0 24)) 1)) 13 = (F 13) from (hx5.2.2.1 13 (by decide))]
                  · rw [show (va_up (va_up F_5 25 (upd (F 25) (Int32.toNatClampNeg (n0 24)) iw)) 26 (upd (F 26) (Int32.toNatClampNeg (n0 24)) 1)) 14 = (F 14) from (hx5.2.2.1 14 (by decide))]
                  · rw [show (va_up (va_up F_5 25 (upd (F 25) (Int32.toNatClampNeg (n0 24)) iw)) 26 (upd (F 26) (Int32.toNatClampNeg (n0 24)) 1)) 15 = (F 15) from (hx5.2.2.1 15 (by decide))]
                  · rw [show (va_up (va_up F_5 25 (upd (F 25) (Int32.toNatClampNeg (n0 24)) iw)) 26 (upd (F 26) (Int32.toNatClampNeg (n0 24)) 1)) 16 = (F 16) from (hx5.2.2.1 16 (by decide))]
                have hFn : hdF F0 (va_up (va_up F_5 25 (upd (F 25) (Int32.toNatClampNeg (n0 24)) iw)) 26 (upd (F 26) (Int32.toNatClampNeg (n0 24)) 1)) f W K (F0 17 f).toInt.toNat V1 BG := hdF_cg hF hFr ⟨(hx5.2.2.1 18 (by decide)), (hx5.2.2.1 19 (by decide)), (hx5.2.2.1 20 (by decide))⟩
                have p25 : ((va_up (va_up F_5 25 (upd (F 25) (Int32.toNatClampNeg (n0 24)) iw)) 26 (upd (F 26) (Int32.toNatClampNeg (n0 24)) 1)) 25 O).toInt = 40 * f + W := by rw [show (va_up (va_up F_5 25 (upd (F 25) (Int32.toNatClampNeg (n0 24)) iw)) 26 (upd (F 26) (Int32.toNatClampNeg (n0 24)) 1)) 25 = (upd (F 25) (Int32.toNatClampNeg (n0 24)) iw) from rfl, eco, updE, if_pos rfl]; exact hwi.1
                have q26 : ((va_up (va_up F_5 25 (upd (F 25) (Int32.toNatClampNeg (n0 24)) iw)) 26 (upd (F 26) (Int32.toNatClampNeg (n0 24)) 1)) 26 O).toInt = 1 := by rw [show (va_up (va_up F_5 25 (upd (F 25) (Int32.toNatClampNeg (n0 24)) iw)) 26 (upd (F 26) (Int32.toNatClampNeg (n0 24)) 1)) 26 = (upd (F 26) (Int32.toNatClampNeg (n0 24)) 1) from rfl, eco, updE, if_pos rfl]; rfl
                have p26 : (prK (va_up (va_up F_5 25 (upd (F 25) (Int32.toNatClampNeg (n0 24)) iw)) 26 (upd (F 26) (Int32.toNatClampNeg (n0 24)) 1)) f W ∧ ((va_up (va_up F_5 25 (upd (F 25) (Int32.toNatClampNeg (n0 24)) iw)) 26 (upd (F 26) (Int32.toNatClampNeg (n0 24)) 1)) 26 O).toInt = 1) ∨ (¬ prK (va_up (va_up F_5 25 (upd (F 25) (Int32.toNatClampNeg (n0 24)) iw)) 26 (upd (F 26) (Int32.toNatClampNeg (n0 24)) 1)) f W ∧ ((va_up (va_up F_5 25 (upd (F 25) (Int32.toNatClampNeg (n0 24)) iw)) 26 (upd (F 26) (Int32.toNatClampNeg (n0 24)) 1)) 26 O).toInt = 0) := by
                  refine Or.inl ⟨by unfold prK; rw [w7, h7]; omega, q26⟩
                have v24 : ((va_up n_5 24 ((n0 24) + 1)) 24).toInt = ((O + 1 : Nat) : Int) := by rw [(show (va_up n_5 24 ((n0 24) + 1)) 24 = ((n0 24) + 1) from rfl)]; have q := T_add g24 (show (1 : Int32).toInt = 1 from rfl) (by omega); omega
                have hJ9 : RDJ F0 (va_up n_5 24 ((n0 24) + 1)) (va_up (va_up F_5 25 (upd (F 25) (Int32.toNatClampNeg (n0 24)) iw)) 26 (upd (F 26) (Int32.toNatClampNeg (n0 24)) 1)) f (W + 1) (O + 1) true := ⟨⟨by have z := hb9.1; omega, by omega⟩, v24, RD_push gR hb9 h25 (by rw [w7]; omega) (by rw [w13, w14, w15]; exact hvz.1) p25 p26, hvs, hA9, hb9.2.1⟩
                have h8n : ∀ i, i ≠ (40 * f + W) → (va_up (va_up F_5 25 (upd (F 25) (Int32.toNatClampNeg (n0 24)) iw)) 26 (upd (F 26) (Int32.toNatClampNeg (n0 24)) 1)) 8 i = F0 8 i := fun i hi => by rw [show (va_up (va_up F_5 25 (upd (F 25) (Int32.toNatClampNeg (n0 24)) iw)) 26 (upd (F 26) (Int32.toNatClampNeg (n0 24)) 1)) 8 = (F 8) from (hx5.2.2.1 8 (by decide))]; exact h8o i hi
                have h16n : ∀ i, i ≠ (40 * f + W) → (va_up (va_up F_5 25 (upd (F 25) (Int32.toNatClampNeg (n0 24)) iw)) 26 (upd (F 26) (Int32.toNatClampNeg (n0 24)) 1)) 16 i = F0 16 i := fun i hi => by rw [show (va_up (va_up F_5 25 (upd (F 25) (Int32.toNatClampNeg (n0 24)) iw)) 26 (upd (F 26) (Int32.toNatClampNeg (n0 24)) 1)) 16 = (F 16) from (hx5.2.2.1 16 (by decide))]; exact h16o i hi
                have l3n : lo3 F0 (va_up (va_up F_5 25 (upd (F 25) (Int32.toNatClampNeg (n0 24)) iw)) 26 (upd (F 26) (Int32.toNatClampNeg (n0 24)) 1)) f := lo3_tr hlo (lo3_eq (hx5.2.2.1 18 (by decide)) (hx5.2.2.1 19 (by decide)) (hx5.2.2.1 20 (by decide)))
                exact gz_zret rfl (by first | decide | exact nrb (Or.inl (by assumption)) | exact nrb (by assumption) | (refine nrb ?_; assumption)) dX12_begins_530 (Nat.le_of_ble_eq_true rfl) (Nat.le_of_ble_eq_true rfl) (⟨_, rfl, _, _, _, _, hS_8, (fx_n (fx_F (fx_F (fx_tr (fx_tr fx_rf hx (by decide)) hx5 (by decide)) (by decide)) (by decide)) (by decide)), (by first | exact Or.inl rfl | exact Or.inr rfl | assumption | (left; assumption)), (by (try rw [(show (va_up n_5 24 ((n0 24) + 1)) 21 = (n_5 21) from rfl)]); (try rw [(show (va_up n_5 24 ((n0 24) + 1)) 4 = (n0 4) from ((hx5.1 4 (by decide)).trans (hx.1 4 (by decide))))]); omega), (by (try rw [(show (va_up n_5 24 ((n0 24) + 1)) 21 = (n_5 21) from rfl)]); omega), hA9, hb9.2.1, (fun _ => Or.inr hJ9), (by rw [hE]; unfold tlR; dsimp only; rw [if_pos hpr, ht]; exact ⟨rfl, (by (try rw [(show (va_up n_5 24 ((n0 24) + 1)) 22 = (n_5 22) from rfl)]); omega), (by (try rw [(show (va_up n_5 24 ((n0 24) + 1)) 21 = (n_5 21) from rfl)]); omega), (w17.trans h17), (fun ii hi => h25 26 (by decide) ii hi), fun z => absurd z (by omega), fun _ => ⟨v24, by rw [if_pos hpr]; exact q26⟩⟩), (fun ii hi => h25 25 (by decide) ii hi), (fun _ _ => p25), l3n, (fun i hi => ⟨h8n i (by omega), h16n i (by omega)⟩), (fun co hco _ => by rw [show ((va_up (va_up F_5 25 (upd (F 25) (Int32.toNatClampNeg (n0 24)) iw)) 26 (upd (F 26) (Int32.toNatClampNeg (n0 24)) 1)) 17 f).toInt.toNat = V1 by have z := (w17.trans h17); omega]; exact LRw_begin hb9 (RD_st gR) (by rw [w7, h7]; exact hkd.1) h8n h16n hBG hFn hco)⟩)
            · exact absurd c_484 (by decide)
      ·
        try simp only [mIn_0, lgc_lt, lgc_gt, lgc_le, lgc_ge, lgc_eq] at c_457
        try simp only [fl_lt, fl_le, fl_eq, fL_w, fL_lt, fL_le, tm1, tm10k, tm9, tm99, Int32.reduceToInt, Int64.reduceToInt, Int.not_lt, Int.not_le] at c_457
        refine gz_iload dX12_begins_460 rfl ?_
        refine gz_iconst (v := 5) dX12_begins_462 (by decide) ?_
        refine gz_icmp_ne (tgt := 470) dX12_begins_463 (by decide) (fun c_463 => ?_) (fun c_463 => ?_)
        ·
          try simp only [mIn_0, lgc_lt, lgc_gt, lgc_le, lgc_ge, lgc_eq] at c_463
          try simp only [fl_lt, fl_le, fl_eq, fL_w, fL_lt, fL_le, tm1, tm10k, tm9, tm99, Int32.reduceToInt, Int64.reduceToInt, Int.not_lt, Int.not_le] at c_463
          refine gz_iconst (v := 0) dX12_begins_470 (by decide) ?_
          refine gz_istore (lv' := [(8, .int 0), (0, .ref m), (4, .int kd), (7, .int iw)]) dX12_begins_471 (by decide) rfl ?_
          refine gz_iload dX12_begins_473 rfl ?_
          refine gz_if_eq (tgt := 489) dX12_begins_475 (by decide) (fun c_475 => ?_) (fun c_475 => ?_)
          ·
            try simp only [mIn_0, lgc_lt, lgc_gt, lgc_le, lgc_ge, lgc_eq] at c_475
            try simp only [fl_lt, fl_le, fl_eq, fL_w, fL_lt, fL_le, tm1, tm10k, tm9, tm99, Int32.reduceToInt, Int64.reduceToInt, Int.not_lt, Int.not_le] at c_475
            refine gz_aload_n dX12_begins_489 rfl rfl ?_
            refine mg_62 hS dX12_begins_490 ?_
            refine gz_aload_n dX12_begins_493 rfl rfl ?_
            refine mg_319 hS dX12_begins_494 ?_
            refine gz_ev (w := .int (n0 24)) (congrArg Value.int (hx.1 24 (by decide))) ?_
            refine gz_iload dX12_begins_497 rfl ?_
            refine m_iast 25 hS rfl (N := 40) rfl ((by exact vin_T (rfl : (n0 24).toInt = (n0 24).toInt) (by omega) (by omega))) dX12_begins_499 (fun f_9 hS_9q => ?_)
            have hS_9 : mS cy m a f0 n z (va_up F 25 (upd (F 25) (Int32.toNatClampNeg (n0 24)) iw)) G f_9 := hS_9q
            refine gz_aload_n dX12_begins_500 rfl rfl ?_
            refine mg_65 hS_9 dX12_begins_501 ?_
            refine gz_aload_n dX12_begins_504 rfl rfl ?_
            refine mg_319 hS_9 dX12_begins_505 ?_
            refine gz_ev (w := .int (n0 24)) (congrArg Value.int (hx.1 24 (by decide))) ?_
            refine gz_iload dX12_begins_508 rfl ?_
            refine gz_if_eq (tgt := 517) dX12_begins_510 (by decide) (fun c_510 => ?_) (fun c_510 => ?_)
            ·
              try simp only [mIn_0, lgc_lt, lgc_gt, lgc_le, lgc_ge, lgc_eq] at c_510
              try simp only [fl_lt, fl_le, fl_eq, fL_w, fL_lt, fL_le, tm1, tm10k, tm9, tm99, Int32.reduceToInt, Int64.reduceToInt, Int.not_lt, Int.not_le] at c_510
              refine gz_iconst (v := 0) dX12_begins_517 (by decide) ?_
              refine m_iast 26 hS_9 rfl (N := 40) rfl ((by exact vin_T (rfl : (n0 24).toInt = (n0 24).toInt) (by omega) (by omega))) dX12_begins_518 (fun f_10 hS_10q => ?_)
              have hS_10 : mS cy m a f0 n z (va_up (va_up F 25 (upd (F 25) (Int32.toNatClampNeg (n0 24)) iw)) 26 (upd (F 26) (Int32.toNatClampNeg (n0 24)) 0)) G f_10 := hS_10q
              refine gz_aload_n dX12_begins_519 rfl rfl ?_
              refine gz_dup dX12_begins_520 rfl ?_
              refine mg_319 hS_10 dX12_begins_521 ?_
              refine gz_ev (w := .int (n0 24)) (congrArg Value.int (hx.1 24 (by decide))) ?_
              refine gz_iconst (v := 1) dX12_begins_524 (by decide) ?_
              refine gz_iadd dX12_begins_525 ?_
              refine mp_319 hS_10 dX12_begins_526 (fun f_11 hS_11 => ?_)
              refine gz_iconst (v := 1) dX12_begins_529 (by decide) ?_
              have sm_hb9 : ∀ r, r ∈ [6, 7, 9, 10, 11, 12] → (va_up (va_up F 25 (upd (F 25) (Int32.toNatClampNeg (n0 24)) iw)) 26 (upd (F 26) (Int32.toNatClampNeg (n0 24)) 0)) r = F r := by
                intro r hr
                simp only [List.mem_cons, List.not_mem_nil, or_false] at hr
                rcases hr with rfl | rfl | rfl | rfl | rfl | rfl
                · exact rfl
                · exact rfl
                · exact rfl
                · exact rfl
                · exact rfl
                · exact rfl
              have of_hb9 : ∀ r, r ∈ [13, 14, 15] → ∀ i, i ≠ (40 * f + W) → (va_up (va_up F 25 (upd (F 25) (Int32.toNatClampNeg (n0 24)) iw)) 26 (upd (F 26) (Int32.toNatClampNeg (n0 24)) 0)) r i = F r i := by
                intro r hr i hi
                rw [← eci] at hi
                simp only [List.mem_cons, List.not_mem_nil, or_false] at hr
                rcases hr with rfl | rfl | rfl
                · rw [show (va_up (va_up F 25 (upd (F 25) (Int32.toNatClampNeg (n0 24)) iw)) 26 (upd (F 26) (Int32.toNatClampNeg (n0 24)) 0)) 13 = (F 13) from rfl]
                · rw [show (va_up (va_up F 25 (upd (F 25) (Int32.toNatClampNeg (n0 24)) iw)) 26 (upd (F 26) (Int32.toNatClampNeg (n0 24)) 0)) 14 = (F 14) from rfl]
                · rw [show (va_up (va_up F 25 (upd (F 25) (Int32.toNatClampNeg (n0 24)) iw)) 26 (upd (F 26) (Int32.toNatClampNeg (n0 24)) 0)) 15 = (F 15) from rfl]
              have hb9 : RDb F0 (va_up (va_up F 25 (upd (F 25) (Int32.toNatClampNeg (n0 24)) iw)) 26 (upd (F 26) (Int32.toNatClampNeg (n0 24)) 0)) f W O := RDb_keep hb sm_hb9 of_hb9
              have hA9 : rAll (va_up (va_up F 25 (upd (F 25) (Int32.toNatClampNeg (n0 24)) iw)) 26 (upd (F 26) (Int32.toNatClampNeg (n0 24)) 0)) := by
                intro q hq
                obtain ⟨qa0, qb0, qc0, qd0⟩ := hA q hq
                rw [show (va_up (va_up F 25 (upd (F 25) (Int32.toNatClampNeg (n0 24)) iw)) 26 (upd (F 26) (Int32.toNatClampNeg (n0 24)) 0)) 13 = (F 13) from rfl, show (va_up (va_up F 25 (upd (F 25) (Int32.toNatClampNeg (n0 24)) iw)) 26 (upd (F 26) (Int32.toNatClampNeg (n0 24)) 0)) 14 = (F 14) from rfl, show (va_up (va_up F 25 (upd (F 25) (Int32.toNatClampNeg (n0 24)) iw)) 26 (upd (F 26) (Int32.toNatClampNeg (n0 24)) 0)) 15 = (F 15) from rfl, show (va_up (va_up F 25 (upd (F 25) (Int32.toNatClampNeg (n0 24)) iw)) 26 (upd (F 26) (Int32.toNatClampNeg (n0 24)) 0)) 19 = (F 19) from rfl]
                refine ⟨?_, ?_, ?_, ?_⟩ <;> (try simp only [updE]) <;> (repeat' split) <;> first | omega | decide
              have w7 : (va_up (va_up F 25 (upd (F 25) (Int32.toNatClampNeg (n0 24)) iw)) 26 (upd (F 26) (Int32.toNatClampNeg (n0 24)) 0)) 7 (40 * f + W) = F 7 (40 * f + W) := by rw [show (va_up (va_up F 25 (upd (F 25) (Int32.toNatClampNeg (n0 24)) iw)) 26 (upd (F 26) (Int32.toNatClampNeg (n0 24)) 0)) 7 = (F 7) from rfl]
              have w13 : (va_up (va_up F 25 (upd (F 25) (Int32.toNatClampNeg (n0 24)) iw)) 26 (upd (F 26) (Int32.toNatClampNeg (n0 24)) 0)) 13 (40 * f + W) = F 13 (40 * f + W) := by rw [show (va_up (va_up F 25 (upd (F 25) (Int32.toNatClampNeg (n0 24)) iw)) 26 (upd (F 26) (Int32.toNatClampNeg (n0 24)) 0)) 13 = (F 13) from rfl]
              have w14 : (va_up (va_up F 25 (upd (F 25) (Int32.toNatClampNeg (n0 24)) iw)) 26 (upd (F 26) (Int32.toNatClampNeg (n0 24)) 0)) 14 (40 * f + W) = F 14 (40 * f + W) := by rw [show (va_up (va_up F 25 (upd (F 25) (Int32.toNatClampNeg (n0 24)) iw)) 26 (upd (F 26) (Int32.toNatClampNeg (n0 24)) 0)) 14 = (F 14) from rfl]
              have w15 : (va_up (va_up F 25 (upd (F 25) (Int32.toNatClampNeg (n0 24)) iw)) 26 (upd (F 26) (Int32.toNatClampNeg (n0 24)) 0)) 15 (40 * f + W) = F 15 (40 * f + W) := by rw [show (va_up (va_up F 25 (upd (F 25) (Int32.toNatClampNeg (n0 24)) iw)) 26 (upd (F 26) (Int32.toNatClampNeg (n0 24)) 0)) 15 = (F 15) from rfl]
              have w17 : ((va_up (va_up F 25 (upd (F 25) (Int32.toNatClampNeg (n0 24)) iw)) 26 (upd (F 26) (Int32.toNatClampNeg (n0 24)) 0)) 17 f).toInt = (F 17 (Int32.toNatClampNeg (n0 5))).toInt := by rw [show (va_up (va_up F 25 (upd (F 25) (Int32.toNatClampNeg (n0 24)) iw)) 26 (upd (F 26) (Int32.toNatClampNeg (n0 24)) 0)) 17 = (F 17) from rfl, ecf]
              have hvs : (vsF (va_up (va_up F 25 (upd (F 25) (Int32.toNatClampNeg (n0 24)) iw)) 26 (upd (F 26) (Int32.toNatClampNeg (n0 24)) 0)) f 0 (W + 1) : Int) ≤ ((va_up (va_up F 25 (upd (F 25) (Int32.toNatClampNeg (n0 24)) iw)) 26 (upd (F 26) (Int32.toNatClampNeg (n0 24)) 0)) 17 f).toInt ∧ ((va_up (va_up F 25 (upd (F 25) (Int32.toNatClampNeg (n0 24)) iw)) 26 (upd (F 26) (Int32.toNatClampNeg (n0 24)) 0)) 17 f).toInt ≤ 40 := by rw [RD_vs hb9, w17]; unfold owK; rw [w13, w15]; omega
              have h25 : ∀ r, r ∈ [25, 26] → ∀ i, i < O → (va_up (va_up F 25 (upd (F 25) (Int32.toNatClampNeg (n0 24)) iw)) 26 (upd (F 26) (Int32.toNatClampNeg (n0 24)) 0)) r i = F0 r i := by
                intro r hr i hi
                simp only [List.mem_cons, List.not_mem_nil, or_false] at hr
                rcases hr with rfl | rfl
                · rw [show (va_up (va_up F 25 (upd (F 25) (Int32.toNatClampNeg (n0 24)) iw)) 26 (upd (F 26) (Int32.toNatClampNeg (n0 24)) 0)) 25 = (upd (F 25) (Int32.toNatClampNeg (n0 24)) iw) from rfl, eco, updE, if_neg (by omega)]; exact congrFun (hx.2.2.1 25 (by decide)) _
                · rw [show (va_up (va_up F 25 (upd (F 25) (Int32.toNatClampNeg (n0 24)) iw)) 26 (upd (F 26) (Int32.toNatClampNeg (n0 24)) 0)) 26 = (upd (F 26) (Int32.toNatClampNeg (n0 24)) 0) from rfl, eco, updE, if_neg (by omega)]; exact congrFun (hx.2.2.1 26 (by decide)) _
              have hFr : ∀ r, r ∈ [8, 13, 14, 15, 16] → (va_up (va_up F 25 (upd (F 25) (Int32.toNatClampNeg (n0 24)) iw)) 26 (upd (F 26) (Int32.toNatClampNeg (n0 24)) 0)) r (40 * f + W) = F r (40 * f + W) := by
                intro r hr
                simp only [List.mem_cons, List.not_mem_nil, or_false] at hr
                rcases hr with rfl | rfl | rfl | rfl | rfl
                · rw [show (va_up (va_up F 25 (upd (F 25) (Int32.toNatClampNeg (n0 24)) iw)) 26 (upd (F 26) (Int32.toNatClampNeg (n0 24)) 0)) 8 = (F 8) from rfl]
                · rw [show (va_up (va_up F 25 (upd (F 25) (Int32.toNatClampNeg (n0 24)) iw)) 26 (upd (F 26) (Int32.toNatClampNeg (n0 24)) 0)) 13 = (F 13) from rfl]
                · rw [show (va_up (va_up F 25 (upd (F 25) (Int32.toNatClampNeg (n0 24)) iw)) 26 (upd (F 26) (Int32.toNatClampNeg (n0 24)) 0)) 14 = (F 14) from rfl]
                · rw [show (va_up (va_up F 25 (upd (F 25) (Int32.toNatClampNeg (n0 24)) iw)) 26 (upd (F 26) (Int32.toNatClampNeg (n0 24)) 0)) 15 = (F 15) from rfl]
                · rw [show (va_up (va_up F 25 (upd (F 25) (Int32.toNatClampNeg (n0 24)) iw)) 26 (upd (F 26) (Int32.toNatClampNeg (n0 24)) 0)) 16 = (F 16) from rfl]
              have hFn : hdF F0 (va_up (va_up F 25 (upd (F 25) (Int32.toNatClampNeg (n0 24)) iw)) 26 (upd (F 26) (Int32.toNatClampNeg (n0 24)) 0)) f W K (F0 17 f).toInt.toNat V1 BG := hdF_cg hF hFr ⟨rfl, rfl, rfl⟩
              have p25 : ((va_up (va_up F 25 (upd (F 25) (Int32.toNatClampNeg (n0 24)) iw)) 26 (upd (F 26) (Int32.toNatClampNeg (n0 24)) 0)) 25 O).toInt = 40 * f + W := by rw [show (va_up (va_up F 25 (upd (F 25) (Int32.toNatClampNeg (n0 24)) iw)) 26 (upd (F 26) (Int32.toNatClampNeg (n0 24)) 0)) 25 = (upd (F 25) (Int32.toNatClampNeg (n0 24)) iw) from rfl, eco, updE, if_pos rfl]; exact hwi.1
              have q26 : ((va_up (va_up F 25 (upd (F 25) (Int32.toNatClampNeg (n0 24)) iw)) 26 (upd (F 26) (Int32.toNatClampNeg (n0 24)) 0)) 26 O).toInt = 0 := by rw [show (va_up (va_up F 25 (upd (F 25) (Int32.toNatClampNeg (n0 24)) iw)) 26 (upd (F 26) (Int32.toNatClampNeg (n0 24)) 0)) 26 = (upd (F 26) (Int32.toNatClampNeg (n0 24)) 0) from rfl, eco, updE, if_pos rfl]; rfl
              have p26 : (prK (va_up (va_up F 25 (upd (F 25) (Int32.toNatClampNeg (n0 24)) iw)) 26 (upd (F 26) (Int32.toNatClampNeg (n0 24)) 0)) f W ∧ ((va_up (va_up F 25 (upd (F 25) (Int32.toNatClampNeg (n0 24)) iw)) 26 (upd (F 26) (Int32.toNatClampNeg (n0 24)) 0)) 26 O).toInt = 1) ∨ (¬ prK (va_up (va_up F 25 (upd (F 25) (Int32.toNatClampNeg (n0 24)) iw)) 26 (upd (F 26) (Int32.toNatClampNeg (n0 24)) 0)) f W ∧ ((va_up (va_up F 25 (upd (F 25) (Int32.toNatClampNeg (n0 24)) iw)) 26 (upd (F 26) (Int32.toNatClampNeg (n0 24)) 0)) 26 O).toInt = 0) := by
                refine Or.inr ⟨by unfold prK; rw [w7, h7]; omega, q26⟩
              have v24 : ((va_up n 24 ((n0 24) + 1)) 24).toInt = ((O + 1 : Nat) : Int) := by rw [(show (va_up n 24 ((n0 24) + 1)) 24 = ((n0 24) + 1) from rfl)]; have q := T_add g24 (show (1 : Int32).toInt = 1 from rfl) (by omega); omega
              have hJ9 : RDJ F0 (va_up n 24 ((n0 24) + 1)) (va_up (va_up F 25 (upd (F 25) (Int32.toNatClampNeg (n0 24)) iw)) 26 (upd (F 26) (Int32.toNatClampNeg (n0 24)) 0)) f (W + 1) (O + 1) true := ⟨⟨by have z := hb9.1; omega, by omega⟩, v24, RD_push gR hb9 h25 (by rw [w7]; omega) (by rw [w13, w14, w15]; exact hvz.1) p25 p26, hvs, hA9, hb9.2.1⟩
              have hpn : ¬ (K = 3 ∨ K = 4 ∨ K = 5) := by omega
              have h8n : ∀ i, i ≠ (40 * f + W) → (va_up (va_up F 25 (upd (F 25) (Int32.toNatClampNeg (n0 24)) iw)) 26 (upd (F 26) (Int32.toNatClampNeg (n0 24)) 0)) 8 i = F0 8 i := fun i hi => by rw [show (va_up (va_up F 25 (upd (F 25) (Int32.toNatClampNeg (n0 24)) iw)) 26 (upd (F 26) (Int32.toNatClampNeg (n0 24)) 0)) 8 = (F 8) from rfl]; exact h8o i hi
              have h16n : ∀ i, i ≠ (40 * f + W) → (va_up (va_up F 25 (upd (F 25) (Int32.toNatClampNeg (n0 24)) iw)) 26 (upd (F 26) (Int32.toNatClampNeg (n0 24)) 0)) 16 i = F0 16 i := fun i hi => by rw [show (va_up (va_up F 25 (upd (F 25) (Int32.toNatClampNeg (n0 24)) iw)) 26 (upd (F 26) (Int32.toNatClampNeg (n0 24)) 0)) 16 = (F 16) from rfl]; exact h16o i hi
              have l3n : lo3 F0 (va_up (va_up F 25 (upd (F 25) (Int32.toNatClampNeg (n0 24)) iw)) 26 (upd (F 26) (Int32.toNatClampNeg (n0 24)) 0)) f := lo3_tr hlo (lo3_eq rfl rfl rfl)
              exact gz_zret rfl (by first | decide | exact nrb (Or.inl (by assumption)) | exact nrb (by assumption) | (refine nrb ?_; assumption)) dX12_begins_530 (Nat.le_of_ble_eq_true rfl) (Nat.le_of_ble_eq_true rfl) (⟨_, rfl, _, _, _, _, hS_11, (fx_n (fx_F (fx_F (fx_tr fx_rf hx (by decide)) (by decide)) (by decide)) (by decide)), (by first | exact Or.inl rfl | exact Or.inr rfl | assumption | (left; assumption)), (by (try rw [(show (va_up n 24 ((n0 24) + 1)) 21 = (n 21) from rfl)]); (try rw [(show (va_up n 24 ((n0 24) + 1)) 4 = (n0 4) from (hx.1 4 (by decide)))]); omega), (by (try rw [(show (va_up n 24 ((n0 24) + 1)) 21 = (n 21) from rfl)]); omega), hA9, hb9.2.1, (fun _ => Or.inr hJ9), (by rw [hE]; unfold tlR; dsimp only; rw [if_neg hpn]; exact ⟨rfl, (by (try rw [(show (va_up n 24 ((n0 24) + 1)) 22 = (n 22) from rfl)]); omega), (by (try rw [(show (va_up n 24 ((n0 24) + 1)) 21 = (n 21) from rfl)]); omega), (w17.trans h17), (fun ii hi => h25 26 (by decide) ii hi), fun z => absurd z (by omega), fun _ => ⟨v24, by rw [if_neg hpn]; exact q26⟩⟩), (fun ii hi => h25 25 (by decide) ii hi), (fun _ _ => p25), l3n, (fun i hi => ⟨h8n i (by omega), h16n i (by omega)⟩), (fun co hco _ => by rw [show ((va_up (va_up F 25 (upd (F 25) (Int32.toNatClampNeg (n0 24)) iw)) 26 (upd (F 26) (Int32.toNatClampNeg (n0 24)) 0)) 17 f).toInt.toNat = V1 by have z := (w17.trans h17); omega]; exact LRw_begin hb9 (RD_st gR) (by rw [w7, h7]; exact hkd.1) h8n h16n hBG hFn hco)⟩)
            · exact absurd c_510 (by decide)
          · exact absurd c_475 (by decide)
        ·
          try simp only [mIn_0, lgc_lt, lgc_gt, lgc_le, lgc_ge, lgc_eq] at c_463
          try simp only [fl_lt, fl_le, fl_eq, fL_w, fL_lt, fL_le, tm1, tm10k, tm9, tm99, Int32.reduceToInt, Int64.reduceToInt, Int.not_lt, Int.not_le] at c_463
          refine gz_iconst (v := 1) dX12_begins_466 (by decide) ?_
          refine gz_goto (tgt := 471) dX12_begins_467 (by decide) ?_
          refine gz_istore (lv' := [(8, .int 1), (0, .ref m), (4, .int kd), (7, .int iw)]) dX12_begins_471 (by decide) rfl ?_
          refine gz_iload dX12_begins_473 rfl ?_
          refine gz_if_eq (tgt := 489) dX12_begins_475 (by decide) (fun c_475 => ?_) (fun c_475 => ?_)
          · exact absurd c_475 (by decide)
          ·
            try simp only [mIn_0, lgc_lt, lgc_gt, lgc_le, lgc_ge, lgc_eq] at c_475
            try simp only [fl_lt, fl_le, fl_eq, fL_w, fL_lt, fL_le, tm1, tm10k, tm9, tm99, Int32.reduceToInt, Int64.reduceToInt, Int.not_lt, Int.not_le] at c_475
            refine gz_aload_n dX12_begins_478 rfl rfl ?_
            refine gz_bipush (v := 40) dX12_begins_479 (by decide) ?_
            refine scX12_325 (k_X12_takesE (x := 40) hS (by (try rw [(show n 4 = (n0 4) from (hx.1 4 (by decide)))]); omega) (rB_cg (hx.2.2.1 3 (by decide)) hB0) (by omega) (by decide)) hS.1 ⟨(Nat.le_of_ble_eq_true rfl), (Nat.le_of_ble_eq_true rfl)⟩ ⟨(Nat.le_of_ble_eq_true rfl), (Nat.le_of_ble_eq_true rfl)⟩ rfl rfl (Nat.le_of_ble_eq_true rfl) dX12_begins_481 ?_
            rintro r_12 f_12 ⟨n_12, z_12, F_12, G_12, hS_12, hx12, hb_12, hT_12, hm_12, hE_12⟩
            try simp only [(show n_12 4 = (n0 4) from ((hx12.1 4 (by decide)).trans (hx.1 4 (by decide))))] at hb_12 hT_12 hm_12 hE_12
            try simp only [(show F_12 3 = (F0 3) from ((hx12.2.2.1 3 (by decide)).trans (hx.2.2.1 3 (by decide))))] at hb_12 hT_12 hm_12 hE_12
            try simp only [(show n 4 = (n0 4) from (hx.1 4 (by decide)))] at hb_12 hT_12 hm_12 hE_12
            try simp only [(show F 3 = (F0 3) from (hx.2.2.1 3 (by decide)))] at hb_12 hT_12 hm_12 hE_12
            rw [show (n 21).toInt.toNat = Q by omega, show ((40 : Int32)).toInt = 40 from rfl] at hE_12
            have hpr : K = 3 ∨ K = 4 ∨ K = 5 := by omega
            cases ht : tkR (tX (F0 3) (n0 4)) Q 40 with
            | inl cht =>
              rw [ht] at hE_12
              obtain ⟨a1ht, a2ht⟩ := hE_12
              refine gz_ev (w := .int 0) (congrArg Value.int a1ht) ?_
              refine gz_if_ne (tgt := 489) dX12_begins_484 (by decide) (fun c_484 => ?_) (fun c_484 => ?_)
              · exact absurd c_484 (by decide)
              ·
                try simp only [mIn_0, lgc_lt, lgc_gt, lgc_le, lgc_ge, lgc_eq] at c_484
                try simp only [fl_lt, fl_le, fl_eq, fL_w, fL_lt, fL_le, tm1, tm10k, tm9, tm99, Int32.reduceToInt, Int64.reduceToInt, Int.not_lt, Int.not_le] at c_484
                refine gz_iconst (v := 0) dX12_begins_487 (by decide) ?_
                have h8n : ∀ i, i ≠ (40 * f + W) → F_12 8 i = F0 8 i := fun i hi => by rw [show F_12 8 = (F 8) from (hx12.2.2.1 8 (by decide))]; exact h8o i hi
                have h16n : ∀ i, i ≠ (40 * f + W) → F_12 16 i = F0 16 i := fun i hi => by rw [show F_12 16 = (F 16) from (hx12.2.2.1 16 (by decide))]; exact h16o i hi
                have l3n : lo3 F0 F_12 f := lo3_tr hlo (lo3_eq (hx12.2.2.1 18 (by decide)) (hx12.2.2.1 19 (by decide)) (hx12.2.2.1 20 (by decide)))
                have sm_hb9 : ∀ r, r ∈ [6, 7, 9, 10, 11, 12] → F_12 r = F r := by
                  intro r hr
                  simp only [List.mem_cons, List.not_mem_nil, or_false] at hr
                  rcases hr with rfl | rfl | rfl | rfl | rfl | rfl
                  · exact (hx12.2.2.1 6 (by decide))
                  · exact (hx12.2.2.1 7 (by decide))
                  · exact (hx12.2.2.1 9 (by decide))
                  · exact (hx12.2.2.1 10 (by decide))
                  · exact (hx12.2.2.1 11 (by decide))
                  · exact (hx12.2.2.1 12 (by decide))
                have of_hb9 : ∀ r, r ∈ [13, 14, 15] → ∀ i, i ≠ (40 * f + W) → F_12 r i = F r i := by
                  intro r hr i hi
                  rw [← eci] at hi
                  simp only [List.mem_cons, List.not_mem_nil, or_false] at hr
                  rcases hr with rfl | rfl | rfl
                  · rw [show F_12 13 = (F 13) from (hx12.2.2.1 13 (by decide))]
                  · rw [show F_12 14 = (F 14) from (hx12.2.2.1 14 (by decide))]
                  · rw [show F_12 15 = (F 15) from (hx12.2.2.1 15 (by decide))]
                have hb9 : RDb F0 F_12 f W O := RDb_keep hb sm_hb9 of_hb9
                have hA9 : rAll F_12 := by
                  intro q hq
                  obtain ⟨qa0, qb0, qc0, qd0⟩ := hA q hq
                  rw [show F_12 13 = (F 13) from (hx12.2.2.1 13 (by decide)), show F_12 14 = (F 14) from (hx12.2.2.1 14 (by decide)), show F_12 15 = (F 15) from (hx12.2.2.1 15 (by decide)), show F_12 19 = (F 19) from (hx12.2.2.1 19 (by decide))]
                  refine ⟨?_, ?_, ?_, ?_⟩ <;> (try simp only [updE]) <;> (repeat' split) <;> first | omega | decide
                exact gz_zret rfl (by first | decide | exact nrb (Or.inl (by assumption)) | exact nrb (by assumption) | (refine nrb ?_; assumption)) dX12_begins_488 (Nat.le_of_ble_eq_true rfl) (Nat.le_of_ble_eq_true rfl) (⟨_, rfl, _, _, _, _, hS_12, (fx_tr (fx_tr fx_rf hx (by decide)) hx12 (by decide)), (by first | exact Or.inl rfl | exact Or.inr rfl | assumption | (left; assumption)), (by (try rw [(show n_12 21 = (n_12 21) from rfl)]); (try rw [(show n_12 4 = (n0 4) from ((hx12.1 4 (by decide)).trans (hx.1 4 (by decide))))]); omega), (by (try rw [(show n_12 21 = (n_12 21) from rfl)]); omega), hA9, hb9.2.1, (fun h => absurd h (by decide)), (by rw [hE]; unfold tlR; dsimp only; rw [if_pos hpr, ht]; exact ⟨rfl, a2ht⟩), (fun ii _ => by rw [show F_12 25 = F 25 from (hx12.2.2.1 25 (by decide))]; exact congrFun (hx.2.2.1 25 (by decide)) ii), (fun z => absurd z (by decide)), l3n, (fun i hi => ⟨h8n i (by omega), h16n i (by omega)⟩), (fun _ _ z => absurd z (by decide))⟩)
            | inr rht =>
              rw [ht] at hE_12
              obtain ⟨a1ht, a2ht, a3ht⟩ := hE_12
              refine gz_ev (w := .int 1) (congrArg Value.int a1ht) ?_
              refine gz_if_ne (tgt := 489) dX12_begins_484 (by decide) (fun c_484 => ?_) (fun c_484 => ?_)
              ·
                try simp only [mIn_0, lgc_lt, lgc_gt, lgc_le, lgc_ge, lgc_eq] at c_484
                try simp only [fl_lt, fl_le, fl_eq, fL_w, fL_lt, fL_le, tm1, tm10k, tm9, tm99, Int32.reduceToInt, Int64.reduceToInt, Int.not_lt, Int.not_le] at c_484
                refine gz_aload_n dX12_begins_489 rfl rfl ?_
                refine mg_62 hS_12 dX12_begins_490 ?_
                refine gz_aload_n dX12_begins_493 rfl rfl ?_
                refine mg_319 hS_12 dX12_begins_494 ?_
                refine gz_ev (w := .int (n0 24)) (congrArg Value.int ((hx12.1 24 (by decide)).trans (hx.1 24 (by decide)))) ?_
                refine gz_iload dX12_begins_497 rfl ?_
                refine m_iast 25 hS_12 rfl (N := 40) rfl ((by exact vin_T (rfl : (n0 24).toInt = (n0 24).toInt) (by omega) (by omega))) dX12_begins_499 (fun f_13 hS_13q => ?_)
                have hS_13 : mS cy m a f0 n_12 z_12 (va_up F_12 25 (upd (F 25) (Int32.toNatClampNeg (n0 24)) iw)) G_12 f_13 := (by have e9 := (show F_12 25 = (F 25) from (hx12.2.2.1 25 (by decide))); rw [e9] at hS_13q; exact hS_13q)
                refine gz_aload_n dX12_begins_500 rfl rfl ?_
                refine mg_65 hS_13 dX12_begins_501 ?_
                refine gz_aload_n dX12_begins_504 rfl rfl ?_
                refine mg_319 hS_13 dX12_begins_505 ?_
                refine gz_ev (w := .int (n0 24)) (congrArg Value.int ((hx12.1 24 (by decide)).trans (hx.1 24 (by decide)))) ?_
                refine gz_iload dX12_begins_508 rfl ?_
                refine gz_if_eq (tgt := 517) dX12_begins_510 (by decide) (fun c_510 => ?_) (fun c_510 => ?_)
                · exact absurd c_510 (by decide)
                ·
                  try simp only [mIn_0, lgc_lt, lgc_gt, lgc_le, lgc_ge, lgc_eq] at c_510
                  try simp only [fl_lt, fl_le, fl_eq, fL_w, fL_lt, fL_le, tm1, tm10k, tm9, tm99, Int32.reduceToInt, Int64.reduceToInt, Int.not_lt, Int.not_le] at c_510
                  refine gz_iconst (v := 1) dX12_begins_513 (by decide) ?_
                  refine gz_goto (tgt := 518) dX12_begins_514 (by decide) ?_
                  refine m_iast 26 hS_13 rfl (N := 40) rfl ((by exact vin_T (rfl : (n0 24).toInt = (n0 24).toInt) (by omega) (by omega))) dX12_begins_518 (fun f_14 hS_14q => ?_)
                  have hS_14 : mS cy m a f0 n_12 z_12 (va_up (va_up F_12 25 (upd (F 25) (Int32.toNatClampNeg (n0 24)) iw)) 26 (upd (F 26) (Int32.toNatClampNeg (n0 24)) 1)) G_12 f_14 := (by have e9 := (show (va_up F_12 25 (upd (F 25) (Int32.toNatClampNeg (n0 24)) iw)) 26 = (F 26) from (hx12.2.2.1 26 (by decide))); rw [e9] at hS_14q; exact hS_14q)
                  refine gz_aload_n dX12_begins_519 rfl rfl ?_
                  refine gz_dup dX12_begins_520 rfl ?_
                  refine mg_319 hS_14 dX12_begins_521 ?_
                  refine gz_ev (w := .int (n0 24)) (congrArg Value.int ((hx12.1 24 (by decide)).trans (hx.1 24 (by decide)))) ?_
                  refine gz_iconst (v := 1) dX12_begins_524 (by decide) ?_
                  refine gz_iadd dX12_begins_525 ?_
                  refine mp_319 hS_14 dX12_begins_526 (fun f_15 hS_15 => ?_)
                  refine gz_iconst (v := 1) dX12_begins_529 (by decide) ?_
                  have sm_hb9 : ∀ r, r ∈ [6, 7, 9, 10, 11, 12] → (va_up (va_up F_12 25 (upd (F 25) (Int32.toNatClampNeg (n0 24)) iw)) 26 (upd (F 26) (Int32.toNatClampNeg (n0 24)) 1)) r = F r := by
                    intro r hr
                    simp only [List.mem_cons, List.not_mem_nil, or_false] at hr
                    rcases hr with rfl | rfl | rfl | rfl | rfl | rfl
                    · exact (hx12.2.2.1 6 (by decide))
                    · exact (hx12.2.2.1 7 (by decide))
                    · exact (hx12.2.2.1 9 (by decide))
                    · exact (hx12.2.2.1 10 (by decide))
                    · exact (hx12.2.2.1 11 (by decide))
                    · exact (hx12.2.2.1 12 (by decide))
                  have of_hb9 : ∀ r, r ∈ [13, 14, 15] → ∀ i, i ≠ (40 * f + W) → (va_up (va_up F_12 25 (upd (F 25) (Int32.toNatClampNeg (n0 24)) iw)) 26 (upd (F 26) (Int32.toNatClampNeg (n0 24)) 1)) r i = F r i := by
                    intro r hr i hi
                    rw [← eci] at hi
                    simp only [List.mem_cons, List.not_mem_nil, or_false] at hr
                    rcases hr with rfl | rfl | rfl
                    · rw [show (va_up (va_up F_12 25 (upd (F 25) (Int32.toNatClampNeg (n0 24)) iw)) 26 (upd (F 26) (Int32.toNatClampNeg (n0 24)) 1)) 13 = (F 13) from (hx12.2.2.1 13 (by decide))]
                    · rw [show (va_up (va_up F_12 25 (upd (F 25) (Int32.toNatClampNeg (n0 24)) iw)) 26 (upd (F 26) (Int32.toNatClampNeg (n0 24)) 1)) 14 = (F 14) from (hx12.2.2.1 14 (by decide))]
                    · rw [show (va_up (va_up F_12 25 (upd (F 25) (Int32.toNatClampNeg (n0 24)) iw)) 26 (upd (F 26) (Int32.toNatClampNeg (n0 24)) 1)) 15 = (F 15) from (hx12.2.2.1 15 (by decide))]
                  have hb9 : RDb F0 (va_up (va_up F_12 25 (upd (F 25) (Int32.toNatClampNeg (n0 24)) iw)) 26 (upd (F 26) (Int32.toNatClampNeg (n0 24)) 1)) f W O := RDb_keep hb sm_hb9 of_hb9
                  have hA9 : rAll (va_up (va_up F_12 25 (upd (F 25) (Int32.toNatClampNeg (n0 24)) iw)) 26 (upd (F 26) (Int32.toNatClampNeg (n0 24)) 1)) := by
                    intro q hq
                    obtain ⟨qa0, qb0, qc0, qd0⟩ := hA q hq
                    rw [show (va_up (va_up F_12 25 (upd (F 25) (Int32.toNatClampNeg (n0 24)) iw)) 26 (upd (F 26) (Int32.toNatClampNeg (n0 24)) 1)) 13 = (F 13) from (hx12.2.2.1 13 (by decide)), show (va_up (va_up F_12 25 (upd (F 25) (Int32.toNatClampNeg (n0 24)) iw)) 26 (upd (F 26) (Int32.toNatClampNeg (n0 24)) 1)) 14 = (F 14) from (hx12.2.2.1 14 (by decide)), show (va_up (va_up F_12 25 (upd (F 25) (Int32.toNatClampNeg (n0 24)) iw)) 26 (upd (F 26) (Int32.toNatClampNeg (n0 24)) 1)) 15 = (F 15) from (hx12.2.2.1 15 (by decide)), show (va_up (va_up F_12 25 (upd (F 25) (Int32.toNatClampNeg (n0 24)) iw)) 26 (upd (F 26) (Int32.toNatClampNeg (n0 24)) 1)) 19 = (F 19) from (hx12.2.2.1 19 (by decide))]
                    refine ⟨?_, ?_, ?_, ?_⟩ <;> (try simp only [updE]) <;> (repeat' split) <;> first | omega | decide
                  have w7 : (va_up (va_up F_12 25 (upd (F 25) (Int32.toNatClampNeg (n0 24)) iw)) 26 (upd (F 26) (Int32.toNatClampNeg (n0 24)) 1)) 7 (40 * f + W) = F 7 (40 * f + W) := by rw [show (va_up (va_up F_12 25 (upd (F 25) (Int32.toNatClampNeg (n0 24)) iw)) 26 (upd (F 26) (Int32.toNatClampNeg (n0 24)) 1)) 7 = (F 7) from (hx12.2.2.1 7 (by decide))]
                  have w13 : (va_up (va_up F_12 25 (upd (F 25) (Int32.toNatClampNeg (n0 24)) iw)) 26 (upd (F 26) (Int32.toNatClampNeg (n0 24)) 1)) 13 (40 * f + W) = F 13 (40 * f + W) := by rw [show (va_up (va_up F_12 25 (upd (F 25) (Int32.toNatClampNeg (n0 24)) iw)) 26 (upd (F 26) (Int32.toNatClampNeg (n0 24)) 1)) 13 = (F 13) from (hx12.2.2.1 13 (by decide))]
                  have w14 : (va_up (va_up F_12 25 (upd (F 25) (Int32.toNatClampNeg (n0 24)) iw)) 26 (upd (F 26) (Int32.toNatClampNeg (n0 24)) 1)) 14 (40 * f + W) = F 14 (40 * f + W) := by rw [show (va_up (va_up F_12 25 (upd (F 25) (Int32.toNatClampNeg (n0 24)) iw)) 26 (upd (F 26) (Int32.toNatClampNeg (n0 24)) 1)) 14 = (F 14) from (hx12.2.2.1 14 (by decide))]
                  have w15 : (va_up (va_up F_12 25 (upd (F 25) (Int32.toNatClampNeg (n0 24)) iw)) 26 (upd (F 26) (Int32.toNatClampNeg (n0 24)) 1)) 15 (40 * f + W) = F 15 (40 * f + W) := by rw [show (va_up (va_up F_12 25 (upd (F 25) (Int32.toNatClampNeg (n0 24)) iw)) 26 (upd (F 26) (Int32.toNatClampNeg (n0 24)) 1)) 15 = (F 15) from (hx12.2.2.1 15 (by decide))]
                  have w17 : ((va_up (va_up F_12 25 (upd (F 25) (Int32.toNatClampNeg (n0 24)) iw)) 26 (upd (F 26) (Int32.toNatClampNeg (n0 24)) 1)) 17 f).toInt = (F 17 (Int32.toNatClampNeg (n0 5))).toInt := by rw [show (va_up (va_up F_12 25 (upd (F 25) (Int32.toNatClampNeg (n0 24)) iw)) 26 (upd (F 26) (Int32.toNatClampNeg (n0 24)) 1)) 17 = (F 17) from (hx12.2.2.1 17 (by decide)), ecf]
                  have hvs : (vsF (va_up (va_up F_12 25 (upd (F 25) (Int32.toNatClampNeg (n0 24)) iw)) 26 (upd (F 26) (Int32.toNatClampNeg (n0 24)) 1)) f 0 (W + 1) : Int) ≤ ((va_up (va_up F_12 25 (upd (F 25) (Int32.toNatClampNeg (n0 24)) iw)) 26 (upd (F 26) (Int32.toNatClampNeg (n0 24)) 1)) 17 f).toInt ∧ ((va_up (va_up F_12 25 (upd (F 25) (Int32.toNatClampNeg (n0 24)) iw)) 26 (upd (F 26) (Int32.toNatClampNeg (n0 24)) 1)) 17 f).toInt ≤ 40 := by rw [RD_vs hb9, w17]; unfold owK; rw [w13, w15]; omega
                  have h25 : ∀ r, r ∈ [25, 26] → ∀ i, i < O → (va_up (va_up F_12 25 (upd (F 25) (Int32.toNatClampNeg (n0 24)) iw)) 26 (upd (F 26) (Int32.toNatClampNeg (n0 24)) 1)) r i = F0 r i := by
                    intro r hr i hi
                    simp only [List.mem_cons, List.not_mem_nil, or_false] at hr
                    rcases hr with rfl | rfl
                    · rw [show (va_up (va_up F_12 25 (upd (F 25) (Int32.toNatClampNeg (n0 24)) iw)) 26 (upd (F 26) (Int32.toNatClampNeg (n0 24)) 1)) 25 = (upd (F 25) (Int32.toNatClampNeg (n0 24)) iw) from rfl, eco, updE, if_neg (by omega)]; exact congrFun (hx.2.2.1 25 (by decide)) _
                    · rw [show (va_up (va_up F_12 25 (upd (F 25) (Int32.toNatClampNeg (n0 24)) iw)) 26 (upd (F 26) (Int32.toNatClampNeg (n0 24)) 1)) 26 = (upd (F 26) (Int32.toNatClampNeg (n0 24)) 1) from rfl, eco, updE, if_neg (by omega)]; exact congrFun (hx.2.2.1 26 (by decide)) _
                  have hFr : ∀ r, r ∈ [8, 13, 14, 15, 16] → (va_up (va_up F_12 25 (upd (F 25) (Int32.toNatClampNeg (n0 24)) iw)) 26 (upd (F 26) (Int32.toNatClampNeg (n0 24)) 1)) r (40 * f + W) = F r (40 * f + W) := by
                    intro r hr
                    simp only [List.mem_cons, List.not_mem_nil, or_false] at hr
                    rcases hr with rfl | rfl | rfl | rfl | rfl
                    · rw [show (va_up (va_up F_12 25 (upd (F 25) (Int32.toNatClampNeg (n0 24)) iw)) 26 (upd (F 26) (Int32.toNatClampNeg (n0 24)) 1)) 8 = (F 8) from (hx12.2.2.1 8 (by decide))]
                    · rw [show (va_up (va_up F_12 25 (upd (F 25) (Int32.toNatClampNeg (n0 24)) iw)) 26 (upd (F 26) (Int32.toNatClampNeg (n0 24)) 1)) 13 = (F 13) from (hx12.2.2.1 13 (by decide))]
                    · rw [show (va_up (va_up F_12 25 (upd (F 25) (Int32.toNatClampNeg (n0 24)) iw)) 26 (upd (F 26) (Int32.toNatClampNeg (n0 24)) 1)) 14 = (F 14) from (hx12.2.2.1 14 (by decide))]
                    · rw [show (va_up (va_up F_12 25 (upd (F 25) (Int32.toNatClampNeg (n0 24)) iw)) 26 (upd (F 26) (Int32.toNatClampNeg (n0 24)) 1)) 15 = (F 15) from (hx12.2.2.1 15 (by decide))]
                    · rw [show (va_up (va_up F_12 25 (upd (F 25) (Int32.toNatClampNeg (n0 24)) iw)) 26 (upd (F 26) (Int32.toNatClampNeg (n0 24)) 1)) 16 = (F 16) from (hx12.2.2.1 16 (by decide))]
                  have hFn : hdF F0 (va_up (va_up F_12 25 (upd (F 25) (Int32.toNatClampNeg (n0 24)) iw)) 26 (upd (F 26) (Int32.toNatClampNeg (n0 24)) 1)) f W K (F0 17 f).toInt.toNat V1 BG := hdF_cg hF hFr ⟨(hx12.2.2.1 18 (by decide)), (hx12.2.2.1 19 (by decide)), (hx12.2.2.1 20 (by decide))⟩
                  have p25 : ((va_up (va_up F_12 25 (upd (F 25) (Int32.toNatClampNeg (n0 24)) iw)) 26 (upd (F 26) (Int32.toNatClampNeg (n0 24)) 1)) 25 O).toInt = 40 * f + W := by rw [show (va_up (va_up F_12 25 (upd (F 25) (Int32.toNatClampNeg (n0 24)) iw)) 26 (upd (F 26) (Int32.toNatClampNeg (n0 24)) 1)) 25 = (upd (F 25) (Int32.toNatClampNeg (n0 24)) iw) from rfl, eco, updE, if_pos rfl]; exact hwi.1
                  have q26 : ((va_up (va_up F_12 25 (upd (F 25) (Int32.toNatClampNeg (n0 24)) iw)) 26 (upd (F 26) (Int32.toNatClampNeg (n0 24)) 1)) 26 O).toInt = 1 := by rw [show (va_up (va_up F_12 25 (upd (F 25) (Int32.toNatClampNeg (n0 24)) iw)) 26 (upd (F 26) (Int32.toNatClampNeg (n0 24)) 1)) 26 = (upd (F 26) (Int32.toNatClampNeg (n0 24)) 1) from rfl, eco, updE, if_pos rfl]; rfl
                  have p26 : (prK (va_up (va_up F_12 25 (upd (F 25) (Int32.toNatClampNeg (n0 24)) iw)) 26 (upd (F 26) (Int32.toNatClampNeg (n0 24)) 1)) f W ∧ ((va_up (va_up F_12 25 (upd (F 25) (Int32.toNatClampNeg (n0 24)) iw)) 26 (upd (F 26) (Int32.toNatClampNeg (n0 24)) 1)) 26 O).toInt = 1) ∨ (¬ prK (va_up (va_up F_12 25 (upd (F 25) (Int32.toNatClampNeg (n0 24)) iw)) 26 (upd (F 26) (Int32.toNatClampNeg (n0 24)) 1)) f W ∧ ((va_up (va_up F_12 25 (upd (F 25) (Int32.toNatClampNeg (n0 24)) iw)) 26 (upd (F 26) (Int32.toNatClampNeg (n0 24)) 1)) 26 O).toInt = 0) := by
                    refine Or.inl ⟨by unfold prK; rw [w7, h7]; omega, q26⟩
                  have v24 : ((va_up n_12 24 ((n0 24) + 1)) 24).toInt = ((O + 1 : Nat) : Int) := by rw [(show (va_up n_12 24 ((n0 24) + 1)) 24 = ((n0 24) + 1) from rfl)]; have q := T_add g24 (show (1 : Int32).toInt = 1 from rfl) (by omega); omega
                  have hJ9 : RDJ F0 (va_up n_12 24 ((n0 24) + 1)) (va_up (va_up F_12 25 (upd (F 25) (Int32.toNatClampNeg (n0 24)) iw)) 26 (upd (F 26) (Int32.toNatClampNeg (n0 24)) 1)) f (W + 1) (O + 1) true := ⟨⟨by have z := hb9.1; omega, by omega⟩, v24, RD_push gR hb9 h25 (by rw [w7]; omega) (by rw [w13, w14, w15]; exact hvz.1) p25 p26, hvs, hA9, hb9.2.1⟩
                  have h8n : ∀ i, i ≠ (40 * f + W) → (va_up (va_up F_12 25 (upd (F 25) (Int32.toNatClampNeg (n0 24)) iw)) 26 (upd (F 26) (Int32.toNatClampNeg (n0 24)) 1)) 8 i = F0 8 i := fun i hi => by rw [show (va_up (va_up F_12 25 (upd (F 25) (Int32.toNatClampNeg (n0 24)) iw)) 26 (upd (F 26) (Int32.toNatClampNeg (n0 24)) 1)) 8 = (F 8) from (hx12.2.2.1 8 (by decide))]; exact h8o i hi
                  have h16n : ∀ i, i ≠ (40 * f + W) → (va_up (va_up F_12 25 (upd (F 25) (Int32.toNatClampNeg (n0 24)) iw)) 26 (upd (F 26) (Int32.toNatClampNeg (n0 24)) 1)) 16 i = F0 16 i := fun i hi => by rw [show (va_up (va_up F_12 25 (upd (F 25) (Int32.toNatClampNeg (n0 24)) iw)) 26 (upd (F 26) (Int32.toNatClampNeg (n0 24)) 1)) 16 = (F 16) from (hx12.2.2.1 16 (by decide))]; exact h16o i hi
                  have l3n : lo3 F0 (va_up (va_up F_12 25 (upd (F 25) (Int32.toNatClampNeg (n0 24)) iw)) 26 (upd (F 26) (Int32.toNatClampNeg (n0 24)) 1)) f := lo3_tr hlo (lo3_eq (hx12.2.2.1 18 (by decide)) (hx12.2.2.1 19 (by decide)) (hx12.2.2.1 20 (by decide)))
                  exact gz_zret rfl (by first | decide | exact nrb (Or.inl (by assumption)) | exact nrb (by assumption) | (refine nrb ?_; assumption)) dX12_begins_530 (Nat.le_of_ble_eq_true rfl) (Nat.le_of_ble_eq_true rfl) (⟨_, rfl, _, _, _, _, hS_15, (fx_n (fx_F (fx_F (fx_tr (fx_tr fx_rf hx (by decide)) hx12 (by decide)) (by decide)) (by decide)) (by decide)), (by first | exact Or.inl rfl | exact Or.inr rfl | assumption | (left; assumption)), (by (try rw [(show (va_up n_12 24 ((n0 24) + 1)) 21 = (n_12 21) from rfl)]); (try rw [(show (va_up n_12 24 ((n0 24) + 1)) 4 = (n0 4) from ((hx12.1 4 (by decide)).trans (hx.1 4 (by decide))))]); omega), (by (try rw [(show (va_up n_12 24 ((n0 24) + 1)) 21 = (n_12 21) from rfl)]); omega), hA9, hb9.2.1, (fun _ => Or.inr hJ9), (by rw [hE]; unfold tlR; dsimp only; rw [if_pos hpr, ht]; exact ⟨rfl, (by (try rw [(show (va_up n_12 24 ((n0 24) + 1)) 22 = (n_12 22) from rfl)]); omega), (by (try rw [(show (va_up n_12 24 ((n0 24) + 1)) 21 = (n_12 21) from rfl)]); omega), (w17.trans h17), (fun ii hi => h25 26 (by decide) ii hi), fun z => absurd z (by omega), fun _ => ⟨v24, by rw [if_pos hpr]; exact q26⟩⟩), (fun ii hi => h25 25 (by decide) ii hi), (fun _ _ => p25), l3n, (fun i hi => ⟨h8n i (by omega), h16n i (by omega)⟩), (fun co hco _ => by rw [show ((va_up (va_up F_12 25 (upd (F 25) (Int32.toNatClampNeg (n0 24)) iw)) 26 (upd (F 26) (Int32.toNatClampNeg (n0 24)) 1)) 17 f).toInt.toNat = V1 by have z := (w17.trans h17); omega]; exact LRw_begin hb9 (RD_st gR) (by rw [w7, h7]; exact hkd.1) h8n h16n hBG hFn hco)⟩)
              · exact absurd c_484 (by decide)

set_option maxHeartbeats 4000000 in
set_option maxRecDepth 100000 in
theorem l_X12_beginsCC {l : Launch} {D : va_G} {cy : Nat → ClassId} {b : Nat} {m : Nat} {a : Nat → Nat} {f0 : gMem} {n0 : Nat → Int32} {z0 : Nat → Int64} {F0 : Nat → Nat → Int32} {G0 : Nat → Nat → Int64}  {f W O K Q V1 : Nat} {kd iw : Int32} {BG : Cn → Cn} (h5 : (n0 5).toInt = (f : Int) ∧ f < 20) (hJ : RDJ F0 n0 F0 f W O true) (hB0 : rB F0) (hwi : iw.toInt = 40 * (f : Int) + W ∧ W ≤ 39) (hkd : kd.toInt = (K : Int) ∧ K ≤ 10) (hBG : ∃ q9, ∀ co : Cn, BG co = hdC (tX (F0 3) (n0 4)) K q9 (F0 17 f).toInt.toNat W (nwC K W (upC (skW F0 f O)).1 (upC (skW F0 f O)).2 O co)) (hE : (K = 9 → bgR (tX (F0 3) (n0 4)) (n0 21).toInt.toNat W (F0 17 f).toInt.toNat O = tlR (tX (F0 3) (n0 4)) K (hdR (tX (F0 3) (n0 4)) K Q V1)) ∧ (K ≠ 9 → bgR (tX (F0 3) (n0 4)) (n0 21).toInt.toNat W (F0 17 f).toInt.toNat O = tlR (tX (F0 3) (n0 4)) K (.inr (Q, V1)))) : ∀ (k : Nat)  (n : Nat → Int32) (z : Nat → Int64) (F : Nat → Nat → Int32) (G : Nat → Nat → Int64) (fm : gMem), mS cy m a f0 n z F G fm → fx [21, 22, 23] [] [6, 7, 8, 9, 10, 11, 12, 13, 14, 15, 16, 17, 18, 19, 20] [] n0 z0 F0 G0 n z F G → ((0 ≤ (n 21).toInt ∧ (n 21).toInt ≤ (n 4).toInt ∧ (n 4).toInt ≤ 400)) → ((n0 21).toInt ≤ (n 21).toInt) → (rAll F) → (RDb F0 F f W O) → ((F 7 (40 * f + W)).toInt = kd.toInt) → ((F0 17 (Int32.toNatClampNeg (n0 5))).toInt ≤ (F 17 (Int32.toNatClampNeg (n0 5))).toInt ∧ (F 17 (Int32.toNatClampNeg (n0 5))).toInt ≤ 40) → (((F 13 (40 * f + W)).toInt ≤ (F 14 (40 * f + W)).toInt ∧ (F 14 (40 * f + W)).toInt ≤ (F 15 (40 * f + W)).toInt) ∧ (F 15 (40 * f + W)).toInt - (F 13 (40 * f + W)).toInt ≤ (F 17 (Int32.toNatClampNeg (n0 5))).toInt - (F0 17 (Int32.toNatClampNeg (n0 5))).toInt) → ((n 22).toInt = 0) → ((n 21).toInt = (Q : Int)) → ((F 17 (Int32.toNatClampNeg (n0 5))).toInt = (V1 : Int)) → (∀ i, i ≠ (40 * f + W) → F 8 i = F0 8 i) → (∀ i, i ≠ (40 * f + W) → F 16 i = F0 16 i) → (lo3 F0 F f) → ((K = 9 → (V1 = (F0 17 f).toInt.toNat ∧ hdS (tX (F0 3) (n0 4)) F0 F f W K Q V1 BG)) ∧ (K ≠ 9 → hdF F0 F f W K (F0 17 f).toInt.toNat V1 BG)) → (2 ≤ kd.toInt) → (0 < (k : Int)) → gG l (gRm 5 0 0) (gQf D b (pI fun r f2 => ∃ (n2 : Nat → Int32) (z2 : Nat → Int64) (F2 : Nat → Nat → Int32) (G2 : Nat → Nat → Int64), mS cy m a f0 n2 z2 F2 G2 f2 ∧ fx [21, 22, 23, 24] [] [6, 7, 8, 9, 10, 11, 12, 13, 14, 15, 16, 17, 18, 19, 20, 25, 26] [] n0 z0 F0 G0 n2 z2 F2 G2 ∧ (r = 0 ∨ r = 1) ∧ (0 ≤ (n2 21).toInt ∧ (n2 21).toInt ≤ (n2 4).toInt ∧ (n2 4).toInt ≤ 400) ∧ (n0 21).toInt ≤ (n2 21).toInt ∧ rAll F2 ∧ (∀ g, g < f → agF F0 F2 g) ∧ (r = 1 → RDJ F0 n2 F2 f (W + 1) O false ∨ RDJ F0 n2 F2 f (W + 1) (O + 1) true) ∧ exB (bgR (tX (F0 3) (n0 4)) (n0 21).toInt.toNat W (F0 17 f).toInt.toNat O) O r n0 n2 F0 F2 f ∧ (∀ ii : Nat, ii < O → F2 25 ii = F0 25 ii) ∧ (r = 1 → (n2 24).toInt = ((O + 1 : Nat) : Int) → (F2 25 O).toInt = 40 * (f : Int) + W) ∧ lo3 F0 F2 f ∧ (∀ i, i < 40 * f → F2 8 i = F0 8 i ∧ F2 16 i = F0 16 i) ∧ (∀ co : Cn, LR F0 f co W (F0 17 f).toInt.toNat → r = 1 → LR F2 f (BG co) (W + 1) (F2 17 f).toInt.toNat)) 0 0) gTt D cy b cX12_begins 9 (some .boolean) RX12 "begins" 0 0 fm 375 [(0, .ref m), (4, .int kd), (7, .int iw)] [] := by
  intro k
  induction k with
  | zero =>
    intro n z F G fm hS hx hT hm hA hb h7 hv hvz h22 h21 h17 h8o h16o hlo hF hk2 hk
    exfalso; omega
  | succ k ih =>
    intro n z F G fm hS hx hT hm hA hb h7 hv hvz h22 h21 h17 h8o h16o hlo hF hk2 hk
    have e4 : n 4 = n0 4 := hx.1 4 (by decide)
    rw [e4] at hT
    obtain ⟨g6, g24, gR, gv, gA, gg⟩ := id hJ
    have ecf : (Int32.toNatClampNeg (n0 5)) = f := by rw [clN]; omega
    have eci : Int32.toNatClampNeg iw = (40 * f + W) := by rw [clN]; omega
    have eco : Int32.toNatClampNeg (n0 24) = O := by rw [clN]; omega
    have gO := hb.2.2.2.2.2.2
    have gv2 : (F0 17 (Int32.toNatClampNeg (n0 5))).toInt = (F0 17 f).toInt := by rw [ecf]
    have e3 : F 3 = F0 3 := hx.2.2.1 3 (by decide)
    have hB : rB F := rB_cg e3 hB0
    have hln := tX_ln (g := F0 3) (L := n0 4) (by omega)
    refine gz_iload dX12_begins_375 rfl ?_
    refine gz_bipush (v := 9) dX12_begins_377 (by decide) ?_
    refine gz_icmp_ne (tgt := 448) dX12_begins_379 (by decide) (fun c_379 => ?_) (fun c_379 => ?_)
    ·
      try simp only [mIn_0, lgc_lt, lgc_gt, lgc_le, lgc_ge, lgc_eq] at c_379
      try simp only [fl_lt, fl_le, fl_eq, fL_w, fL_lt, fL_le, tm1, tm10k, tm9, tm99, Int32.reduceToInt, Int64.reduceToInt, Int.not_lt, Int.not_le] at c_379
      have sm_hb8 : ∀ r, r ∈ [6, 7, 9, 10, 11, 12] → F r = F r := by
        intro r hr
        simp only [List.mem_cons, List.not_mem_nil, or_false] at hr
        rcases hr with rfl | rfl | rfl | rfl | rfl | rfl
        · exact rfl
        · exact rfl
        · exact rfl
        · exact rfl
        · exact rfl
        · exact rfl
      have hb8 := hb
      have hA8 : rAll F := by
        intro q hq
        obtain ⟨qa0, qb0, qc0, qd0⟩ := hA q hq
        rw [show F 13 = (F 13) from rfl, show F 14 = (F 14) from rfl, show F 15 = (F 15) from rfl, show F 19 = (F 19) from rfl]
        refine ⟨?_, ?_, ?_, ?_⟩ <;> (try simp only [updE]) <;> (repeat' split) <;> first | omega | decide
      have x7 : (F 7 (40 * f + W)).toInt = kd.toInt := by rw [show F 7 = (F 7) from rfl]; exact h7
      have x17 : (F 17 (Int32.toNatClampNeg (n0 5))).toInt = ((F 17) (Int32.toNatClampNeg (n0 5))).toInt := by rw [show F 17 = (F 17) from rfl]
      have x13 : (F 13 (40 * f + W)).toInt = ((F 13) (40 * f + W)).toInt := by rw [show F 13 = (F 13) from rfl]
      have x14 : (F 14 (40 * f + W)).toInt = ((F 14) (40 * f + W)).toInt := by rw [show F 14 = (F 14) from rfl]
      have x15 : (F 15 (40 * f + W)).toInt = ((F 15) (40 * f + W)).toInt := by rw [show F 15 = (F 15) from rfl]
      have h8n : ∀ i, i ≠ (40 * f + W) → F 8 i = F0 8 i := fun i hi => by rw [show F 8 = (F 8) from rfl]; exact h8o i hi
      have h16n : ∀ i, i ≠ (40 * f + W) → F 16 i = F0 16 i := fun i hi => by rw [show F 16 = (F 16) from rfl]; exact h16o i hi
      have l3n : lo3 F0 F f := lo3_tr hlo (lo3_eq rfl rfl rfl)
      refine gz_sub (lv' := [(0, .ref m), (4, .int kd), (7, .int iw)]) (by simp [List.lookup]) ?_
      exact l_X12_beginsCD (K := K) (Q := Q) (V1 := V1) (BG := BG) h5 hJ hB0 hwi hkd hBG (hE.2 (by omega)) 1 _ _ _ _ _ hS hx (by (try rw [(show n 4 = (n0 4) from (hx.1 4 (by decide)))]); omega) (by omega) hA8 hb8 x7 (by omega) (by omega) (by omega) (by omega) (by omega) h8n h16n l3n (hF.2 (by omega)) hk2 (by decide)
    ·
      try simp only [mIn_0, lgc_lt, lgc_gt, lgc_le, lgc_ge, lgc_eq] at c_379
      try simp only [fl_lt, fl_le, fl_eq, fL_w, fL_lt, fL_le, tm1, tm10k, tm9, tm99, Int32.reduceToInt, Int64.reduceToInt, Int.not_lt, Int.not_le] at c_379
      refine gz_aload_n dX12_begins_382 rfl rfl ?_
      refine mg_38 hS dX12_begins_383 ?_
      refine gz_iload dX12_begins_386 rfl ?_
      refine gz_aload_n dX12_begins_388 rfl rfl ?_
      refine mg_50 hS dX12_begins_389 ?_
      refine gz_aload_n dX12_begins_392 rfl rfl ?_
      refine mg_307 hS dX12_begins_393 ?_
      refine gz_ev (w := .int (n0 5)) (congrArg Value.int (hx.1 5 (by decide))) ?_
      refine m_iald 17 hS rfl (N := 22) rfl ((by exact vin_T (rfl : (n0 5).toInt = (n0 5).toInt) (by omega) (by omega))) dX12_begins_396 ?_
      refine m_iast 13 hS rfl (N := 880) rfl ((by exact vin_T (rfl : iw.toInt = iw.toInt) (by omega) (by omega))) dX12_begins_397 (fun f_1 hS_1q => ?_)
      have hS_1 : mS cy m a f0 n z (va_up F 13 (upd (F 13) (Int32.toNatClampNeg iw) ((F 17) (Int32.toNatClampNeg (n0 5))))) G f_1 := hS_1q
      refine gz_aload_n dX12_begins_398 rfl rfl ?_
      have hA1 : rAll (va_up F 13 (upd (F 13) (Int32.toNatClampNeg iw) ((F 17) (Int32.toNatClampNeg (n0 5))))) := by
        intro q hq
        obtain ⟨qa0, qb0, qc0, qd0⟩ := hA q hq
        rw [show (va_up F 13 (upd (F 13) (Int32.toNatClampNeg iw) ((F 17) (Int32.toNatClampNeg (n0 5))))) 13 = (upd (F 13) (Int32.toNatClampNeg iw) ((F 17) (Int32.toNatClampNeg (n0 5)))) from rfl, show (va_up F 13 (upd (F 13) (Int32.toNatClampNeg iw) ((F 17) (Int32.toNatClampNeg (n0 5))))) 14 = (F 14) from rfl, show (va_up F 13 (upd (F 13) (Int32.toNatClampNeg iw) ((F 17) (Int32.toNatClampNeg (n0 5))))) 15 = (F 15) from rfl, show (va_up F 13 (upd (F 13) (Int32.toNatClampNeg iw) ((F 17) (Int32.toNatClampNeg (n0 5))))) 19 = (F 19) from rfl]
        refine ⟨?_, ?_, ?_, ?_⟩ <;> (try simp only [updE]) <;> (repeat' split) <;> first | omega | decide
      have l3a : lo3 F (va_up F 13 (upd (F 13) (Int32.toNatClampNeg iw) ((F 17) (Int32.toNatClampNeg (n0 5))))) (Int32.toNatClampNeg (n0 5)) := lo3_eq rfl rfl rfl
      refine scX12_316 (k_X12_sumC hS_1 (by (try rw [(show n 4 = (n0 4) from (hx.1 4 (by decide)))]); omega) (by rw [(show n 5 = (n0 5) from (hx.1 5 (by decide)))]; omega) hA1 (by rw [(show n 5 = (n0 5) from (hx.1 5 (by decide))), show (va_up F 13 (upd (F 13) (Int32.toNatClampNeg iw) ((F 17) (Int32.toNatClampNeg (n0 5))))) 17 = (F 17) from rfl]; omega) (rB_cg (hx.2.2.1 3 (by decide)) hB0) (by omega)) hS_1.1 ⟨(Nat.le_of_ble_eq_true rfl), (Nat.le_of_ble_eq_true rfl)⟩ ⟨(Nat.le_of_ble_eq_true rfl), (Nat.le_of_ble_eq_true rfl)⟩ rfl rfl (Nat.le_of_ble_eq_true rfl) dX12_begins_399 ?_
      rintro r_2 f_2 ⟨n_2, z_2, F_2, G_2, hS_2, hx2, hb_2, hT_2, hm_2, hA_2, hva_2, hvb_2, hE_2, hC_2, hl3_2⟩
      try simp only [(show n_2 4 = (n0 4) from ((hx2.1 4 (by decide)).trans (hx.1 4 (by decide))))] at hb_2 hT_2 hm_2 hA_2 hva_2 hvb_2 hE_2 hC_2 hl3_2
      try simp only [(show n_2 5 = (n0 5) from ((hx2.1 5 (by decide)).trans (hx.1 5 (by decide))))] at hb_2 hT_2 hm_2 hA_2 hva_2 hvb_2 hE_2 hC_2 hl3_2
      try simp only [(show F_2 3 = (F0 3) from ((hx2.2.2.1 3 (by decide)).trans (hx.2.2.1 3 (by decide))))] at hb_2 hT_2 hm_2 hA_2 hva_2 hvb_2 hE_2 hC_2 hl3_2
      try simp only [(show n 4 = (n0 4) from (hx.1 4 (by decide)))] at hb_2 hT_2 hm_2 hA_2 hva_2 hvb_2 hE_2 hC_2 hl3_2
      try simp only [(show n 5 = (n0 5) from (hx.1 5 (by decide)))] at hb_2 hT_2 hm_2 hA_2 hva_2 hvb_2 hE_2 hC_2 hl3_2
      try simp only [(show (va_up F 13 (upd (F 13) (Int32.toNatClampNeg iw) ((F 17) (Int32.toNatClampNeg (n0 5))))) 3 = (F0 3) from (hx.2.2.1 3 (by decide)))] at hb_2 hT_2 hm_2 hA_2 hva_2 hvb_2 hE_2 hC_2 hl3_2
      try rw [(show n 5 = (n0 5) from (hx.1 5 (by decide)))] at hva_2 hvb_2
      try rw [show (va_up F 13 (upd (F 13) (Int32.toNatClampNeg iw) ((F 17) (Int32.toNatClampNeg (n0 5))))) 17 = (F 17) from rfl] at hva_2
      try rw [(show n 5 = (n0 5) from (hx.1 5 (by decide)))] at hC_2
      try rw [(show n 5 = (n0 5) from (hx.1 5 (by decide)))] at hl3_2
      try simp only [(show n 5 = (n0 5) from (hx.1 5 (by decide))), show (va_up F 13 (upd (F 13) (Int32.toNatClampNeg iw) ((F 17) (Int32.toNatClampNeg (n0 5))))) 17 = (F 17) from rfl, (show n 21 = (n 21) from rfl), (show (va_up F 13 (upd (F 13) (Int32.toNatClampNeg iw) ((F 17) (Int32.toNatClampNeg (n0 5))))) 3 = (F0 3) from (hx.2.2.1 3 (by decide))), (show n 4 = (n0 4) from (hx.1 4 (by decide)))] at hE_2
      try simp only [(show n 5 = (n0 5) from (hx.1 5 (by decide))), show (va_up F 13 (upd (F 13) (Int32.toNatClampNeg iw) ((F 17) (Int32.toNatClampNeg (n0 5))))) 17 = (F 17) from rfl, (show n 21 = (n 21) from rfl), (show (va_up F 13 (upd (F 13) (Int32.toNatClampNeg iw) ((F 17) (Int32.toNatClampNeg (n0 5))))) 3 = (F0 3) from (hx.2.2.1 3 (by decide))), (show n 4 = (n0 4) from (hx.1 4 (by decide)))] at hC_2
      rw [ecf] at l3a hl3_2
      rw [show (n 21).toInt.toNat = Q by omega, show (F 17 (Int32.toNatClampNeg (n0 5))).toInt.toNat = V1 by omega] at hE_2 hC_2
      rw [ecf] at hC_2
      have hK9 : K = 9 := by omega
      have hH : hdR (tX (F0 3) (n0 4)) K Q V1 = (match suR (tX (F0 3) (n0 4)) 41 Q V1 with | .inl c => .inl c | .inr (q, V2) => match tkR (tX (F0 3) (n0 4)) q 58 with | .inl c => .inl c | .inr q2 => .inr (q2, V2)) := by unfold hdR; rw [if_neg (by omega), if_neg (by omega), if_pos hK9]; rfl
      cases hs : suR (tX (F0 3) (n0 4)) 41 Q V1 with
      | inl chs =>
        rw [hs] at hE_2
        obtain ⟨a1hs, a2hs⟩ := hE_2
        refine gz_ev (w := .int 0) (congrArg Value.int a1hs) ?_
        refine gz_if_ne (tgt := 407) dX12_begins_402 (by decide) (fun c_402 => ?_) (fun c_402 => ?_)
        · exact absurd c_402 (by decide)
        ·
          try simp only [mIn_0, lgc_lt, lgc_gt, lgc_le, lgc_ge, lgc_eq] at c_402
          try simp only [fl_lt, fl_le, fl_eq, fL_w, fL_lt, fL_le, tm1, tm10k, tm9, tm99, Int32.reduceToInt, Int64.reduceToInt, Int.not_lt, Int.not_le] at c_402
          refine gz_iconst (v := 0) dX12_begins_405 (by decide) ?_
          have h8n : ∀ i, i ≠ (40 * f + W) → F_2 8 i = F0 8 i := fun i hi => by rw [show F_2 8 = (F 8) from (hx2.2.2.1 8 (by decide))]; exact h8o i hi
          have h16n : ∀ i, i ≠ (40 * f + W) → F_2 16 i = F0 16 i := fun i hi => by rw [show F_2 16 = (F 16) from (hx2.2.2.1 16 (by decide))]; exact h16o i hi
          have l3n : lo3 F0 F_2 f := lo3_tr (lo3_tr (lo3_tr hlo l3a) hl3_2) (lo3_eq rfl rfl rfl)
          have sm_hb9 : ∀ r, r ∈ [6, 7, 9, 10, 11, 12] → F_2 r = F r := by
            intro r hr
            simp only [List.mem_cons, List.not_mem_nil, or_false] at hr
            rcases hr with rfl | rfl | rfl | rfl | rfl | rfl
            · exact (hx2.2.2.1 6 (by decide))
            · exact (hx2.2.2.1 7 (by decide))
            · exact (hx2.2.2.1 9 (by decide))
            · exact (hx2.2.2.1 10 (by decide))
            · exact (hx2.2.2.1 11 (by decide))
            · exact (hx2.2.2.1 12 (by decide))
          have of_hb9 : ∀ r, r ∈ [13, 14, 15] → ∀ i, i ≠ (40 * f + W) → F_2 r i = F r i := by
            intro r hr i hi
            rw [← eci] at hi
            simp only [List.mem_cons, List.not_mem_nil, or_false] at hr
            rcases hr with rfl | rfl | rfl
            · rw [show F_2 13 = (upd (F 13) (Int32.toNatClampNeg iw) ((F 17) (Int32.toNatClampNeg (n0 5)))) from (hx2.2.2.1 13 (by decide)), updE, if_neg hi]
            · rw [show F_2 14 = (F 14) from (hx2.2.2.1 14 (by decide))]
            · rw [show F_2 15 = (F 15) from (hx2.2.2.1 15 (by decide))]
          have hb9 : RDb F0 F_2 f W O := RDb_keep hb sm_hb9 of_hb9
          have hA9 : rAll F_2 := by
            intro q hq
            obtain ⟨qa0, qb0, qc0, qd0⟩ := hA q hq
            obtain ⟨qa1, qb1, qc1, qd1⟩ := hA_2 q hq
            rw [show F_2 13 = (upd (F 13) (Int32.toNatClampNeg iw) ((F 17) (Int32.toNatClampNeg (n0 5)))) from (hx2.2.2.1 13 (by decide)), show F_2 14 = (F 14) from (hx2.2.2.1 14 (by decide)), show F_2 15 = (F 15) from (hx2.2.2.1 15 (by decide)), show F_2 19 = (F_2 19) from rfl]
            refine ⟨?_, ?_, ?_, ?_⟩ <;> (try simp only [updE]) <;> (repeat' split) <;> first | omega | decide
          exact gz_zret rfl (by first | decide | exact nrb (Or.inl (by assumption)) | exact nrb (by assumption) | (refine nrb ?_; assumption)) dX12_begins_406 (Nat.le_of_ble_eq_true rfl) (Nat.le_of_ble_eq_true rfl) (⟨_, rfl, _, _, _, _, hS_2, (fx_tr (fx_F (fx_tr fx_rf hx (by decide)) (by decide)) hx2 (by decide)), (by first | exact Or.inl rfl | exact Or.inr rfl | assumption | (left; assumption)), (by (try rw [(show n_2 21 = (n_2 21) from rfl)]); (try rw [(show n_2 4 = (n0 4) from ((hx2.1 4 (by decide)).trans (hx.1 4 (by decide))))]); omega), (by (try rw [(show n_2 21 = (n_2 21) from rfl)]); omega), hA9, hb9.2.1, (fun h => absurd h (by decide)), (by rw [hE.1 hK9, hH, hs]; exact ⟨rfl, a2hs⟩), (fun ii _ => by rw [show F_2 25 = F 25 from (hx2.2.2.1 25 (by decide))]; exact congrFun (hx.2.2.1 25 (by decide)) ii), (fun z => absurd z (by decide)), l3n, (fun i hi => ⟨h8n i (by omega), h16n i (by omega)⟩), (fun _ _ z => absurd z (by decide))⟩)
      | inr rhs =>
        rw [hs] at hE_2
        obtain ⟨Q1, V2⟩ := rhs
        obtain ⟨a1hs, a2hs, a3hs, a4hs⟩ := hE_2
        rw [ecf] at a4hs
        have hD_ : ∀ c9 : Cn, LRv F f c9 V1 → LRv F_2 f (suC (tX (F0 3) (n0 4)) 41 Q V1 0 c9) V2 := fun c9 h9 => by have z := hC_2 c9 (LRv_rw rfl rfl rfl h9) a1hs; rw [show (F_2 17 f).toInt.toNat = V2 by omega] at z; exact z
        rw [← ecf] at a4hs
        refine gz_ev (w := .int 1) (congrArg Value.int a1hs) ?_
        refine gz_if_ne (tgt := 407) dX12_begins_402 (by decide) (fun c_402 => ?_) (fun c_402 => ?_)
        ·
          try simp only [mIn_0, lgc_lt, lgc_gt, lgc_le, lgc_ge, lgc_eq] at c_402
          try simp only [fl_lt, fl_le, fl_eq, fL_w, fL_lt, fL_le, tm1, tm10k, tm9, tm99, Int32.reduceToInt, Int64.reduceToInt, Int.not_lt, Int.not_le] at c_402
          refine gz_aload_n dX12_begins_407 rfl rfl ?_
          refine mg_41 hS_2 dX12_begins_408 ?_
          refine gz_iload dX12_begins_411 rfl ?_
          refine gz_aload_n dX12_begins_413 rfl rfl ?_
          refine mg_50 hS_2 dX12_begins_414 ?_
          refine gz_aload_n dX12_begins_417 rfl rfl ?_
          refine mg_307 hS_2 dX12_begins_418 ?_
          refine gz_ev (w := .int (n0 5)) (congrArg Value.int ((hx2.1 5 (by decide)).trans (hx.1 5 (by decide)))) ?_
          refine m_iald 17 hS_2 rfl (N := 22) rfl ((by exact vin_T (rfl : (n0 5).toInt = (n0 5).toInt) (by omega) (by omega))) dX12_begins_421 ?_
          refine gz_ev (w := .int ((F_2 17) (Int32.toNatClampNeg (n0 5)))) rfl ?_
          refine m_iast 14 hS_2 rfl (N := 880) rfl ((by exact vin_T (rfl : iw.toInt = iw.toInt) (by omega) (by omega))) dX12_begins_422 (fun f_3 hS_3q => ?_)
          have hS_3 : mS cy m a f0 n_2 z_2 (va_up F_2 14 (upd (F 14) (Int32.toNatClampNeg iw) ((F_2 17) (Int32.toNatClampNeg (n0 5))))) G_2 f_3 := (by have e9 := (show F_2 14 = (F 14) from (hx2.2.2.1 14 (by decide))); rw [e9] at hS_3q; exact hS_3q)
          refine gz_aload_n dX12_begins_423 rfl rfl ?_
          refine mg_44 hS_3 dX12_begins_424 ?_
          refine gz_iload dX12_begins_427 rfl ?_
          refine gz_aload_n dX12_begins_429 rfl rfl ?_
          refine mg_41 hS_3 dX12_begins_430 ?_
          refine gz_iload dX12_begins_433 rfl ?_
          refine m_iald 14 hS_3 rfl (N := 880) rfl ((by exact vin_T (rfl : iw.toInt = iw.toInt) (by omega) (by omega))) dX12_begins_435 ?_
          refine gz_ev (w := .int ((upd (F 14) (Int32.toNatClampNeg iw) ((F_2 17) (Int32.toNatClampNeg (n0 5)))) (Int32.toNatClampNeg iw))) rfl ?_
          refine gz_ev (w := .int ((F_2 17) (Int32.toNatClampNeg (n0 5)))) (congrArg Value.int (by rw [updE, if_pos rfl])) ?_
          refine m_iast 15 hS_3 rfl (N := 880) rfl ((by exact vin_T (rfl : iw.toInt = iw.toInt) (by omega) (by omega))) dX12_begins_436 (fun f_4 hS_4q => ?_)
          have hS_4 : mS cy m a f0 n_2 z_2 (va_up (va_up F_2 14 (upd (F 14) (Int32.toNatClampNeg iw) ((F_2 17) (Int32.toNatClampNeg (n0 5))))) 15 (upd (F 15) (Int32.toNatClampNeg iw) ((F_2 17) (Int32.toNatClampNeg (n0 5))))) G_2 f_4 := (by have e9 := (show (va_up F_2 14 (upd (F 14) (Int32.toNatClampNeg iw) ((F_2 17) (Int32.toNatClampNeg (n0 5))))) 15 = (F 15) from (hx2.2.2.1 15 (by decide))); rw [e9] at hS_4q; exact hS_4q)
          refine gz_aload_n dX12_begins_437 rfl rfl ?_
          refine gz_bipush (v := 58) dX12_begins_438 (by decide) ?_
          refine scX12_325 (k_X12_takesE (x := 58) hS_4 (by (try rw [(show n_2 21 = (n_2 21) from rfl)]); (try rw [(show n_2 4 = (n0 4) from ((hx2.1 4 (by decide)).trans (hx.1 4 (by decide))))]); omega) (rB_cg ((hx2.2.2.1 3 (by decide)).trans (hx.2.2.1 3 (by decide))) hB0) (by (try rw [(show n_2 22 = (n_2 22) from rfl)]); omega) (by decide)) hS_4.1 ⟨(Nat.le_of_ble_eq_true rfl), (Nat.le_of_ble_eq_true rfl)⟩ ⟨(Nat.le_of_ble_eq_true rfl), (Nat.le_of_ble_eq_true rfl)⟩ rfl rfl (Nat.le_of_ble_eq_true rfl) dX12_begins_440 ?_
          rintro r_5 f_5 ⟨n_5, z_5, F_5, G_5, hS_5, hx5, hb_5, hT_5, hm_5, hE_5⟩
          try simp only [(show n_5 4 = (n0 4) from ((hx5.1 4 (by decide)).trans ((hx2.1 4 (by decide)).trans (hx.1 4 (by decide)))))] at hb_5 hT_5 hm_5 hE_5
          try simp only [(show F_5 3 = (F0 3) from ((hx5.2.2.1 3 (by decide)).trans ((hx2.2.2.1 3 (by decide)).trans (hx.2.2.1 3 (by decide)))))] at hb_5 hT_5 hm_5 hE_5
          try simp only [(show n_2 4 = (n0 4) from ((hx2.1 4 (by decide)).trans (hx.1 4 (by decide))))] at hb_5 hT_5 hm_5 hE_5
          try simp only [(show (va_up (va_up F_2 14 (upd (F 14) (Int32.toNatClampNeg iw) ((F_2 17) (Int32.toNatClampNeg (n0 5))))) 15 (upd (F 15) (Int32.toNatClampNeg iw) ((F_2 17) (Int32.toNatClampNeg (n0 5))))) 3 = (F0 3) from ((hx2.2.2.1 3 (by decide)).trans (hx.2.2.1 3 (by decide))))] at hb_5 hT_5 hm_5 hE_5
          rw [show (n_2 21).toInt.toNat = Q1 by omega, show ((58 : Int32)).toInt = 58 from rfl] at hE_5
          cases ht : tkR (tX (F0 3) (n0 4)) Q1 58 with
          | inl cht =>
            rw [ht] at hE_5
            obtain ⟨a1ht, a2ht⟩ := hE_5
            refine gz_ev (w := .int 0) (congrArg Value.int a1ht) ?_
            refine gz_if_ne (tgt := 448) dX12_begins_443 (by decide) (fun c_443 => ?_) (fun c_443 => ?_)
            · exact absurd c_443 (by decide)
            ·
              try simp only [mIn_0, lgc_lt, lgc_gt, lgc_le, lgc_ge, lgc_eq] at c_443
              try simp only [fl_lt, fl_le, fl_eq, fL_w, fL_lt, fL_le, tm1, tm10k, tm9, tm99, Int32.reduceToInt, Int64.reduceToInt, Int.not_lt, Int.not_le] at c_443
              refine gz_iconst (v := 0) dX12_begins_446 (by decide) ?_
              have h8n : ∀ i, i ≠ (40 * f + W) → F_5 8 i = F0 8 i := fun i hi => by rw [show F_5 8 = (F 8) from ((hx5.2.2.1 8 (by decide)).trans (hx2.2.2.1 8 (by decide)))]; exact h8o i hi
              have h16n : ∀ i, i ≠ (40 * f + W) → F_5 16 i = F0 16 i := fun i hi => by rw [show F_5 16 = (F 16) from ((hx5.2.2.1 16 (by decide)).trans (hx2.2.2.1 16 (by decide)))]; exact h16o i hi
              have l3n : lo3 F0 F_5 f := lo3_tr (lo3_tr (lo3_tr hlo l3a) hl3_2) (lo3_eq (hx5.2.2.1 18 (by decide)) (hx5.2.2.1 19 (by decide)) (hx5.2.2.1 20 (by decide)))
              have sm_hb9 : ∀ r, r ∈ [6, 7, 9, 10, 11, 12] → F_5 r = F r := by
                intro r hr
                simp only [List.mem_cons, List.not_mem_nil, or_false] at hr
                rcases hr with rfl | rfl | rfl | rfl | rfl | rfl
                · exact ((hx5.2.2.1 6 (by decide)).trans (hx2.2.2.1 6 (by decide)))
                · exact ((hx5.2.2.1 7 (by decide)).trans (hx2.2.2.1 7 (by decide)))
                · exact ((hx5.2.2.1 9 (by decide)).trans (hx2.2.2.1 9 (by decide)))
                · exact ((hx5.2.2.1 10 (by decide)).trans (hx2.2.2.1 10 (by decide)))
                · exact ((hx5.2.2.1 11 (by decide)).trans (hx2.2.2.1 11 (by decide)))
                · exact ((hx5.2.2.1 12 (by decide)).trans (hx2.2.2.1 12 (by decide)))
              have of_hb9 : ∀ r, r ∈ [13, 14, 15] → ∀ i, i ≠ (40 * f + W) → F_5 r i = F r i := by
                intro r hr i hi
                rw [← eci] at hi
                simp only [List.mem_cons, List.not_mem_nil, or_false] at hr
                rcases hr with rfl | rfl | rfl
                · rw [show F_5 13 = (upd (F 13) (Int32.toNatClampNeg iw) ((F 17) (Int32.toNatClampNeg (n0 5)))) from ((hx5.2.2.1 13 (by decide)).trans (hx2.2.2.1 13 (by decide))), updE, if_neg hi]
                · rw [show F_5 14 = (upd (F 14) (Int32.toNatClampNeg iw) ((F_2 17) (Int32.toNatClampNeg (n0 5)))) from (hx5.2.2.1 14 (by decide)), updE, if_neg hi]
                · rw [show F_5 15 = (upd (F 15) (Int32.toNatClampNeg iw) ((F_2 17) (Int32.toNatClampNeg (n0 5)))) from (hx5.2.2.1 15 (by decide)), updE, if_neg hi]
              have hb9 : RDb F0 F_5 f W O := RDb_keep hb sm_hb9 of_hb9
              have hA9 : rAll F_5 := by
                intro q hq
                obtain ⟨qa0, qb0, qc0, qd0⟩ := hA q hq
                obtain ⟨qa1, qb1, qc1, qd1⟩ := hA_2 q hq
                rw [show F_5 13 = (upd (F 13) (Int32.toNatClampNeg iw) ((F 17) (Int32.toNatClampNeg (n0 5)))) from ((hx5.2.2.1 13 (by decide)).trans (hx2.2.2.1 13 (by decide))), show F_5 14 = (upd (F 14) (Int32.toNatClampNeg iw) ((F_2 17) (Int32.toNatClampNeg (n0 5)))) from (hx5.2.2.1 14 (by decide)), show F_5 15 = (upd (F 15) (Int32.toNatClampNeg iw) ((F_2 17) (Int32.toNatClampNeg (n0 5)))) from (hx5.2.2.1 15 (by decide)), show F_5 19 = (F_2 19) from (hx5.2.2.1 19 (by decide))]
                refine ⟨?_, ?_, ?_, ?_⟩ <;> (try simp only [updE]) <;> (repeat' split) <;> first | omega | decide
              exact gz_zret rfl (by first | decide | exact nrb (Or.inl (by assumption)) | exact nrb (by assumption) | (refine nrb ?_; assumption)) dX12_begins_447 (Nat.le_of_ble_eq_true rfl) (Nat.le_of_ble_eq_true rfl) (⟨_, rfl, _, _, _, _, hS_5, (fx_tr (fx_F (fx_F (fx_tr (fx_F (fx_tr fx_rf hx (by decide)) (by decide)) hx2 (by decide)) (by decide)) (by decide)) hx5 (by decide)), (by first | exact Or.inl rfl | exact Or.inr rfl | assumption | (left; assumption)), (by (try rw [(show n_5 21 = (n_5 21) from rfl)]); (try rw [(show n_5 4 = (n0 4) from ((hx5.1 4 (by decide)).trans ((hx2.1 4 (by decide)).trans (hx.1 4 (by decide)))))]); omega), (by (try rw [(show n_5 21 = (n_5 21) from rfl)]); omega), hA9, hb9.2.1, (fun h => absurd h (by decide)), (by rw [hE.1 hK9, hH, hs]; dsimp only; rw [ht]; exact ⟨rfl, a2ht⟩), (fun ii _ => by rw [show F_5 25 = F 25 from ((hx5.2.2.1 25 (by decide)).trans (hx2.2.2.1 25 (by decide)))]; exact congrFun (hx.2.2.1 25 (by decide)) ii), (fun z => absurd z (by decide)), l3n, (fun i hi => ⟨h8n i (by omega), h16n i (by omega)⟩), (fun _ _ z => absurd z (by decide))⟩)
          | inr rht =>
            rw [ht] at hE_5
            obtain ⟨a1ht, a2ht, a3ht⟩ := hE_5
            refine gz_ev (w := .int 1) (congrArg Value.int a1ht) ?_
            refine gz_if_ne (tgt := 448) dX12_begins_443 (by decide) (fun c_443 => ?_) (fun c_443 => ?_)
            ·
              try simp only [mIn_0, lgc_lt, lgc_gt, lgc_le, lgc_ge, lgc_eq] at c_443
              try simp only [fl_lt, fl_le, fl_eq, fL_w, fL_lt, fL_le, tm1, tm10k, tm9, tm99, Int32.reduceToInt, Int64.reduceToInt, Int.not_lt, Int.not_le] at c_443
              have sm_hb8 : ∀ r, r ∈ [6, 7, 9, 10, 11, 12] → F_5 r = F r := by
                intro r hr
                simp only [List.mem_cons, List.not_mem_nil, or_false] at hr
                rcases hr with rfl | rfl | rfl | rfl | rfl | rfl
                · exact ((hx5.2.2.1 6 (by decide)).trans (hx2.2.2.1 6 (by decide)))
                · exact ((hx5.2.2.1 7 (by decide)).trans (hx2.2.2.1 7 (by decide)))
                · exact ((hx5.2.2.1 9 (by decide)).trans (hx2.2.2.1 9 (by decide)))
                · exact ((hx5.2.2.1 10 (by decide)).trans (hx2.2.2.1 10 (by decide)))
                · exact ((hx5.2.2.1 11 (by decide)).trans (hx2.2.2.1 11 (by decide)))
                · exact ((hx5.2.2.1 12 (by decide)).trans (hx2.2.2.1 12 (by decide)))
              have of_hb8 : ∀ r, r ∈ [13, 14, 15] → ∀ i, i ≠ (40 * f + W) → F_5 r i = F r i := by
                intro r hr i hi
                rw [← eci] at hi
                simp only [List.mem_cons, List.not_mem_nil, or_false] at hr
                rcases hr with rfl | rfl | rfl
                · rw [show F_5 13 = (upd (F 13) (Int32.toNatClampNeg iw) ((F 17) (Int32.toNatClampNeg (n0 5)))) from ((hx5.2.2.1 13 (by decide)).trans (hx2.2.2.1 13 (by decide))), updE, if_neg hi]
                · rw [show F_5 14 = (upd (F 14) (Int32.toNatClampNeg iw) ((F_2 17) (Int32.toNatClampNeg (n0 5)))) from (hx5.2.2.1 14 (by decide)), updE, if_neg hi]
                · rw [show F_5 15 = (upd (F 15) (Int32.toNatClampNeg iw) ((F_2 17) (Int32.toNatClampNeg (n0 5)))) from (hx5.2.2.1 15 (by decide)), updE, if_neg hi]
              have hb8 : RDb F0 F_5 f W O := RDb_keep hb sm_hb8 of_hb8
              have hA8 : rAll F_5 := by
                intro q hq
                obtain ⟨qa0, qb0, qc0, qd0⟩ := hA q hq
                obtain ⟨qa1, qb1, qc1, qd1⟩ := hA_2 q hq
                rw [show F_5 13 = (upd (F 13) (Int32.toNatClampNeg iw) ((F 17) (Int32.toNatClampNeg (n0 5)))) from ((hx5.2.2.1 13 (by decide)).trans (hx2.2.2.1 13 (by decide))), show F_5 14 = (upd (F 14) (Int32.toNatClampNeg iw) ((F_2 17) (Int32.toNatClampNeg (n0 5)))) from (hx5.2.2.1 14 (by decide)), show F_5 15 = (upd (F 15) (Int32.toNatClampNeg iw) ((F_2 17) (Int32.toNatClampNeg (n0 5)))) from (hx5.2.2.1 15 (by decide)), show F_5 19 = (F_2 19) from (hx5.2.2.1 19 (by decide))]
                refine ⟨?_, ?_, ?_, ?_⟩ <;> (try simp only [updE]) <;> (repeat' split) <;> first | omega | decide
              have x7 : (F_5 7 (40 * f + W)).toInt = kd.toInt := by rw [show F_5 7 = (F 7) from ((hx5.2.2.1 7 (by decide)).trans (hx2.2.2.1 7 (by decide)))]; exact h7
              have x17 : (F_5 17 (Int32.toNatClampNeg (n0 5))).toInt = ((F_2 17) (Int32.toNatClampNeg (n0 5))).toInt := by rw [show F_5 17 = (F_2 17) from (hx5.2.2.1 17 (by decide))]
              have x13 : (F_5 13 (40 * f + W)).toInt = ((upd (F 13) (Int32.toNatClampNeg iw) ((F 17) (Int32.toNatClampNeg (n0 5)))) (40 * f + W)).toInt := by rw [show F_5 13 = (upd (F 13) (Int32.toNatClampNeg iw) ((F 17) (Int32.toNatClampNeg (n0 5)))) from ((hx5.2.2.1 13 (by decide)).trans (hx2.2.2.1 13 (by decide)))]
              rw [← eci, updE, if_pos rfl, eci] at x13
              have x14 : (F_5 14 (40 * f + W)).toInt = ((upd (F 14) (Int32.toNatClampNeg iw) ((F_2 17) (Int32.toNatClampNeg (n0 5)))) (40 * f + W)).toInt := by rw [show F_5 14 = (upd (F 14) (Int32.toNatClampNeg iw) ((F_2 17) (Int32.toNatClampNeg (n0 5)))) from (hx5.2.2.1 14 (by decide))]
              rw [← eci, updE, if_pos rfl, eci] at x14
              have x15 : (F_5 15 (40 * f + W)).toInt = ((upd (F 15) (Int32.toNatClampNeg iw) ((F_2 17) (Int32.toNatClampNeg (n0 5)))) (40 * f + W)).toInt := by rw [show F_5 15 = (upd (F 15) (Int32.toNatClampNeg iw) ((F_2 17) (Int32.toNatClampNeg (n0 5)))) from (hx5.2.2.1 15 (by decide))]
              rw [← eci, updE, if_pos rfl, eci] at x15
              have h8n : ∀ i, i ≠ (40 * f + W) → F_5 8 i = F0 8 i := fun i hi => by rw [show F_5 8 = (F 8) from ((hx5.2.2.1 8 (by decide)).trans (hx2.2.2.1 8 (by decide)))]; exact h8o i hi
              have h16n : ∀ i, i ≠ (40 * f + W) → F_5 16 i = F0 16 i := fun i hi => by rw [show F_5 16 = (F 16) from ((hx5.2.2.1 16 (by decide)).trans (hx2.2.2.1 16 (by decide)))]; exact h16o i hi
              have l3n : lo3 F0 F_5 f := lo3_tr (lo3_tr (lo3_tr hlo l3a) hl3_2) (lo3_eq (hx5.2.2.1 18 (by decide)) (hx5.2.2.1 19 (by decide)) (hx5.2.2.1 20 (by decide)))
              have hFF : hdF F0 F_5 f W K (F0 17 f).toInt.toNat V2 BG := by
                have z := hdS_su (F2 := F_5) (hF.1 hK9).2 hK9 hs (fun c9 h9 => LRv_rw (hx5.2.2.1 18 (by decide)) (hx5.2.2.1 19 (by decide)) (hx5.2.2.1 20 (by decide)) (hD_ c9 h9)) (by rw [show F_5 8 = F 8 from ((hx5.2.2.1 8 (by decide)).trans (hx2.2.2.1 8 (by decide)))]) (by omega) (by omega) (by omega)
                rw [← (hF.1 hK9).1]; exact z
              refine gz_sub (lv' := [(0, .ref m), (4, .int kd), (7, .int iw)]) (by simp [List.lookup]) ?_
              exact l_X12_beginsCD (K := K) (Q := rht) (V1 := V2) (BG := BG) h5 hJ hB0 hwi hkd hBG (by rw [hE.1 hK9, hH, hs]; dsimp only; rw [ht]) 1 _ _ _ _ _ hS_5 (fx_tr (fx_F (fx_F (fx_tr (fx_F hx (by decide)) hx2 (by decide)) (by decide)) (by decide)) hx5 (by decide)) (by (try rw [(show n_5 21 = (n_5 21) from rfl)]); (try rw [(show n_5 4 = (n0 4) from ((hx5.1 4 (by decide)).trans ((hx2.1 4 (by decide)).trans (hx.1 4 (by decide)))))]); omega) (by (try rw [(show n_5 21 = (n_5 21) from rfl)]); omega) hA8 hb8 x7 (by omega) (by omega) (by (try rw [(show n_5 22 = (n_5 22) from rfl)]); omega) (by (try rw [(show n_5 21 = (n_5 21) from rfl)]); omega) (by omega) h8n h16n l3n hFF hk2 (by decide)
            · exact absurd c_443 (by decide)
        · exact absurd c_402 (by decide)

set_option maxHeartbeats 4000000 in
set_option maxRecDepth 100000 in
theorem l_X12_beginsCB2 {l : Launch} {D : va_G} {cy : Nat → ClassId} {b : Nat} {m : Nat} {a : Nat → Nat} {f0 : gMem} {n0 : Nat → Int32} {z0 : Nat → Int64} {F0 : Nat → Nat → Int32} {G0 : Nat → Nat → Int64}  {f W O K Q V1 : Nat} {kd iw : Int32} {BG : Cn → Cn} (h5 : (n0 5).toInt = (f : Int) ∧ f < 20) (hJ : RDJ F0 n0 F0 f W O true) (hB0 : rB F0) (hwi : iw.toInt = 40 * (f : Int) + W ∧ W ≤ 39) (hkd : kd.toInt = (K : Int) ∧ K ≤ 10) (hBG : ∃ q9, ∀ co : Cn, BG co = hdC (tX (F0 3) (n0 4)) K q9 (F0 17 f).toInt.toNat W (nwC K W (upC (skW F0 f O)).1 (upC (skW F0 f O)).2 O co)) (hE : (6 ≤ K ∧ K ≤ 9 → bgR (tX (F0 3) (n0 4)) (n0 21).toInt.toNat W (F0 17 f).toInt.toNat O = tlR (tX (F0 3) (n0 4)) K (hdR (tX (F0 3) (n0 4)) K Q V1)) ∧ (¬ (6 ≤ K ∧ K ≤ 9) → bgR (tX (F0 3) (n0 4)) (n0 21).toInt.toNat W (F0 17 f).toInt.toNat O = tlR (tX (F0 3) (n0 4)) K (.inr (Q, V1)))) : ∀ (k : Nat)  (n : Nat → Int32) (z : Nat → Int64) (F : Nat → Nat → Int32) (G : Nat → Nat → Int64) (fm : gMem), mS cy m a f0 n z F G fm → fx [21, 22, 23] [] [6, 7, 8, 9, 10, 11, 12, 13, 14, 15, 16, 17, 18, 19, 20] [] n0 z0 F0 G0 n z F G → ((0 ≤ (n 21).toInt ∧ (n 21).toInt ≤ (n 4).toInt ∧ (n 4).toInt ≤ 400)) → ((n0 21).toInt ≤ (n 21).toInt) → (rAll F) → (RDb F0 F f W O) → ((F 7 (40 * f + W)).toInt = kd.toInt) → ((F0 17 (Int32.toNatClampNeg (n0 5))).toInt ≤ (F 17 (Int32.toNatClampNeg (n0 5))).toInt ∧ (F 17 (Int32.toNatClampNeg (n0 5))).toInt ≤ 40) → (((F 13 (40 * f + W)).toInt ≤ (F 14 (40 * f + W)).toInt ∧ (F 14 (40 * f + W)).toInt ≤ (F 15 (40 * f + W)).toInt) ∧ (F 15 (40 * f + W)).toInt - (F 13 (40 * f + W)).toInt ≤ (F 17 (Int32.toNatClampNeg (n0 5))).toInt - (F0 17 (Int32.toNatClampNeg (n0 5))).toInt) → ((n 22).toInt = 0) → ((n 21).toInt = (Q : Int)) → ((F 17 (Int32.toNatClampNeg (n0 5))).toInt = (V1 : Int)) → (∀ i, i ≠ (40 * f + W) → F 8 i = F0 8 i) → (∀ i, i ≠ (40 * f + W) → F 16 i = F0 16 i) → (lo3 F0 F f) → ((6 ≤ K ∧ K ≤ 9 → (V1 = (F0 17 f).toInt.toNat ∧ hdS (tX (F0 3) (n0 4)) F0 F f W K Q V1 BG)) ∧ (¬ (6 ≤ K ∧ K ≤ 9) → hdF F0 F f W K (F0 17 f).toInt.toNat V1 BG)) → (2 ≤ kd.toInt) → (0 < (k : Int)) → gG l (gRm 5 0 0) (gQf D b (pI fun r f2 => ∃ (n2 : Nat → Int32) (z2 : Nat → Int64) (F2 : Nat → Nat → Int32) (G2 : Nat → Nat → Int64), mS cy m a f0 n2 z2 F2 G2 f2 ∧ fx [21, 22, 23, 24] [] [6, 7, 8, 9, 10, 11, 12, 13, 14, 15, 16, 17, 18, 19, 20, 25, 26] [] n0 z0 F0 G0 n2 z2 F2 G2 ∧ (r = 0 ∨ r = 1) ∧ (0 ≤ (n2 21).toInt ∧ (n2 21).toInt ≤ (n2 4).toInt ∧ (n2 4).toInt ≤ 400) ∧ (n0 21).toInt ≤ (n2 21).toInt ∧ rAll F2 ∧ (∀ g, g < f → agF F0 F2 g) ∧ (r = 1 → RDJ F0 n2 F2 f (W + 1) O false ∨ RDJ F0 n2 F2 f (W + 1) (O + 1) true) ∧ exB (bgR (tX (F0 3) (n0 4)) (n0 21).toInt.toNat W (F0 17 f).toInt.toNat O) O r n0 n2 F0 F2 f ∧ (∀ ii : Nat, ii < O → F2 25 ii = F0 25 ii) ∧ (r = 1 → (n2 24).toInt = ((O + 1 : Nat) : Int) → (F2 25 O).toInt = 40 * (f : Int) + W) ∧ lo3 F0 F2 f ∧ (∀ i, i < 40 * f → F2 8 i = F0 8 i ∧ F2 16 i = F0 16 i) ∧ (∀ co : Cn, LR F0 f co W (F0 17 f).toInt.toNat → r = 1 → LR F2 f (BG co) (W + 1) (F2 17 f).toInt.toNat)) 0 0) gTt D cy b cX12_begins 9 (some .boolean) RX12 "begins" 0 0 fm 334 [(0, .ref m), (4, .int kd), (7, .int iw)] [] := by
  intro k
  induction k with
  | zero =>
    intro n z F G fm hS hx hT hm hA hb h7 hv hvz h22 h21 h17 h8o h16o hlo hF hk2 hk
    exfalso; omega
  | succ k ih =>
    intro n z F G fm hS hx hT hm hA hb h7 hv hvz h22 h21 h17 h8o h16o hlo hF hk2 hk
    have e4 : n 4 = n0 4 := hx.1 4 (by decide)
    rw [e4] at hT
    obtain ⟨g6, g24, gR, gv, gA, gg⟩ := id hJ
    have ecf : (Int32.toNatClampNeg (n0 5)) = f := by rw [clN]; omega
    have eci : Int32.toNatClampNeg iw = (40 * f + W) := by rw [clN]; omega
    have eco : Int32.toNatClampNeg (n0 24) = O := by rw [clN]; omega
    have gO := hb.2.2.2.2.2.2
    have gv2 : (F0 17 (Int32.toNatClampNeg (n0 5))).toInt = (F0 17 f).toInt := by rw [ecf]
    have e3 : F 3 = F0 3 := hx.2.2.1 3 (by decide)
    have hB : rB F := rB_cg e3 hB0
    have hln := tX_ln (g := F0 3) (L := n0 4) (by omega)
    refine gz_iload dX12_begins_334 rfl ?_
    refine gz_bipush (v := 6) dX12_begins_336 (by decide) ?_
    refine gz_icmp_eq (tgt := 355) dX12_begins_338 (by decide) (fun c_338 => ?_) (fun c_338 => ?_)
    ·
      try simp only [mIn_0, lgc_lt, lgc_gt, lgc_le, lgc_ge, lgc_eq] at c_338
      try simp only [fl_lt, fl_le, fl_eq, fL_w, fL_lt, fL_le, tm1, tm10k, tm9, tm99, Int32.reduceToInt, Int64.reduceToInt, Int.not_lt, Int.not_le] at c_338
      refine gz_aload_n dX12_begins_355 rfl rfl ?_
      refine gz_iload dX12_begins_356 rfl ?_
      refine scX12_322 (k_X12_testC (x1 := iw) hS (by (try rw [(show n 4 = (n0 4) from (hx.1 4 (by decide)))]); omega) (by rw [(show n 5 = (n0 5) from (hx.1 5 (by decide)))]; omega) hA (by rw [(show n 5 = (n0 5) from (hx.1 5 (by decide)))]; omega) (by omega) hB (by omega)) hS.1 ⟨(Nat.le_of_ble_eq_true rfl), (Nat.le_of_ble_eq_true rfl)⟩ ⟨(Nat.le_of_ble_eq_true rfl), (Nat.le_of_ble_eq_true rfl)⟩ rfl rfl (Nat.le_of_ble_eq_true rfl) dX12_begins_358 ?_
      rintro r_1 f_1 ⟨n_1, z_1, F_1, G_1, hS_1, hx1, hb_1, hT_1, hm_1, hA_1, hvv_1, hof_1, hyes_1, hE_1, ho16_1, hy16_1, hC_1, hl3_1⟩
      try simp only [(show n_1 4 = (n0 4) from ((hx1.1 4 (by decide)).trans (hx.1 4 (by decide))))] at hb_1 hT_1 hm_1 hA_1 hvv_1 hof_1 hyes_1 hE_1 ho16_1 hy16_1 hC_1 hl3_1
      try simp only [(show n_1 5 = (n0 5) from ((hx1.1 5 (by decide)).trans (hx.1 5 (by decide))))] at hb_1 hT_1 hm_1 hA_1 hvv_1 hof_1 hyes_1 hE_1 ho16_1 hy16_1 hC_1 hl3_1
      try simp only [(show F_1 3 = (F0 3) from ((hx1.2.2.1 3 (by decide)).trans (hx.2.2.1 3 (by decide))))] at hb_1 hT_1 hm_1 hA_1 hvv_1 hof_1 hyes_1 hE_1 ho16_1 hy16_1 hC_1 hl3_1
      try simp only [(show n 4 = (n0 4) from (hx.1 4 (by decide)))] at hb_1 hT_1 hm_1 hA_1 hvv_1 hof_1 hyes_1 hE_1 ho16_1 hy16_1 hC_1 hl3_1
      try simp only [(show n 5 = (n0 5) from (hx.1 5 (by decide)))] at hb_1 hT_1 hm_1 hA_1 hvv_1 hof_1 hyes_1 hE_1 ho16_1 hy16_1 hC_1 hl3_1
      try simp only [(show F 3 = (F0 3) from (hx.2.2.1 3 (by decide)))] at hb_1 hT_1 hm_1 hA_1 hvv_1 hof_1 hyes_1 hE_1 ho16_1 hy16_1 hC_1 hl3_1
      try rw [(show n 5 = (n0 5) from (hx.1 5 (by decide)))] at hvv_1 hyes_1 hE_1
      try rw [(show n 5 = (n0 5) from (hx.1 5 (by decide)))] at hy16_1
      try rw [(show n 5 = (n0 5) from (hx.1 5 (by decide)))] at hC_1
      try rw [(show n 5 = (n0 5) from (hx.1 5 (by decide)))] at hl3_1
      have l3a : lo3 F F f := lo3_eq rfl rfl rfl
      rw [show (n 21).toInt.toNat = Q by omega, show (F 17 (Int32.toNatClampNeg (n0 5))).toInt.toNat = V1 by omega] at hE_1 hy16_1 hC_1
      rw [ecf] at hC_1 hl3_1
      have hK6 : K = 6 ∨ K = 7 ∨ K = 8 := by omega
      have hH : hdR (tX (F0 3) (n0 4)) K Q V1 = (match tsR (tX (F0 3) (n0 4)) Q V1 with | .inl c => .inl c | .inr (q, V2) => match tkR (tX (F0 3) (n0 4)) q 58 with | .inl c => .inl c | .inr q2 => .inr (q2, V2)) := by
        unfold hdR tsR; rw [if_neg (by omega), if_pos hK6]
        cases suR (tX (F0 3) (n0 4)) 41 Q V1 with
        | inl c => rfl
        | inr z => obtain ⟨z1, z2⟩ := z; dsimp only; cases reR (tX (F0 3) (n0 4)) z1 with
          | inl c => rfl
          | inr y => rfl
      cases hs : tsR (tX (F0 3) (n0 4)) Q V1 with
      | inl chs =>
        rw [hs] at hE_1
        obtain ⟨a1hs, a2hs⟩ := hE_1
        refine gz_ev (w := .int 0) (congrArg Value.int a1hs) ?_
        refine gz_if_eq (tgt := 373) dX12_begins_361 (by decide) (fun c_361 => ?_) (fun c_361 => ?_)
        ·
          try simp only [mIn_0, lgc_lt, lgc_gt, lgc_le, lgc_ge, lgc_eq] at c_361
          try simp only [fl_lt, fl_le, fl_eq, fL_w, fL_lt, fL_le, tm1, tm10k, tm9, tm99, Int32.reduceToInt, Int64.reduceToInt, Int.not_lt, Int.not_le] at c_361
          refine gz_iconst (v := 0) dX12_begins_373 (by decide) ?_
          have h8n : ∀ i, i ≠ (40 * f + W) → F_1 8 i = F0 8 i := fun i hi => by rw [show F_1 8 = (F 8) from (hx1.2.2.1 8 (by decide))]; exact h8o i hi
          have h16n : ∀ i, i ≠ (40 * f + W) → F_1 16 i = F0 16 i := fun i hi => by rw [show F_1 16 = F_1 16 from rfl, ho16_1 i (by rw [eci]; exact hi)]; exact h16o i hi
          have l3n : lo3 F0 F_1 f := lo3_tr (lo3_tr (lo3_tr hlo l3a) hl3_1) (lo3_eq rfl rfl rfl)
          have sm_hb9 : ∀ r, r ∈ [6, 7, 9, 10, 11, 12] → F_1 r = F r := by
            intro r hr
            simp only [List.mem_cons, List.not_mem_nil, or_false] at hr
            rcases hr with rfl | rfl | rfl | rfl | rfl | rfl
            · exact (hx1.2.2.1 6 (by decide))
            · exact (hx1.2.2.1 7 (by decide))
            · exact (hx1.2.2.1 9 (by decide))
            · exact (hx1.2.2.1 10 (by decide))
            · exact (hx1.2.2.1 11 (by decide))
            · exact (hx1.2.2.1 12 (by decide))
          have of_hb9 : ∀ r, r ∈ [13, 14, 15] → ∀ i, i ≠ (40 * f + W) → F_1 r i = F r i := by
            intro r hr i hi
            rw [← eci] at hi
            simp only [List.mem_cons, List.not_mem_nil, or_false] at hr
            rcases hr with rfl | rfl | rfl
            · rw [show F_1 13 = (F_1 13) from rfl]; exact hof_1 13 (by decide) i hi
            · rw [show F_1 14 = (F_1 14) from rfl]; exact hof_1 14 (by decide) i hi
            · rw [show F_1 15 = (F_1 15) from rfl]; exact hof_1 15 (by decide) i hi
          have hb9 : RDb F0 F_1 f W O := RDb_keep hb sm_hb9 of_hb9
          have hA9 : rAll F_1 := by
            intro q hq
            obtain ⟨qa0, qb0, qc0, qd0⟩ := hA_1 q hq
            rw [show F_1 13 = (F_1 13) from rfl, show F_1 14 = (F_1 14) from rfl, show F_1 15 = (F_1 15) from rfl, show F_1 19 = (F_1 19) from rfl]
            refine ⟨?_, ?_, ?_, ?_⟩ <;> (try simp only [updE]) <;> (repeat' split) <;> first | omega | decide
          exact gz_zret rfl (by first | decide | exact nrb (Or.inl (by assumption)) | exact nrb (by assumption) | (refine nrb ?_; assumption)) dX12_begins_374 (Nat.le_of_ble_eq_true rfl) (Nat.le_of_ble_eq_true rfl) (⟨_, rfl, _, _, _, _, hS_1, (fx_tr (fx_tr fx_rf hx (by decide)) hx1 (by decide)), (by first | exact Or.inl rfl | exact Or.inr rfl | assumption | (left; assumption)), (by (try rw [(show n_1 21 = (n_1 21) from rfl)]); (try rw [(show n_1 4 = (n0 4) from ((hx1.1 4 (by decide)).trans (hx.1 4 (by decide))))]); omega), (by (try rw [(show n_1 21 = (n_1 21) from rfl)]); omega), hA9, hb9.2.1, (fun h => absurd h (by decide)), (by rw [hE.1 (by omega), hH, hs]; exact ⟨rfl, a2hs⟩), (fun ii _ => by rw [show F_1 25 = F 25 from (hx1.2.2.1 25 (by decide))]; exact congrFun (hx.2.2.1 25 (by decide)) ii), (fun z => absurd z (by decide)), l3n, (fun i hi => ⟨h8n i (by omega), h16n i (by omega)⟩), (fun _ _ z => absurd z (by decide))⟩)
        · exact absurd c_361 (by decide)
      | inr rhs =>
        rw [hs] at hE_1
        obtain ⟨Q1, V2⟩ := rhs
        obtain ⟨a1hs, a2hs, a3hs, a4hs⟩ := hE_1
        rw [ecf] at a4hs
        have hD_ : ∀ c9 : Cn, LRv F f c9 V1 → LRv F_1 f (tsC (tX (F0 3) (n0 4)) Q V1 c9) V2 := fun c9 h9 => by have z := hC_1 c9 h9 a1hs; rw [show (F_1 17 f).toInt.toNat = V2 by omega] at z; exact z
        rw [← ecf] at a4hs
        refine gz_ev (w := .int 1) (congrArg Value.int a1hs) ?_
        refine gz_if_eq (tgt := 373) dX12_begins_361 (by decide) (fun c_361 => ?_) (fun c_361 => ?_)
        · exact absurd c_361 (by decide)
        ·
          try simp only [mIn_0, lgc_lt, lgc_gt, lgc_le, lgc_ge, lgc_eq] at c_361
          try simp only [fl_lt, fl_le, fl_eq, fL_w, fL_lt, fL_le, tm1, tm10k, tm9, tm99, Int32.reduceToInt, Int64.reduceToInt, Int.not_lt, Int.not_le] at c_361
          have hy_ := hyes_1 a1hs
          rw [eci] at hy_
          have hz_ := hy16_1 a1hs
          rw [eci] at hz_
          refine gz_aload_n dX12_begins_364 rfl rfl ?_
          refine gz_bipush (v := 58) dX12_begins_365 (by decide) ?_
          refine scX12_325 (k_X12_takesE (x := 58) hS_1 (by (try rw [(show n_1 21 = (n_1 21) from rfl)]); (try rw [(show n_1 4 = (n0 4) from ((hx1.1 4 (by decide)).trans (hx.1 4 (by decide))))]); omega) (rB_cg ((hx1.2.2.1 3 (by decide)).trans (hx.2.2.1 3 (by decide))) hB0) (by (try rw [(show n_1 22 = (n_1 22) from rfl)]); omega) (by decide)) hS_1.1 ⟨(Nat.le_of_ble_eq_true rfl), (Nat.le_of_ble_eq_true rfl)⟩ ⟨(Nat.le_of_ble_eq_true rfl), (Nat.le_of_ble_eq_true rfl)⟩ rfl rfl (Nat.le_of_ble_eq_true rfl) dX12_begins_367 ?_
          rintro r_2 f_2 ⟨n_2, z_2, F_2, G_2, hS_2, hx2, hb_2, hT_2, hm_2, hE_2⟩
          try simp only [(show n_2 4 = (n0 4) from ((hx2.1 4 (by decide)).trans ((hx1.1 4 (by decide)).trans (hx.1 4 (by decide)))))] at hb_2 hT_2 hm_2 hE_2
          try simp only [(show F_2 3 = (F0 3) from ((hx2.2.2.1 3 (by decide)).trans ((hx1.2.2.1 3 (by decide)).trans (hx.2.2.1 3 (by decide)))))] at hb_2 hT_2 hm_2 hE_2
          try simp only [(show n_1 4 = (n0 4) from ((hx1.1 4 (by decide)).trans (hx.1 4 (by decide))))] at hb_2 hT_2 hm_2 hE_2
          try simp only [(show F_1 3 = (F0 3) from ((hx1.2.2.1 3 (by decide)).trans (hx.2.2.1 3 (by decide))))] at hb_2 hT_2 hm_2 hE_2
          rw [show (n_1 21).toInt.toNat = Q1 by omega, show ((58 : Int32)).toInt = 58 from rfl] at hE_2
          cases ht : tkR (tX (F0 3) (n0 4)) Q1 58 with
          | inl cht =>
            rw [ht] at hE_2
            obtain ⟨a1ht, a2ht⟩ := hE_2
            refine gz_ev (w := .int 0) (congrArg Value.int a1ht) ?_
            refine gz_if_ne (tgt := 375) dX12_begins_370 (by decide) (fun c_370 => ?_) (fun c_370 => ?_)
            · exact absurd c_370 (by decide)
            ·
              try simp only [mIn_0, lgc_lt, lgc_gt, lgc_le, lgc_ge, lgc_eq] at c_370
              try simp only [fl_lt, fl_le, fl_eq, fL_w, fL_lt, fL_le, tm1, tm10k, tm9, tm99, Int32.reduceToInt, Int64.reduceToInt, Int.not_lt, Int.not_le] at c_370
              refine gz_iconst (v := 0) dX12_begins_373 (by decide) ?_
              have h8n : ∀ i, i ≠ (40 * f + W) → F_2 8 i = F0 8 i := fun i hi => by rw [show F_2 8 = (F 8) from ((hx2.2.2.1 8 (by decide)).trans (hx1.2.2.1 8 (by decide)))]; exact h8o i hi
              have h16n : ∀ i, i ≠ (40 * f + W) → F_2 16 i = F0 16 i := fun i hi => by rw [show F_2 16 = F_1 16 from (hx2.2.2.1 16 (by decide)), ho16_1 i (by rw [eci]; exact hi)]; exact h16o i hi
              have l3n : lo3 F0 F_2 f := lo3_tr (lo3_tr (lo3_tr hlo l3a) hl3_1) (lo3_eq (hx2.2.2.1 18 (by decide)) (hx2.2.2.1 19 (by decide)) (hx2.2.2.1 20 (by decide)))
              have sm_hb9 : ∀ r, r ∈ [6, 7, 9, 10, 11, 12] → F_2 r = F r := by
                intro r hr
                simp only [List.mem_cons, List.not_mem_nil, or_false] at hr
                rcases hr with rfl | rfl | rfl | rfl | rfl | rfl
                · exact ((hx2.2.2.1 6 (by decide)).trans (hx1.2.2.1 6 (by decide)))
                · exact ((hx2.2.2.1 7 (by decide)).trans (hx1.2.2.1 7 (by decide)))
                · exact ((hx2.2.2.1 9 (by decide)).trans (hx1.2.2.1 9 (by decide)))
                · exact ((hx2.2.2.1 10 (by decide)).trans (hx1.2.2.1 10 (by decide)))
                · exact ((hx2.2.2.1 11 (by decide)).trans (hx1.2.2.1 11 (by decide)))
                · exact ((hx2.2.2.1 12 (by decide)).trans (hx1.2.2.1 12 (by decide)))
              have of_hb9 : ∀ r, r ∈ [13, 14, 15] → ∀ i, i ≠ (40 * f + W) → F_2 r i = F r i := by
                intro r hr i hi
                rw [← eci] at hi
                simp only [List.mem_cons, List.not_mem_nil, or_false] at hr
                rcases hr with rfl | rfl | rfl
                · rw [show F_2 13 = (F_1 13) from (hx2.2.2.1 13 (by decide))]; exact hof_1 13 (by decide) i hi
                · rw [show F_2 14 = (F_1 14) from (hx2.2.2.1 14 (by decide))]; exact hof_1 14 (by decide) i hi
                · rw [show F_2 15 = (F_1 15) from (hx2.2.2.1 15 (by decide))]; exact hof_1 15 (by decide) i hi
              have hb9 : RDb F0 F_2 f W O := RDb_keep hb sm_hb9 of_hb9
              have hA9 : rAll F_2 := by
                intro q hq
                obtain ⟨qa0, qb0, qc0, qd0⟩ := hA_1 q hq
                rw [show F_2 13 = (F_1 13) from (hx2.2.2.1 13 (by decide)), show F_2 14 = (F_1 14) from (hx2.2.2.1 14 (by decide)), show F_2 15 = (F_1 15) from (hx2.2.2.1 15 (by decide)), show F_2 19 = (F_1 19) from (hx2.2.2.1 19 (by decide))]
                refine ⟨?_, ?_, ?_, ?_⟩ <;> (try simp only [updE]) <;> (repeat' split) <;> first | omega | decide
              exact gz_zret rfl (by first | decide | exact nrb (Or.inl (by assumption)) | exact nrb (by assumption) | (refine nrb ?_; assumption)) dX12_begins_374 (Nat.le_of_ble_eq_true rfl) (Nat.le_of_ble_eq_true rfl) (⟨_, rfl, _, _, _, _, hS_2, (fx_tr (fx_tr (fx_tr fx_rf hx (by decide)) hx1 (by decide)) hx2 (by decide)), (by first | exact Or.inl rfl | exact Or.inr rfl | assumption | (left; assumption)), (by (try rw [(show n_2 21 = (n_2 21) from rfl)]); (try rw [(show n_2 4 = (n0 4) from ((hx2.1 4 (by decide)).trans ((hx1.1 4 (by decide)).trans (hx.1 4 (by decide)))))]); omega), (by (try rw [(show n_2 21 = (n_2 21) from rfl)]); omega), hA9, hb9.2.1, (fun h => absurd h (by decide)), (by rw [hE.1 (by omega), hH, hs]; dsimp only; rw [ht]; exact ⟨rfl, a2ht⟩), (fun ii _ => by rw [show F_2 25 = F 25 from ((hx2.2.2.1 25 (by decide)).trans (hx1.2.2.1 25 (by decide)))]; exact congrFun (hx.2.2.1 25 (by decide)) ii), (fun z => absurd z (by decide)), l3n, (fun i hi => ⟨h8n i (by omega), h16n i (by omega)⟩), (fun _ _ z => absurd z (by decide))⟩)
          | inr rht =>
            rw [ht] at hE_2
            obtain ⟨a1ht, a2ht, a3ht⟩ := hE_2
            refine gz_ev (w := .int 1) (congrArg Value.int a1ht) ?_
            refine gz_if_ne (tgt := 375) dX12_begins_370 (by decide) (fun c_370 => ?_) (fun c_370 => ?_)
            ·
              try simp only [mIn_0, lgc_lt, lgc_gt, lgc_le, lgc_ge, lgc_eq] at c_370
              try simp only [fl_lt, fl_le, fl_eq, fL_w, fL_lt, fL_le, tm1, tm10k, tm9, tm99, Int32.reduceToInt, Int64.reduceToInt, Int.not_lt, Int.not_le] at c_370
              have sm_hb8 : ∀ r, r ∈ [6, 7, 9, 10, 11, 12] → F_2 r = F r := by
                intro r hr
                simp only [List.mem_cons, List.not_mem_nil, or_false] at hr
                rcases hr with rfl | rfl | rfl | rfl | rfl | rfl
                · exact ((hx2.2.2.1 6 (by decide)).trans (hx1.2.2.1 6 (by decide)))
                · exact ((hx2.2.2.1 7 (by decide)).trans (hx1.2.2.1 7 (by decide)))
                · exact ((hx2.2.2.1 9 (by decide)).trans (hx1.2.2.1 9 (by decide)))
                · exact ((hx2.2.2.1 10 (by decide)).trans (hx1.2.2.1 10 (by decide)))
                · exact ((hx2.2.2.1 11 (by decide)).trans (hx1.2.2.1 11 (by decide)))
                · exact ((hx2.2.2.1 12 (by decide)).trans (hx1.2.2.1 12 (by decide)))
              have of_hb8 : ∀ r, r ∈ [13, 14, 15] → ∀ i, i ≠ (40 * f + W) → F_2 r i = F r i := by
                intro r hr i hi
                rw [← eci] at hi
                simp only [List.mem_cons, List.not_mem_nil, or_false] at hr
                rcases hr with rfl | rfl | rfl
                · rw [show F_2 13 = (F_1 13) from (hx2.2.2.1 13 (by decide))]; exact hof_1 13 (by decide) i hi
                · rw [show F_2 14 = (F_1 14) from (hx2.2.2.1 14 (by decide))]; exact hof_1 14 (by decide) i hi
                · rw [show F_2 15 = (F_1 15) from (hx2.2.2.1 15 (by decide))]; exact hof_1 15 (by decide) i hi
              have hb8 : RDb F0 F_2 f W O := RDb_keep hb sm_hb8 of_hb8
              have hA8 : rAll F_2 := by
                intro q hq
                obtain ⟨qa0, qb0, qc0, qd0⟩ := hA_1 q hq
                rw [show F_2 13 = (F_1 13) from (hx2.2.2.1 13 (by decide)), show F_2 14 = (F_1 14) from (hx2.2.2.1 14 (by decide)), show F_2 15 = (F_1 15) from (hx2.2.2.1 15 (by decide)), show F_2 19 = (F_1 19) from (hx2.2.2.1 19 (by decide))]
                refine ⟨?_, ?_, ?_, ?_⟩ <;> (try simp only [updE]) <;> (repeat' split) <;> first | omega | decide
              have x7 : (F_2 7 (40 * f + W)).toInt = kd.toInt := by rw [show F_2 7 = (F 7) from ((hx2.2.2.1 7 (by decide)).trans (hx1.2.2.1 7 (by decide)))]; exact h7
              have x17 : (F_2 17 (Int32.toNatClampNeg (n0 5))).toInt = ((F_1 17) (Int32.toNatClampNeg (n0 5))).toInt := by rw [show F_2 17 = (F_1 17) from (hx2.2.2.1 17 (by decide))]
              have x13 : (F_2 13 (40 * f + W)).toInt = ((F_1 13) (40 * f + W)).toInt := by rw [show F_2 13 = (F_1 13) from (hx2.2.2.1 13 (by decide))]
              have x14 : (F_2 14 (40 * f + W)).toInt = ((F_1 14) (40 * f + W)).toInt := by rw [show F_2 14 = (F_1 14) from (hx2.2.2.1 14 (by decide))]
              have x15 : (F_2 15 (40 * f + W)).toInt = ((F_1 15) (40 * f + W)).toInt := by rw [show F_2 15 = (F_1 15) from (hx2.2.2.1 15 (by decide))]
              have h8n : ∀ i, i ≠ (40 * f + W) → F_2 8 i = F0 8 i := fun i hi => by rw [show F_2 8 = (F 8) from ((hx2.2.2.1 8 (by decide)).trans (hx1.2.2.1 8 (by decide)))]; exact h8o i hi
              have h16n : ∀ i, i ≠ (40 * f + W) → F_2 16 i = F0 16 i := fun i hi => by rw [show F_2 16 = F_1 16 from (hx2.2.2.1 16 (by decide)), ho16_1 i (by rw [eci]; exact hi)]; exact h16o i hi
              have l3n : lo3 F0 F_2 f := lo3_tr (lo3_tr (lo3_tr hlo l3a) hl3_1) (lo3_eq (hx2.2.2.1 18 (by decide)) (hx2.2.2.1 19 (by decide)) (hx2.2.2.1 20 (by decide)))
              have hFF : hdF F0 F_2 f W K (F0 17 f).toInt.toNat V2 BG := by
                have z := hdS_te (F2 := F_2) (hF.1 (by omega)).2 hK6 hs (fun c9 h9 => LRv_rw (hx2.2.2.1 18 (by decide)) (hx2.2.2.1 19 (by decide)) (hx2.2.2.1 20 (by decide)) (hD_ c9 h9)) (by rw [show F_2 8 = F 8 from ((hx2.2.2.1 8 (by decide)).trans (hx1.2.2.1 8 (by decide)))]) (by omega) (by rw [show F_2 14 = F_1 14 from (hx2.2.2.1 14 (by decide))]; exact hz_.1) (by omega) (by rw [show F_2 16 = F_1 16 from (hx2.2.2.1 16 (by decide))]; exact hz_.2)
                rw [← (hF.1 (by omega)).1]; exact z
              refine gz_sub (lv' := [(0, .ref m), (4, .int kd), (7, .int iw)]) (by simp [List.lookup]) ?_
              exact l_X12_beginsCC (K := K) (Q := rht) (V1 := V2) (BG := BG) h5 hJ hB0 hwi hkd hBG ⟨fun z => absurd z (by omega), fun _ => (by rw [hE.1 (by omega), hH, hs]; dsimp only; rw [ht])⟩ 1 _ _ _ _ _ hS_2 (fx_tr (fx_tr hx hx1 (by decide)) hx2 (by decide)) (by (try rw [(show n_2 21 = (n_2 21) from rfl)]); (try rw [(show n_2 4 = (n0 4) from ((hx2.1 4 (by decide)).trans ((hx1.1 4 (by decide)).trans (hx.1 4 (by decide)))))]); omega) (by (try rw [(show n_2 21 = (n_2 21) from rfl)]); omega) hA8 hb8 x7 (by omega) (by omega) (by (try rw [(show n_2 22 = (n_2 22) from rfl)]); omega) (by (try rw [(show n_2 21 = (n_2 21) from rfl)]); omega) (by omega) h8n h16n l3n ⟨fun z => absurd z (by omega), fun _ => hFF⟩ hk2 (by decide)
            · exact absurd c_370 (by decide)
    ·
      try simp only [mIn_0, lgc_lt, lgc_gt, lgc_le, lgc_ge, lgc_eq] at c_338
      try simp only [fl_lt, fl_le, fl_eq, fL_w, fL_lt, fL_le, tm1, tm10k, tm9, tm99, Int32.reduceToInt, Int64.reduceToInt, Int.not_lt, Int.not_le] at c_338
      refine gz_iload dX12_begins_341 rfl ?_
      refine gz_bipush (v := 7) dX12_begins_343 (by decide) ?_
      refine gz_icmp_eq (tgt := 355) dX12_begins_345 (by decide) (fun c_345 => ?_) (fun c_345 => ?_)
      ·
        try simp only [mIn_0, lgc_lt, lgc_gt, lgc_le, lgc_ge, lgc_eq] at c_345
        try simp only [fl_lt, fl_le, fl_eq, fL_w, fL_lt, fL_le, tm1, tm10k, tm9, tm99, Int32.reduceToInt, Int64.reduceToInt, Int.not_lt, Int.not_le] at c_345
        refine gz_aload_n dX12_begins_355 rfl rfl ?_
        refine gz_iload dX12_begins_356 rfl ?_
        refine scX12_322 (k_X12_testC (x1 := iw) hS (by (try rw [(show n 4 = (n0 4) from (hx.1 4 (by decide)))]); omega) (by rw [(show n 5 = (n0 5) from (hx.1 5 (by decide)))]; omega) hA (by rw [(show n 5 = (n0 5) from (hx.1 5 (by decide)))]; omega) (by omega) hB (by omega)) hS.1 ⟨(Nat.le_of_ble_eq_true rfl), (Nat.le_of_ble_eq_true rfl)⟩ ⟨(Nat.le_of_ble_eq_true rfl), (Nat.le_of_ble_eq_true rfl)⟩ rfl rfl (Nat.le_of_ble_eq_true rfl) dX12_begins_358 ?_
        rintro r_3 f_3 ⟨n_3, z_3, F_3, G_3, hS_3, hx3, hb_3, hT_3, hm_3, hA_3, hvv_3, hof_3, hyes_3, hE_3, ho16_3, hy16_3, hC_3, hl3_3⟩
        try simp only [(show n_3 4 = (n0 4) from ((hx3.1 4 (by decide)).trans (hx.1 4 (by decide))))] at hb_3 hT_3 hm_3 hA_3 hvv_3 hof_3 hyes_3 hE_3 ho16_3 hy16_3 hC_3 hl3_3
        try simp only [(show n_3 5 = (n0 5) from ((hx3.1 5 (by decide)).trans (hx.1 5 (by decide))))] at hb_3 hT_3 hm_3 hA_3 hvv_3 hof_3 hyes_3 hE_3 ho16_3 hy16_3 hC_3 hl3_3
        try simp only [(show F_3 3 = (F0 3) from ((hx3.2.2.1 3 (by decide)).trans (hx.2.2.1 3 (by decide))))] at hb_3 hT_3 hm_3 hA_3 hvv_3 hof_3 hyes_3 hE_3 ho16_3 hy16_3 hC_3 hl3_3
        try simp only [(show n 4 = (n0 4) from (hx.1 4 (by decide)))] at hb_3 hT_3 hm_3 hA_3 hvv_3 hof_3 hyes_3 hE_3 ho16_3 hy16_3 hC_3 hl3_3
        try simp only [(show n 5 = (n0 5) from (hx.1 5 (by decide)))] at hb_3 hT_3 hm_3 hA_3 hvv_3 hof_3 hyes_3 hE_3 ho16_3 hy16_3 hC_3 hl3_3
        try simp only [(show F 3 = (F0 3) from (hx.2.2.1 3 (by decide)))] at hb_3 hT_3 hm_3 hA_3 hvv_3 hof_3 hyes_3 hE_3 ho16_3 hy16_3 hC_3 hl3_3
        try rw [(show n 5 = (n0 5) from (hx.1 5 (by decide)))] at hvv_3 hyes_3 hE_3
        try rw [(show n 5 = (n0 5) from (hx.1 5 (by decide)))] at hy16_3
        try rw [(show n 5 = (n0 5) from (hx.1 5 (by decide)))] at hC_3
        try rw [(show n 5 = (n0 5) from (hx.1 5 (by decide)))] at hl3_3
        have l3a : lo3 F F f := lo3_eq rfl rfl rfl
        rw [show (n 21).toInt.toNat = Q by omega, show (F 17 (Int32.toNatClampNeg (n0 5))).toInt.toNat = V1 by omega] at hE_3 hy16_3 hC_3
        rw [ecf] at hC_3 hl3_3
        have hK6 : K = 6 ∨ K = 7 ∨ K = 8 := by omega
        have hH : hdR (tX (F0 3) (n0 4)) K Q V1 = (match tsR (tX (F0 3) (n0 4)) Q V1 with | .inl c => .inl c | .inr (q, V2) => match tkR (tX (F0 3) (n0 4)) q 58 with | .inl c => .inl c | .inr q2 => .inr (q2, V2)) := by
          unfold hdR tsR; rw [if_neg (by omega), if_pos hK6]
          cases suR (tX (F0 3) (n0 4)) 41 Q V1 with
          | inl c => rfl
          | inr z => obtain ⟨z1, z2⟩ := z; dsimp only; cases reR (tX (F0 3) (n0 4)) z1 with
            | inl c => rfl
            | inr y => rfl
        cases hs : tsR (tX (F0 3) (n0 4)) Q V1 with
        | inl chs =>
          rw [hs] at hE_3
          obtain ⟨a1hs, a2hs⟩ := hE_3
          refine gz_ev (w := .int 0) (congrArg Value.int a1hs) ?_
          refine gz_if_eq (tgt := 373) dX12_begins_361 (by decide) (fun c_361 => ?_) (fun c_361 => ?_)
          ·
            try simp only [mIn_0, lgc_lt, lgc_gt, lgc_le, lgc_ge, lgc_eq] at c_361
            try simp only [fl_lt, fl_le, fl_eq, fL_w, fL_lt, fL_le, tm1, tm10k, tm9, tm99, Int32.reduceToInt, Int64.reduceToInt, Int.not_lt, Int.not_le] at c_361
            refine gz_iconst (v := 0) dX12_begins_373 (by decide) ?_
            have h8n : ∀ i, i ≠ (40 * f + W) → F_3 8 i = F0 8 i := fun i hi => by rw [show F_3 8 = (F 8) from (hx3.2.2.1 8 (by decide))]; exact h8o i hi
            have h16n : ∀ i, i ≠ (40 * f + W) → F_3 16 i = F0 16 i := fun i hi => by rw [show F_3 16 = F_3 16 from rfl, ho16_3 i (by rw [eci]; exact hi)]; exact h16o i hi
            have l3n : lo3 F0 F_3 f := lo3_tr (lo3_tr (lo3_tr hlo l3a) hl3_3) (lo3_eq rfl rfl rfl)
            have sm_hb9 : ∀ r, r ∈ [6, 7, 9, 10, 11, 12] → F_3 r = F r := by
              intro r hr
              simp only [List.mem_cons, List.not_mem_nil, or_false] at hr
              rcases hr with rfl | rfl | rfl | rfl | rfl | rfl
              · exact (hx3.2.2.1 6 (by decide))
              · exact (hx3.2.2.1 7 (by decide))
              · exact (hx3.2.2.1 9 (by decide))
              · exact (hx3.2.2.1 10 (by decide))
              · exact (hx3.2.2.1 11 (by decide))
              · exact (hx3.2.2.1 12 (by decide))
            have of_hb9 : ∀ r, r ∈ [13, 14, 15] → ∀ i, i ≠ (40 * f + W) → F_3 r i = F r i := by
              intro r hr i hi
              rw [← eci] at hi
              simp only [List.mem_cons, List.not_mem_nil, or_false] at hr
              rcases hr with rfl | rfl | rfl
              · rw [show F_3 13 = (F_3 13) from rfl]; exact hof_3 13 (by decide) i hi
              · rw [show F_3 14 = (F_3 14) from rfl]; exact hof_3 14 (by decide) i hi
              · rw [show F_3 15 = (F_3 15) from rfl]; exact hof_3 15 (by decide) i hi
            have hb9 : RDb F0 F_3 f W O := RDb_keep hb sm_hb9 of_hb9
            have hA9 : rAll F_3 := by
              intro q hq
              obtain ⟨qa0, qb0, qc0, qd0⟩ := hA_3 q hq
              rw [show F_3 13 = (F_3 13) from rfl, show F_3 14 = (F_3 14) from rfl, show F_3 15 = (F_3 15) from rfl, show F_3 19 = (F_3 19) from rfl]
              refine ⟨?_, ?_, ?_, ?_⟩ <;> (try simp only [updE]) <;> (repeat' split) <;> first | omega | decide
            exact gz_zret rfl (by first | decide | exact nrb (Or.inl (by assumption)) | exact nrb (by assumption) | (refine nrb ?_; assumption)) dX12_begins_374 (Nat.le_of_ble_eq_true rfl) (Nat.le_of_ble_eq_true rfl) (⟨_, rfl, _, _, _, _, hS_3, (fx_tr (fx_tr fx_rf hx (by decide)) hx3 (by decide)), (by first | exact Or.inl rfl | exact Or.inr rfl | assumption | (left; assumption)), (by (try rw [(show n_3 21 = (n_3 21) from rfl)]); (try rw [(show n_3 4 = (n0 4) from ((hx3.1 4 (by decide)).trans (hx.1 4 (by decide))))]); omega), (by (try rw [(show n_3 21 = (n_3 21) from rfl)]); omega), hA9, hb9.2.1, (fun h => absurd h (by decide)), (by rw [hE.1 (by omega), hH, hs]; exact ⟨rfl, a2hs⟩), (fun ii _ => by rw [show F_3 25 = F 25 from (hx3.2.2.1 25 (by decide))]; exact congrFun (hx.2.2.1 25 (by decide)) ii), (fun z => absurd z (by decide)), l3n, (fun i hi => ⟨h8n i (by omega), h16n i (by omega)⟩), (fun _ _ z => absurd z (by decide))⟩)
          · exact absurd c_361 (by decide)
        | inr rhs =>
          rw [hs] at hE_3
          obtain ⟨Q1, V2⟩ := rhs
          obtain ⟨a1hs, a2hs, a3hs, a4hs⟩ := hE_3
          rw [ecf] at a4hs
          have hD_ : ∀ c9 : Cn, LRv F f c9 V1 → LRv F_3 f (tsC (tX (F0 3) (n0 4)) Q V1 c9) V2 := fun c9 h9 => by have z := hC_3 c9 h9 a1hs; rw [show (F_3 17 f).toInt.toNat = V2 by omega] at z; exact z
          rw [← ecf] at a4hs
          refine gz_ev (w := .int 1) (congrArg Value.int a1hs) ?_
          refine gz_if_eq (tgt := 373) dX12_begins_361 (by decide) (fun c_361 => ?_) (fun c_361 => ?_)
          · exact absurd c_361 (by decide)
          ·
            try simp only [mIn_0, lgc_lt, lgc_gt, lgc_le, lgc_ge, lgc_eq] at c_361
            try simp only [fl_lt, fl_le, fl_eq, fL_w, fL_lt, fL_le, tm1, tm10k, tm9, tm99, Int32.reduceToInt, Int64.reduceToInt, Int.not_lt, Int.not_le] at c_361
            have hy_ := hyes_3 a1hs
            rw [eci] at hy_
            have hz_ := hy16_3 a1hs
            rw [eci] at hz_
            refine gz_aload_n dX12_begins_364 rfl rfl ?_
            refine gz_bipush (v := 58) dX12_begins_365 (by decide) ?_
            refine scX12_325 (k_X12_takesE (x := 58) hS_3 (by (try rw [(show n_3 21 = (n_3 21) from rfl)]); (try rw [(show n_3 4 = (n0 4) from ((hx3.1 4 (by decide)).trans (hx.1 4 (by decide))))]); omega) (rB_cg ((hx3.2.2.1 3 (by decide)).trans (hx.2.2.1 3 (by decide))) hB0) (by (try rw [(show n_3 22 = (n_3 22) from rfl)]); omega) (by decide)) hS_3.1 ⟨(Nat.le_of_ble_eq_true rfl), (Nat.le_of_ble_eq_true rfl)⟩ ⟨(Nat.le_of_ble_eq_true rfl), (Nat.le_of_ble_eq_true rfl)⟩ rfl rfl (Nat.le_of_ble_eq_true rfl) dX12_begins_367 ?_
            rintro r_4 f_4 ⟨n_4, z_4, F_4, G_4, hS_4, hx4, hb_4, hT_4, hm_4, hE_4⟩
            try simp only [(show n_4 4 = (n0 4) from ((hx4.1 4 (by decide)).trans ((hx3.1 4 (by decide)).trans (hx.1 4 (by decide)))))] at hb_4 hT_4 hm_4 hE_4
            try simp only [(show F_4 3 = (F0 3) from ((hx4.2.2.1 3 (by decide)).trans ((hx3.2.2.1 3 (by decide)).trans (hx.2.2.1 3 (by decide)))))] at hb_4 hT_4 hm_4 hE_4
            try simp only [(show n_3 4 = (n0 4) from ((hx3.1 4 (by decide)).trans (hx.1 4 (by decide))))] at hb_4 hT_4 hm_4 hE_4
            try simp only [(show F_3 3 = (F0 3) from ((hx3.2.2.1 3 (by decide)).trans (hx.2.2.1 3 (by decide))))] at hb_4 hT_4 hm_4 hE_4
            rw [show (n_3 21).toInt.toNat = Q1 by omega, show ((58 : Int32)).toInt = 58 from rfl] at hE_4
            cases ht : tkR (tX (F0 3) (n0 4)) Q1 58 with
            | inl cht =>
              rw [ht] at hE_4
              obtain ⟨a1ht, a2ht⟩ := hE_4
              refine gz_ev (w := .int 0) (congrArg Value.int a1ht) ?_
              refine gz_if_ne (tgt := 375) dX12_begins_370 (by decide) (fun c_370 => ?_) (fun c_370 => ?_)
              · exact absurd c_370 (by decide)
              ·
                try simp only [mIn_0, lgc_lt, lgc_gt, lgc_le, lgc_ge, lgc_eq] at c_370
                try simp only [fl_lt, fl_le, fl_eq, fL_w, fL_lt, fL_le, tm1, tm10k, tm9, tm99, Int32.reduceToInt, Int64.reduceToInt, Int.not_lt, Int.not_le] at c_370
                refine gz_iconst (v := 0) dX12_begins_373 (by decide) ?_
                have h8n : ∀ i, i ≠ (40 * f + W) → F_4 8 i = F0 8 i := fun i hi => by rw [show F_4 8 = (F 8) from ((hx4.2.2.1 8 (by decide)).trans (hx3.2.2.1 8 (by decide)))]; exact h8o i hi
                have h16n : ∀ i, i ≠ (40 * f + W) → F_4 16 i = F0 16 i := fun i hi => by rw [show F_4 16 = F_3 16 from (hx4.2.2.1 16 (by decide)), ho16_3 i (by rw [eci]; exact hi)]; exact h16o i hi
                have l3n : lo3 F0 F_4 f := lo3_tr (lo3_tr (lo3_tr hlo l3a) hl3_3) (lo3_eq (hx4.2.2.1 18 (by decide)) (hx4.2.2.1 19 (by decide)) (hx4.2.2.1 20 (by decide)))
                have sm_hb9 : ∀ r, r ∈ [6, 7, 9, 10, 11, 12] → F_4 r = F r := by
                  intro r hr
                  simp only [List.mem_cons, List.not_mem_nil, or_false] at hr
                  rcases hr with rfl | rfl | rfl | rfl | rfl | rfl
                  · exact ((hx4.2.2.1 6 (by decide)).trans (hx3.2.2.1 6 (by decide)))
                  · exact ((hx4.2.2.1 7 (by decide)).trans (hx3.2.2.1 7 (by decide)))
                  · exact ((hx4.2.2.1 9 (by decide)).trans (hx3.2.2.1 9 (by decide)))
                  · exact ((hx4.2.2.1 10 (by decide)).trans (hx3.2.2.1 10 (by decide)))
                  · exact ((hx4.2.2.1 11 (by decide)).trans (hx3.2.2.1 11 (by decide)))
                  · exact ((hx4.2.2.1 12 (by decide)).trans (hx3.2.2.1 12 (by decide)))
                have of_hb9 : ∀ r, r ∈ [13, 14, 15] → ∀ i, i ≠ (40 * f + W) → F_4 r i = F r i := by
                  intro r hr i hi
                  rw [← eci] at hi
                  simp only [List.mem_cons, List.not_mem_nil, or_false] at hr
                  rcases hr with rfl | rfl | rfl
                  · rw [show F_4 13 = (F_3 13) from (hx4.2.2.1 13 (by decide))]; exact hof_3 13 (by decide) i hi
                  · rw [show F_4 14 = (F_3 14) from (hx4.2.2.1 14 (by decide))]; exact hof_3 14 (by decide) i hi
                  · rw [show F_4 15 = (F_3 15) from (hx4.2.2.1 15 (by decide))]; exact hof_3 15 (by decide) i hi
                have hb9 : RDb F0 F_4 f W O := RDb_keep hb sm_hb9 of_hb9
                have hA9 : rAll F_4 := by
                  intro q hq
                  obtain ⟨qa0, qb0, qc0, qd0⟩ := hA_3 q hq
                  rw [show F_4 13 = (F_3 13) from (hx4.2.2.1 13 (by decide)), show F_4 14 = (F_3 14) from (hx4.2.2.1 14 (by decide)), show F_4 15 = (F_3 15) from (hx4.2.2.1 15 (by decide)), show F_4 19 = (F_3 19) from (hx4.2.2.1 19 (by decide))]
                  refine ⟨?_, ?_, ?_, ?_⟩ <;> (try simp only [updE]) <;> (repeat' split) <;> first | omega | decide
                exact gz_zret rfl (by first | decide | exact nrb (Or.inl (by assumption)) | exact nrb (by assumption) | (refine nrb ?_; assumption)) dX12_begins_374 (Nat.le_of_ble_eq_true rfl) (Nat.le_of_ble_eq_true rfl) (⟨_, rfl, _, _, _, _, hS_4, (fx_tr (fx_tr (fx_tr fx_rf hx (by decide)) hx3 (by decide)) hx4 (by decide)), (by first | exact Or.inl rfl | exact Or.inr rfl | assumption | (left; assumption)), (by (try rw [(show n_4 21 = (n_4 21) from rfl)]); (try rw [(show n_4 4 = (n0 4) from ((hx4.1 4 (by decide)).trans ((hx3.1 4 (by decide)).trans (hx.1 4 (by decide)))))]); omega), (by (try rw [(show n_4 21 = (n_4 21) from rfl)]); omega), hA9, hb9.2.1, (fun h => absurd h (by decide)), (by rw [hE.1 (by omega), hH, hs]; dsimp only; rw [ht]; exact ⟨rfl, a2ht⟩), (fun ii _ => by rw [show F_4 25 = F 25 from ((hx4.2.2.1 25 (by decide)).trans (hx3.2.2.1 25 (by decide)))]; exact congrFun (hx.2.2.1 25 (by decide)) ii), (fun z => absurd z (by decide)), l3n, (fun i hi => ⟨h8n i (by omega), h16n i (by omega)⟩), (fun _ _ z => absurd z (by decide))⟩)
            | inr rht =>
              rw [ht] at hE_4
              obtain ⟨a1ht, a2ht, a3ht⟩ := hE_4
              refine gz_ev (w := .int 1) (congrArg Value.int a1ht) ?_
              refine gz_if_ne (tgt := 375) dX12_begins_370 (by decide) (fun c_370 => ?_) (fun c_370 => ?_)
              ·
                try simp only [mIn_0, lgc_lt, lgc_gt, lgc_le, lgc_ge, lgc_eq] at c_370
                try simp only [fl_lt, fl_le, fl_eq, fL_w, fL_lt, fL_le, tm1, tm10k, tm9, tm99, Int32.reduceToInt, Int64.reduceToInt, Int.not_lt, Int.not_le] at c_370
                have sm_hb8 : ∀ r, r ∈ [6, 7, 9, 10, 11, 12] → F_4 r = F r := by
                  intro r hr
                  simp only [List.mem_cons, List.not_mem_nil, or_false] at hr
                  rcases hr with rfl | rfl | rfl | rfl | rfl | rfl
                  · exact ((hx4.2.2.1 6 (by decide)).trans (hx3.2.2.1 6 (by decide)))
                  · exact ((hx4.2.2.1 7 (by decide)).trans (hx3.2.2.1 7 (by decide)))
                  · exact ((hx4.2.2.1 9 (by decide)).trans (hx3.2.2.1 9 (by decide)))
                  · exact ((hx4.2.2.1 10 (by decide)).trans (hx3.2.2.1 10 (by decide)))
                  · exact ((hx4.2.2.1 11 (by decide)).trans (hx3.2.2.1 11 (by decide)))
                  · exact ((hx4.2.2.1 12 (by decide)).trans (hx3.2.2.1 12 (by decide)))
                have of_hb8 : ∀ r, r ∈ [13, 14, 15] → ∀ i, i ≠ (40 * f + W) → F_4 r i = F r i := by
                  intro r hr i hi
                  rw [← eci] at hi
                  simp only [List.mem_cons, List.not_mem_nil, or_false] at hr
                  rcases hr with rfl | rfl | rfl
                  · rw [show F_4 13 = (F_3 13) from (hx4.2.2.1 13 (by decide))]; exact hof_3 13 (by decide) i hi
                  · rw [show F_4 14 = (F_3 14) from (hx4.2.2.1 14 (by decide))]; exact hof_3 14 (by decide) i hi
                  · rw [show F_4 15 = (F_3 15) from (hx4.2.2.1 15 (by decide))]; exact hof_3 15 (by decide) i hi
                have hb8 : RDb F0 F_4 f W O := RDb_keep hb sm_hb8 of_hb8
                have hA8 : rAll F_4 := by
                  intro q hq
                  obtain ⟨qa0, qb0, qc0, qd0⟩ := hA_3 q hq
                  rw [show F_4 13 = (F_3 13) from (hx4.2.2.1 13 (by decide)), show F_4 14 = (F_3 14) from (hx4.2.2.1 14 (by decide)), show F_4 15 = (F_3 15) from (hx4.2.2.1 15 (by decide)), show F_4 19 = (F_3 19) from (hx4.2.2.1 19 (by decide))]
                  refine ⟨?_, ?_, ?_, ?_⟩ <;> (try simp only [updE]) <;> (repeat' split) <;> first | omega | decide
                have x7 : (F_4 7 (40 * f + W)).toInt = kd.toInt := by rw [show F_4 7 = (F 7) from ((hx4.2.2.1 7 (by decide)).trans (hx3.2.2.1 7 (by decide)))]; exact h7
                have x17 : (F_4 17 (Int32.toNatClampNeg (n0 5))).toInt = ((F_3 17) (Int32.toNatClampNeg (n0 5))).toInt := by rw [show F_4 17 = (F_3 17) from (hx4.2.2.1 17 (by decide))]
                have x13 : (F_4 13 (40 * f + W)).toInt = ((F_3 13) (40 * f + W)).toInt := by rw [show F_4 13 = (F_3 13) from (hx4.2.2.1 13 (by decide))]
                have x14 : (F_4 14 (40 * f + W)).toInt = ((F_3 14) (40 * f + W)).toInt := by rw [show F_4 14 = (F_3 14) from (hx4.2.2.1 14 (by decide))]
                have x15 : (F_4 15 (40 * f + W)).toInt = ((F_3 15) (40 * f + W)).toInt := by rw [show F_4 15 = (F_3 15) from (hx4.2.2.1 15 (by decide))]
                have h8n : ∀ i, i ≠ (40 * f + W) → F_4 8 i = F0 8 i := fun i hi => by rw [show F_4 8 = (F 8) from ((hx4.2.2.1 8 (by decide)).trans (hx3.2.2.1 8 (by decide)))]; exact h8o i hi
                have h16n : ∀ i, i ≠ (40 * f + W) → F_4 16 i = F0 16 i := fun i hi => by rw [show F_4 16 = F_3 16 from (hx4.2.2.1 16 (by decide)), ho16_3 i (by rw [eci]; exact hi)]; exact h16o i hi
                have l3n : lo3 F0 F_4 f := lo3_tr (lo3_tr (lo3_tr hlo l3a) hl3_3) (lo3_eq (hx4.2.2.1 18 (by decide)) (hx4.2.2.1 19 (by decide)) (hx4.2.2.1 20 (by decide)))
                have hFF : hdF F0 F_4 f W K (F0 17 f).toInt.toNat V2 BG := by
                  have z := hdS_te (F2 := F_4) (hF.1 (by omega)).2 hK6 hs (fun c9 h9 => LRv_rw (hx4.2.2.1 18 (by decide)) (hx4.2.2.1 19 (by decide)) (hx4.2.2.1 20 (by decide)) (hD_ c9 h9)) (by rw [show F_4 8 = F 8 from ((hx4.2.2.1 8 (by decide)).trans (hx3.2.2.1 8 (by decide)))]) (by omega) (by rw [show F_4 14 = F_3 14 from (hx4.2.2.1 14 (by decide))]; exact hz_.1) (by omega) (by rw [show F_4 16 = F_3 16 from (hx4.2.2.1 16 (by decide))]; exact hz_.2)
                  rw [← (hF.1 (by omega)).1]; exact z
                refine gz_sub (lv' := [(0, .ref m), (4, .int kd), (7, .int iw)]) (by simp [List.lookup]) ?_
                exact l_X12_beginsCC (K := K) (Q := rht) (V1 := V2) (BG := BG) h5 hJ hB0 hwi hkd hBG ⟨fun z => absurd z (by omega), fun _ => (by rw [hE.1 (by omega), hH, hs]; dsimp only; rw [ht])⟩ 1 _ _ _ _ _ hS_4 (fx_tr (fx_tr hx hx3 (by decide)) hx4 (by decide)) (by (try rw [(show n_4 21 = (n_4 21) from rfl)]); (try rw [(show n_4 4 = (n0 4) from ((hx4.1 4 (by decide)).trans ((hx3.1 4 (by decide)).trans (hx.1 4 (by decide)))))]); omega) (by (try rw [(show n_4 21 = (n_4 21) from rfl)]); omega) hA8 hb8 x7 (by omega) (by omega) (by (try rw [(show n_4 22 = (n_4 22) from rfl)]); omega) (by (try rw [(show n_4 21 = (n_4 21) from rfl)]); omega) (by omega) h8n h16n l3n ⟨fun z => absurd z (by omega), fun _ => hFF⟩ hk2 (by decide)
              · exact absurd c_370 (by decide)
      ·
        try simp only [mIn_0, lgc_lt, lgc_gt, lgc_le, lgc_ge, lgc_eq] at c_345
        try simp only [fl_lt, fl_le, fl_eq, fL_w, fL_lt, fL_le, tm1, tm10k, tm9, tm99, Int32.reduceToInt, Int64.reduceToInt, Int.not_lt, Int.not_le] at c_345
        refine gz_iload dX12_begins_348 rfl ?_
        refine gz_bipush (v := 8) dX12_begins_350 (by decide) ?_
        refine gz_icmp_ne (tgt := 375) dX12_begins_352 (by decide) (fun c_352 => ?_) (fun c_352 => ?_)
        ·
          try simp only [mIn_0, lgc_lt, lgc_gt, lgc_le, lgc_ge, lgc_eq] at c_352
          try simp only [fl_lt, fl_le, fl_eq, fL_w, fL_lt, fL_le, tm1, tm10k, tm9, tm99, Int32.reduceToInt, Int64.reduceToInt, Int.not_lt, Int.not_le] at c_352
          have sm_hb8 : ∀ r, r ∈ [6, 7, 9, 10, 11, 12] → F r = F r := by
            intro r hr
            simp only [List.mem_cons, List.not_mem_nil, or_false] at hr
            rcases hr with rfl | rfl | rfl | rfl | rfl | rfl
            · exact rfl
            · exact rfl
            · exact rfl
            · exact rfl
            · exact rfl
            · exact rfl
          have hb8 := hb
          have hA8 : rAll F := by
            intro q hq
            obtain ⟨qa0, qb0, qc0, qd0⟩ := hA q hq
            rw [show F 13 = (F 13) from rfl, show F 14 = (F 14) from rfl, show F 15 = (F 15) from rfl, show F 19 = (F 19) from rfl]
            refine ⟨?_, ?_, ?_, ?_⟩ <;> (try simp only [updE]) <;> (repeat' split) <;> first | omega | decide
          have x7 : (F 7 (40 * f + W)).toInt = kd.toInt := by rw [show F 7 = (F 7) from rfl]; exact h7
          have x17 : (F 17 (Int32.toNatClampNeg (n0 5))).toInt = ((F 17) (Int32.toNatClampNeg (n0 5))).toInt := by rw [show F 17 = (F 17) from rfl]
          have x13 : (F 13 (40 * f + W)).toInt = ((F 13) (40 * f + W)).toInt := by rw [show F 13 = (F 13) from rfl]
          have x14 : (F 14 (40 * f + W)).toInt = ((F 14) (40 * f + W)).toInt := by rw [show F 14 = (F 14) from rfl]
          have x15 : (F 15 (40 * f + W)).toInt = ((F 15) (40 * f + W)).toInt := by rw [show F 15 = (F 15) from rfl]
          have h8n : ∀ i, i ≠ (40 * f + W) → F 8 i = F0 8 i := fun i hi => by rw [show F 8 = (F 8) from rfl]; exact h8o i hi
          have h16n : ∀ i, i ≠ (40 * f + W) → F 16 i = F0 16 i := fun i hi => by rw [show F 16 = (F 16) from rfl]; exact h16o i hi
          have l3n : lo3 F0 F f := lo3_tr hlo (lo3_eq rfl rfl rfl)
          refine gz_sub (lv' := [(0, .ref m), (4, .int kd), (7, .int iw)]) (by simp [List.lookup]) ?_
          exact l_X12_beginsCC (K := K) (Q := Q) (V1 := V1) (BG := BG) h5 hJ hB0 hwi hkd hBG ⟨fun z => hE.1 (by omega), fun z => hE.2 (by omega)⟩ 1 _ _ _ _ _ hS hx (by (try rw [(show n 4 = (n0 4) from (hx.1 4 (by decide)))]); omega) (by omega) hA8 hb8 x7 (by omega) (by omega) (by omega) (by omega) (by omega) h8n h16n l3n ⟨fun z => hF.1 (by omega), fun z => hF.2 (by omega)⟩ hk2 (by decide)
        ·
          try simp only [mIn_0, lgc_lt, lgc_gt, lgc_le, lgc_ge, lgc_eq] at c_352
          try simp only [fl_lt, fl_le, fl_eq, fL_w, fL_lt, fL_le, tm1, tm10k, tm9, tm99, Int32.reduceToInt, Int64.reduceToInt, Int.not_lt, Int.not_le] at c_352
          refine gz_aload_n dX12_begins_355 rfl rfl ?_
          refine gz_iload dX12_begins_356 rfl ?_
          refine scX12_322 (k_X12_testC (x1 := iw) hS (by (try rw [(show n 4 = (n0 4) from (hx.1 4 (by decide)))]); omega) (by rw [(show n 5 = (n0 5) from (hx.1 5 (by decide)))]; omega) hA (by rw [(show n 5 = (n0 5) from (hx.1 5 (by decide)))]; omega) (by omega) hB (by omega)) hS.1 ⟨(Nat.le_of_ble_eq_true rfl), (Nat.le_of_ble_eq_true rfl)⟩ ⟨(Nat.le_of_ble_eq_true rfl), (Nat.le_of_ble_eq_true rfl)⟩ rfl rfl (Nat.le_of_ble_eq_true rfl) dX12_begins_358 ?_
          rintro r_5 f_5 ⟨n_5, z_5, F_5, G_5, hS_5, hx5, hb_5, hT_5, hm_5, hA_5, hvv_5, hof_5, hyes_5, hE_5, ho16_5, hy16_5, hC_5, hl3_5⟩
          try simp only [(show n_5 4 = (n0 4) from ((hx5.1 4 (by decide)).trans (hx.1 4 (by decide))))] at hb_5 hT_5 hm_5 hA_5 hvv_5 hof_5 hyes_5 hE_5 ho16_5 hy16_5 hC_5 hl3_5
          try simp only [(show n_5 5 = (n0 5) from ((hx5.1 5 (by decide)).trans (hx.1 5 (by decide))))] at hb_5 hT_5 hm_5 hA_5 hvv_5 hof_5 hyes_5 hE_5 ho16_5 hy16_5 hC_5 hl3_5
          try simp only [(show F_5 3 = (F0 3) from ((hx5.2.2.1 3 (by decide)).trans (hx.2.2.1 3 (by decide))))] at hb_5 hT_5 hm_5 hA_5 hvv_5 hof_5 hyes_5 hE_5 ho16_5 hy16_5 hC_5 hl3_5
          try simp only [(show n 4 = (n0 4) from (hx.1 4 (by decide)))] at hb_5 hT_5 hm_5 hA_5 hvv_5 hof_5 hyes_5 hE_5 ho16_5 hy16_5 hC_5 hl3_5
          try simp only [(show n 5 = (n0 5) from (hx.1 5 (by decide)))] at hb_5 hT_5 hm_5 hA_5 hvv_5 hof_5 hyes_5 hE_5 ho16_5 hy16_5 hC_5 hl3_5
          try simp only [(show F 3 = (F0 3) from (hx.2.2.1 3 (by decide)))] at hb_5 hT_5 hm_5 hA_5 hvv_5 hof_5 hyes_5 hE_5 ho16_5 hy16_5 hC_5 hl3_5
          try rw [(show n 5 = (n0 5) from (hx.1 5 (by decide)))] at hvv_5 hyes_5 hE_5
          try rw [(show n 5 = (n0 5) from (hx.1 5 (by decide)))] at hy16_5
          try rw [(show n 5 = (n0 5) from (hx.1 5 (by decide)))] at hC_5
          try rw [(show n 5 = (n0 5) from (hx.1 5 (by decide)))] at hl3_5
          have l3a : lo3 F F f := lo3_eq rfl rfl rfl
          rw [show (n 21).toInt.toNat = Q by omega, show (F 17 (Int32.toNatClampNeg (n0 5))).toInt.toNat = V1 by omega] at hE_5 hy16_5 hC_5
          rw [ecf] at hC_5 hl3_5
          have hK6 : K = 6 ∨ K = 7 ∨ K = 8 := by omega
          have hH : hdR (tX (F0 3) (n0 4)) K Q V1 = (match tsR (tX (F0 3) (n0 4)) Q V1 with | .inl c => .inl c | .inr (q, V2) => match tkR (tX (F0 3) (n0 4)) q 58 with | .inl c => .inl c | .inr q2 => .inr (q2, V2)) := by
            unfold hdR tsR; rw [if_neg (by omega), if_pos hK6]
            cases suR (tX (F0 3) (n0 4)) 41 Q V1 with
            | inl c => rfl
            | inr z => obtain ⟨z1, z2⟩ := z; dsimp only; cases reR (tX (F0 3) (n0 4)) z1 with
              | inl c => rfl
              | inr y => rfl
          cases hs : tsR (tX (F0 3) (n0 4)) Q V1 with
          | inl chs =>
            rw [hs] at hE_5
            obtain ⟨a1hs, a2hs⟩ := hE_5
            refine gz_ev (w := .int 0) (congrArg Value.int a1hs) ?_
            refine gz_if_eq (tgt := 373) dX12_begins_361 (by decide) (fun c_361 => ?_) (fun c_361 => ?_)
            ·
              try simp only [mIn_0, lgc_lt, lgc_gt, lgc_le, lgc_ge, lgc_eq] at c_361
              try simp only [fl_lt, fl_le, fl_eq, fL_w, fL_lt, fL_le, tm1, tm10k, tm9, tm99, Int32.reduceToInt, Int64.reduceToInt, Int.not_lt, Int.not_le] at c_361
              refine gz_iconst (v := 0) dX12_begins_373 (by decide) ?_
              have h8n : ∀ i, i ≠ (40 * f + W) → F_5 8 i = F0 8 i := fun i hi => by rw [show F_5 8 = (F 8) from (hx5.2.2.1 8 (by decide))]; exact h8o i hi
              have h16n : ∀ i, i ≠ (40 * f + W) → F_5 16 i = F0 16 i := fun i hi => by rw [show F_5 16 = F_5 16 from rfl, ho16_5 i (by rw [eci]; exact hi)]; exact h16o i hi
              have l3n : lo3 F0 F_5 f := lo3_tr (lo3_tr (lo3_tr hlo l3a) hl3_5) (lo3_eq rfl rfl rfl)
              have sm_hb9 : ∀ r, r ∈ [6, 7, 9, 10, 11, 12] → F_5 r = F r := by
                intro r hr
                simp only [List.mem_cons, List.not_mem_nil, or_false] at hr
                rcases hr with rfl | rfl | rfl | rfl | rfl | rfl
                · exact (hx5.2.2.1 6 (by decide))
                · exact (hx5.2.2.1 7 (by decide))
                · exact (hx5.2.2.1 9 (by decide))
                · exact (hx5.2.2.1 10 (by decide))
                · exact (hx5.2.2.1 11 (by decide))
                · exact (hx5.2.2.1 12 (by decide))
              have of_hb9 : ∀ r, r ∈ [13, 14, 15] → ∀ i, i ≠ (40 * f + W) → F_5 r i = F r i := by
                intro r hr i hi
                rw [← eci] at hi
                simp only [List.mem_cons, List.not_mem_nil, or_false] at hr
                rcases hr with rfl | rfl | rfl
                · rw [show F_5 13 = (F_5 13) from rfl]; exact hof_5 13 (by decide) i hi
                · rw [show F_5 14 = (F_5 14) from rfl]; exact hof_5 14 (by decide) i hi
                · rw [show F_5 15 = (F_5 15) from rfl]; exact hof_5 15 (by decide) i hi
              have hb9 : RDb F0 F_5 f W O := RDb_keep hb sm_hb9 of_hb9
              have hA9 : rAll F_5 := by
                intro q hq
                obtain ⟨qa0, qb0, qc0, qd0⟩ := hA_5 q hq
                rw [show F_5 13 = (F_5 13) from rfl, show F_5 14 = (F_5 14) from rfl, show F_5 15 = (F_5 15) from rfl, show F_5 19 = (F_5 19) from rfl]
                refine ⟨?_, ?_, ?_, ?_⟩ <;> (try simp only [updE]) <;> (repeat' split) <;> first | omega | decide
              exact gz_zret rfl (by first | decide | exact nrb (Or.inl (by assumption)) | exact nrb (by assumption) | (refine nrb ?_; assumption)) dX12_begins_374 (Nat.le_of_ble_eq_true rfl) (Nat.le_of_ble_eq_true rfl) (⟨_, rfl, _, _, _, _, hS_5, (fx_tr (fx_tr fx_rf hx (by decide)) hx5 (by decide)), (by first | exact Or.inl rfl | exact Or.inr rfl | assumption | (left; assumption)), (by (try rw [(show n_5 21 = (n_5 21) from rfl)]); (try rw [(show n_5 4 = (n0 4) from ((hx5.1 4 (by decide)).trans (hx.1 4 (by decide))))]); omega), (by (try rw [(show n_5 21 = (n_5 21) from rfl)]); omega), hA9, hb9.2.1, (fun h => absurd h (by decide)), (by rw [hE.1 (by omega), hH, hs]; exact ⟨rfl, a2hs⟩), (fun ii _ => by rw [show F_5 25 = F 25 from (hx5.2.2.1 25 (by decide))]; exact congrFun (hx.2.2.1 25 (by decide)) ii), (fun z => absurd z (by decide)), l3n, (fun i hi => ⟨h8n i (by omega), h16n i (by omega)⟩), (fun _ _ z => absurd z (by decide))⟩)
            · exact absurd c_361 (by decide)
          | inr rhs =>
            rw [hs] at hE_5
            obtain ⟨Q1, V2⟩ := rhs
            obtain ⟨a1hs, a2hs, a3hs, a4hs⟩ := hE_5
            rw [ecf] at a4hs
            have hD_ : ∀ c9 : Cn, LRv F f c9 V1 → LRv F_5 f (tsC (tX (F0 3) (n0 4)) Q V1 c9) V2 := fun c9 h9 => by have z := hC_5 c9 h9 a1hs; rw [show (F_5 17 f).toInt.toNat = V2 by omega] at z; exact z
            rw [← ecf] at a4hs
            refine gz_ev (w := .int 1) (congrArg Value.int a1hs) ?_
            refine gz_if_eq (tgt := 373) dX12_begins_361 (by decide) (fun c_361 => ?_) (fun c_361 => ?_)
            · exact absurd c_361 (by decide)
            ·
              try simp only [mIn_0, lgc_lt, lgc_gt, lgc_le, lgc_ge, lgc_eq] at c_361
              try simp only [fl_lt, fl_le, fl_eq, fL_w, fL_lt, fL_le, tm1, tm10k, tm9, tm99, Int32.reduceToInt, Int64.reduceToInt, Int.not_lt, Int.not_le] at c_361
              have hy_ := hyes_5 a1hs
              rw [eci] at hy_
              have hz_ := hy16_5 a1hs
              rw [eci] at hz_
              refine gz_aload_n dX12_begins_364 rfl rfl ?_
              refine gz_bipush (v := 58) dX12_begins_365 (by decide) ?_
              refine scX12_325 (k_X12_takesE (x := 58) hS_5 (by (try rw [(show n_5 21 = (n_5 21) from rfl)]); (try rw [(show n_5 4 = (n0 4) from ((hx5.1 4 (by decide)).trans (hx.1 4 (by decide))))]); omega) (rB_cg ((hx5.2.2.1 3 (by decide)).trans (hx.2.2.1 3 (by decide))) hB0) (by (try rw [(show n_5 22 = (n_5 22) from rfl)]); omega) (by decide)) hS_5.1 ⟨(Nat.le_of_ble_eq_true rfl), (Nat.le_of_ble_eq_true rfl)⟩ ⟨(Nat.le_of_ble_eq_true rfl), (Nat.le_of_ble_eq_true rfl)⟩ rfl rfl (Nat.le_of_ble_eq_true rfl) dX12_begins_367 ?_
              rintro r_6 f_6 ⟨n_6, z_6, F_6, G_6, hS_6, hx6, hb_6, hT_6, hm_6, hE_6⟩
              try simp only [(show n_6 4 = (n0 4) from ((hx6.1 4 (by decide)).trans ((hx5.1 4 (by decide)).trans (hx.1 4 (by decide)))))] at hb_6 hT_6 hm_6 hE_6
              try simp only [(show F_6 3 = (F0 3) from ((hx6.2.2.1 3 (by decide)).trans ((hx5.2.2.1 3 (by decide)).trans (hx.2.2.1 3 (by decide)))))] at hb_6 hT_6 hm_6 hE_6
              try simp only [(show n_5 4 = (n0 4) from ((hx5.1 4 (by decide)).trans (hx.1 4 (by decide))))] at hb_6 hT_6 hm_6 hE_6
              try simp only [(show F_5 3 = (F0 3) from ((hx5.2.2.1 3 (by decide)).trans (hx.2.2.1 3 (by decide))))] at hb_6 hT_6 hm_6 hE_6
              rw [show (n_5 21).toInt.toNat = Q1 by omega, show ((58 : Int32)).toInt = 58 from rfl] at hE_6
              cases ht : tkR (tX (F0 3) (n0 4)) Q1 58 with
              | inl cht =>
                rw [ht] at hE_6
                obtain ⟨a1ht, a2ht⟩ := hE_6
                refine gz_ev (w := .int 0) (congrArg Value.int a1ht) ?_
                refine gz_if_ne (tgt := 375) dX12_begins_370 (by decide) (fun c_370 => ?_) (fun c_370 => ?_)
                · exact absurd c_370 (by decide)
                ·
                  try simp only [mIn_0, lgc_lt, lgc_gt, lgc_le, lgc_ge, lgc_eq] at c_370
                  try simp only [fl_lt, fl_le, fl_eq, fL_w, fL_lt, fL_le, tm1, tm10k, tm9, tm99, Int32.reduceToInt, Int64.reduceToInt, Int.not_lt, Int.not_le] at c_370
                  refine gz_iconst (v := 0) dX12_begins_373 (by decide) ?_
                  have h8n : ∀ i, i ≠ (40 * f + W) → F_6 8 i = F0 8 i := fun i hi => by rw [show F_6 8 = (F 8) from ((hx6.2.2.1 8 (by decide)).trans (hx5.2.2.1 8 (by decide)))]; exact h8o i hi
                  have h16n : ∀ i, i ≠ (40 * f + W) → F_6 16 i = F0 16 i := fun i hi => by rw [show F_6 16 = F_5 16 from (hx6.2.2.1 16 (by decide)), ho16_5 i (by rw [eci]; exact hi)]; exact h16o i hi
                  have l3n : lo3 F0 F_6 f := lo3_tr (lo3_tr (lo3_tr hlo l3a) hl3_5) (lo3_eq (hx6.2.2.1 18 (by decide)) (hx6.2.2.1 19 (by decide)) (hx6.2.2.1 20 (by decide)))
                  have sm_hb9 : ∀ r, r ∈ [6, 7, 9, 10, 11, 12] → F_6 r = F r := by
                    intro r hr
                    simp only [List.mem_cons, List.not_mem_nil, or_false] at hr
                    rcases hr with rfl | rfl | rfl | rfl | rfl | rfl
                    · exact ((hx6.2.2.1 6 (by decide)).trans (hx5.2.2.1 6 (by decide)))
                    · exact ((hx6.2.2.1 7 (by decide)).trans (hx5.2.2.1 7 (by decide)))
                    · exact ((hx6.2.2.1 9 (by decide)).trans (hx5.2.2.1 9 (by decide)))
                    · exact ((hx6.2.2.1 10 (by decide)).trans (hx5.2.2.1 10 (by decide)))
                    · exact ((hx6.2.2.1 11 (by decide)).trans (hx5.2.2.1 11 (by decide)))
                    · exact ((hx6.2.2.1 12 (by decide)).trans (hx5.2.2.1 12 (by decide)))
                  have of_hb9 : ∀ r, r ∈ [13, 14, 15] → ∀ i, i ≠ (40 * f + W) → F_6 r i = F r i := by
                    intro r hr i hi
                    rw [← eci] at hi
                    simp only [List.mem_cons, List.not_mem_nil, or_false] at hr
                    rcases hr with rfl | rfl | rfl
                    · rw [show F_6 13 = (F_5 13) from (hx6.2.2.1 13 (by decide))]; exact hof_5 13 (by decide) i hi
                    · rw [show F_6 14 = (F_5 14) from (hx6.2.2.1 14 (by decide))]; exact hof_5 14 (by decide) i hi
                    · rw [show F_6 15 = (F_5 15) from (hx6.2.2.1 15 (by decide))]; exact hof_5 15 (by decide) i hi
                  have hb9 : RDb F0 F_6 f W O := RDb_keep hb sm_hb9 of_hb9
                  have hA9 : rAll F_6 := by
                    intro q hq
                    obtain ⟨qa0, qb0, qc0, qd0⟩ := hA_5 q hq
                    rw [show F_6 13 = (F_5 13) from (hx6.2.2.1 13 (by decide)), show F_6 14 = (F_5 14) from (hx6.2.2.1 14 (by decide)), show F_6 15 = (F_5 15) from (hx6.2.2.1 15 (by decide)), show F_6 19 = (F_5 19) from (hx6.2.2.1 19 (by decide))]
                    refine ⟨?_, ?_, ?_, ?_⟩ <;> (try simp only [updE]) <;> (repeat' split) <;> first | omega | decide
                  exact gz_zret rfl (by first | decide | exact nrb (Or.inl (by assumption)) | exact nrb (by assumption) | (refine nrb ?_; assumption)) dX12_begins_374 (Nat.le_of_ble_eq_true rfl) (Nat.le_of_ble_eq_true rfl) (⟨_, rfl, _, _, _, _, hS_6, (fx_tr (fx_tr (fx_tr fx_rf hx (by decide)) hx5 (by decide)) hx6 (by decide)), (by first | exact Or.inl rfl | exact Or.inr rfl | assumption | (left; assumption)), (by (try rw [(show n_6 21 = (n_6 21) from rfl)]); (try rw [(show n_6 4 = (n0 4) from ((hx6.1 4 (by decide)).trans ((hx5.1 4 (by decide)).trans (hx.1 4 (by decide)))))]); omega), (by (try rw [(show n_6 21 = (n_6 21) from rfl)]); omega), hA9, hb9.2.1, (fun h => absurd h (by decide)), (by rw [hE.1 (by omega), hH, hs]; dsimp only; rw [ht]; exact ⟨rfl, a2ht⟩), (fun ii _ => by rw [show F_6 25 = F 25 from ((hx6.2.2.1 25 (by decide)).trans (hx5.2.2.1 25 (by decide)))]; exact congrFun (hx.2.2.1 25 (by decide)) ii), (fun z => absurd z (by decide)), l3n, (fun i hi => ⟨h8n i (by omega), h16n i (by omega)⟩), (fun _ _ z => absurd z (by decide))⟩)
              | inr rht =>
                rw [ht] at hE_6
                obtain ⟨a1ht, a2ht, a3ht⟩ := hE_6
                refine gz_ev (w := .int 1) (congrArg Value.int a1ht) ?_
                refine gz_if_ne (tgt := 375) dX12_begins_370 (by decide) (fun c_370 => ?_) (fun c_370 => ?_)
                ·
                  try simp only [mIn_0, lgc_lt, lgc_gt, lgc_le, lgc_ge, lgc_eq] at c_370
                  try simp only [fl_lt, fl_le, fl_eq, fL_w, fL_lt, fL_le, tm1, tm10k, tm9, tm99, Int32.reduceToInt, Int64.reduceToInt, Int.not_lt, Int.not_le] at c_370
                  have sm_hb8 : ∀ r, r ∈ [6, 7, 9, 10, 11, 12] → F_6 r = F r := by
                    intro r hr
                    simp only [List.mem_cons, List.not_mem_nil, or_false] at hr
                    rcases hr with rfl | rfl | rfl | rfl | rfl | rfl
                    · exact ((hx6.2.2.1 6 (by decide)).trans (hx5.2.2.1 6 (by decide)))
                    · exact ((hx6.2.2.1 7 (by decide)).trans (hx5.2.2.1 7 (by decide)))
                    · exact ((hx6.2.2.1 9 (by decide)).trans (hx5.2.2.1 9 (by decide)))
                    · exact ((hx6.2.2.1 10 (by decide)).trans (hx5.2.2.1 10 (by decide)))
                    · exact ((hx6.2.2.1 11 (by decide)).trans (hx5.2.2.1 11 (by decide)))
                    · exact ((hx6.2.2.1 12 (by decide)).trans (hx5.2.2.1 12 (by decide)))
                  have of_hb8 : ∀ r, r ∈ [13, 14, 15] → ∀ i, i ≠ (40 * f + W) → F_6 r i = F r i := by
                    intro r hr i hi
                    rw [← eci] at hi
                    simp only [List.mem_cons, List.not_mem_nil, or_false] at hr
                    rcases hr with rfl | rfl | rfl
                    · rw [show F_6 13 = (F_5 13) from (hx6.2.2.1 13 (by decide))]; exact hof_5 13 (by decide) i hi
                    · rw [show F_6 14 = (F_5 14) from (hx6.2.2.1 14 (by decide))]; exact hof_5 14 (by decide) i hi
                    · rw [show F_6 15 = (F_5 15) from (hx6.2.2.1 15 (by decide))]; exact hof_5 15 (by decide) i hi
                  have hb8 : RDb F0 F_6 f W O := RDb_keep hb sm_hb8 of_hb8
                  have hA8 : rAll F_6 := by
                    intro q hq
                    obtain ⟨qa0, qb0, qc0, qd0⟩ := hA_5 q hq
                    rw [show F_6 13 = (F_5 13) from (hx6.2.2.1 13 (by decide)), show F_6 14 = (F_5 14) from (hx6.2.2.1 14 (by decide)), show F_6 15 = (F_5 15) from (hx6.2.2.1 15 (by decide)), show F_6 19 = (F_5 19) from (hx6.2.2.1 19 (by decide))]
                    refine ⟨?_, ?_, ?_, ?_⟩ <;> (try simp only [updE]) <;> (repeat' split) <;> first | omega | decide
                  have x7 : (F_6 7 (40 * f + W)).toInt = kd.toInt := by rw [show F_6 7 = (F 7) from ((hx6.2.2.1 7 (by decide)).trans (hx5.2.2.1 7 (by decide)))]; exact h7
                  have x17 : (F_6 17 (Int32.toNatClampNeg (n0 5))).toInt = ((F_5 17) (Int32.toNatClampNeg (n0 5))).toInt := by rw [show F_6 17 = (F_5 17) from (hx6.2.2.1 17 (by decide))]
                  have x13 : (F_6 13 (40 * f + W)).toInt = ((F_5 13) (40 * f + W)).toInt := by rw [show F_6 13 = (F_5 13) from (hx6.2.2.1 13 (by decide))]
                  have x14 : (F_6 14 (40 * f + W)).toInt = ((F_5 14) (40 * f + W)).toInt := by rw [show F_6 14 = (F_5 14) from (hx6.2.2.1 14 (by decide))]
                  have x15 : (F_6 15 (40 * f + W)).toInt = ((F_5 15) (40 * f + W)).toInt := by rw [show F_6 15 = (F_5 15) from (hx6.2.2.1 15 (by decide))]
                  have h8n : ∀ i, i ≠ (40 * f + W) → F_6 8 i = F0 8 i := fun i hi => by rw [show F_6 8 = (F 8) from ((hx6.2.2.1 8 (by decide)).trans (hx5.2.2.1 8 (by decide)))]; exact h8o i hi
                  have h16n : ∀ i, i ≠ (40 * f + W) → F_6 16 i = F0 16 i := fun i hi => by rw [show F_6 16 = F_5 16 from (hx6.2.2.1 16 (by decide)), ho16_5 i (by rw [eci]; exact hi)]; exact h16o i hi
                  have l3n : lo3 F0 F_6 f := lo3_tr (lo3_tr (lo3_tr hlo l3a) hl3_5) (lo3_eq (hx6.2.2.1 18 (by decide)) (hx6.2.2.1 19 (by decide)) (hx6.2.2.1 20 (by decide)))
                  have hFF : hdF F0 F_6 f W K (F0 17 f).toInt.toNat V2 BG := by
                    have z := hdS_te (F2 := F_6) (hF.1 (by omega)).2 hK6 hs (fun c9 h9 => LRv_rw (hx6.2.2.1 18 (by decide)) (hx6.2.2.1 19 (by decide)) (hx6.2.2.1 20 (by decide)) (hD_ c9 h9)) (by rw [show F_6 8 = F 8 from ((hx6.2.2.1 8 (by decide)).trans (hx5.2.2.1 8 (by decide)))]) (by omega) (by rw [show F_6 14 = F_5 14 from (hx6.2.2.1 14 (by decide))]; exact hz_.1) (by omega) (by rw [show F_6 16 = F_5 16 from (hx6.2.2.1 16 (by decide))]; exact hz_.2)
                    rw [← (hF.1 (by omega)).1]; exact z
                  refine gz_sub (lv' := [(0, .ref m), (4, .int kd), (7, .int iw)]) (by simp [List.lookup]) ?_
                  exact l_X12_beginsCC (K := K) (Q := rht) (V1 := V2) (BG := BG) h5 hJ hB0 hwi hkd hBG ⟨fun z => absurd z (by omega), fun _ => (by rw [hE.1 (by omega), hH, hs]; dsimp only; rw [ht])⟩ 1 _ _ _ _ _ hS_6 (fx_tr (fx_tr hx hx5 (by decide)) hx6 (by decide)) (by (try rw [(show n_6 21 = (n_6 21) from rfl)]); (try rw [(show n_6 4 = (n0 4) from ((hx6.1 4 (by decide)).trans ((hx5.1 4 (by decide)).trans (hx.1 4 (by decide)))))]); omega) (by (try rw [(show n_6 21 = (n_6 21) from rfl)]); omega) hA8 hb8 x7 (by omega) (by omega) (by (try rw [(show n_6 22 = (n_6 22) from rfl)]); omega) (by (try rw [(show n_6 21 = (n_6 21) from rfl)]); omega) (by omega) h8n h16n l3n ⟨fun z => absurd z (by omega), fun _ => hFF⟩ hk2 (by decide)
                · exact absurd c_370 (by decide)

set_option maxHeartbeats 4000000 in
set_option maxRecDepth 100000 in
theorem l_X12_beginsCB {l : Launch} {D : va_G} {cy : Nat → ClassId} {b : Nat} {m : Nat} {a : Nat → Nat} {f0 : gMem} {n0 : Nat → Int32} {z0 : Nat → Int64} {F0 : Nat → Nat → Int32} {G0 : Nat → Nat → Int64}  {f W O K Q V1 : Nat} {kd iw : Int32} {BG : Cn → Cn} (h5 : (n0 5).toInt = (f : Int) ∧ f < 20) (hJ : RDJ F0 n0 F0 f W O true) (hB0 : rB F0) (hwi : iw.toInt = 40 * (f : Int) + W ∧ W ≤ 39) (hkd : kd.toInt = (K : Int) ∧ K ≤ 10) (hBG : ∃ q9, ∀ co : Cn, BG co = hdC (tX (F0 3) (n0 4)) K q9 (F0 17 f).toInt.toNat W (nwC K W (upC (skW F0 f O)).1 (upC (skW F0 f O)).2 O co)) (hE : (K ≤ 1 → bgR (tX (F0 3) (n0 4)) (n0 21).toInt.toNat W (F0 17 f).toInt.toNat O = .inr (K, Q, V1)) ∧ (¬ K ≤ 1 → bgR (tX (F0 3) (n0 4)) (n0 21).toInt.toNat W (F0 17 f).toInt.toNat O = tlR (tX (F0 3) (n0 4)) K (hdR (tX (F0 3) (n0 4)) K Q V1))) : ∀ (k : Nat)  (n : Nat → Int32) (z : Nat → Int64) (F : Nat → Nat → Int32) (G : Nat → Nat → Int64) (fm : gMem), mS cy m a f0 n z F G fm → fx [21, 22, 23] [] [6, 7, 8, 9, 10, 11, 12, 13, 14, 15, 16, 17, 18, 19, 20] [] n0 z0 F0 G0 n z F G → ((0 ≤ (n 21).toInt ∧ (n 21).toInt ≤ (n 4).toInt ∧ (n 4).toInt ≤ 400)) → ((n0 21).toInt ≤ (n 21).toInt) → (rAll F) → (RDb F0 F f W O) → ((F 7 (40 * f + W)).toInt = kd.toInt) → ((F0 17 (Int32.toNatClampNeg (n0 5))).toInt ≤ (F 17 (Int32.toNatClampNeg (n0 5))).toInt ∧ (F 17 (Int32.toNatClampNeg (n0 5))).toInt ≤ 40) → (((F 13 (40 * f + W)).toInt ≤ (F 14 (40 * f + W)).toInt ∧ (F 14 (40 * f + W)).toInt ≤ (F 15 (40 * f + W)).toInt) ∧ (F 15 (40 * f + W)).toInt - (F 13 (40 * f + W)).toInt ≤ (F 17 (Int32.toNatClampNeg (n0 5))).toInt - (F0 17 (Int32.toNatClampNeg (n0 5))).toInt) → ((n 22).toInt = 0) → ((n 21).toInt = (Q : Int)) → ((F 17 (Int32.toNatClampNeg (n0 5))).toInt = (V1 : Int)) → (∀ i, i ≠ (40 * f + W) → F 8 i = F0 8 i) → (∀ i, i ≠ (40 * f + W) → F 16 i = F0 16 i) → (lo3 F0 F f) → ((V1 = (F0 17 f).toInt.toNat ∧ hdS (tX (F0 3) (n0 4)) F0 F f W K Q V1 BG)) → (0 < (k : Int)) → gG l (gRm 5 0 0) (gQf D b (pI fun r f2 => ∃ (n2 : Nat → Int32) (z2 : Nat → Int64) (F2 : Nat → Nat → Int32) (G2 : Nat → Nat → Int64), mS cy m a f0 n2 z2 F2 G2 f2 ∧ fx [21, 22, 23, 24] [] [6, 7, 8, 9, 10, 11, 12, 13, 14, 15, 16, 17, 18, 19, 20, 25, 26] [] n0 z0 F0 G0 n2 z2 F2 G2 ∧ (r = 0 ∨ r = 1) ∧ (0 ≤ (n2 21).toInt ∧ (n2 21).toInt ≤ (n2 4).toInt ∧ (n2 4).toInt ≤ 400) ∧ (n0 21).toInt ≤ (n2 21).toInt ∧ rAll F2 ∧ (∀ g, g < f → agF F0 F2 g) ∧ (r = 1 → RDJ F0 n2 F2 f (W + 1) O false ∨ RDJ F0 n2 F2 f (W + 1) (O + 1) true) ∧ exB (bgR (tX (F0 3) (n0 4)) (n0 21).toInt.toNat W (F0 17 f).toInt.toNat O) O r n0 n2 F0 F2 f ∧ (∀ ii : Nat, ii < O → F2 25 ii = F0 25 ii) ∧ (r = 1 → (n2 24).toInt = ((O + 1 : Nat) : Int) → (F2 25 O).toInt = 40 * (f : Int) + W) ∧ lo3 F0 F2 f ∧ (∀ i, i < 40 * f → F2 8 i = F0 8 i ∧ F2 16 i = F0 16 i) ∧ (∀ co : Cn, LR F0 f co W (F0 17 f).toInt.toNat → r = 1 → LR F2 f (BG co) (W + 1) (F2 17 f).toInt.toNat)) 0 0) gTt D cy b cX12_begins 9 (some .boolean) RX12 "begins" 0 0 fm 288 [(0, .ref m), (4, .int kd), (7, .int iw)] [] := by
  intro k
  induction k with
  | zero =>
    intro n z F G fm hS hx hT hm hA hb h7 hv hvz h22 h21 h17 h8o h16o hlo hF hk
    exfalso; omega
  | succ k ih =>
    intro n z F G fm hS hx hT hm hA hb h7 hv hvz h22 h21 h17 h8o h16o hlo hF hk
    have e4 : n 4 = n0 4 := hx.1 4 (by decide)
    rw [e4] at hT
    obtain ⟨g6, g24, gR, gv, gA, gg⟩ := id hJ
    have ecf : (Int32.toNatClampNeg (n0 5)) = f := by rw [clN]; omega
    have eci : Int32.toNatClampNeg iw = (40 * f + W) := by rw [clN]; omega
    have eco : Int32.toNatClampNeg (n0 24) = O := by rw [clN]; omega
    have gO := hb.2.2.2.2.2.2
    have gv2 : (F0 17 (Int32.toNatClampNeg (n0 5))).toInt = (F0 17 f).toInt := by rw [ecf]
    have e3 : F 3 = F0 3 := hx.2.2.1 3 (by decide)
    have hB : rB F := rB_cg e3 hB0
    have hln := tX_ln (g := F0 3) (L := n0 4) (by omega)
    refine gz_iload dX12_begins_288 rfl ?_
    refine gz_if_eq (tgt := 299) dX12_begins_290 (by decide) (fun c_290 => ?_) (fun c_290 => ?_)
    ·
      try simp only [mIn_0, lgc_lt, lgc_gt, lgc_le, lgc_ge, lgc_eq] at c_290
      try simp only [fl_lt, fl_le, fl_eq, fL_w, fL_lt, fL_le, tm1, tm10k, tm9, tm99, Int32.reduceToInt, Int64.reduceToInt, Int.not_lt, Int.not_le] at c_290
      refine gz_iconst (v := 1) dX12_begins_299 (by decide) ?_
      have sm_hb9 : ∀ r, r ∈ [6, 7, 9, 10, 11, 12] → F r = F r := by
        intro r hr
        simp only [List.mem_cons, List.not_mem_nil, or_false] at hr
        rcases hr with rfl | rfl | rfl | rfl | rfl | rfl
        · exact rfl
        · exact rfl
        · exact rfl
        · exact rfl
        · exact rfl
        · exact rfl
      have hb9 := hb
      have hA9 : rAll F := by
        intro q hq
        obtain ⟨qa0, qb0, qc0, qd0⟩ := hA q hq
        rw [show F 13 = (F 13) from rfl, show F 14 = (F 14) from rfl, show F 15 = (F 15) from rfl, show F 19 = (F 19) from rfl]
        refine ⟨?_, ?_, ?_, ?_⟩ <;> (try simp only [updE]) <;> (repeat' split) <;> first | omega | decide
      have w7 : F 7 (40 * f + W) = F 7 (40 * f + W) := by rw [show F 7 = (F 7) from rfl]
      have w13 : F 13 (40 * f + W) = F 13 (40 * f + W) := by rw [show F 13 = (F 13) from rfl]
      have w14 : F 14 (40 * f + W) = F 14 (40 * f + W) := by rw [show F 14 = (F 14) from rfl]
      have w15 : F 15 (40 * f + W) = F 15 (40 * f + W) := by rw [show F 15 = (F 15) from rfl]
      have w17 : (F 17 f).toInt = (F 17 (Int32.toNatClampNeg (n0 5))).toInt := by rw [show F 17 = (F 17) from rfl, ecf]
      have hvs : (vsF F f 0 (W + 1) : Int) ≤ (F 17 f).toInt ∧ (F 17 f).toInt ≤ 40 := by rw [RD_vs hb9, w17]; unfold owK; rw [w13, w15]; omega
      have h25 : ∀ r, r ∈ [25, 26] → ∀ i, i < O → F r i = F0 r i := by
        intro r hr i hi
        simp only [List.mem_cons, List.not_mem_nil, or_false] at hr
        rcases hr with rfl | rfl
        · rw [show F 25 = (F 25) from rfl]; exact congrFun (hx.2.2.1 25 (by decide)) _
        · rw [show F 26 = (F 26) from rfl]; exact congrFun (hx.2.2.1 26 (by decide)) _
      have hFr : ∀ r, r ∈ [8, 13, 14, 15, 16] → F r (40 * f + W) = F r (40 * f + W) := by
        intro r hr
        simp only [List.mem_cons, List.not_mem_nil, or_false] at hr
        rcases hr with rfl | rfl | rfl | rfl | rfl
        · rw [show F 8 = (F 8) from rfl]
        · rw [show F 13 = (F 13) from rfl]
        · rw [show F 14 = (F 14) from rfl]
        · rw [show F 15 = (F 15) from rfl]
        · rw [show F 16 = (F 16) from rfl]
      have hFn : hdF F0 F f W K (F0 17 f).toInt.toNat V1 BG := hdF_cg (by have z := hdS_no hF.2 (by omega) (by omega); rw [← hF.1]; exact z) hFr ⟨rfl, rfl, rfl⟩
      have hJ9 : RDJ F0 n F f (W + 1) O false := ⟨⟨by have z := hb9.1; omega, by omega⟩, by rw [(show n 24 = (n0 24) from (hx.1 24 (by decide)))]; exact g24, RD_leaf gR hb9 h25 (by rw [w7]; omega) (by rw [w13, w14, w15]; exact hvz.1), hvs, hA9, hb9.2.1⟩
      have h8n : ∀ i, i ≠ (40 * f + W) → F 8 i = F0 8 i := fun i hi => by rw [show F 8 = (F 8) from rfl]; exact h8o i hi
      have h16n : ∀ i, i ≠ (40 * f + W) → F 16 i = F0 16 i := fun i hi => by rw [show F 16 = (F 16) from rfl]; exact h16o i hi
      have l3n : lo3 F0 F f := lo3_tr hlo (lo3_eq rfl rfl rfl)
      exact gz_zret rfl (by first | decide | exact nrb (Or.inl (by assumption)) | exact nrb (by assumption) | (refine nrb ?_; assumption)) dX12_begins_300 (Nat.le_of_ble_eq_true rfl) (Nat.le_of_ble_eq_true rfl) (⟨_, rfl, _, _, _, _, hS, (fx_tr fx_rf hx (by decide)), (by first | exact Or.inl rfl | exact Or.inr rfl | assumption | (left; assumption)), (by (try rw [(show n 4 = (n0 4) from (hx.1 4 (by decide)))]); omega), (by omega), hA9, hb9.2.1, (fun _ => Or.inl hJ9), (by rw [hE.1 (by omega)]; exact ⟨rfl, (by omega), (by omega), (w17.trans h17), (fun ii hi => h25 26 (by decide) ii hi), fun _ => (hx.1 24 (by decide)), fun z => absurd (show K ≤ 1 by omega) z⟩), (fun ii hi => h25 25 (by decide) ii hi), (fun _ z => by exfalso; rw [(show n 24 = (n0 24) from (hx.1 24 (by decide)))] at z; omega), l3n, (fun i hi => ⟨h8n i (by omega), h16n i (by omega)⟩), (fun co hco _ => by rw [show (F 17 f).toInt.toNat = V1 by have z := (w17.trans h17); omega]; exact LRw_begin hb9 (RD_st gR) (by rw [w7, h7]; exact hkd.1) h8n h16n hBG hFn hco)⟩)
    ·
      try simp only [mIn_0, lgc_lt, lgc_gt, lgc_le, lgc_ge, lgc_eq] at c_290
      try simp only [fl_lt, fl_le, fl_eq, fL_w, fL_lt, fL_le, tm1, tm10k, tm9, tm99, Int32.reduceToInt, Int64.reduceToInt, Int.not_lt, Int.not_le] at c_290
      refine gz_iload dX12_begins_293 rfl ?_
      refine gz_iconst (v := 1) dX12_begins_295 (by decide) ?_
      refine gz_icmp_ne (tgt := 301) dX12_begins_296 (by decide) (fun c_296 => ?_) (fun c_296 => ?_)
      ·
        try simp only [mIn_0, lgc_lt, lgc_gt, lgc_le, lgc_ge, lgc_eq] at c_296
        try simp only [fl_lt, fl_le, fl_eq, fL_w, fL_lt, fL_le, tm1, tm10k, tm9, tm99, Int32.reduceToInt, Int64.reduceToInt, Int.not_lt, Int.not_le] at c_296
        refine gz_iload dX12_begins_301 rfl ?_
        refine gz_iconst (v := 5) dX12_begins_303 (by decide) ?_
        refine gz_icmp_eq (tgt := 314) dX12_begins_304 (by decide) (fun c_304 => ?_) (fun c_304 => ?_)
        ·
          try simp only [mIn_0, lgc_lt, lgc_gt, lgc_le, lgc_ge, lgc_eq] at c_304
          try simp only [fl_lt, fl_le, fl_eq, fL_w, fL_lt, fL_le, tm1, tm10k, tm9, tm99, Int32.reduceToInt, Int64.reduceToInt, Int.not_lt, Int.not_le] at c_304
          refine gz_aload_n dX12_begins_314 rfl rfl ?_
          refine scX12_303 (k_X12_readsC hS (by (try rw [(show n 4 = (n0 4) from (hx.1 4 (by decide)))]); omega) (rB_cg (hx.2.2.1 3 (by decide)) hB0) (by omega)) hS.1 ⟨(Nat.le_of_ble_eq_true rfl), (Nat.le_of_ble_eq_true rfl)⟩ ⟨(Nat.le_of_ble_eq_true rfl), (Nat.le_of_ble_eq_true rfl)⟩ rfl rfl (Nat.le_of_ble_eq_true rfl) dX12_begins_315 ?_
          rintro r_1 f_1 ⟨n_1, z_1, F_1, G_1, hS_1, hx1, hb_1, hT_1, hm_1, hE_1, hN_1⟩
          try simp only [(show n_1 4 = (n0 4) from ((hx1.1 4 (by decide)).trans (hx.1 4 (by decide))))] at hb_1 hT_1 hm_1 hE_1 hN_1
          try simp only [(show F_1 3 = (F0 3) from ((hx1.2.2.1 3 (by decide)).trans (hx.2.2.1 3 (by decide))))] at hb_1 hT_1 hm_1 hE_1 hN_1
          try simp only [(show n 4 = (n0 4) from (hx.1 4 (by decide)))] at hb_1 hT_1 hm_1 hE_1 hN_1
          try simp only [(show F 3 = (F0 3) from (hx.2.2.1 3 (by decide)))] at hb_1 hT_1 hm_1 hE_1 hN_1
          rw [show (n 21).toInt.toNat = Q by omega] at hE_1 hN_1
          have hK5 : K = 5 ∨ K = 10 := by omega
          have hH : hdR (tX (F0 3) (n0 4)) K Q V1 = (match nuR (tX (F0 3) (n0 4)) (skR (tX (F0 3) (n0 4)) Q) with | .inl c => .inl c | .inr q => .inr (q, V1)) := by unfold hdR; rw [if_pos hK5]; rfl
          cases hn : nuR (tX (F0 3) (n0 4)) (skR (tX (F0 3) (n0 4)) Q) with
          | inl chn =>
            rw [hn] at hE_1
            obtain ⟨a1hn, a2hn⟩ := hE_1
            refine gz_ev (w := .int 0) (congrArg Value.int a1hn) ?_
            refine gz_if_ne (tgt := 323) dX12_begins_318 (by decide) (fun c_318 => ?_) (fun c_318 => ?_)
            · exact absurd c_318 (by decide)
            ·
              try simp only [mIn_0, lgc_lt, lgc_gt, lgc_le, lgc_ge, lgc_eq] at c_318
              try simp only [fl_lt, fl_le, fl_eq, fL_w, fL_lt, fL_le, tm1, tm10k, tm9, tm99, Int32.reduceToInt, Int64.reduceToInt, Int.not_lt, Int.not_le] at c_318
              refine gz_iconst (v := 0) dX12_begins_321 (by decide) ?_
              have h8n : ∀ i, i ≠ (40 * f + W) → F_1 8 i = F0 8 i := fun i hi => by rw [show F_1 8 = (F 8) from (hx1.2.2.1 8 (by decide))]; exact h8o i hi
              have h16n : ∀ i, i ≠ (40 * f + W) → F_1 16 i = F0 16 i := fun i hi => by rw [show F_1 16 = (F 16) from (hx1.2.2.1 16 (by decide))]; exact h16o i hi
              have l3n : lo3 F0 F_1 f := lo3_tr hlo (lo3_eq (hx1.2.2.1 18 (by decide)) (hx1.2.2.1 19 (by decide)) (hx1.2.2.1 20 (by decide)))
              have sm_hb9 : ∀ r, r ∈ [6, 7, 9, 10, 11, 12] → F_1 r = F r := by
                intro r hr
                simp only [List.mem_cons, List.not_mem_nil, or_false] at hr
                rcases hr with rfl | rfl | rfl | rfl | rfl | rfl
                · exact (hx1.2.2.1 6 (by decide))
                · exact (hx1.2.2.1 7 (by decide))
                · exact (hx1.2.2.1 9 (by decide))
                · exact (hx1.2.2.1 10 (by decide))
                · exact (hx1.2.2.1 11 (by decide))
                · exact (hx1.2.2.1 12 (by decide))
              have of_hb9 : ∀ r, r ∈ [13, 14, 15] → ∀ i, i ≠ (40 * f + W) → F_1 r i = F r i := by
                intro r hr i hi
                rw [← eci] at hi
                simp only [List.mem_cons, List.not_mem_nil, or_false] at hr
                rcases hr with rfl | rfl | rfl
                · rw [show F_1 13 = (F 13) from (hx1.2.2.1 13 (by decide))]
                · rw [show F_1 14 = (F 14) from (hx1.2.2.1 14 (by decide))]
                · rw [show F_1 15 = (F 15) from (hx1.2.2.1 15 (by decide))]
              have hb9 : RDb F0 F_1 f W O := RDb_keep hb sm_hb9 of_hb9
              have hA9 : rAll F_1 := by
                intro q hq
                obtain ⟨qa0, qb0, qc0, qd0⟩ := hA q hq
                rw [show F_1 13 = (F 13) from (hx1.2.2.1 13 (by decide)), show F_1 14 = (F 14) from (hx1.2.2.1 14 (by decide)), show F_1 15 = (F 15) from (hx1.2.2.1 15 (by decide)), show F_1 19 = (F 19) from (hx1.2.2.1 19 (by decide))]
                refine ⟨?_, ?_, ?_, ?_⟩ <;> (try simp only [updE]) <;> (repeat' split) <;> first | omega | decide
              exact gz_zret rfl (by first | decide | exact nrb (Or.inl (by assumption)) | exact nrb (by assumption) | (refine nrb ?_; assumption)) dX12_begins_322 (Nat.le_of_ble_eq_true rfl) (Nat.le_of_ble_eq_true rfl) (⟨_, rfl, _, _, _, _, hS_1, (fx_tr (fx_tr fx_rf hx (by decide)) hx1 (by decide)), (by first | exact Or.inl rfl | exact Or.inr rfl | assumption | (left; assumption)), (by (try rw [(show n_1 21 = (n_1 21) from rfl)]); (try rw [(show n_1 4 = (n0 4) from ((hx1.1 4 (by decide)).trans (hx.1 4 (by decide))))]); omega), (by (try rw [(show n_1 21 = (n_1 21) from rfl)]); omega), hA9, hb9.2.1, (fun h => absurd h (by decide)), (by rw [hE.2 (by omega), hH, hn]; exact ⟨rfl, a2hn⟩), (fun ii _ => by rw [show F_1 25 = F 25 from (hx1.2.2.1 25 (by decide))]; exact congrFun (hx.2.2.1 25 (by decide)) ii), (fun z => absurd z (by decide)), l3n, (fun i hi => ⟨h8n i (by omega), h16n i (by omega)⟩), (fun _ _ z => absurd z (by decide))⟩)
          | inr rhn =>
            rw [hn] at hE_1
            obtain ⟨a1hn, a2hn, a3hn⟩ := hE_1
            have hN := hN_1 a1hn
            refine gz_ev (w := .int 1) (congrArg Value.int a1hn) ?_
            refine gz_if_ne (tgt := 323) dX12_begins_318 (by decide) (fun c_318 => ?_) (fun c_318 => ?_)
            ·
              try simp only [mIn_0, lgc_lt, lgc_gt, lgc_le, lgc_ge, lgc_eq] at c_318
              try simp only [fl_lt, fl_le, fl_eq, fL_w, fL_lt, fL_le, tm1, tm10k, tm9, tm99, Int32.reduceToInt, Int64.reduceToInt, Int.not_lt, Int.not_le] at c_318
              refine gz_aload_n dX12_begins_323 rfl rfl ?_
              refine mg_23 hS_1 dX12_begins_324 ?_
              refine gz_iload dX12_begins_327 rfl ?_
              refine gz_aload_n dX12_begins_329 rfl rfl ?_
              refine mg_287 hS_1 dX12_begins_330 ?_
              refine gz_ev (w := .int (n_1 23)) rfl ?_
              refine m_iast 8 hS_1 rfl (N := 880) rfl ((by exact vin_T (rfl : iw.toInt = iw.toInt) (by omega) (by omega))) dX12_begins_333 (fun f_2 hS_2q => ?_)
              have hS_2 : mS cy m a f0 n_1 z_1 (va_up F_1 8 (upd (F 8) (Int32.toNatClampNeg iw) (n_1 23))) G_1 f_2 := (by have e9 := (show F_1 8 = (F 8) from (hx1.2.2.1 8 (by decide))); rw [e9] at hS_2q; exact hS_2q)
              have sm_hb8 : ∀ r, r ∈ [6, 7, 9, 10, 11, 12] → (va_up F_1 8 (upd (F 8) (Int32.toNatClampNeg iw) (n_1 23))) r = F r := by
                intro r hr
                simp only [List.mem_cons, List.not_mem_nil, or_false] at hr
                rcases hr with rfl | rfl | rfl | rfl | rfl | rfl
                · exact (hx1.2.2.1 6 (by decide))
                · exact (hx1.2.2.1 7 (by decide))
                · exact (hx1.2.2.1 9 (by decide))
                · exact (hx1.2.2.1 10 (by decide))
                · exact (hx1.2.2.1 11 (by decide))
                · exact (hx1.2.2.1 12 (by decide))
              have of_hb8 : ∀ r, r ∈ [13, 14, 15] → ∀ i, i ≠ (40 * f + W) → (va_up F_1 8 (upd (F 8) (Int32.toNatClampNeg iw) (n_1 23))) r i = F r i := by
                intro r hr i hi
                rw [← eci] at hi
                simp only [List.mem_cons, List.not_mem_nil, or_false] at hr
                rcases hr with rfl | rfl | rfl
                · rw [show (va_up F_1 8 (upd (F 8) (Int32.toNatClampNeg iw) (n_1 23))) 13 = (F 13) from (hx1.2.2.1 13 (by decide))]
                · rw [show (va_up F_1 8 (upd (F 8) (Int32.toNatClampNeg iw) (n_1 23))) 14 = (F 14) from (hx1.2.2.1 14 (by decide))]
                · rw [show (va_up F_1 8 (upd (F 8) (Int32.toNatClampNeg iw) (n_1 23))) 15 = (F 15) from (hx1.2.2.1 15 (by decide))]
              have hb8 : RDb F0 (va_up F_1 8 (upd (F 8) (Int32.toNatClampNeg iw) (n_1 23))) f W O := RDb_keep hb sm_hb8 of_hb8
              have hA8 : rAll (va_up F_1 8 (upd (F 8) (Int32.toNatClampNeg iw) (n_1 23))) := by
                intro q hq
                obtain ⟨qa0, qb0, qc0, qd0⟩ := hA q hq
                rw [show (va_up F_1 8 (upd (F 8) (Int32.toNatClampNeg iw) (n_1 23))) 13 = (F 13) from (hx1.2.2.1 13 (by decide)), show (va_up F_1 8 (upd (F 8) (Int32.toNatClampNeg iw) (n_1 23))) 14 = (F 14) from (hx1.2.2.1 14 (by decide)), show (va_up F_1 8 (upd (F 8) (Int32.toNatClampNeg iw) (n_1 23))) 15 = (F 15) from (hx1.2.2.1 15 (by decide)), show (va_up F_1 8 (upd (F 8) (Int32.toNatClampNeg iw) (n_1 23))) 19 = (F 19) from (hx1.2.2.1 19 (by decide))]
                refine ⟨?_, ?_, ?_, ?_⟩ <;> (try simp only [updE]) <;> (repeat' split) <;> first | omega | decide
              have x7 : ((va_up F_1 8 (upd (F 8) (Int32.toNatClampNeg iw) (n_1 23))) 7 (40 * f + W)).toInt = kd.toInt := by rw [show (va_up F_1 8 (upd (F 8) (Int32.toNatClampNeg iw) (n_1 23))) 7 = (F 7) from (hx1.2.2.1 7 (by decide))]; exact h7
              have x17 : ((va_up F_1 8 (upd (F 8) (Int32.toNatClampNeg iw) (n_1 23))) 17 (Int32.toNatClampNeg (n0 5))).toInt = ((F 17) (Int32.toNatClampNeg (n0 5))).toInt := by rw [show (va_up F_1 8 (upd (F 8) (Int32.toNatClampNeg iw) (n_1 23))) 17 = (F 17) from (hx1.2.2.1 17 (by decide))]
              have x13 : ((va_up F_1 8 (upd (F 8) (Int32.toNatClampNeg iw) (n_1 23))) 13 (40 * f + W)).toInt = ((F 13) (40 * f + W)).toInt := by rw [show (va_up F_1 8 (upd (F 8) (Int32.toNatClampNeg iw) (n_1 23))) 13 = (F 13) from (hx1.2.2.1 13 (by decide))]
              have x14 : ((va_up F_1 8 (upd (F 8) (Int32.toNatClampNeg iw) (n_1 23))) 14 (40 * f + W)).toInt = ((F 14) (40 * f + W)).toInt := by rw [show (va_up F_1 8 (upd (F 8) (Int32.toNatClampNeg iw) (n_1 23))) 14 = (F 14) from (hx1.2.2.1 14 (by decide))]
              have x15 : ((va_up F_1 8 (upd (F 8) (Int32.toNatClampNeg iw) (n_1 23))) 15 (40 * f + W)).toInt = ((F 15) (40 * f + W)).toInt := by rw [show (va_up F_1 8 (upd (F 8) (Int32.toNatClampNeg iw) (n_1 23))) 15 = (F 15) from (hx1.2.2.1 15 (by decide))]
              have h8n : ∀ i, i ≠ (40 * f + W) → (va_up F_1 8 (upd (F 8) (Int32.toNatClampNeg iw) (n_1 23))) 8 i = F0 8 i := fun i hi => by rw [show (va_up F_1 8 (upd (F 8) (Int32.toNatClampNeg iw) (n_1 23))) 8 = (upd (F 8) (Int32.toNatClampNeg iw) (n_1 23)) from rfl, updE, if_neg (by rw [eci]; exact hi)]; exact h8o i hi
              have h16n : ∀ i, i ≠ (40 * f + W) → (va_up F_1 8 (upd (F 8) (Int32.toNatClampNeg iw) (n_1 23))) 16 i = F0 16 i := fun i hi => by rw [show (va_up F_1 8 (upd (F 8) (Int32.toNatClampNeg iw) (n_1 23))) 16 = (F 16) from (hx1.2.2.1 16 (by decide))]; exact h16o i hi
              have l3n : lo3 F0 (va_up F_1 8 (upd (F 8) (Int32.toNatClampNeg iw) (n_1 23))) f := lo3_tr hlo (lo3_eq (hx1.2.2.1 18 (by decide)) (hx1.2.2.1 19 (by decide)) (hx1.2.2.1 20 (by decide)))
              have hFF : hdF F0 (va_up F_1 8 (upd (F 8) (Int32.toNatClampNeg iw) (n_1 23))) f W K (F0 17 f).toInt.toNat V1 BG := by
                have z := hdS_nu (F2 := (va_up F_1 8 (upd (F 8) (Int32.toNatClampNeg iw) (n_1 23)))) hF.2 hK5 (by rw [show (va_up F_1 8 (upd (F 8) (Int32.toNatClampNeg iw) (n_1 23))) 8 = (upd (F 8) (Int32.toNatClampNeg iw) (n_1 23)) from rfl, ← eci, updE, if_pos rfl]; exact hN) ⟨(hx1.2.2.1 18 (by decide)), (hx1.2.2.1 19 (by decide)), (hx1.2.2.1 20 (by decide))⟩
                rw [← hF.1]; exact z
              refine gz_sub (lv' := [(0, .ref m), (4, .int kd), (7, .int iw)]) (by simp [List.lookup]) ?_
              exact l_X12_beginsCB2 (K := K) (Q := rhn) (V1 := V1) (BG := BG) h5 hJ hB0 hwi hkd hBG ⟨fun z => absurd z (by omega), fun _ => (by rw [hE.2 (by omega), hH, hn])⟩ 1 _ _ _ _ _ hS_2 (fx_F (fx_tr hx hx1 (by decide)) (by decide)) (by (try rw [(show n_1 21 = (n_1 21) from rfl)]); (try rw [(show n_1 4 = (n0 4) from ((hx1.1 4 (by decide)).trans (hx.1 4 (by decide))))]); omega) (by (try rw [(show n_1 21 = (n_1 21) from rfl)]); omega) hA8 hb8 x7 (by omega) (by omega) (by (try rw [(show n_1 22 = (n_1 22) from rfl)]); omega) (by (try rw [(show n_1 21 = (n_1 21) from rfl)]); omega) (by omega) h8n h16n l3n ⟨fun z => absurd z (by omega), fun _ => hFF⟩ (by omega) (by decide)
            · exact absurd c_318 (by decide)
        ·
          try simp only [mIn_0, lgc_lt, lgc_gt, lgc_le, lgc_ge, lgc_eq] at c_304
          try simp only [fl_lt, fl_le, fl_eq, fL_w, fL_lt, fL_le, tm1, tm10k, tm9, tm99, Int32.reduceToInt, Int64.reduceToInt, Int.not_lt, Int.not_le] at c_304
          refine gz_iload dX12_begins_307 rfl ?_
          refine gz_bipush (v := 10) dX12_begins_309 (by decide) ?_
          refine gz_icmp_ne (tgt := 334) dX12_begins_311 (by decide) (fun c_311 => ?_) (fun c_311 => ?_)
          ·
            try simp only [mIn_0, lgc_lt, lgc_gt, lgc_le, lgc_ge, lgc_eq] at c_311
            try simp only [fl_lt, fl_le, fl_eq, fL_w, fL_lt, fL_le, tm1, tm10k, tm9, tm99, Int32.reduceToInt, Int64.reduceToInt, Int.not_lt, Int.not_le] at c_311
            have sm_hb8 : ∀ r, r ∈ [6, 7, 9, 10, 11, 12] → F r = F r := by
              intro r hr
              simp only [List.mem_cons, List.not_mem_nil, or_false] at hr
              rcases hr with rfl | rfl | rfl | rfl | rfl | rfl
              · exact rfl
              · exact rfl
              · exact rfl
              · exact rfl
              · exact rfl
              · exact rfl
            have hb8 := hb
            have hA8 : rAll F := by
              intro q hq
              obtain ⟨qa0, qb0, qc0, qd0⟩ := hA q hq
              rw [show F 13 = (F 13) from rfl, show F 14 = (F 14) from rfl, show F 15 = (F 15) from rfl, show F 19 = (F 19) from rfl]
              refine ⟨?_, ?_, ?_, ?_⟩ <;> (try simp only [updE]) <;> (repeat' split) <;> first | omega | decide
            have x7 : (F 7 (40 * f + W)).toInt = kd.toInt := by rw [show F 7 = (F 7) from rfl]; exact h7
            have x17 : (F 17 (Int32.toNatClampNeg (n0 5))).toInt = ((F 17) (Int32.toNatClampNeg (n0 5))).toInt := by rw [show F 17 = (F 17) from rfl]
            have x13 : (F 13 (40 * f + W)).toInt = ((F 13) (40 * f + W)).toInt := by rw [show F 13 = (F 13) from rfl]
            have x14 : (F 14 (40 * f + W)).toInt = ((F 14) (40 * f + W)).toInt := by rw [show F 14 = (F 14) from rfl]
            have x15 : (F 15 (40 * f + W)).toInt = ((F 15) (40 * f + W)).toInt := by rw [show F 15 = (F 15) from rfl]
            have h8n : ∀ i, i ≠ (40 * f + W) → F 8 i = F0 8 i := fun i hi => by rw [show F 8 = (F 8) from rfl]; exact h8o i hi
            have h16n : ∀ i, i ≠ (40 * f + W) → F 16 i = F0 16 i := fun i hi => by rw [show F 16 = (F 16) from rfl]; exact h16o i hi
            have l3n : lo3 F0 F f := lo3_tr hlo (lo3_eq rfl rfl rfl)
            refine gz_sub (lv' := [(0, .ref m), (4, .int kd), (7, .int iw)]) (by simp [List.lookup]) ?_
            exact l_X12_beginsCB2 (K := K) (Q := Q) (V1 := V1) (BG := BG) h5 hJ hB0 hwi hkd hBG ⟨fun z => hE.2 (by omega), fun z => (by rw [hE.2 (by omega)]; unfold hdR; rw [if_neg (by omega), if_neg (by omega), if_neg (by omega)])⟩ 1 _ _ _ _ _ hS hx (by (try rw [(show n 4 = (n0 4) from (hx.1 4 (by decide)))]); omega) (by omega) hA8 hb8 x7 (by omega) (by omega) (by omega) (by omega) (by omega) h8n h16n l3n ⟨fun z => ⟨hF.1, hF.2⟩, fun z => (by have y := hdS_no hF.2 (by omega) (by omega); rw [← hF.1]; exact y)⟩ (by omega) (by decide)
          ·
            try simp only [mIn_0, lgc_lt, lgc_gt, lgc_le, lgc_ge, lgc_eq] at c_311
            try simp only [fl_lt, fl_le, fl_eq, fL_w, fL_lt, fL_le, tm1, tm10k, tm9, tm99, Int32.reduceToInt, Int64.reduceToInt, Int.not_lt, Int.not_le] at c_311
            refine gz_aload_n dX12_begins_314 rfl rfl ?_
            refine scX12_303 (k_X12_readsC hS (by (try rw [(show n 4 = (n0 4) from (hx.1 4 (by decide)))]); omega) (rB_cg (hx.2.2.1 3 (by decide)) hB0) (by omega)) hS.1 ⟨(Nat.le_of_ble_eq_true rfl), (Nat.le_of_ble_eq_true rfl)⟩ ⟨(Nat.le_of_ble_eq_true rfl), (Nat.le_of_ble_eq_true rfl)⟩ rfl rfl (Nat.le_of_ble_eq_true rfl) dX12_begins_315 ?_
            rintro r_3 f_3 ⟨n_3, z_3, F_3, G_3, hS_3, hx3, hb_3, hT_3, hm_3, hE_3, hN_3⟩
            try simp only [(show n_3 4 = (n0 4) from ((hx3.1 4 (by decide)).trans (hx.1 4 (by decide))))] at hb_3 hT_3 hm_3 hE_3 hN_3
            try simp only [(show F_3 3 = (F0 3) from ((hx3.2.2.1 3 (by decide)).trans (hx.2.2.1 3 (by decide))))] at hb_3 hT_3 hm_3 hE_3 hN_3
            try simp only [(show n 4 = (n0 4) from (hx.1 4 (by decide)))] at hb_3 hT_3 hm_3 hE_3 hN_3
            try simp only [(show F 3 = (F0 3) from (hx.2.2.1 3 (by decide)))] at hb_3 hT_3 hm_3 hE_3 hN_3
            rw [show (n 21).toInt.toNat = Q by omega] at hE_3 hN_3
            have hK5 : K = 5 ∨ K = 10 := by omega
            have hH : hdR (tX (F0 3) (n0 4)) K Q V1 = (match nuR (tX (F0 3) (n0 4)) (skR (tX (F0 3) (n0 4)) Q) with | .inl c => .inl c | .inr q => .inr (q, V1)) := by unfold hdR; rw [if_pos hK5]; rfl
            cases hn : nuR (tX (F0 3) (n0 4)) (skR (tX (F0 3) (n0 4)) Q) with
            | inl chn =>
              rw [hn] at hE_3
              obtain ⟨a1hn, a2hn⟩ := hE_3
              refine gz_ev (w := .int 0) (congrArg Value.int a1hn) ?_
              refine gz_if_ne (tgt := 323) dX12_begins_318 (by decide) (fun c_318 => ?_) (fun c_318 => ?_)
              · exact absurd c_318 (by decide)
              ·
                try simp only [mIn_0, lgc_lt, lgc_gt, lgc_le, lgc_ge, lgc_eq] at c_318
                try simp only [fl_lt, fl_le, fl_eq, fL_w, fL_lt, fL_le, tm1, tm10k, tm9, tm99, Int32.reduceToInt, Int64.reduceToInt, Int.not_lt, Int.not_le] at c_318
                refine gz_iconst (v := 0) dX12_begins_321 (by decide) ?_
                have h8n : ∀ i, i ≠ (40 * f + W) → F_3 8 i = F0 8 i := fun i hi => by rw [show F_3 8 = (F 8) from (hx3.2.2.1 8 (by decide))]; exact h8o i hi
                have h16n : ∀ i, i ≠ (40 * f + W) → F_3 16 i = F0 16 i := fun i hi => by rw [show F_3 16 = (F 16) from (hx3.2.2.1 16 (by decide))]; exact h16o i hi
                have l3n : lo3 F0 F_3 f := lo3_tr hlo (lo3_eq (hx3.2.2.1 18 (by decide)) (hx3.2.2.1 19 (by decide)) (hx3.2.2.1 20 (by decide)))
                have sm_hb9 : ∀ r, r ∈ [6, 7, 9, 10, 11, 12] → F_3 r = F r := by
                  intro r hr
                  simp only [List.mem_cons, List.not_mem_nil, or_false] at hr
                  rcases hr with rfl | rfl | rfl | rfl | rfl | rfl
                  · exact (hx3.2.2.1 6 (by decide))
                  · exact (hx3.2.2.1 7 (by decide))
                  · exact (hx3.2.2.1 9 (by decide))
                  · exact (hx3.2.2.1 10 (by decide))
                  · exact (hx3.2.2.1 11 (by decide))
                  · exact (hx3.2.2.1 12 (by decide))
                have of_hb9 : ∀ r, r ∈ [13, 14, 15] → ∀ i, i ≠ (40 * f + W) → F_3 r i = F r i := by
                  intro r hr i hi
                  rw [← eci] at hi
                  simp only [List.mem_cons, List.not_mem_nil, or_false] at hr
                  rcases hr with rfl | rfl | rfl
                  · rw [show F_3 13 = (F 13) from (hx3.2.2.1 13 (by decide))]
                  · rw [show F_3 14 = (F 14) from (hx3.2.2.1 14 (by decide))]
                  · rw [show F_3 15 = (F 15) from (hx3.2.2.1 15 (by decide))]
                have hb9 : RDb F0 F_3 f W O := RDb_keep hb sm_hb9 of_hb9
                have hA9 : rAll F_3 := by
                  intro q hq
                  obtain ⟨qa0, qb0, qc0, qd0⟩ := hA q hq
                  rw [show F_3 13 = (F 13) from (hx3.2.2.1 13 (by decide)), show F_3 14 = (F 14) from (hx3.2.2.1 14 (by decide)), show F_3 15 = (F 15) from (hx3.2.2.1 15 (by decide)), show F_3 19 = (F 19) from (hx3.2.2.1 19 (by decide))]
                  refine ⟨?_, ?_, ?_, ?_⟩ <;> (try simp only [updE]) <;> (repeat' split) <;> first | omega | decide
                exact gz_zret rfl (by first | decide | exact nrb (Or.inl (by assumption)) | exact nrb (by assumption) | (refine nrb ?_; assumption)) dX12_begins_322 (Nat.le_of_ble_eq_true rfl) (Nat.le_of_ble_eq_true rfl) (⟨_, rfl, _, _, _, _, hS_3, (fx_tr (fx_tr fx_rf hx (by decide)) hx3 (by decide)), (by first | exact Or.inl rfl | exact Or.inr rfl | assumption | (left; assumption)), (by (try rw [(show n_3 21 = (n_3 21) from rfl)]); (try rw [(show n_3 4 = (n0 4) from ((hx3.1 4 (by decide)).trans (hx.1 4 (by decide))))]); omega), (by (try rw [(show n_3 21 = (n_3 21) from rfl)]); omega), hA9, hb9.2.1, (fun h => absurd h (by decide)), (by rw [hE.2 (by omega), hH, hn]; exact ⟨rfl, a2hn⟩), (fun ii _ => by rw [show F_3 25 = F 25 from (hx3.2.2.1 25 (by decide))]; exact congrFun (hx.2.2.1 25 (by decide)) ii), (fun z => absurd z (by decide)), l3n, (fun i hi => ⟨h8n i (by omega), h16n i (by omega)⟩), (fun _ _ z => absurd z (by decide))⟩)
            | inr rhn =>
              rw [hn] at hE_3
              obtain ⟨a1hn, a2hn, a3hn⟩ := hE_3
              have hN := hN_3 a1hn
              refine gz_ev (w := .int 1) (congrArg Value.int a1hn) ?_
              refine gz_if_ne (tgt := 323) dX12_begins_318 (by decide) (fun c_318 => ?_) (fun c_318 => ?_)
              ·
                try simp only [mIn_0, lgc_lt, lgc_gt, lgc_le, lgc_ge, lgc_eq] at c_318
                try simp only [fl_lt, fl_le, fl_eq, fL_w, fL_lt, fL_le, tm1, tm10k, tm9, tm99, Int32.reduceToInt, Int64.reduceToInt, Int.not_lt, Int.not_le] at c_318
                refine gz_aload_n dX12_begins_323 rfl rfl ?_
                refine mg_23 hS_3 dX12_begins_324 ?_
                refine gz_iload dX12_begins_327 rfl ?_
                refine gz_aload_n dX12_begins_329 rfl rfl ?_
                refine mg_287 hS_3 dX12_begins_330 ?_
                refine gz_ev (w := .int (n_3 23)) rfl ?_
                refine m_iast 8 hS_3 rfl (N := 880) rfl ((by exact vin_T (rfl : iw.toInt = iw.toInt) (by omega) (by omega))) dX12_begins_333 (fun f_4 hS_4q => ?_)
                have hS_4 : mS cy m a f0 n_3 z_3 (va_up F_3 8 (upd (F 8) (Int32.toNatClampNeg iw) (n_3 23))) G_3 f_4 := (by have e9 := (show F_3 8 = (F 8) from (hx3.2.2.1 8 (by decide))); rw [e9] at hS_4q; exact hS_4q)
                have sm_hb8 : ∀ r, r ∈ [6, 7, 9, 10, 11, 12] → (va_up F_3 8 (upd (F 8) (Int32.toNatClampNeg iw) (n_3 23))) r = F r := by
                  intro r hr
                  simp only [List.mem_cons, List.not_mem_nil, or_false] at hr
                  rcases hr with rfl | rfl | rfl | rfl | rfl | rfl
                  · exact (hx3.2.2.1 6 (by decide))
                  · exact (hx3.2.2.1 7 (by decide))
                  · exact (hx3.2.2.1 9 (by decide))
                  · exact (hx3.2.2.1 10 (by decide))
                  · exact (hx3.2.2.1 11 (by decide))
                  · exact (hx3.2.2.1 12 (by decide))
                have of_hb8 : ∀ r, r ∈ [13, 14, 15] → ∀ i, i ≠ (40 * f + W) → (va_up F_3 8 (upd (F 8) (Int32.toNatClampNeg iw) (n_3 23))) r i = F r i := by
                  intro r hr i hi
                  rw [← eci] at hi
                  simp only [List.mem_cons, List.not_mem_nil, or_false] at hr
                  rcases hr with rfl | rfl | rfl
                  · rw [show (va_up F_3 8 (upd (F 8) (Int32.toNatClampNeg iw) (n_3 23))) 13 = (F 13) from (hx3.2.2.1 13 (by decide))]
                  · rw [show (va_up F_3 8 (upd (F 8) (Int32.toNatClampNeg iw) (n_3 23))) 14 = (F 14) from (hx3.2.2.1 14 (by decide))]
                  · rw [show (va_up F_3 8 (upd (F 8) (Int32.toNatClampNeg iw) (n_3 23))) 15 = (F 15) from (hx3.2.2.1 15 (by decide))]
                have hb8 : RDb F0 (va_up F_3 8 (upd (F 8) (Int32.toNatClampNeg iw) (n_3 23))) f W O := RDb_keep hb sm_hb8 of_hb8
                have hA8 : rAll (va_up F_3 8 (upd (F 8) (Int32.toNatClampNeg iw) (n_3 23))) := by
                  intro q hq
                  obtain ⟨qa0, qb0, qc0, qd0⟩ := hA q hq
                  rw [show (va_up F_3 8 (upd (F 8) (Int32.toNatClampNeg iw) (n_3 23))) 13 = (F 13) from (hx3.2.2.1 13 (by decide)), show (va_up F_3 8 (upd (F 8) (Int32.toNatClampNeg iw) (n_3 23))) 14 = (F 14) from (hx3.2.2.1 14 (by decide)), show (va_up F_3 8 (upd (F 8) (Int32.toNatClampNeg iw) (n_3 23))) 15 = (F 15) from (hx3.2.2.1 15 (by decide)), show (va_up F_3 8 (upd (F 8) (Int32.toNatClampNeg iw) (n_3 23))) 19 = (F 19) from (hx3.2.2.1 19 (by decide))]
                  refine ⟨?_, ?_, ?_, ?_⟩ <;> (try simp only [updE]) <;> (repeat' split) <;> first | omega | decide
                have x7 : ((va_up F_3 8 (upd (F 8) (Int32.toNatClampNeg iw) (n_3 23))) 7 (40 * f + W)).toInt = kd.toInt := by rw [show (va_up F_3 8 (upd (F 8) (Int32.toNatClampNeg iw) (n_3 23))) 7 = (F 7) from (hx3.2.2.1 7 (by decide))]; exact h7
                have x17 : ((va_up F_3 8 (upd (F 8) (Int32.toNatClampNeg iw) (n_3 23))) 17 (Int32.toNatClampNeg (n0 5))).toInt = ((F 17) (Int32.toNatClampNeg (n0 5))).toInt := by rw [show (va_up F_3 8 (upd (F 8) (Int32.toNatClampNeg iw) (n_3 23))) 17 = (F 17) from (hx3.2.2.1 17 (by decide))]
                have x13 : ((va_up F_3 8 (upd (F 8) (Int32.toNatClampNeg iw) (n_3 23))) 13 (40 * f + W)).toInt = ((F 13) (40 * f + W)).toInt := by rw [show (va_up F_3 8 (upd (F 8) (Int32.toNatClampNeg iw) (n_3 23))) 13 = (F 13) from (hx3.2.2.1 13 (by decide))]
                have x14 : ((va_up F_3 8 (upd (F 8) (Int32.toNatClampNeg iw) (n_3 23))) 14 (40 * f + W)).toInt = ((F 14) (40 * f + W)).toInt := by rw [show (va_up F_3 8 (upd (F 8) (Int32.toNatClampNeg iw) (n_3 23))) 14 = (F 14) from (hx3.2.2.1 14 (by decide))]
                have x15 : ((va_up F_3 8 (upd (F 8) (Int32.toNatClampNeg iw) (n_3 23))) 15 (40 * f + W)).toInt = ((F 15) (40 * f + W)).toInt := by rw [show (va_up F_3 8 (upd (F 8) (Int32.toNatClampNeg iw) (n_3 23))) 15 = (F 15) from (hx3.2.2.1 15 (by decide))]
                have h8n : ∀ i, i ≠ (40 * f + W) → (va_up F_3 8 (upd (F 8) (Int32.toNatClampNeg iw) (n_3 23))) 8 i = F0 8 i := fun i hi => by rw [show (va_up F_3 8 (upd (F 8) (Int32.toNatClampNeg iw) (n_3 23))) 8 = (upd (F 8) (Int32.toNatClampNeg iw) (n_3 23)) from rfl, updE, if_neg (by rw [eci]; exact hi)]; exact h8o i hi
                have h16n : ∀ i, i ≠ (40 * f + W) → (va_up F_3 8 (upd (F 8) (Int32.toNatClampNeg iw) (n_3 23))) 16 i = F0 16 i := fun i hi => by rw [show (va_up F_3 8 (upd (F 8) (Int32.toNatClampNeg iw) (n_3 23))) 16 = (F 16) from (hx3.2.2.1 16 (by decide))]; exact h16o i hi
                have l3n : lo3 F0 (va_up F_3 8 (upd (F 8) (Int32.toNatClampNeg iw) (n_3 23))) f := lo3_tr hlo (lo3_eq (hx3.2.2.1 18 (by decide)) (hx3.2.2.1 19 (by decide)) (hx3.2.2.1 20 (by decide)))
                have hFF : hdF F0 (va_up F_3 8 (upd (F 8) (Int32.toNatClampNeg iw) (n_3 23))) f W K (F0 17 f).toInt.toNat V1 BG := by
                  have z := hdS_nu (F2 := (va_up F_3 8 (upd (F 8) (Int32.toNatClampNeg iw) (n_3 23)))) hF.2 hK5 (by rw [show (va_up F_3 8 (upd (F 8) (Int32.toNatClampNeg iw) (n_3 23))) 8 = (upd (F 8) (Int32.toNatClampNeg iw) (n_3 23)) from rfl, ← eci, updE, if_pos rfl]; exact hN) ⟨(hx3.2.2.1 18 (by decide)), (hx3.2.2.1 19 (by decide)), (hx3.2.2.1 20 (by decide))⟩
                  rw [← hF.1]; exact z
                refine gz_sub (lv' := [(0, .ref m), (4, .int kd), (7, .int iw)]) (by simp [List.lookup]) ?_
                exact l_X12_beginsCB2 (K := K) (Q := rhn) (V1 := V1) (BG := BG) h5 hJ hB0 hwi hkd hBG ⟨fun z => absurd z (by omega), fun _ => (by rw [hE.2 (by omega), hH, hn])⟩ 1 _ _ _ _ _ hS_4 (fx_F (fx_tr hx hx3 (by decide)) (by decide)) (by (try rw [(show n_3 21 = (n_3 21) from rfl)]); (try rw [(show n_3 4 = (n0 4) from ((hx3.1 4 (by decide)).trans (hx.1 4 (by decide))))]); omega) (by (try rw [(show n_3 21 = (n_3 21) from rfl)]); omega) hA8 hb8 x7 (by omega) (by omega) (by (try rw [(show n_3 22 = (n_3 22) from rfl)]); omega) (by (try rw [(show n_3 21 = (n_3 21) from rfl)]); omega) (by omega) h8n h16n l3n ⟨fun z => absurd z (by omega), fun _ => hFF⟩ (by omega) (by decide)
              · exact absurd c_318 (by decide)
      ·
        try simp only [mIn_0, lgc_lt, lgc_gt, lgc_le, lgc_ge, lgc_eq] at c_296
        try simp only [fl_lt, fl_le, fl_eq, fL_w, fL_lt, fL_le, tm1, tm10k, tm9, tm99, Int32.reduceToInt, Int64.reduceToInt, Int.not_lt, Int.not_le] at c_296
        refine gz_iconst (v := 1) dX12_begins_299 (by decide) ?_
        have sm_hb9 : ∀ r, r ∈ [6, 7, 9, 10, 11, 12] → F r = F r := by
          intro r hr
          simp only [List.mem_cons, List.not_mem_nil, or_false] at hr
          rcases hr with rfl | rfl | rfl | rfl | rfl | rfl
          · exact rfl
          · exact rfl
          · exact rfl
          · exact rfl
          · exact rfl
          · exact rfl
        have hb9 := hb
        have hA9 : rAll F := by
          intro q hq
          obtain ⟨qa0, qb0, qc0, qd0⟩ := hA q hq
          rw [show F 13 = (F 13) from rfl, show F 14 = (F 14) from rfl, show F 15 = (F 15) from rfl, show F 19 = (F 19) from rfl]
          refine ⟨?_, ?_, ?_, ?_⟩ <;> (try simp only [updE]) <;> (repeat' split) <;> first | omega | decide
        have w7 : F 7 (40 * f + W) = F 7 (40 * f + W) := by rw [show F 7 = (F 7) from rfl]
        have w13 : F 13 (40 * f + W) = F 13 (40 * f + W) := by rw [show F 13 = (F 13) from rfl]
        have w14 : F 14 (40 * f + W) = F 14 (40 * f + W) := by rw [show F 14 = (F 14) from rfl]
        have w15 : F 15 (40 * f + W) = F 15 (40 * f + W) := by rw [show F 15 = (F 15) from rfl]
        have w17 : (F 17 f).toInt = (F 17 (Int32.toNatClampNeg (n0 5))).toInt := by rw [show F 17 = (F 17) from rfl, ecf]
        have hvs : (vsF F f 0 (W + 1) : Int) ≤ (F 17 f).toInt ∧ (F 17 f).toInt ≤ 40 := by rw [RD_vs hb9, w17]; unfold owK; rw [w13, w15]; omega
        have h25 : ∀ r, r ∈ [25, 26] → ∀ i, i < O → F r i = F0 r i := by
          intro r hr i hi
          simp only [List.mem_cons, List.not_mem_nil, or_false] at hr
          rcases hr with rfl | rfl
          · rw [show F 25 = (F 25) from rfl]; exact congrFun (hx.2.2.1 25 (by decide)) _
          · rw [show F 26 = (F 26) from rfl]; exact congrFun (hx.2.2.1 26 (by decide)) _
        have hFr : ∀ r, r ∈ [8, 13, 14, 15, 16] → F r (40 * f + W) = F r (40 * f + W) := by
          intro r hr
          simp only [List.mem_cons, List.not_mem_nil, or_false] at hr
          rcases hr with rfl | rfl | rfl | rfl | rfl
          · rw [show F 8 = (F 8) from rfl]
          · rw [show F 13 = (F 13) from rfl]
          · rw [show F 14 = (F 14) from rfl]
          · rw [show F 15 = (F 15) from rfl]
          · rw [show F 16 = (F 16) from rfl]
        have hFn : hdF F0 F f W K (F0 17 f).toInt.toNat V1 BG := hdF_cg (by have z := hdS_no hF.2 (by omega) (by omega); rw [← hF.1]; exact z) hFr ⟨rfl, rfl, rfl⟩
        have hJ9 : RDJ F0 n F f (W + 1) O false := ⟨⟨by have z := hb9.1; omega, by omega⟩, by rw [(show n 24 = (n0 24) from (hx.1 24 (by decide)))]; exact g24, RD_leaf gR hb9 h25 (by rw [w7]; omega) (by rw [w13, w14, w15]; exact hvz.1), hvs, hA9, hb9.2.1⟩
        have h8n : ∀ i, i ≠ (40 * f + W) → F 8 i = F0 8 i := fun i hi => by rw [show F 8 = (F 8) from rfl]; exact h8o i hi
        have h16n : ∀ i, i ≠ (40 * f + W) → F 16 i = F0 16 i := fun i hi => by rw [show F 16 = (F 16) from rfl]; exact h16o i hi
        have l3n : lo3 F0 F f := lo3_tr hlo (lo3_eq rfl rfl rfl)
        exact gz_zret rfl (by first | decide | exact nrb (Or.inl (by assumption)) | exact nrb (by assumption) | (refine nrb ?_; assumption)) dX12_begins_300 (Nat.le_of_ble_eq_true rfl) (Nat.le_of_ble_eq_true rfl) (⟨_, rfl, _, _, _, _, hS, (fx_tr fx_rf hx (by decide)), (by first | exact Or.inl rfl | exact Or.inr rfl | assumption | (left; assumption)), (by (try rw [(show n 4 = (n0 4) from (hx.1 4 (by decide)))]); omega), (by omega), hA9, hb9.2.1, (fun _ => Or.inl hJ9), (by rw [hE.1 (by omega)]; exact ⟨rfl, (by omega), (by omega), (w17.trans h17), (fun ii hi => h25 26 (by decide) ii hi), fun _ => (hx.1 24 (by decide)), fun z => absurd (show K ≤ 1 by omega) z⟩), (fun ii hi => h25 25 (by decide) ii hi), (fun _ z => by exfalso; rw [(show n 24 = (n0 24) from (hx.1 24 (by decide)))] at z; omega), l3n, (fun i hi => ⟨h8n i (by omega), h16n i (by omega)⟩), (fun co hco _ => by rw [show (F 17 f).toInt.toNat = V1 by have z := (w17.trans h17); omega]; exact LRw_begin hb9 (RD_st gR) (by rw [w7, h7]; exact hkd.1) h8n h16n hBG hFn hco)⟩)
