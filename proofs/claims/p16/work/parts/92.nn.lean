theorem RDJ_cg {F0 : Nat → Nat → Int32} {n n2 : Nat → Int32} {F F2 : Nat → Nat → Int32} {f W O : Nat} {b : Bool} (h : ∀ r, r ∈ [6, 7, 9, 10, 11, 12, 13, 14, 15, 17, 19, 25, 26] → F2 r = F r) (h24 : n2 24 = n 24) (q : RDJ F0 n F f W O b) : RDJ F0 n2 F2 f W O b := by
  obtain ⟨g6, g24, gR, gv, gA, gg⟩ := q
  refine ⟨by rw [h 6 (by decide)]; exact g6, by rw [h24]; exact g24, RD_n25 (fun r hr => h r (by simp only [List.mem_cons, List.not_mem_nil, or_false] at hr ⊢; omega)) gR, by rw [h 17 (by decide), vsF_cg (h 13 (by decide)) (h 15 (by decide))]; exact gv, fun q hq => by rw [h 13 (by decide), h 14 (by decide), h 15 (by decide), h 19 (by decide)]; exact gA q hq, fun g hg => agF_tr (gg g hg) ⟨congrFun (h 6 (by decide)) _, fun r hr k _ => congrFun (h r (by simp only [List.mem_cons, List.not_mem_nil, or_false] at hr ⊢; omega)) _⟩⟩
theorem RDJ_next {F0 : Nat → Nat → Int32} {n n2 : Nat → Int32} {F F2 : Nat → Nat → Int32} {f W i0 : Nat} (h : ∀ r, r ∈ [6, 7, 9, 10, 11, 12, 13, 14, 15, 17, 19, 25] → F2 r = F r) (h26 : ∀ i, i ≠ i0 → F2 26 i = F 26 i) (e1 : (F 26 i0).toInt = 1) (e2 : (F2 26 i0).toInt = 2) (h24 : n2 24 = n 24) (q : RDJ F0 n F f W (i0 + 1) false) : RDJ F0 n2 F2 f W (i0 + 1) true := by
  obtain ⟨g6, g24, gR, gv, gA, gg⟩ := q
  refine ⟨by rw [h 6 (by decide)]; exact g6, by rw [h24]; exact g24, RD_next (fun r hr => h r (by simp only [List.mem_cons, List.not_mem_nil, or_false] at hr ⊢; omega)) (h 25 (by decide)) h26 e1 e2 gR, by rw [h 17 (by decide), vsF_cg (h 13 (by decide)) (h 15 (by decide))]; exact gv, fun q hq => by rw [h 13 (by decide), h 14 (by decide), h 15 (by decide), h 19 (by decide)]; exact gA q hq, fun g hg => agF_tr (gg g hg) ⟨congrFun (h 6 (by decide)) _, fun r hr k _ => congrFun (h r (by simp only [List.mem_cons, List.not_mem_nil, or_false] at hr ⊢; omega)) _⟩⟩
theorem RDJ_pop {F0 : Nat → Nat → Int32} {n n2 : Nat → Int32} {F : Nat → Nat → Int32} {f W i0 : Nat} (e1 : (F 26 i0).toInt ≠ 1) (h24 : (n2 24).toInt = (i0 : Int)) (q : RDJ F0 n F f W (i0 + 1) false) : RDJ F0 n2 F f W i0 false := by
  obtain ⟨g6, g24, gR, gv, gA, gg⟩ := q
  exact ⟨g6, h24, RD_pop e1 gR, gv, gA, gg⟩
theorem RDJ_tr {F0 F1 : Nat → Nat → Int32} {n : Nat → Int32} {F : Nat → Nat → Int32} {f W O : Nat} {b : Bool} (h : ∀ g, g < f → agF F0 F1 g) (q : RDJ F1 n F f W O b) : RDJ F0 n F f W O b := by
  obtain ⟨g6, g24, gR, gv, gA, gg⟩ := q
  exact ⟨g6, g24, gR, gv, gA, fun g hg => agF_tr (h g hg) (gg g hg)⟩
theorem RDJ_rf {F0 : Nat → Nat → Int32} {n : Nat → Int32} {F : Nat → Nat → Int32} {f W O : Nat} {b : Bool} (q : RDJ F0 n F f W O b) : RDJ F n F f W O b := by
  obtain ⟨g6, g24, gR, gv, gA, gg⟩ := q
  exact ⟨g6, g24, gR, gv, gA, fun g _ => ⟨rfl, fun _ _ _ _ => rfl⟩⟩
set_option maxHeartbeats 4000000 in
set_option maxRecDepth 100000 in
theorem l_X12_ended {l : Launch} {D : va_G} {cy : Nat → ClassId} {b : Nat} {m : Nat} {a : Nat → Nat} {f0 : gMem} {n0 : Nat → Int32} {z0 : Nat → Int64} {F0 : Nat → Nat → Int32} {G0 : Nat → Nat → Int64}  {ff W : Nat}  : ∀ (k : Nat) (O : Nat) (n : Nat → Int32) (z : Nat → Int64) (F : Nat → Nat → Int32) (G : Nat → Nat → Int64) (fm : gMem), mS cy m a f0 n z F G fm → fx [21, 22, 24] [] [26] [] n0 z0 F0 G0 n z F G → ((0 ≤ (n 21).toInt ∧ (n 21).toInt ≤ (n 4).toInt ∧ (n 4).toInt ≤ 400)) → ((n0 21).toInt ≤ (n 21).toInt) → (RDJ F0 n F ff W O false) → (O < k) → gG l (gRm 2 0 0) (gQf D b (pI fun r f2 => ∃ (n2 : Nat → Int32) (z2 : Nat → Int64) (F2 : Nat → Nat → Int32) (G2 : Nat → Nat → Int64), mS cy m a f0 n2 z2 F2 G2 f2 ∧ fx [21, 22, 24] [] [26] [] n0 z0 F0 G0 n2 z2 F2 G2 ∧ (r = 0 ∨ r = 1) ∧ (0 ≤ (n2 21).toInt ∧ (n2 21).toInt ≤ (n2 4).toInt ∧ (n2 4).toInt ≤ 400) ∧ (n0 21).toInt ≤ (n2 21).toInt ∧ ∃ (O2 : Nat) (q2 : Bool), RDJ F0 n2 F2 ff W O2 q2 ∧ (r = 1 → q2 = false → O2 = 0)) 0 0) gTt D cy b cX12_ended 2 (some .boolean) RX12 "ended" 0 0 fm 0 [(0, .ref m)] [] := by
  intro k
  induction k with
  | zero =>
    intro O n z F G fm hS hx hT hm hJ hk
    exfalso; omega
  | succ k ih =>
    intro O n z F G fm hS hx hT hm hJ hk
    obtain ⟨g6, g24, gR, gv, gA, gg⟩ := id hJ
    have gO := RD_O gR
    have e4 : n 4 = n0 4 := hx.1 4 (by decide)
    rw [e4] at hT
    refine gz_aload_n dX12_ended_0 rfl rfl ?_
    refine mg_319 hS dX12_ended_1 ?_
    refine gz_if_le (tgt := 72) dX12_ended_4 (by decide) (fun c_4 => ?_) (fun c_4 => ?_)
    ·
      try simp only [mIn_0, lgc_lt, lgc_gt, lgc_le, lgc_ge, lgc_eq] at c_4
      try simp only [fl_lt, fl_le, fl_eq, fL_w, fL_lt, fL_le, tm1, tm10k, tm9, tm99, Int32.reduceToInt, Int64.reduceToInt, Int.not_lt, Int.not_le] at c_4
      refine gz_iconst (v := 1) dX12_ended_72 (by decide) ?_
      have eO : O = 0 := by omega
      exact gz_zret rfl (by first | decide | exact nrb (Or.inl (by assumption)) | exact nrb (by assumption)) dX12_ended_73 (Nat.le_of_ble_eq_true rfl) (Nat.le_of_ble_eq_true rfl) (⟨_, rfl, _, _, _, _, hS, hx, (by first | exact Or.inl rfl | exact Or.inr rfl | assumption | (left; assumption)), (by (try rw [(show n 4 = (n0 4) from (hx.1 4 (by decide)))]); omega), (by omega), ⟨O, false, hJ, fun _ _ => eO⟩⟩)
    ·
      try simp only [mIn_0, lgc_lt, lgc_gt, lgc_le, lgc_ge, lgc_eq] at c_4
      try simp only [fl_lt, fl_le, fl_eq, fL_w, fL_lt, fL_le, tm1, tm10k, tm9, tm99, Int32.reduceToInt, Int64.reduceToInt, Int.not_lt, Int.not_le] at c_4
      obtain ⟨i0, hi0⟩ : ∃ i0 : Nat, O = i0 + 1 := ⟨O - 1, by omega⟩
      subst hi0
      have et : (n 24 - 1).toInt = (i0 : Int) := by have q := T_sub (rfl : (n 24).toInt = (n 24).toInt) (show (1 : Int32).toInt = 1 from rfl) (by omega); omega
      have ec : Int32.toNatClampNeg (n 24 - 1) = i0 := by rw [clN]; omega
      have q26 : 0 ≤ (F 26 (Int32.toNatClampNeg (n 24 - 1))).toInt ∧ (F 26 (Int32.toNatClampNeg (n 24 - 1))).toInt ≤ 2 := by rw [ec]; obtain ⟨p, c1, c2, c3, c4, c5, c6, -⟩ := gR.2.1 i0 (by omega); exact c6
      refine gz_aload_n dX12_ended_7 rfl rfl ?_
      refine mg_65 hS dX12_ended_8 ?_
      refine gz_aload_n dX12_ended_11 rfl rfl ?_
      refine mg_319 hS dX12_ended_12 ?_
      refine gz_iconst (v := 1) dX12_ended_15 (by decide) ?_
      refine gz_isub dX12_ended_16 ?_
      refine m_iald 26 hS rfl (N := 40) rfl ((by have q9 := (T_sub (rfl : ((n 24)).toInt = ((n 24)).toInt) (show (1 : Int32).toInt = 1 from rfl) (by omega)); exact vin_T q9 (by omega) (by omega))) dX12_ended_17 ?_
      refine gz_istore_n (lv' := [(1, .int ((F 26) (Int32.toNatClampNeg ((n 24) - 1)))), (0, .ref m)]) dX12_ended_18 rfl (by decide) rfl ?_
      refine gz_iload_n dX12_ended_19 rfl rfl ?_
      refine gz_iconst (v := 1) dX12_ended_20 (by decide) ?_
      refine gz_icmp_ne (tgt := 43) dX12_ended_21 (by decide) (fun c_21 => ?_) (fun c_21 => ?_)
      ·
        try simp only [mIn_0, lgc_lt, lgc_gt, lgc_le, lgc_ge, lgc_eq] at c_21
        try simp only [fl_lt, fl_le, fl_eq, fL_w, fL_lt, fL_le, tm1, tm10k, tm9, tm99, Int32.reduceToInt, Int64.reduceToInt, Int.not_lt, Int.not_le] at c_21
        refine gz_iload_n dX12_ended_43 rfl rfl ?_
        refine gz_iconst (v := 2) dX12_ended_44 (by decide) ?_
        refine gz_icmp_ne (tgt := 59) dX12_ended_45 (by decide) (fun c_45 => ?_) (fun c_45 => ?_)
        ·
          try simp only [mIn_0, lgc_lt, lgc_gt, lgc_le, lgc_ge, lgc_eq] at c_45
          try simp only [fl_lt, fl_le, fl_eq, fL_w, fL_lt, fL_le, tm1, tm10k, tm9, tm99, Int32.reduceToInt, Int64.reduceToInt, Int.not_lt, Int.not_le] at c_45
          refine gz_aload_n dX12_ended_59 rfl rfl ?_
          refine gz_dup dX12_ended_60 rfl ?_
          refine mg_319 hS dX12_ended_61 ?_
          refine gz_iconst (v := 1) dX12_ended_64 (by decide) ?_
          refine gz_isub dX12_ended_65 ?_
          refine mp_319 hS dX12_ended_66 (fun f_1 hS_1 => ?_)
          refine gz_goto (tgt := 0) dX12_ended_69 (by decide) ?_
          refine gz_sub (lv' := [(0, .ref m)]) (by simp [List.lookup]) ?_
          have hJ8 := hJ
          have e26 : F 26 = F 26 := rfl
          have hJ9 : RDJ F0 (va_up n 24 ((n 24) - 1)) F ff W i0 false := RDJ_pop (by rw [e26, ← ec]; omega) (by rw [(show (va_up n 24 ((n 24) - 1)) 24 = ((n 24) - 1) from rfl)]; exact et) hJ8
          exact ih i0 _ _ _ _ _ hS_1 (fx_n hx (by decide)) ((by (try rw [(show (va_up n 24 ((n 24) - 1)) 21 = (n 21) from rfl)]); (try rw [(show (va_up n 24 ((n 24) - 1)) 4 = (n0 4) from (hx.1 4 (by decide)))]); omega)) ((by (try rw [(show (va_up n 24 ((n 24) - 1)) 21 = (n 21) from rfl)]); omega)) (hJ9) (by omega)
        ·
          try simp only [mIn_0, lgc_lt, lgc_gt, lgc_le, lgc_ge, lgc_eq] at c_45
          try simp only [fl_lt, fl_le, fl_eq, fL_w, fL_lt, fL_le, tm1, tm10k, tm9, tm99, Int32.reduceToInt, Int64.reduceToInt, Int.not_lt, Int.not_le] at c_45
          refine gz_aload_n dX12_ended_48 rfl rfl ?_
          refine gz_bipush (v := 41) dX12_ended_49 (by decide) ?_
          refine scX12_325 (k_X12_takes (x := 41) hS (by (try rw [(show n 4 = (n0 4) from (hx.1 4 (by decide)))]); omega) (by decide)) hS.1 ⟨(Nat.le_of_ble_eq_true rfl), (Nat.le_of_ble_eq_true rfl)⟩ ⟨(Nat.le_of_ble_eq_true rfl), (Nat.le_of_ble_eq_true rfl)⟩ rfl rfl (Nat.le_of_ble_eq_true rfl) dX12_ended_51 ?_
          rintro r_2 f_2 ⟨n_2, z_2, F_2, G_2, hS_2, hx2, hb_2, hT_2, hm_2⟩
          try simp only [(show n_2 4 = (n0 4) from ((hx2.1 4 (by decide)).trans (hx.1 4 (by decide))))] at hb_2 hT_2 hm_2
          refine gz_if_ne (tgt := 59) dX12_ended_54 (by decide) (fun c_54 => ?_) (fun c_54 => ?_)
          ·
            try simp only [mIn_0, lgc_lt, lgc_gt, lgc_le, lgc_ge, lgc_eq] at c_54
            try simp only [fl_lt, fl_le, fl_eq, fL_w, fL_lt, fL_le, tm1, tm10k, tm9, tm99, Int32.reduceToInt, Int64.reduceToInt, Int.not_lt, Int.not_le] at c_54
            refine gz_aload_n dX12_ended_59 rfl rfl ?_
            refine gz_dup dX12_ended_60 rfl ?_
            refine mg_319 hS_2 dX12_ended_61 ?_
            refine gz_ev (w := .int (n 24)) (congrArg Value.int (hx2.1 24 (by decide))) ?_
            refine gz_iconst (v := 1) dX12_ended_64 (by decide) ?_
            refine gz_isub dX12_ended_65 ?_
            refine mp_319 hS_2 dX12_ended_66 (fun f_3 hS_3 => ?_)
            refine gz_goto (tgt := 0) dX12_ended_69 (by decide) ?_
            refine gz_sub (lv' := [(0, .ref m)]) (by simp [List.lookup]) ?_
            have sm : ∀ r, r ∈ [6, 7, 9, 10, 11, 12, 13, 14, 15, 17, 19, 25, 26] → F_2 r = F r := by
              intro r hr
              simp only [List.mem_cons, List.not_mem_nil, or_false] at hr
              rcases hr with rfl | rfl | rfl | rfl | rfl | rfl | rfl | rfl | rfl | rfl | rfl | rfl | rfl
              · exact (hx2.2.2.1 6 (by decide))
              · exact (hx2.2.2.1 7 (by decide))
              · exact (hx2.2.2.1 9 (by decide))
              · exact (hx2.2.2.1 10 (by decide))
              · exact (hx2.2.2.1 11 (by decide))
              · exact (hx2.2.2.1 12 (by decide))
              · exact (hx2.2.2.1 13 (by decide))
              · exact (hx2.2.2.1 14 (by decide))
              · exact (hx2.2.2.1 15 (by decide))
              · exact (hx2.2.2.1 17 (by decide))
              · exact (hx2.2.2.1 19 (by decide))
              · exact (hx2.2.2.1 25 (by decide))
              · exact (hx2.2.2.1 26 (by decide))
            have hJ8 : RDJ F0 n_2 F_2 ff W (i0 + 1) false := RDJ_cg sm (hx2.1 24 (by decide)) hJ
            have e26 : F_2 26 = F 26 := sm 26 (by decide)
            have hJ9 : RDJ F0 (va_up n_2 24 ((n 24) - 1)) F_2 ff W i0 false := RDJ_pop (by rw [e26, ← ec]; omega) (by rw [(show (va_up n_2 24 ((n 24) - 1)) 24 = ((n 24) - 1) from rfl)]; exact et) hJ8
            exact ih i0 _ _ _ _ _ hS_3 (fx_n (fx_tr hx hx2 (by decide)) (by decide)) ((by (try rw [(show (va_up n_2 24 ((n 24) - 1)) 21 = (n_2 21) from rfl)]); (try rw [(show (va_up n_2 24 ((n 24) - 1)) 4 = (n0 4) from ((hx2.1 4 (by decide)).trans (hx.1 4 (by decide))))]); omega)) ((by (try rw [(show (va_up n_2 24 ((n 24) - 1)) 21 = (n_2 21) from rfl)]); omega)) (hJ9) (by omega)
          ·
            try simp only [mIn_0, lgc_lt, lgc_gt, lgc_le, lgc_ge, lgc_eq] at c_54
            try simp only [fl_lt, fl_le, fl_eq, fL_w, fL_lt, fL_le, tm1, tm10k, tm9, tm99, Int32.reduceToInt, Int64.reduceToInt, Int.not_lt, Int.not_le] at c_54
            refine gz_iconst (v := 0) dX12_ended_57 (by decide) ?_
            have sm : ∀ r, r ∈ [6, 7, 9, 10, 11, 12, 13, 14, 15, 17, 19, 25, 26] → F_2 r = F r := by
              intro r hr
              simp only [List.mem_cons, List.not_mem_nil, or_false] at hr
              rcases hr with rfl | rfl | rfl | rfl | rfl | rfl | rfl | rfl | rfl | rfl | rfl | rfl | rfl
              · exact (hx2.2.2.1 6 (by decide))
              · exact (hx2.2.2.1 7 (by decide))
              · exact (hx2.2.2.1 9 (by decide))
              · exact (hx2.2.2.1 10 (by decide))
              · exact (hx2.2.2.1 11 (by decide))
              · exact (hx2.2.2.1 12 (by decide))
              · exact (hx2.2.2.1 13 (by decide))
              · exact (hx2.2.2.1 14 (by decide))
              · exact (hx2.2.2.1 15 (by decide))
              · exact (hx2.2.2.1 17 (by decide))
              · exact (hx2.2.2.1 19 (by decide))
              · exact (hx2.2.2.1 25 (by decide))
              · exact (hx2.2.2.1 26 (by decide))
            have hJ9 : RDJ F0 n_2 F_2 ff W (i0 + 1) false := RDJ_cg sm (hx2.1 24 (by decide)) hJ
            exact gz_zret rfl (by first | decide | exact nrb (Or.inl (by assumption)) | exact nrb (by assumption)) dX12_ended_58 (Nat.le_of_ble_eq_true rfl) (Nat.le_of_ble_eq_true rfl) (⟨_, rfl, _, _, _, _, hS_2, (fx_tr hx hx2 (by decide)), (by first | exact Or.inl rfl | exact Or.inr rfl | assumption | (left; assumption)), (by (try rw [(show n_2 21 = (n_2 21) from rfl)]); (try rw [(show n_2 4 = (n0 4) from ((hx2.1 4 (by decide)).trans (hx.1 4 (by decide))))]); omega), (by (try rw [(show n_2 21 = (n_2 21) from rfl)]); omega), ⟨i0 + 1, false, hJ9, fun h => absurd h (by decide)⟩⟩)
      ·
        try simp only [mIn_0, lgc_lt, lgc_gt, lgc_le, lgc_ge, lgc_eq] at c_21
        try simp only [fl_lt, fl_le, fl_eq, fL_w, fL_lt, fL_le, tm1, tm10k, tm9, tm99, Int32.reduceToInt, Int64.reduceToInt, Int.not_lt, Int.not_le] at c_21
        refine gz_aload_n dX12_ended_24 rfl rfl ?_
        refine mg_65 hS dX12_ended_25 ?_
        refine gz_aload_n dX12_ended_28 rfl rfl ?_
        refine mg_319 hS dX12_ended_29 ?_
        refine gz_iconst (v := 1) dX12_ended_32 (by decide) ?_
        refine gz_isub dX12_ended_33 ?_
        refine gz_iconst (v := 2) dX12_ended_34 (by decide) ?_
        refine m_iast 26 hS rfl (N := 40) rfl ((by have q9 := (T_sub (rfl : ((n 24)).toInt = ((n 24)).toInt) (show (1 : Int32).toInt = 1 from rfl) (by omega)); exact vin_T q9 (by omega) (by omega))) dX12_ended_35 (fun f_4 hS_4q => ?_)
        have hS_4 : mS cy m a f0 n z (va_up F 26 (upd (F 26) (Int32.toNatClampNeg ((n 24) - 1)) 2)) G f_4 := hS_4q
        refine gz_aload_n dX12_ended_36 rfl rfl ?_
        refine gz_bipush (v := 44) dX12_ended_37 (by decide) ?_
        refine scX12_325 (k_X12_takes (x := 44) hS_4 (by (try rw [(show n 4 = (n0 4) from (hx.1 4 (by decide)))]); omega) (by decide)) hS_4.1 ⟨(Nat.le_of_ble_eq_true rfl), (Nat.le_of_ble_eq_true rfl)⟩ ⟨(Nat.le_of_ble_eq_true rfl), (Nat.le_of_ble_eq_true rfl)⟩ rfl rfl (Nat.le_of_ble_eq_true rfl) dX12_ended_39 ?_
        rintro r_5 f_5 ⟨n_5, z_5, F_5, G_5, hS_5, hx5, hb_5, hT_5, hm_5⟩
        try simp only [(show n_5 4 = (n0 4) from ((hx5.1 4 (by decide)).trans (hx.1 4 (by decide))))] at hb_5 hT_5 hm_5
        have sm : ∀ r, r ∈ [6, 7, 9, 10, 11, 12, 13, 14, 15, 17, 19, 25] → F_5 r = F r := by
          intro r hr
          simp only [List.mem_cons, List.not_mem_nil, or_false] at hr
          rcases hr with rfl | rfl | rfl | rfl | rfl | rfl | rfl | rfl | rfl | rfl | rfl | rfl
          · exact (hx5.2.2.1 6 (by decide))
          · exact (hx5.2.2.1 7 (by decide))
          · exact (hx5.2.2.1 9 (by decide))
          · exact (hx5.2.2.1 10 (by decide))
          · exact (hx5.2.2.1 11 (by decide))
          · exact (hx5.2.2.1 12 (by decide))
          · exact (hx5.2.2.1 13 (by decide))
          · exact (hx5.2.2.1 14 (by decide))
          · exact (hx5.2.2.1 15 (by decide))
          · exact (hx5.2.2.1 17 (by decide))
          · exact (hx5.2.2.1 19 (by decide))
          · exact (hx5.2.2.1 25 (by decide))
        have s26_ : F_5 26 = (upd (F 26) (Int32.toNatClampNeg ((n 24) - 1)) 2) := (hx5.2.2.1 26 (by decide))
        have hJ9 : RDJ F0 n_5 F_5 ff W (i0 + 1) true := RDJ_next sm (fun i hi => by rw [s26_, ec, updE, if_neg hi]) (by rw [← ec]; omega) (by rw [s26_, ec, updE, if_pos rfl]; rfl) (hx5.1 24 (by decide)) hJ
        exact gz_zret rfl (by first | decide | exact nrb (Or.inl (by assumption)) | exact nrb (by assumption)) dX12_ended_42 (Nat.le_of_ble_eq_true rfl) (Nat.le_of_ble_eq_true rfl) (⟨_, rfl, _, _, _, _, hS_5, (fx_tr (fx_F hx (by decide)) hx5 (by decide)), (by first | exact Or.inl rfl | exact Or.inr rfl | assumption | (left; assumption)), (by (try rw [(show n_5 21 = (n_5 21) from rfl)]); (try rw [(show n_5 4 = (n0 4) from ((hx5.1 4 (by decide)).trans (hx.1 4 (by decide))))]); omega), (by (try rw [(show n_5 21 = (n_5 21) from rfl)]); omega), ⟨i0 + 1, true, hJ9, fun _ h => absurd h (by decide)⟩⟩)

set_option maxHeartbeats 4000000 in
set_option maxRecDepth 100000 in
theorem k_X12_ended {l : Launch} {D : va_G} {cy : Nat → ClassId} {b : Nat} {f : gMem} {m : Nat} {a : Nat → Nat} {f0 : gMem} {n : Nat → Int32} {z : Nat → Int64} {F : Nat → Nat → Int32} {G : Nat → Nat → Int64}  {ff W O : Nat} (hS : mS cy m a f0 n z F G f) (hT : (0 ≤ (n 21).toInt ∧ (n 21).toInt ≤ (n 4).toInt ∧ (n 4).toInt ≤ 400)) (hJ : RDJ F n F ff W O false) : gC l D cy b yX12_ended cX12_ended 2 (some .boolean) 2 0 0 [.ref m] f (pI fun r f2 => ∃ (n2 : Nat → Int32) (z2 : Nat → Int64) (F2 : Nat → Nat → Int32) (G2 : Nat → Nat → Int64), mS cy m a f0 n2 z2 F2 G2 f2 ∧ fx [21, 22, 24] [] [26] [] n z F G n2 z2 F2 G2 ∧ (r = 0 ∨ r = 1) ∧ (0 ≤ (n2 21).toInt ∧ (n2 21).toInt ≤ (n2 4).toInt ∧ (n2 4).toInt ≤ 400) ∧ (n 21).toInt ≤ (n2 21).toInt ∧ ∃ (O2 : Nat) (q2 : Bool), RDJ F n2 F2 ff W O2 q2 ∧ (r = 1 → q2 = false → O2 = 0)) := by
  refine gC_of (by decide) (Nat.le_of_ble_eq_true rfl) ?_
  show gG l _ _ _ D cy b cX12_ended 2 _ RX12 "ended" 0 0 f 0 [(0, .ref m)] []
  refine gz_sub (lv' := [(0, .ref m)]) (by simp [List.lookup]) ?_
  exact l_X12_ended (O + 1) O _ _ _ _ _ hS fx_rf (hT) (Int.le_refl _) (hJ) (by omega)

set_option maxHeartbeats 4000000 in
set_option maxRecDepth 100000 in
theorem l_X12_text {l : Launch} {D : va_G} {cy : Nat → ClassId} {b : Nat} {m : Nat} {a : Nat → Nat} {f0 : gMem} {n0 : Nat → Int32} {z0 : Nat → Int64} {F0 : Nat → Nat → Int32} {G0 : Nat → Nat → Int64}  {ff : Nat} (h5 : (n0 5).toInt = (ff : Int) ∧ ff < 20) : ∀ (k : Nat) (W O : Nat) (n : Nat → Int32) (z : Nat → Int64) (F : Nat → Nat → Int32) (G : Nat → Nat → Int64) (fm : gMem), mS cy m a f0 n z F G fm → fx [21, 22, 23, 24] [] [6, 7, 8, 9, 10, 11, 12, 13, 14, 15, 16, 17, 18, 19, 20, 25, 26] [] n0 z0 F0 G0 n z F G → ((0 ≤ (n 21).toInt ∧ (n 21).toInt ≤ (n 4).toInt ∧ (n 4).toInt ≤ 400)) → (RDJ F0 n F ff W O true) → (40 < W + k) → gG l (gRm 6 0 0) (gQf D b (pI fun r f2 => ∃ (n2 : Nat → Int32) (z2 : Nat → Int64) (F2 : Nat → Nat → Int32) (G2 : Nat → Nat → Int64), mS cy m a f0 n2 z2 F2 G2 f2 ∧ fx [21, 22, 23, 24] [] [6, 7, 8, 9, 10, 11, 12, 13, 14, 15, 16, 17, 18, 19, 20, 25, 26] [] n0 z0 F0 G0 n2 z2 F2 G2 ∧ (r = 0 ∨ r = 1) ∧ (0 ≤ (n2 21).toInt ∧ (n2 21).toInt ≤ (n2 4).toInt ∧ (n2 4).toInt ≤ 400) ∧ rAll F2 ∧ (∀ g, g < ff → agF F0 F2 g) ∧ (r = 1 → fOK F2 ff)) 0 0) gTt D cy b cX12_text 2 (some .boolean) RX12 "text" 0 0 fm 25 [(0, .ref m)] [] := by
  intro k
  induction k with
  | zero =>
    intro W O n z F G fm hS hx hT hJ hk
    exfalso; have z := hJ.1.2; omega
  | succ k ih =>
    intro W O n z F G fm hS hx hT hJ hk
    obtain ⟨g6, g24, gR, gv, gA, gg⟩ := id hJ
    have gO := RD_O gR
    have e4 : n 4 = n0 4 := hx.1 4 (by decide)
    rw [e4] at hT
    refine gz_aload_n dX12_text_25 rfl rfl ?_
    refine mg_319 hS dX12_text_26 ?_
    refine gz_istore_n (lv' := [(1, .int (n 24)), (0, .ref m)]) dX12_text_29 rfl (by decide) rfl ?_
    refine gz_aload_n dX12_text_30 rfl rfl ?_
    refine scX12_328 (k_X12_begins (ff := ff) (W := W) (O := O) hS (by (try rw [(show n 4 = (n0 4) from (hx.1 4 (by decide)))]); omega) (by rw [(show n 5 = (n0 5) from (hx.1 5 (by decide)))]; exact h5) (RDJ_rf hJ)) hS.1 ⟨(Nat.le_of_ble_eq_true rfl), (Nat.le_of_ble_eq_true rfl)⟩ ⟨(Nat.le_of_ble_eq_true rfl), (Nat.le_of_ble_eq_true rfl)⟩ rfl rfl (Nat.le_of_ble_eq_true rfl) dX12_text_31 ?_
    rintro r_1 f_1 ⟨n_1, z_1, F_1, G_1, hS_1, hx1, hb_1, hT_1, hm_1, hA_1, hg_1, hyes_1⟩
    try simp only [(show n_1 4 = (n0 4) from ((hx1.1 4 (by decide)).trans (hx.1 4 (by decide))))] at hb_1 hT_1 hm_1 hA_1 hg_1 hyes_1
    refine gz_if_ne (tgt := 39) dX12_text_34 (by decide) (fun c_34 => ?_) (fun c_34 => ?_)
    ·
      try simp only [mIn_0, lgc_lt, lgc_gt, lgc_le, lgc_ge, lgc_eq] at c_34
      try simp only [fl_lt, fl_le, fl_eq, fL_w, fL_lt, fL_le, tm1, tm10k, tm9, tm99, Int32.reduceToInt, Int64.reduceToInt, Int.not_lt, Int.not_le] at c_34
      have hg9 : ∀ g, g < ff → agF F0 F_1 g := fun g hg => agF_tr (gg g hg) (hg_1 g hg)
      have hy_ := hyes_1 (by rcases hb_1 with z | z; (exfalso; have z0 : r_1.toInt = 0 := (by rw [z]; rfl); omega); (exact z))
      refine gz_aload_n dX12_text_39 rfl rfl ?_
      refine mg_319 hS_1 dX12_text_40 ?_
      refine gz_ev (w := .int (n_1 24)) rfl ?_
      refine gz_iload_n dX12_text_43 rfl rfl ?_
      refine gz_icmp_ne (tgt := 56) dX12_text_44 (by decide) (fun c_44 => ?_) (fun c_44 => ?_)
      ·
        try simp only [mIn_0, lgc_lt, lgc_gt, lgc_le, lgc_ge, lgc_eq] at c_44
        try simp only [fl_lt, fl_le, fl_eq, fL_w, fL_lt, fL_le, tm1, tm10k, tm9, tm99, Int32.reduceToInt, Int64.reduceToInt, Int.not_lt, Int.not_le] at c_44
        have hP : RDJ F0 n_1 F_1 ff (W + 1) (O + 1) true := by rcases hy_ with z | z; (exfalso; have z2 := z.2.1; omega); (exact RDJ_tr gg z)
        have hP24 := hP.2.1
        refine gz_aload_n dX12_text_56 rfl rfl ?_
        refine mg_319 hS_1 dX12_text_57 ?_
        refine gz_ev (w := .int (n_1 24)) rfl ?_
        refine gz_if_gt (tgt := 25) dX12_text_60 (by decide) (fun c_60 => ?_) (fun c_60 => ?_)
        ·
          try simp only [mIn_0, lgc_lt, lgc_gt, lgc_le, lgc_ge, lgc_eq] at c_60
          try simp only [fl_lt, fl_le, fl_eq, fL_w, fL_lt, fL_le, tm1, tm10k, tm9, tm99, Int32.reduceToInt, Int64.reduceToInt, Int.not_lt, Int.not_le] at c_60
          refine gz_sub (lv' := [(0, .ref m)]) (by simp [List.lookup]) ?_
          have hB := hP
          have hW40 := hB.1.2
          exact ih (W + 1) (O + 1) _ _ _ _ _ hS_1 (fx_tr hx hx1 (by decide)) ((by (try rw [(show n_1 21 = (n_1 21) from rfl)]); (try rw [(show n_1 4 = (n0 4) from ((hx1.1 4 (by decide)).trans (hx.1 4 (by decide))))]); omega)) (hB) (by omega)
        ·
          try simp only [mIn_0, lgc_lt, lgc_gt, lgc_le, lgc_ge, lgc_eq] at c_60
          try simp only [fl_lt, fl_le, fl_eq, fL_w, fL_lt, fL_le, tm1, tm10k, tm9, tm99, Int32.reduceToInt, Int64.reduceToInt, Int.not_lt, Int.not_le] at c_60
          exfalso; omega
      ·
        try simp only [mIn_0, lgc_lt, lgc_gt, lgc_le, lgc_ge, lgc_eq] at c_44
        try simp only [fl_lt, fl_le, fl_eq, fL_w, fL_lt, fL_le, tm1, tm10k, tm9, tm99, Int32.reduceToInt, Int64.reduceToInt, Int.not_lt, Int.not_le] at c_44
        have hL : RDJ F0 n_1 F_1 ff (W + 1) O false := by rcases hy_ with z | z; (exact RDJ_tr gg z); (exfalso; have z2 := z.2.1; omega)
        refine gz_aload_n dX12_text_47 rfl rfl ?_
        refine scX12_331 (k_X12_ended (ff := ff) (W := W + 1) (O := O) hS_1 (by (try rw [(show n_1 21 = (n_1 21) from rfl)]); (try rw [(show n_1 4 = (n0 4) from ((hx1.1 4 (by decide)).trans (hx.1 4 (by decide))))]); omega) (RDJ_rf hL)) hS_1.1 ⟨(Nat.le_of_ble_eq_true rfl), (Nat.le_of_ble_eq_true rfl)⟩ ⟨(Nat.le_of_ble_eq_true rfl), (Nat.le_of_ble_eq_true rfl)⟩ rfl rfl (Nat.le_of_ble_eq_true rfl) dX12_text_48 ?_
        rintro r_2 f_2 ⟨n_2, z_2, F_2, G_2, hS_2, hx2, hb_2, hT_2, hm_2, hE_2⟩
        try simp only [(show n_2 4 = (n0 4) from ((hx2.1 4 (by decide)).trans ((hx1.1 4 (by decide)).trans (hx.1 4 (by decide)))))] at hb_2 hT_2 hm_2 hE_2
        obtain ⟨O2, q2, hE, hE2⟩ := hE_2
        have hE9 : RDJ F0 n_2 F_2 ff (W + 1) O2 q2 := RDJ_tr hg9 hE
        have hE24 := hE9.2.1
        refine gz_if_ne (tgt := 56) dX12_text_51 (by decide) (fun c_51 => ?_) (fun c_51 => ?_)
        ·
          try simp only [mIn_0, lgc_lt, lgc_gt, lgc_le, lgc_ge, lgc_eq] at c_51
          try simp only [fl_lt, fl_le, fl_eq, fL_w, fL_lt, fL_le, tm1, tm10k, tm9, tm99, Int32.reduceToInt, Int64.reduceToInt, Int.not_lt, Int.not_le] at c_51
          have hE3 := hE2 (by rcases hb_2 with z | z; (exfalso; have z0 : r_2.toInt = 0 := (by rw [z]; rfl); omega); (exact z))
          refine gz_aload_n dX12_text_56 rfl rfl ?_
          refine mg_319 hS_2 dX12_text_57 ?_
          refine gz_ev (w := .int (n_2 24)) rfl ?_
          refine gz_if_gt (tgt := 25) dX12_text_60 (by decide) (fun c_60 => ?_) (fun c_60 => ?_)
          ·
            try simp only [mIn_0, lgc_lt, lgc_gt, lgc_le, lgc_ge, lgc_eq] at c_60
            try simp only [fl_lt, fl_le, fl_eq, fL_w, fL_lt, fL_le, tm1, tm10k, tm9, tm99, Int32.reduceToInt, Int64.reduceToInt, Int.not_lt, Int.not_le] at c_60
            refine gz_sub (lv' := [(0, .ref m)]) (by simp [List.lookup]) ?_
            have hB : RDJ F0 n_2 F_2 ff (W + 1) O2 true := by cases q2 with | true => exact hE9 | false => exact absurd (hE3 rfl) (by omega)
            have hW40 := hB.1.2
            exact ih (W + 1) O2 _ _ _ _ _ hS_2 (fx_tr (fx_tr hx hx1 (by decide)) hx2 (by decide)) ((by (try rw [(show n_2 21 = (n_2 21) from rfl)]); (try rw [(show n_2 4 = (n0 4) from ((hx2.1 4 (by decide)).trans ((hx1.1 4 (by decide)).trans (hx.1 4 (by decide)))))]); omega)) (hB) (by omega)
          ·
            try simp only [mIn_0, lgc_lt, lgc_gt, lgc_le, lgc_ge, lgc_eq] at c_60
            try simp only [fl_lt, fl_le, fl_eq, fL_w, fL_lt, fL_le, tm1, tm10k, tm9, tm99, Int32.reduceToInt, Int64.reduceToInt, Int.not_lt, Int.not_le] at c_60
            have eO2 : O2 = 0 := by omega
            subst eO2
            have hZ : RDJ F0 n_2 F_2 ff (W + 1) 0 false := by cases q2 with | false => exact hE9 | true => exact absurd (hE9.2.2.1.2.2 rfl rfl) (by omega)
            refine gz_aload_n dX12_text_63 rfl rfl ?_
            refine scX12_275 (k_X12_see_ hS_2 (by (try rw [(show n_2 21 = (n_2 21) from rfl)]); (try rw [(show n_2 4 = (n0 4) from ((hx2.1 4 (by decide)).trans ((hx1.1 4 (by decide)).trans (hx.1 4 (by decide)))))]); omega)) hS_2.1 ⟨(Nat.le_of_ble_eq_true rfl), (Nat.le_of_ble_eq_true rfl)⟩ ⟨(Nat.le_of_ble_eq_true rfl), (Nat.le_of_ble_eq_true rfl)⟩ rfl rfl (Nat.le_of_ble_eq_true rfl) dX12_text_64 ?_
            rintro r_3 f_3 ⟨n_3, z_3, F_3, G_3, hS_3, hx3, hT_3, hm_3, hq_3⟩
            try simp only [(show n_3 4 = (n0 4) from ((hx3.1 4 (by decide)).trans ((hx2.1 4 (by decide)).trans ((hx1.1 4 (by decide)).trans (hx.1 4 (by decide))))))] at hT_3 hm_3 hq_3
            refine gz_iconst (v := (-1)) dX12_text_67 (by decide) ?_
            refine gz_icmp_eq (tgt := 83) dX12_text_68 (by decide) (fun c_68 => ?_) (fun c_68 => ?_)
            ·
              try simp only [mIn_0, lgc_lt, lgc_gt, lgc_le, lgc_ge, lgc_eq] at c_68
              try simp only [fl_lt, fl_le, fl_eq, fL_w, fL_lt, fL_le, tm1, tm10k, tm9, tm99, Int32.reduceToInt, Int64.reduceToInt, Int.not_lt, Int.not_le] at c_68
              refine gz_iconst (v := 1) dX12_text_83 (by decide) ?_
              refine gz_goto (tgt := 88) dX12_text_84 (by decide) ?_
              have sm : ∀ r, F_3 r = F_2 r := fun r => (hx3.2.2.1 r (by simp))
              have hA9 : rAll F_3 := fun q hq => by rw [sm 13, sm 14, sm 15, sm 19]; exact hZ.2.2.2.2.1 q hq
              have hg8 : ∀ g, g < ff → agF F0 F_3 g := fun g hg => agF_tr (hZ.2.2.2.2.2 g hg) ⟨congrFun (sm 6) _, fun r _ q _ => congrFun (sm r) _⟩
              have hf9 : fOK F_3 ff := by rw [show F_3 = F_2 from funext sm]; exact RD_fin ⟨by omega, hZ.1.2⟩ hZ.1.1 (by have z := hZ.2.2.2.1; omega) hZ.2.2.1
              exact gz_zret rfl (by first | decide | exact nrb (Or.inl (by assumption)) | exact nrb (by assumption)) dX12_text_88 (Nat.le_of_ble_eq_true rfl) (Nat.le_of_ble_eq_true rfl) (⟨_, rfl, _, _, _, _, hS_3, (fx_tr (fx_tr (fx_tr hx hx1 (by decide)) hx2 (by decide)) hx3 (by decide)), (by first | exact Or.inl rfl | exact Or.inr rfl | assumption | (left; assumption)), (by (try rw [(show n_3 21 = (n_3 21) from rfl)]); (try rw [(show n_3 4 = (n0 4) from ((hx3.1 4 (by decide)).trans ((hx2.1 4 (by decide)).trans ((hx1.1 4 (by decide)).trans (hx.1 4 (by decide))))))]); omega), hA9, hg8, fun _ => hf9⟩)
            ·
              try simp only [mIn_0, lgc_lt, lgc_gt, lgc_le, lgc_ge, lgc_eq] at c_68
              try simp only [fl_lt, fl_le, fl_eq, fL_w, fL_lt, fL_le, tm1, tm10k, tm9, tm99, Int32.reduceToInt, Int64.reduceToInt, Int.not_lt, Int.not_le] at c_68
              refine gz_aload_n dX12_text_71 rfl rfl ?_
              refine gz_iconst (v := 0) dX12_text_72 (by decide) ?_
              refine gz_aload_n dX12_text_73 rfl rfl ?_
              refine mg_272 hS_3 dX12_text_74 ?_
              refine gz_ev (w := .int (n_3 21)) rfl ?_
              refine scX12_279 (k_X12_fails (x := 0) (y := (n_3 21)) hS_3) hS_3.1 ⟨(Nat.le_of_ble_eq_true rfl), (Nat.le_of_ble_eq_true rfl)⟩ ⟨(Nat.le_of_ble_eq_true rfl), (Nat.le_of_ble_eq_true rfl)⟩ rfl rfl (Nat.le_of_ble_eq_true rfl) dX12_text_77 ?_
              rintro r_4 f_4 ⟨n_4, z_4, F_4, G_4, hS_4, hx4, hr_4⟩
              try simp only [(show n_3 22 = (n_2 22) from (hx3.1 22 (by decide)))] at hr_4
              refine gz_if_eq (tgt := 87) dX12_text_80 (by decide) (fun c_80 => ?_) (fun c_80 => ?_)
              ·
                try simp only [mIn_0, lgc_lt, lgc_gt, lgc_le, lgc_ge, lgc_eq] at c_80
                try simp only [fl_lt, fl_le, fl_eq, fL_w, fL_lt, fL_le, tm1, tm10k, tm9, tm99, Int32.reduceToInt, Int64.reduceToInt, Int.not_lt, Int.not_le] at c_80
                refine gz_iconst (v := 0) dX12_text_87 (by decide) ?_
                have sm : ∀ r, F_4 r = F_2 r := fun r => ((hx4.2.2.1 r (by simp)).trans (hx3.2.2.1 r (by simp)))
                have hA9 : rAll F_4 := fun q hq => by rw [sm 13, sm 14, sm 15, sm 19]; exact hZ.2.2.2.2.1 q hq
                have hg8 : ∀ g, g < ff → agF F0 F_4 g := fun g hg => agF_tr (hZ.2.2.2.2.2 g hg) ⟨congrFun (sm 6) _, fun r _ q _ => congrFun (sm r) _⟩
                have hf9 : fOK F_4 ff := by rw [show F_4 = F_2 from funext sm]; exact RD_fin ⟨by omega, hZ.1.2⟩ hZ.1.1 (by have z := hZ.2.2.2.1; omega) hZ.2.2.1
                exact gz_zret rfl (by first | decide | exact nrb (Or.inl (by assumption)) | exact nrb (by assumption)) dX12_text_88 (Nat.le_of_ble_eq_true rfl) (Nat.le_of_ble_eq_true rfl) (⟨_, rfl, _, _, _, _, hS_4, (fx_tr (fx_tr (fx_tr (fx_tr hx hx1 (by decide)) hx2 (by decide)) hx3 (by decide)) hx4 (by decide)), (by first | exact Or.inl rfl | exact Or.inr rfl | assumption | (left; assumption)), (by (try rw [(show n_4 21 = (n_3 21) from (hx4.1 21 (by decide)))]); (try rw [(show n_4 4 = (n0 4) from ((hx4.1 4 (by decide)).trans ((hx3.1 4 (by decide)).trans ((hx2.1 4 (by decide)).trans ((hx1.1 4 (by decide)).trans (hx.1 4 (by decide)))))))]); omega), hA9, hg8, fun _ => hf9⟩)
              ·
                try simp only [mIn_0, lgc_lt, lgc_gt, lgc_le, lgc_ge, lgc_eq] at c_80
                try simp only [fl_lt, fl_le, fl_eq, fL_w, fL_lt, fL_le, tm1, tm10k, tm9, tm99, Int32.reduceToInt, Int64.reduceToInt, Int.not_lt, Int.not_le] at c_80
                refine gz_iconst (v := 1) dX12_text_83 (by decide) ?_
                refine gz_goto (tgt := 88) dX12_text_84 (by decide) ?_
                have sm : ∀ r, F_4 r = F_2 r := fun r => ((hx4.2.2.1 r (by simp)).trans (hx3.2.2.1 r (by simp)))
                have hA9 : rAll F_4 := fun q hq => by rw [sm 13, sm 14, sm 15, sm 19]; exact hZ.2.2.2.2.1 q hq
                have hg8 : ∀ g, g < ff → agF F0 F_4 g := fun g hg => agF_tr (hZ.2.2.2.2.2 g hg) ⟨congrFun (sm 6) _, fun r _ q _ => congrFun (sm r) _⟩
                have hf9 : fOK F_4 ff := by rw [show F_4 = F_2 from funext sm]; exact RD_fin ⟨by omega, hZ.1.2⟩ hZ.1.1 (by have z := hZ.2.2.2.1; omega) hZ.2.2.1
                exact gz_zret rfl (by first | decide | exact nrb (Or.inl (by assumption)) | exact nrb (by assumption)) dX12_text_88 (Nat.le_of_ble_eq_true rfl) (Nat.le_of_ble_eq_true rfl) (⟨_, rfl, _, _, _, _, hS_4, (fx_tr (fx_tr (fx_tr (fx_tr hx hx1 (by decide)) hx2 (by decide)) hx3 (by decide)) hx4 (by decide)), (by first | exact Or.inl rfl | exact Or.inr rfl | assumption | (left; assumption)), (by (try rw [(show n_4 21 = (n_3 21) from (hx4.1 21 (by decide)))]); (try rw [(show n_4 4 = (n0 4) from ((hx4.1 4 (by decide)).trans ((hx3.1 4 (by decide)).trans ((hx2.1 4 (by decide)).trans ((hx1.1 4 (by decide)).trans (hx.1 4 (by decide)))))))]); omega), hA9, hg8, fun _ => hf9⟩)
        ·
          try simp only [mIn_0, lgc_lt, lgc_gt, lgc_le, lgc_ge, lgc_eq] at c_51
          try simp only [fl_lt, fl_le, fl_eq, fL_w, fL_lt, fL_le, tm1, tm10k, tm9, tm99, Int32.reduceToInt, Int64.reduceToInt, Int.not_lt, Int.not_le] at c_51
          refine gz_iconst (v := 0) dX12_text_54 (by decide) ?_
          exact gz_zret rfl (by first | decide | exact nrb (Or.inl (by assumption)) | exact nrb (by assumption)) dX12_text_55 (Nat.le_of_ble_eq_true rfl) (Nat.le_of_ble_eq_true rfl) (⟨_, rfl, _, _, _, _, hS_2, (fx_tr (fx_tr hx hx1 (by decide)) hx2 (by decide)), (by first | exact Or.inl rfl | exact Or.inr rfl | assumption | (left; assumption)), (by (try rw [(show n_2 21 = (n_2 21) from rfl)]); (try rw [(show n_2 4 = (n0 4) from ((hx2.1 4 (by decide)).trans ((hx1.1 4 (by decide)).trans (hx.1 4 (by decide)))))]); omega), hE9.2.2.2.2.1, hE9.2.2.2.2.2, fun h => absurd h (by decide)⟩)
    ·
      try simp only [mIn_0, lgc_lt, lgc_gt, lgc_le, lgc_ge, lgc_eq] at c_34
      try simp only [fl_lt, fl_le, fl_eq, fL_w, fL_lt, fL_le, tm1, tm10k, tm9, tm99, Int32.reduceToInt, Int64.reduceToInt, Int.not_lt, Int.not_le] at c_34
      refine gz_iconst (v := 0) dX12_text_37 (by decide) ?_
      exact gz_zret rfl (by first | decide | exact nrb (Or.inl (by assumption)) | exact nrb (by assumption)) dX12_text_38 (Nat.le_of_ble_eq_true rfl) (Nat.le_of_ble_eq_true rfl) (⟨_, rfl, _, _, _, _, hS_1, (fx_tr hx hx1 (by decide)), (by first | exact Or.inl rfl | exact Or.inr rfl | assumption | (left; assumption)), (by (try rw [(show n_1 21 = (n_1 21) from rfl)]); (try rw [(show n_1 4 = (n0 4) from ((hx1.1 4 (by decide)).trans (hx.1 4 (by decide))))]); omega), hA_1, (fun g hg => agF_tr (gg g hg) (hg_1 g hg)), fun h => absurd h (by decide)⟩)

set_option maxHeartbeats 4000000 in
set_option maxRecDepth 100000 in
theorem k_X12_text {l : Launch} {D : va_G} {cy : Nat → ClassId} {b : Nat} {f : gMem} {m : Nat} {a : Nat → Nat} {f0 : gMem} {n : Nat → Int32} {z : Nat → Int64} {F : Nat → Nat → Int32} {G : Nat → Nat → Int64}  {ff : Nat} (hS : mS cy m a f0 n z F G f) (hT : (0 ≤ (n 21).toInt ∧ (n 21).toInt ≤ (n 4).toInt ∧ (n 4).toInt ≤ 400)) (h5 : (n 5).toInt = (ff : Int) ∧ ff < 20) (hA : rAll F) : gC l D cy b yX12_text cX12_text 2 (some .boolean) 6 0 0 [.ref m] f (pI fun r f2 => ∃ (n2 : Nat → Int32) (z2 : Nat → Int64) (F2 : Nat → Nat → Int32) (G2 : Nat → Nat → Int64), mS cy m a f0 n2 z2 F2 G2 f2 ∧ fx [21, 22, 23, 24] [] [6, 7, 8, 9, 10, 11, 12, 13, 14, 15, 16, 17, 18, 19, 20, 25, 26] [] n z F G n2 z2 F2 G2 ∧ (r = 0 ∨ r = 1) ∧ (0 ≤ (n2 21).toInt ∧ (n2 21).toInt ≤ (n2 4).toInt ∧ (n2 4).toInt ≤ 400) ∧ rAll F2 ∧ (∀ g, g < ff → agF F F2 g) ∧ (r = 1 → fOK F2 ff)) := by
  have ecf : Int32.toNatClampNeg (n 5) = ff := by rw [clN]; omega
  refine gC_of (by decide) (Nat.le_of_ble_eq_true rfl) ?_
  show gG l _ _ _ D cy b cX12_text 2 _ RX12 "text" 0 0 f 0 [(0, .ref m)] []
  refine gz_aload_n dX12_text_0 rfl rfl ?_
  refine gz_iconst (v := 0) dX12_text_1 (by decide) ?_
  refine mp_319 hS dX12_text_2 (fun f_1 hS_1 => ?_)
  refine gz_aload_n dX12_text_5 rfl rfl ?_
  refine mg_17 hS_1 dX12_text_6 ?_
  refine gz_aload_n dX12_text_9 rfl rfl ?_
  refine mg_307 hS_1 dX12_text_10 ?_
  refine gz_ev (w := .int (n 5)) rfl ?_
  refine gz_iconst (v := 0) dX12_text_13 (by decide) ?_
  refine m_iast 6 hS_1 rfl (N := 22) rfl ((by exact vin_T (rfl : (n 5).toInt = (n 5).toInt) (by omega) (by omega))) dX12_text_14 (fun f_2 hS_2q => ?_)
  have hS_2 : mS cy m a f0 (va_up n 24 0) z (va_up F 6 (upd (F 6) (Int32.toNatClampNeg (n 5)) 0)) G f_2 := hS_2q
  refine gz_aload_n dX12_text_15 rfl rfl ?_
  refine mg_50 hS_2 dX12_text_16 ?_
  refine gz_aload_n dX12_text_19 rfl rfl ?_
  refine mg_307 hS_2 dX12_text_20 ?_
  refine gz_ev (w := .int (n 5)) rfl ?_
  refine gz_iconst (v := 0) dX12_text_23 (by decide) ?_
  refine m_iast 17 hS_2 rfl (N := 22) rfl ((by exact vin_T (rfl : (n 5).toInt = (n 5).toInt) (by omega) (by omega))) dX12_text_24 (fun f_3 hS_3q => ?_)
  have hS_3 : mS cy m a f0 (va_up n 24 0) z (va_up (va_up F 6 (upd (F 6) (Int32.toNatClampNeg (n 5)) 0)) 17 (upd (F 17) (Int32.toNatClampNeg (n 5)) 0)) G f_3 := hS_3q
  have s6_ : (va_up (va_up F 6 (upd (F 6) (Int32.toNatClampNeg (n 5)) 0)) 17 (upd (F 17) (Int32.toNatClampNeg (n 5)) 0)) 6 = (upd (F 6) (Int32.toNatClampNeg (n 5)) 0) := rfl
  have s17_ : (va_up (va_up F 6 (upd (F 6) (Int32.toNatClampNeg (n 5)) 0)) 17 (upd (F 17) (Int32.toNatClampNeg (n 5)) 0)) 17 = (upd (F 17) (Int32.toNatClampNeg (n 5)) 0) := rfl
  have hxx : fx [24] [] [6, 17] [] n z F G (va_up n 24 0) z (va_up (va_up F 6 (upd (F 6) (Int32.toNatClampNeg (n 5)) 0)) 17 (upd (F 17) (Int32.toNatClampNeg (n 5)) 0)) G := (fx_F (fx_F (fx_n fx_rf (by decide)) (by decide)) (by decide))
  have hg : ∀ g, g < ff → agF F (va_up (va_up F 6 (upd (F 6) (Int32.toNatClampNeg (n 5)) 0)) 17 (upd (F 17) (Int32.toNatClampNeg (n 5)) 0)) g := by
    intro g hgf
    refine ⟨by rw [s6_, ecf, updE, if_neg (by omega)], fun r hr k hk => congrFun (hxx.2.2.1 r (fun h => ?_)) _⟩
    simp only [List.mem_cons, List.not_mem_nil, or_false] at h hr; omega
  have hJ : RDJ F (va_up n 24 0) (va_up (va_up F 6 (upd (F 6) (Int32.toNatClampNeg (n 5)) 0)) 17 (upd (F 17) (Int32.toNatClampNeg (n 5)) 0)) ff 0 0 true := ⟨⟨by rw [s6_, ecf, updE, if_pos rfl]; rfl, by omega⟩, rfl, ⟨fun k hk => by omega, fun i hi => by omega, fun _ _ => rfl⟩, (by rw [s17_, ecf, updE, if_pos rfl]; exact ⟨by show ((0 : Nat) : Int) ≤ 0; omega, by decide⟩), (fun q hq => by rw [hxx.2.2.1 13 (by decide), hxx.2.2.1 14 (by decide), hxx.2.2.1 15 (by decide), hxx.2.2.1 19 (by decide)]; exact hA q hq), hg⟩
  refine gz_sub (lv' := [(0, .ref m)]) (by simp [List.lookup]) ?_
  exact l_X12_text h5 41 0 0 _ _ _ _ _ hS_3 (fx_F (fx_F (fx_n fx_rf (by decide)) (by decide)) (by decide)) hT hJ (by omega)

set_option maxHeartbeats 4000000 in
set_option maxRecDepth 100000 in
theorem k_X12_form {l : Launch} {D : va_G} {cy : Nat → ClassId} {b : Nat} {f : gMem} {m : Nat} {a : Nat → Nat} {f0 : gMem} {n : Nat → Int32} {z : Nat → Int64} {F : Nat → Nat → Int32} {G : Nat → Nat → Int64}   (hS : mS cy m a f0 n z F G f) (hR : RI n F) (hN : NR F) : gC l D cy b yX12_form cX12_form 2 (some .int) 7 0 0 [.ref m] f (pI fun r f2 => ∃ (n2 : Nat → Int32) (z2 : Nat → Int64) (F2 : Nat → Nat → Int32) (G2 : Nat → Nat → Int64), mS cy m a f0 n2 z2 F2 G2 f2 ∧ fx [4, 5, 21, 22, 23, 24] [] [6, 7, 8, 9, 10, 11, 12, 13, 14, 15, 16, 17, 18, 19, 20, 25, 26] [] n z F G n2 z2 F2 G2 ∧ RI n2 F2 ∧ NR F2) := by
  obtain ⟨a0, a4, a5, bA, bW, a30, bL, a38, bP, a53, a47, a88⟩ := id hR
  refine gC_of (by decide) (Nat.le_of_ble_eq_true rfl) ?_
  show gG l _ _ _ D cy b cX12_form 2 _ RX12 "form" 0 0 f 0 [(0, .ref m)] []
  refine gz_aload_n dX12_form_0 rfl rfl ?_
  refine mg_307 hS dX12_form_1 ?_
  refine gz_bipush (v := 20) dX12_form_4 (by decide) ?_
  refine gz_icmp_ne (tgt := 11) dX12_form_6 (by decide) (fun c_6 => ?_) (fun c_6 => ?_)
  ·
    try simp only [mIn_0, lgc_lt, lgc_gt, lgc_le, lgc_ge, lgc_eq] at c_6
    try simp only [fl_lt, fl_le, fl_eq, fL_w, fL_lt, fL_le, tm1, tm10k, tm9, tm99, Int32.reduceToInt, Int64.reduceToInt, Int.not_lt, Int.not_le] at c_6
    refine gz_aload_n dX12_form_11 rfl rfl ?_
    refine gz_iconst (v := 0) dX12_form_12 (by decide) ?_
    refine mp_272 hS dX12_form_13 (fun f_1 hS_1 => ?_)
    refine gz_aload_n dX12_form_16 rfl rfl ?_
    refine gz_iconst (v := 0) dX12_form_17 (by decide) ?_
    refine mp_269 hS_1 dX12_form_18 (fun f_2 hS_2 => ?_)
    refine gz_aload_n dX12_form_21 rfl rfl ?_
    obtain ⟨ff, hff⟩ : ∃ ff : Nat, (n 5).toInt = ff := ⟨(n 5).toInt.toNat, by omega⟩
    refine scX12_334 (k_X12_text (ff := ff) hS_2 (by (try rw [(show (va_up (va_up n 21 0) 22 0) 21 = 0 from rfl)]); (try rw [(show (va_up (va_up n 21 0) 22 0) 4 = (n 4) from rfl)]); have e0 : (0 : Int32).toInt = 0 := rfl; omega) (by rw [(show (va_up (va_up n 21 0) 22 0) 5 = (n 5) from rfl)]; omega) bA) hS_2.1 ⟨(Nat.le_of_ble_eq_true rfl), (Nat.le_of_ble_eq_true rfl)⟩ ⟨(Nat.le_of_ble_eq_true rfl), (Nat.le_of_ble_eq_true rfl)⟩ rfl rfl (Nat.le_of_ble_eq_true rfl) dX12_form_22 ?_
    rintro r_3 f_3 ⟨n_3, z_3, F_3, G_3, hS_3, hx3, hb_3, hT_3, hA_3, hg_3, hyes_3⟩
    try simp only [(show (va_up (va_up n 21 0) 22 0) 21 = 0 from rfl)] at hb_3 hT_3 hA_3 hg_3 hyes_3
    try simp only [(show (va_up (va_up n 21 0) 22 0) 22 = 0 from rfl)] at hb_3 hT_3 hA_3 hg_3 hyes_3
    try simp only [(show (va_up (va_up n 21 0) 22 0) 23 = (n 23) from rfl)] at hb_3 hT_3 hA_3 hg_3 hyes_3
    try simp only [(show (va_up (va_up n 21 0) 22 0) 24 = (n 24) from rfl)] at hb_3 hT_3 hA_3 hg_3 hyes_3
    refine gz_istore_n (lv' := [(1, .int r_3), (0, .ref m)]) dX12_form_25 rfl (by decide) rfl ?_
    refine gz_aload_n dX12_form_26 rfl rfl ?_
    refine gz_iconst (v := 0) dX12_form_27 (by decide) ?_
    refine mp_262 hS_3 dX12_form_28 (fun f_4 hS_4 => ?_)
    refine gz_iload_n dX12_form_31 rfl rfl ?_
    refine gz_if_ne (tgt := 43) dX12_form_32 (by decide) (fun c_32 => ?_) (fun c_32 => ?_)
    ·
      try simp only [mIn_0, lgc_lt, lgc_gt, lgc_le, lgc_ge, lgc_eq] at c_32
      try simp only [fl_lt, fl_le, fl_eq, fL_w, fL_lt, fL_le, tm1, tm10k, tm9, tm99, Int32.reduceToInt, Int64.reduceToInt, Int.not_lt, Int.not_le] at c_32
      refine gz_aload_n dX12_form_43 rfl rfl ?_
      refine gz_dup dX12_form_44 rfl ?_
      refine mg_307 hS_4 dX12_form_45 ?_
      refine gz_ev (w := .int (n 5)) (congrArg Value.int (hx3.1 5 (by decide))) ?_
      refine gz_iconst (v := 1) dX12_form_48 (by decide) ?_
      refine gz_iadd dX12_form_49 ?_
      refine mp_307 hS_4 dX12_form_50 (fun f_5 hS_5 => ?_)
      refine gz_aload_n dX12_form_53 rfl rfl ?_
      refine mg_307 hS_5 dX12_form_54 ?_
      refine gz_ev (w := .int ((n 5) + 1)) rfl ?_
      refine gz_iconst (v := 1) dX12_form_57 (by decide) ?_
      refine gz_isub dX12_form_58 ?_
      have hxx : fx [4, 5, 21, 22, 23, 24] [] [6, 7, 8, 9, 10, 11, 12, 13, 14, 15, 16, 17, 18, 19, 20, 25, 26] [] n z F G (va_up (va_up n_3 4 0) 5 ((n 5) + 1)) z_3 F_3 G_3 := (fx_n (fx_n (fx_tr (fx_n (fx_n fx_rf (by decide)) (by decide)) hx3 (by decide)) (by decide)) (by decide))
      have hN9 := NR_fx hN hxx (by decide)
      have v5 : ((va_up (va_up n_3 4 0) 5 ((n 5) + 1)) 5).toInt = (ff : Int) + 1 := by rw [(show (va_up (va_up n_3 4 0) 5 ((n 5) + 1)) 5 = ((n 5) + 1) from rfl)]; have q := T_add hff (show (1 : Int32).toInt = 1 from rfl) (by omega); exact q
      have hfin : fOK F_3 ff := hyes_3 (by rcases hb_3 with z | z; (exfalso; have z0 : r_3.toInt = 0 := (by rw [z]; rfl); omega); (exact z))
      have hR8 : RI (va_up (va_up (va_up n_3 4 0) 5 ((n 5) + 1)) 4 (n 4)) F_3 := RI_lay (c := ff) hR hff (by omega) hg_3 hA_3 hfin v5 (fun k hk => by by_cases e : k = 4; (rw [e]; rfl); (rw [va_up_ne _ _ e]; exact hxx.1 k (fun h => by simp only [List.mem_cons, List.not_mem_nil, or_false] at h hk; omega))) (fun k hk => hxx.2.2.1 k (by revert k; decide))
      have hR9 : RI (va_up (va_up n_3 4 0) 5 ((n 5) + 1)) F_3 := RI_n4 hR8 (by show 0 ≤ (0 : Int32).toInt ∧ (0 : Int32).toInt ≤ 400; decide) (fun k hk => (va_up_ne _ _ (fun e => by simp only [List.mem_cons, List.not_mem_nil, or_false] at hk; omega)).symm)
      exact gz_iret rfl dX12_form_59 (Nat.le_of_ble_eq_true rfl) (Nat.le_of_ble_eq_true rfl) (⟨_, rfl, _, _, _, _, hS_5, hxx, hR9, hN9⟩)
    ·
      try simp only [mIn_0, lgc_lt, lgc_gt, lgc_le, lgc_ge, lgc_eq] at c_32
      try simp only [fl_lt, fl_le, fl_eq, fL_w, fL_lt, fL_le, tm1, tm10k, tm9, tm99, Int32.reduceToInt, Int64.reduceToInt, Int.not_lt, Int.not_le] at c_32
      refine gz_bipush (v := (-2)) dX12_form_35 (by decide) ?_
      refine gz_aload_n dX12_form_37 rfl rfl ?_
      refine mg_269 hS_4 dX12_form_38 ?_
      refine gz_ev (w := .int (n_3 22)) rfl ?_
      refine gz_isub dX12_form_41 ?_
      have hxx : fx [4, 5, 21, 22, 23, 24] [] [6, 7, 8, 9, 10, 11, 12, 13, 14, 15, 16, 17, 18, 19, 20, 25, 26] [] n z F G (va_up n_3 4 0) z_3 F_3 G_3 := (fx_n (fx_tr (fx_n (fx_n fx_rf (by decide)) (by decide)) hx3 (by decide)) (by decide))
      have hN9 := NR_fx hN hxx (by decide)
      have e5 : (va_up n_3 4 0) 5 = n 5 := (hx3.1 5 (by decide))
      have hR9 : RI (va_up n_3 4 0) F_3 := RI_old (c := ff) hR hff hg_3 hA_3 (by show 0 ≤ (0 : Int32).toInt ∧ (0 : Int32).toInt ≤ 400; decide) (fun k hk => by by_cases e : k = 5; (rw [e]; exact e5); (exact hxx.1 k (fun h => by simp only [List.mem_cons, List.not_mem_nil, or_false] at h hk; omega))) (fun k hk => hxx.2.2.1 k (by revert k; decide))
      exact gz_iret rfl dX12_form_42 (Nat.le_of_ble_eq_true rfl) (Nat.le_of_ble_eq_true rfl) (⟨_, rfl, _, _, _, _, hS_4, hxx, hR9, hN9⟩)
  ·
    try simp only [mIn_0, lgc_lt, lgc_gt, lgc_le, lgc_ge, lgc_eq] at c_6
    try simp only [fl_lt, fl_le, fl_eq, fL_w, fL_lt, fL_le, tm1, tm10k, tm9, tm99, Int32.reduceToInt, Int64.reduceToInt, Int.not_lt, Int.not_le] at c_6
    refine gz_iconst (v := (-1)) dX12_form_9 (by decide) ?_
    exact gz_iret rfl dX12_form_10 (Nat.le_of_ble_eq_true rfl) (Nat.le_of_ble_eq_true rfl) (⟨_, rfl, _, _, _, _, hS, fx_rf, hR, hN⟩)
